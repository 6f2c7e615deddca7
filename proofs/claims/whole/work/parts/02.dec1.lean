theorem dX0_init_0 : decode cX0_init 0 = .ok (.aload_n 0, 1) := by decide +kernel
theorem dX0_init_1 : decode cX0_init 1 = .ok (.invokespecial 3, 3) := by decide +kernel
theorem dX0_init_4 : decode cX0_init 4 = .ok (.aload_n 0, 1) := by decide +kernel
theorem dX0_init_5 : decode cX0_init 5 = .ok (.bipush 40, 2) := by decide +kernel
theorem dX0_init_7 : decode cX0_init 7 = .ok (.newarray .int, 2) := by decide +kernel
theorem dX0_init_9 : decode cX0_init 9 = .ok (.putfield 9, 3) := by decide +kernel
theorem dX0_init_12 : decode cX0_init 12 = .ok (.aload_n 0, 1) := by decide +kernel
theorem dX0_init_13 : decode cX0_init 13 = .ok (.bipush 40, 2) := by decide +kernel
theorem dX0_init_15 : decode cX0_init 15 = .ok (.newarray .int, 2) := by decide +kernel
theorem dX0_init_17 : decode cX0_init 17 = .ok (.putfield 15, 3) := by decide +kernel
theorem dX0_init_20 : decode cX0_init 20 = .ok (.aload_n 0, 1) := by decide +kernel
theorem dX0_init_21 : decode cX0_init 21 = .ok (.bipush 40, 2) := by decide +kernel
theorem dX0_init_23 : decode cX0_init 23 = .ok (.newarray .int, 2) := by decide +kernel
theorem dX0_init_25 : decode cX0_init 25 = .ok (.putfield 18, 3) := by decide +kernel
theorem dX0_init_28 : decode cX0_init 28 = .ok (.aload_n 0, 1) := by decide +kernel
theorem dX0_init_29 : decode cX0_init 29 = .ok (.iconst 0, 1) := by decide +kernel
theorem dX0_init_30 : decode cX0_init 30 = .ok (.putfield 21, 3) := by decide +kernel
theorem dX0_init_33 : decode cX0_init 33 = .ok (.aload_n 0, 1) := by decide +kernel
theorem dX0_init_34 : decode cX0_init 34 = .ok (.iconst 0, 1) := by decide +kernel
theorem dX0_init_35 : decode cX0_init 35 = .ok (.putfield 25, 3) := by decide +kernel
theorem dX0_init_38 : decode cX0_init 38 = .ok (.aload_n 0, 1) := by decide +kernel
theorem dX0_init_39 : decode cX0_init 39 = .ok (.iconst 0, 1) := by decide +kernel
theorem dX0_init_40 : decode cX0_init 40 = .ok (.putfield 29, 3) := by decide +kernel
theorem dX0_init_43 : decode cX0_init 43 = .ok (.aload_n 0, 1) := by decide +kernel
theorem dX0_init_44 : decode cX0_init 44 = .ok (.iconst 0, 1) := by decide +kernel
theorem dX0_init_45 : decode cX0_init 45 = .ok (.putfield 32, 3) := by decide +kernel
theorem dX0_init_48 : decode cX0_init 48 = .ok (.aload_n 0, 1) := by decide +kernel
theorem dX0_init_49 : decode cX0_init 49 = .ok (.iconst 0, 1) := by decide +kernel
theorem dX0_init_50 : decode cX0_init 50 = .ok (.putfield 35, 3) := by decide +kernel
theorem dX0_init_53 : decode cX0_init 53 = .ok (.aload_n 0, 1) := by decide +kernel
theorem dX0_init_54 : decode cX0_init 54 = .ok (.iconst 0, 1) := by decide +kernel
theorem dX0_init_55 : decode cX0_init 55 = .ok (.putfield 38, 3) := by decide +kernel
theorem dX0_init_58 : decode cX0_init 58 = .ok (.return_, 1) := by decide +kernel
theorem dX0_readLines_0 : decode cX0_readLines 0 = .ok (.aload_n 1, 1) := by decide +kernel
theorem dX0_readLines_1 : decode cX0_readLines 1 = .ok (.sipush 400, 3) := by decide +kernel
theorem dX0_readLines_4 : decode cX0_readLines 4 = .ok (.invokevirtual 41, 3) := by decide +kernel
theorem dX0_readLines_7 : decode cX0_readLines 7 = .ok (.aload_n 0, 1) := by decide +kernel
theorem dX0_readLines_8 : decode cX0_readLines 8 = .ok (.iconst 0, 1) := by decide +kernel
theorem dX0_readLines_9 : decode cX0_readLines 9 = .ok (.putfield 21, 3) := by decide +kernel
theorem dX0_readLines_12 : decode cX0_readLines 12 = .ok (.aload_n 1, 1) := by decide +kernel
theorem dX0_readLines_13 : decode cX0_readLines 13 = .ok (.invokevirtual 47, 3) := by decide +kernel
theorem dX0_readLines_16 : decode cX0_readLines 16 = .ok (.aload_n 1, 1) := by decide +kernel
theorem dX0_readLines_17 : decode cX0_readLines 17 = .ok (.getfield 50, 3) := by decide +kernel
theorem dX0_readLines_20 : decode cX0_readLines 20 = .ok (.ifCond .eq 49, 3) := by decide +kernel
theorem dX0_readLines_23 : decode cX0_readLines 23 = .ok (.aload_n 0, 1) := by decide +kernel
theorem dX0_readLines_24 : decode cX0_readLines 24 = .ok (.getfield 21, 3) := by decide +kernel
theorem dX0_readLines_27 : decode cX0_readLines 27 = .ok (.bipush 40, 2) := by decide +kernel
theorem dX0_readLines_29 : decode cX0_readLines 29 = .ok (.if_icmp .gt 40, 3) := by decide +kernel
theorem dX0_readLines_32 : decode cX0_readLines 32 = .ok (.aload_n 0, 1) := by decide +kernel
theorem dX0_readLines_33 : decode cX0_readLines 33 = .ok (.aload_n 1, 1) := by decide +kernel
theorem dX0_readLines_34 : decode cX0_readLines 34 = .ok (.aload_n 2, 1) := by decide +kernel
theorem dX0_readLines_35 : decode cX0_readLines 35 = .ok (.invokevirtual 53, 3) := by decide +kernel
theorem dX0_readLines_38 : decode cX0_readLines 38 = .ok (.ifCond .eq 12, 3) := by decide +kernel
theorem dX0_readLines_41 : decode cX0_readLines 41 = .ok (.aload_n 1, 1) := by decide +kernel
theorem dX0_readLines_42 : decode cX0_readLines 42 = .ok (.bipush 59, 2) := by decide +kernel
theorem dX0_readLines_44 : decode cX0_readLines 44 = .ok (.invokevirtual 57, 3) := by decide +kernel
theorem dX0_readLines_47 : decode cX0_readLines 47 = .ok (.ifCond .ne 5, 3) := by decide +kernel
theorem dX0_readLines_50 : decode cX0_readLines 50 = .ok (.iconst 0, 1) := by decide +kernel
theorem dX0_readLines_51 : decode cX0_readLines 51 = .ok (.ireturn, 1) := by decide +kernel
theorem dX0_readLines_52 : decode cX0_readLines 52 = .ok (.aload_n 0, 1) := by decide +kernel
theorem dX0_readLines_53 : decode cX0_readLines 53 = .ok (.dup, 1) := by decide +kernel
theorem dX0_readLines_54 : decode cX0_readLines 54 = .ok (.getfield 21, 3) := by decide +kernel
theorem dX0_readLines_57 : decode cX0_readLines 57 = .ok (.iconst 1, 1) := by decide +kernel
theorem dX0_readLines_58 : decode cX0_readLines 58 = .ok (.iadd, 1) := by decide +kernel
theorem dX0_readLines_59 : decode cX0_readLines 59 = .ok (.putfield 21, 3) := by decide +kernel
theorem dX0_readLines_62 : decode cX0_readLines 62 = .ok (.aload_n 1, 1) := by decide +kernel
theorem dX0_readLines_63 : decode cX0_readLines 63 = .ok (.invokevirtual 47, 3) := by decide +kernel
theorem dX0_readLines_66 : decode cX0_readLines 66 = .ok (.goto (-50), 3) := by decide +kernel
theorem dX0_readLines_69 : decode cX0_readLines 69 = .ok (.iconst 1, 1) := by decide +kernel
theorem dX0_readLines_70 : decode cX0_readLines 70 = .ok (.ireturn, 1) := by decide +kernel
theorem dX0_readLine_0 : decode cX0_readLine 0 = .ok (.aload_n 1, 1) := by decide +kernel
theorem dX0_readLine_1 : decode cX0_readLine 1 = .ok (.getfield 61, 3) := by decide +kernel
theorem dX0_readLine_4 : decode cX0_readLine 4 = .ok (.istore_n 3, 1) := by decide +kernel
theorem dX0_readLine_5 : decode cX0_readLine 5 = .ok (.iload_n 3, 1) := by decide +kernel
theorem dX0_readLine_6 : decode cX0_readLine 6 = .ok (.invokestatic 64, 3) := by decide +kernel
theorem dX0_readLine_9 : decode cX0_readLine 9 = .ok (.ifCond .ne 9, 3) := by decide +kernel
theorem dX0_readLine_12 : decode cX0_readLine 12 = .ok (.aload_n 1, 1) := by decide +kernel
theorem dX0_readLine_13 : decode cX0_readLine 13 = .ok (.iconst 1, 1) := by decide +kernel
theorem dX0_readLine_14 : decode cX0_readLine 14 = .ok (.invokevirtual 68, 3) := by decide +kernel
theorem dX0_readLine_17 : decode cX0_readLine 17 = .ok (.ireturn, 1) := by decide +kernel
theorem dX0_readLine_18 : decode cX0_readLine 18 = .ok (.aload_n 0, 1) := by decide +kernel
theorem dX0_readLine_19 : decode cX0_readLine 19 = .ok (.getfield 21, 3) := by decide +kernel
theorem dX0_readLine_22 : decode cX0_readLine 22 = .ok (.bipush 40, 2) := by decide +kernel
theorem dX0_readLine_24 : decode cX0_readLine 24 = .ok (.if_icmp .lt 9, 3) := by decide +kernel
theorem dX0_readLine_27 : decode cX0_readLine 27 = .ok (.aload_n 1, 1) := by decide +kernel
theorem dX0_readLine_28 : decode cX0_readLine 28 = .ok (.iconst 4, 1) := by decide +kernel
theorem dX0_readLine_29 : decode cX0_readLine 29 = .ok (.invokevirtual 68, 3) := by decide +kernel
theorem dX0_readLine_32 : decode cX0_readLine 32 = .ok (.ireturn, 1) := by decide +kernel
theorem dX0_readLine_33 : decode cX0_readLine 33 = .ok (.iload_n 3, 1) := by decide +kernel
theorem dX0_readLine_34 : decode cX0_readLine 34 = .ok (.bipush 20, 2) := by decide +kernel
theorem dX0_readLine_36 : decode cX0_readLine 36 = .ok (.if_icmp .ne 13, 3) := by decide +kernel
theorem dX0_readLine_39 : decode cX0_readLine 39 = .ok (.aload_n 1, 1) := by decide +kernel
theorem dX0_readLine_40 : decode cX0_readLine 40 = .ok (.iconst 1, 1) := by decide +kernel
theorem dX0_readLine_41 : decode cX0_readLine 41 = .ok (.bipush 60, 2) := by decide +kernel
theorem dX0_readLine_43 : decode cX0_readLine 43 = .ok (.invokevirtual 71, 3) := by decide +kernel
theorem dX0_readLine_46 : decode cX0_readLine 46 = .ok (.goto 12, 3) := by decide +kernel
theorem dX0_readLine_49 : decode cX0_readLine 49 = .ok (.aload_n 1, 1) := by decide +kernel
theorem dX0_readLine_50 : decode cX0_readLine 50 = .ok (.aload_n 2, 1) := by decide +kernel
theorem dX0_readLine_51 : decode cX0_readLine 51 = .ok (.iload_n 3, 1) := by decide +kernel
theorem dX0_readLine_52 : decode cX0_readLine 52 = .ok (.invokestatic 75, 3) := by decide +kernel
theorem dX0_readLine_55 : decode cX0_readLine 55 = .ok (.invokevirtual 79, 3) := by decide +kernel
theorem dX0_readLine_58 : decode cX0_readLine 58 = .ok (.istore 4, 2) := by decide +kernel
theorem dX0_readLine_60 : decode cX0_readLine 60 = .ok (.iload 4, 2) := by decide +kernel
theorem dX0_readLine_62 : decode cX0_readLine 62 = .ok (.iconst (-1), 1) := by decide +kernel
theorem dX0_readLine_63 : decode cX0_readLine 63 = .ok (.if_icmp .ne 5, 3) := by decide +kernel
theorem dX0_readLine_66 : decode cX0_readLine 66 = .ok (.iconst 0, 1) := by decide +kernel
theorem dX0_readLine_67 : decode cX0_readLine 67 = .ok (.ireturn, 1) := by decide +kernel
theorem dX0_readLine_68 : decode cX0_readLine 68 = .ok (.iload_n 3, 1) := by decide +kernel
theorem dX0_readLine_69 : decode cX0_readLine 69 = .ok (.bipush 16, 2) := by decide +kernel
theorem dX0_readLine_71 : decode cX0_readLine 71 = .ok (.if_icmp .ne 12, 3) := by decide +kernel
theorem dX0_readLine_74 : decode cX0_readLine 74 = .ok (.aload_n 1, 1) := by decide +kernel
theorem dX0_readLine_75 : decode cX0_readLine 75 = .ok (.bipush 17, 2) := by decide +kernel
theorem dX0_readLine_77 : decode cX0_readLine 77 = .ok (.invokevirtual 83, 3) := by decide +kernel
theorem dX0_readLine_80 : decode cX0_readLine 80 = .ok (.goto 4, 3) := by decide +kernel
theorem dX0_readLine_83 : decode cX0_readLine 83 = .ok (.iconst 0, 1) := by decide +kernel
theorem dX0_readLine_84 : decode cX0_readLine 84 = .ok (.istore 5, 2) := by decide +kernel
theorem dX0_readLine_86 : decode cX0_readLine 86 = .ok (.iload 5, 2) := by decide +kernel
theorem dX0_readLine_88 : decode cX0_readLine 88 = .ok (.iconst (-1), 1) := by decide +kernel
theorem dX0_readLine_89 : decode cX0_readLine 89 = .ok (.if_icmp .ne 5, 3) := by decide +kernel
theorem dX0_readLine_92 : decode cX0_readLine 92 = .ok (.iconst 0, 1) := by decide +kernel
theorem dX0_readLine_93 : decode cX0_readLine 93 = .ok (.ireturn, 1) := by decide +kernel
theorem dX0_readLine_94 : decode cX0_readLine 94 = .ok (.aload_n 0, 1) := by decide +kernel
theorem dX0_readLine_95 : decode cX0_readLine 95 = .ok (.getfield 9, 3) := by decide +kernel
theorem dX0_readLine_98 : decode cX0_readLine 98 = .ok (.aload_n 0, 1) := by decide +kernel
theorem dX0_readLine_99 : decode cX0_readLine 99 = .ok (.getfield 21, 3) := by decide +kernel
theorem dX0_readLine_102 : decode cX0_readLine 102 = .ok (.iload_n 3, 1) := by decide +kernel
theorem dX0_readLine_103 : decode cX0_readLine 103 = .ok (.iastore, 1) := by decide +kernel
theorem dX0_readLine_104 : decode cX0_readLine 104 = .ok (.aload_n 0, 1) := by decide +kernel
theorem dX0_readLine_105 : decode cX0_readLine 105 = .ok (.getfield 15, 3) := by decide +kernel
theorem dX0_readLine_108 : decode cX0_readLine 108 = .ok (.aload_n 0, 1) := by decide +kernel
theorem dX0_readLine_109 : decode cX0_readLine 109 = .ok (.getfield 21, 3) := by decide +kernel
theorem dX0_readLine_112 : decode cX0_readLine 112 = .ok (.iload 4, 2) := by decide +kernel
theorem dX0_readLine_114 : decode cX0_readLine 114 = .ok (.iastore, 1) := by decide +kernel
theorem dX0_readLine_115 : decode cX0_readLine 115 = .ok (.aload_n 0, 1) := by decide +kernel
theorem dX0_readLine_116 : decode cX0_readLine 116 = .ok (.getfield 18, 3) := by decide +kernel
theorem dX0_readLine_119 : decode cX0_readLine 119 = .ok (.aload_n 0, 1) := by decide +kernel
theorem dX0_readLine_120 : decode cX0_readLine 120 = .ok (.getfield 21, 3) := by decide +kernel
theorem dX0_readLine_123 : decode cX0_readLine 123 = .ok (.iload 5, 2) := by decide +kernel
theorem dX0_readLine_125 : decode cX0_readLine 125 = .ok (.iastore, 1) := by decide +kernel
theorem dX0_readLine_126 : decode cX0_readLine 126 = .ok (.aload_n 1, 1) := by decide +kernel
theorem dX0_readLine_127 : decode cX0_readLine 127 = .ok (.invokevirtual 47, 3) := by decide +kernel
theorem dX0_readLine_130 : decode cX0_readLine 130 = .ok (.iconst 1, 1) := by decide +kernel
theorem dX0_readLine_131 : decode cX0_readLine 131 = .ok (.ireturn, 1) := by decide +kernel
theorem dX0_isAct_0 : decode cX0_isAct 0 = .ok (.iload_n 0, 1) := by decide +kernel
theorem dX0_isAct_1 : decode cX0_isAct 1 = .ok (.bipush 13, 2) := by decide +kernel
theorem dX0_isAct_3 : decode cX0_isAct 3 = .ok (.if_icmp .eq 33, 3) := by decide +kernel
theorem dX0_isAct_6 : decode cX0_isAct 6 = .ok (.iload_n 0, 1) := by decide +kernel
theorem dX0_isAct_7 : decode cX0_isAct 7 = .ok (.bipush 14, 2) := by decide +kernel
theorem dX0_isAct_9 : decode cX0_isAct 9 = .ok (.if_icmp .eq 27, 3) := by decide +kernel
theorem dX0_isAct_12 : decode cX0_isAct 12 = .ok (.iload_n 0, 1) := by decide +kernel
theorem dX0_isAct_13 : decode cX0_isAct 13 = .ok (.bipush 15, 2) := by decide +kernel
theorem dX0_isAct_15 : decode cX0_isAct 15 = .ok (.if_icmp .eq 21, 3) := by decide +kernel
theorem dX0_isAct_18 : decode cX0_isAct 18 = .ok (.iload_n 0, 1) := by decide +kernel
theorem dX0_isAct_19 : decode cX0_isAct 19 = .ok (.bipush 16, 2) := by decide +kernel
theorem dX0_isAct_21 : decode cX0_isAct 21 = .ok (.if_icmp .eq 15, 3) := by decide +kernel
theorem dX0_isAct_24 : decode cX0_isAct 24 = .ok (.iload_n 0, 1) := by decide +kernel
theorem dX0_isAct_25 : decode cX0_isAct 25 = .ok (.bipush 19, 2) := by decide +kernel
theorem dX0_isAct_27 : decode cX0_isAct 27 = .ok (.if_icmp .eq 9, 3) := by decide +kernel
theorem dX0_isAct_30 : decode cX0_isAct 30 = .ok (.iload_n 0, 1) := by decide +kernel
theorem dX0_isAct_31 : decode cX0_isAct 31 = .ok (.bipush 20, 2) := by decide +kernel
theorem dX0_isAct_33 : decode cX0_isAct 33 = .ok (.if_icmp .ne 7, 3) := by decide +kernel
theorem dX0_isAct_36 : decode cX0_isAct 36 = .ok (.iconst 1, 1) := by decide +kernel
theorem dX0_isAct_37 : decode cX0_isAct 37 = .ok (.goto 4, 3) := by decide +kernel
theorem dX0_isAct_40 : decode cX0_isAct 40 = .ok (.iconst 0, 1) := by decide +kernel
theorem dX0_isAct_41 : decode cX0_isAct 41 = .ok (.ireturn, 1) := by decide +kernel
theorem dX0_judge_0 : decode cX0_judge 0 = .ok (.aload_n 0, 1) := by decide +kernel
theorem dX0_judge_1 : decode cX0_judge 1 = .ok (.iconst 0, 1) := by decide +kernel
theorem dX0_judge_2 : decode cX0_judge 2 = .ok (.putfield 29, 3) := by decide +kernel
theorem dX0_judge_5 : decode cX0_judge 5 = .ok (.aload_n 0, 1) := by decide +kernel
theorem dX0_judge_6 : decode cX0_judge 6 = .ok (.iconst 0, 1) := by decide +kernel
theorem dX0_judge_7 : decode cX0_judge 7 = .ok (.putfield 32, 3) := by decide +kernel
theorem dX0_judge_10 : decode cX0_judge 10 = .ok (.aload_n 0, 1) := by decide +kernel
theorem dX0_judge_11 : decode cX0_judge 11 = .ok (.getfield 29, 3) := by decide +kernel
theorem dX0_judge_14 : decode cX0_judge 14 = .ok (.ifCond .ne 47, 3) := by decide +kernel
theorem dX0_judge_17 : decode cX0_judge 17 = .ok (.aload_n 0, 1) := by decide +kernel
theorem dX0_judge_18 : decode cX0_judge 18 = .ok (.getfield 32, 3) := by decide +kernel
theorem dX0_judge_21 : decode cX0_judge 21 = .ok (.aload_n 0, 1) := by decide +kernel
theorem dX0_judge_22 : decode cX0_judge 22 = .ok (.getfield 21, 3) := by decide +kernel
theorem dX0_judge_25 : decode cX0_judge 25 = .ok (.if_icmp .ge 36, 3) := by decide +kernel
theorem dX0_judge_28 : decode cX0_judge 28 = .ok (.aload_n 0, 1) := by decide +kernel
theorem dX0_judge_29 : decode cX0_judge 29 = .ok (.aload_n 0, 1) := by decide +kernel
theorem dX0_judge_30 : decode cX0_judge 30 = .ok (.aload_n 1, 1) := by decide +kernel
theorem dX0_judge_31 : decode cX0_judge 31 = .ok (.aload_n 0, 1) := by decide +kernel
theorem dX0_judge_32 : decode cX0_judge 32 = .ok (.getfield 32, 3) := by decide +kernel
theorem dX0_judge_35 : decode cX0_judge 35 = .ok (.invokevirtual 86, 3) := by decide +kernel
theorem dX0_judge_38 : decode cX0_judge 38 = .ok (.putfield 29, 3) := by decide +kernel
theorem dX0_judge_41 : decode cX0_judge 41 = .ok (.aload_n 0, 1) := by decide +kernel
theorem dX0_judge_42 : decode cX0_judge 42 = .ok (.getfield 29, 3) := by decide +kernel
theorem dX0_judge_45 : decode cX0_judge 45 = .ok (.ifCond .ne (-35), 3) := by decide +kernel
theorem dX0_judge_48 : decode cX0_judge 48 = .ok (.aload_n 0, 1) := by decide +kernel
theorem dX0_judge_49 : decode cX0_judge 49 = .ok (.dup, 1) := by decide +kernel
theorem dX0_judge_50 : decode cX0_judge 50 = .ok (.getfield 32, 3) := by decide +kernel
theorem dX0_judge_53 : decode cX0_judge 53 = .ok (.iconst 1, 1) := by decide +kernel
theorem dX0_judge_54 : decode cX0_judge 54 = .ok (.iadd, 1) := by decide +kernel
theorem dX0_judge_55 : decode cX0_judge 55 = .ok (.putfield 32, 3) := by decide +kernel
theorem dX0_judge_58 : decode cX0_judge 58 = .ok (.goto (-48), 3) := by decide +kernel
theorem dX0_judge_61 : decode cX0_judge 61 = .ok (.aload_n 0, 1) := by decide +kernel
theorem dX0_judge_62 : decode cX0_judge 62 = .ok (.iconst 1, 1) := by decide +kernel
theorem dX0_judge_63 : decode cX0_judge 63 = .ok (.putfield 25, 3) := by decide +kernel
theorem dX0_judge_66 : decode cX0_judge 66 = .ok (.aload_n 0, 1) := by decide +kernel
theorem dX0_judge_67 : decode cX0_judge 67 = .ok (.aload_n 1, 1) := by decide +kernel
theorem dX0_judge_68 : decode cX0_judge 68 = .ok (.getfield 90, 3) := by decide +kernel
theorem dX0_judge_71 : decode cX0_judge 71 = .ok (.putfield 35, 3) := by decide +kernel
theorem dX0_judge_74 : decode cX0_judge 74 = .ok (.aload_n 0, 1) := by decide +kernel
theorem dX0_judge_75 : decode cX0_judge 75 = .ok (.aload_n 1, 1) := by decide +kernel
theorem dX0_judge_76 : decode cX0_judge 76 = .ok (.invokevirtual 95, 3) := by decide +kernel
theorem dX0_judge_79 : decode cX0_judge 79 = .ok (.putfield 38, 3) := by decide +kernel
theorem dX0_judge_82 : decode cX0_judge 82 = .ok (.aload_n 0, 1) := by decide +kernel
theorem dX0_judge_83 : decode cX0_judge 83 = .ok (.getfield 29, 3) := by decide +kernel
theorem dX0_judge_86 : decode cX0_judge 86 = .ok (.ifCond .ne 7, 3) := by decide +kernel
theorem dX0_judge_89 : decode cX0_judge 89 = .ok (.iconst (-1), 1) := by decide +kernel
theorem dX0_judge_90 : decode cX0_judge 90 = .ok (.goto 7, 3) := by decide +kernel
theorem dX0_judge_93 : decode cX0_judge 93 = .ok (.aload_n 0, 1) := by decide +kernel
theorem dX0_judge_94 : decode cX0_judge 94 = .ok (.getfield 32, 3) := by decide +kernel
theorem dX0_judge_97 : decode cX0_judge 97 = .ok (.ireturn, 1) := by decide +kernel
theorem dX0_liveLine_0 : decode cX0_liveLine 0 = .ok (.aload_n 0, 1) := by decide +kernel
theorem dX0_liveLine_1 : decode cX0_liveLine 1 = .ok (.getfield 9, 3) := by decide +kernel
theorem dX0_liveLine_4 : decode cX0_liveLine 4 = .ok (.iload_n 2, 1) := by decide +kernel
theorem dX0_liveLine_5 : decode cX0_liveLine 5 = .ok (.iaload, 1) := by decide +kernel
theorem dX0_liveLine_6 : decode cX0_liveLine 6 = .ok (.bipush 20, 2) := by decide +kernel
theorem dX0_liveLine_8 : decode cX0_liveLine 8 = .ok (.if_icmp .ne 36, 3) := by decide +kernel
theorem dX0_liveLine_11 : decode cX0_liveLine 11 = .ok (.aload_n 1, 1) := by decide +kernel
theorem dX0_liveLine_12 : decode cX0_liveLine 12 = .ok (.getfield 90, 3) := by decide +kernel
theorem dX0_liveLine_15 : decode cX0_liveLine 15 = .ok (.aload_n 0, 1) := by decide +kernel
theorem dX0_liveLine_16 : decode cX0_liveLine 16 = .ok (.getfield 15, 3) := by decide +kernel
theorem dX0_liveLine_19 : decode cX0_liveLine 19 = .ok (.iload_n 2, 1) := by decide +kernel
theorem dX0_liveLine_20 : decode cX0_liveLine 20 = .ok (.iaload, 1) := by decide +kernel
theorem dX0_liveLine_21 : decode cX0_liveLine 21 = .ok (.iadd, 1) := by decide +kernel
theorem dX0_liveLine_22 : decode cX0_liveLine 22 = .ok (.sipush 1000, 3) := by decide +kernel
theorem dX0_liveLine_25 : decode cX0_liveLine 25 = .ok (.if_icmp .le 6, 3) := by decide +kernel
theorem dX0_liveLine_28 : decode cX0_liveLine 28 = .ok (.bipush 51, 2) := by decide +kernel
theorem dX0_liveLine_30 : decode cX0_liveLine 30 = .ok (.ireturn, 1) := by decide +kernel
theorem dX0_liveLine_31 : decode cX0_liveLine 31 = .ok (.aload_n 1, 1) := by decide +kernel
theorem dX0_liveLine_32 : decode cX0_liveLine 32 = .ok (.aload_n 0, 1) := by decide +kernel
theorem dX0_liveLine_33 : decode cX0_liveLine 33 = .ok (.getfield 15, 3) := by decide +kernel
theorem dX0_liveLine_36 : decode cX0_liveLine 36 = .ok (.iload_n 2, 1) := by decide +kernel
theorem dX0_liveLine_37 : decode cX0_liveLine 37 = .ok (.iaload, 1) := by decide +kernel
theorem dX0_liveLine_38 : decode cX0_liveLine 38 = .ok (.invokevirtual 99, 3) := by decide +kernel
theorem dX0_liveLine_41 : decode cX0_liveLine 41 = .ok (.pop, 1) := by decide +kernel
theorem dX0_liveLine_42 : decode cX0_liveLine 42 = .ok (.iconst 0, 1) := by decide +kernel
theorem dX0_liveLine_43 : decode cX0_liveLine 43 = .ok (.ireturn, 1) := by decide +kernel
theorem dX0_liveLine_44 : decode cX0_liveLine 44 = .ok (.aload_n 1, 1) := by decide +kernel
theorem dX0_liveLine_45 : decode cX0_liveLine 45 = .ok (.aload_n 0, 1) := by decide +kernel
theorem dX0_liveLine_46 : decode cX0_liveLine 46 = .ok (.getfield 9, 3) := by decide +kernel
theorem dX0_liveLine_49 : decode cX0_liveLine 49 = .ok (.iload_n 2, 1) := by decide +kernel
theorem dX0_liveLine_50 : decode cX0_liveLine 50 = .ok (.iaload, 1) := by decide +kernel
theorem dX0_liveLine_51 : decode cX0_liveLine 51 = .ok (.aload_n 0, 1) := by decide +kernel
theorem dX0_liveLine_52 : decode cX0_liveLine 52 = .ok (.getfield 15, 3) := by decide +kernel
theorem dX0_liveLine_55 : decode cX0_liveLine 55 = .ok (.iload_n 2, 1) := by decide +kernel
theorem dX0_liveLine_56 : decode cX0_liveLine 56 = .ok (.iaload, 1) := by decide +kernel
theorem dX0_liveLine_57 : decode cX0_liveLine 57 = .ok (.aload_n 0, 1) := by decide +kernel
theorem dX0_liveLine_58 : decode cX0_liveLine 58 = .ok (.getfield 18, 3) := by decide +kernel
theorem dX0_liveLine_61 : decode cX0_liveLine 61 = .ok (.iload_n 2, 1) := by decide +kernel
theorem dX0_liveLine_62 : decode cX0_liveLine 62 = .ok (.iaload, 1) := by decide +kernel
theorem dX0_liveLine_63 : decode cX0_liveLine 63 = .ok (.invokevirtual 102, 3) := by decide +kernel
theorem dX0_liveLine_66 : decode cX0_liveLine 66 = .ok (.istore_n 3, 1) := by decide +kernel
theorem dX0_liveLine_67 : decode cX0_liveLine 67 = .ok (.iload_n 3, 1) := by decide +kernel
theorem dX0_liveLine_68 : decode cX0_liveLine 68 = .ok (.ifCond .ne 7, 3) := by decide +kernel
theorem dX0_liveLine_71 : decode cX0_liveLine 71 = .ok (.iconst 0, 1) := by decide +kernel
theorem dX0_liveLine_72 : decode cX0_liveLine 72 = .ok (.goto 14, 3) := by decide +kernel
theorem dX0_liveLine_75 : decode cX0_liveLine 75 = .ok (.aload_n 0, 1) := by decide +kernel
theorem dX0_liveLine_76 : decode cX0_liveLine 76 = .ok (.getfield 9, 3) := by decide +kernel
theorem dX0_liveLine_79 : decode cX0_liveLine 79 = .ok (.iload_n 2, 1) := by decide +kernel
theorem dX0_liveLine_80 : decode cX0_liveLine 80 = .ok (.iaload, 1) := by decide +kernel
theorem dX0_liveLine_81 : decode cX0_liveLine 81 = .ok (.invokestatic 106, 3) := by decide +kernel
theorem dX0_liveLine_84 : decode cX0_liveLine 84 = .ok (.iload_n 3, 1) := by decide +kernel
theorem dX0_liveLine_85 : decode cX0_liveLine 85 = .ok (.iadd, 1) := by decide +kernel
theorem dX0_liveLine_86 : decode cX0_liveLine 86 = .ok (.ireturn, 1) := by decide +kernel
theorem dX0_tensOf_0 : decode cX0_tensOf 0 = .ok (.iload_n 0, 1) := by decide +kernel
theorem dX0_tensOf_1 : decode cX0_tensOf 1 = .ok (.tableswitch 51 14 19 #[39, 42, 45, 51, 51, 48], 39) := by decide +kernel
theorem dX0_tensOf_40 : decode cX0_tensOf 40 = .ok (.bipush 10, 2) := by decide +kernel
theorem dX0_tensOf_42 : decode cX0_tensOf 42 = .ok (.ireturn, 1) := by decide +kernel
theorem dX0_tensOf_43 : decode cX0_tensOf 43 = .ok (.bipush 20, 2) := by decide +kernel
theorem dX0_tensOf_45 : decode cX0_tensOf 45 = .ok (.ireturn, 1) := by decide +kernel
theorem dX0_tensOf_46 : decode cX0_tensOf 46 = .ok (.bipush 30, 2) := by decide +kernel
theorem dX0_tensOf_48 : decode cX0_tensOf 48 = .ok (.ireturn, 1) := by decide +kernel
theorem dX0_tensOf_49 : decode cX0_tensOf 49 = .ok (.bipush 40, 2) := by decide +kernel
theorem dX0_tensOf_51 : decode cX0_tensOf 51 = .ok (.ireturn, 1) := by decide +kernel
theorem dX0_tensOf_52 : decode cX0_tensOf 52 = .ok (.iconst 0, 1) := by decide +kernel
theorem dX0_tensOf_53 : decode cX0_tensOf 53 = .ok (.ireturn, 1) := by decide +kernel
theorem dX0_tellJudgement_0 : decode cX0_tellJudgement 0 = .ok (.aload_n 0, 1) := by decide +kernel
theorem dX0_tellJudgement_1 : decode cX0_tellJudgement 1 = .ok (.getfield 25, 3) := by decide +kernel
theorem dX0_tellJudgement_4 : decode cX0_tellJudgement 4 = .ok (.ifCond .ne 5, 3) := by decide +kernel
theorem dX0_tellJudgement_7 : decode cX0_tellJudgement 7 = .ok (.iconst (-1), 1) := by decide +kernel
theorem dX0_tellJudgement_8 : decode cX0_tellJudgement 8 = .ok (.ireturn, 1) := by decide +kernel
theorem dX0_tellJudgement_9 : decode cX0_tellJudgement 9 = .ok (.iload_n 1, 1) := by decide +kernel
theorem dX0_tellJudgement_10 : decode cX0_tellJudgement 10 = .ok (.tableswitch 50 0 3 #[30, 35, 40, 45], 30) := by decide +kernel
theorem dX0_tellJudgement_40 : decode cX0_tellJudgement 40 = .ok (.aload_n 0, 1) := by decide +kernel
theorem dX0_tellJudgement_41 : decode cX0_tellJudgement 41 = .ok (.getfield 29, 3) := by decide +kernel
theorem dX0_tellJudgement_44 : decode cX0_tellJudgement 44 = .ok (.ireturn, 1) := by decide +kernel
theorem dX0_tellJudgement_45 : decode cX0_tellJudgement 45 = .ok (.aload_n 0, 1) := by decide +kernel
theorem dX0_tellJudgement_46 : decode cX0_tellJudgement 46 = .ok (.getfield 32, 3) := by decide +kernel
theorem dX0_tellJudgement_49 : decode cX0_tellJudgement 49 = .ok (.ireturn, 1) := by decide +kernel
theorem dX0_tellJudgement_50 : decode cX0_tellJudgement 50 = .ok (.aload_n 0, 1) := by decide +kernel
theorem dX0_tellJudgement_51 : decode cX0_tellJudgement 51 = .ok (.getfield 35, 3) := by decide +kernel
theorem dX0_tellJudgement_54 : decode cX0_tellJudgement 54 = .ok (.ireturn, 1) := by decide +kernel
theorem dX0_tellJudgement_55 : decode cX0_tellJudgement 55 = .ok (.aload_n 0, 1) := by decide +kernel
theorem dX0_tellJudgement_56 : decode cX0_tellJudgement 56 = .ok (.getfield 38, 3) := by decide +kernel
theorem dX0_tellJudgement_59 : decode cX0_tellJudgement 59 = .ok (.ireturn, 1) := by decide +kernel
theorem dX0_tellJudgement_60 : decode cX0_tellJudgement 60 = .ok (.iconst (-1), 1) := by decide +kernel
theorem dX0_tellJudgement_61 : decode cX0_tellJudgement 61 = .ok (.ireturn, 1) := by decide +kernel
theorem dX1_init_0 : decode cX1_init 0 = .ok (.aload_n 0, 1) := by decide +kernel
theorem dX1_init_1 : decode cX1_init 1 = .ok (.invokespecial 3, 3) := by decide +kernel
theorem dX1_init_4 : decode cX1_init 4 = .ok (.aload_n 0, 1) := by decide +kernel
theorem dX1_init_5 : decode cX1_init 5 = .ok (.bipush 16, 2) := by decide +kernel
theorem dX1_init_7 : decode cX1_init 7 = .ok (.newarray .int, 2) := by decide +kernel
theorem dX1_init_9 : decode cX1_init 9 = .ok (.putfield 9, 3) := by decide +kernel
theorem dX1_init_12 : decode cX1_init 12 = .ok (.aload_n 0, 1) := by decide +kernel
theorem dX1_init_13 : decode cX1_init 13 = .ok (.iconst 0, 1) := by decide +kernel
theorem dX1_init_14 : decode cX1_init 14 = .ok (.putfield 15, 3) := by decide +kernel
theorem dX1_init_17 : decode cX1_init 17 = .ok (.aload_n 0, 1) := by decide +kernel
theorem dX1_init_18 : decode cX1_init 18 = .ok (.bipush 10, 2) := by decide +kernel
theorem dX1_init_20 : decode cX1_init 20 = .ok (.newarray .int, 2) := by decide +kernel
theorem dX1_init_22 : decode cX1_init 22 = .ok (.putfield 19, 3) := by decide +kernel
theorem dX1_init_25 : decode cX1_init 25 = .ok (.aload_n 0, 1) := by decide +kernel
theorem dX1_init_26 : decode cX1_init 26 = .ok (.iconst 0, 1) := by decide +kernel
theorem dX1_init_27 : decode cX1_init 27 = .ok (.putfield 22, 3) := by decide +kernel
theorem dX1_init_30 : decode cX1_init 30 = .ok (.aload_n 0, 1) := by decide +kernel
theorem dX1_init_31 : decode cX1_init 31 = .ok (.bipush 12, 2) := by decide +kernel
theorem dX1_init_33 : decode cX1_init 33 = .ok (.newarray .int, 2) := by decide +kernel
theorem dX1_init_35 : decode cX1_init 35 = .ok (.putfield 25, 3) := by decide +kernel
theorem dX1_init_38 : decode cX1_init 38 = .ok (.aload_n 0, 1) := by decide +kernel
theorem dX1_init_39 : decode cX1_init 39 = .ok (.bipush 10, 2) := by decide +kernel
theorem dX1_init_41 : decode cX1_init 41 = .ok (.newarray .int, 2) := by decide +kernel
theorem dX1_init_43 : decode cX1_init 43 = .ok (.putfield 28, 3) := by decide +kernel
theorem dX1_init_46 : decode cX1_init 46 = .ok (.return_, 1) := by decide +kernel
theorem dX1_workOutPulls_0 : decode cX1_workOutPulls 0 = .ok (.aload_n 1, 1) := by decide +kernel
theorem dX1_workOutPulls_1 : decode cX1_workOutPulls 1 = .ok (.iconst 4, 1) := by decide +kernel
theorem dX1_workOutPulls_2 : decode cX1_workOutPulls 2 = .ok (.iload_n 3, 1) := by decide +kernel
theorem dX1_workOutPulls_3 : decode cX1_workOutPulls 3 = .ok (.invokevirtual 31, 3) := by decide +kernel
theorem dX1_workOutPulls_6 : decode cX1_workOutPulls 6 = .ok (.ifCond .eq 35, 3) := by decide +kernel
theorem dX1_workOutPulls_9 : decode cX1_workOutPulls 9 = .ok (.aload_n 2, 1) := by decide +kernel
theorem dX1_workOutPulls_10 : decode cX1_workOutPulls 10 = .ok (.getfield 37, 3) := by decide +kernel
theorem dX1_workOutPulls_13 : decode cX1_workOutPulls 13 = .ok (.iload_n 3, 1) := by decide +kernel
theorem dX1_workOutPulls_14 : decode cX1_workOutPulls 14 = .ok (.iaload, 1) := by decide +kernel
theorem dX1_workOutPulls_15 : decode cX1_workOutPulls 15 = .ok (.ifCond .ne 26, 3) := by decide +kernel
theorem dX1_workOutPulls_18 : decode cX1_workOutPulls 18 = .ok (.aload_n 1, 1) := by decide +kernel
theorem dX1_workOutPulls_19 : decode cX1_workOutPulls 19 = .ok (.getfield 42, 3) := by decide +kernel
theorem dX1_workOutPulls_22 : decode cX1_workOutPulls 22 = .ok (.iload_n 3, 1) := by decide +kernel
theorem dX1_workOutPulls_23 : decode cX1_workOutPulls 23 = .ok (.iaload, 1) := by decide +kernel
theorem dX1_workOutPulls_24 : decode cX1_workOutPulls 24 = .ok (.ifCond .eq 17, 3) := by decide +kernel
theorem dX1_workOutPulls_27 : decode cX1_workOutPulls 27 = .ok (.aload_n 1, 1) := by decide +kernel
theorem dX1_workOutPulls_28 : decode cX1_workOutPulls 28 = .ok (.getfield 45, 3) := by decide +kernel
theorem dX1_workOutPulls_31 : decode cX1_workOutPulls 31 = .ok (.iload_n 3, 1) := by decide +kernel
theorem dX1_workOutPulls_32 : decode cX1_workOutPulls 32 = .ok (.iaload, 1) := by decide +kernel
theorem dX1_workOutPulls_33 : decode cX1_workOutPulls 33 = .ok (.aload_n 2, 1) := by decide +kernel
theorem dX1_workOutPulls_34 : decode cX1_workOutPulls 34 = .ok (.invokevirtual 48, 3) := by decide +kernel
theorem dX1_workOutPulls_37 : decode cX1_workOutPulls 37 = .ok (.iand, 1) := by decide +kernel
theorem dX1_workOutPulls_38 : decode cX1_workOutPulls 38 = .ok (.ifCond .eq 5, 3) := by decide +kernel
theorem dX1_workOutPulls_41 : decode cX1_workOutPulls 41 = .ok (.iconst (-1), 1) := by decide +kernel
theorem dX1_workOutPulls_42 : decode cX1_workOutPulls 42 = .ok (.ireturn, 1) := by decide +kernel
theorem dX1_workOutPulls_43 : decode cX1_workOutPulls 43 = .ok (.aload_n 2, 1) := by decide +kernel
theorem dX1_workOutPulls_44 : decode cX1_workOutPulls 44 = .ok (.iload_n 3, 1) := by decide +kernel
theorem dX1_workOutPulls_45 : decode cX1_workOutPulls 45 = .ok (.invokevirtual 52, 3) := by decide +kernel
theorem dX1_workOutPulls_48 : decode cX1_workOutPulls 48 = .ok (.istore 4, 2) := by decide +kernel
theorem dX1_workOutPulls_50 : decode cX1_workOutPulls 50 = .ok (.aload_n 2, 1) := by decide +kernel
theorem dX1_workOutPulls_51 : decode cX1_workOutPulls 51 = .ok (.iload_n 3, 1) := by decide +kernel
theorem dX1_workOutPulls_52 : decode cX1_workOutPulls 52 = .ok (.invokevirtual 56, 3) := by decide +kernel
theorem dX1_workOutPulls_55 : decode cX1_workOutPulls 55 = .ok (.istore 5, 2) := by decide +kernel
theorem dX1_workOutPulls_57 : decode cX1_workOutPulls 57 = .ok (.iconst 0, 1) := by decide +kernel
theorem dX1_workOutPulls_58 : decode cX1_workOutPulls 58 = .ok (.istore 6, 2) := by decide +kernel
theorem dX1_workOutPulls_60 : decode cX1_workOutPulls 60 = .ok (.iconst 0, 1) := by decide +kernel
theorem dX1_workOutPulls_61 : decode cX1_workOutPulls 61 = .ok (.istore 7, 2) := by decide +kernel
theorem dX1_workOutPulls_63 : decode cX1_workOutPulls 63 = .ok (.iload 7, 2) := by decide +kernel
theorem dX1_workOutPulls_65 : decode cX1_workOutPulls 65 = .ok (.aload_n 1, 1) := by decide +kernel
theorem dX1_workOutPulls_66 : decode cX1_workOutPulls 66 = .ok (.getfield 59, 3) := by decide +kernel
theorem dX1_workOutPulls_69 : decode cX1_workOutPulls 69 = .ok (.iconst 1, 1) := by decide +kernel
theorem dX1_workOutPulls_70 : decode cX1_workOutPulls 70 = .ok (.iaload, 1) := by decide +kernel
theorem dX1_workOutPulls_71 : decode cX1_workOutPulls 71 = .ok (.if_icmp .ge 59, 3) := by decide +kernel
theorem dX1_workOutPulls_74 : decode cX1_workOutPulls 74 = .ok (.iload 4, 2) := by decide +kernel
theorem dX1_workOutPulls_76 : decode cX1_workOutPulls 76 = .ok (.iload 7, 2) := by decide +kernel
theorem dX1_workOutPulls_78 : decode cX1_workOutPulls 78 = .ok (.ishr, 1) := by decide +kernel
theorem dX1_workOutPulls_79 : decode cX1_workOutPulls 79 = .ok (.iconst 1, 1) := by decide +kernel
theorem dX1_workOutPulls_80 : decode cX1_workOutPulls 80 = .ok (.iand, 1) := by decide +kernel
theorem dX1_workOutPulls_81 : decode cX1_workOutPulls 81 = .ok (.iconst 1, 1) := by decide +kernel
theorem dX1_workOutPulls_82 : decode cX1_workOutPulls 82 = .ok (.if_icmp .ne 42, 3) := by decide +kernel
theorem dX1_workOutPulls_85 : decode cX1_workOutPulls 85 = .ok (.iload 5, 2) := by decide +kernel
theorem dX1_workOutPulls_87 : decode cX1_workOutPulls 87 = .ok (.aload_n 1, 1) := by decide +kernel
theorem dX1_workOutPulls_88 : decode cX1_workOutPulls 88 = .ok (.iload 7, 2) := by decide +kernel
theorem dX1_workOutPulls_90 : decode cX1_workOutPulls 90 = .ok (.iconst 0, 1) := by decide +kernel
theorem dX1_workOutPulls_91 : decode cX1_workOutPulls 91 = .ok (.invokevirtual 62, 3) := by decide +kernel
theorem dX1_workOutPulls_94 : decode cX1_workOutPulls 94 = .ok (.aload_n 1, 1) := by decide +kernel
theorem dX1_workOutPulls_95 : decode cX1_workOutPulls 95 = .ok (.iload 7, 2) := by decide +kernel
theorem dX1_workOutPulls_97 : decode cX1_workOutPulls 97 = .ok (.iconst 1, 1) := by decide +kernel
theorem dX1_workOutPulls_98 : decode cX1_workOutPulls 98 = .ok (.invokevirtual 62, 3) := by decide +kernel
theorem dX1_workOutPulls_101 : decode cX1_workOutPulls 101 = .ok (.ior, 1) := by decide +kernel
theorem dX1_workOutPulls_102 : decode cX1_workOutPulls 102 = .ok (.ior, 1) := by decide +kernel
theorem dX1_workOutPulls_103 : decode cX1_workOutPulls 103 = .ok (.istore 5, 2) := by decide +kernel
theorem dX1_workOutPulls_105 : decode cX1_workOutPulls 105 = .ok (.iload 6, 2) := by decide +kernel
theorem dX1_workOutPulls_107 : decode cX1_workOutPulls 107 = .ok (.aload_n 2, 1) := by decide +kernel
theorem dX1_workOutPulls_108 : decode cX1_workOutPulls 108 = .ok (.invokevirtual 48, 3) := by decide +kernel
theorem dX1_workOutPulls_111 : decode cX1_workOutPulls 111 = .ok (.aload_n 1, 1) := by decide +kernel
theorem dX1_workOutPulls_112 : decode cX1_workOutPulls 112 = .ok (.getfield 66, 3) := by decide +kernel
theorem dX1_workOutPulls_115 : decode cX1_workOutPulls 115 = .ok (.iload 7, 2) := by decide +kernel
theorem dX1_workOutPulls_117 : decode cX1_workOutPulls 117 = .ok (.iaload, 1) := by decide +kernel
theorem dX1_workOutPulls_118 : decode cX1_workOutPulls 118 = .ok (.ishr, 1) := by decide +kernel
theorem dX1_workOutPulls_119 : decode cX1_workOutPulls 119 = .ok (.iconst 1, 1) := by decide +kernel
theorem dX1_workOutPulls_120 : decode cX1_workOutPulls 120 = .ok (.iand, 1) := by decide +kernel
theorem dX1_workOutPulls_121 : decode cX1_workOutPulls 121 = .ok (.ior, 1) := by decide +kernel
theorem dX1_workOutPulls_122 : decode cX1_workOutPulls 122 = .ok (.istore 6, 2) := by decide +kernel
theorem dX1_workOutPulls_124 : decode cX1_workOutPulls 124 = .ok (.iinc 7 1, 3) := by decide +kernel
theorem dX1_workOutPulls_127 : decode cX1_workOutPulls 127 = .ok (.goto (-64), 3) := by decide +kernel
theorem dX1_workOutPulls_130 : decode cX1_workOutPulls 130 = .ok (.iload 5, 2) := by decide +kernel
theorem dX1_workOutPulls_132 : decode cX1_workOutPulls 132 = .ok (.aload_n 2, 1) := by decide +kernel
theorem dX1_workOutPulls_133 : decode cX1_workOutPulls 133 = .ok (.invokevirtual 69, 3) := by decide +kernel
theorem dX1_workOutPulls_136 : decode cX1_workOutPulls 136 = .ok (.iand, 1) := by decide +kernel
theorem dX1_workOutPulls_137 : decode cX1_workOutPulls 137 = .ok (.istore 5, 2) := by decide +kernel
theorem dX1_workOutPulls_139 : decode cX1_workOutPulls 139 = .ok (.iload 6, 2) := by decide +kernel
theorem dX1_workOutPulls_141 : decode cX1_workOutPulls 141 = .ok (.ifCond .ne 15, 3) := by decide +kernel
theorem dX1_workOutPulls_144 : decode cX1_workOutPulls 144 = .ok (.iload 5, 2) := by decide +kernel
theorem dX1_workOutPulls_146 : decode cX1_workOutPulls 146 = .ok (.aload_n 2, 1) := by decide +kernel
theorem dX1_workOutPulls_147 : decode cX1_workOutPulls 147 = .ok (.invokevirtual 72, 3) := by decide +kernel
theorem dX1_workOutPulls_150 : decode cX1_workOutPulls 150 = .ok (.iconst (-1), 1) := by decide +kernel
theorem dX1_workOutPulls_151 : decode cX1_workOutPulls 151 = .ok (.ixor, 1) := by decide +kernel
theorem dX1_workOutPulls_152 : decode cX1_workOutPulls 152 = .ok (.iand, 1) := by decide +kernel
theorem dX1_workOutPulls_153 : decode cX1_workOutPulls 153 = .ok (.ifCond .eq 5, 3) := by decide +kernel
theorem dX1_workOutPulls_156 : decode cX1_workOutPulls 156 = .ok (.iconst (-1), 1) := by decide +kernel
theorem dX1_workOutPulls_157 : decode cX1_workOutPulls 157 = .ok (.ireturn, 1) := by decide +kernel
theorem dX1_workOutPulls_158 : decode cX1_workOutPulls 158 = .ok (.aload_n 0, 1) := by decide +kernel
theorem dX1_workOutPulls_159 : decode cX1_workOutPulls 159 = .ok (.iconst 0, 1) := by decide +kernel
theorem dX1_workOutPulls_160 : decode cX1_workOutPulls 160 = .ok (.putfield 15, 3) := by decide +kernel
theorem dX1_workOutPulls_163 : decode cX1_workOutPulls 163 = .ok (.aload_n 0, 1) := by decide +kernel
theorem dX1_workOutPulls_164 : decode cX1_workOutPulls 164 = .ok (.iload 5, 2) := by decide +kernel
theorem dX1_workOutPulls_166 : decode cX1_workOutPulls 166 = .ok (.aload_n 1, 1) := by decide +kernel
theorem dX1_workOutPulls_167 : decode cX1_workOutPulls 167 = .ok (.getfield 59, 3) := by decide +kernel
theorem dX1_workOutPulls_170 : decode cX1_workOutPulls 170 = .ok (.iconst 4, 1) := by decide +kernel
theorem dX1_workOutPulls_171 : decode cX1_workOutPulls 171 = .ok (.iaload, 1) := by decide +kernel
theorem dX1_workOutPulls_172 : decode cX1_workOutPulls 172 = .ok (.iconst 0, 1) := by decide +kernel
theorem dX1_workOutPulls_173 : decode cX1_workOutPulls 173 = .ok (.invokevirtual 75, 3) := by decide +kernel
theorem dX1_workOutPulls_176 : decode cX1_workOutPulls 176 = .ok (.aload_n 0, 1) := by decide +kernel
theorem dX1_workOutPulls_177 : decode cX1_workOutPulls 177 = .ok (.iload 4, 2) := by decide +kernel
theorem dX1_workOutPulls_179 : decode cX1_workOutPulls 179 = .ok (.aload_n 1, 1) := by decide +kernel
theorem dX1_workOutPulls_180 : decode cX1_workOutPulls 180 = .ok (.getfield 59, 3) := by decide +kernel
theorem dX1_workOutPulls_183 : decode cX1_workOutPulls 183 = .ok (.iconst 1, 1) := by decide +kernel
theorem dX1_workOutPulls_184 : decode cX1_workOutPulls 184 = .ok (.iaload, 1) := by decide +kernel
theorem dX1_workOutPulls_185 : decode cX1_workOutPulls 185 = .ok (.bipush 16, 2) := by decide +kernel
theorem dX1_workOutPulls_187 : decode cX1_workOutPulls 187 = .ok (.invokevirtual 75, 3) := by decide +kernel
theorem dX1_workOutPulls_190 : decode cX1_workOutPulls 190 = .ok (.aload_n 0, 1) := by decide +kernel
theorem dX1_workOutPulls_191 : decode cX1_workOutPulls 191 = .ok (.getfield 15, 3) := by decide +kernel
theorem dX1_workOutPulls_194 : decode cX1_workOutPulls 194 = .ok (.ireturn, 1) := by decide +kernel
theorem dX1_addPulls_0 : decode cX1_addPulls 0 = .ok (.iconst 0, 1) := by decide +kernel
theorem dX1_addPulls_1 : decode cX1_addPulls 1 = .ok (.istore 4, 2) := by decide +kernel
theorem dX1_addPulls_3 : decode cX1_addPulls 3 = .ok (.iload 4, 2) := by decide +kernel
theorem dX1_addPulls_5 : decode cX1_addPulls 5 = .ok (.iload_n 2, 1) := by decide +kernel
theorem dX1_addPulls_6 : decode cX1_addPulls 6 = .ok (.if_icmp .ge 54, 3) := by decide +kernel
theorem dX1_addPulls_9 : decode cX1_addPulls 9 = .ok (.iload_n 1, 1) := by decide +kernel
theorem dX1_addPulls_10 : decode cX1_addPulls 10 = .ok (.iload 4, 2) := by decide +kernel
theorem dX1_addPulls_12 : decode cX1_addPulls 12 = .ok (.ishr, 1) := by decide +kernel
theorem dX1_addPulls_13 : decode cX1_addPulls 13 = .ok (.iconst 1, 1) := by decide +kernel
theorem dX1_addPulls_14 : decode cX1_addPulls 14 = .ok (.iand, 1) := by decide +kernel
theorem dX1_addPulls_15 : decode cX1_addPulls 15 = .ok (.iconst 1, 1) := by decide +kernel
theorem dX1_addPulls_16 : decode cX1_addPulls 16 = .ok (.if_icmp .ne 38, 3) := by decide +kernel
theorem dX1_addPulls_19 : decode cX1_addPulls 19 = .ok (.aload_n 0, 1) := by decide +kernel
theorem dX1_addPulls_20 : decode cX1_addPulls 20 = .ok (.getfield 15, 3) := by decide +kernel
theorem dX1_addPulls_23 : decode cX1_addPulls 23 = .ok (.aload_n 0, 1) := by decide +kernel
theorem dX1_addPulls_24 : decode cX1_addPulls 24 = .ok (.getfield 9, 3) := by decide +kernel
theorem dX1_addPulls_27 : decode cX1_addPulls 27 = .ok (.arraylength, 1) := by decide +kernel
theorem dX1_addPulls_28 : decode cX1_addPulls 28 = .ok (.if_icmp .ge 26, 3) := by decide +kernel
theorem dX1_addPulls_31 : decode cX1_addPulls 31 = .ok (.aload_n 0, 1) := by decide +kernel
theorem dX1_addPulls_32 : decode cX1_addPulls 32 = .ok (.getfield 9, 3) := by decide +kernel
theorem dX1_addPulls_35 : decode cX1_addPulls 35 = .ok (.aload_n 0, 1) := by decide +kernel
theorem dX1_addPulls_36 : decode cX1_addPulls 36 = .ok (.getfield 15, 3) := by decide +kernel
theorem dX1_addPulls_39 : decode cX1_addPulls 39 = .ok (.iload_n 3, 1) := by decide +kernel
theorem dX1_addPulls_40 : decode cX1_addPulls 40 = .ok (.iload 4, 2) := by decide +kernel
theorem dX1_addPulls_42 : decode cX1_addPulls 42 = .ok (.iadd, 1) := by decide +kernel
theorem dX1_addPulls_43 : decode cX1_addPulls 43 = .ok (.iastore, 1) := by decide +kernel
theorem dX1_addPulls_44 : decode cX1_addPulls 44 = .ok (.aload_n 0, 1) := by decide +kernel
theorem dX1_addPulls_45 : decode cX1_addPulls 45 = .ok (.dup, 1) := by decide +kernel
theorem dX1_addPulls_46 : decode cX1_addPulls 46 = .ok (.getfield 15, 3) := by decide +kernel
theorem dX1_addPulls_49 : decode cX1_addPulls 49 = .ok (.iconst 1, 1) := by decide +kernel
theorem dX1_addPulls_50 : decode cX1_addPulls 50 = .ok (.iadd, 1) := by decide +kernel
theorem dX1_addPulls_51 : decode cX1_addPulls 51 = .ok (.putfield 15, 3) := by decide +kernel
theorem dX1_addPulls_54 : decode cX1_addPulls 54 = .ok (.iinc 4 1, 3) := by decide +kernel
theorem dX1_addPulls_57 : decode cX1_addPulls 57 = .ok (.goto (-54), 3) := by decide +kernel
theorem dX1_addPulls_60 : decode cX1_addPulls 60 = .ok (.return_, 1) := by decide +kernel
theorem dX1_pullAt_0 : decode cX1_pullAt 0 = .ok (.iload_n 1, 1) := by decide +kernel
theorem dX1_pullAt_1 : decode cX1_pullAt 1 = .ok (.ifCond .lt 20, 3) := by decide +kernel
theorem dX1_pullAt_4 : decode cX1_pullAt 4 = .ok (.iload_n 1, 1) := by decide +kernel
theorem dX1_pullAt_5 : decode cX1_pullAt 5 = .ok (.aload_n 0, 1) := by decide +kernel
theorem dX1_pullAt_6 : decode cX1_pullAt 6 = .ok (.getfield 15, 3) := by decide +kernel
theorem dX1_pullAt_9 : decode cX1_pullAt 9 = .ok (.if_icmp .ge 12, 3) := by decide +kernel
theorem dX1_pullAt_12 : decode cX1_pullAt 12 = .ok (.aload_n 0, 1) := by decide +kernel
theorem dX1_pullAt_13 : decode cX1_pullAt 13 = .ok (.getfield 9, 3) := by decide +kernel
theorem dX1_pullAt_16 : decode cX1_pullAt 16 = .ok (.iload_n 1, 1) := by decide +kernel
theorem dX1_pullAt_17 : decode cX1_pullAt 17 = .ok (.iaload, 1) := by decide +kernel
theorem dX1_pullAt_18 : decode cX1_pullAt 18 = .ok (.goto 4, 3) := by decide +kernel
theorem dX1_pullAt_21 : decode cX1_pullAt 21 = .ok (.iconst (-1), 1) := by decide +kernel
theorem dX1_pullAt_22 : decode cX1_pullAt 22 = .ok (.ireturn, 1) := by decide +kernel
theorem dX1_workOutPath_0 : decode cX1_workOutPath 0 = .ok (.aload_n 1, 1) := by decide +kernel
theorem dX1_workOutPath_1 : decode cX1_workOutPath 1 = .ok (.bipush 6, 2) := by decide +kernel
theorem dX1_workOutPath_3 : decode cX1_workOutPath 3 = .ok (.iload_n 3, 1) := by decide +kernel
theorem dX1_workOutPath_4 : decode cX1_workOutPath 4 = .ok (.invokevirtual 31, 3) := by decide +kernel
theorem dX1_workOutPath_7 : decode cX1_workOutPath 7 = .ok (.ifCond .eq 23, 3) := by decide +kernel
theorem dX1_workOutPath_10 : decode cX1_workOutPath 10 = .ok (.aload_n 1, 1) := by decide +kernel
theorem dX1_workOutPath_11 : decode cX1_workOutPath 11 = .ok (.iconst 0, 1) := by decide +kernel
theorem dX1_workOutPath_12 : decode cX1_workOutPath 12 = .ok (.iload 4, 2) := by decide +kernel
theorem dX1_workOutPath_14 : decode cX1_workOutPath 14 = .ok (.invokevirtual 31, 3) := by decide +kernel
theorem dX1_workOutPath_17 : decode cX1_workOutPath 17 = .ok (.ifCond .eq 13, 3) := by decide +kernel
theorem dX1_workOutPath_20 : decode cX1_workOutPath 20 = .ok (.aload_n 2, 1) := by decide +kernel
theorem dX1_workOutPath_21 : decode cX1_workOutPath 21 = .ok (.getfield 79, 3) := by decide +kernel
theorem dX1_workOutPath_24 : decode cX1_workOutPath 24 = .ok (.iload_n 3, 1) := by decide +kernel
theorem dX1_workOutPath_25 : decode cX1_workOutPath 25 = .ok (.iaload, 1) := by decide +kernel
theorem dX1_workOutPath_26 : decode cX1_workOutPath 26 = .ok (.iconst (-1), 1) := by decide +kernel
theorem dX1_workOutPath_27 : decode cX1_workOutPath 27 = .ok (.if_icmp .ne 5, 3) := by decide +kernel
theorem dX1_workOutPath_30 : decode cX1_workOutPath 30 = .ok (.iconst (-1), 1) := by decide +kernel
theorem dX1_workOutPath_31 : decode cX1_workOutPath 31 = .ok (.ireturn, 1) := by decide +kernel
theorem dX1_workOutPath_32 : decode cX1_workOutPath 32 = .ok (.aload_n 2, 1) := by decide +kernel
theorem dX1_workOutPath_33 : decode cX1_workOutPath 33 = .ok (.getfield 79, 3) := by decide +kernel
theorem dX1_workOutPath_36 : decode cX1_workOutPath 36 = .ok (.iload_n 3, 1) := by decide +kernel
theorem dX1_workOutPath_37 : decode cX1_workOutPath 37 = .ok (.iaload, 1) := by decide +kernel
theorem dX1_workOutPath_38 : decode cX1_workOutPath 38 = .ok (.istore 5, 2) := by decide +kernel
theorem dX1_workOutPath_40 : decode cX1_workOutPath 40 = .ok (.iload 5, 2) := by decide +kernel
theorem dX1_workOutPath_42 : decode cX1_workOutPath 42 = .ok (.iload 4, 2) := by decide +kernel
theorem dX1_workOutPath_44 : decode cX1_workOutPath 44 = .ok (.if_icmp .ne 10, 3) := by decide +kernel
theorem dX1_workOutPath_47 : decode cX1_workOutPath 47 = .ok (.aload_n 0, 1) := by decide +kernel
theorem dX1_workOutPath_48 : decode cX1_workOutPath 48 = .ok (.iconst 0, 1) := by decide +kernel
theorem dX1_workOutPath_49 : decode cX1_workOutPath 49 = .ok (.putfield 22, 3) := by decide +kernel
theorem dX1_workOutPath_52 : decode cX1_workOutPath 52 = .ok (.iconst 0, 1) := by decide +kernel
theorem dX1_workOutPath_53 : decode cX1_workOutPath 53 = .ok (.ireturn, 1) := by decide +kernel
theorem dX1_workOutPath_54 : decode cX1_workOutPath 54 = .ok (.aload_n 1, 1) := by decide +kernel
theorem dX1_workOutPath_55 : decode cX1_workOutPath 55 = .ok (.getfield 82, 3) := by decide +kernel
theorem dX1_workOutPath_58 : decode cX1_workOutPath 58 = .ok (.iload_n 3, 1) := by decide +kernel
theorem dX1_workOutPath_59 : decode cX1_workOutPath 59 = .ok (.iaload, 1) := by decide +kernel
theorem dX1_workOutPath_60 : decode cX1_workOutPath 60 = .ok (.istore 6, 2) := by decide +kernel
theorem dX1_workOutPath_62 : decode cX1_workOutPath 62 = .ok (.aload_n 0, 1) := by decide +kernel
theorem dX1_workOutPath_63 : decode cX1_workOutPath 63 = .ok (.aload_n 1, 1) := by decide +kernel
theorem dX1_workOutPath_64 : decode cX1_workOutPath 64 = .ok (.iload 6, 2) := by decide +kernel
theorem dX1_workOutPath_66 : decode cX1_workOutPath 66 = .ok (.iload 4, 2) := by decide +kernel
theorem dX1_workOutPath_68 : decode cX1_workOutPath 68 = .ok (.invokevirtual 85, 3) := by decide +kernel
theorem dX1_workOutPath_71 : decode cX1_workOutPath 71 = .ok (.aload_n 0, 1) := by decide +kernel
theorem dX1_workOutPath_72 : decode cX1_workOutPath 72 = .ok (.getfield 25, 3) := by decide +kernel
theorem dX1_workOutPath_75 : decode cX1_workOutPath 75 = .ok (.iload 5, 2) := by decide +kernel
theorem dX1_workOutPath_77 : decode cX1_workOutPath 77 = .ok (.iaload, 1) := by decide +kernel
theorem dX1_workOutPath_78 : decode cX1_workOutPath 78 = .ok (.bipush 100, 2) := by decide +kernel
theorem dX1_workOutPath_80 : decode cX1_workOutPath 80 = .ok (.if_icmp .lt 5, 3) := by decide +kernel
theorem dX1_workOutPath_83 : decode cX1_workOutPath 83 = .ok (.iconst (-1), 1) := by decide +kernel
theorem dX1_workOutPath_84 : decode cX1_workOutPath 84 = .ok (.ireturn, 1) := by decide +kernel
theorem dX1_workOutPath_85 : decode cX1_workOutPath 85 = .ok (.aload_n 0, 1) := by decide +kernel
theorem dX1_workOutPath_86 : decode cX1_workOutPath 86 = .ok (.aload_n 1, 1) := by decide +kernel
theorem dX1_workOutPath_87 : decode cX1_workOutPath 87 = .ok (.iload 5, 2) := by decide +kernel
theorem dX1_workOutPath_89 : decode cX1_workOutPath 89 = .ok (.iload 6, 2) := by decide +kernel
theorem dX1_workOutPath_91 : decode cX1_workOutPath 91 = .ok (.iload 4, 2) := by decide +kernel
theorem dX1_workOutPath_93 : decode cX1_workOutPath 93 = .ok (.invokevirtual 89, 3) := by decide +kernel
theorem dX1_workOutPath_96 : decode cX1_workOutPath 96 = .ok (.aload_n 0, 1) := by decide +kernel
theorem dX1_workOutPath_97 : decode cX1_workOutPath 97 = .ok (.getfield 22, 3) := by decide +kernel
theorem dX1_workOutPath_100 : decode cX1_workOutPath 100 = .ok (.ireturn, 1) := by decide +kernel
theorem dX1_costOf_0 : decode cX1_costOf 0 = .ok (.aload_n 1, 1) := by decide +kernel
theorem dX1_costOf_1 : decode cX1_costOf 1 = .ok (.getfield 45, 3) := by decide +kernel
theorem dX1_costOf_4 : decode cX1_costOf 4 = .ok (.iload_n 2, 1) := by decide +kernel
theorem dX1_costOf_5 : decode cX1_costOf 5 = .ok (.iaload, 1) := by decide +kernel
theorem dX1_costOf_6 : decode cX1_costOf 6 = .ok (.iload_n 3, 1) := by decide +kernel
theorem dX1_costOf_7 : decode cX1_costOf 7 = .ok (.ishr, 1) := by decide +kernel
theorem dX1_costOf_8 : decode cX1_costOf 8 = .ok (.iconst 1, 1) := by decide +kernel
theorem dX1_costOf_9 : decode cX1_costOf 9 = .ok (.iand, 1) := by decide +kernel
theorem dX1_costOf_10 : decode cX1_costOf 10 = .ok (.iconst 1, 1) := by decide +kernel
theorem dX1_costOf_11 : decode cX1_costOf 11 = .ok (.if_icmp .ne 5, 3) := by decide +kernel
theorem dX1_costOf_14 : decode cX1_costOf 14 = .ok (.iconst 1, 1) := by decide +kernel
theorem dX1_costOf_15 : decode cX1_costOf 15 = .ok (.ireturn, 1) := by decide +kernel
theorem dX1_costOf_16 : decode cX1_costOf 16 = .ok (.iconst 1, 1) := by decide +kernel
theorem dX1_costOf_17 : decode cX1_costOf 17 = .ok (.aload_n 0, 1) := by decide +kernel
theorem dX1_costOf_18 : decode cX1_costOf 18 = .ok (.getfield 25, 3) := by decide +kernel
theorem dX1_costOf_21 : decode cX1_costOf 21 = .ok (.aload_n 1, 1) := by decide +kernel
theorem dX1_costOf_22 : decode cX1_costOf 22 = .ok (.iload_n 2, 1) := by decide +kernel
theorem dX1_costOf_23 : decode cX1_costOf 23 = .ok (.invokevirtual 93, 3) := by decide +kernel
theorem dX1_costOf_26 : decode cX1_costOf 26 = .ok (.iaload, 1) := by decide +kernel
theorem dX1_costOf_27 : decode cX1_costOf 27 = .ok (.iadd, 1) := by decide +kernel
theorem dX1_costOf_28 : decode cX1_costOf 28 = .ok (.ireturn, 1) := by decide +kernel
theorem dX1_measure_0 : decode cX1_measure 0 = .ok (.aload_n 0, 1) := by decide +kernel
theorem dX1_measure_1 : decode cX1_measure 1 = .ok (.getfield 25, 3) := by decide +kernel
theorem dX1_measure_4 : decode cX1_measure 4 = .ok (.bipush 100, 2) := by decide +kernel
theorem dX1_measure_6 : decode cX1_measure 6 = .ok (.invokestatic 96, 3) := by decide +kernel
theorem dX1_measure_9 : decode cX1_measure 9 = .ok (.iconst 0, 1) := by decide +kernel
theorem dX1_measure_10 : decode cX1_measure 10 = .ok (.istore 4, 2) := by decide +kernel
theorem dX1_measure_12 : decode cX1_measure 12 = .ok (.iload 4, 2) := by decide +kernel
theorem dX1_measure_14 : decode cX1_measure 14 = .ok (.aload_n 1, 1) := by decide +kernel
theorem dX1_measure_15 : decode cX1_measure 15 = .ok (.getfield 59, 3) := by decide +kernel
theorem dX1_measure_18 : decode cX1_measure 18 = .ok (.iconst 4, 1) := by decide +kernel
theorem dX1_measure_19 : decode cX1_measure 19 = .ok (.iaload, 1) := by decide +kernel
theorem dX1_measure_20 : decode cX1_measure 20 = .ok (.if_icmp .ge 93, 3) := by decide +kernel
theorem dX1_measure_23 : decode cX1_measure 23 = .ok (.iconst 0, 1) := by decide +kernel
theorem dX1_measure_24 : decode cX1_measure 24 = .ok (.istore 5, 2) := by decide +kernel
theorem dX1_measure_26 : decode cX1_measure 26 = .ok (.iload 5, 2) := by decide +kernel
theorem dX1_measure_28 : decode cX1_measure 28 = .ok (.aload_n 1, 1) := by decide +kernel
theorem dX1_measure_29 : decode cX1_measure 29 = .ok (.getfield 59, 3) := by decide +kernel
theorem dX1_measure_32 : decode cX1_measure 32 = .ok (.iconst 4, 1) := by decide +kernel
theorem dX1_measure_33 : decode cX1_measure 33 = .ok (.iaload, 1) := by decide +kernel
theorem dX1_measure_34 : decode cX1_measure 34 = .ok (.if_icmp .ge 73, 3) := by decide +kernel
theorem dX1_measure_37 : decode cX1_measure 37 = .ok (.aload_n 1, 1) := by decide +kernel
theorem dX1_measure_38 : decode cX1_measure 38 = .ok (.getfield 102, 3) := by decide +kernel
theorem dX1_measure_41 : decode cX1_measure 41 = .ok (.iload 5, 2) := by decide +kernel
theorem dX1_measure_43 : decode cX1_measure 43 = .ok (.iaload, 1) := by decide +kernel
theorem dX1_measure_44 : decode cX1_measure 44 = .ok (.istore 6, 2) := by decide +kernel
theorem dX1_measure_46 : decode cX1_measure 46 = .ok (.aload_n 1, 1) := by decide +kernel
theorem dX1_measure_47 : decode cX1_measure 47 = .ok (.getfield 105, 3) := by decide +kernel
theorem dX1_measure_50 : decode cX1_measure 50 = .ok (.iload 6, 2) := by decide +kernel
theorem dX1_measure_52 : decode cX1_measure 52 = .ok (.iaload, 1) := by decide +kernel
theorem dX1_measure_53 : decode cX1_measure 53 = .ok (.iload_n 2, 1) := by decide +kernel
theorem dX1_measure_54 : decode cX1_measure 54 = .ok (.if_icmp .ne 47, 3) := by decide +kernel
theorem dX1_measure_57 : decode cX1_measure 57 = .ok (.aload_n 1, 1) := by decide +kernel
theorem dX1_measure_58 : decode cX1_measure 58 = .ok (.getfield 42, 3) := by decide +kernel
theorem dX1_measure_61 : decode cX1_measure 61 = .ok (.iload 5, 2) := by decide +kernel
theorem dX1_measure_63 : decode cX1_measure 63 = .ok (.iaload, 1) := by decide +kernel
theorem dX1_measure_64 : decode cX1_measure 64 = .ok (.ifCond .le 37, 3) := by decide +kernel
theorem dX1_measure_67 : decode cX1_measure 67 = .ok (.aload_n 1, 1) := by decide +kernel
theorem dX1_measure_68 : decode cX1_measure 68 = .ok (.getfield 108, 3) := by decide +kernel
theorem dX1_measure_71 : decode cX1_measure 71 = .ok (.iload 6, 2) := by decide +kernel
theorem dX1_measure_73 : decode cX1_measure 73 = .ok (.iaload, 1) := by decide +kernel
theorem dX1_measure_74 : decode cX1_measure 74 = .ok (.istore 7, 2) := by decide +kernel
theorem dX1_measure_76 : decode cX1_measure 76 = .ok (.aload_n 0, 1) := by decide +kernel
theorem dX1_measure_77 : decode cX1_measure 77 = .ok (.getfield 25, 3) := by decide +kernel
theorem dX1_measure_80 : decode cX1_measure 80 = .ok (.iload 7, 2) := by decide +kernel
theorem dX1_measure_82 : decode cX1_measure 82 = .ok (.aload_n 0, 1) := by decide +kernel
theorem dX1_measure_83 : decode cX1_measure 83 = .ok (.getfield 25, 3) := by decide +kernel
theorem dX1_measure_86 : decode cX1_measure 86 = .ok (.iload 7, 2) := by decide +kernel
theorem dX1_measure_88 : decode cX1_measure 88 = .ok (.iaload, 1) := by decide +kernel
theorem dX1_measure_89 : decode cX1_measure 89 = .ok (.aload_n 0, 1) := by decide +kernel
theorem dX1_measure_90 : decode cX1_measure 90 = .ok (.aload_n 1, 1) := by decide +kernel
theorem dX1_measure_91 : decode cX1_measure 91 = .ok (.iload 5, 2) := by decide +kernel
theorem dX1_measure_93 : decode cX1_measure 93 = .ok (.iload_n 3, 1) := by decide +kernel
theorem dX1_measure_94 : decode cX1_measure 94 = .ok (.invokevirtual 111, 3) := by decide +kernel
theorem dX1_measure_97 : decode cX1_measure 97 = .ok (.invokestatic 115, 3) := by decide +kernel
theorem dX1_measure_100 : decode cX1_measure 100 = .ok (.iastore, 1) := by decide +kernel
theorem dX1_measure_101 : decode cX1_measure 101 = .ok (.iinc 5 1, 3) := by decide +kernel
theorem dX1_measure_104 : decode cX1_measure 104 = .ok (.goto (-78), 3) := by decide +kernel
theorem dX1_measure_107 : decode cX1_measure 107 = .ok (.iinc 4 1, 3) := by decide +kernel
theorem dX1_measure_110 : decode cX1_measure 110 = .ok (.goto (-98), 3) := by decide +kernel
theorem dX1_measure_113 : decode cX1_measure 113 = .ok (.return_, 1) := by decide +kernel
theorem dX1_walk_0 : decode cX1_walk 0 = .ok (.iload_n 2, 1) := by decide +kernel
theorem dX1_walk_1 : decode cX1_walk 1 = .ok (.istore 5, 2) := by decide +kernel
theorem dX1_walk_3 : decode cX1_walk 3 = .ok (.aload_n 0, 1) := by decide +kernel
theorem dX1_walk_4 : decode cX1_walk 4 = .ok (.iconst 0, 1) := by decide +kernel
theorem dX1_walk_5 : decode cX1_walk 5 = .ok (.putfield 22, 3) := by decide +kernel
theorem dX1_walk_8 : decode cX1_walk 8 = .ok (.aload_n 0, 1) := by decide +kernel
theorem dX1_walk_9 : decode cX1_walk 9 = .ok (.getfield 25, 3) := by decide +kernel
theorem dX1_walk_12 : decode cX1_walk 12 = .ok (.iload 5, 2) := by decide +kernel
theorem dX1_walk_14 : decode cX1_walk 14 = .ok (.iaload, 1) := by decide +kernel
theorem dX1_walk_15 : decode cX1_walk 15 = .ok (.istore 6, 2) := by decide +kernel
theorem dX1_walk_17 : decode cX1_walk 17 = .ok (.iload 6, 2) := by decide +kernel
theorem dX1_walk_19 : decode cX1_walk 19 = .ok (.ifCond .le 69, 3) := by decide +kernel
theorem dX1_walk_22 : decode cX1_walk 22 = .ok (.aload_n 0, 1) := by decide +kernel
theorem dX1_walk_23 : decode cX1_walk 23 = .ok (.getfield 22, 3) := by decide +kernel
theorem dX1_walk_26 : decode cX1_walk 26 = .ok (.aload_n 0, 1) := by decide +kernel
theorem dX1_walk_27 : decode cX1_walk 27 = .ok (.getfield 19, 3) := by decide +kernel
theorem dX1_walk_30 : decode cX1_walk 30 = .ok (.arraylength, 1) := by decide +kernel
theorem dX1_walk_31 : decode cX1_walk 31 = .ok (.if_icmp .ge 57, 3) := by decide +kernel
theorem dX1_walk_34 : decode cX1_walk 34 = .ok (.aload_n 0, 1) := by decide +kernel
theorem dX1_walk_35 : decode cX1_walk 35 = .ok (.aload_n 1, 1) := by decide +kernel
theorem dX1_walk_36 : decode cX1_walk 36 = .ok (.iload 5, 2) := by decide +kernel
theorem dX1_walk_38 : decode cX1_walk 38 = .ok (.iload_n 3, 1) := by decide +kernel
theorem dX1_walk_39 : decode cX1_walk 39 = .ok (.iload 4, 2) := by decide +kernel
theorem dX1_walk_41 : decode cX1_walk 41 = .ok (.invokevirtual 120, 3) := by decide +kernel
theorem dX1_walk_44 : decode cX1_walk 44 = .ok (.istore 7, 2) := by decide +kernel
theorem dX1_walk_46 : decode cX1_walk 46 = .ok (.iload 7, 2) := by decide +kernel
theorem dX1_walk_48 : decode cX1_walk 48 = .ok (.iconst (-1), 1) := by decide +kernel
theorem dX1_walk_49 : decode cX1_walk 49 = .ok (.if_icmp .ne 4, 3) := by decide +kernel
theorem dX1_walk_52 : decode cX1_walk 52 = .ok (.return_, 1) := by decide +kernel
theorem dX1_walk_53 : decode cX1_walk 53 = .ok (.aload_n 0, 1) := by decide +kernel
theorem dX1_walk_54 : decode cX1_walk 54 = .ok (.getfield 19, 3) := by decide +kernel
theorem dX1_walk_57 : decode cX1_walk 57 = .ok (.aload_n 0, 1) := by decide +kernel
theorem dX1_walk_58 : decode cX1_walk 58 = .ok (.getfield 22, 3) := by decide +kernel
theorem dX1_walk_61 : decode cX1_walk 61 = .ok (.iload 7, 2) := by decide +kernel
theorem dX1_walk_63 : decode cX1_walk 63 = .ok (.iastore, 1) := by decide +kernel
theorem dX1_walk_64 : decode cX1_walk 64 = .ok (.aload_n 0, 1) := by decide +kernel
theorem dX1_walk_65 : decode cX1_walk 65 = .ok (.dup, 1) := by decide +kernel
theorem dX1_walk_66 : decode cX1_walk 66 = .ok (.getfield 22, 3) := by decide +kernel
theorem dX1_walk_69 : decode cX1_walk 69 = .ok (.iconst 1, 1) := by decide +kernel
theorem dX1_walk_70 : decode cX1_walk 70 = .ok (.iadd, 1) := by decide +kernel
theorem dX1_walk_71 : decode cX1_walk 71 = .ok (.putfield 22, 3) := by decide +kernel
theorem dX1_walk_74 : decode cX1_walk 74 = .ok (.aload_n 1, 1) := by decide +kernel
theorem dX1_walk_75 : decode cX1_walk 75 = .ok (.iload 7, 2) := by decide +kernel
theorem dX1_walk_77 : decode cX1_walk 77 = .ok (.invokevirtual 93, 3) := by decide +kernel
theorem dX1_walk_80 : decode cX1_walk 80 = .ok (.istore 5, 2) := by decide +kernel
theorem dX1_walk_82 : decode cX1_walk 82 = .ok (.iinc 6 (-1), 3) := by decide +kernel
theorem dX1_walk_85 : decode cX1_walk 85 = .ok (.goto (-68), 3) := by decide +kernel
theorem dX1_walk_88 : decode cX1_walk 88 = .ok (.return_, 1) := by decide +kernel
theorem dX1_leastStep_0 : decode cX1_leastStep 0 = .ok (.aload_n 1, 1) := by decide +kernel
theorem dX1_leastStep_1 : decode cX1_leastStep 1 = .ok (.iload_n 2, 1) := by decide +kernel
theorem dX1_leastStep_2 : decode cX1_leastStep 2 = .ok (.iload_n 3, 1) := by decide +kernel
theorem dX1_leastStep_3 : decode cX1_leastStep 3 = .ok (.invokevirtual 124, 3) := by decide +kernel
theorem dX1_leastStep_6 : decode cX1_leastStep 6 = .ok (.istore 5, 2) := by decide +kernel
theorem dX1_leastStep_8 : decode cX1_leastStep 8 = .ok (.iconst 0, 1) := by decide +kernel
theorem dX1_leastStep_9 : decode cX1_leastStep 9 = .ok (.istore 6, 2) := by decide +kernel
theorem dX1_leastStep_11 : decode cX1_leastStep 11 = .ok (.iload 6, 2) := by decide +kernel
theorem dX1_leastStep_13 : decode cX1_leastStep 13 = .ok (.aload_n 1, 1) := by decide +kernel
theorem dX1_leastStep_14 : decode cX1_leastStep 14 = .ok (.getfield 59, 3) := by decide +kernel
theorem dX1_leastStep_17 : decode cX1_leastStep 17 = .ok (.iconst 4, 1) := by decide +kernel
theorem dX1_leastStep_18 : decode cX1_leastStep 18 = .ok (.iaload, 1) := by decide +kernel
theorem dX1_leastStep_19 : decode cX1_leastStep 19 = .ok (.if_icmp .ge 52, 3) := by decide +kernel
theorem dX1_leastStep_22 : decode cX1_leastStep 22 = .ok (.aload_n 1, 1) := by decide +kernel
theorem dX1_leastStep_23 : decode cX1_leastStep 23 = .ok (.getfield 102, 3) := by decide +kernel
theorem dX1_leastStep_26 : decode cX1_leastStep 26 = .ok (.iload 6, 2) := by decide +kernel
theorem dX1_leastStep_28 : decode cX1_leastStep 28 = .ok (.iaload, 1) := by decide +kernel
theorem dX1_leastStep_29 : decode cX1_leastStep 29 = .ok (.iload 5, 2) := by decide +kernel
theorem dX1_leastStep_31 : decode cX1_leastStep 31 = .ok (.if_icmp .ne 34, 3) := by decide +kernel
theorem dX1_leastStep_34 : decode cX1_leastStep 34 = .ok (.aload_n 1, 1) := by decide +kernel
theorem dX1_leastStep_35 : decode cX1_leastStep 35 = .ok (.getfield 42, 3) := by decide +kernel
theorem dX1_leastStep_38 : decode cX1_leastStep 38 = .ok (.iload 6, 2) := by decide +kernel
theorem dX1_leastStep_40 : decode cX1_leastStep 40 = .ok (.iaload, 1) := by decide +kernel
theorem dX1_leastStep_41 : decode cX1_leastStep 41 = .ok (.ifCond .le 24, 3) := by decide +kernel
theorem dX1_leastStep_44 : decode cX1_leastStep 44 = .ok (.aload_n 0, 1) := by decide +kernel
theorem dX1_leastStep_45 : decode cX1_leastStep 45 = .ok (.aload_n 1, 1) := by decide +kernel
theorem dX1_leastStep_46 : decode cX1_leastStep 46 = .ok (.iload 6, 2) := by decide +kernel
theorem dX1_leastStep_48 : decode cX1_leastStep 48 = .ok (.iload 4, 2) := by decide +kernel
theorem dX1_leastStep_50 : decode cX1_leastStep 50 = .ok (.invokevirtual 111, 3) := by decide +kernel
theorem dX1_leastStep_53 : decode cX1_leastStep 53 = .ok (.aload_n 0, 1) := by decide +kernel
theorem dX1_leastStep_54 : decode cX1_leastStep 54 = .ok (.getfield 25, 3) := by decide +kernel
theorem dX1_leastStep_57 : decode cX1_leastStep 57 = .ok (.iload_n 2, 1) := by decide +kernel
theorem dX1_leastStep_58 : decode cX1_leastStep 58 = .ok (.iaload, 1) := by decide +kernel
theorem dX1_leastStep_59 : decode cX1_leastStep 59 = .ok (.if_icmp .ne 6, 3) := by decide +kernel
theorem dX1_leastStep_62 : decode cX1_leastStep 62 = .ok (.iload 6, 2) := by decide +kernel
theorem dX1_leastStep_64 : decode cX1_leastStep 64 = .ok (.ireturn, 1) := by decide +kernel
theorem dX1_leastStep_65 : decode cX1_leastStep 65 = .ok (.iinc 6 1, 3) := by decide +kernel
theorem dX1_leastStep_68 : decode cX1_leastStep 68 = .ok (.goto (-57), 3) := by decide +kernel
theorem dX1_leastStep_71 : decode cX1_leastStep 71 = .ok (.iconst (-1), 1) := by decide +kernel
theorem dX1_leastStep_72 : decode cX1_leastStep 72 = .ok (.ireturn, 1) := by decide +kernel
theorem dX1_stepAt_0 : decode cX1_stepAt 0 = .ok (.iload_n 1, 1) := by decide +kernel
theorem dX1_stepAt_1 : decode cX1_stepAt 1 = .ok (.ifCond .lt 20, 3) := by decide +kernel
theorem dX1_stepAt_4 : decode cX1_stepAt 4 = .ok (.iload_n 1, 1) := by decide +kernel
theorem dX1_stepAt_5 : decode cX1_stepAt 5 = .ok (.aload_n 0, 1) := by decide +kernel
theorem dX1_stepAt_6 : decode cX1_stepAt 6 = .ok (.getfield 22, 3) := by decide +kernel
theorem dX1_stepAt_9 : decode cX1_stepAt 9 = .ok (.if_icmp .ge 12, 3) := by decide +kernel
theorem dX1_stepAt_12 : decode cX1_stepAt 12 = .ok (.aload_n 0, 1) := by decide +kernel
theorem dX1_stepAt_13 : decode cX1_stepAt 13 = .ok (.getfield 19, 3) := by decide +kernel
theorem dX1_stepAt_16 : decode cX1_stepAt 16 = .ok (.iload_n 1, 1) := by decide +kernel
theorem dX1_stepAt_17 : decode cX1_stepAt 17 = .ok (.iaload, 1) := by decide +kernel
theorem dX1_stepAt_18 : decode cX1_stepAt 18 = .ok (.goto 4, 3) := by decide +kernel
theorem dX1_stepAt_21 : decode cX1_stepAt 21 = .ok (.iconst (-1), 1) := by decide +kernel
theorem dX1_stepAt_22 : decode cX1_stepAt 22 = .ok (.ireturn, 1) := by decide +kernel
theorem dX1_countRounds_0 : decode cX1_countRounds 0 = .ok (.aload_n 0, 1) := by decide +kernel
theorem dX1_countRounds_1 : decode cX1_countRounds 1 = .ok (.getfield 28, 3) := by decide +kernel
theorem dX1_countRounds_4 : decode cX1_countRounds 4 = .ok (.iconst 0, 1) := by decide +kernel
theorem dX1_countRounds_5 : decode cX1_countRounds 5 = .ok (.invokestatic 96, 3) := by decide +kernel
theorem dX1_countRounds_8 : decode cX1_countRounds 8 = .ok (.aload_n 0, 1) := by decide +kernel
theorem dX1_countRounds_9 : decode cX1_countRounds 9 = .ok (.aload_n 1, 1) := by decide +kernel
theorem dX1_countRounds_10 : decode cX1_countRounds 10 = .ok (.iconst 0, 1) := by decide +kernel
theorem dX1_countRounds_11 : decode cX1_countRounds 11 = .ok (.iconst 0, 1) := by decide +kernel
theorem dX1_countRounds_12 : decode cX1_countRounds 12 = .ok (.aload_n 1, 1) := by decide +kernel
theorem dX1_countRounds_13 : decode cX1_countRounds 13 = .ok (.getfield 59, 3) := by decide +kernel
theorem dX1_countRounds_16 : decode cX1_countRounds 16 = .ok (.iconst 4, 1) := by decide +kernel
theorem dX1_countRounds_17 : decode cX1_countRounds 17 = .ok (.iaload, 1) := by decide +kernel
theorem dX1_countRounds_18 : decode cX1_countRounds 18 = .ok (.iconst 1, 1) := by decide +kernel
theorem dX1_countRounds_19 : decode cX1_countRounds 19 = .ok (.iadd, 1) := by decide +kernel
theorem dX1_countRounds_20 : decode cX1_countRounds 20 = .ok (.invokevirtual 127, 3) := by decide +kernel
theorem dX1_countRounds_23 : decode cX1_countRounds 23 = .ok (.ireturn, 1) := by decide +kernel
theorem dX1_placeRoute_0 : decode cX1_placeRoute 0 = .ok (.iload_n 3, 1) := by decide +kernel
theorem dX1_placeRoute_1 : decode cX1_placeRoute 1 = .ok (.iload 4, 2) := by decide +kernel
theorem dX1_placeRoute_3 : decode cX1_placeRoute 3 = .ok (.if_icmp .lt 6, 3) := by decide +kernel
theorem dX1_placeRoute_6 : decode cX1_placeRoute 6 = .ok (.iload 4, 2) := by decide +kernel
theorem dX1_placeRoute_8 : decode cX1_placeRoute 8 = .ok (.ireturn, 1) := by decide +kernel
theorem dX1_placeRoute_9 : decode cX1_placeRoute 9 = .ok (.iload_n 2, 1) := by decide +kernel
theorem dX1_placeRoute_10 : decode cX1_placeRoute 10 = .ok (.aload_n 1, 1) := by decide +kernel
theorem dX1_placeRoute_11 : decode cX1_placeRoute 11 = .ok (.getfield 59, 3) := by decide +kernel
theorem dX1_placeRoute_14 : decode cX1_placeRoute 14 = .ok (.iconst 4, 1) := by decide +kernel
theorem dX1_placeRoute_15 : decode cX1_placeRoute 15 = .ok (.iaload, 1) := by decide +kernel
theorem dX1_placeRoute_16 : decode cX1_placeRoute 16 = .ok (.if_icmp .lt 5, 3) := by decide +kernel
theorem dX1_placeRoute_19 : decode cX1_placeRoute 19 = .ok (.iload_n 3, 1) := by decide +kernel
theorem dX1_placeRoute_20 : decode cX1_placeRoute 20 = .ok (.ireturn, 1) := by decide +kernel
theorem dX1_placeRoute_21 : decode cX1_placeRoute 21 = .ok (.iload 4, 2) := by decide +kernel
theorem dX1_placeRoute_23 : decode cX1_placeRoute 23 = .ok (.istore 5, 2) := by decide +kernel
theorem dX1_placeRoute_25 : decode cX1_placeRoute 25 = .ok (.iconst 0, 1) := by decide +kernel
theorem dX1_placeRoute_26 : decode cX1_placeRoute 26 = .ok (.istore 6, 2) := by decide +kernel
theorem dX1_placeRoute_28 : decode cX1_placeRoute 28 = .ok (.iload 6, 2) := by decide +kernel
theorem dX1_placeRoute_30 : decode cX1_placeRoute 30 = .ok (.iload_n 3, 1) := by decide +kernel
theorem dX1_placeRoute_31 : decode cX1_placeRoute 31 = .ok (.if_icmp .gt 89, 3) := by decide +kernel
theorem dX1_placeRoute_34 : decode cX1_placeRoute 34 = .ok (.iload 6, 2) := by decide +kernel
theorem dX1_placeRoute_36 : decode cX1_placeRoute 36 = .ok (.aload_n 0, 1) := by decide +kernel
theorem dX1_placeRoute_37 : decode cX1_placeRoute 37 = .ok (.getfield 28, 3) := by decide +kernel
theorem dX1_placeRoute_40 : decode cX1_placeRoute 40 = .ok (.arraylength, 1) := by decide +kernel
theorem dX1_placeRoute_41 : decode cX1_placeRoute 41 = .ok (.if_icmp .ge 79, 3) := by decide +kernel
theorem dX1_placeRoute_44 : decode cX1_placeRoute 44 = .ok (.aload_n 0, 1) := by decide +kernel
theorem dX1_placeRoute_45 : decode cX1_placeRoute 45 = .ok (.getfield 28, 3) := by decide +kernel
theorem dX1_placeRoute_48 : decode cX1_placeRoute 48 = .ok (.iload 6, 2) := by decide +kernel
theorem dX1_placeRoute_50 : decode cX1_placeRoute 50 = .ok (.iaload, 1) := by decide +kernel
theorem dX1_placeRoute_51 : decode cX1_placeRoute 51 = .ok (.aload_n 1, 1) := by decide +kernel
theorem dX1_placeRoute_52 : decode cX1_placeRoute 52 = .ok (.getfield 130, 3) := by decide +kernel
theorem dX1_placeRoute_55 : decode cX1_placeRoute 55 = .ok (.iload_n 2, 1) := by decide +kernel
theorem dX1_placeRoute_56 : decode cX1_placeRoute 56 = .ok (.iaload, 1) := by decide +kernel
theorem dX1_placeRoute_57 : decode cX1_placeRoute 57 = .ok (.iand, 1) := by decide +kernel
theorem dX1_placeRoute_58 : decode cX1_placeRoute 58 = .ok (.ifCond .ne 56, 3) := by decide +kernel
theorem dX1_placeRoute_61 : decode cX1_placeRoute 61 = .ok (.aload_n 0, 1) := by decide +kernel
theorem dX1_placeRoute_62 : decode cX1_placeRoute 62 = .ok (.getfield 28, 3) := by decide +kernel
theorem dX1_placeRoute_65 : decode cX1_placeRoute 65 = .ok (.iload 6, 2) := by decide +kernel
theorem dX1_placeRoute_67 : decode cX1_placeRoute 67 = .ok (.dup2, 1) := by decide +kernel
theorem dX1_placeRoute_68 : decode cX1_placeRoute 68 = .ok (.iaload, 1) := by decide +kernel
theorem dX1_placeRoute_69 : decode cX1_placeRoute 69 = .ok (.iconst 1, 1) := by decide +kernel
theorem dX1_placeRoute_70 : decode cX1_placeRoute 70 = .ok (.iload_n 2, 1) := by decide +kernel
theorem dX1_placeRoute_71 : decode cX1_placeRoute 71 = .ok (.ishl, 1) := by decide +kernel
theorem dX1_placeRoute_72 : decode cX1_placeRoute 72 = .ok (.ior, 1) := by decide +kernel
theorem dX1_placeRoute_73 : decode cX1_placeRoute 73 = .ok (.iastore, 1) := by decide +kernel
theorem dX1_placeRoute_74 : decode cX1_placeRoute 74 = .ok (.aload_n 0, 1) := by decide +kernel
theorem dX1_placeRoute_75 : decode cX1_placeRoute 75 = .ok (.aload_n 1, 1) := by decide +kernel
theorem dX1_placeRoute_76 : decode cX1_placeRoute 76 = .ok (.iload_n 2, 1) := by decide +kernel
theorem dX1_placeRoute_77 : decode cX1_placeRoute 77 = .ok (.iconst 1, 1) := by decide +kernel
theorem dX1_placeRoute_78 : decode cX1_placeRoute 78 = .ok (.iadd, 1) := by decide +kernel
theorem dX1_placeRoute_79 : decode cX1_placeRoute 79 = .ok (.iload 6, 2) := by decide +kernel
theorem dX1_placeRoute_81 : decode cX1_placeRoute 81 = .ok (.iload_n 3, 1) := by decide +kernel
theorem dX1_placeRoute_82 : decode cX1_placeRoute 82 = .ok (.if_icmp .ne 9, 3) := by decide +kernel
theorem dX1_placeRoute_85 : decode cX1_placeRoute 85 = .ok (.iload_n 3, 1) := by decide +kernel
theorem dX1_placeRoute_86 : decode cX1_placeRoute 86 = .ok (.iconst 1, 1) := by decide +kernel
theorem dX1_placeRoute_87 : decode cX1_placeRoute 87 = .ok (.iadd, 1) := by decide +kernel
theorem dX1_placeRoute_88 : decode cX1_placeRoute 88 = .ok (.goto 4, 3) := by decide +kernel
theorem dX1_placeRoute_91 : decode cX1_placeRoute 91 = .ok (.iload_n 3, 1) := by decide +kernel
theorem dX1_placeRoute_92 : decode cX1_placeRoute 92 = .ok (.iload 5, 2) := by decide +kernel
theorem dX1_placeRoute_94 : decode cX1_placeRoute 94 = .ok (.invokevirtual 127, 3) := by decide +kernel
theorem dX1_placeRoute_97 : decode cX1_placeRoute 97 = .ok (.istore 5, 2) := by decide +kernel
theorem dX1_placeRoute_99 : decode cX1_placeRoute 99 = .ok (.aload_n 0, 1) := by decide +kernel
theorem dX1_placeRoute_100 : decode cX1_placeRoute 100 = .ok (.getfield 28, 3) := by decide +kernel
theorem dX1_placeRoute_103 : decode cX1_placeRoute 103 = .ok (.iload 6, 2) := by decide +kernel
theorem dX1_placeRoute_105 : decode cX1_placeRoute 105 = .ok (.dup2, 1) := by decide +kernel
theorem dX1_placeRoute_106 : decode cX1_placeRoute 106 = .ok (.iaload, 1) := by decide +kernel
theorem dX1_placeRoute_107 : decode cX1_placeRoute 107 = .ok (.iconst 1, 1) := by decide +kernel
theorem dX1_placeRoute_108 : decode cX1_placeRoute 108 = .ok (.iload_n 2, 1) := by decide +kernel
theorem dX1_placeRoute_109 : decode cX1_placeRoute 109 = .ok (.ishl, 1) := by decide +kernel
theorem dX1_placeRoute_110 : decode cX1_placeRoute 110 = .ok (.iconst (-1), 1) := by decide +kernel
theorem dX1_placeRoute_111 : decode cX1_placeRoute 111 = .ok (.ixor, 1) := by decide +kernel
theorem dX1_placeRoute_112 : decode cX1_placeRoute 112 = .ok (.iand, 1) := by decide +kernel
theorem dX1_placeRoute_113 : decode cX1_placeRoute 113 = .ok (.iastore, 1) := by decide +kernel
theorem dX1_placeRoute_114 : decode cX1_placeRoute 114 = .ok (.iinc 6 1, 3) := by decide +kernel
theorem dX1_placeRoute_117 : decode cX1_placeRoute 117 = .ok (.goto (-89), 3) := by decide +kernel
theorem dX1_placeRoute_120 : decode cX1_placeRoute 120 = .ok (.iload 5, 2) := by decide +kernel
theorem dX1_placeRoute_122 : decode cX1_placeRoute 122 = .ok (.ireturn, 1) := by decide +kernel
theorem dX2_init_0 : decode cX2_init 0 = .ok (.aload_n 0, 1) := by decide +kernel
theorem dX2_init_1 : decode cX2_init 1 = .ok (.invokespecial 3, 3) := by decide +kernel
theorem dX2_init_4 : decode cX2_init 4 = .ok (.aload_n 0, 1) := by decide +kernel
theorem dX2_init_5 : decode cX2_init 5 = .ok (.bipush 25, 2) := by decide +kernel
theorem dX2_init_7 : decode cX2_init 7 = .ok (.newarray .int, 2) := by decide +kernel
theorem dX2_init_9 : decode cX2_init 9 = .ok (.putfield 9, 3) := by decide +kernel
theorem dX2_init_12 : decode cX2_init 12 = .ok (.aload_n 0, 1) := by decide +kernel
theorem dX2_init_13 : decode cX2_init 13 = .ok (.iconst 0, 1) := by decide +kernel
theorem dX2_init_14 : decode cX2_init 14 = .ok (.putfield 15, 3) := by decide +kernel
theorem dX2_init_17 : decode cX2_init 17 = .ok (.aload_n 0, 1) := by decide +kernel
theorem dX2_init_18 : decode cX2_init 18 = .ok (.iconst (-1), 1) := by decide +kernel
theorem dX2_init_19 : decode cX2_init 19 = .ok (.putfield 19, 3) := by decide +kernel
theorem dX2_init_22 : decode cX2_init 22 = .ok (.return_, 1) := by decide +kernel
theorem dX2_workOut_0 : decode cX2_workOut 0 = .ok (.aload_n 1, 1) := by decide +kernel
theorem dX2_workOut_1 : decode cX2_workOut 1 = .ok (.aload_n 2, 1) := by decide +kernel
theorem dX2_workOut_2 : decode cX2_workOut 2 = .ok (.invokestatic 22, 3) := by decide +kernel
theorem dX2_workOut_5 : decode cX2_workOut 5 = .ok (.ifCond .ne 5, 3) := by decide +kernel
theorem dX2_workOut_8 : decode cX2_workOut 8 = .ok (.iconst (-1), 1) := by decide +kernel
theorem dX2_workOut_9 : decode cX2_workOut 9 = .ok (.ireturn, 1) := by decide +kernel
theorem dX2_workOut_10 : decode cX2_workOut 10 = .ok (.iconst 0, 1) := by decide +kernel
theorem dX2_workOut_11 : decode cX2_workOut 11 = .ok (.istore 4, 2) := by decide +kernel
theorem dX2_workOut_13 : decode cX2_workOut 13 = .ok (.iconst 2, 1) := by decide +kernel
theorem dX2_workOut_14 : decode cX2_workOut 14 = .ok (.aload_n 2, 1) := by decide +kernel
theorem dX2_workOut_15 : decode cX2_workOut 15 = .ok (.getfield 26, 3) := by decide +kernel
theorem dX2_workOut_18 : decode cX2_workOut 18 = .ok (.iconst 0, 1) := by decide +kernel
theorem dX2_workOut_19 : decode cX2_workOut 19 = .ok (.iaload, 1) := by decide +kernel
theorem dX2_workOut_20 : decode cX2_workOut 20 = .ok (.imul, 1) := by decide +kernel
theorem dX2_workOut_21 : decode cX2_workOut 21 = .ok (.istore 5, 2) := by decide +kernel
theorem dX2_workOut_23 : decode cX2_workOut 23 = .ok (.iconst 0, 1) := by decide +kernel
theorem dX2_workOut_24 : decode cX2_workOut 24 = .ok (.istore 6, 2) := by decide +kernel
theorem dX2_workOut_26 : decode cX2_workOut 26 = .ok (.iload 6, 2) := by decide +kernel
theorem dX2_workOut_28 : decode cX2_workOut 28 = .ok (.iload 5, 2) := by decide +kernel
theorem dX2_workOut_30 : decode cX2_workOut 30 = .ok (.if_icmp .gt 24, 3) := by decide +kernel
theorem dX2_workOut_33 : decode cX2_workOut 33 = .ok (.aload_n 1, 1) := by decide +kernel
theorem dX2_workOut_34 : decode cX2_workOut 34 = .ok (.iload 6, 2) := by decide +kernel
theorem dX2_workOut_36 : decode cX2_workOut 36 = .ok (.iload 5, 2) := by decide +kernel
theorem dX2_workOut_38 : decode cX2_workOut 38 = .ok (.iload_n 3, 1) := by decide +kernel
theorem dX2_workOut_39 : decode cX2_workOut 39 = .ok (.invokestatic 31, 3) := by decide +kernel
theorem dX2_workOut_42 : decode cX2_workOut 42 = .ok (.ifCond .eq 6, 3) := by decide +kernel
theorem dX2_workOut_45 : decode cX2_workOut 45 = .ok (.iinc 4 1, 3) := by decide +kernel
theorem dX2_workOut_48 : decode cX2_workOut 48 = .ok (.iinc 6 1, 3) := by decide +kernel
theorem dX2_workOut_51 : decode cX2_workOut 51 = .ok (.goto (-25), 3) := by decide +kernel
theorem dX2_workOut_54 : decode cX2_workOut 54 = .ok (.iload 4, 2) := by decide +kernel
theorem dX2_workOut_56 : decode cX2_workOut 56 = .ok (.ifCond .le 26, 3) := by decide +kernel
theorem dX2_workOut_59 : decode cX2_workOut 59 = .ok (.aload_n 0, 1) := by decide +kernel
theorem dX2_workOut_60 : decode cX2_workOut 60 = .ok (.aload_n 1, 1) := by decide +kernel
theorem dX2_workOut_61 : decode cX2_workOut 61 = .ok (.iload 5, 2) := by decide +kernel
theorem dX2_workOut_63 : decode cX2_workOut 63 = .ok (.iload_n 3, 1) := by decide +kernel
theorem dX2_workOut_64 : decode cX2_workOut 64 = .ok (.invokevirtual 35, 3) := by decide +kernel
theorem dX2_workOut_67 : decode cX2_workOut 67 = .ok (.aload_n 0, 1) := by decide +kernel
theorem dX2_workOut_68 : decode cX2_workOut 68 = .ok (.aload_n 0, 1) := by decide +kernel
theorem dX2_workOut_69 : decode cX2_workOut 69 = .ok (.aload_n 2, 1) := by decide +kernel
theorem dX2_workOut_70 : decode cX2_workOut 70 = .ok (.getfield 26, 3) := by decide +kernel
theorem dX2_workOut_73 : decode cX2_workOut 73 = .ok (.iconst 0, 1) := by decide +kernel
theorem dX2_workOut_74 : decode cX2_workOut 74 = .ok (.iaload, 1) := by decide +kernel
theorem dX2_workOut_75 : decode cX2_workOut 75 = .ok (.iload_n 3, 1) := by decide +kernel
theorem dX2_workOut_76 : decode cX2_workOut 76 = .ok (.invokevirtual 39, 3) := by decide +kernel
theorem dX2_workOut_79 : decode cX2_workOut 79 = .ok (.putfield 19, 3) := by decide +kernel
theorem dX2_workOut_82 : decode cX2_workOut 82 = .ok (.iload 4, 2) := by decide +kernel
theorem dX2_workOut_84 : decode cX2_workOut 84 = .ok (.ireturn, 1) := by decide +kernel
theorem dX2_isReport_0 : decode cX2_isReport 0 = .ok (.aload_n 0, 1) := by decide +kernel
theorem dX2_isReport_1 : decode cX2_isReport 1 = .ok (.getfield 43, 3) := by decide +kernel
theorem dX2_isReport_4 : decode cX2_isReport 4 = .ok (.iconst 2, 1) := by decide +kernel
theorem dX2_isReport_5 : decode cX2_isReport 5 = .ok (.if_icmp .lt 21, 3) := by decide +kernel
theorem dX2_isReport_8 : decode cX2_isReport 8 = .ok (.aload_n 0, 1) := by decide +kernel
theorem dX2_isReport_9 : decode cX2_isReport 9 = .ok (.getfield 43, 3) := by decide +kernel
theorem dX2_isReport_12 : decode cX2_isReport 12 = .ok (.bipush 12, 2) := by decide +kernel
theorem dX2_isReport_14 : decode cX2_isReport 14 = .ok (.if_icmp .gt 12, 3) := by decide +kernel
theorem dX2_isReport_17 : decode cX2_isReport 17 = .ok (.aload_n 0, 1) := by decide +kernel
theorem dX2_isReport_18 : decode cX2_isReport 18 = .ok (.getfield 43, 3) := by decide +kernel
theorem dX2_isReport_21 : decode cX2_isReport 21 = .ok (.iconst 2, 1) := by decide +kernel
theorem dX2_isReport_22 : decode cX2_isReport 22 = .ok (.irem, 1) := by decide +kernel
theorem dX2_isReport_23 : decode cX2_isReport 23 = .ok (.ifCond .eq 5, 3) := by decide +kernel
theorem dX2_isReport_26 : decode cX2_isReport 26 = .ok (.iconst 0, 1) := by decide +kernel
theorem dX2_isReport_27 : decode cX2_isReport 27 = .ok (.ireturn, 1) := by decide +kernel
theorem dX2_isReport_28 : decode cX2_isReport 28 = .ok (.iconst 0, 1) := by decide +kernel
theorem dX2_isReport_29 : decode cX2_isReport 29 = .ok (.istore_n 2, 1) := by decide +kernel
theorem dX2_isReport_30 : decode cX2_isReport 30 = .ok (.iload_n 2, 1) := by decide +kernel
theorem dX2_isReport_31 : decode cX2_isReport 31 = .ok (.iconst 1, 1) := by decide +kernel
theorem dX2_isReport_32 : decode cX2_isReport 32 = .ok (.iadd, 1) := by decide +kernel
theorem dX2_isReport_33 : decode cX2_isReport 33 = .ok (.aload_n 0, 1) := by decide +kernel
theorem dX2_isReport_34 : decode cX2_isReport 34 = .ok (.getfield 43, 3) := by decide +kernel
theorem dX2_isReport_37 : decode cX2_isReport 37 = .ok (.if_icmp .ge 37, 3) := by decide +kernel
theorem dX2_isReport_40 : decode cX2_isReport 40 = .ok (.aload_n 1, 1) := by decide +kernel
theorem dX2_isReport_41 : decode cX2_isReport 41 = .ok (.iconst 0, 1) := by decide +kernel
theorem dX2_isReport_42 : decode cX2_isReport 42 = .ok (.aload_n 0, 1) := by decide +kernel
theorem dX2_isReport_43 : decode cX2_isReport 43 = .ok (.getfield 46, 3) := by decide +kernel
theorem dX2_isReport_46 : decode cX2_isReport 46 = .ok (.iload_n 2, 1) := by decide +kernel
theorem dX2_isReport_47 : decode cX2_isReport 47 = .ok (.iaload, 1) := by decide +kernel
theorem dX2_isReport_48 : decode cX2_isReport 48 = .ok (.invokevirtual 49, 3) := by decide +kernel
theorem dX2_isReport_51 : decode cX2_isReport 51 = .ok (.ifCond .eq 15, 3) := by decide +kernel
theorem dX2_isReport_54 : decode cX2_isReport 54 = .ok (.aload_n 0, 1) := by decide +kernel
theorem dX2_isReport_55 : decode cX2_isReport 55 = .ok (.getfield 46, 3) := by decide +kernel
theorem dX2_isReport_58 : decode cX2_isReport 58 = .ok (.iload_n 2, 1) := by decide +kernel
theorem dX2_isReport_59 : decode cX2_isReport 59 = .ok (.iconst 1, 1) := by decide +kernel
theorem dX2_isReport_60 : decode cX2_isReport 60 = .ok (.iadd, 1) := by decide +kernel
theorem dX2_isReport_61 : decode cX2_isReport 61 = .ok (.iaload, 1) := by decide +kernel
theorem dX2_isReport_62 : decode cX2_isReport 62 = .ok (.iconst 1, 1) := by decide +kernel
theorem dX2_isReport_63 : decode cX2_isReport 63 = .ok (.if_icmp .le 5, 3) := by decide +kernel
theorem dX2_isReport_66 : decode cX2_isReport 66 = .ok (.iconst 0, 1) := by decide +kernel
theorem dX2_isReport_67 : decode cX2_isReport 67 = .ok (.ireturn, 1) := by decide +kernel
theorem dX2_isReport_68 : decode cX2_isReport 68 = .ok (.iinc 2 2, 3) := by decide +kernel
theorem dX2_isReport_71 : decode cX2_isReport 71 = .ok (.goto (-41), 3) := by decide +kernel
theorem dX2_isReport_74 : decode cX2_isReport 74 = .ok (.iconst 1, 1) := by decide +kernel
theorem dX2_isReport_75 : decode cX2_isReport 75 = .ok (.ireturn, 1) := by decide +kernel
theorem dX2_keepFailures_0 : decode cX2_keepFailures 0 = .ok (.aload_n 0, 1) := by decide +kernel
theorem dX2_keepFailures_1 : decode cX2_keepFailures 1 = .ok (.iconst 0, 1) := by decide +kernel
theorem dX2_keepFailures_2 : decode cX2_keepFailures 2 = .ok (.putfield 15, 3) := by decide +kernel
theorem dX2_keepFailures_5 : decode cX2_keepFailures 5 = .ok (.iconst 0, 1) := by decide +kernel
theorem dX2_keepFailures_6 : decode cX2_keepFailures 6 = .ok (.istore 4, 2) := by decide +kernel
theorem dX2_keepFailures_8 : decode cX2_keepFailures 8 = .ok (.iload 4, 2) := by decide +kernel
theorem dX2_keepFailures_10 : decode cX2_keepFailures 10 = .ok (.iload_n 2, 1) := by decide +kernel
theorem dX2_keepFailures_11 : decode cX2_keepFailures 11 = .ok (.if_icmp .gt 53, 3) := by decide +kernel
theorem dX2_keepFailures_14 : decode cX2_keepFailures 14 = .ok (.aload_n 0, 1) := by decide +kernel
theorem dX2_keepFailures_15 : decode cX2_keepFailures 15 = .ok (.getfield 15, 3) := by decide +kernel
theorem dX2_keepFailures_18 : decode cX2_keepFailures 18 = .ok (.aload_n 0, 1) := by decide +kernel
theorem dX2_keepFailures_19 : decode cX2_keepFailures 19 = .ok (.getfield 9, 3) := by decide +kernel
theorem dX2_keepFailures_22 : decode cX2_keepFailures 22 = .ok (.arraylength, 1) := by decide +kernel
theorem dX2_keepFailures_23 : decode cX2_keepFailures 23 = .ok (.if_icmp .ge 41, 3) := by decide +kernel
theorem dX2_keepFailures_26 : decode cX2_keepFailures 26 = .ok (.aload_n 1, 1) := by decide +kernel
theorem dX2_keepFailures_27 : decode cX2_keepFailures 27 = .ok (.iload 4, 2) := by decide +kernel
theorem dX2_keepFailures_29 : decode cX2_keepFailures 29 = .ok (.iload_n 2, 1) := by decide +kernel
theorem dX2_keepFailures_30 : decode cX2_keepFailures 30 = .ok (.iload_n 3, 1) := by decide +kernel
theorem dX2_keepFailures_31 : decode cX2_keepFailures 31 = .ok (.invokestatic 31, 3) := by decide +kernel
theorem dX2_keepFailures_34 : decode cX2_keepFailures 34 = .ok (.ifCond .eq 24, 3) := by decide +kernel
theorem dX2_keepFailures_37 : decode cX2_keepFailures 37 = .ok (.aload_n 0, 1) := by decide +kernel
theorem dX2_keepFailures_38 : decode cX2_keepFailures 38 = .ok (.getfield 9, 3) := by decide +kernel
theorem dX2_keepFailures_41 : decode cX2_keepFailures 41 = .ok (.aload_n 0, 1) := by decide +kernel
theorem dX2_keepFailures_42 : decode cX2_keepFailures 42 = .ok (.getfield 15, 3) := by decide +kernel
theorem dX2_keepFailures_45 : decode cX2_keepFailures 45 = .ok (.iload 4, 2) := by decide +kernel
theorem dX2_keepFailures_47 : decode cX2_keepFailures 47 = .ok (.iastore, 1) := by decide +kernel
theorem dX2_keepFailures_48 : decode cX2_keepFailures 48 = .ok (.aload_n 0, 1) := by decide +kernel
theorem dX2_keepFailures_49 : decode cX2_keepFailures 49 = .ok (.dup, 1) := by decide +kernel
theorem dX2_keepFailures_50 : decode cX2_keepFailures 50 = .ok (.getfield 15, 3) := by decide +kernel
theorem dX2_keepFailures_53 : decode cX2_keepFailures 53 = .ok (.iconst 1, 1) := by decide +kernel
theorem dX2_keepFailures_54 : decode cX2_keepFailures 54 = .ok (.iadd, 1) := by decide +kernel
theorem dX2_keepFailures_55 : decode cX2_keepFailures 55 = .ok (.putfield 15, 3) := by decide +kernel
theorem dX2_keepFailures_58 : decode cX2_keepFailures 58 = .ok (.iinc 4 1, 3) := by decide +kernel
theorem dX2_keepFailures_61 : decode cX2_keepFailures 61 = .ok (.goto (-53), 3) := by decide +kernel
theorem dX2_keepFailures_64 : decode cX2_keepFailures 64 = .ok (.return_, 1) := by decide +kernel
theorem dX2_explains_0 : decode cX2_explains 0 = .ok (.iconst 0, 1) := by decide +kernel
theorem dX2_explains_1 : decode cX2_explains 1 = .ok (.istore 4, 2) := by decide +kernel
theorem dX2_explains_3 : decode cX2_explains 3 = .ok (.iload 4, 2) := by decide +kernel
theorem dX2_explains_5 : decode cX2_explains 5 = .ok (.iconst 1, 1) := by decide +kernel
theorem dX2_explains_6 : decode cX2_explains 6 = .ok (.iadd, 1) := by decide +kernel
theorem dX2_explains_7 : decode cX2_explains 7 = .ok (.aload_n 0, 1) := by decide +kernel
theorem dX2_explains_8 : decode cX2_explains 8 = .ok (.getfield 43, 3) := by decide +kernel
theorem dX2_explains_11 : decode cX2_explains 11 = .ok (.if_icmp .ge 36, 3) := by decide +kernel
theorem dX2_explains_14 : decode cX2_explains 14 = .ok (.iload_n 1, 1) := by decide +kernel
theorem dX2_explains_15 : decode cX2_explains 15 = .ok (.iload_n 2, 1) := by decide +kernel
theorem dX2_explains_16 : decode cX2_explains 16 = .ok (.aload_n 0, 1) := by decide +kernel
theorem dX2_explains_17 : decode cX2_explains 17 = .ok (.getfield 46, 3) := by decide +kernel
theorem dX2_explains_20 : decode cX2_explains 20 = .ok (.iload 4, 2) := by decide +kernel
theorem dX2_explains_22 : decode cX2_explains 22 = .ok (.iaload, 1) := by decide +kernel
theorem dX2_explains_23 : decode cX2_explains 23 = .ok (.iload_n 3, 1) := by decide +kernel
theorem dX2_explains_24 : decode cX2_explains 24 = .ok (.invokestatic 53, 3) := by decide +kernel
theorem dX2_explains_27 : decode cX2_explains 27 = .ok (.aload_n 0, 1) := by decide +kernel
theorem dX2_explains_28 : decode cX2_explains 28 = .ok (.getfield 46, 3) := by decide +kernel
theorem dX2_explains_31 : decode cX2_explains 31 = .ok (.iload 4, 2) := by decide +kernel
theorem dX2_explains_33 : decode cX2_explains 33 = .ok (.iconst 1, 1) := by decide +kernel
theorem dX2_explains_34 : decode cX2_explains 34 = .ok (.iadd, 1) := by decide +kernel
theorem dX2_explains_35 : decode cX2_explains 35 = .ok (.iaload, 1) := by decide +kernel
theorem dX2_explains_36 : decode cX2_explains 36 = .ok (.if_icmp .eq 5, 3) := by decide +kernel
theorem dX2_explains_39 : decode cX2_explains 39 = .ok (.iconst 0, 1) := by decide +kernel
theorem dX2_explains_40 : decode cX2_explains 40 = .ok (.ireturn, 1) := by decide +kernel
theorem dX2_explains_41 : decode cX2_explains 41 = .ok (.iinc 4 2, 3) := by decide +kernel
theorem dX2_explains_44 : decode cX2_explains 44 = .ok (.goto (-41), 3) := by decide +kernel
theorem dX2_explains_47 : decode cX2_explains 47 = .ok (.iconst 1, 1) := by decide +kernel
theorem dX2_explains_48 : decode cX2_explains 48 = .ok (.ireturn, 1) := by decide +kernel
theorem dX2_shownBy_0 : decode cX2_shownBy 0 = .ok (.iload_n 0, 1) := by decide +kernel
theorem dX2_shownBy_1 : decode cX2_shownBy 1 = .ok (.iload_n 1, 1) := by decide +kernel
theorem dX2_shownBy_2 : decode cX2_shownBy 2 = .ok (.if_icmp .eq 14, 3) := by decide +kernel
theorem dX2_shownBy_5 : decode cX2_shownBy 5 = .ok (.iload_n 0, 1) := by decide +kernel
theorem dX2_shownBy_6 : decode cX2_shownBy 6 = .ok (.iconst 2, 1) := by decide +kernel
theorem dX2_shownBy_7 : decode cX2_shownBy 7 = .ok (.idiv, 1) := by decide +kernel
theorem dX2_shownBy_8 : decode cX2_shownBy 8 = .ok (.iload_n 2, 1) := by decide +kernel
theorem dX2_shownBy_9 : decode cX2_shownBy 9 = .ok (.if_icmp .ne 7, 3) := by decide +kernel
theorem dX2_shownBy_12 : decode cX2_shownBy 12 = .ok (.iload_n 0, 1) := by decide +kernel
theorem dX2_shownBy_13 : decode cX2_shownBy 13 = .ok (.iconst 2, 1) := by decide +kernel
theorem dX2_shownBy_14 : decode cX2_shownBy 14 = .ok (.irem, 1) := by decide +kernel
theorem dX2_shownBy_15 : decode cX2_shownBy 15 = .ok (.ireturn, 1) := by decide +kernel
theorem dX2_shownBy_16 : decode cX2_shownBy 16 = .ok (.iload_n 3, 1) := by decide +kernel
theorem dX2_shownBy_17 : decode cX2_shownBy 17 = .ok (.iload_n 2, 1) := by decide +kernel
theorem dX2_shownBy_18 : decode cX2_shownBy 18 = .ok (.ishr, 1) := by decide +kernel
theorem dX2_shownBy_19 : decode cX2_shownBy 19 = .ok (.iconst 1, 1) := by decide +kernel
theorem dX2_shownBy_20 : decode cX2_shownBy 20 = .ok (.iand, 1) := by decide +kernel
theorem dX2_shownBy_21 : decode cX2_shownBy 21 = .ok (.ireturn, 1) := by decide +kernel
theorem dX2_bestLook_0 : decode cX2_bestLook 0 = .ok (.iconst (-1), 1) := by decide +kernel
theorem dX2_bestLook_1 : decode cX2_bestLook 1 = .ok (.istore_n 3, 1) := by decide +kernel
theorem dX2_bestLook_2 : decode cX2_bestLook 2 = .ok (.aload_n 0, 1) := by decide +kernel
theorem dX2_bestLook_3 : decode cX2_bestLook 3 = .ok (.getfield 15, 3) := by decide +kernel
theorem dX2_bestLook_6 : decode cX2_bestLook 6 = .ok (.iconst 1, 1) := by decide +kernel
theorem dX2_bestLook_7 : decode cX2_bestLook 7 = .ok (.iadd, 1) := by decide +kernel
theorem dX2_bestLook_8 : decode cX2_bestLook 8 = .ok (.istore 4, 2) := by decide +kernel
theorem dX2_bestLook_10 : decode cX2_bestLook 10 = .ok (.iconst 0, 1) := by decide +kernel
theorem dX2_bestLook_11 : decode cX2_bestLook 11 = .ok (.istore 5, 2) := by decide +kernel
theorem dX2_bestLook_13 : decode cX2_bestLook 13 = .ok (.iload 5, 2) := by decide +kernel
theorem dX2_bestLook_15 : decode cX2_bestLook 15 = .ok (.iload_n 1, 1) := by decide +kernel
theorem dX2_bestLook_16 : decode cX2_bestLook 16 = .ok (.if_icmp .ge 79, 3) := by decide +kernel
theorem dX2_bestLook_19 : decode cX2_bestLook 19 = .ok (.iconst 0, 1) := by decide +kernel
theorem dX2_bestLook_20 : decode cX2_bestLook 20 = .ok (.istore 6, 2) := by decide +kernel
theorem dX2_bestLook_22 : decode cX2_bestLook 22 = .ok (.iconst 0, 1) := by decide +kernel
theorem dX2_bestLook_23 : decode cX2_bestLook 23 = .ok (.istore 7, 2) := by decide +kernel
theorem dX2_bestLook_25 : decode cX2_bestLook 25 = .ok (.iload 7, 2) := by decide +kernel
theorem dX2_bestLook_27 : decode cX2_bestLook 27 = .ok (.aload_n 0, 1) := by decide +kernel
theorem dX2_bestLook_28 : decode cX2_bestLook 28 = .ok (.getfield 15, 3) := by decide +kernel
theorem dX2_bestLook_31 : decode cX2_bestLook 31 = .ok (.if_icmp .ge 30, 3) := by decide +kernel
theorem dX2_bestLook_34 : decode cX2_bestLook 34 = .ok (.iload 6, 2) := by decide +kernel
theorem dX2_bestLook_36 : decode cX2_bestLook 36 = .ok (.aload_n 0, 1) := by decide +kernel
theorem dX2_bestLook_37 : decode cX2_bestLook 37 = .ok (.getfield 9, 3) := by decide +kernel
theorem dX2_bestLook_40 : decode cX2_bestLook 40 = .ok (.iload 7, 2) := by decide +kernel
theorem dX2_bestLook_42 : decode cX2_bestLook 42 = .ok (.iaload, 1) := by decide +kernel
theorem dX2_bestLook_43 : decode cX2_bestLook 43 = .ok (.iconst 2, 1) := by decide +kernel
theorem dX2_bestLook_44 : decode cX2_bestLook 44 = .ok (.iload_n 1, 1) := by decide +kernel
theorem dX2_bestLook_45 : decode cX2_bestLook 45 = .ok (.imul, 1) := by decide +kernel
theorem dX2_bestLook_46 : decode cX2_bestLook 46 = .ok (.iload 5, 2) := by decide +kernel
theorem dX2_bestLook_48 : decode cX2_bestLook 48 = .ok (.iload_n 2, 1) := by decide +kernel
theorem dX2_bestLook_49 : decode cX2_bestLook 49 = .ok (.invokestatic 53, 3) := by decide +kernel
theorem dX2_bestLook_52 : decode cX2_bestLook 52 = .ok (.iadd, 1) := by decide +kernel
theorem dX2_bestLook_53 : decode cX2_bestLook 53 = .ok (.istore 6, 2) := by decide +kernel
theorem dX2_bestLook_55 : decode cX2_bestLook 55 = .ok (.iinc 7 1, 3) := by decide +kernel
theorem dX2_bestLook_58 : decode cX2_bestLook 58 = .ok (.goto (-33), 3) := by decide +kernel
theorem dX2_bestLook_61 : decode cX2_bestLook 61 = .ok (.iload 6, 2) := by decide +kernel
theorem dX2_bestLook_63 : decode cX2_bestLook 63 = .ok (.aload_n 0, 1) := by decide +kernel
theorem dX2_bestLook_64 : decode cX2_bestLook 64 = .ok (.getfield 15, 3) := by decide +kernel
theorem dX2_bestLook_67 : decode cX2_bestLook 67 = .ok (.iload 6, 2) := by decide +kernel
theorem dX2_bestLook_69 : decode cX2_bestLook 69 = .ok (.isub, 1) := by decide +kernel
theorem dX2_bestLook_70 : decode cX2_bestLook 70 = .ok (.invokestatic 57, 3) := by decide +kernel
theorem dX2_bestLook_73 : decode cX2_bestLook 73 = .ok (.istore 7, 2) := by decide +kernel
theorem dX2_bestLook_75 : decode cX2_bestLook 75 = .ok (.iload 7, 2) := by decide +kernel
theorem dX2_bestLook_77 : decode cX2_bestLook 77 = .ok (.iload 4, 2) := by decide +kernel
theorem dX2_bestLook_79 : decode cX2_bestLook 79 = .ok (.if_icmp .ge 10, 3) := by decide +kernel
theorem dX2_bestLook_82 : decode cX2_bestLook 82 = .ok (.iload 7, 2) := by decide +kernel
theorem dX2_bestLook_84 : decode cX2_bestLook 84 = .ok (.istore 4, 2) := by decide +kernel
theorem dX2_bestLook_86 : decode cX2_bestLook 86 = .ok (.iload 5, 2) := by decide +kernel
theorem dX2_bestLook_88 : decode cX2_bestLook 88 = .ok (.istore_n 3, 1) := by decide +kernel
theorem dX2_bestLook_89 : decode cX2_bestLook 89 = .ok (.iinc 5 1, 3) := by decide +kernel
theorem dX2_bestLook_92 : decode cX2_bestLook 92 = .ok (.goto (-79), 3) := by decide +kernel
theorem dX2_bestLook_95 : decode cX2_bestLook 95 = .ok (.iload_n 3, 1) := by decide +kernel
theorem dX2_bestLook_96 : decode cX2_bestLook 96 = .ok (.ireturn, 1) := by decide +kernel
theorem dX2_failureAt_0 : decode cX2_failureAt 0 = .ok (.iload_n 1, 1) := by decide +kernel
theorem dX2_failureAt_1 : decode cX2_failureAt 1 = .ok (.ifCond .lt 20, 3) := by decide +kernel
theorem dX2_failureAt_4 : decode cX2_failureAt 4 = .ok (.iload_n 1, 1) := by decide +kernel
theorem dX2_failureAt_5 : decode cX2_failureAt 5 = .ok (.aload_n 0, 1) := by decide +kernel
theorem dX2_failureAt_6 : decode cX2_failureAt 6 = .ok (.getfield 15, 3) := by decide +kernel
theorem dX2_failureAt_9 : decode cX2_failureAt 9 = .ok (.if_icmp .ge 12, 3) := by decide +kernel
theorem dX2_failureAt_12 : decode cX2_failureAt 12 = .ok (.aload_n 0, 1) := by decide +kernel
theorem dX2_failureAt_13 : decode cX2_failureAt 13 = .ok (.getfield 9, 3) := by decide +kernel
theorem dX2_failureAt_16 : decode cX2_failureAt 16 = .ok (.iload_n 1, 1) := by decide +kernel
theorem dX2_failureAt_17 : decode cX2_failureAt 17 = .ok (.iaload, 1) := by decide +kernel
theorem dX2_failureAt_18 : decode cX2_failureAt 18 = .ok (.goto 4, 3) := by decide +kernel
theorem dX2_failureAt_21 : decode cX2_failureAt 21 = .ok (.iconst (-1), 1) := by decide +kernel
theorem dX2_failureAt_22 : decode cX2_failureAt 22 = .ok (.ireturn, 1) := by decide +kernel
theorem dX3_init_0 : decode cX3_init 0 = .ok (.aload_n 0, 1) := by decide +kernel
theorem dX3_init_1 : decode cX3_init 1 = .ok (.invokespecial 3, 3) := by decide +kernel
theorem dX3_init_4 : decode cX3_init 4 = .ok (.aload_n 0, 1) := by decide +kernel
theorem dX3_init_5 : decode cX3_init 5 = .ok (.bipush 9, 2) := by decide +kernel
theorem dX3_init_7 : decode cX3_init 7 = .ok (.anewarray 9, 3) := by decide +kernel
theorem dX3_init_10 : decode cX3_init 10 = .ok (.putfield 11, 3) := by decide +kernel
theorem dX3_init_13 : decode cX3_init 13 = .ok (.aload_n 0, 1) := by decide +kernel
theorem dX3_init_14 : decode cX3_init 14 = .ok (.iconst 0, 1) := by decide +kernel
theorem dX3_init_15 : decode cX3_init 15 = .ok (.putfield 17, 3) := by decide +kernel
theorem dX3_init_18 : decode cX3_init 18 = .ok (.iconst 0, 1) := by decide +kernel
theorem dX3_init_19 : decode cX3_init 19 = .ok (.istore_n 2, 1) := by decide +kernel
theorem dX3_init_20 : decode cX3_init 20 = .ok (.iload_n 2, 1) := by decide +kernel
theorem dX3_init_21 : decode cX3_init 21 = .ok (.aload_n 0, 1) := by decide +kernel
theorem dX3_init_22 : decode cX3_init 22 = .ok (.getfield 11, 3) := by decide +kernel
theorem dX3_init_25 : decode cX3_init 25 = .ok (.arraylength, 1) := by decide +kernel
theorem dX3_init_26 : decode cX3_init 26 = .ok (.if_icmp .ge 23, 3) := by decide +kernel
theorem dX3_init_29 : decode cX3_init 29 = .ok (.aload_n 0, 1) := by decide +kernel
theorem dX3_init_30 : decode cX3_init 30 = .ok (.getfield 11, 3) := by decide +kernel
theorem dX3_init_33 : decode cX3_init 33 = .ok (.iload_n 2, 1) := by decide +kernel
theorem dX3_init_34 : decode cX3_init 34 = .ok (.new 9, 3) := by decide +kernel
theorem dX3_init_37 : decode cX3_init 37 = .ok (.dup, 1) := by decide +kernel
theorem dX3_init_38 : decode cX3_init 38 = .ok (.aload_n 1, 1) := by decide +kernel
theorem dX3_init_39 : decode cX3_init 39 = .ok (.invokespecial 21, 3) := by decide +kernel
theorem dX3_init_42 : decode cX3_init 42 = .ok (.aastore, 1) := by decide +kernel
theorem dX3_init_43 : decode cX3_init 43 = .ok (.iinc 2 1, 3) := by decide +kernel
theorem dX3_init_46 : decode cX3_init 46 = .ok (.goto (-26), 3) := by decide +kernel
theorem dX3_init_49 : decode cX3_init 49 = .ok (.return_, 1) := by decide +kernel
theorem dX3_note_0 : decode cX3_note 0 = .ok (.aload_n 0, 1) := by decide +kernel
theorem dX3_note_1 : decode cX3_note 1 = .ok (.getfield 11, 3) := by decide +kernel
theorem dX3_note_4 : decode cX3_note 4 = .ok (.aload_n 0, 1) := by decide +kernel
theorem dX3_note_5 : decode cX3_note 5 = .ok (.getfield 17, 3) := by decide +kernel
theorem dX3_note_8 : decode cX3_note 8 = .ok (.aaload, 1) := by decide +kernel
theorem dX3_note_9 : decode cX3_note 9 = .ok (.aload_n 1, 1) := by decide +kernel
theorem dX3_note_10 : decode cX3_note 10 = .ok (.invokevirtual 24, 3) := by decide +kernel
theorem dX3_note_13 : decode cX3_note 13 = .ok (.return_, 1) := by decide +kernel
theorem dX3_keepNoted_0 : decode cX3_keepNoted 0 = .ok (.aload_n 0, 1) := by decide +kernel
theorem dX3_keepNoted_1 : decode cX3_keepNoted 1 = .ok (.getfield 17, 3) := by decide +kernel
theorem dX3_keepNoted_4 : decode cX3_keepNoted 4 = .ok (.bipush 8, 2) := by decide +kernel
theorem dX3_keepNoted_6 : decode cX3_keepNoted 6 = .ok (.if_icmp .ge 14, 3) := by decide +kernel
theorem dX3_keepNoted_9 : decode cX3_keepNoted 9 = .ok (.aload_n 0, 1) := by decide +kernel
theorem dX3_keepNoted_10 : decode cX3_keepNoted 10 = .ok (.dup, 1) := by decide +kernel
theorem dX3_keepNoted_11 : decode cX3_keepNoted 11 = .ok (.getfield 17, 3) := by decide +kernel
theorem dX3_keepNoted_14 : decode cX3_keepNoted 14 = .ok (.iconst 1, 1) := by decide +kernel
theorem dX3_keepNoted_15 : decode cX3_keepNoted 15 = .ok (.iadd, 1) := by decide +kernel
theorem dX3_keepNoted_16 : decode cX3_keepNoted 16 = .ok (.putfield 17, 3) := by decide +kernel
theorem dX3_keepNoted_19 : decode cX3_keepNoted 19 = .ok (.return_, 1) := by decide +kernel
theorem dX3_keepNoted_20 : decode cX3_keepNoted 20 = .ok (.aload_n 0, 1) := by decide +kernel
theorem dX3_keepNoted_21 : decode cX3_keepNoted 21 = .ok (.getfield 11, 3) := by decide +kernel
theorem dX3_keepNoted_24 : decode cX3_keepNoted 24 = .ok (.iconst 0, 1) := by decide +kernel
theorem dX3_keepNoted_25 : decode cX3_keepNoted 25 = .ok (.aaload, 1) := by decide +kernel
theorem dX3_keepNoted_26 : decode cX3_keepNoted 26 = .ok (.astore_n 1, 1) := by decide +kernel
theorem dX3_keepNoted_27 : decode cX3_keepNoted 27 = .ok (.iconst 0, 1) := by decide +kernel
theorem dX3_keepNoted_28 : decode cX3_keepNoted 28 = .ok (.istore_n 2, 1) := by decide +kernel
theorem dX3_keepNoted_29 : decode cX3_keepNoted 29 = .ok (.iload_n 2, 1) := by decide +kernel
theorem dX3_keepNoted_30 : decode cX3_keepNoted 30 = .ok (.bipush 8, 2) := by decide +kernel
theorem dX3_keepNoted_32 : decode cX3_keepNoted 32 = .ok (.if_icmp .ge 23, 3) := by decide +kernel
theorem dX3_keepNoted_35 : decode cX3_keepNoted 35 = .ok (.aload_n 0, 1) := by decide +kernel
theorem dX3_keepNoted_36 : decode cX3_keepNoted 36 = .ok (.getfield 11, 3) := by decide +kernel
theorem dX3_keepNoted_39 : decode cX3_keepNoted 39 = .ok (.iload_n 2, 1) := by decide +kernel
theorem dX3_keepNoted_40 : decode cX3_keepNoted 40 = .ok (.aload_n 0, 1) := by decide +kernel
theorem dX3_keepNoted_41 : decode cX3_keepNoted 41 = .ok (.getfield 11, 3) := by decide +kernel
theorem dX3_keepNoted_44 : decode cX3_keepNoted 44 = .ok (.iload_n 2, 1) := by decide +kernel
theorem dX3_keepNoted_45 : decode cX3_keepNoted 45 = .ok (.iconst 1, 1) := by decide +kernel
theorem dX3_keepNoted_46 : decode cX3_keepNoted 46 = .ok (.iadd, 1) := by decide +kernel
theorem dX3_keepNoted_47 : decode cX3_keepNoted 47 = .ok (.aaload, 1) := by decide +kernel
theorem dX3_keepNoted_48 : decode cX3_keepNoted 48 = .ok (.aastore, 1) := by decide +kernel
theorem dX3_keepNoted_49 : decode cX3_keepNoted 49 = .ok (.iinc 2 1, 3) := by decide +kernel
theorem dX3_keepNoted_52 : decode cX3_keepNoted 52 = .ok (.goto (-23), 3) := by decide +kernel
theorem dX3_keepNoted_55 : decode cX3_keepNoted 55 = .ok (.aload_n 0, 1) := by decide +kernel
theorem dX3_keepNoted_56 : decode cX3_keepNoted 56 = .ok (.getfield 11, 3) := by decide +kernel
theorem dX3_keepNoted_59 : decode cX3_keepNoted 59 = .ok (.bipush 8, 2) := by decide +kernel
theorem dX3_keepNoted_61 : decode cX3_keepNoted 61 = .ok (.aload_n 1, 1) := by decide +kernel
theorem dX3_keepNoted_62 : decode cX3_keepNoted 62 = .ok (.aastore, 1) := by decide +kernel
theorem dX3_keepNoted_63 : decode cX3_keepNoted 63 = .ok (.return_, 1) := by decide +kernel
theorem dX3_takeBack_0 : decode cX3_takeBack 0 = .ok (.aload_n 0, 1) := by decide +kernel
theorem dX3_takeBack_1 : decode cX3_takeBack 1 = .ok (.getfield 17, 3) := by decide +kernel
theorem dX3_takeBack_4 : decode cX3_takeBack 4 = .ok (.ifCond .ne 5, 3) := by decide +kernel
theorem dX3_takeBack_7 : decode cX3_takeBack 7 = .ok (.iconst (-1), 1) := by decide +kernel
theorem dX3_takeBack_8 : decode cX3_takeBack 8 = .ok (.ireturn, 1) := by decide +kernel
theorem dX3_takeBack_9 : decode cX3_takeBack 9 = .ok (.aload_n 0, 1) := by decide +kernel
theorem dX3_takeBack_10 : decode cX3_takeBack 10 = .ok (.dup, 1) := by decide +kernel
theorem dX3_takeBack_11 : decode cX3_takeBack 11 = .ok (.getfield 17, 3) := by decide +kernel
theorem dX3_takeBack_14 : decode cX3_takeBack 14 = .ok (.iconst 1, 1) := by decide +kernel
theorem dX3_takeBack_15 : decode cX3_takeBack 15 = .ok (.isub, 1) := by decide +kernel
theorem dX3_takeBack_16 : decode cX3_takeBack 16 = .ok (.putfield 17, 3) := by decide +kernel
theorem dX3_takeBack_19 : decode cX3_takeBack 19 = .ok (.aload_n 1, 1) := by decide +kernel
theorem dX3_takeBack_20 : decode cX3_takeBack 20 = .ok (.aload_n 0, 1) := by decide +kernel
theorem dX3_takeBack_21 : decode cX3_takeBack 21 = .ok (.getfield 11, 3) := by decide +kernel
theorem dX3_takeBack_24 : decode cX3_takeBack 24 = .ok (.aload_n 0, 1) := by decide +kernel
theorem dX3_takeBack_25 : decode cX3_takeBack 25 = .ok (.getfield 17, 3) := by decide +kernel
theorem dX3_takeBack_28 : decode cX3_takeBack 28 = .ok (.aaload, 1) := by decide +kernel
theorem dX3_takeBack_29 : decode cX3_takeBack 29 = .ok (.invokevirtual 24, 3) := by decide +kernel
theorem dX3_takeBack_32 : decode cX3_takeBack 32 = .ok (.aload_n 0, 1) := by decide +kernel
theorem dX3_takeBack_33 : decode cX3_takeBack 33 = .ok (.getfield 17, 3) := by decide +kernel
theorem dX3_takeBack_36 : decode cX3_takeBack 36 = .ok (.ireturn, 1) := by decide +kernel
theorem dX4_init_0 : decode cX4_init 0 = .ok (.aload_n 0, 1) := by decide +kernel
theorem dX4_init_1 : decode cX4_init 1 = .ok (.invokespecial 1, 3) := by decide +kernel
theorem dX4_init_4 : decode cX4_init 4 = .ok (.aload_n 0, 1) := by decide +kernel
theorem dX4_init_5 : decode cX4_init 5 = .ok (.new 7, 3) := by decide +kernel
theorem dX4_init_8 : decode cX4_init 8 = .ok (.dup, 1) := by decide +kernel
theorem dX4_init_9 : decode cX4_init 9 = .ok (.invokespecial 9, 3) := by decide +kernel
theorem dX4_init_12 : decode cX4_init 12 = .ok (.putfield 10, 3) := by decide +kernel
theorem dX4_init_15 : decode cX4_init 15 = .ok (.aload_n 0, 1) := by decide +kernel
theorem dX4_init_16 : decode cX4_init 16 = .ok (.new 16, 3) := by decide +kernel
theorem dX4_init_19 : decode cX4_init 19 = .ok (.dup, 1) := by decide +kernel
theorem dX4_init_20 : decode cX4_init 20 = .ok (.invokespecial 18, 3) := by decide +kernel
theorem dX4_init_23 : decode cX4_init 23 = .ok (.putfield 19, 3) := by decide +kernel
theorem dX4_init_26 : decode cX4_init 26 = .ok (.aload_n 0, 1) := by decide +kernel
theorem dX4_init_27 : decode cX4_init 27 = .ok (.iconst 0, 1) := by decide +kernel
theorem dX4_init_28 : decode cX4_init 28 = .ok (.putfield 23, 3) := by decide +kernel
theorem dX4_init_31 : decode cX4_init 31 = .ok (.aload_n 0, 1) := by decide +kernel
theorem dX4_init_32 : decode cX4_init 32 = .ok (.new 27, 3) := by decide +kernel
theorem dX4_init_35 : decode cX4_init 35 = .ok (.dup, 1) := by decide +kernel
theorem dX4_init_36 : decode cX4_init 36 = .ok (.aload_n 1, 1) := by decide +kernel
theorem dX4_init_37 : decode cX4_init 37 = .ok (.invokespecial 29, 3) := by decide +kernel
theorem dX4_init_40 : decode cX4_init 40 = .ok (.putfield 32, 3) := by decide +kernel
theorem dX4_init_43 : decode cX4_init 43 = .ok (.return_, 1) := by decide +kernel
theorem dX4_keep_0 : decode cX4_keep 0 = .ok (.aload_n 0, 1) := by decide +kernel
theorem dX4_keep_1 : decode cX4_keep 1 = .ok (.getfield 10, 3) := by decide +kernel
theorem dX4_keep_4 : decode cX4_keep 4 = .ok (.aload_n 1, 1) := by decide +kernel
theorem dX4_keep_5 : decode cX4_keep 5 = .ok (.invokevirtual 36, 3) := by decide +kernel
theorem dX4_keep_8 : decode cX4_keep 8 = .ok (.aload_n 0, 1) := by decide +kernel
theorem dX4_keep_9 : decode cX4_keep 9 = .ok (.getfield 32, 3) := by decide +kernel
theorem dX4_keep_12 : decode cX4_keep 12 = .ok (.aload_n 2, 1) := by decide +kernel
theorem dX4_keep_13 : decode cX4_keep 13 = .ok (.invokevirtual 39, 3) := by decide +kernel
theorem dX4_keep_16 : decode cX4_keep 16 = .ok (.aload_n 0, 1) := by decide +kernel
theorem dX4_keep_17 : decode cX4_keep 17 = .ok (.getfield 19, 3) := by decide +kernel
theorem dX4_keep_20 : decode cX4_keep 20 = .ok (.aload_n 3, 1) := by decide +kernel
theorem dX4_keep_21 : decode cX4_keep 21 = .ok (.invokevirtual 42, 3) := by decide +kernel
theorem dX4_keep_24 : decode cX4_keep 24 = .ok (.aload_n 0, 1) := by decide +kernel
theorem dX4_keep_25 : decode cX4_keep 25 = .ok (.iconst 1, 1) := by decide +kernel
theorem dX4_keep_26 : decode cX4_keep 26 = .ok (.putfield 23, 3) := by decide +kernel
theorem dX4_keep_29 : decode cX4_keep 29 = .ok (.return_, 1) := by decide +kernel
theorem dX4_giveBack_0 : decode cX4_giveBack 0 = .ok (.aload_n 1, 1) := by decide +kernel
theorem dX4_giveBack_1 : decode cX4_giveBack 1 = .ok (.aload_n 0, 1) := by decide +kernel
theorem dX4_giveBack_2 : decode cX4_giveBack 2 = .ok (.getfield 10, 3) := by decide +kernel
theorem dX4_giveBack_5 : decode cX4_giveBack 5 = .ok (.invokevirtual 36, 3) := by decide +kernel
theorem dX4_giveBack_8 : decode cX4_giveBack 8 = .ok (.aload_n 2, 1) := by decide +kernel
theorem dX4_giveBack_9 : decode cX4_giveBack 9 = .ok (.aload_n 0, 1) := by decide +kernel
theorem dX4_giveBack_10 : decode cX4_giveBack 10 = .ok (.getfield 32, 3) := by decide +kernel
theorem dX4_giveBack_13 : decode cX4_giveBack 13 = .ok (.invokevirtual 39, 3) := by decide +kernel
theorem dX4_giveBack_16 : decode cX4_giveBack 16 = .ok (.aload_n 3, 1) := by decide +kernel
theorem dX4_giveBack_17 : decode cX4_giveBack 17 = .ok (.aload_n 0, 1) := by decide +kernel
theorem dX4_giveBack_18 : decode cX4_giveBack 18 = .ok (.getfield 19, 3) := by decide +kernel
theorem dX4_giveBack_21 : decode cX4_giveBack 21 = .ok (.invokevirtual 42, 3) := by decide +kernel
theorem dX4_giveBack_24 : decode cX4_giveBack 24 = .ok (.return_, 1) := by decide +kernel
theorem dX5_init_0 : decode cX5_init 0 = .ok (.aload_n 0, 1) := by decide +kernel
theorem dX5_init_1 : decode cX5_init 1 = .ok (.invokespecial 3, 3) := by decide +kernel
theorem dX5_init_4 : decode cX5_init 4 = .ok (.aload_n 0, 1) := by decide +kernel
theorem dX5_init_5 : decode cX5_init 5 = .ok (.bipush 8, 2) := by decide +kernel
theorem dX5_init_7 : decode cX5_init 7 = .ok (.newarray .int, 2) := by decide +kernel
theorem dX5_init_9 : decode cX5_init 9 = .ok (.putfield 9, 3) := by decide +kernel
theorem dX5_init_12 : decode cX5_init 12 = .ok (.aload_n 0, 1) := by decide +kernel
theorem dX5_init_13 : decode cX5_init 13 = .ok (.bipush 96, 2) := by decide +kernel
theorem dX5_init_15 : decode cX5_init 15 = .ok (.newarray .long, 2) := by decide +kernel
theorem dX5_init_17 : decode cX5_init 17 = .ok (.putfield 15, 3) := by decide +kernel
theorem dX5_init_20 : decode cX5_init 20 = .ok (.aload_n 0, 1) := by decide +kernel
theorem dX5_init_21 : decode cX5_init 21 = .ok (.bipush 12, 2) := by decide +kernel
theorem dX5_init_23 : decode cX5_init 23 = .ok (.newarray .int, 2) := by decide +kernel
theorem dX5_init_25 : decode cX5_init 25 = .ok (.putfield 19, 3) := by decide +kernel
theorem dX5_init_28 : decode cX5_init 28 = .ok (.aload_n 0, 1) := by decide +kernel
theorem dX5_init_29 : decode cX5_init 29 = .ok (.bipush 6, 2) := by decide +kernel
theorem dX5_init_31 : decode cX5_init 31 = .ok (.newarray .int, 2) := by decide +kernel
theorem dX5_init_33 : decode cX5_init 33 = .ok (.putfield 22, 3) := by decide +kernel
theorem dX5_init_36 : decode cX5_init 36 = .ok (.aload_n 0, 1) := by decide +kernel
theorem dX5_init_37 : decode cX5_init 37 = .ok (.bipush 16, 2) := by decide +kernel
theorem dX5_init_39 : decode cX5_init 39 = .ok (.newarray .int, 2) := by decide +kernel
theorem dX5_init_41 : decode cX5_init 41 = .ok (.putfield 25, 3) := by decide +kernel
theorem dX5_init_44 : decode cX5_init 44 = .ok (.aload_n 0, 1) := by decide +kernel
theorem dX5_init_45 : decode cX5_init 45 = .ok (.bipush 16, 2) := by decide +kernel
theorem dX5_init_47 : decode cX5_init 47 = .ok (.newarray .int, 2) := by decide +kernel
theorem dX5_init_49 : decode cX5_init 49 = .ok (.putfield 28, 3) := by decide +kernel
theorem dX5_init_52 : decode cX5_init 52 = .ok (.aload_n 0, 1) := by decide +kernel
theorem dX5_init_53 : decode cX5_init 53 = .ok (.bipush 16, 2) := by decide +kernel
theorem dX5_init_55 : decode cX5_init 55 = .ok (.newarray .int, 2) := by decide +kernel
theorem dX5_init_57 : decode cX5_init 57 = .ok (.putfield 31, 3) := by decide +kernel
theorem dX5_init_60 : decode cX5_init 60 = .ok (.aload_n 0, 1) := by decide +kernel
theorem dX5_init_61 : decode cX5_init 61 = .ok (.bipush 16, 2) := by decide +kernel
theorem dX5_init_63 : decode cX5_init 63 = .ok (.newarray .int, 2) := by decide +kernel
theorem dX5_init_65 : decode cX5_init 65 = .ok (.putfield 34, 3) := by decide +kernel
theorem dX5_init_68 : decode cX5_init 68 = .ok (.aload_n 0, 1) := by decide +kernel
theorem dX5_init_69 : decode cX5_init 69 = .ok (.bipush 8, 2) := by decide +kernel
theorem dX5_init_71 : decode cX5_init 71 = .ok (.newarray .int, 2) := by decide +kernel
theorem dX5_init_73 : decode cX5_init 73 = .ok (.putfield 37, 3) := by decide +kernel
theorem dX5_init_76 : decode cX5_init 76 = .ok (.aload_n 0, 1) := by decide +kernel
theorem dX5_init_77 : decode cX5_init 77 = .ok (.bipush 8, 2) := by decide +kernel
theorem dX5_init_79 : decode cX5_init 79 = .ok (.newarray .int, 2) := by decide +kernel
theorem dX5_init_81 : decode cX5_init 81 = .ok (.putfield 40, 3) := by decide +kernel
theorem dX5_init_84 : decode cX5_init 84 = .ok (.aload_n 0, 1) := by decide +kernel
theorem dX5_init_85 : decode cX5_init 85 = .ok (.bipush 10, 2) := by decide +kernel
theorem dX5_init_87 : decode cX5_init 87 = .ok (.newarray .int, 2) := by decide +kernel
theorem dX5_init_89 : decode cX5_init 89 = .ok (.putfield 43, 3) := by decide +kernel
theorem dX5_init_92 : decode cX5_init 92 = .ok (.aload_n 0, 1) := by decide +kernel
theorem dX5_init_93 : decode cX5_init 93 = .ok (.bipush 10, 2) := by decide +kernel
theorem dX5_init_95 : decode cX5_init 95 = .ok (.newarray .int, 2) := by decide +kernel
theorem dX5_init_97 : decode cX5_init 97 = .ok (.putfield 46, 3) := by decide +kernel
theorem dX5_init_100 : decode cX5_init 100 = .ok (.aload_n 0, 1) := by decide +kernel
theorem dX5_init_101 : decode cX5_init 101 = .ok (.bipush 60, 2) := by decide +kernel
theorem dX5_init_103 : decode cX5_init 103 = .ok (.newarray .int, 2) := by decide +kernel
theorem dX5_init_105 : decode cX5_init 105 = .ok (.putfield 49, 3) := by decide +kernel
theorem dX5_init_108 : decode cX5_init 108 = .ok (.aload_n 0, 1) := by decide +kernel
theorem dX5_init_109 : decode cX5_init 109 = .ok (.bipush 10, 2) := by decide +kernel
theorem dX5_init_111 : decode cX5_init 111 = .ok (.newarray .int, 2) := by decide +kernel
theorem dX5_init_113 : decode cX5_init 113 = .ok (.putfield 52, 3) := by decide +kernel
theorem dX5_init_116 : decode cX5_init 116 = .ok (.aload_n 0, 1) := by decide +kernel
theorem dX5_init_117 : decode cX5_init 117 = .ok (.bipush 10, 2) := by decide +kernel
theorem dX5_init_119 : decode cX5_init 119 = .ok (.newarray .int, 2) := by decide +kernel
theorem dX5_init_121 : decode cX5_init 121 = .ok (.putfield 55, 3) := by decide +kernel
theorem dX5_init_124 : decode cX5_init 124 = .ok (.aload_n 0, 1) := by decide +kernel
theorem dX5_init_125 : decode cX5_init 125 = .ok (.bipush 10, 2) := by decide +kernel
theorem dX5_init_127 : decode cX5_init 127 = .ok (.newarray .int, 2) := by decide +kernel
theorem dX5_init_129 : decode cX5_init 129 = .ok (.putfield 58, 3) := by decide +kernel
theorem dX5_init_132 : decode cX5_init 132 = .ok (.aload_n 0, 1) := by decide +kernel
theorem dX5_init_133 : decode cX5_init 133 = .ok (.bipush 10, 2) := by decide +kernel
theorem dX5_init_135 : decode cX5_init 135 = .ok (.newarray .int, 2) := by decide +kernel
theorem dX5_init_137 : decode cX5_init 137 = .ok (.putfield 61, 3) := by decide +kernel
theorem dX5_init_140 : decode cX5_init 140 = .ok (.aload_n 0, 1) := by decide +kernel
theorem dX5_init_141 : decode cX5_init 141 = .ok (.bipush 10, 2) := by decide +kernel
theorem dX5_init_143 : decode cX5_init 143 = .ok (.newarray .int, 2) := by decide +kernel
theorem dX5_init_145 : decode cX5_init 145 = .ok (.putfield 64, 3) := by decide +kernel
theorem dX5_init_148 : decode cX5_init 148 = .ok (.aload_n 0, 1) := by decide +kernel
theorem dX5_init_149 : decode cX5_init 149 = .ok (.iconst 5, 1) := by decide +kernel
theorem dX5_init_150 : decode cX5_init 150 = .ok (.newarray .int, 2) := by decide +kernel
theorem dX5_init_152 : decode cX5_init 152 = .ok (.putfield 67, 3) := by decide +kernel
theorem dX5_init_155 : decode cX5_init 155 = .ok (.aload_n 0, 1) := by decide +kernel
theorem dX5_init_156 : decode cX5_init 156 = .ok (.iconst 5, 1) := by decide +kernel
theorem dX5_init_157 : decode cX5_init 157 = .ok (.newarray .int, 2) := by decide +kernel
theorem dX5_init_159 : decode cX5_init 159 = .ok (.putfield 70, 3) := by decide +kernel
theorem dX5_init_162 : decode cX5_init 162 = .ok (.aload_n 0, 1) := by decide +kernel
theorem dX5_init_163 : decode cX5_init 163 = .ok (.getfield 9, 3) := by decide +kernel
theorem dX5_init_166 : decode cX5_init 166 = .ok (.bipush 7, 2) := by decide +kernel
theorem dX5_init_168 : decode cX5_init 168 = .ok (.iconst 3, 1) := by decide +kernel
theorem dX5_init_169 : decode cX5_init 169 = .ok (.iastore, 1) := by decide +kernel
theorem dX5_init_170 : decode cX5_init 170 = .ok (.return_, 1) := by decide +kernel
theorem dX5_empty_0 : decode cX5_empty 0 = .ok (.aload_n 0, 1) := by decide +kernel
theorem dX5_empty_1 : decode cX5_empty 1 = .ok (.getfield 9, 3) := by decide +kernel
theorem dX5_empty_4 : decode cX5_empty 4 = .ok (.iconst 0, 1) := by decide +kernel
theorem dX5_empty_5 : decode cX5_empty 5 = .ok (.invokestatic 73, 3) := by decide +kernel
theorem dX5_empty_8 : decode cX5_empty 8 = .ok (.aload_n 0, 1) := by decide +kernel
theorem dX5_empty_9 : decode cX5_empty 9 = .ok (.getfield 9, 3) := by decide +kernel
theorem dX5_empty_12 : decode cX5_empty 12 = .ok (.bipush 7, 2) := by decide +kernel
theorem dX5_empty_14 : decode cX5_empty 14 = .ok (.iconst 3, 1) := by decide +kernel
theorem dX5_empty_15 : decode cX5_empty 15 = .ok (.iastore, 1) := by decide +kernel
theorem dX5_empty_16 : decode cX5_empty 16 = .ok (.return_, 1) := by decide +kernel
theorem dX5_copyFrom_0 : decode cX5_copyFrom 0 = .ok (.aload_n 1, 1) := by decide +kernel
theorem dX5_copyFrom_1 : decode cX5_copyFrom 1 = .ok (.getfield 9, 3) := by decide +kernel
theorem dX5_copyFrom_4 : decode cX5_copyFrom 4 = .ok (.aload_n 0, 1) := by decide +kernel
theorem dX5_copyFrom_5 : decode cX5_copyFrom 5 = .ok (.getfield 9, 3) := by decide +kernel
theorem dX5_copyFrom_8 : decode cX5_copyFrom 8 = .ok (.invokestatic 79, 3) := by decide +kernel
theorem dX5_copyFrom_11 : decode cX5_copyFrom 11 = .ok (.aload_n 1, 1) := by decide +kernel
theorem dX5_copyFrom_12 : decode cX5_copyFrom 12 = .ok (.getfield 15, 3) := by decide +kernel
theorem dX5_copyFrom_15 : decode cX5_copyFrom 15 = .ok (.iconst 0, 1) := by decide +kernel
theorem dX5_copyFrom_16 : decode cX5_copyFrom 16 = .ok (.aload_n 0, 1) := by decide +kernel
theorem dX5_copyFrom_17 : decode cX5_copyFrom 17 = .ok (.getfield 15, 3) := by decide +kernel
theorem dX5_copyFrom_20 : decode cX5_copyFrom 20 = .ok (.iconst 0, 1) := by decide +kernel
theorem dX5_copyFrom_21 : decode cX5_copyFrom 21 = .ok (.aload_n 0, 1) := by decide +kernel
theorem dX5_copyFrom_22 : decode cX5_copyFrom 22 = .ok (.getfield 15, 3) := by decide +kernel
theorem dX5_copyFrom_25 : decode cX5_copyFrom 25 = .ok (.arraylength, 1) := by decide +kernel
theorem dX5_copyFrom_26 : decode cX5_copyFrom 26 = .ok (.invokestatic 83, 3) := by decide +kernel
theorem dX5_copyFrom_29 : decode cX5_copyFrom 29 = .ok (.aload_n 1, 1) := by decide +kernel
theorem dX5_copyFrom_30 : decode cX5_copyFrom 30 = .ok (.getfield 19, 3) := by decide +kernel
theorem dX5_copyFrom_33 : decode cX5_copyFrom 33 = .ok (.aload_n 0, 1) := by decide +kernel
theorem dX5_copyFrom_34 : decode cX5_copyFrom 34 = .ok (.getfield 19, 3) := by decide +kernel
theorem dX5_copyFrom_37 : decode cX5_copyFrom 37 = .ok (.invokestatic 79, 3) := by decide +kernel
theorem dX5_copyFrom_40 : decode cX5_copyFrom 40 = .ok (.aload_n 1, 1) := by decide +kernel
theorem dX5_copyFrom_41 : decode cX5_copyFrom 41 = .ok (.getfield 22, 3) := by decide +kernel
theorem dX5_copyFrom_44 : decode cX5_copyFrom 44 = .ok (.aload_n 0, 1) := by decide +kernel
theorem dX5_copyFrom_45 : decode cX5_copyFrom 45 = .ok (.getfield 22, 3) := by decide +kernel
theorem dX5_copyFrom_48 : decode cX5_copyFrom 48 = .ok (.invokestatic 79, 3) := by decide +kernel
theorem dX5_copyFrom_51 : decode cX5_copyFrom 51 = .ok (.aload_n 1, 1) := by decide +kernel
theorem dX5_copyFrom_52 : decode cX5_copyFrom 52 = .ok (.getfield 25, 3) := by decide +kernel
theorem dX5_copyFrom_55 : decode cX5_copyFrom 55 = .ok (.aload_n 0, 1) := by decide +kernel
theorem dX5_copyFrom_56 : decode cX5_copyFrom 56 = .ok (.getfield 25, 3) := by decide +kernel
theorem dX5_copyFrom_59 : decode cX5_copyFrom 59 = .ok (.invokestatic 79, 3) := by decide +kernel
theorem dX5_copyFrom_62 : decode cX5_copyFrom 62 = .ok (.aload_n 1, 1) := by decide +kernel
theorem dX5_copyFrom_63 : decode cX5_copyFrom 63 = .ok (.getfield 28, 3) := by decide +kernel
theorem dX5_copyFrom_66 : decode cX5_copyFrom 66 = .ok (.aload_n 0, 1) := by decide +kernel
theorem dX5_copyFrom_67 : decode cX5_copyFrom 67 = .ok (.getfield 28, 3) := by decide +kernel
theorem dX5_copyFrom_70 : decode cX5_copyFrom 70 = .ok (.invokestatic 79, 3) := by decide +kernel
theorem dX5_copyFrom_73 : decode cX5_copyFrom 73 = .ok (.aload_n 1, 1) := by decide +kernel
theorem dX5_copyFrom_74 : decode cX5_copyFrom 74 = .ok (.getfield 31, 3) := by decide +kernel
theorem dX5_copyFrom_77 : decode cX5_copyFrom 77 = .ok (.aload_n 0, 1) := by decide +kernel
theorem dX5_copyFrom_78 : decode cX5_copyFrom 78 = .ok (.getfield 31, 3) := by decide +kernel
theorem dX5_copyFrom_81 : decode cX5_copyFrom 81 = .ok (.invokestatic 79, 3) := by decide +kernel
theorem dX5_copyFrom_84 : decode cX5_copyFrom 84 = .ok (.aload_n 1, 1) := by decide +kernel
theorem dX5_copyFrom_85 : decode cX5_copyFrom 85 = .ok (.getfield 34, 3) := by decide +kernel
theorem dX5_copyFrom_88 : decode cX5_copyFrom 88 = .ok (.aload_n 0, 1) := by decide +kernel
theorem dX5_copyFrom_89 : decode cX5_copyFrom 89 = .ok (.getfield 34, 3) := by decide +kernel
theorem dX5_copyFrom_92 : decode cX5_copyFrom 92 = .ok (.invokestatic 79, 3) := by decide +kernel
theorem dX5_copyFrom_95 : decode cX5_copyFrom 95 = .ok (.aload_n 1, 1) := by decide +kernel
theorem dX5_copyFrom_96 : decode cX5_copyFrom 96 = .ok (.getfield 37, 3) := by decide +kernel
theorem dX5_copyFrom_99 : decode cX5_copyFrom 99 = .ok (.aload_n 0, 1) := by decide +kernel
theorem dX5_copyFrom_100 : decode cX5_copyFrom 100 = .ok (.getfield 37, 3) := by decide +kernel
theorem dX5_copyFrom_103 : decode cX5_copyFrom 103 = .ok (.invokestatic 79, 3) := by decide +kernel
theorem dX5_copyFrom_106 : decode cX5_copyFrom 106 = .ok (.aload_n 1, 1) := by decide +kernel
theorem dX5_copyFrom_107 : decode cX5_copyFrom 107 = .ok (.getfield 40, 3) := by decide +kernel
theorem dX5_copyFrom_110 : decode cX5_copyFrom 110 = .ok (.aload_n 0, 1) := by decide +kernel
theorem dX5_copyFrom_111 : decode cX5_copyFrom 111 = .ok (.getfield 40, 3) := by decide +kernel
theorem dX5_copyFrom_114 : decode cX5_copyFrom 114 = .ok (.invokestatic 79, 3) := by decide +kernel
theorem dX5_copyFrom_117 : decode cX5_copyFrom 117 = .ok (.aload_n 1, 1) := by decide +kernel
theorem dX5_copyFrom_118 : decode cX5_copyFrom 118 = .ok (.getfield 43, 3) := by decide +kernel
theorem dX5_copyFrom_121 : decode cX5_copyFrom 121 = .ok (.aload_n 0, 1) := by decide +kernel
theorem dX5_copyFrom_122 : decode cX5_copyFrom 122 = .ok (.getfield 43, 3) := by decide +kernel
theorem dX5_copyFrom_125 : decode cX5_copyFrom 125 = .ok (.invokestatic 79, 3) := by decide +kernel
theorem dX5_copyFrom_128 : decode cX5_copyFrom 128 = .ok (.aload_n 1, 1) := by decide +kernel
theorem dX5_copyFrom_129 : decode cX5_copyFrom 129 = .ok (.getfield 46, 3) := by decide +kernel
theorem dX5_copyFrom_132 : decode cX5_copyFrom 132 = .ok (.aload_n 0, 1) := by decide +kernel
theorem dX5_copyFrom_133 : decode cX5_copyFrom 133 = .ok (.getfield 46, 3) := by decide +kernel
theorem dX5_copyFrom_136 : decode cX5_copyFrom 136 = .ok (.invokestatic 79, 3) := by decide +kernel
theorem dX5_copyFrom_139 : decode cX5_copyFrom 139 = .ok (.aload_n 1, 1) := by decide +kernel
theorem dX5_copyFrom_140 : decode cX5_copyFrom 140 = .ok (.getfield 49, 3) := by decide +kernel
theorem dX5_copyFrom_143 : decode cX5_copyFrom 143 = .ok (.aload_n 0, 1) := by decide +kernel
theorem dX5_copyFrom_144 : decode cX5_copyFrom 144 = .ok (.getfield 49, 3) := by decide +kernel
theorem dX5_copyFrom_147 : decode cX5_copyFrom 147 = .ok (.invokestatic 79, 3) := by decide +kernel
theorem dX5_copyFrom_150 : decode cX5_copyFrom 150 = .ok (.aload_n 1, 1) := by decide +kernel
theorem dX5_copyFrom_151 : decode cX5_copyFrom 151 = .ok (.getfield 52, 3) := by decide +kernel
theorem dX5_copyFrom_154 : decode cX5_copyFrom 154 = .ok (.aload_n 0, 1) := by decide +kernel
theorem dX5_copyFrom_155 : decode cX5_copyFrom 155 = .ok (.getfield 52, 3) := by decide +kernel
theorem dX5_copyFrom_158 : decode cX5_copyFrom 158 = .ok (.invokestatic 79, 3) := by decide +kernel
theorem dX5_copyFrom_161 : decode cX5_copyFrom 161 = .ok (.aload_n 1, 1) := by decide +kernel
theorem dX5_copyFrom_162 : decode cX5_copyFrom 162 = .ok (.getfield 55, 3) := by decide +kernel
theorem dX5_copyFrom_165 : decode cX5_copyFrom 165 = .ok (.aload_n 0, 1) := by decide +kernel
theorem dX5_copyFrom_166 : decode cX5_copyFrom 166 = .ok (.getfield 55, 3) := by decide +kernel
theorem dX5_copyFrom_169 : decode cX5_copyFrom 169 = .ok (.invokestatic 79, 3) := by decide +kernel
theorem dX5_copyFrom_172 : decode cX5_copyFrom 172 = .ok (.aload_n 1, 1) := by decide +kernel
theorem dX5_copyFrom_173 : decode cX5_copyFrom 173 = .ok (.getfield 58, 3) := by decide +kernel
theorem dX5_copyFrom_176 : decode cX5_copyFrom 176 = .ok (.aload_n 0, 1) := by decide +kernel
theorem dX5_copyFrom_177 : decode cX5_copyFrom 177 = .ok (.getfield 58, 3) := by decide +kernel
theorem dX5_copyFrom_180 : decode cX5_copyFrom 180 = .ok (.invokestatic 79, 3) := by decide +kernel
theorem dX5_copyFrom_183 : decode cX5_copyFrom 183 = .ok (.aload_n 1, 1) := by decide +kernel
theorem dX5_copyFrom_184 : decode cX5_copyFrom 184 = .ok (.getfield 61, 3) := by decide +kernel
theorem dX5_copyFrom_187 : decode cX5_copyFrom 187 = .ok (.aload_n 0, 1) := by decide +kernel
theorem dX5_copyFrom_188 : decode cX5_copyFrom 188 = .ok (.getfield 61, 3) := by decide +kernel
theorem dX5_copyFrom_191 : decode cX5_copyFrom 191 = .ok (.invokestatic 79, 3) := by decide +kernel
theorem dX5_copyFrom_194 : decode cX5_copyFrom 194 = .ok (.aload_n 1, 1) := by decide +kernel
theorem dX5_copyFrom_195 : decode cX5_copyFrom 195 = .ok (.getfield 64, 3) := by decide +kernel
theorem dX5_copyFrom_198 : decode cX5_copyFrom 198 = .ok (.aload_n 0, 1) := by decide +kernel
theorem dX5_copyFrom_199 : decode cX5_copyFrom 199 = .ok (.getfield 64, 3) := by decide +kernel
theorem dX5_copyFrom_202 : decode cX5_copyFrom 202 = .ok (.invokestatic 79, 3) := by decide +kernel
theorem dX5_copyFrom_205 : decode cX5_copyFrom 205 = .ok (.aload_n 1, 1) := by decide +kernel
theorem dX5_copyFrom_206 : decode cX5_copyFrom 206 = .ok (.getfield 67, 3) := by decide +kernel
theorem dX5_copyFrom_209 : decode cX5_copyFrom 209 = .ok (.aload_n 0, 1) := by decide +kernel
theorem dX5_copyFrom_210 : decode cX5_copyFrom 210 = .ok (.getfield 67, 3) := by decide +kernel
theorem dX5_copyFrom_213 : decode cX5_copyFrom 213 = .ok (.invokestatic 79, 3) := by decide +kernel
theorem dX5_copyFrom_216 : decode cX5_copyFrom 216 = .ok (.aload_n 1, 1) := by decide +kernel
theorem dX5_copyFrom_217 : decode cX5_copyFrom 217 = .ok (.getfield 70, 3) := by decide +kernel
theorem dX5_copyFrom_220 : decode cX5_copyFrom 220 = .ok (.aload_n 0, 1) := by decide +kernel
theorem dX5_copyFrom_221 : decode cX5_copyFrom 221 = .ok (.getfield 70, 3) := by decide +kernel
theorem dX5_copyFrom_224 : decode cX5_copyFrom 224 = .ok (.invokestatic 79, 3) := by decide +kernel
theorem dX5_copyFrom_227 : decode cX5_copyFrom 227 = .ok (.return_, 1) := by decide +kernel
theorem dX5_has_0 : decode cX5_has 0 = .ok (.iload_n 2, 1) := by decide +kernel
theorem dX5_has_1 : decode cX5_has 1 = .ok (.ifCond .lt 17, 3) := by decide +kernel
theorem dX5_has_4 : decode cX5_has 4 = .ok (.iload_n 2, 1) := by decide +kernel
theorem dX5_has_5 : decode cX5_has 5 = .ok (.aload_n 0, 1) := by decide +kernel
theorem dX5_has_6 : decode cX5_has 6 = .ok (.getfield 9, 3) := by decide +kernel
theorem dX5_has_9 : decode cX5_has 9 = .ok (.iload_n 1, 1) := by decide +kernel
theorem dX5_has_10 : decode cX5_has 10 = .ok (.iaload, 1) := by decide +kernel
theorem dX5_has_11 : decode cX5_has 11 = .ok (.if_icmp .ge 7, 3) := by decide +kernel
theorem dX5_has_14 : decode cX5_has 14 = .ok (.iconst 1, 1) := by decide +kernel
theorem dX5_has_15 : decode cX5_has 15 = .ok (.goto 4, 3) := by decide +kernel
theorem dX5_has_18 : decode cX5_has 18 = .ok (.iconst 0, 1) := by decide +kernel
theorem dX5_has_19 : decode cX5_has 19 = .ok (.ireturn, 1) := by decide +kernel
theorem dX5_nameOf_0 : decode cX5_nameOf 0 = .ok (.aload_n 0, 1) := by decide +kernel
theorem dX5_nameOf_1 : decode cX5_nameOf 1 = .ok (.getfield 15, 3) := by decide +kernel
theorem dX5_nameOf_4 : decode cX5_nameOf 4 = .ok (.iload_n 1, 1) := by decide +kernel
theorem dX5_nameOf_5 : decode cX5_nameOf 5 = .ok (.bipush 12, 2) := by decide +kernel
theorem dX5_nameOf_7 : decode cX5_nameOf 7 = .ok (.imul, 1) := by decide +kernel
theorem dX5_nameOf_8 : decode cX5_nameOf 8 = .ok (.iload_n 2, 1) := by decide +kernel
theorem dX5_nameOf_9 : decode cX5_nameOf 9 = .ok (.iadd, 1) := by decide +kernel
theorem dX5_nameOf_10 : decode cX5_nameOf 10 = .ok (.laload, 1) := by decide +kernel
theorem dX5_nameOf_11 : decode cX5_nameOf 11 = .ok (.lreturn, 1) := by decide +kernel
theorem dX5_addOne_0 : decode cX5_addOne 0 = .ok (.aload_n 0, 1) := by decide +kernel
theorem dX5_addOne_1 : decode cX5_addOne 1 = .ok (.getfield 9, 3) := by decide +kernel
theorem dX5_addOne_4 : decode cX5_addOne 4 = .ok (.iload_n 1, 1) := by decide +kernel
theorem dX5_addOne_5 : decode cX5_addOne 5 = .ok (.iaload, 1) := by decide +kernel
theorem dX5_addOne_6 : decode cX5_addOne 6 = .ok (.istore 4, 2) := by decide +kernel
theorem dX5_addOne_8 : decode cX5_addOne 8 = .ok (.aload_n 0, 1) := by decide +kernel
theorem dX5_addOne_9 : decode cX5_addOne 9 = .ok (.getfield 15, 3) := by decide +kernel
theorem dX5_addOne_12 : decode cX5_addOne 12 = .ok (.iload_n 1, 1) := by decide +kernel
theorem dX5_addOne_13 : decode cX5_addOne 13 = .ok (.bipush 12, 2) := by decide +kernel
theorem dX5_addOne_15 : decode cX5_addOne 15 = .ok (.imul, 1) := by decide +kernel
theorem dX5_addOne_16 : decode cX5_addOne 16 = .ok (.iload 4, 2) := by decide +kernel
theorem dX5_addOne_18 : decode cX5_addOne 18 = .ok (.iadd, 1) := by decide +kernel
theorem dX5_addOne_19 : decode cX5_addOne 19 = .ok (.lload_n 2, 1) := by decide +kernel
theorem dX5_addOne_20 : decode cX5_addOne 20 = .ok (.lastore, 1) := by decide +kernel
theorem dX5_addOne_21 : decode cX5_addOne 21 = .ok (.aload_n 0, 1) := by decide +kernel
theorem dX5_addOne_22 : decode cX5_addOne 22 = .ok (.getfield 9, 3) := by decide +kernel
theorem dX5_addOne_25 : decode cX5_addOne 25 = .ok (.iload_n 1, 1) := by decide +kernel
theorem dX5_addOne_26 : decode cX5_addOne 26 = .ok (.iload 4, 2) := by decide +kernel
theorem dX5_addOne_28 : decode cX5_addOne 28 = .ok (.iconst 1, 1) := by decide +kernel
theorem dX5_addOne_29 : decode cX5_addOne 29 = .ok (.iadd, 1) := by decide +kernel
theorem dX5_addOne_30 : decode cX5_addOne 30 = .ok (.iastore, 1) := by decide +kernel
theorem dX5_addOne_31 : decode cX5_addOne 31 = .ok (.iload 4, 2) := by decide +kernel
theorem dX5_addOne_33 : decode cX5_addOne 33 = .ok (.ireturn, 1) := by decide +kernel
theorem dX5_find_0 : decode cX5_find 0 = .ok (.iconst 0, 1) := by decide +kernel
theorem dX5_find_1 : decode cX5_find 1 = .ok (.istore 4, 2) := by decide +kernel
theorem dX5_find_3 : decode cX5_find 3 = .ok (.iload 4, 2) := by decide +kernel
theorem dX5_find_5 : decode cX5_find 5 = .ok (.aload_n 0, 1) := by decide +kernel
theorem dX5_find_6 : decode cX5_find 6 = .ok (.getfield 9, 3) := by decide +kernel
theorem dX5_find_9 : decode cX5_find 9 = .ok (.iload_n 1, 1) := by decide +kernel
theorem dX5_find_10 : decode cX5_find 10 = .ok (.iaload, 1) := by decide +kernel
theorem dX5_find_11 : decode cX5_find 11 = .ok (.if_icmp .ge 36, 3) := by decide +kernel
theorem dX5_find_14 : decode cX5_find 14 = .ok (.iload 4, 2) := by decide +kernel
theorem dX5_find_16 : decode cX5_find 16 = .ok (.bipush 12, 2) := by decide +kernel
theorem dX5_find_18 : decode cX5_find 18 = .ok (.if_icmp .ge 29, 3) := by decide +kernel
theorem dX5_find_21 : decode cX5_find 21 = .ok (.aload_n 0, 1) := by decide +kernel
theorem dX5_find_22 : decode cX5_find 22 = .ok (.getfield 15, 3) := by decide +kernel
theorem dX5_find_25 : decode cX5_find 25 = .ok (.iload_n 1, 1) := by decide +kernel
theorem dX5_find_26 : decode cX5_find 26 = .ok (.bipush 12, 2) := by decide +kernel
theorem dX5_find_28 : decode cX5_find 28 = .ok (.imul, 1) := by decide +kernel
theorem dX5_find_29 : decode cX5_find 29 = .ok (.iload 4, 2) := by decide +kernel
theorem dX5_find_31 : decode cX5_find 31 = .ok (.iadd, 1) := by decide +kernel
theorem dX5_find_32 : decode cX5_find 32 = .ok (.laload, 1) := by decide +kernel
theorem dX5_find_33 : decode cX5_find 33 = .ok (.lload_n 2, 1) := by decide +kernel
theorem dX5_find_34 : decode cX5_find 34 = .ok (.lcmp, 1) := by decide +kernel
theorem dX5_find_35 : decode cX5_find 35 = .ok (.ifCond .ne 6, 3) := by decide +kernel
theorem dX5_find_38 : decode cX5_find 38 = .ok (.iload 4, 2) := by decide +kernel
theorem dX5_find_40 : decode cX5_find 40 = .ok (.ireturn, 1) := by decide +kernel
theorem dX5_find_41 : decode cX5_find 41 = .ok (.iinc 4 1, 3) := by decide +kernel
theorem dX5_find_44 : decode cX5_find 44 = .ok (.goto (-41), 3) := by decide +kernel
theorem dX5_find_47 : decode cX5_find 47 = .ok (.iconst (-1), 1) := by decide +kernel
theorem dX5_find_48 : decode cX5_find 48 = .ok (.ireturn, 1) := by decide +kernel
theorem dX5_knows_0 : decode cX5_knows 0 = .ok (.aload_n 0, 1) := by decide +kernel
theorem dX5_knows_1 : decode cX5_knows 1 = .ok (.iconst 0, 1) := by decide +kernel
theorem dX5_knows_2 : decode cX5_knows 2 = .ok (.lload_n 1, 1) := by decide +kernel
theorem dX5_knows_3 : decode cX5_knows 3 = .ok (.invokevirtual 89, 3) := by decide +kernel
theorem dX5_knows_6 : decode cX5_knows 6 = .ok (.iconst (-1), 1) := by decide +kernel
theorem dX5_knows_7 : decode cX5_knows 7 = .ok (.if_icmp .ne 44, 3) := by decide +kernel
theorem dX5_knows_10 : decode cX5_knows 10 = .ok (.aload_n 0, 1) := by decide +kernel
theorem dX5_knows_11 : decode cX5_knows 11 = .ok (.iconst 1, 1) := by decide +kernel
theorem dX5_knows_12 : decode cX5_knows 12 = .ok (.lload_n 1, 1) := by decide +kernel
theorem dX5_knows_13 : decode cX5_knows 13 = .ok (.invokevirtual 89, 3) := by decide +kernel
theorem dX5_knows_16 : decode cX5_knows 16 = .ok (.iconst (-1), 1) := by decide +kernel
theorem dX5_knows_17 : decode cX5_knows 17 = .ok (.if_icmp .ne 34, 3) := by decide +kernel
theorem dX5_knows_20 : decode cX5_knows 20 = .ok (.aload_n 0, 1) := by decide +kernel
theorem dX5_knows_21 : decode cX5_knows 21 = .ok (.iconst 3, 1) := by decide +kernel
theorem dX5_knows_22 : decode cX5_knows 22 = .ok (.lload_n 1, 1) := by decide +kernel
theorem dX5_knows_23 : decode cX5_knows 23 = .ok (.invokevirtual 89, 3) := by decide +kernel
theorem dX5_knows_26 : decode cX5_knows 26 = .ok (.iconst (-1), 1) := by decide +kernel
theorem dX5_knows_27 : decode cX5_knows 27 = .ok (.if_icmp .ne 24, 3) := by decide +kernel
theorem dX5_knows_30 : decode cX5_knows 30 = .ok (.aload_n 0, 1) := by decide +kernel
theorem dX5_knows_31 : decode cX5_knows 31 = .ok (.iconst 4, 1) := by decide +kernel
theorem dX5_knows_32 : decode cX5_knows 32 = .ok (.lload_n 1, 1) := by decide +kernel
theorem dX5_knows_33 : decode cX5_knows 33 = .ok (.invokevirtual 89, 3) := by decide +kernel
theorem dX5_knows_36 : decode cX5_knows 36 = .ok (.iconst (-1), 1) := by decide +kernel
theorem dX5_knows_37 : decode cX5_knows 37 = .ok (.if_icmp .ne 14, 3) := by decide +kernel
theorem dX5_knows_40 : decode cX5_knows 40 = .ok (.aload_n 0, 1) := by decide +kernel
theorem dX5_knows_41 : decode cX5_knows 41 = .ok (.bipush 6, 2) := by decide +kernel
theorem dX5_knows_43 : decode cX5_knows 43 = .ok (.lload_n 1, 1) := by decide +kernel
theorem dX5_knows_44 : decode cX5_knows 44 = .ok (.invokevirtual 89, 3) := by decide +kernel
theorem dX5_knows_47 : decode cX5_knows 47 = .ok (.iconst (-1), 1) := by decide +kernel
theorem dX5_knows_48 : decode cX5_knows 48 = .ok (.if_icmp .eq 7, 3) := by decide +kernel
theorem dX5_knows_51 : decode cX5_knows 51 = .ok (.iconst 1, 1) := by decide +kernel
theorem dX5_knows_52 : decode cX5_knows 52 = .ok (.goto 4, 3) := by decide +kernel
theorem dX5_knows_55 : decode cX5_knows 55 = .ok (.iconst 0, 1) := by decide +kernel
theorem dX5_knows_56 : decode cX5_knows 56 = .ok (.ireturn, 1) := by decide +kernel
theorem dX5_trackBetween_0 : decode cX5_trackBetween 0 = .ok (.iconst 0, 1) := by decide +kernel
theorem dX5_trackBetween_1 : decode cX5_trackBetween 1 = .ok (.istore_n 3, 1) := by decide +kernel
theorem dX5_trackBetween_2 : decode cX5_trackBetween 2 = .ok (.iload_n 3, 1) := by decide +kernel
theorem dX5_trackBetween_3 : decode cX5_trackBetween 3 = .ok (.aload_n 0, 1) := by decide +kernel
theorem dX5_trackBetween_4 : decode cX5_trackBetween 4 = .ok (.getfield 9, 3) := by decide +kernel
theorem dX5_trackBetween_7 : decode cX5_trackBetween 7 = .ok (.iconst 2, 1) := by decide +kernel
theorem dX5_trackBetween_8 : decode cX5_trackBetween 8 = .ok (.iaload, 1) := by decide +kernel
theorem dX5_trackBetween_9 : decode cX5_trackBetween 9 = .ok (.if_icmp .ge 51, 3) := by decide +kernel
theorem dX5_trackBetween_12 : decode cX5_trackBetween 12 = .ok (.aload_n 0, 1) := by decide +kernel
theorem dX5_trackBetween_13 : decode cX5_trackBetween 13 = .ok (.getfield 25, 3) := by decide +kernel
theorem dX5_trackBetween_16 : decode cX5_trackBetween 16 = .ok (.iload_n 3, 1) := by decide +kernel
theorem dX5_trackBetween_17 : decode cX5_trackBetween 17 = .ok (.iaload, 1) := by decide +kernel
theorem dX5_trackBetween_18 : decode cX5_trackBetween 18 = .ok (.iload_n 1, 1) := by decide +kernel
theorem dX5_trackBetween_19 : decode cX5_trackBetween 19 = .ok (.if_icmp .ne 13, 3) := by decide +kernel
theorem dX5_trackBetween_22 : decode cX5_trackBetween 22 = .ok (.aload_n 0, 1) := by decide +kernel
theorem dX5_trackBetween_23 : decode cX5_trackBetween 23 = .ok (.getfield 28, 3) := by decide +kernel
theorem dX5_trackBetween_26 : decode cX5_trackBetween 26 = .ok (.iload_n 3, 1) := by decide +kernel
theorem dX5_trackBetween_27 : decode cX5_trackBetween 27 = .ok (.iaload, 1) := by decide +kernel
theorem dX5_trackBetween_28 : decode cX5_trackBetween 28 = .ok (.iload_n 2, 1) := by decide +kernel
theorem dX5_trackBetween_29 : decode cX5_trackBetween 29 = .ok (.if_icmp .eq 23, 3) := by decide +kernel
theorem dX5_trackBetween_32 : decode cX5_trackBetween 32 = .ok (.aload_n 0, 1) := by decide +kernel
theorem dX5_trackBetween_33 : decode cX5_trackBetween 33 = .ok (.getfield 25, 3) := by decide +kernel
theorem dX5_trackBetween_36 : decode cX5_trackBetween 36 = .ok (.iload_n 3, 1) := by decide +kernel
theorem dX5_trackBetween_37 : decode cX5_trackBetween 37 = .ok (.iaload, 1) := by decide +kernel
theorem dX5_trackBetween_38 : decode cX5_trackBetween 38 = .ok (.iload_n 2, 1) := by decide +kernel
theorem dX5_trackBetween_39 : decode cX5_trackBetween 39 = .ok (.if_icmp .ne 15, 3) := by decide +kernel
theorem dX5_trackBetween_42 : decode cX5_trackBetween 42 = .ok (.aload_n 0, 1) := by decide +kernel
theorem dX5_trackBetween_43 : decode cX5_trackBetween 43 = .ok (.getfield 28, 3) := by decide +kernel
theorem dX5_trackBetween_46 : decode cX5_trackBetween 46 = .ok (.iload_n 3, 1) := by decide +kernel
theorem dX5_trackBetween_47 : decode cX5_trackBetween 47 = .ok (.iaload, 1) := by decide +kernel
theorem dX5_trackBetween_48 : decode cX5_trackBetween 48 = .ok (.iload_n 1, 1) := by decide +kernel
theorem dX5_trackBetween_49 : decode cX5_trackBetween 49 = .ok (.if_icmp .ne 5, 3) := by decide +kernel
theorem dX5_trackBetween_52 : decode cX5_trackBetween 52 = .ok (.iload_n 3, 1) := by decide +kernel
theorem dX5_trackBetween_53 : decode cX5_trackBetween 53 = .ok (.ireturn, 1) := by decide +kernel
theorem dX5_trackBetween_54 : decode cX5_trackBetween 54 = .ok (.iinc 3 1, 3) := by decide +kernel
theorem dX5_trackBetween_57 : decode cX5_trackBetween 57 = .ok (.goto (-55), 3) := by decide +kernel
theorem dX5_trackBetween_60 : decode cX5_trackBetween 60 = .ok (.iconst (-1), 1) := by decide +kernel
theorem dX5_trackBetween_61 : decode cX5_trackBetween 61 = .ok (.ireturn, 1) := by decide +kernel
theorem dX5_leadsTo_0 : decode cX5_leadsTo 0 = .ok (.iload_n 3, 1) := by decide +kernel
theorem dX5_leadsTo_1 : decode cX5_leadsTo 1 = .ok (.ifCond .ne 12, 3) := by decide +kernel
theorem dX5_leadsTo_4 : decode cX5_leadsTo 4 = .ok (.aload_n 0, 1) := by decide +kernel
theorem dX5_leadsTo_5 : decode cX5_leadsTo 5 = .ok (.getfield 25, 3) := by decide +kernel
theorem dX5_leadsTo_8 : decode cX5_leadsTo 8 = .ok (.iload_n 1, 1) := by decide +kernel
theorem dX5_leadsTo_9 : decode cX5_leadsTo 9 = .ok (.iaload, 1) := by decide +kernel
theorem dX5_leadsTo_10 : decode cX5_leadsTo 10 = .ok (.goto 9, 3) := by decide +kernel
theorem dX5_leadsTo_13 : decode cX5_leadsTo 13 = .ok (.aload_n 0, 1) := by decide +kernel
theorem dX5_leadsTo_14 : decode cX5_leadsTo 14 = .ok (.getfield 28, 3) := by decide +kernel
theorem dX5_leadsTo_17 : decode cX5_leadsTo 17 = .ok (.iload_n 1, 1) := by decide +kernel
theorem dX5_leadsTo_18 : decode cX5_leadsTo 18 = .ok (.iaload, 1) := by decide +kernel
theorem dX5_leadsTo_19 : decode cX5_leadsTo 19 = .ok (.istore 4, 2) := by decide +kernel
theorem dX5_leadsTo_21 : decode cX5_leadsTo 21 = .ok (.iload_n 3, 1) := by decide +kernel
theorem dX5_leadsTo_22 : decode cX5_leadsTo 22 = .ok (.ifCond .ne 12, 3) := by decide +kernel
theorem dX5_leadsTo_25 : decode cX5_leadsTo 25 = .ok (.aload_n 0, 1) := by decide +kernel
theorem dX5_leadsTo_26 : decode cX5_leadsTo 26 = .ok (.getfield 28, 3) := by decide +kernel
theorem dX5_leadsTo_29 : decode cX5_leadsTo 29 = .ok (.iload_n 1, 1) := by decide +kernel
theorem dX5_leadsTo_30 : decode cX5_leadsTo 30 = .ok (.iaload, 1) := by decide +kernel
theorem dX5_leadsTo_31 : decode cX5_leadsTo 31 = .ok (.goto 9, 3) := by decide +kernel
theorem dX5_leadsTo_34 : decode cX5_leadsTo 34 = .ok (.aload_n 0, 1) := by decide +kernel
theorem dX5_leadsTo_35 : decode cX5_leadsTo 35 = .ok (.getfield 25, 3) := by decide +kernel
theorem dX5_leadsTo_38 : decode cX5_leadsTo 38 = .ok (.iload_n 1, 1) := by decide +kernel
theorem dX5_leadsTo_39 : decode cX5_leadsTo 39 = .ok (.iaload, 1) := by decide +kernel
theorem dX5_leadsTo_40 : decode cX5_leadsTo 40 = .ok (.istore 5, 2) := by decide +kernel
theorem dX5_leadsTo_42 : decode cX5_leadsTo 42 = .ok (.iload 4, 2) := by decide +kernel
theorem dX5_leadsTo_44 : decode cX5_leadsTo 44 = .ok (.iload_n 2, 1) := by decide +kernel
theorem dX5_leadsTo_45 : decode cX5_leadsTo 45 = .ok (.if_icmp .ne 8, 3) := by decide +kernel
theorem dX5_leadsTo_48 : decode cX5_leadsTo 48 = .ok (.iload 5, 2) := by decide +kernel
theorem dX5_leadsTo_50 : decode cX5_leadsTo 50 = .ok (.goto 4, 3) := by decide +kernel
theorem dX5_leadsTo_53 : decode cX5_leadsTo 53 = .ok (.iconst (-1), 1) := by decide +kernel
theorem dX5_leadsTo_54 : decode cX5_leadsTo 54 = .ok (.ireturn, 1) := by decide +kernel
theorem dX5_signalAt_0 : decode cX5_signalAt 0 = .ok (.iconst 0, 1) := by decide +kernel
theorem dX5_signalAt_1 : decode cX5_signalAt 1 = .ok (.istore_n 3, 1) := by decide +kernel
theorem dX5_signalAt_2 : decode cX5_signalAt 2 = .ok (.iload_n 3, 1) := by decide +kernel
theorem dX5_signalAt_3 : decode cX5_signalAt 3 = .ok (.aload_n 0, 1) := by decide +kernel
theorem dX5_signalAt_4 : decode cX5_signalAt 4 = .ok (.getfield 9, 3) := by decide +kernel
theorem dX5_signalAt_7 : decode cX5_signalAt 7 = .ok (.iconst 3, 1) := by decide +kernel
theorem dX5_signalAt_8 : decode cX5_signalAt 8 = .ok (.iaload, 1) := by decide +kernel
theorem dX5_signalAt_9 : decode cX5_signalAt 9 = .ok (.if_icmp .ge 31, 3) := by decide +kernel
theorem dX5_signalAt_12 : decode cX5_signalAt 12 = .ok (.aload_n 0, 1) := by decide +kernel
theorem dX5_signalAt_13 : decode cX5_signalAt 13 = .ok (.getfield 37, 3) := by decide +kernel
theorem dX5_signalAt_16 : decode cX5_signalAt 16 = .ok (.iload_n 3, 1) := by decide +kernel
theorem dX5_signalAt_17 : decode cX5_signalAt 17 = .ok (.iaload, 1) := by decide +kernel
theorem dX5_signalAt_18 : decode cX5_signalAt 18 = .ok (.iload_n 1, 1) := by decide +kernel
theorem dX5_signalAt_19 : decode cX5_signalAt 19 = .ok (.if_icmp .ne 15, 3) := by decide +kernel
theorem dX5_signalAt_22 : decode cX5_signalAt 22 = .ok (.aload_n 0, 1) := by decide +kernel
theorem dX5_signalAt_23 : decode cX5_signalAt 23 = .ok (.getfield 40, 3) := by decide +kernel
theorem dX5_signalAt_26 : decode cX5_signalAt 26 = .ok (.iload_n 3, 1) := by decide +kernel
theorem dX5_signalAt_27 : decode cX5_signalAt 27 = .ok (.iaload, 1) := by decide +kernel
theorem dX5_signalAt_28 : decode cX5_signalAt 28 = .ok (.iload_n 2, 1) := by decide +kernel
theorem dX5_signalAt_29 : decode cX5_signalAt 29 = .ok (.if_icmp .ne 5, 3) := by decide +kernel
theorem dX5_signalAt_32 : decode cX5_signalAt 32 = .ok (.iload_n 3, 1) := by decide +kernel
theorem dX5_signalAt_33 : decode cX5_signalAt 33 = .ok (.ireturn, 1) := by decide +kernel
theorem dX5_signalAt_34 : decode cX5_signalAt 34 = .ok (.iinc 3 1, 3) := by decide +kernel
theorem dX5_signalAt_37 : decode cX5_signalAt 37 = .ok (.goto (-35), 3) := by decide +kernel
theorem dX5_signalAt_40 : decode cX5_signalAt 40 = .ok (.iconst (-1), 1) := by decide +kernel
theorem dX5_signalAt_41 : decode cX5_signalAt 41 = .ok (.ireturn, 1) := by decide +kernel
theorem dX5_sectionOf_0 : decode cX5_sectionOf 0 = .ok (.aload_n 0, 1) := by decide +kernel
theorem dX5_sectionOf_1 : decode cX5_sectionOf 1 = .ok (.getfield 49, 3) := by decide +kernel
theorem dX5_sectionOf_4 : decode cX5_sectionOf 4 = .ok (.iload_n 1, 1) := by decide +kernel
theorem dX5_sectionOf_5 : decode cX5_sectionOf 5 = .ok (.bipush 6, 2) := by decide +kernel
theorem dX5_sectionOf_7 : decode cX5_sectionOf 7 = .ok (.imul, 1) := by decide +kernel
theorem dX5_sectionOf_8 : decode cX5_sectionOf 8 = .ok (.iload_n 2, 1) := by decide +kernel
theorem dX5_sectionOf_9 : decode cX5_sectionOf 9 = .ok (.iadd, 1) := by decide +kernel
theorem dX5_sectionOf_10 : decode cX5_sectionOf 10 = .ok (.iaload, 1) := by decide +kernel
theorem dX5_sectionOf_11 : decode cX5_sectionOf 11 = .ok (.ireturn, 1) := by decide +kernel
theorem dX5_endOf_0 : decode cX5_endOf 0 = .ok (.aload_n 0, 1) := by decide +kernel
theorem dX5_endOf_1 : decode cX5_endOf 1 = .ok (.getfield 46, 3) := by decide +kernel
theorem dX5_endOf_4 : decode cX5_endOf 4 = .ok (.iload_n 1, 1) := by decide +kernel
theorem dX5_endOf_5 : decode cX5_endOf 5 = .ok (.iaload, 1) := by decide +kernel
theorem dX5_endOf_6 : decode cX5_endOf 6 = .ok (.istore_n 2, 1) := by decide +kernel
theorem dX5_endOf_7 : decode cX5_endOf 7 = .ok (.iload_n 2, 1) := by decide +kernel
theorem dX5_endOf_8 : decode cX5_endOf 8 = .ok (.ifCond .ne 17, 3) := by decide +kernel
theorem dX5_endOf_11 : decode cX5_endOf 11 = .ok (.aload_n 0, 1) := by decide +kernel
theorem dX5_endOf_12 : decode cX5_endOf 12 = .ok (.getfield 37, 3) := by decide +kernel
theorem dX5_endOf_15 : decode cX5_endOf 15 = .ok (.aload_n 0, 1) := by decide +kernel
theorem dX5_endOf_16 : decode cX5_endOf 16 = .ok (.getfield 43, 3) := by decide +kernel
theorem dX5_endOf_19 : decode cX5_endOf 19 = .ok (.iload_n 1, 1) := by decide +kernel
theorem dX5_endOf_20 : decode cX5_endOf 20 = .ok (.iaload, 1) := by decide +kernel
theorem dX5_endOf_21 : decode cX5_endOf 21 = .ok (.iaload, 1) := by decide +kernel
theorem dX5_endOf_22 : decode cX5_endOf 22 = .ok (.goto 11, 3) := by decide +kernel
theorem dX5_endOf_25 : decode cX5_endOf 25 = .ok (.aload_n 0, 1) := by decide +kernel
theorem dX5_endOf_26 : decode cX5_endOf 26 = .ok (.iload_n 1, 1) := by decide +kernel
theorem dX5_endOf_27 : decode cX5_endOf 27 = .ok (.iload_n 2, 1) := by decide +kernel
theorem dX5_endOf_28 : decode cX5_endOf 28 = .ok (.iconst 1, 1) := by decide +kernel
theorem dX5_endOf_29 : decode cX5_endOf 29 = .ok (.isub, 1) := by decide +kernel
theorem dX5_endOf_30 : decode cX5_endOf 30 = .ok (.invokevirtual 93, 3) := by decide +kernel
theorem dX5_endOf_33 : decode cX5_endOf 33 = .ok (.ireturn, 1) := by decide +kernel
theorem dX5_routesOf_0 : decode cX5_routesOf 0 = .ok (.iconst 0, 1) := by decide +kernel
theorem dX5_routesOf_1 : decode cX5_routesOf 1 = .ok (.istore_n 2, 1) := by decide +kernel
theorem dX5_routesOf_2 : decode cX5_routesOf 2 = .ok (.iconst 0, 1) := by decide +kernel
theorem dX5_routesOf_3 : decode cX5_routesOf 3 = .ok (.istore_n 3, 1) := by decide +kernel
theorem dX5_routesOf_4 : decode cX5_routesOf 4 = .ok (.iload_n 3, 1) := by decide +kernel
theorem dX5_routesOf_5 : decode cX5_routesOf 5 = .ok (.aload_n 0, 1) := by decide +kernel
theorem dX5_routesOf_6 : decode cX5_routesOf 6 = .ok (.getfield 9, 3) := by decide +kernel
theorem dX5_routesOf_9 : decode cX5_routesOf 9 = .ok (.iconst 4, 1) := by decide +kernel
theorem dX5_routesOf_10 : decode cX5_routesOf 10 = .ok (.iaload, 1) := by decide +kernel
theorem dX5_routesOf_11 : decode cX5_routesOf 11 = .ok (.if_icmp .ge 25, 3) := by decide +kernel
theorem dX5_routesOf_14 : decode cX5_routesOf 14 = .ok (.aload_n 0, 1) := by decide +kernel
theorem dX5_routesOf_15 : decode cX5_routesOf 15 = .ok (.getfield 43, 3) := by decide +kernel
theorem dX5_routesOf_18 : decode cX5_routesOf 18 = .ok (.iload_n 3, 1) := by decide +kernel
theorem dX5_routesOf_19 : decode cX5_routesOf 19 = .ok (.iaload, 1) := by decide +kernel
theorem dX5_routesOf_20 : decode cX5_routesOf 20 = .ok (.iload_n 1, 1) := by decide +kernel
theorem dX5_routesOf_21 : decode cX5_routesOf 21 = .ok (.if_icmp .ne 9, 3) := by decide +kernel
theorem dX5_routesOf_24 : decode cX5_routesOf 24 = .ok (.iload_n 2, 1) := by decide +kernel
theorem dX5_routesOf_25 : decode cX5_routesOf 25 = .ok (.iconst 1, 1) := by decide +kernel
theorem dX5_routesOf_26 : decode cX5_routesOf 26 = .ok (.iload_n 3, 1) := by decide +kernel
theorem dX5_routesOf_27 : decode cX5_routesOf 27 = .ok (.ishl, 1) := by decide +kernel
theorem dX5_routesOf_28 : decode cX5_routesOf 28 = .ok (.ior, 1) := by decide +kernel
theorem dX5_routesOf_29 : decode cX5_routesOf 29 = .ok (.istore_n 2, 1) := by decide +kernel
theorem dX5_routesOf_30 : decode cX5_routesOf 30 = .ok (.iinc 3 1, 3) := by decide +kernel
theorem dX5_routesOf_33 : decode cX5_routesOf 33 = .ok (.goto (-29), 3) := by decide +kernel
theorem dX5_routesOf_36 : decode cX5_routesOf 36 = .ok (.iload_n 2, 1) := by decide +kernel
theorem dX5_routesOf_37 : decode cX5_routesOf 37 = .ok (.ireturn, 1) := by decide +kernel
theorem dX5_routesWith_0 : decode cX5_routesWith 0 = .ok (.iconst 0, 1) := by decide +kernel
theorem dX5_routesWith_1 : decode cX5_routesWith 1 = .ok (.istore_n 2, 1) := by decide +kernel
theorem dX5_routesWith_2 : decode cX5_routesWith 2 = .ok (.iconst 0, 1) := by decide +kernel
theorem dX5_routesWith_3 : decode cX5_routesWith 3 = .ok (.istore_n 3, 1) := by decide +kernel
theorem dX5_routesWith_4 : decode cX5_routesWith 4 = .ok (.iload_n 3, 1) := by decide +kernel
theorem dX5_routesWith_5 : decode cX5_routesWith 5 = .ok (.aload_n 0, 1) := by decide +kernel
theorem dX5_routesWith_6 : decode cX5_routesWith 6 = .ok (.getfield 9, 3) := by decide +kernel
theorem dX5_routesWith_9 : decode cX5_routesWith 9 = .ok (.iconst 4, 1) := by decide +kernel
theorem dX5_routesWith_10 : decode cX5_routesWith 10 = .ok (.iaload, 1) := by decide +kernel
theorem dX5_routesWith_11 : decode cX5_routesWith 11 = .ok (.if_icmp .ge 24, 3) := by decide +kernel
theorem dX5_routesWith_14 : decode cX5_routesWith 14 = .ok (.iload_n 2, 1) := by decide +kernel
theorem dX5_routesWith_15 : decode cX5_routesWith 15 = .ok (.aload_n 0, 1) := by decide +kernel
theorem dX5_routesWith_16 : decode cX5_routesWith 16 = .ok (.getfield 52, 3) := by decide +kernel
theorem dX5_routesWith_19 : decode cX5_routesWith 19 = .ok (.iload_n 3, 1) := by decide +kernel
theorem dX5_routesWith_20 : decode cX5_routesWith 20 = .ok (.iaload, 1) := by decide +kernel
theorem dX5_routesWith_21 : decode cX5_routesWith 21 = .ok (.iload_n 1, 1) := by decide +kernel
theorem dX5_routesWith_22 : decode cX5_routesWith 22 = .ok (.ishr, 1) := by decide +kernel
theorem dX5_routesWith_23 : decode cX5_routesWith 23 = .ok (.iconst 1, 1) := by decide +kernel
theorem dX5_routesWith_24 : decode cX5_routesWith 24 = .ok (.iand, 1) := by decide +kernel
theorem dX5_routesWith_25 : decode cX5_routesWith 25 = .ok (.iload_n 3, 1) := by decide +kernel
theorem dX5_routesWith_26 : decode cX5_routesWith 26 = .ok (.ishl, 1) := by decide +kernel
theorem dX5_routesWith_27 : decode cX5_routesWith 27 = .ok (.ior, 1) := by decide +kernel
theorem dX5_routesWith_28 : decode cX5_routesWith 28 = .ok (.istore_n 2, 1) := by decide +kernel
theorem dX5_routesWith_29 : decode cX5_routesWith 29 = .ok (.iinc 3 1, 3) := by decide +kernel
theorem dX5_routesWith_32 : decode cX5_routesWith 32 = .ok (.goto (-28), 3) := by decide +kernel
theorem dX5_routesWith_35 : decode cX5_routesWith 35 = .ok (.iload_n 2, 1) := by decide +kernel
theorem dX5_routesWith_36 : decode cX5_routesWith 36 = .ok (.ireturn, 1) := by decide +kernel
theorem dX5_routesNeeding_0 : decode cX5_routesNeeding 0 = .ok (.iconst 0, 1) := by decide +kernel
theorem dX5_routesNeeding_1 : decode cX5_routesNeeding 1 = .ok (.istore_n 3, 1) := by decide +kernel
theorem dX5_routesNeeding_2 : decode cX5_routesNeeding 2 = .ok (.iconst 0, 1) := by decide +kernel
theorem dX5_routesNeeding_3 : decode cX5_routesNeeding 3 = .ok (.istore 4, 2) := by decide +kernel
theorem dX5_routesNeeding_5 : decode cX5_routesNeeding 5 = .ok (.iload 4, 2) := by decide +kernel
theorem dX5_routesNeeding_7 : decode cX5_routesNeeding 7 = .ok (.aload_n 0, 1) := by decide +kernel
theorem dX5_routesNeeding_8 : decode cX5_routesNeeding 8 = .ok (.getfield 9, 3) := by decide +kernel
theorem dX5_routesNeeding_11 : decode cX5_routesNeeding 11 = .ok (.iconst 4, 1) := by decide +kernel
theorem dX5_routesNeeding_12 : decode cX5_routesNeeding 12 = .ok (.iaload, 1) := by decide +kernel
theorem dX5_routesNeeding_13 : decode cX5_routesNeeding 13 = .ok (.if_icmp .ge 44, 3) := by decide +kernel
theorem dX5_routesNeeding_16 : decode cX5_routesNeeding 16 = .ok (.iload_n 2, 1) := by decide +kernel
theorem dX5_routesNeeding_17 : decode cX5_routesNeeding 17 = .ok (.ifCond .ne 13, 3) := by decide +kernel
theorem dX5_routesNeeding_20 : decode cX5_routesNeeding 20 = .ok (.aload_n 0, 1) := by decide +kernel
theorem dX5_routesNeeding_21 : decode cX5_routesNeeding 21 = .ok (.getfield 55, 3) := by decide +kernel
theorem dX5_routesNeeding_24 : decode cX5_routesNeeding 24 = .ok (.iload 4, 2) := by decide +kernel
theorem dX5_routesNeeding_26 : decode cX5_routesNeeding 26 = .ok (.iaload, 1) := by decide +kernel
theorem dX5_routesNeeding_27 : decode cX5_routesNeeding 27 = .ok (.goto 10, 3) := by decide +kernel
theorem dX5_routesNeeding_30 : decode cX5_routesNeeding 30 = .ok (.aload_n 0, 1) := by decide +kernel
theorem dX5_routesNeeding_31 : decode cX5_routesNeeding 31 = .ok (.getfield 58, 3) := by decide +kernel
theorem dX5_routesNeeding_34 : decode cX5_routesNeeding 34 = .ok (.iload 4, 2) := by decide +kernel
theorem dX5_routesNeeding_36 : decode cX5_routesNeeding 36 = .ok (.iaload, 1) := by decide +kernel
theorem dX5_routesNeeding_37 : decode cX5_routesNeeding 37 = .ok (.istore 5, 2) := by decide +kernel
theorem dX5_routesNeeding_39 : decode cX5_routesNeeding 39 = .ok (.iload_n 3, 1) := by decide +kernel
theorem dX5_routesNeeding_40 : decode cX5_routesNeeding 40 = .ok (.iload 5, 2) := by decide +kernel
theorem dX5_routesNeeding_42 : decode cX5_routesNeeding 42 = .ok (.iload_n 1, 1) := by decide +kernel
theorem dX5_routesNeeding_43 : decode cX5_routesNeeding 43 = .ok (.ishr, 1) := by decide +kernel
theorem dX5_routesNeeding_44 : decode cX5_routesNeeding 44 = .ok (.iconst 1, 1) := by decide +kernel
theorem dX5_routesNeeding_45 : decode cX5_routesNeeding 45 = .ok (.iand, 1) := by decide +kernel
theorem dX5_routesNeeding_46 : decode cX5_routesNeeding 46 = .ok (.iload 4, 2) := by decide +kernel
theorem dX5_routesNeeding_48 : decode cX5_routesNeeding 48 = .ok (.ishl, 1) := by decide +kernel
theorem dX5_routesNeeding_49 : decode cX5_routesNeeding 49 = .ok (.ior, 1) := by decide +kernel
theorem dX5_routesNeeding_50 : decode cX5_routesNeeding 50 = .ok (.istore_n 3, 1) := by decide +kernel
theorem dX5_routesNeeding_51 : decode cX5_routesNeeding 51 = .ok (.iinc 4 1, 3) := by decide +kernel
theorem dX5_routesNeeding_54 : decode cX5_routesNeeding 54 = .ok (.goto (-49), 3) := by decide +kernel
theorem dX5_routesNeeding_57 : decode cX5_routesNeeding 57 = .ok (.iload_n 3, 1) := by decide +kernel
theorem dX5_routesNeeding_58 : decode cX5_routesNeeding 58 = .ok (.ireturn, 1) := by decide +kernel
theorem dX5_pointsWithin_0 : decode cX5_pointsWithin 0 = .ok (.iconst 0, 1) := by decide +kernel
theorem dX5_pointsWithin_1 : decode cX5_pointsWithin 1 = .ok (.istore_n 2, 1) := by decide +kernel
theorem dX5_pointsWithin_2 : decode cX5_pointsWithin 2 = .ok (.iconst 0, 1) := by decide +kernel
theorem dX5_pointsWithin_3 : decode cX5_pointsWithin 3 = .ok (.istore_n 3, 1) := by decide +kernel
theorem dX5_pointsWithin_4 : decode cX5_pointsWithin 4 = .ok (.iload_n 3, 1) := by decide +kernel
theorem dX5_pointsWithin_5 : decode cX5_pointsWithin 5 = .ok (.aload_n 0, 1) := by decide +kernel
theorem dX5_pointsWithin_6 : decode cX5_pointsWithin 6 = .ok (.getfield 9, 3) := by decide +kernel
theorem dX5_pointsWithin_9 : decode cX5_pointsWithin 9 = .ok (.iconst 1, 1) := by decide +kernel
theorem dX5_pointsWithin_10 : decode cX5_pointsWithin 10 = .ok (.iaload, 1) := by decide +kernel
theorem dX5_pointsWithin_11 : decode cX5_pointsWithin 11 = .ok (.if_icmp .ge 25, 3) := by decide +kernel
theorem dX5_pointsWithin_14 : decode cX5_pointsWithin 14 = .ok (.aload_n 0, 1) := by decide +kernel
theorem dX5_pointsWithin_15 : decode cX5_pointsWithin 15 = .ok (.getfield 22, 3) := by decide +kernel
theorem dX5_pointsWithin_18 : decode cX5_pointsWithin 18 = .ok (.iload_n 3, 1) := by decide +kernel
theorem dX5_pointsWithin_19 : decode cX5_pointsWithin 19 = .ok (.iaload, 1) := by decide +kernel
theorem dX5_pointsWithin_20 : decode cX5_pointsWithin 20 = .ok (.iload_n 1, 1) := by decide +kernel
theorem dX5_pointsWithin_21 : decode cX5_pointsWithin 21 = .ok (.if_icmp .ne 9, 3) := by decide +kernel
theorem dX5_pointsWithin_24 : decode cX5_pointsWithin 24 = .ok (.iload_n 2, 1) := by decide +kernel
theorem dX5_pointsWithin_25 : decode cX5_pointsWithin 25 = .ok (.iconst 1, 1) := by decide +kernel
theorem dX5_pointsWithin_26 : decode cX5_pointsWithin 26 = .ok (.iload_n 3, 1) := by decide +kernel
theorem dX5_pointsWithin_27 : decode cX5_pointsWithin 27 = .ok (.ishl, 1) := by decide +kernel
theorem dX5_pointsWithin_28 : decode cX5_pointsWithin 28 = .ok (.ior, 1) := by decide +kernel
theorem dX5_pointsWithin_29 : decode cX5_pointsWithin 29 = .ok (.istore_n 2, 1) := by decide +kernel
theorem dX5_pointsWithin_30 : decode cX5_pointsWithin 30 = .ok (.iinc 3 1, 3) := by decide +kernel
theorem dX5_pointsWithin_33 : decode cX5_pointsWithin 33 = .ok (.goto (-29), 3) := by decide +kernel
theorem dX5_pointsWithin_36 : decode cX5_pointsWithin 36 = .ok (.iload_n 2, 1) := by decide +kernel
theorem dX5_pointsWithin_37 : decode cX5_pointsWithin 37 = .ok (.ireturn, 1) := by decide +kernel
theorem dX5_workOutClashes_0 : decode cX5_workOutClashes 0 = .ok (.iconst 0, 1) := by decide +kernel
theorem dX5_workOutClashes_1 : decode cX5_workOutClashes 1 = .ok (.istore_n 1, 1) := by decide +kernel
theorem dX5_workOutClashes_2 : decode cX5_workOutClashes 2 = .ok (.iload_n 1, 1) := by decide +kernel
theorem dX5_workOutClashes_3 : decode cX5_workOutClashes 3 = .ok (.aload_n 0, 1) := by decide +kernel
theorem dX5_workOutClashes_4 : decode cX5_workOutClashes 4 = .ok (.getfield 9, 3) := by decide +kernel
theorem dX5_workOutClashes_7 : decode cX5_workOutClashes 7 = .ok (.iconst 4, 1) := by decide +kernel
theorem dX5_workOutClashes_8 : decode cX5_workOutClashes 8 = .ok (.iaload, 1) := by decide +kernel
theorem dX5_workOutClashes_9 : decode cX5_workOutClashes 9 = .ok (.if_icmp .ge 60, 3) := by decide +kernel
theorem dX5_workOutClashes_12 : decode cX5_workOutClashes 12 = .ok (.aload_n 0, 1) := by decide +kernel
theorem dX5_workOutClashes_13 : decode cX5_workOutClashes 13 = .ok (.getfield 64, 3) := by decide +kernel
theorem dX5_workOutClashes_16 : decode cX5_workOutClashes 16 = .ok (.iload_n 1, 1) := by decide +kernel
theorem dX5_workOutClashes_17 : decode cX5_workOutClashes 17 = .ok (.iconst 0, 1) := by decide +kernel
theorem dX5_workOutClashes_18 : decode cX5_workOutClashes 18 = .ok (.iastore, 1) := by decide +kernel
theorem dX5_workOutClashes_19 : decode cX5_workOutClashes 19 = .ok (.iconst 0, 1) := by decide +kernel
theorem dX5_workOutClashes_20 : decode cX5_workOutClashes 20 = .ok (.istore_n 2, 1) := by decide +kernel
theorem dX5_workOutClashes_21 : decode cX5_workOutClashes 21 = .ok (.iload_n 2, 1) := by decide +kernel
theorem dX5_workOutClashes_22 : decode cX5_workOutClashes 22 = .ok (.aload_n 0, 1) := by decide +kernel
theorem dX5_workOutClashes_23 : decode cX5_workOutClashes 23 = .ok (.getfield 9, 3) := by decide +kernel
theorem dX5_workOutClashes_26 : decode cX5_workOutClashes 26 = .ok (.iconst 4, 1) := by decide +kernel
theorem dX5_workOutClashes_27 : decode cX5_workOutClashes 27 = .ok (.iaload, 1) := by decide +kernel
theorem dX5_workOutClashes_28 : decode cX5_workOutClashes 28 = .ok (.if_icmp .ge 35, 3) := by decide +kernel
theorem dX5_workOutClashes_31 : decode cX5_workOutClashes 31 = .ok (.iload_n 2, 1) := by decide +kernel
theorem dX5_workOutClashes_32 : decode cX5_workOutClashes 32 = .ok (.iload_n 1, 1) := by decide +kernel
theorem dX5_workOutClashes_33 : decode cX5_workOutClashes 33 = .ok (.if_icmp .eq 24, 3) := by decide +kernel
theorem dX5_workOutClashes_36 : decode cX5_workOutClashes 36 = .ok (.aload_n 0, 1) := by decide +kernel
theorem dX5_workOutClashes_37 : decode cX5_workOutClashes 37 = .ok (.iload_n 1, 1) := by decide +kernel
theorem dX5_workOutClashes_38 : decode cX5_workOutClashes 38 = .ok (.iload_n 2, 1) := by decide +kernel
theorem dX5_workOutClashes_39 : decode cX5_workOutClashes 39 = .ok (.invokevirtual 97, 3) := by decide +kernel
theorem dX5_workOutClashes_42 : decode cX5_workOutClashes 42 = .ok (.ifCond .eq 15, 3) := by decide +kernel
theorem dX5_workOutClashes_45 : decode cX5_workOutClashes 45 = .ok (.aload_n 0, 1) := by decide +kernel
theorem dX5_workOutClashes_46 : decode cX5_workOutClashes 46 = .ok (.getfield 64, 3) := by decide +kernel
theorem dX5_workOutClashes_49 : decode cX5_workOutClashes 49 = .ok (.iload_n 1, 1) := by decide +kernel
theorem dX5_workOutClashes_50 : decode cX5_workOutClashes 50 = .ok (.dup2, 1) := by decide +kernel
theorem dX5_workOutClashes_51 : decode cX5_workOutClashes 51 = .ok (.iaload, 1) := by decide +kernel
theorem dX5_workOutClashes_52 : decode cX5_workOutClashes 52 = .ok (.iconst 1, 1) := by decide +kernel
theorem dX5_workOutClashes_53 : decode cX5_workOutClashes 53 = .ok (.iload_n 2, 1) := by decide +kernel
theorem dX5_workOutClashes_54 : decode cX5_workOutClashes 54 = .ok (.ishl, 1) := by decide +kernel
theorem dX5_workOutClashes_55 : decode cX5_workOutClashes 55 = .ok (.ior, 1) := by decide +kernel
theorem dX5_workOutClashes_56 : decode cX5_workOutClashes 56 = .ok (.iastore, 1) := by decide +kernel
theorem dX5_workOutClashes_57 : decode cX5_workOutClashes 57 = .ok (.iinc 2 1, 3) := by decide +kernel
theorem dX5_workOutClashes_60 : decode cX5_workOutClashes 60 = .ok (.goto (-39), 3) := by decide +kernel
theorem dX5_workOutClashes_63 : decode cX5_workOutClashes 63 = .ok (.iinc 1 1, 3) := by decide +kernel
theorem dX5_workOutClashes_66 : decode cX5_workOutClashes 66 = .ok (.goto (-64), 3) := by decide +kernel
theorem dX5_workOutClashes_69 : decode cX5_workOutClashes 69 = .ok (.return_, 1) := by decide +kernel
theorem dX5_conflict_0 : decode cX5_conflict 0 = .ok (.aload_n 0, 1) := by decide +kernel
theorem dX5_conflict_1 : decode cX5_conflict 1 = .ok (.getfield 43, 3) := by decide +kernel
theorem dX5_conflict_4 : decode cX5_conflict 4 = .ok (.iload_n 1, 1) := by decide +kernel
theorem dX5_conflict_5 : decode cX5_conflict 5 = .ok (.iaload, 1) := by decide +kernel
theorem dX5_conflict_6 : decode cX5_conflict 6 = .ok (.aload_n 0, 1) := by decide +kernel
theorem dX5_conflict_7 : decode cX5_conflict 7 = .ok (.getfield 43, 3) := by decide +kernel
theorem dX5_conflict_10 : decode cX5_conflict 10 = .ok (.iload_n 2, 1) := by decide +kernel
theorem dX5_conflict_11 : decode cX5_conflict 11 = .ok (.iaload, 1) := by decide +kernel
theorem dX5_conflict_12 : decode cX5_conflict 12 = .ok (.if_icmp .eq 51, 3) := by decide +kernel
theorem dX5_conflict_15 : decode cX5_conflict 15 = .ok (.aload_n 0, 1) := by decide +kernel
theorem dX5_conflict_16 : decode cX5_conflict 16 = .ok (.getfield 52, 3) := by decide +kernel
theorem dX5_conflict_19 : decode cX5_conflict 19 = .ok (.iload_n 1, 1) := by decide +kernel
theorem dX5_conflict_20 : decode cX5_conflict 20 = .ok (.iaload, 1) := by decide +kernel
theorem dX5_conflict_21 : decode cX5_conflict 21 = .ok (.aload_n 0, 1) := by decide +kernel
theorem dX5_conflict_22 : decode cX5_conflict 22 = .ok (.getfield 52, 3) := by decide +kernel
theorem dX5_conflict_25 : decode cX5_conflict 25 = .ok (.iload_n 2, 1) := by decide +kernel
theorem dX5_conflict_26 : decode cX5_conflict 26 = .ok (.iaload, 1) := by decide +kernel
theorem dX5_conflict_27 : decode cX5_conflict 27 = .ok (.iand, 1) := by decide +kernel
theorem dX5_conflict_28 : decode cX5_conflict 28 = .ok (.ifCond .ne 35, 3) := by decide +kernel
theorem dX5_conflict_31 : decode cX5_conflict 31 = .ok (.aload_n 0, 1) := by decide +kernel
theorem dX5_conflict_32 : decode cX5_conflict 32 = .ok (.getfield 55, 3) := by decide +kernel
theorem dX5_conflict_35 : decode cX5_conflict 35 = .ok (.iload_n 1, 1) := by decide +kernel
theorem dX5_conflict_36 : decode cX5_conflict 36 = .ok (.iaload, 1) := by decide +kernel
theorem dX5_conflict_37 : decode cX5_conflict 37 = .ok (.aload_n 0, 1) := by decide +kernel
theorem dX5_conflict_38 : decode cX5_conflict 38 = .ok (.getfield 58, 3) := by decide +kernel
theorem dX5_conflict_41 : decode cX5_conflict 41 = .ok (.iload_n 2, 1) := by decide +kernel
theorem dX5_conflict_42 : decode cX5_conflict 42 = .ok (.iaload, 1) := by decide +kernel
theorem dX5_conflict_43 : decode cX5_conflict 43 = .ok (.iand, 1) := by decide +kernel
theorem dX5_conflict_44 : decode cX5_conflict 44 = .ok (.ifCond .ne 19, 3) := by decide +kernel
theorem dX5_conflict_47 : decode cX5_conflict 47 = .ok (.aload_n 0, 1) := by decide +kernel
theorem dX5_conflict_48 : decode cX5_conflict 48 = .ok (.getfield 58, 3) := by decide +kernel
theorem dX5_conflict_51 : decode cX5_conflict 51 = .ok (.iload_n 1, 1) := by decide +kernel
theorem dX5_conflict_52 : decode cX5_conflict 52 = .ok (.iaload, 1) := by decide +kernel
theorem dX5_conflict_53 : decode cX5_conflict 53 = .ok (.aload_n 0, 1) := by decide +kernel
theorem dX5_conflict_54 : decode cX5_conflict 54 = .ok (.getfield 55, 3) := by decide +kernel
theorem dX5_conflict_57 : decode cX5_conflict 57 = .ok (.iload_n 2, 1) := by decide +kernel
theorem dX5_conflict_58 : decode cX5_conflict 58 = .ok (.iaload, 1) := by decide +kernel
theorem dX5_conflict_59 : decode cX5_conflict 59 = .ok (.iand, 1) := by decide +kernel
theorem dX5_conflict_60 : decode cX5_conflict 60 = .ok (.ifCond .eq 7, 3) := by decide +kernel
theorem dX5_conflict_63 : decode cX5_conflict 63 = .ok (.iconst 1, 1) := by decide +kernel
theorem dX5_conflict_64 : decode cX5_conflict 64 = .ok (.goto 4, 3) := by decide +kernel
theorem dX5_conflict_67 : decode cX5_conflict 67 = .ok (.iconst 0, 1) := by decide +kernel
theorem dX5_conflict_68 : decode cX5_conflict 68 = .ok (.ireturn, 1) := by decide +kernel
theorem dX5_lackingBehind_0 : decode cX5_lackingBehind 0 = .ok (.iconst (-1), 1) := by decide +kernel
theorem dX5_lackingBehind_1 : decode cX5_lackingBehind 1 = .ok (.iload_n 1, 1) := by decide +kernel
theorem dX5_lackingBehind_2 : decode cX5_lackingBehind 2 = .ok (.iconst 1, 1) := by decide +kernel
theorem dX5_lackingBehind_3 : decode cX5_lackingBehind 3 = .ok (.iadd, 1) := by decide +kernel
theorem dX5_lackingBehind_4 : decode cX5_lackingBehind 4 = .ok (.ishl, 1) := by decide +kernel
theorem dX5_lackingBehind_5 : decode cX5_lackingBehind 5 = .ok (.istore_n 2, 1) := by decide +kernel
theorem dX5_lackingBehind_6 : decode cX5_lackingBehind 6 = .ok (.aload_n 0, 1) := by decide +kernel
theorem dX5_lackingBehind_7 : decode cX5_lackingBehind 7 = .ok (.getfield 64, 3) := by decide +kernel
theorem dX5_lackingBehind_10 : decode cX5_lackingBehind 10 = .ok (.iload_n 1, 1) := by decide +kernel
theorem dX5_lackingBehind_11 : decode cX5_lackingBehind 11 = .ok (.iaload, 1) := by decide +kernel
theorem dX5_lackingBehind_12 : decode cX5_lackingBehind 12 = .ok (.aload_n 0, 1) := by decide +kernel
theorem dX5_lackingBehind_13 : decode cX5_lackingBehind 13 = .ok (.getfield 61, 3) := by decide +kernel
theorem dX5_lackingBehind_16 : decode cX5_lackingBehind 16 = .ok (.iload_n 1, 1) := by decide +kernel
theorem dX5_lackingBehind_17 : decode cX5_lackingBehind 17 = .ok (.iaload, 1) := by decide +kernel
theorem dX5_lackingBehind_18 : decode cX5_lackingBehind 18 = .ok (.iconst (-1), 1) := by decide +kernel
theorem dX5_lackingBehind_19 : decode cX5_lackingBehind 19 = .ok (.ixor, 1) := by decide +kernel
theorem dX5_lackingBehind_20 : decode cX5_lackingBehind 20 = .ok (.iand, 1) := by decide +kernel
theorem dX5_lackingBehind_21 : decode cX5_lackingBehind 21 = .ok (.aload_n 0, 1) := by decide +kernel
theorem dX5_lackingBehind_22 : decode cX5_lackingBehind 22 = .ok (.aload_n 0, 1) := by decide +kernel
theorem dX5_lackingBehind_23 : decode cX5_lackingBehind 23 = .ok (.getfield 43, 3) := by decide +kernel
theorem dX5_lackingBehind_26 : decode cX5_lackingBehind 26 = .ok (.iload_n 1, 1) := by decide +kernel
theorem dX5_lackingBehind_27 : decode cX5_lackingBehind 27 = .ok (.iaload, 1) := by decide +kernel
theorem dX5_lackingBehind_28 : decode cX5_lackingBehind 28 = .ok (.invokevirtual 101, 3) := by decide +kernel
theorem dX5_lackingBehind_31 : decode cX5_lackingBehind 31 = .ok (.iconst (-1), 1) := by decide +kernel
theorem dX5_lackingBehind_32 : decode cX5_lackingBehind 32 = .ok (.ixor, 1) := by decide +kernel
theorem dX5_lackingBehind_33 : decode cX5_lackingBehind 33 = .ok (.iand, 1) := by decide +kernel
theorem dX5_lackingBehind_34 : decode cX5_lackingBehind 34 = .ok (.iload_n 2, 1) := by decide +kernel
theorem dX5_lackingBehind_35 : decode cX5_lackingBehind 35 = .ok (.iand, 1) := by decide +kernel
theorem dX5_lackingBehind_36 : decode cX5_lackingBehind 36 = .ok (.ireturn, 1) := by decide +kernel
theorem dX5_countLacking_0 : decode cX5_countLacking 0 = .ok (.iconst 0, 1) := by decide +kernel
theorem dX5_countLacking_1 : decode cX5_countLacking 1 = .ok (.istore_n 1, 1) := by decide +kernel
theorem dX5_countLacking_2 : decode cX5_countLacking 2 = .ok (.iconst 0, 1) := by decide +kernel
theorem dX5_countLacking_3 : decode cX5_countLacking 3 = .ok (.istore_n 2, 1) := by decide +kernel
theorem dX5_countLacking_4 : decode cX5_countLacking 4 = .ok (.iload_n 2, 1) := by decide +kernel
theorem dX5_countLacking_5 : decode cX5_countLacking 5 = .ok (.aload_n 0, 1) := by decide +kernel
theorem dX5_countLacking_6 : decode cX5_countLacking 6 = .ok (.getfield 9, 3) := by decide +kernel
theorem dX5_countLacking_9 : decode cX5_countLacking 9 = .ok (.iconst 4, 1) := by decide +kernel
theorem dX5_countLacking_10 : decode cX5_countLacking 10 = .ok (.iaload, 1) := by decide +kernel
theorem dX5_countLacking_11 : decode cX5_countLacking 11 = .ok (.if_icmp .ge 20, 3) := by decide +kernel
theorem dX5_countLacking_14 : decode cX5_countLacking 14 = .ok (.iload_n 1, 1) := by decide +kernel
theorem dX5_countLacking_15 : decode cX5_countLacking 15 = .ok (.aload_n 0, 1) := by decide +kernel
theorem dX5_countLacking_16 : decode cX5_countLacking 16 = .ok (.iload_n 2, 1) := by decide +kernel
theorem dX5_countLacking_17 : decode cX5_countLacking 17 = .ok (.invokevirtual 105, 3) := by decide +kernel
theorem dX5_countLacking_20 : decode cX5_countLacking 20 = .ok (.invokestatic 108, 3) := by decide +kernel
theorem dX5_countLacking_23 : decode cX5_countLacking 23 = .ok (.iadd, 1) := by decide +kernel
theorem dX5_countLacking_24 : decode cX5_countLacking 24 = .ok (.istore_n 1, 1) := by decide +kernel
theorem dX5_countLacking_25 : decode cX5_countLacking 25 = .ok (.iinc 2 1, 3) := by decide +kernel
theorem dX5_countLacking_28 : decode cX5_countLacking 28 = .ok (.goto (-24), 3) := by decide +kernel
theorem dX5_countLacking_31 : decode cX5_countLacking 31 = .ok (.iload_n 1, 1) := by decide +kernel
theorem dX5_countLacking_32 : decode cX5_countLacking 32 = .ok (.ireturn, 1) := by decide +kernel
theorem dX5_lackingAt_0 : decode cX5_lackingAt 0 = .ok (.iconst 0, 1) := by decide +kernel
theorem dX5_lackingAt_1 : decode cX5_lackingAt 1 = .ok (.istore_n 2, 1) := by decide +kernel
theorem dX5_lackingAt_2 : decode cX5_lackingAt 2 = .ok (.iconst 0, 1) := by decide +kernel
theorem dX5_lackingAt_3 : decode cX5_lackingAt 3 = .ok (.istore_n 3, 1) := by decide +kernel
theorem dX5_lackingAt_4 : decode cX5_lackingAt 4 = .ok (.iload_n 3, 1) := by decide +kernel
theorem dX5_lackingAt_5 : decode cX5_lackingAt 5 = .ok (.aload_n 0, 1) := by decide +kernel
theorem dX5_lackingAt_6 : decode cX5_lackingAt 6 = .ok (.getfield 9, 3) := by decide +kernel
theorem dX5_lackingAt_9 : decode cX5_lackingAt 9 = .ok (.iconst 4, 1) := by decide +kernel
theorem dX5_lackingAt_10 : decode cX5_lackingAt 10 = .ok (.iaload, 1) := by decide +kernel
theorem dX5_lackingAt_11 : decode cX5_lackingAt 11 = .ok (.if_icmp .ge 65, 3) := by decide +kernel
theorem dX5_lackingAt_14 : decode cX5_lackingAt 14 = .ok (.aload_n 0, 1) := by decide +kernel
theorem dX5_lackingAt_15 : decode cX5_lackingAt 15 = .ok (.iload_n 3, 1) := by decide +kernel
theorem dX5_lackingAt_16 : decode cX5_lackingAt 16 = .ok (.invokevirtual 105, 3) := by decide +kernel
theorem dX5_lackingAt_19 : decode cX5_lackingAt 19 = .ok (.istore 4, 2) := by decide +kernel
theorem dX5_lackingAt_21 : decode cX5_lackingAt 21 = .ok (.iload_n 3, 1) := by decide +kernel
theorem dX5_lackingAt_22 : decode cX5_lackingAt 22 = .ok (.iconst 1, 1) := by decide +kernel
theorem dX5_lackingAt_23 : decode cX5_lackingAt 23 = .ok (.iadd, 1) := by decide +kernel
theorem dX5_lackingAt_24 : decode cX5_lackingAt 24 = .ok (.istore 5, 2) := by decide +kernel
theorem dX5_lackingAt_26 : decode cX5_lackingAt 26 = .ok (.iload 5, 2) := by decide +kernel
theorem dX5_lackingAt_28 : decode cX5_lackingAt 28 = .ok (.aload_n 0, 1) := by decide +kernel
theorem dX5_lackingAt_29 : decode cX5_lackingAt 29 = .ok (.getfield 9, 3) := by decide +kernel
theorem dX5_lackingAt_32 : decode cX5_lackingAt 32 = .ok (.iconst 4, 1) := by decide +kernel
theorem dX5_lackingAt_33 : decode cX5_lackingAt 33 = .ok (.iaload, 1) := by decide +kernel
theorem dX5_lackingAt_34 : decode cX5_lackingAt 34 = .ok (.if_icmp .ge 36, 3) := by decide +kernel
theorem dX5_lackingAt_37 : decode cX5_lackingAt 37 = .ok (.iload 4, 2) := by decide +kernel
theorem dX5_lackingAt_39 : decode cX5_lackingAt 39 = .ok (.iload 5, 2) := by decide +kernel
theorem dX5_lackingAt_41 : decode cX5_lackingAt 41 = .ok (.ishr, 1) := by decide +kernel
theorem dX5_lackingAt_42 : decode cX5_lackingAt 42 = .ok (.iconst 1, 1) := by decide +kernel
theorem dX5_lackingAt_43 : decode cX5_lackingAt 43 = .ok (.iand, 1) := by decide +kernel
theorem dX5_lackingAt_44 : decode cX5_lackingAt 44 = .ok (.iconst 1, 1) := by decide +kernel
theorem dX5_lackingAt_45 : decode cX5_lackingAt 45 = .ok (.if_icmp .ne 19, 3) := by decide +kernel
theorem dX5_lackingAt_48 : decode cX5_lackingAt 48 = .ok (.iload_n 2, 1) := by decide +kernel
theorem dX5_lackingAt_49 : decode cX5_lackingAt 49 = .ok (.iload_n 1, 1) := by decide +kernel
theorem dX5_lackingAt_50 : decode cX5_lackingAt 50 = .ok (.if_icmp .ne 11, 3) := by decide +kernel
theorem dX5_lackingAt_53 : decode cX5_lackingAt 53 = .ok (.bipush 16, 2) := by decide +kernel
theorem dX5_lackingAt_55 : decode cX5_lackingAt 55 = .ok (.iload_n 3, 1) := by decide +kernel
theorem dX5_lackingAt_56 : decode cX5_lackingAt 56 = .ok (.imul, 1) := by decide +kernel
theorem dX5_lackingAt_57 : decode cX5_lackingAt 57 = .ok (.iload 5, 2) := by decide +kernel
theorem dX5_lackingAt_59 : decode cX5_lackingAt 59 = .ok (.iadd, 1) := by decide +kernel
theorem dX5_lackingAt_60 : decode cX5_lackingAt 60 = .ok (.ireturn, 1) := by decide +kernel
theorem dX5_lackingAt_61 : decode cX5_lackingAt 61 = .ok (.iinc 2 1, 3) := by decide +kernel
theorem dX5_lackingAt_64 : decode cX5_lackingAt 64 = .ok (.iinc 5 1, 3) := by decide +kernel
theorem dX5_lackingAt_67 : decode cX5_lackingAt 67 = .ok (.goto (-41), 3) := by decide +kernel
theorem dX5_lackingAt_70 : decode cX5_lackingAt 70 = .ok (.iinc 3 1, 3) := by decide +kernel
theorem dX5_lackingAt_73 : decode cX5_lackingAt 73 = .ok (.goto (-69), 3) := by decide +kernel
theorem dX5_lackingAt_76 : decode cX5_lackingAt 76 = .ok (.iconst (-1), 1) := by decide +kernel
theorem dX5_lackingAt_77 : decode cX5_lackingAt 77 = .ok (.ireturn, 1) := by decide +kernel
theorem dX5_countSpare_0 : decode cX5_countSpare 0 = .ok (.iconst 0, 1) := by decide +kernel
theorem dX5_countSpare_1 : decode cX5_countSpare 1 = .ok (.istore_n 1, 1) := by decide +kernel
theorem dX5_countSpare_2 : decode cX5_countSpare 2 = .ok (.iconst 0, 1) := by decide +kernel
theorem dX5_countSpare_3 : decode cX5_countSpare 3 = .ok (.istore_n 2, 1) := by decide +kernel
theorem dX5_countSpare_4 : decode cX5_countSpare 4 = .ok (.iload_n 2, 1) := by decide +kernel
theorem dX5_countSpare_5 : decode cX5_countSpare 5 = .ok (.aload_n 0, 1) := by decide +kernel
theorem dX5_countSpare_6 : decode cX5_countSpare 6 = .ok (.getfield 9, 3) := by decide +kernel
theorem dX5_countSpare_9 : decode cX5_countSpare 9 = .ok (.iconst 4, 1) := by decide +kernel
theorem dX5_countSpare_10 : decode cX5_countSpare 10 = .ok (.iaload, 1) := by decide +kernel
theorem dX5_countSpare_11 : decode cX5_countSpare 11 = .ok (.if_icmp .ge 30, 3) := by decide +kernel
theorem dX5_countSpare_14 : decode cX5_countSpare 14 = .ok (.iload_n 1, 1) := by decide +kernel
theorem dX5_countSpare_15 : decode cX5_countSpare 15 = .ok (.aload_n 0, 1) := by decide +kernel
theorem dX5_countSpare_16 : decode cX5_countSpare 16 = .ok (.getfield 61, 3) := by decide +kernel
theorem dX5_countSpare_19 : decode cX5_countSpare 19 = .ok (.iload_n 2, 1) := by decide +kernel
theorem dX5_countSpare_20 : decode cX5_countSpare 20 = .ok (.iaload, 1) := by decide +kernel
theorem dX5_countSpare_21 : decode cX5_countSpare 21 = .ok (.aload_n 0, 1) := by decide +kernel
theorem dX5_countSpare_22 : decode cX5_countSpare 22 = .ok (.getfield 64, 3) := by decide +kernel
theorem dX5_countSpare_25 : decode cX5_countSpare 25 = .ok (.iload_n 2, 1) := by decide +kernel
theorem dX5_countSpare_26 : decode cX5_countSpare 26 = .ok (.iaload, 1) := by decide +kernel
theorem dX5_countSpare_27 : decode cX5_countSpare 27 = .ok (.iconst (-1), 1) := by decide +kernel
theorem dX5_countSpare_28 : decode cX5_countSpare 28 = .ok (.ixor, 1) := by decide +kernel
theorem dX5_countSpare_29 : decode cX5_countSpare 29 = .ok (.iand, 1) := by decide +kernel
theorem dX5_countSpare_30 : decode cX5_countSpare 30 = .ok (.invokestatic 108, 3) := by decide +kernel
theorem dX5_countSpare_33 : decode cX5_countSpare 33 = .ok (.iadd, 1) := by decide +kernel
theorem dX5_countSpare_34 : decode cX5_countSpare 34 = .ok (.istore_n 1, 1) := by decide +kernel
theorem dX5_countSpare_35 : decode cX5_countSpare 35 = .ok (.iinc 2 1, 3) := by decide +kernel
theorem dX5_countSpare_38 : decode cX5_countSpare 38 = .ok (.goto (-34), 3) := by decide +kernel
theorem dX5_countSpare_41 : decode cX5_countSpare 41 = .ok (.iload_n 1, 1) := by decide +kernel
theorem dX5_countSpare_42 : decode cX5_countSpare 42 = .ok (.iconst 2, 1) := by decide +kernel
theorem dX5_countSpare_43 : decode cX5_countSpare 43 = .ok (.idiv, 1) := by decide +kernel
theorem dX5_countSpare_44 : decode cX5_countSpare 44 = .ok (.ireturn, 1) := by decide +kernel
theorem dX5_mostTogether_0 : decode cX5_mostTogether 0 = .ok (.iconst 0, 1) := by decide +kernel
theorem dX5_mostTogether_1 : decode cX5_mostTogether 1 = .ok (.istore_n 1, 1) := by decide +kernel
theorem dX5_mostTogether_2 : decode cX5_mostTogether 2 = .ok (.iconst 0, 1) := by decide +kernel
theorem dX5_mostTogether_3 : decode cX5_mostTogether 3 = .ok (.istore_n 2, 1) := by decide +kernel
theorem dX5_mostTogether_4 : decode cX5_mostTogether 4 = .ok (.iload_n 2, 1) := by decide +kernel
theorem dX5_mostTogether_5 : decode cX5_mostTogether 5 = .ok (.iconst 1, 1) := by decide +kernel
theorem dX5_mostTogether_6 : decode cX5_mostTogether 6 = .ok (.aload_n 0, 1) := by decide +kernel
theorem dX5_mostTogether_7 : decode cX5_mostTogether 7 = .ok (.getfield 9, 3) := by decide +kernel
theorem dX5_mostTogether_10 : decode cX5_mostTogether 10 = .ok (.iconst 4, 1) := by decide +kernel
theorem dX5_mostTogether_11 : decode cX5_mostTogether 11 = .ok (.iaload, 1) := by decide +kernel
theorem dX5_mostTogether_12 : decode cX5_mostTogether 12 = .ok (.ishl, 1) := by decide +kernel
theorem dX5_mostTogether_13 : decode cX5_mostTogether 13 = .ok (.if_icmp .ge 30, 3) := by decide +kernel
theorem dX5_mostTogether_16 : decode cX5_mostTogether 16 = .ok (.iload_n 2, 1) := by decide +kernel
theorem dX5_mostTogether_17 : decode cX5_mostTogether 17 = .ok (.invokestatic 108, 3) := by decide +kernel
