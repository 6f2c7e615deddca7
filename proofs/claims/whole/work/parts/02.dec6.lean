theorem dX12_tick_12 : decode cX12_tick 12 = .ok (.aload_n 0, 1) := by decide +kernel
theorem dX12_tick_13 : decode cX12_tick 13 = .ok (.getfield 33, 3) := by decide +kernel
theorem dX12_tick_16 : decode cX12_tick 16 = .ok (.bipush 6, 2) := by decide +kernel
theorem dX12_tick_18 : decode cX12_tick 18 = .ok (.iaload, 1) := by decide +kernel
theorem dX12_tick_19 : decode cX12_tick 19 = .ok (.if_icmp .ge 14, 3) := by decide +kernel
theorem dX12_tick_22 : decode cX12_tick 22 = .ok (.aload_n 0, 1) := by decide +kernel
theorem dX12_tick_23 : decode cX12_tick 23 = .ok (.iload_n 2, 1) := by decide +kernel
theorem dX12_tick_24 : decode cX12_tick 24 = .ok (.invokevirtual 370, 3) := by decide +kernel
theorem dX12_tick_27 : decode cX12_tick 27 = .ok (.iinc 2 1, 3) := by decide +kernel
theorem dX12_tick_30 : decode cX12_tick 30 = .ok (.goto (-19), 3) := by decide +kernel
theorem dX12_tick_33 : decode cX12_tick 33 = .ok (.iconst 0, 1) := by decide +kernel
theorem dX12_tick_34 : decode cX12_tick 34 = .ok (.istore_n 2, 1) := by decide +kernel
theorem dX12_tick_35 : decode cX12_tick 35 = .ok (.iload_n 2, 1) := by decide +kernel
theorem dX12_tick_36 : decode cX12_tick 36 = .ok (.aload_n 0, 1) := by decide +kernel
theorem dX12_tick_37 : decode cX12_tick 37 = .ok (.getfield 33, 3) := by decide +kernel
theorem dX12_tick_40 : decode cX12_tick 40 = .ok (.iconst 4, 1) := by decide +kernel
theorem dX12_tick_41 : decode cX12_tick 41 = .ok (.iaload, 1) := by decide +kernel
theorem dX12_tick_42 : decode cX12_tick 42 = .ok (.if_icmp .ge 64, 3) := by decide +kernel
theorem dX12_tick_45 : decode cX12_tick 45 = .ok (.aload_n 0, 1) := by decide +kernel
theorem dX12_tick_46 : decode cX12_tick 46 = .ok (.getfield 33, 3) := by decide +kernel
theorem dX12_tick_49 : decode cX12_tick 49 = .ok (.sipush 229, 3) := by decide +kernel
theorem dX12_tick_52 : decode cX12_tick 52 = .ok (.iload_n 2, 1) := by decide +kernel
theorem dX12_tick_53 : decode cX12_tick 53 = .ok (.iadd, 1) := by decide +kernel
theorem dX12_tick_54 : decode cX12_tick 54 = .ok (.iaload, 1) := by decide +kernel
theorem dX12_tick_55 : decode cX12_tick 55 = .ok (.iconst 3, 1) := by decide +kernel
theorem dX12_tick_56 : decode cX12_tick 56 = .ok (.if_icmp .eq 6, 3) := by decide +kernel
theorem dX12_tick_59 : decode cX12_tick 59 = .ok (.goto 41, 3) := by decide +kernel
theorem dX12_tick_62 : decode cX12_tick 62 = .ok (.aload_n 0, 1) := by decide +kernel
theorem dX12_tick_63 : decode cX12_tick 63 = .ok (.getfield 33, 3) := by decide +kernel
theorem dX12_tick_66 : decode cX12_tick 66 = .ok (.sipush 239, 3) := by decide +kernel
theorem dX12_tick_69 : decode cX12_tick 69 = .ok (.iload_n 2, 1) := by decide +kernel
theorem dX12_tick_70 : decode cX12_tick 70 = .ok (.iadd, 1) := by decide +kernel
theorem dX12_tick_71 : decode cX12_tick 71 = .ok (.dup2, 1) := by decide +kernel
theorem dX12_tick_72 : decode cX12_tick 72 = .ok (.iaload, 1) := by decide +kernel
theorem dX12_tick_73 : decode cX12_tick 73 = .ok (.iconst 1, 1) := by decide +kernel
theorem dX12_tick_74 : decode cX12_tick 74 = .ok (.isub, 1) := by decide +kernel
theorem dX12_tick_75 : decode cX12_tick 75 = .ok (.iastore, 1) := by decide +kernel
theorem dX12_tick_76 : decode cX12_tick 76 = .ok (.aload_n 0, 1) := by decide +kernel
theorem dX12_tick_77 : decode cX12_tick 77 = .ok (.getfield 33, 3) := by decide +kernel
theorem dX12_tick_80 : decode cX12_tick 80 = .ok (.sipush 239, 3) := by decide +kernel
theorem dX12_tick_83 : decode cX12_tick 83 = .ok (.iload_n 2, 1) := by decide +kernel
theorem dX12_tick_84 : decode cX12_tick 84 = .ok (.iadd, 1) := by decide +kernel
theorem dX12_tick_85 : decode cX12_tick 85 = .ok (.iaload, 1) := by decide +kernel
theorem dX12_tick_86 : decode cX12_tick 86 = .ok (.ifCond .ne 14, 3) := by decide +kernel
theorem dX12_tick_89 : decode cX12_tick 89 = .ok (.aload_n 0, 1) := by decide +kernel
theorem dX12_tick_90 : decode cX12_tick 90 = .ok (.getfield 33, 3) := by decide +kernel
theorem dX12_tick_93 : decode cX12_tick 93 = .ok (.sipush 229, 3) := by decide +kernel
theorem dX12_tick_96 : decode cX12_tick 96 = .ok (.iload_n 2, 1) := by decide +kernel
theorem dX12_tick_97 : decode cX12_tick 97 = .ok (.iadd, 1) := by decide +kernel
theorem dX12_tick_98 : decode cX12_tick 98 = .ok (.iconst 0, 1) := by decide +kernel
theorem dX12_tick_99 : decode cX12_tick 99 = .ok (.iastore, 1) := by decide +kernel
theorem dX12_tick_100 : decode cX12_tick 100 = .ok (.iinc 2 1, 3) := by decide +kernel
theorem dX12_tick_103 : decode cX12_tick 103 = .ok (.goto (-68), 3) := by decide +kernel
theorem dX12_tick_106 : decode cX12_tick 106 = .ok (.aload_n 0, 1) := by decide +kernel
theorem dX12_tick_107 : decode cX12_tick 107 = .ok (.getfield 33, 3) := by decide +kernel
theorem dX12_tick_110 : decode cX12_tick 110 = .ok (.sipush 226, 3) := by decide +kernel
theorem dX12_tick_113 : decode cX12_tick 113 = .ok (.dup2, 1) := by decide +kernel
theorem dX12_tick_114 : decode cX12_tick 114 = .ok (.iaload, 1) := by decide +kernel
theorem dX12_tick_115 : decode cX12_tick 115 = .ok (.iconst 1, 1) := by decide +kernel
theorem dX12_tick_116 : decode cX12_tick 116 = .ok (.iadd, 1) := by decide +kernel
theorem dX12_tick_117 : decode cX12_tick 117 = .ok (.iastore, 1) := by decide +kernel
theorem dX12_tick_118 : decode cX12_tick 118 = .ok (.aload_n 0, 1) := by decide +kernel
theorem dX12_tick_119 : decode cX12_tick 119 = .ok (.getfield 33, 3) := by decide +kernel
theorem dX12_tick_122 : decode cX12_tick 122 = .ok (.sipush 227, 3) := by decide +kernel
theorem dX12_tick_125 : decode cX12_tick 125 = .ok (.iaload, 1) := by decide +kernel
theorem dX12_tick_126 : decode cX12_tick 126 = .ok (.iload_n 1, 1) := by decide +kernel
theorem dX12_tick_127 : decode cX12_tick 127 = .ok (.if_icmp .le 7, 3) := by decide +kernel
theorem dX12_tick_130 : decode cX12_tick 130 = .ok (.iconst 1, 1) := by decide +kernel
theorem dX12_tick_131 : decode cX12_tick 131 = .ok (.goto 4, 3) := by decide +kernel
theorem dX12_tick_134 : decode cX12_tick 134 = .ok (.iconst 0, 1) := by decide +kernel
theorem dX12_tick_135 : decode cX12_tick 135 = .ok (.ireturn, 1) := by decide +kernel
theorem dX12_goesOn_0 : decode cX12_goesOn 0 = .ok (.iconst 0, 1) := by decide +kernel
theorem dX12_goesOn_1 : decode cX12_goesOn 1 = .ok (.istore_n 2, 1) := by decide +kernel
theorem dX12_goesOn_2 : decode cX12_goesOn 2 = .ok (.iload_n 2, 1) := by decide +kernel
theorem dX12_goesOn_3 : decode cX12_goesOn 3 = .ok (.iload_n 1, 1) := by decide +kernel
theorem dX12_goesOn_4 : decode cX12_goesOn 4 = .ok (.if_icmp .ge 28, 3) := by decide +kernel
theorem dX12_goesOn_7 : decode cX12_goesOn 7 = .ok (.aload_n 0, 1) := by decide +kernel
theorem dX12_goesOn_8 : decode cX12_goesOn 8 = .ok (.getfield 33, 3) := by decide +kernel
theorem dX12_goesOn_11 : decode cX12_goesOn 11 = .ok (.sipush 226, 3) := by decide +kernel
theorem dX12_goesOn_14 : decode cX12_goesOn 14 = .ok (.iaload, 1) := by decide +kernel
theorem dX12_goesOn_15 : decode cX12_goesOn 15 = .ok (.sipush 1000, 3) := by decide +kernel
theorem dX12_goesOn_18 : decode cX12_goesOn 18 = .ok (.if_icmp .ge 14, 3) := by decide +kernel
theorem dX12_goesOn_21 : decode cX12_goesOn 21 = .ok (.aload_n 0, 1) := by decide +kernel
theorem dX12_goesOn_22 : decode cX12_goesOn 22 = .ok (.invokevirtual 373, 3) := by decide +kernel
theorem dX12_goesOn_25 : decode cX12_goesOn 25 = .ok (.pop, 1) := by decide +kernel
theorem dX12_goesOn_26 : decode cX12_goesOn 26 = .ok (.iinc 2 1, 3) := by decide +kernel
theorem dX12_goesOn_29 : decode cX12_goesOn 29 = .ok (.goto (-27), 3) := by decide +kernel
theorem dX12_goesOn_32 : decode cX12_goesOn 32 = .ok (.iload_n 2, 1) := by decide +kernel
theorem dX12_goesOn_33 : decode cX12_goesOn 33 = .ok (.ireturn, 1) := by decide +kernel
theorem dX12_set_0 : decode cX12_set 0 = .ok (.aload_n 0, 1) := by decide +kernel
theorem dX12_set_1 : decode cX12_set 1 = .ok (.iconst 0, 1) := by decide +kernel
theorem dX12_set_2 : decode cX12_set 2 = .ok (.putfield 1, 3) := by decide +kernel
theorem dX12_set_5 : decode cX12_set 5 = .ok (.aload_n 0, 1) := by decide +kernel
theorem dX12_set_6 : decode cX12_set 6 = .ok (.iload_n 1, 1) := by decide +kernel
theorem dX12_set_7 : decode cX12_set 7 = .ok (.invokevirtual 329, 3) := by decide +kernel
theorem dX12_set_10 : decode cX12_set 10 = .ok (.ifCond .ne 5, 3) := by decide +kernel
theorem dX12_set_13 : decode cX12_set 13 = .ok (.iconst (-1), 1) := by decide +kernel
theorem dX12_set_14 : decode cX12_set 14 = .ok (.ireturn, 1) := by decide +kernel
theorem dX12_set_15 : decode cX12_set 15 = .ok (.aload_n 0, 1) := by decide +kernel
theorem dX12_set_16 : decode cX12_set 16 = .ok (.iload_n 1, 1) := by decide +kernel
theorem dX12_set_17 : decode cX12_set 17 = .ok (.invokevirtual 376, 3) := by decide +kernel
theorem dX12_set_20 : decode cX12_set 20 = .ok (.istore_n 2, 1) := by decide +kernel
theorem dX12_set_21 : decode cX12_set 21 = .ok (.iload_n 2, 1) := by decide +kernel
theorem dX12_set_22 : decode cX12_set 22 = .ok (.ifCond .le 5, 3) := by decide +kernel
theorem dX12_set_25 : decode cX12_set 25 = .ok (.iload_n 2, 1) := by decide +kernel
theorem dX12_set_26 : decode cX12_set 26 = .ok (.ireturn, 1) := by decide +kernel
theorem dX12_set_27 : decode cX12_set 27 = .ok (.aload_n 0, 1) := by decide +kernel
theorem dX12_set_28 : decode cX12_set 28 = .ok (.invokevirtual 379, 3) := by decide +kernel
theorem dX12_set_31 : decode cX12_set 31 = .ok (.aload_n 0, 1) := by decide +kernel
theorem dX12_set_32 : decode cX12_set 32 = .ok (.getfield 33, 3) := by decide +kernel
theorem dX12_set_35 : decode cX12_set 35 = .ok (.sipush 229, 3) := by decide +kernel
theorem dX12_set_38 : decode cX12_set 38 = .ok (.iload_n 1, 1) := by decide +kernel
theorem dX12_set_39 : decode cX12_set 39 = .ok (.iadd, 1) := by decide +kernel
theorem dX12_set_40 : decode cX12_set 40 = .ok (.iconst 1, 1) := by decide +kernel
theorem dX12_set_41 : decode cX12_set 41 = .ok (.iastore, 1) := by decide +kernel
theorem dX12_set_42 : decode cX12_set 42 = .ok (.iconst 0, 1) := by decide +kernel
theorem dX12_set_43 : decode cX12_set 43 = .ok (.ireturn, 1) := by decide +kernel
theorem dX12_back_0 : decode cX12_back 0 = .ok (.aload_n 0, 1) := by decide +kernel
theorem dX12_back_1 : decode cX12_back 1 = .ok (.iconst 0, 1) := by decide +kernel
theorem dX12_back_2 : decode cX12_back 2 = .ok (.putfield 1, 3) := by decide +kernel
theorem dX12_back_5 : decode cX12_back 5 = .ok (.aload_n 0, 1) := by decide +kernel
theorem dX12_back_6 : decode cX12_back 6 = .ok (.iload_n 1, 1) := by decide +kernel
theorem dX12_back_7 : decode cX12_back 7 = .ok (.invokevirtual 329, 3) := by decide +kernel
theorem dX12_back_10 : decode cX12_back 10 = .ok (.ifCond .ne 5, 3) := by decide +kernel
theorem dX12_back_13 : decode cX12_back 13 = .ok (.iconst (-1), 1) := by decide +kernel
theorem dX12_back_14 : decode cX12_back 14 = .ok (.ireturn, 1) := by decide +kernel
theorem dX12_back_15 : decode cX12_back 15 = .ok (.aload_n 0, 1) := by decide +kernel
theorem dX12_back_16 : decode cX12_back 16 = .ok (.getfield 33, 3) := by decide +kernel
theorem dX12_back_19 : decode cX12_back 19 = .ok (.sipush 229, 3) := by decide +kernel
theorem dX12_back_22 : decode cX12_back 22 = .ok (.iload_n 1, 1) := by decide +kernel
theorem dX12_back_23 : decode cX12_back 23 = .ok (.iadd, 1) := by decide +kernel
theorem dX12_back_24 : decode cX12_back 24 = .ok (.iaload, 1) := by decide +kernel
theorem dX12_back_25 : decode cX12_back 25 = .ok (.iconst 1, 1) := by decide +kernel
theorem dX12_back_26 : decode cX12_back 26 = .ok (.if_icmp .eq 5, 3) := by decide +kernel
theorem dX12_back_29 : decode cX12_back 29 = .ok (.iconst 1, 1) := by decide +kernel
theorem dX12_back_30 : decode cX12_back 30 = .ok (.ireturn, 1) := by decide +kernel
theorem dX12_back_31 : decode cX12_back 31 = .ok (.aload_n 0, 1) := by decide +kernel
theorem dX12_back_32 : decode cX12_back 32 = .ok (.invokevirtual 379, 3) := by decide +kernel
theorem dX12_back_35 : decode cX12_back 35 = .ok (.aload_n 0, 1) := by decide +kernel
theorem dX12_back_36 : decode cX12_back 36 = .ok (.iload_n 1, 1) := by decide +kernel
theorem dX12_back_37 : decode cX12_back 37 = .ok (.invokevirtual 382, 3) := by decide +kernel
theorem dX12_back_40 : decode cX12_back 40 = .ok (.iconst 0, 1) := by decide +kernel
theorem dX12_back_41 : decode cX12_back 41 = .ok (.ireturn, 1) := by decide +kernel
theorem dX12_turn_0 : decode cX12_turn 0 = .ok (.aload_n 0, 1) := by decide +kernel
theorem dX12_turn_1 : decode cX12_turn 1 = .ok (.iconst 0, 1) := by decide +kernel
theorem dX12_turn_2 : decode cX12_turn 2 = .ok (.putfield 1, 3) := by decide +kernel
theorem dX12_turn_5 : decode cX12_turn 5 = .ok (.aload_n 0, 1) := by decide +kernel
theorem dX12_turn_6 : decode cX12_turn 6 = .ok (.iload_n 1, 1) := by decide +kernel
theorem dX12_turn_7 : decode cX12_turn 7 = .ok (.invokevirtual 317, 3) := by decide +kernel
theorem dX12_turn_10 : decode cX12_turn 10 = .ok (.ifCond .ne 5, 3) := by decide +kernel
theorem dX12_turn_13 : decode cX12_turn 13 = .ok (.iconst (-1), 1) := by decide +kernel
theorem dX12_turn_14 : decode cX12_turn 14 = .ok (.ireturn, 1) := by decide +kernel
theorem dX12_turn_15 : decode cX12_turn 15 = .ok (.aload_n 0, 1) := by decide +kernel
theorem dX12_turn_16 : decode cX12_turn 16 = .ok (.iload_n 1, 1) := by decide +kernel
theorem dX12_turn_17 : decode cX12_turn 17 = .ok (.invokevirtual 385, 3) := by decide +kernel
theorem dX12_turn_20 : decode cX12_turn 20 = .ok (.istore_n 2, 1) := by decide +kernel
theorem dX12_turn_21 : decode cX12_turn 21 = .ok (.iload_n 2, 1) := by decide +kernel
theorem dX12_turn_22 : decode cX12_turn 22 = .ok (.ifCond .le 5, 3) := by decide +kernel
theorem dX12_turn_25 : decode cX12_turn 25 = .ok (.iload_n 2, 1) := by decide +kernel
theorem dX12_turn_26 : decode cX12_turn 26 = .ok (.ireturn, 1) := by decide +kernel
theorem dX12_turn_27 : decode cX12_turn 27 = .ok (.aload_n 0, 1) := by decide +kernel
theorem dX12_turn_28 : decode cX12_turn 28 = .ok (.invokevirtual 379, 3) := by decide +kernel
theorem dX12_turn_31 : decode cX12_turn 31 = .ok (.aload_n 0, 1) := by decide +kernel
theorem dX12_turn_32 : decode cX12_turn 32 = .ok (.getfield 33, 3) := by decide +kernel
theorem dX12_turn_35 : decode cX12_turn 35 = .ok (.sipush 228, 3) := by decide +kernel
theorem dX12_turn_38 : decode cX12_turn 38 = .ok (.dup2, 1) := by decide +kernel
theorem dX12_turn_39 : decode cX12_turn 39 = .ok (.iaload, 1) := by decide +kernel
theorem dX12_turn_40 : decode cX12_turn 40 = .ok (.iconst 1, 1) := by decide +kernel
theorem dX12_turn_41 : decode cX12_turn 41 = .ok (.iload_n 1, 1) := by decide +kernel
theorem dX12_turn_42 : decode cX12_turn 42 = .ok (.ishl, 1) := by decide +kernel
theorem dX12_turn_43 : decode cX12_turn 43 = .ok (.ixor, 1) := by decide +kernel
theorem dX12_turn_44 : decode cX12_turn 44 = .ok (.iastore, 1) := by decide +kernel
theorem dX12_turn_45 : decode cX12_turn 45 = .ok (.iconst 0, 1) := by decide +kernel
theorem dX12_turn_46 : decode cX12_turn 46 = .ok (.ireturn, 1) := by decide +kernel
theorem dX12_fail_0 : decode cX12_fail 0 = .ok (.aload_n 0, 1) := by decide +kernel
theorem dX12_fail_1 : decode cX12_fail 1 = .ok (.iconst 0, 1) := by decide +kernel
theorem dX12_fail_2 : decode cX12_fail 2 = .ok (.putfield 1, 3) := by decide +kernel
theorem dX12_fail_5 : decode cX12_fail 5 = .ok (.aload_n 0, 1) := by decide +kernel
theorem dX12_fail_6 : decode cX12_fail 6 = .ok (.iload_n 1, 1) := by decide +kernel
theorem dX12_fail_7 : decode cX12_fail 7 = .ok (.invokevirtual 311, 3) := by decide +kernel
theorem dX12_fail_10 : decode cX12_fail 10 = .ok (.ifCond .eq 12, 3) := by decide +kernel
theorem dX12_fail_13 : decode cX12_fail 13 = .ok (.iload_n 2, 1) := by decide +kernel
theorem dX12_fail_14 : decode cX12_fail 14 = .ok (.iconst 0, 1) := by decide +kernel
theorem dX12_fail_15 : decode cX12_fail 15 = .ok (.iconst 1, 1) := by decide +kernel
theorem dX12_fail_16 : decode cX12_fail 16 = .ok (.invokestatic 211, 3) := by decide +kernel
theorem dX12_fail_19 : decode cX12_fail 19 = .ok (.ifCond .ne 5, 3) := by decide +kernel
theorem dX12_fail_22 : decode cX12_fail 22 = .ok (.iconst (-1), 1) := by decide +kernel
theorem dX12_fail_23 : decode cX12_fail 23 = .ok (.ireturn, 1) := by decide +kernel
theorem dX12_fail_24 : decode cX12_fail 24 = .ok (.aload_n 0, 1) := by decide +kernel
theorem dX12_fail_25 : decode cX12_fail 25 = .ok (.getfield 33, 3) := by decide +kernel
theorem dX12_fail_28 : decode cX12_fail 28 = .ok (.sipush 259, 3) := by decide +kernel
theorem dX12_fail_31 : decode cX12_fail 31 = .ok (.iload_n 1, 1) := by decide +kernel
theorem dX12_fail_32 : decode cX12_fail 32 = .ok (.iadd, 1) := by decide +kernel
theorem dX12_fail_33 : decode cX12_fail 33 = .ok (.iaload, 1) := by decide +kernel
theorem dX12_fail_34 : decode cX12_fail 34 = .ok (.iload_n 2, 1) := by decide +kernel
theorem dX12_fail_35 : decode cX12_fail 35 = .ok (.iconst 1, 1) := by decide +kernel
theorem dX12_fail_36 : decode cX12_fail 36 = .ok (.iadd, 1) := by decide +kernel
theorem dX12_fail_37 : decode cX12_fail 37 = .ok (.if_icmp .ne 5, 3) := by decide +kernel
theorem dX12_fail_40 : decode cX12_fail 40 = .ok (.iconst 1, 1) := by decide +kernel
theorem dX12_fail_41 : decode cX12_fail 41 = .ok (.ireturn, 1) := by decide +kernel
theorem dX12_fail_42 : decode cX12_fail 42 = .ok (.aload_n 0, 1) := by decide +kernel
theorem dX12_fail_43 : decode cX12_fail 43 = .ok (.invokevirtual 379, 3) := by decide +kernel
theorem dX12_fail_46 : decode cX12_fail 46 = .ok (.aload_n 0, 1) := by decide +kernel
theorem dX12_fail_47 : decode cX12_fail 47 = .ok (.getfield 33, 3) := by decide +kernel
theorem dX12_fail_50 : decode cX12_fail 50 = .ok (.sipush 259, 3) := by decide +kernel
theorem dX12_fail_53 : decode cX12_fail 53 = .ok (.iload_n 1, 1) := by decide +kernel
theorem dX12_fail_54 : decode cX12_fail 54 = .ok (.iadd, 1) := by decide +kernel
theorem dX12_fail_55 : decode cX12_fail 55 = .ok (.iload_n 2, 1) := by decide +kernel
theorem dX12_fail_56 : decode cX12_fail 56 = .ok (.iconst 1, 1) := by decide +kernel
theorem dX12_fail_57 : decode cX12_fail 57 = .ok (.iadd, 1) := by decide +kernel
theorem dX12_fail_58 : decode cX12_fail 58 = .ok (.iastore, 1) := by decide +kernel
theorem dX12_fail_59 : decode cX12_fail 59 = .ok (.iconst 0, 1) := by decide +kernel
theorem dX12_fail_60 : decode cX12_fail 60 = .ok (.ireturn, 1) := by decide +kernel
theorem dX12_mend_0 : decode cX12_mend 0 = .ok (.aload_n 0, 1) := by decide +kernel
theorem dX12_mend_1 : decode cX12_mend 1 = .ok (.iconst 0, 1) := by decide +kernel
theorem dX12_mend_2 : decode cX12_mend 2 = .ok (.putfield 1, 3) := by decide +kernel
theorem dX12_mend_5 : decode cX12_mend 5 = .ok (.aload_n 0, 1) := by decide +kernel
theorem dX12_mend_6 : decode cX12_mend 6 = .ok (.iload_n 1, 1) := by decide +kernel
theorem dX12_mend_7 : decode cX12_mend 7 = .ok (.invokevirtual 311, 3) := by decide +kernel
theorem dX12_mend_10 : decode cX12_mend 10 = .ok (.ifCond .ne 5, 3) := by decide +kernel
theorem dX12_mend_13 : decode cX12_mend 13 = .ok (.iconst (-1), 1) := by decide +kernel
theorem dX12_mend_14 : decode cX12_mend 14 = .ok (.ireturn, 1) := by decide +kernel
theorem dX12_mend_15 : decode cX12_mend 15 = .ok (.aload_n 0, 1) := by decide +kernel
theorem dX12_mend_16 : decode cX12_mend 16 = .ok (.getfield 33, 3) := by decide +kernel
theorem dX12_mend_19 : decode cX12_mend 19 = .ok (.sipush 259, 3) := by decide +kernel
theorem dX12_mend_22 : decode cX12_mend 22 = .ok (.iload_n 1, 1) := by decide +kernel
theorem dX12_mend_23 : decode cX12_mend 23 = .ok (.iadd, 1) := by decide +kernel
theorem dX12_mend_24 : decode cX12_mend 24 = .ok (.iaload, 1) := by decide +kernel
theorem dX12_mend_25 : decode cX12_mend 25 = .ok (.ifCond .ne 5, 3) := by decide +kernel
theorem dX12_mend_28 : decode cX12_mend 28 = .ok (.iconst 1, 1) := by decide +kernel
theorem dX12_mend_29 : decode cX12_mend 29 = .ok (.ireturn, 1) := by decide +kernel
theorem dX12_mend_30 : decode cX12_mend 30 = .ok (.aload_n 0, 1) := by decide +kernel
theorem dX12_mend_31 : decode cX12_mend 31 = .ok (.invokevirtual 379, 3) := by decide +kernel
theorem dX12_mend_34 : decode cX12_mend 34 = .ok (.aload_n 0, 1) := by decide +kernel
theorem dX12_mend_35 : decode cX12_mend 35 = .ok (.getfield 33, 3) := by decide +kernel
theorem dX12_mend_38 : decode cX12_mend 38 = .ok (.sipush 259, 3) := by decide +kernel
theorem dX12_mend_41 : decode cX12_mend 41 = .ok (.iload_n 1, 1) := by decide +kernel
theorem dX12_mend_42 : decode cX12_mend 42 = .ok (.iadd, 1) := by decide +kernel
theorem dX12_mend_43 : decode cX12_mend 43 = .ok (.iconst 0, 1) := by decide +kernel
theorem dX12_mend_44 : decode cX12_mend 44 = .ok (.iastore, 1) := by decide +kernel
theorem dX12_mend_45 : decode cX12_mend 45 = .ok (.iconst 0, 1) := by decide +kernel
theorem dX12_mend_46 : decode cX12_mend 46 = .ok (.ireturn, 1) := by decide +kernel
theorem dX12_ticks_0 : decode cX12_ticks 0 = .ok (.aload_n 0, 1) := by decide +kernel
theorem dX12_ticks_1 : decode cX12_ticks 1 = .ok (.iconst 0, 1) := by decide +kernel
theorem dX12_ticks_2 : decode cX12_ticks 2 = .ok (.putfield 1, 3) := by decide +kernel
theorem dX12_ticks_5 : decode cX12_ticks 5 = .ok (.iload_n 1, 1) := by decide +kernel
theorem dX12_ticks_6 : decode cX12_ticks 6 = .ok (.iconst 1, 1) := by decide +kernel
theorem dX12_ticks_7 : decode cX12_ticks 7 = .ok (.bipush 60, 2) := by decide +kernel
theorem dX12_ticks_9 : decode cX12_ticks 9 = .ok (.invokestatic 211, 3) := by decide +kernel
theorem dX12_ticks_12 : decode cX12_ticks 12 = .ok (.ifCond .ne 5, 3) := by decide +kernel
theorem dX12_ticks_15 : decode cX12_ticks 15 = .ok (.iconst (-1), 1) := by decide +kernel
theorem dX12_ticks_16 : decode cX12_ticks 16 = .ok (.ireturn, 1) := by decide +kernel
theorem dX12_ticks_17 : decode cX12_ticks 17 = .ok (.aload_n 0, 1) := by decide +kernel
theorem dX12_ticks_18 : decode cX12_ticks 18 = .ok (.getfield 33, 3) := by decide +kernel
theorem dX12_ticks_21 : decode cX12_ticks 21 = .ok (.sipush 226, 3) := by decide +kernel
theorem dX12_ticks_24 : decode cX12_ticks 24 = .ok (.iaload, 1) := by decide +kernel
theorem dX12_ticks_25 : decode cX12_ticks 25 = .ok (.sipush 1000, 3) := by decide +kernel
theorem dX12_ticks_28 : decode cX12_ticks 28 = .ok (.if_icmp .ne 5, 3) := by decide +kernel
theorem dX12_ticks_31 : decode cX12_ticks 31 = .ok (.iconst 0, 1) := by decide +kernel
theorem dX12_ticks_32 : decode cX12_ticks 32 = .ok (.ireturn, 1) := by decide +kernel
theorem dX12_ticks_33 : decode cX12_ticks 33 = .ok (.aload_n 0, 1) := by decide +kernel
theorem dX12_ticks_34 : decode cX12_ticks 34 = .ok (.invokevirtual 379, 3) := by decide +kernel
theorem dX12_ticks_37 : decode cX12_ticks 37 = .ok (.aload_n 0, 1) := by decide +kernel
theorem dX12_ticks_38 : decode cX12_ticks 38 = .ok (.iload_n 1, 1) := by decide +kernel
theorem dX12_ticks_39 : decode cX12_ticks 39 = .ok (.invokevirtual 388, 3) := by decide +kernel
theorem dX12_ticks_42 : decode cX12_ticks 42 = .ok (.ireturn, 1) := by decide +kernel
theorem dX12_stores_0 : decode cX12_stores 0 = .ok (.aload_n 0, 1) := by decide +kernel
theorem dX12_stores_1 : decode cX12_stores 1 = .ok (.getfield 295, 3) := by decide +kernel
theorem dX12_stores_4 : decode cX12_stores 4 = .ok (.bipush 8, 2) := by decide +kernel
theorem dX12_stores_6 : decode cX12_stores 6 = .ok (.if_icmp .ne 39, 3) := by decide +kernel
theorem dX12_stores_9 : decode cX12_stores 9 = .ok (.iconst 0, 1) := by decide +kernel
theorem dX12_stores_10 : decode cX12_stores 10 = .ok (.istore_n 1, 1) := by decide +kernel
theorem dX12_stores_11 : decode cX12_stores 11 = .ok (.iload_n 1, 1) := by decide +kernel
theorem dX12_stores_12 : decode cX12_stores 12 = .ok (.sipush 434, 3) := by decide +kernel
theorem dX12_stores_15 : decode cX12_stores 15 = .ok (.if_icmp .ge 24, 3) := by decide +kernel
theorem dX12_stores_18 : decode cX12_stores 18 = .ok (.aload_n 0, 1) := by decide +kernel
theorem dX12_stores_19 : decode cX12_stores 19 = .ok (.getfield 50, 3) := by decide +kernel
theorem dX12_stores_22 : decode cX12_stores 22 = .ok (.iload_n 1, 1) := by decide +kernel
theorem dX12_stores_23 : decode cX12_stores 23 = .ok (.aload_n 0, 1) := by decide +kernel
theorem dX12_stores_24 : decode cX12_stores 24 = .ok (.getfield 50, 3) := by decide +kernel
theorem dX12_stores_27 : decode cX12_stores 27 = .ok (.iload_n 1, 1) := by decide +kernel
theorem dX12_stores_28 : decode cX12_stores 28 = .ok (.bipush 62, 2) := by decide +kernel
theorem dX12_stores_30 : decode cX12_stores 30 = .ok (.iadd, 1) := by decide +kernel
theorem dX12_stores_31 : decode cX12_stores 31 = .ok (.iaload, 1) := by decide +kernel
theorem dX12_stores_32 : decode cX12_stores 32 = .ok (.iastore, 1) := by decide +kernel
theorem dX12_stores_33 : decode cX12_stores 33 = .ok (.iinc 1 1, 3) := by decide +kernel
theorem dX12_stores_36 : decode cX12_stores 36 = .ok (.goto (-25), 3) := by decide +kernel
theorem dX12_stores_39 : decode cX12_stores 39 = .ok (.aload_n 0, 1) := by decide +kernel
theorem dX12_stores_40 : decode cX12_stores 40 = .ok (.bipush 7, 2) := by decide +kernel
theorem dX12_stores_42 : decode cX12_stores 42 = .ok (.putfield 295, 3) := by decide +kernel
theorem dX12_stores_45 : decode cX12_stores 45 = .ok (.iconst 0, 1) := by decide +kernel
theorem dX12_stores_46 : decode cX12_stores 46 = .ok (.istore_n 1, 1) := by decide +kernel
theorem dX12_stores_47 : decode cX12_stores 47 = .ok (.iload_n 1, 1) := by decide +kernel
theorem dX12_stores_48 : decode cX12_stores 48 = .ok (.bipush 62, 2) := by decide +kernel
theorem dX12_stores_50 : decode cX12_stores 50 = .ok (.if_icmp .ge 33, 3) := by decide +kernel
theorem dX12_stores_53 : decode cX12_stores 53 = .ok (.aload_n 0, 1) := by decide +kernel
theorem dX12_stores_54 : decode cX12_stores 54 = .ok (.getfield 50, 3) := by decide +kernel
theorem dX12_stores_57 : decode cX12_stores 57 = .ok (.bipush 62, 2) := by decide +kernel
theorem dX12_stores_59 : decode cX12_stores 59 = .ok (.aload_n 0, 1) := by decide +kernel
theorem dX12_stores_60 : decode cX12_stores 60 = .ok (.getfield 295, 3) := by decide +kernel
theorem dX12_stores_63 : decode cX12_stores 63 = .ok (.imul, 1) := by decide +kernel
theorem dX12_stores_64 : decode cX12_stores 64 = .ok (.iload_n 1, 1) := by decide +kernel
theorem dX12_stores_65 : decode cX12_stores 65 = .ok (.iadd, 1) := by decide +kernel
theorem dX12_stores_66 : decode cX12_stores 66 = .ok (.aload_n 0, 1) := by decide +kernel
theorem dX12_stores_67 : decode cX12_stores 67 = .ok (.getfield 33, 3) := by decide +kernel
theorem dX12_stores_70 : decode cX12_stores 70 = .ok (.sipush 226, 3) := by decide +kernel
theorem dX12_stores_73 : decode cX12_stores 73 = .ok (.iload_n 1, 1) := by decide +kernel
theorem dX12_stores_74 : decode cX12_stores 74 = .ok (.iadd, 1) := by decide +kernel
theorem dX12_stores_75 : decode cX12_stores 75 = .ok (.iaload, 1) := by decide +kernel
theorem dX12_stores_76 : decode cX12_stores 76 = .ok (.iastore, 1) := by decide +kernel
theorem dX12_stores_77 : decode cX12_stores 77 = .ok (.iinc 1 1, 3) := by decide +kernel
theorem dX12_stores_80 : decode cX12_stores 80 = .ok (.goto (-33), 3) := by decide +kernel
theorem dX12_stores_83 : decode cX12_stores 83 = .ok (.aload_n 0, 1) := by decide +kernel
theorem dX12_stores_84 : decode cX12_stores 84 = .ok (.dup, 1) := by decide +kernel
theorem dX12_stores_85 : decode cX12_stores 85 = .ok (.getfield 295, 3) := by decide +kernel
theorem dX12_stores_88 : decode cX12_stores 88 = .ok (.iconst 1, 1) := by decide +kernel
theorem dX12_stores_89 : decode cX12_stores 89 = .ok (.iadd, 1) := by decide +kernel
theorem dX12_stores_90 : decode cX12_stores 90 = .ok (.putfield 295, 3) := by decide +kernel
theorem dX12_stores_93 : decode cX12_stores 93 = .ok (.return_, 1) := by decide +kernel
theorem dX12_undo_0 : decode cX12_undo 0 = .ok (.aload_n 0, 1) := by decide +kernel
theorem dX12_undo_1 : decode cX12_undo 1 = .ok (.iconst 0, 1) := by decide +kernel
theorem dX12_undo_2 : decode cX12_undo 2 = .ok (.putfield 1, 3) := by decide +kernel
theorem dX12_undo_5 : decode cX12_undo 5 = .ok (.aload_n 0, 1) := by decide +kernel
theorem dX12_undo_6 : decode cX12_undo 6 = .ok (.getfield 295, 3) := by decide +kernel
theorem dX12_undo_9 : decode cX12_undo 9 = .ok (.ifCond .ne 5, 3) := by decide +kernel
theorem dX12_undo_12 : decode cX12_undo 12 = .ok (.iconst (-1), 1) := by decide +kernel
theorem dX12_undo_13 : decode cX12_undo 13 = .ok (.ireturn, 1) := by decide +kernel
theorem dX12_undo_14 : decode cX12_undo 14 = .ok (.aload_n 0, 1) := by decide +kernel
theorem dX12_undo_15 : decode cX12_undo 15 = .ok (.dup, 1) := by decide +kernel
theorem dX12_undo_16 : decode cX12_undo 16 = .ok (.getfield 295, 3) := by decide +kernel
theorem dX12_undo_19 : decode cX12_undo 19 = .ok (.iconst 1, 1) := by decide +kernel
theorem dX12_undo_20 : decode cX12_undo 20 = .ok (.isub, 1) := by decide +kernel
theorem dX12_undo_21 : decode cX12_undo 21 = .ok (.putfield 295, 3) := by decide +kernel
theorem dX12_undo_24 : decode cX12_undo 24 = .ok (.iconst 0, 1) := by decide +kernel
theorem dX12_undo_25 : decode cX12_undo 25 = .ok (.istore_n 1, 1) := by decide +kernel
theorem dX12_undo_26 : decode cX12_undo 26 = .ok (.iload_n 1, 1) := by decide +kernel
theorem dX12_undo_27 : decode cX12_undo 27 = .ok (.bipush 62, 2) := by decide +kernel
theorem dX12_undo_29 : decode cX12_undo 29 = .ok (.if_icmp .ge 33, 3) := by decide +kernel
theorem dX12_undo_32 : decode cX12_undo 32 = .ok (.aload_n 0, 1) := by decide +kernel
theorem dX12_undo_33 : decode cX12_undo 33 = .ok (.getfield 33, 3) := by decide +kernel
theorem dX12_undo_36 : decode cX12_undo 36 = .ok (.sipush 226, 3) := by decide +kernel
theorem dX12_undo_39 : decode cX12_undo 39 = .ok (.iload_n 1, 1) := by decide +kernel
theorem dX12_undo_40 : decode cX12_undo 40 = .ok (.iadd, 1) := by decide +kernel
theorem dX12_undo_41 : decode cX12_undo 41 = .ok (.aload_n 0, 1) := by decide +kernel
theorem dX12_undo_42 : decode cX12_undo 42 = .ok (.getfield 50, 3) := by decide +kernel
theorem dX12_undo_45 : decode cX12_undo 45 = .ok (.bipush 62, 2) := by decide +kernel
theorem dX12_undo_47 : decode cX12_undo 47 = .ok (.aload_n 0, 1) := by decide +kernel
theorem dX12_undo_48 : decode cX12_undo 48 = .ok (.getfield 295, 3) := by decide +kernel
theorem dX12_undo_51 : decode cX12_undo 51 = .ok (.imul, 1) := by decide +kernel
theorem dX12_undo_52 : decode cX12_undo 52 = .ok (.iload_n 1, 1) := by decide +kernel
theorem dX12_undo_53 : decode cX12_undo 53 = .ok (.iadd, 1) := by decide +kernel
theorem dX12_undo_54 : decode cX12_undo 54 = .ok (.iaload, 1) := by decide +kernel
theorem dX12_undo_55 : decode cX12_undo 55 = .ok (.iastore, 1) := by decide +kernel
theorem dX12_undo_56 : decode cX12_undo 56 = .ok (.iinc 1 1, 3) := by decide +kernel
theorem dX12_undo_59 : decode cX12_undo 59 = .ok (.goto (-33), 3) := by decide +kernel
theorem dX12_undo_62 : decode cX12_undo 62 = .ok (.aload_n 0, 1) := by decide +kernel
theorem dX12_undo_63 : decode cX12_undo 63 = .ok (.getfield 295, 3) := by decide +kernel
theorem dX12_undo_66 : decode cX12_undo 66 = .ok (.ireturn, 1) := by decide +kernel
theorem dX12_tries_0 : decode cX12_tries 0 = .ok (.iconst 0, 1) := by decide +kernel
theorem dX12_tries_1 : decode cX12_tries 1 = .ok (.istore_n 1, 1) := by decide +kernel
theorem dX12_tries_2 : decode cX12_tries 2 = .ok (.iload_n 1, 1) := by decide +kernel
theorem dX12_tries_3 : decode cX12_tries 3 = .ok (.bipush 62, 2) := by decide +kernel
theorem dX12_tries_5 : decode cX12_tries 5 = .ok (.if_icmp .ge 25, 3) := by decide +kernel
theorem dX12_tries_8 : decode cX12_tries 8 = .ok (.aload_n 0, 1) := by decide +kernel
theorem dX12_tries_9 : decode cX12_tries 9 = .ok (.getfield 53, 3) := by decide +kernel
theorem dX12_tries_12 : decode cX12_tries 12 = .ok (.iload_n 1, 1) := by decide +kernel
theorem dX12_tries_13 : decode cX12_tries 13 = .ok (.aload_n 0, 1) := by decide +kernel
theorem dX12_tries_14 : decode cX12_tries 14 = .ok (.getfield 33, 3) := by decide +kernel
theorem dX12_tries_17 : decode cX12_tries 17 = .ok (.sipush 226, 3) := by decide +kernel
theorem dX12_tries_20 : decode cX12_tries 20 = .ok (.iload_n 1, 1) := by decide +kernel
theorem dX12_tries_21 : decode cX12_tries 21 = .ok (.iadd, 1) := by decide +kernel
theorem dX12_tries_22 : decode cX12_tries 22 = .ok (.iaload, 1) := by decide +kernel
theorem dX12_tries_23 : decode cX12_tries 23 = .ok (.iastore, 1) := by decide +kernel
theorem dX12_tries_24 : decode cX12_tries 24 = .ok (.iinc 1 1, 3) := by decide +kernel
theorem dX12_tries_27 : decode cX12_tries 27 = .ok (.goto (-25), 3) := by decide +kernel
theorem dX12_tries_30 : decode cX12_tries 30 = .ok (.return_, 1) := by decide +kernel
theorem dX12_brings_0 : decode cX12_brings 0 = .ok (.iconst 0, 1) := by decide +kernel
theorem dX12_brings_1 : decode cX12_brings 1 = .ok (.istore_n 1, 1) := by decide +kernel
theorem dX12_brings_2 : decode cX12_brings 2 = .ok (.iload_n 1, 1) := by decide +kernel
theorem dX12_brings_3 : decode cX12_brings 3 = .ok (.bipush 62, 2) := by decide +kernel
theorem dX12_brings_5 : decode cX12_brings 5 = .ok (.if_icmp .ge 25, 3) := by decide +kernel
theorem dX12_brings_8 : decode cX12_brings 8 = .ok (.aload_n 0, 1) := by decide +kernel
theorem dX12_brings_9 : decode cX12_brings 9 = .ok (.getfield 33, 3) := by decide +kernel
theorem dX12_brings_12 : decode cX12_brings 12 = .ok (.sipush 226, 3) := by decide +kernel
theorem dX12_brings_15 : decode cX12_brings 15 = .ok (.iload_n 1, 1) := by decide +kernel
theorem dX12_brings_16 : decode cX12_brings 16 = .ok (.iadd, 1) := by decide +kernel
theorem dX12_brings_17 : decode cX12_brings 17 = .ok (.aload_n 0, 1) := by decide +kernel
theorem dX12_brings_18 : decode cX12_brings 18 = .ok (.getfield 53, 3) := by decide +kernel
theorem dX12_brings_21 : decode cX12_brings 21 = .ok (.iload_n 1, 1) := by decide +kernel
theorem dX12_brings_22 : decode cX12_brings 22 = .ok (.iaload, 1) := by decide +kernel
theorem dX12_brings_23 : decode cX12_brings 23 = .ok (.iastore, 1) := by decide +kernel
theorem dX12_brings_24 : decode cX12_brings 24 = .ok (.iinc 1 1, 3) := by decide +kernel
theorem dX12_brings_27 : decode cX12_brings 27 = .ok (.goto (-25), 3) := by decide +kernel
theorem dX12_brings_30 : decode cX12_brings 30 = .ok (.return_, 1) := by decide +kernel
theorem dX12_isLacking_0 : decode cX12_isLacking 0 = .ok (.aload_n 0, 1) := by decide +kernel
theorem dX12_isLacking_1 : decode cX12_isLacking 1 = .ok (.iload_n 1, 1) := by decide +kernel
theorem dX12_isLacking_2 : decode cX12_isLacking 2 = .ok (.iload_n 2, 1) := by decide +kernel
theorem dX12_isLacking_3 : decode cX12_isLacking 3 = .ok (.invokevirtual 308, 3) := by decide +kernel
theorem dX12_isLacking_6 : decode cX12_isLacking 6 = .ok (.ifCond .eq 45, 3) := by decide +kernel
theorem dX12_isLacking_9 : decode cX12_isLacking 9 = .ok (.aload_n 0, 1) := by decide +kernel
theorem dX12_isLacking_10 : decode cX12_isLacking 10 = .ok (.getfield 33, 3) := by decide +kernel
theorem dX12_isLacking_13 : decode cX12_isLacking 13 = .ok (.sipush 206, 3) := by decide +kernel
theorem dX12_isLacking_16 : decode cX12_isLacking 16 = .ok (.iload_n 1, 1) := by decide +kernel
theorem dX12_isLacking_17 : decode cX12_isLacking 17 = .ok (.iadd, 1) := by decide +kernel
theorem dX12_isLacking_18 : decode cX12_isLacking 18 = .ok (.iaload, 1) := by decide +kernel
theorem dX12_isLacking_19 : decode cX12_isLacking 19 = .ok (.iload_n 2, 1) := by decide +kernel
theorem dX12_isLacking_20 : decode cX12_isLacking 20 = .ok (.invokestatic 280, 3) := by decide +kernel
theorem dX12_isLacking_23 : decode cX12_isLacking 23 = .ok (.ifCond .ne 28, 3) := by decide +kernel
theorem dX12_isLacking_26 : decode cX12_isLacking 26 = .ok (.aload_n 0, 1) := by decide +kernel
theorem dX12_isLacking_27 : decode cX12_isLacking 27 = .ok (.getfield 33, 3) := by decide +kernel
theorem dX12_isLacking_30 : decode cX12_isLacking 30 = .ok (.bipush 106, 2) := by decide +kernel
theorem dX12_isLacking_32 : decode cX12_isLacking 32 = .ok (.iload_n 1, 1) := by decide +kernel
theorem dX12_isLacking_33 : decode cX12_isLacking 33 = .ok (.iadd, 1) := by decide +kernel
theorem dX12_isLacking_34 : decode cX12_isLacking 34 = .ok (.iaload, 1) := by decide +kernel
theorem dX12_isLacking_35 : decode cX12_isLacking 35 = .ok (.aload_n 0, 1) := by decide +kernel
theorem dX12_isLacking_36 : decode cX12_isLacking 36 = .ok (.getfield 33, 3) := by decide +kernel
theorem dX12_isLacking_39 : decode cX12_isLacking 39 = .ok (.bipush 106, 2) := by decide +kernel
theorem dX12_isLacking_41 : decode cX12_isLacking 41 = .ok (.iload_n 2, 1) := by decide +kernel
theorem dX12_isLacking_42 : decode cX12_isLacking 42 = .ok (.iadd, 1) := by decide +kernel
theorem dX12_isLacking_43 : decode cX12_isLacking 43 = .ok (.iaload, 1) := by decide +kernel
theorem dX12_isLacking_44 : decode cX12_isLacking 44 = .ok (.if_icmp .eq 7, 3) := by decide +kernel
theorem dX12_isLacking_47 : decode cX12_isLacking 47 = .ok (.iconst 1, 1) := by decide +kernel
theorem dX12_isLacking_48 : decode cX12_isLacking 48 = .ok (.goto 4, 3) := by decide +kernel
theorem dX12_isLacking_51 : decode cX12_isLacking 51 = .ok (.iconst 0, 1) := by decide +kernel
theorem dX12_isLacking_52 : decode cX12_isLacking 52 = .ok (.ireturn, 1) := by decide +kernel
theorem dX12_lacking_0 : decode cX12_lacking 0 = .ok (.aload_n 0, 1) := by decide +kernel
theorem dX12_lacking_1 : decode cX12_lacking 1 = .ok (.iconst 0, 1) := by decide +kernel
theorem dX12_lacking_2 : decode cX12_lacking 2 = .ok (.putfield 1, 3) := by decide +kernel
theorem dX12_lacking_5 : decode cX12_lacking 5 = .ok (.iconst 0, 1) := by decide +kernel
theorem dX12_lacking_6 : decode cX12_lacking 6 = .ok (.istore_n 1, 1) := by decide +kernel
theorem dX12_lacking_7 : decode cX12_lacking 7 = .ok (.iconst 0, 1) := by decide +kernel
theorem dX12_lacking_8 : decode cX12_lacking 8 = .ok (.istore_n 2, 1) := by decide +kernel
theorem dX12_lacking_9 : decode cX12_lacking 9 = .ok (.iload_n 2, 1) := by decide +kernel
theorem dX12_lacking_10 : decode cX12_lacking 10 = .ok (.aload_n 0, 1) := by decide +kernel
theorem dX12_lacking_11 : decode cX12_lacking 11 = .ok (.getfield 33, 3) := by decide +kernel
theorem dX12_lacking_14 : decode cX12_lacking 14 = .ok (.iconst 4, 1) := by decide +kernel
theorem dX12_lacking_15 : decode cX12_lacking 15 = .ok (.iaload, 1) := by decide +kernel
theorem dX12_lacking_16 : decode cX12_lacking 16 = .ok (.if_icmp .ge 46, 3) := by decide +kernel
theorem dX12_lacking_19 : decode cX12_lacking 19 = .ok (.iload_n 2, 1) := by decide +kernel
theorem dX12_lacking_20 : decode cX12_lacking 20 = .ok (.iconst 1, 1) := by decide +kernel
theorem dX12_lacking_21 : decode cX12_lacking 21 = .ok (.iadd, 1) := by decide +kernel
theorem dX12_lacking_22 : decode cX12_lacking 22 = .ok (.istore_n 3, 1) := by decide +kernel
theorem dX12_lacking_23 : decode cX12_lacking 23 = .ok (.iload_n 3, 1) := by decide +kernel
theorem dX12_lacking_24 : decode cX12_lacking 24 = .ok (.aload_n 0, 1) := by decide +kernel
theorem dX12_lacking_25 : decode cX12_lacking 25 = .ok (.getfield 33, 3) := by decide +kernel
theorem dX12_lacking_28 : decode cX12_lacking 28 = .ok (.iconst 4, 1) := by decide +kernel
theorem dX12_lacking_29 : decode cX12_lacking 29 = .ok (.iaload, 1) := by decide +kernel
theorem dX12_lacking_30 : decode cX12_lacking 30 = .ok (.if_icmp .ge 26, 3) := by decide +kernel
theorem dX12_lacking_33 : decode cX12_lacking 33 = .ok (.iload_n 1, 1) := by decide +kernel
theorem dX12_lacking_34 : decode cX12_lacking 34 = .ok (.aload_n 0, 1) := by decide +kernel
theorem dX12_lacking_35 : decode cX12_lacking 35 = .ok (.iload_n 2, 1) := by decide +kernel
theorem dX12_lacking_36 : decode cX12_lacking 36 = .ok (.iload_n 3, 1) := by decide +kernel
theorem dX12_lacking_37 : decode cX12_lacking 37 = .ok (.invokevirtual 391, 3) := by decide +kernel
theorem dX12_lacking_40 : decode cX12_lacking 40 = .ok (.ifCond .eq 7, 3) := by decide +kernel
theorem dX12_lacking_43 : decode cX12_lacking 43 = .ok (.iconst 1, 1) := by decide +kernel
theorem dX12_lacking_44 : decode cX12_lacking 44 = .ok (.goto 4, 3) := by decide +kernel
theorem dX12_lacking_47 : decode cX12_lacking 47 = .ok (.iconst 0, 1) := by decide +kernel
theorem dX12_lacking_48 : decode cX12_lacking 48 = .ok (.iadd, 1) := by decide +kernel
theorem dX12_lacking_49 : decode cX12_lacking 49 = .ok (.istore_n 1, 1) := by decide +kernel
theorem dX12_lacking_50 : decode cX12_lacking 50 = .ok (.iinc 3 1, 3) := by decide +kernel
theorem dX12_lacking_53 : decode cX12_lacking 53 = .ok (.goto (-30), 3) := by decide +kernel
theorem dX12_lacking_56 : decode cX12_lacking 56 = .ok (.iinc 2 1, 3) := by decide +kernel
theorem dX12_lacking_59 : decode cX12_lacking 59 = .ok (.goto (-50), 3) := by decide +kernel
theorem dX12_lacking_62 : decode cX12_lacking 62 = .ok (.iload_n 1, 1) := by decide +kernel
theorem dX12_lacking_63 : decode cX12_lacking 63 = .ok (.ireturn, 1) := by decide +kernel
theorem dX12_lacks_0 : decode cX12_lacks 0 = .ok (.aload_n 0, 1) := by decide +kernel
theorem dX12_lacks_1 : decode cX12_lacks 1 = .ok (.iconst 0, 1) := by decide +kernel
theorem dX12_lacks_2 : decode cX12_lacks 2 = .ok (.putfield 1, 3) := by decide +kernel
theorem dX12_lacks_5 : decode cX12_lacks 5 = .ok (.iconst 0, 1) := by decide +kernel
theorem dX12_lacks_6 : decode cX12_lacks 6 = .ok (.istore_n 2, 1) := by decide +kernel
theorem dX12_lacks_7 : decode cX12_lacks 7 = .ok (.iconst 0, 1) := by decide +kernel
theorem dX12_lacks_8 : decode cX12_lacks 8 = .ok (.istore_n 3, 1) := by decide +kernel
theorem dX12_lacks_9 : decode cX12_lacks 9 = .ok (.iload_n 3, 1) := by decide +kernel
theorem dX12_lacks_10 : decode cX12_lacks 10 = .ok (.aload_n 0, 1) := by decide +kernel
theorem dX12_lacks_11 : decode cX12_lacks 11 = .ok (.getfield 33, 3) := by decide +kernel
theorem dX12_lacks_14 : decode cX12_lacks 14 = .ok (.iconst 4, 1) := by decide +kernel
theorem dX12_lacks_15 : decode cX12_lacks 15 = .ok (.iaload, 1) := by decide +kernel
theorem dX12_lacks_16 : decode cX12_lacks 16 = .ok (.if_icmp .ge 60, 3) := by decide +kernel
theorem dX12_lacks_19 : decode cX12_lacks 19 = .ok (.iload_n 3, 1) := by decide +kernel
theorem dX12_lacks_20 : decode cX12_lacks 20 = .ok (.iconst 1, 1) := by decide +kernel
theorem dX12_lacks_21 : decode cX12_lacks 21 = .ok (.iadd, 1) := by decide +kernel
theorem dX12_lacks_22 : decode cX12_lacks 22 = .ok (.istore 4, 2) := by decide +kernel
theorem dX12_lacks_24 : decode cX12_lacks 24 = .ok (.iload 4, 2) := by decide +kernel
theorem dX12_lacks_26 : decode cX12_lacks 26 = .ok (.aload_n 0, 1) := by decide +kernel
theorem dX12_lacks_27 : decode cX12_lacks 27 = .ok (.getfield 33, 3) := by decide +kernel
theorem dX12_lacks_30 : decode cX12_lacks 30 = .ok (.iconst 4, 1) := by decide +kernel
theorem dX12_lacks_31 : decode cX12_lacks 31 = .ok (.iaload, 1) := by decide +kernel
theorem dX12_lacks_32 : decode cX12_lacks 32 = .ok (.if_icmp .ge 38, 3) := by decide +kernel
theorem dX12_lacks_35 : decode cX12_lacks 35 = .ok (.aload_n 0, 1) := by decide +kernel
theorem dX12_lacks_36 : decode cX12_lacks 36 = .ok (.iload_n 3, 1) := by decide +kernel
theorem dX12_lacks_37 : decode cX12_lacks 37 = .ok (.iload 4, 2) := by decide +kernel
theorem dX12_lacks_39 : decode cX12_lacks 39 = .ok (.invokevirtual 391, 3) := by decide +kernel
theorem dX12_lacks_42 : decode cX12_lacks 42 = .ok (.ifCond .ne 6, 3) := by decide +kernel
theorem dX12_lacks_45 : decode cX12_lacks 45 = .ok (.goto 19, 3) := by decide +kernel
theorem dX12_lacks_48 : decode cX12_lacks 48 = .ok (.iload_n 2, 1) := by decide +kernel
theorem dX12_lacks_49 : decode cX12_lacks 49 = .ok (.iload_n 1, 1) := by decide +kernel
theorem dX12_lacks_50 : decode cX12_lacks 50 = .ok (.if_icmp .ne 11, 3) := by decide +kernel
theorem dX12_lacks_53 : decode cX12_lacks 53 = .ok (.bipush 16, 2) := by decide +kernel
theorem dX12_lacks_55 : decode cX12_lacks 55 = .ok (.iload_n 3, 1) := by decide +kernel
theorem dX12_lacks_56 : decode cX12_lacks 56 = .ok (.imul, 1) := by decide +kernel
theorem dX12_lacks_57 : decode cX12_lacks 57 = .ok (.iload 4, 2) := by decide +kernel
theorem dX12_lacks_59 : decode cX12_lacks 59 = .ok (.iadd, 1) := by decide +kernel
theorem dX12_lacks_60 : decode cX12_lacks 60 = .ok (.ireturn, 1) := by decide +kernel
theorem dX12_lacks_61 : decode cX12_lacks 61 = .ok (.iinc 2 1, 3) := by decide +kernel
theorem dX12_lacks_64 : decode cX12_lacks 64 = .ok (.iinc 4 1, 3) := by decide +kernel
theorem dX12_lacks_67 : decode cX12_lacks 67 = .ok (.goto (-43), 3) := by decide +kernel
theorem dX12_lacks_70 : decode cX12_lacks 70 = .ok (.iinc 3 1, 3) := by decide +kernel
theorem dX12_lacks_73 : decode cX12_lacks 73 = .ok (.goto (-64), 3) := by decide +kernel
theorem dX12_lacks_76 : decode cX12_lacks 76 = .ok (.iconst (-1), 1) := by decide +kernel
theorem dX12_lacks_77 : decode cX12_lacks 77 = .ok (.ireturn, 1) := by decide +kernel
theorem dX12_spare_0 : decode cX12_spare 0 = .ok (.aload_n 0, 1) := by decide +kernel
theorem dX12_spare_1 : decode cX12_spare 1 = .ok (.iconst 0, 1) := by decide +kernel
theorem dX12_spare_2 : decode cX12_spare 2 = .ok (.putfield 1, 3) := by decide +kernel
theorem dX12_spare_5 : decode cX12_spare 5 = .ok (.iconst 0, 1) := by decide +kernel
theorem dX12_spare_6 : decode cX12_spare 6 = .ok (.istore_n 1, 1) := by decide +kernel
theorem dX12_spare_7 : decode cX12_spare 7 = .ok (.iconst 0, 1) := by decide +kernel
theorem dX12_spare_8 : decode cX12_spare 8 = .ok (.istore_n 2, 1) := by decide +kernel
theorem dX12_spare_9 : decode cX12_spare 9 = .ok (.iload_n 2, 1) := by decide +kernel
theorem dX12_spare_10 : decode cX12_spare 10 = .ok (.aload_n 0, 1) := by decide +kernel
theorem dX12_spare_11 : decode cX12_spare 11 = .ok (.getfield 33, 3) := by decide +kernel
theorem dX12_spare_14 : decode cX12_spare 14 = .ok (.iconst 4, 1) := by decide +kernel
theorem dX12_spare_15 : decode cX12_spare 15 = .ok (.iaload, 1) := by decide +kernel
theorem dX12_spare_16 : decode cX12_spare 16 = .ok (.if_icmp .ge 63, 3) := by decide +kernel
theorem dX12_spare_19 : decode cX12_spare 19 = .ok (.iload_n 2, 1) := by decide +kernel
theorem dX12_spare_20 : decode cX12_spare 20 = .ok (.iconst 1, 1) := by decide +kernel
theorem dX12_spare_21 : decode cX12_spare 21 = .ok (.iadd, 1) := by decide +kernel
theorem dX12_spare_22 : decode cX12_spare 22 = .ok (.istore_n 3, 1) := by decide +kernel
theorem dX12_spare_23 : decode cX12_spare 23 = .ok (.iload_n 3, 1) := by decide +kernel
theorem dX12_spare_24 : decode cX12_spare 24 = .ok (.aload_n 0, 1) := by decide +kernel
theorem dX12_spare_25 : decode cX12_spare 25 = .ok (.getfield 33, 3) := by decide +kernel
theorem dX12_spare_28 : decode cX12_spare 28 = .ok (.iconst 4, 1) := by decide +kernel
theorem dX12_spare_29 : decode cX12_spare 29 = .ok (.iaload, 1) := by decide +kernel
theorem dX12_spare_30 : decode cX12_spare 30 = .ok (.if_icmp .ge 43, 3) := by decide +kernel
theorem dX12_spare_33 : decode cX12_spare 33 = .ok (.iload_n 1, 1) := by decide +kernel
theorem dX12_spare_34 : decode cX12_spare 34 = .ok (.aload_n 0, 1) := by decide +kernel
theorem dX12_spare_35 : decode cX12_spare 35 = .ok (.getfield 33, 3) := by decide +kernel
theorem dX12_spare_38 : decode cX12_spare 38 = .ok (.sipush 206, 3) := by decide +kernel
theorem dX12_spare_41 : decode cX12_spare 41 = .ok (.iload_n 2, 1) := by decide +kernel
theorem dX12_spare_42 : decode cX12_spare 42 = .ok (.iadd, 1) := by decide +kernel
theorem dX12_spare_43 : decode cX12_spare 43 = .ok (.iaload, 1) := by decide +kernel
theorem dX12_spare_44 : decode cX12_spare 44 = .ok (.iload_n 3, 1) := by decide +kernel
theorem dX12_spare_45 : decode cX12_spare 45 = .ok (.invokestatic 280, 3) := by decide +kernel
theorem dX12_spare_48 : decode cX12_spare 48 = .ok (.ifCond .eq 16, 3) := by decide +kernel
theorem dX12_spare_51 : decode cX12_spare 51 = .ok (.aload_n 0, 1) := by decide +kernel
theorem dX12_spare_52 : decode cX12_spare 52 = .ok (.iload_n 2, 1) := by decide +kernel
theorem dX12_spare_53 : decode cX12_spare 53 = .ok (.iload_n 3, 1) := by decide +kernel
theorem dX12_spare_54 : decode cX12_spare 54 = .ok (.invokevirtual 308, 3) := by decide +kernel
theorem dX12_spare_57 : decode cX12_spare 57 = .ok (.ifCond .ne 7, 3) := by decide +kernel
theorem dX12_spare_60 : decode cX12_spare 60 = .ok (.iconst 1, 1) := by decide +kernel
theorem dX12_spare_61 : decode cX12_spare 61 = .ok (.goto 4, 3) := by decide +kernel
theorem dX12_spare_64 : decode cX12_spare 64 = .ok (.iconst 0, 1) := by decide +kernel
theorem dX12_spare_65 : decode cX12_spare 65 = .ok (.iadd, 1) := by decide +kernel
theorem dX12_spare_66 : decode cX12_spare 66 = .ok (.istore_n 1, 1) := by decide +kernel
theorem dX12_spare_67 : decode cX12_spare 67 = .ok (.iinc 3 1, 3) := by decide +kernel
theorem dX12_spare_70 : decode cX12_spare 70 = .ok (.goto (-47), 3) := by decide +kernel
theorem dX12_spare_73 : decode cX12_spare 73 = .ok (.iinc 2 1, 3) := by decide +kernel
theorem dX12_spare_76 : decode cX12_spare 76 = .ok (.goto (-67), 3) := by decide +kernel
theorem dX12_spare_79 : decode cX12_spare 79 = .ok (.iload_n 1, 1) := by decide +kernel
theorem dX12_spare_80 : decode cX12_spare 80 = .ok (.ireturn, 1) := by decide +kernel
theorem dX12_pulls_0 : decode cX12_pulls 0 = .ok (.aload_n 0, 1) := by decide +kernel
theorem dX12_pulls_1 : decode cX12_pulls 1 = .ok (.iconst 0, 1) := by decide +kernel
theorem dX12_pulls_2 : decode cX12_pulls 2 = .ok (.putfield 1, 3) := by decide +kernel
theorem dX12_pulls_5 : decode cX12_pulls 5 = .ok (.aload_n 0, 1) := by decide +kernel
theorem dX12_pulls_6 : decode cX12_pulls 6 = .ok (.iload_n 1, 1) := by decide +kernel
theorem dX12_pulls_7 : decode cX12_pulls 7 = .ok (.invokevirtual 329, 3) := by decide +kernel
theorem dX12_pulls_10 : decode cX12_pulls 10 = .ok (.ifCond .eq 36, 3) := by decide +kernel
theorem dX12_pulls_13 : decode cX12_pulls 13 = .ok (.aload_n 0, 1) := by decide +kernel
theorem dX12_pulls_14 : decode cX12_pulls 14 = .ok (.getfield 33, 3) := by decide +kernel
theorem dX12_pulls_17 : decode cX12_pulls 17 = .ok (.sipush 229, 3) := by decide +kernel
theorem dX12_pulls_20 : decode cX12_pulls 20 = .ok (.iload_n 1, 1) := by decide +kernel
theorem dX12_pulls_21 : decode cX12_pulls 21 = .ok (.iadd, 1) := by decide +kernel
theorem dX12_pulls_22 : decode cX12_pulls 22 = .ok (.iaload, 1) := by decide +kernel
theorem dX12_pulls_23 : decode cX12_pulls 23 = .ok (.ifCond .ne 23, 3) := by decide +kernel
theorem dX12_pulls_26 : decode cX12_pulls 26 = .ok (.aload_n 0, 1) := by decide +kernel
theorem dX12_pulls_27 : decode cX12_pulls 27 = .ok (.getfield 33, 3) := by decide +kernel
theorem dX12_pulls_30 : decode cX12_pulls 30 = .ok (.bipush 116, 2) := by decide +kernel
theorem dX12_pulls_32 : decode cX12_pulls 32 = .ok (.iload_n 1, 1) := by decide +kernel
theorem dX12_pulls_33 : decode cX12_pulls 33 = .ok (.iadd, 1) := by decide +kernel
theorem dX12_pulls_34 : decode cX12_pulls 34 = .ok (.iaload, 1) := by decide +kernel
theorem dX12_pulls_35 : decode cX12_pulls 35 = .ok (.ifCond .eq 11, 3) := by decide +kernel
theorem dX12_pulls_38 : decode cX12_pulls 38 = .ok (.aload_n 0, 1) := by decide +kernel
theorem dX12_pulls_39 : decode cX12_pulls 39 = .ok (.iload_n 1, 1) := by decide +kernel
theorem dX12_pulls_40 : decode cX12_pulls 40 = .ok (.invokevirtual 354, 3) := by decide +kernel
theorem dX12_pulls_43 : decode cX12_pulls 43 = .ok (.ifCond .eq 5, 3) := by decide +kernel
theorem dX12_pulls_46 : decode cX12_pulls 46 = .ok (.iconst (-1), 1) := by decide +kernel
theorem dX12_pulls_47 : decode cX12_pulls 47 = .ok (.ireturn, 1) := by decide +kernel
theorem dX12_pulls_48 : decode cX12_pulls 48 = .ok (.aload_n 0, 1) := by decide +kernel
theorem dX12_pulls_49 : decode cX12_pulls 49 = .ok (.iload_n 1, 1) := by decide +kernel
theorem dX12_pulls_50 : decode cX12_pulls 50 = .ok (.invokevirtual 351, 3) := by decide +kernel
theorem dX12_pulls_53 : decode cX12_pulls 53 = .ok (.istore_n 2, 1) := by decide +kernel
theorem dX12_pulls_54 : decode cX12_pulls 54 = .ok (.aload_n 0, 1) := by decide +kernel
theorem dX12_pulls_55 : decode cX12_pulls 55 = .ok (.iload_n 1, 1) := by decide +kernel
theorem dX12_pulls_56 : decode cX12_pulls 56 = .ok (.invokevirtual 348, 3) := by decide +kernel
theorem dX12_pulls_59 : decode cX12_pulls 59 = .ok (.istore_n 3, 1) := by decide +kernel
theorem dX12_pulls_60 : decode cX12_pulls 60 = .ok (.iconst 0, 1) := by decide +kernel
theorem dX12_pulls_61 : decode cX12_pulls 61 = .ok (.istore 4, 2) := by decide +kernel
theorem dX12_pulls_63 : decode cX12_pulls 63 = .ok (.iload 4, 2) := by decide +kernel
theorem dX12_pulls_65 : decode cX12_pulls 65 = .ok (.aload_n 0, 1) := by decide +kernel
theorem dX12_pulls_66 : decode cX12_pulls 66 = .ok (.getfield 33, 3) := by decide +kernel
theorem dX12_pulls_69 : decode cX12_pulls 69 = .ok (.iconst 1, 1) := by decide +kernel
theorem dX12_pulls_70 : decode cX12_pulls 70 = .ok (.iaload, 1) := by decide +kernel
theorem dX12_pulls_71 : decode cX12_pulls 71 = .ok (.if_icmp .ge 62, 3) := by decide +kernel
theorem dX12_pulls_74 : decode cX12_pulls 74 = .ok (.iload_n 2, 1) := by decide +kernel
theorem dX12_pulls_75 : decode cX12_pulls 75 = .ok (.iload 4, 2) := by decide +kernel
theorem dX12_pulls_77 : decode cX12_pulls 77 = .ok (.invokestatic 280, 3) := by decide +kernel
theorem dX12_pulls_80 : decode cX12_pulls 80 = .ok (.ifCond .ne 6, 3) := by decide +kernel
theorem dX12_pulls_83 : decode cX12_pulls 83 = .ok (.goto 44, 3) := by decide +kernel
theorem dX12_pulls_86 : decode cX12_pulls 86 = .ok (.aload_n 0, 1) := by decide +kernel
theorem dX12_pulls_87 : decode cX12_pulls 87 = .ok (.aload_n 0, 1) := by decide +kernel
theorem dX12_pulls_88 : decode cX12_pulls 88 = .ok (.getfield 33, 3) := by decide +kernel
theorem dX12_pulls_91 : decode cX12_pulls 91 = .ok (.bipush 20, 2) := by decide +kernel
theorem dX12_pulls_93 : decode cX12_pulls 93 = .ok (.iload 4, 2) := by decide +kernel
theorem dX12_pulls_95 : decode cX12_pulls 95 = .ok (.iadd, 1) := by decide +kernel
theorem dX12_pulls_96 : decode cX12_pulls 96 = .ok (.iaload, 1) := by decide +kernel
theorem dX12_pulls_97 : decode cX12_pulls 97 = .ok (.invokevirtual 314, 3) := by decide +kernel
theorem dX12_pulls_100 : decode cX12_pulls 100 = .ok (.ifCond .eq 5, 3) := by decide +kernel
theorem dX12_pulls_103 : decode cX12_pulls 103 = .ok (.iconst (-1), 1) := by decide +kernel
theorem dX12_pulls_104 : decode cX12_pulls 104 = .ok (.ireturn, 1) := by decide +kernel
theorem dX12_pulls_105 : decode cX12_pulls 105 = .ok (.iload_n 3, 1) := by decide +kernel
theorem dX12_pulls_106 : decode cX12_pulls 106 = .ok (.aload_n 0, 1) := by decide +kernel
theorem dX12_pulls_107 : decode cX12_pulls 107 = .ok (.iload 4, 2) := by decide +kernel
theorem dX12_pulls_109 : decode cX12_pulls 109 = .ok (.sipush 186, 3) := by decide +kernel
theorem dX12_pulls_112 : decode cX12_pulls 112 = .ok (.invokevirtual 320, 3) := by decide +kernel
theorem dX12_pulls_115 : decode cX12_pulls 115 = .ok (.aload_n 0, 1) := by decide +kernel
theorem dX12_pulls_116 : decode cX12_pulls 116 = .ok (.iload 4, 2) := by decide +kernel
theorem dX12_pulls_118 : decode cX12_pulls 118 = .ok (.sipush 196, 3) := by decide +kernel
theorem dX12_pulls_121 : decode cX12_pulls 121 = .ok (.invokevirtual 320, 3) := by decide +kernel
theorem dX12_pulls_124 : decode cX12_pulls 124 = .ok (.ior, 1) := by decide +kernel
theorem dX12_pulls_125 : decode cX12_pulls 125 = .ok (.ior, 1) := by decide +kernel
theorem dX12_pulls_126 : decode cX12_pulls 126 = .ok (.istore_n 3, 1) := by decide +kernel
theorem dX12_pulls_127 : decode cX12_pulls 127 = .ok (.iinc 4 1, 3) := by decide +kernel
theorem dX12_pulls_130 : decode cX12_pulls 130 = .ok (.goto (-67), 3) := by decide +kernel
theorem dX12_pulls_133 : decode cX12_pulls 133 = .ok (.iload_n 3, 1) := by decide +kernel
theorem dX12_pulls_134 : decode cX12_pulls 134 = .ok (.aload_n 0, 1) := by decide +kernel
theorem dX12_pulls_135 : decode cX12_pulls 135 = .ok (.invokevirtual 345, 3) := by decide +kernel
theorem dX12_pulls_138 : decode cX12_pulls 138 = .ok (.iand, 1) := by decide +kernel
theorem dX12_pulls_139 : decode cX12_pulls 139 = .ok (.istore_n 3, 1) := by decide +kernel
theorem dX12_pulls_140 : decode cX12_pulls 140 = .ok (.iconst 0, 1) := by decide +kernel
theorem dX12_pulls_141 : decode cX12_pulls 141 = .ok (.istore 4, 2) := by decide +kernel
theorem dX12_pulls_143 : decode cX12_pulls 143 = .ok (.iload 4, 2) := by decide +kernel
theorem dX12_pulls_145 : decode cX12_pulls 145 = .ok (.aload_n 0, 1) := by decide +kernel
theorem dX12_pulls_146 : decode cX12_pulls 146 = .ok (.getfield 33, 3) := by decide +kernel
theorem dX12_pulls_149 : decode cX12_pulls 149 = .ok (.iconst 4, 1) := by decide +kernel
theorem dX12_pulls_150 : decode cX12_pulls 150 = .ok (.iaload, 1) := by decide +kernel
theorem dX12_pulls_151 : decode cX12_pulls 151 = .ok (.if_icmp .ge 44, 3) := by decide +kernel
theorem dX12_pulls_154 : decode cX12_pulls 154 = .ok (.iload_n 3, 1) := by decide +kernel
theorem dX12_pulls_155 : decode cX12_pulls 155 = .ok (.iload 4, 2) := by decide +kernel
theorem dX12_pulls_157 : decode cX12_pulls 157 = .ok (.invokestatic 280, 3) := by decide +kernel
theorem dX12_pulls_160 : decode cX12_pulls 160 = .ok (.ifCond .eq 29, 3) := by decide +kernel
theorem dX12_pulls_163 : decode cX12_pulls 163 = .ok (.aload_n 0, 1) := by decide +kernel
theorem dX12_pulls_164 : decode cX12_pulls 164 = .ok (.getfield 33, 3) := by decide +kernel
theorem dX12_pulls_167 : decode cX12_pulls 167 = .ok (.sipush 229, 3) := by decide +kernel
theorem dX12_pulls_170 : decode cX12_pulls 170 = .ok (.iload 4, 2) := by decide +kernel
theorem dX12_pulls_172 : decode cX12_pulls 172 = .ok (.iadd, 1) := by decide +kernel
theorem dX12_pulls_173 : decode cX12_pulls 173 = .ok (.iaload, 1) := by decide +kernel
theorem dX12_pulls_174 : decode cX12_pulls 174 = .ok (.iconst 1, 1) := by decide +kernel
theorem dX12_pulls_175 : decode cX12_pulls 175 = .ok (.if_icmp .ne 12, 3) := by decide +kernel
theorem dX12_pulls_178 : decode cX12_pulls 178 = .ok (.aload_n 0, 1) := by decide +kernel
theorem dX12_pulls_179 : decode cX12_pulls 179 = .ok (.iload 4, 2) := by decide +kernel
theorem dX12_pulls_181 : decode cX12_pulls 181 = .ok (.invokevirtual 357, 3) := by decide +kernel
theorem dX12_pulls_184 : decode cX12_pulls 184 = .ok (.ifCond .eq 5, 3) := by decide +kernel
theorem dX12_pulls_187 : decode cX12_pulls 187 = .ok (.iconst (-1), 1) := by decide +kernel
theorem dX12_pulls_188 : decode cX12_pulls 188 = .ok (.ireturn, 1) := by decide +kernel
theorem dX12_pulls_189 : decode cX12_pulls 189 = .ok (.iinc 4 1, 3) := by decide +kernel
theorem dX12_pulls_192 : decode cX12_pulls 192 = .ok (.goto (-49), 3) := by decide +kernel
theorem dX12_pulls_195 : decode cX12_pulls 195 = .ok (.aload_n 0, 1) := by decide +kernel
theorem dX12_pulls_196 : decode cX12_pulls 196 = .ok (.iconst 0, 1) := by decide +kernel
theorem dX12_pulls_197 : decode cX12_pulls 197 = .ok (.putfield 59, 3) := by decide +kernel
theorem dX12_pulls_200 : decode cX12_pulls 200 = .ok (.iconst 0, 1) := by decide +kernel
theorem dX12_pulls_201 : decode cX12_pulls 201 = .ok (.istore 4, 2) := by decide +kernel
theorem dX12_pulls_203 : decode cX12_pulls 203 = .ok (.iload 4, 2) := by decide +kernel
theorem dX12_pulls_205 : decode cX12_pulls 205 = .ok (.bipush 16, 2) := by decide +kernel
theorem dX12_pulls_207 : decode cX12_pulls 207 = .ok (.if_icmp .ge 80, 3) := by decide +kernel
theorem dX12_pulls_210 : decode cX12_pulls 210 = .ok (.iload 4, 2) := by decide +kernel
theorem dX12_pulls_212 : decode cX12_pulls 212 = .ok (.bipush 10, 2) := by decide +kernel
theorem dX12_pulls_214 : decode cX12_pulls 214 = .ok (.if_icmp .ge 12, 3) := by decide +kernel
theorem dX12_pulls_217 : decode cX12_pulls 217 = .ok (.iload_n 3, 1) := by decide +kernel
theorem dX12_pulls_218 : decode cX12_pulls 218 = .ok (.iload 4, 2) := by decide +kernel
theorem dX12_pulls_220 : decode cX12_pulls 220 = .ok (.invokestatic 280, 3) := by decide +kernel
theorem dX12_pulls_223 : decode cX12_pulls 223 = .ok (.goto 12, 3) := by decide +kernel
theorem dX12_pulls_226 : decode cX12_pulls 226 = .ok (.iload_n 2, 1) := by decide +kernel
theorem dX12_pulls_227 : decode cX12_pulls 227 = .ok (.iload 4, 2) := by decide +kernel
theorem dX12_pulls_229 : decode cX12_pulls 229 = .ok (.bipush 10, 2) := by decide +kernel
theorem dX12_pulls_231 : decode cX12_pulls 231 = .ok (.isub, 1) := by decide +kernel
theorem dX12_pulls_232 : decode cX12_pulls 232 = .ok (.invokestatic 280, 3) := by decide +kernel
theorem dX12_pulls_235 : decode cX12_pulls 235 = .ok (.istore 5, 2) := by decide +kernel
theorem dX12_pulls_237 : decode cX12_pulls 237 = .ok (.iload 5, 2) := by decide +kernel
theorem dX12_pulls_239 : decode cX12_pulls 239 = .ok (.ifCond .ne 6, 3) := by decide +kernel
theorem dX12_pulls_242 : decode cX12_pulls 242 = .ok (.goto 39, 3) := by decide +kernel
theorem dX12_pulls_245 : decode cX12_pulls 245 = .ok (.aload_n 0, 1) := by decide +kernel
theorem dX12_pulls_246 : decode cX12_pulls 246 = .ok (.getfield 56, 3) := by decide +kernel
theorem dX12_pulls_249 : decode cX12_pulls 249 = .ok (.aload_n 0, 1) := by decide +kernel
theorem dX12_pulls_250 : decode cX12_pulls 250 = .ok (.getfield 59, 3) := by decide +kernel
theorem dX12_pulls_253 : decode cX12_pulls 253 = .ok (.iload 4, 2) := by decide +kernel
theorem dX12_pulls_255 : decode cX12_pulls 255 = .ok (.bipush 10, 2) := by decide +kernel
theorem dX12_pulls_257 : decode cX12_pulls 257 = .ok (.if_icmp .ge 8, 3) := by decide +kernel
theorem dX12_pulls_260 : decode cX12_pulls 260 = .ok (.iload 4, 2) := by decide +kernel
theorem dX12_pulls_262 : decode cX12_pulls 262 = .ok (.goto 8, 3) := by decide +kernel
theorem dX12_pulls_265 : decode cX12_pulls 265 = .ok (.bipush 6, 2) := by decide +kernel
theorem dX12_pulls_267 : decode cX12_pulls 267 = .ok (.iload 4, 2) := by decide +kernel
theorem dX12_pulls_269 : decode cX12_pulls 269 = .ok (.iadd, 1) := by decide +kernel
theorem dX12_pulls_270 : decode cX12_pulls 270 = .ok (.iastore, 1) := by decide +kernel
theorem dX12_pulls_271 : decode cX12_pulls 271 = .ok (.aload_n 0, 1) := by decide +kernel
theorem dX12_pulls_272 : decode cX12_pulls 272 = .ok (.dup, 1) := by decide +kernel
theorem dX12_pulls_273 : decode cX12_pulls 273 = .ok (.getfield 59, 3) := by decide +kernel
theorem dX12_pulls_276 : decode cX12_pulls 276 = .ok (.iconst 1, 1) := by decide +kernel
theorem dX12_pulls_277 : decode cX12_pulls 277 = .ok (.iadd, 1) := by decide +kernel
theorem dX12_pulls_278 : decode cX12_pulls 278 = .ok (.putfield 59, 3) := by decide +kernel
theorem dX12_pulls_281 : decode cX12_pulls 281 = .ok (.iinc 4 1, 3) := by decide +kernel
theorem dX12_pulls_284 : decode cX12_pulls 284 = .ok (.goto (-81), 3) := by decide +kernel
theorem dX12_pulls_287 : decode cX12_pulls 287 = .ok (.aload_n 0, 1) := by decide +kernel
theorem dX12_pulls_288 : decode cX12_pulls 288 = .ok (.getfield 59, 3) := by decide +kernel
theorem dX12_pulls_291 : decode cX12_pulls 291 = .ok (.ireturn, 1) := by decide +kernel
theorem dX12_pullsAt_0 : decode cX12_pullsAt 0 = .ok (.aload_n 0, 1) := by decide +kernel
theorem dX12_pullsAt_1 : decode cX12_pullsAt 1 = .ok (.iconst 0, 1) := by decide +kernel
theorem dX12_pullsAt_2 : decode cX12_pullsAt 2 = .ok (.putfield 1, 3) := by decide +kernel
theorem dX12_pullsAt_5 : decode cX12_pullsAt 5 = .ok (.iload_n 1, 1) := by decide +kernel
theorem dX12_pullsAt_6 : decode cX12_pullsAt 6 = .ok (.iconst 0, 1) := by decide +kernel
theorem dX12_pullsAt_7 : decode cX12_pullsAt 7 = .ok (.aload_n 0, 1) := by decide +kernel
theorem dX12_pullsAt_8 : decode cX12_pullsAt 8 = .ok (.getfield 59, 3) := by decide +kernel
theorem dX12_pullsAt_11 : decode cX12_pullsAt 11 = .ok (.iconst 1, 1) := by decide +kernel
theorem dX12_pullsAt_12 : decode cX12_pullsAt 12 = .ok (.isub, 1) := by decide +kernel
theorem dX12_pullsAt_13 : decode cX12_pullsAt 13 = .ok (.invokestatic 211, 3) := by decide +kernel
theorem dX12_pullsAt_16 : decode cX12_pullsAt 16 = .ok (.ifCond .eq 12, 3) := by decide +kernel
theorem dX12_pullsAt_19 : decode cX12_pullsAt 19 = .ok (.aload_n 0, 1) := by decide +kernel
theorem dX12_pullsAt_20 : decode cX12_pullsAt 20 = .ok (.getfield 56, 3) := by decide +kernel
theorem dX12_pullsAt_23 : decode cX12_pullsAt 23 = .ok (.iload_n 1, 1) := by decide +kernel
theorem dX12_pullsAt_24 : decode cX12_pullsAt 24 = .ok (.iaload, 1) := by decide +kernel
theorem dX12_pullsAt_25 : decode cX12_pullsAt 25 = .ok (.goto 4, 3) := by decide +kernel
theorem dX12_pullsAt_28 : decode cX12_pullsAt 28 = .ok (.iconst (-1), 1) := by decide +kernel
theorem dX12_pullsAt_29 : decode cX12_pullsAt 29 = .ok (.ireturn, 1) := by decide +kernel
theorem dX12_areTogether_0 : decode cX12_areTogether 0 = .ok (.iconst 1, 1) := by decide +kernel
theorem dX12_areTogether_1 : decode cX12_areTogether 1 = .ok (.istore_n 2, 1) := by decide +kernel
theorem dX12_areTogether_2 : decode cX12_areTogether 2 = .ok (.iconst 0, 1) := by decide +kernel
theorem dX12_areTogether_3 : decode cX12_areTogether 3 = .ok (.istore_n 3, 1) := by decide +kernel
theorem dX12_areTogether_4 : decode cX12_areTogether 4 = .ok (.iload_n 3, 1) := by decide +kernel
theorem dX12_areTogether_5 : decode cX12_areTogether 5 = .ok (.aload_n 0, 1) := by decide +kernel
theorem dX12_areTogether_6 : decode cX12_areTogether 6 = .ok (.getfield 33, 3) := by decide +kernel
theorem dX12_areTogether_9 : decode cX12_areTogether 9 = .ok (.iconst 4, 1) := by decide +kernel
theorem dX12_areTogether_10 : decode cX12_areTogether 10 = .ok (.iaload, 1) := by decide +kernel
theorem dX12_areTogether_11 : decode cX12_areTogether 11 = .ok (.if_icmp .ge 37, 3) := by decide +kernel
theorem dX12_areTogether_14 : decode cX12_areTogether 14 = .ok (.iload_n 2, 1) := by decide +kernel
theorem dX12_areTogether_15 : decode cX12_areTogether 15 = .ok (.ifCond .eq 33, 3) := by decide +kernel
theorem dX12_areTogether_18 : decode cX12_areTogether 18 = .ok (.iload_n 1, 1) := by decide +kernel
theorem dX12_areTogether_19 : decode cX12_areTogether 19 = .ok (.iload_n 3, 1) := by decide +kernel
theorem dX12_areTogether_20 : decode cX12_areTogether 20 = .ok (.invokestatic 280, 3) := by decide +kernel
theorem dX12_areTogether_23 : decode cX12_areTogether 23 = .ok (.ifCond .eq 13, 3) := by decide +kernel
theorem dX12_areTogether_26 : decode cX12_areTogether 26 = .ok (.aload_n 0, 1) := by decide +kernel
theorem dX12_areTogether_27 : decode cX12_areTogether 27 = .ok (.iload_n 3, 1) := by decide +kernel
theorem dX12_areTogether_28 : decode cX12_areTogether 28 = .ok (.invokevirtual 332, 3) := by decide +kernel
theorem dX12_areTogether_31 : decode cX12_areTogether 31 = .ok (.iload_n 1, 1) := by decide +kernel
theorem dX12_areTogether_32 : decode cX12_areTogether 32 = .ok (.iand, 1) := by decide +kernel
theorem dX12_areTogether_33 : decode cX12_areTogether 33 = .ok (.ifCond .ne 7, 3) := by decide +kernel
theorem dX12_areTogether_36 : decode cX12_areTogether 36 = .ok (.iconst 1, 1) := by decide +kernel
theorem dX12_areTogether_37 : decode cX12_areTogether 37 = .ok (.goto 4, 3) := by decide +kernel
theorem dX12_areTogether_40 : decode cX12_areTogether 40 = .ok (.iconst 0, 1) := by decide +kernel
theorem dX12_areTogether_41 : decode cX12_areTogether 41 = .ok (.istore_n 2, 1) := by decide +kernel
theorem dX12_areTogether_42 : decode cX12_areTogether 42 = .ok (.iinc 3 1, 3) := by decide +kernel
theorem dX12_areTogether_45 : decode cX12_areTogether 45 = .ok (.goto (-41), 3) := by decide +kernel
theorem dX12_areTogether_48 : decode cX12_areTogether 48 = .ok (.iload_n 2, 1) := by decide +kernel
theorem dX12_areTogether_49 : decode cX12_areTogether 49 = .ok (.ireturn, 1) := by decide +kernel
theorem dX12_together_0 : decode cX12_together 0 = .ok (.aload_n 0, 1) := by decide +kernel
theorem dX12_together_1 : decode cX12_together 1 = .ok (.iconst 0, 1) := by decide +kernel
theorem dX12_together_2 : decode cX12_together 2 = .ok (.putfield 1, 3) := by decide +kernel
theorem dX12_together_5 : decode cX12_together 5 = .ok (.iconst 0, 1) := by decide +kernel
theorem dX12_together_6 : decode cX12_together 6 = .ok (.istore_n 1, 1) := by decide +kernel
theorem dX12_together_7 : decode cX12_together 7 = .ok (.iconst 1, 1) := by decide +kernel
theorem dX12_together_8 : decode cX12_together 8 = .ok (.istore_n 2, 1) := by decide +kernel
theorem dX12_together_9 : decode cX12_together 9 = .ok (.iload_n 2, 1) := by decide +kernel
theorem dX12_together_10 : decode cX12_together 10 = .ok (.iconst 1, 1) := by decide +kernel
theorem dX12_together_11 : decode cX12_together 11 = .ok (.aload_n 0, 1) := by decide +kernel
theorem dX12_together_12 : decode cX12_together 12 = .ok (.getfield 33, 3) := by decide +kernel
theorem dX12_together_15 : decode cX12_together 15 = .ok (.iconst 4, 1) := by decide +kernel
theorem dX12_together_16 : decode cX12_together 16 = .ok (.iaload, 1) := by decide +kernel
theorem dX12_together_17 : decode cX12_together 17 = .ok (.ishl, 1) := by decide +kernel
theorem dX12_together_18 : decode cX12_together 18 = .ok (.if_icmp .ge 30, 3) := by decide +kernel
theorem dX12_together_21 : decode cX12_together 21 = .ok (.iload_n 2, 1) := by decide +kernel
theorem dX12_together_22 : decode cX12_together 22 = .ok (.invokestatic 394, 3) := by decide +kernel
theorem dX12_together_25 : decode cX12_together 25 = .ok (.iload_n 1, 1) := by decide +kernel
theorem dX12_together_26 : decode cX12_together 26 = .ok (.invokestatic 394, 3) := by decide +kernel
theorem dX12_together_29 : decode cX12_together 29 = .ok (.if_icmp .le 13, 3) := by decide +kernel
theorem dX12_together_32 : decode cX12_together 32 = .ok (.aload_n 0, 1) := by decide +kernel
theorem dX12_together_33 : decode cX12_together 33 = .ok (.iload_n 2, 1) := by decide +kernel
theorem dX12_together_34 : decode cX12_together 34 = .ok (.invokevirtual 397, 3) := by decide +kernel
theorem dX12_together_37 : decode cX12_together 37 = .ok (.ifCond .eq 5, 3) := by decide +kernel
theorem dX12_together_40 : decode cX12_together 40 = .ok (.iload_n 2, 1) := by decide +kernel
theorem dX12_together_41 : decode cX12_together 41 = .ok (.istore_n 1, 1) := by decide +kernel
theorem dX12_together_42 : decode cX12_together 42 = .ok (.iinc 2 1, 3) := by decide +kernel
theorem dX12_together_45 : decode cX12_together 45 = .ok (.goto (-36), 3) := by decide +kernel
theorem dX12_together_48 : decode cX12_together 48 = .ok (.aload_n 0, 1) := by decide +kernel
theorem dX12_together_49 : decode cX12_together 49 = .ok (.iconst 1, 1) := by decide +kernel
theorem dX12_together_50 : decode cX12_together 50 = .ok (.putfield 400, 3) := by decide +kernel
theorem dX12_together_53 : decode cX12_together 53 = .ok (.aload_n 0, 1) := by decide +kernel
theorem dX12_together_54 : decode cX12_together 54 = .ok (.iload_n 1, 1) := by decide +kernel
theorem dX12_together_55 : decode cX12_together 55 = .ok (.putfield 403, 3) := by decide +kernel
theorem dX12_together_58 : decode cX12_together 58 = .ok (.iload_n 1, 1) := by decide +kernel
theorem dX12_together_59 : decode cX12_together 59 = .ok (.invokestatic 394, 3) := by decide +kernel
theorem dX12_together_62 : decode cX12_together 62 = .ok (.ireturn, 1) := by decide +kernel
theorem dX12_those_0 : decode cX12_those 0 = .ok (.aload_n 0, 1) := by decide +kernel
theorem dX12_those_1 : decode cX12_those 1 = .ok (.iconst 0, 1) := by decide +kernel
theorem dX12_those_2 : decode cX12_those 2 = .ok (.putfield 1, 3) := by decide +kernel
theorem dX12_those_5 : decode cX12_those 5 = .ok (.aload_n 0, 1) := by decide +kernel
theorem dX12_those_6 : decode cX12_those 6 = .ok (.getfield 400, 3) := by decide +kernel
theorem dX12_those_9 : decode cX12_those 9 = .ok (.ifCond .eq 10, 3) := by decide +kernel
theorem dX12_those_12 : decode cX12_those 12 = .ok (.aload_n 0, 1) := by decide +kernel
theorem dX12_those_13 : decode cX12_those 13 = .ok (.getfield 403, 3) := by decide +kernel
theorem dX12_those_16 : decode cX12_those 16 = .ok (.goto 4, 3) := by decide +kernel
theorem dX12_those_19 : decode cX12_those 19 = .ok (.iconst (-1), 1) := by decide +kernel
theorem dX12_those_20 : decode cX12_those 20 = .ok (.ireturn, 1) := by decide +kernel
theorem dX12_rounds_0 : decode cX12_rounds 0 = .ok (.aload_n 0, 1) := by decide +kernel
theorem dX12_rounds_1 : decode cX12_rounds 1 = .ok (.iconst 0, 1) := by decide +kernel
theorem dX12_rounds_2 : decode cX12_rounds 2 = .ok (.putfield 1, 3) := by decide +kernel
theorem dX12_rounds_5 : decode cX12_rounds 5 = .ok (.iconst 1, 1) := by decide +kernel
theorem dX12_rounds_6 : decode cX12_rounds 6 = .ok (.aload_n 0, 1) := by decide +kernel
theorem dX12_rounds_7 : decode cX12_rounds 7 = .ok (.getfield 33, 3) := by decide +kernel
theorem dX12_rounds_10 : decode cX12_rounds 10 = .ok (.iconst 4, 1) := by decide +kernel
theorem dX12_rounds_11 : decode cX12_rounds 11 = .ok (.iaload, 1) := by decide +kernel
theorem dX12_rounds_12 : decode cX12_rounds 12 = .ok (.ishl, 1) := by decide +kernel
theorem dX12_rounds_13 : decode cX12_rounds 13 = .ok (.iconst 1, 1) := by decide +kernel
theorem dX12_rounds_14 : decode cX12_rounds 14 = .ok (.isub, 1) := by decide +kernel
theorem dX12_rounds_15 : decode cX12_rounds 15 = .ok (.istore_n 1, 1) := by decide +kernel
theorem dX12_rounds_16 : decode cX12_rounds 16 = .ok (.iconst 0, 1) := by decide +kernel
theorem dX12_rounds_17 : decode cX12_rounds 17 = .ok (.istore_n 2, 1) := by decide +kernel
theorem dX12_rounds_18 : decode cX12_rounds 18 = .ok (.iload_n 2, 1) := by decide +kernel
theorem dX12_rounds_19 : decode cX12_rounds 19 = .ok (.iload_n 1, 1) := by decide +kernel
theorem dX12_rounds_20 : decode cX12_rounds 20 = .ok (.if_icmp .gt 38, 3) := by decide +kernel
theorem dX12_rounds_23 : decode cX12_rounds 23 = .ok (.aload_n 0, 1) := by decide +kernel
theorem dX12_rounds_24 : decode cX12_rounds 24 = .ok (.getfield 62, 3) := by decide +kernel
theorem dX12_rounds_27 : decode cX12_rounds 27 = .ok (.iload_n 2, 1) := by decide +kernel
theorem dX12_rounds_28 : decode cX12_rounds 28 = .ok (.iload_n 2, 1) := by decide +kernel
theorem dX12_rounds_29 : decode cX12_rounds 29 = .ok (.ifCond .ne 7, 3) := by decide +kernel
theorem dX12_rounds_32 : decode cX12_rounds 32 = .ok (.iconst 0, 1) := by decide +kernel
theorem dX12_rounds_33 : decode cX12_rounds 33 = .ok (.goto 18, 3) := by decide +kernel
theorem dX12_rounds_36 : decode cX12_rounds 36 = .ok (.aload_n 0, 1) := by decide +kernel
theorem dX12_rounds_37 : decode cX12_rounds 37 = .ok (.iload_n 2, 1) := by decide +kernel
theorem dX12_rounds_38 : decode cX12_rounds 38 = .ok (.invokevirtual 397, 3) := by decide +kernel
theorem dX12_rounds_41 : decode cX12_rounds 41 = .ok (.ifCond .eq 7, 3) := by decide +kernel
theorem dX12_rounds_44 : decode cX12_rounds 44 = .ok (.iconst 1, 1) := by decide +kernel
theorem dX12_rounds_45 : decode cX12_rounds 45 = .ok (.goto 6, 3) := by decide +kernel
theorem dX12_rounds_48 : decode cX12_rounds 48 = .ok (.ldc_w 406, 3) := by decide +kernel
theorem dX12_rounds_51 : decode cX12_rounds 51 = .ok (.iastore, 1) := by decide +kernel
theorem dX12_rounds_52 : decode cX12_rounds 52 = .ok (.iinc 2 1, 3) := by decide +kernel
theorem dX12_rounds_55 : decode cX12_rounds 55 = .ok (.goto (-37), 3) := by decide +kernel
theorem dX12_rounds_58 : decode cX12_rounds 58 = .ok (.iconst 1, 1) := by decide +kernel
theorem dX12_rounds_59 : decode cX12_rounds 59 = .ok (.istore_n 2, 1) := by decide +kernel
theorem dX12_rounds_60 : decode cX12_rounds 60 = .ok (.iload_n 2, 1) := by decide +kernel
theorem dX12_rounds_61 : decode cX12_rounds 61 = .ok (.iload_n 1, 1) := by decide +kernel
theorem dX12_rounds_62 : decode cX12_rounds 62 = .ok (.if_icmp .gt 111, 3) := by decide +kernel
theorem dX12_rounds_65 : decode cX12_rounds 65 = .ok (.aload_n 0, 1) := by decide +kernel
theorem dX12_rounds_66 : decode cX12_rounds 66 = .ok (.getfield 62, 3) := by decide +kernel
theorem dX12_rounds_69 : decode cX12_rounds 69 = .ok (.iload_n 2, 1) := by decide +kernel
theorem dX12_rounds_70 : decode cX12_rounds 70 = .ok (.iaload, 1) := by decide +kernel
theorem dX12_rounds_71 : decode cX12_rounds 71 = .ok (.iconst 1, 1) := by decide +kernel
theorem dX12_rounds_72 : decode cX12_rounds 72 = .ok (.if_icmp .ne 6, 3) := by decide +kernel
theorem dX12_rounds_75 : decode cX12_rounds 75 = .ok (.goto 92, 3) := by decide +kernel
theorem dX12_rounds_78 : decode cX12_rounds 78 = .ok (.iload_n 2, 1) := by decide +kernel
theorem dX12_rounds_79 : decode cX12_rounds 79 = .ok (.iload_n 2, 1) := by decide +kernel
theorem dX12_rounds_80 : decode cX12_rounds 80 = .ok (.ineg, 1) := by decide +kernel
theorem dX12_rounds_81 : decode cX12_rounds 81 = .ok (.iand, 1) := by decide +kernel
theorem dX12_rounds_82 : decode cX12_rounds 82 = .ok (.istore_n 3, 1) := by decide +kernel
theorem dX12_rounds_83 : decode cX12_rounds 83 = .ok (.iload_n 2, 1) := by decide +kernel
theorem dX12_rounds_84 : decode cX12_rounds 84 = .ok (.iload_n 3, 1) := by decide +kernel
theorem dX12_rounds_85 : decode cX12_rounds 85 = .ok (.ixor, 1) := by decide +kernel
theorem dX12_rounds_86 : decode cX12_rounds 86 = .ok (.istore 4, 2) := by decide +kernel
theorem dX12_rounds_88 : decode cX12_rounds 88 = .ok (.iload 4, 2) := by decide +kernel
theorem dX12_rounds_90 : decode cX12_rounds 90 = .ok (.istore 5, 2) := by decide +kernel
theorem dX12_rounds_92 : decode cX12_rounds 92 = .ok (.iload 5, 2) := by decide +kernel
theorem dX12_rounds_94 : decode cX12_rounds 94 = .ok (.ifCond .lt 73, 3) := by decide +kernel
theorem dX12_rounds_97 : decode cX12_rounds 97 = .ok (.iload 5, 2) := by decide +kernel
theorem dX12_rounds_99 : decode cX12_rounds 99 = .ok (.iload_n 3, 1) := by decide +kernel
theorem dX12_rounds_100 : decode cX12_rounds 100 = .ok (.ior, 1) := by decide +kernel
theorem dX12_rounds_101 : decode cX12_rounds 101 = .ok (.istore 6, 2) := by decide +kernel
theorem dX12_rounds_103 : decode cX12_rounds 103 = .ok (.iload 6, 2) := by decide +kernel
theorem dX12_rounds_105 : decode cX12_rounds 105 = .ok (.iload_n 2, 1) := by decide +kernel
theorem dX12_rounds_106 : decode cX12_rounds 106 = .ok (.if_icmp .eq 40, 3) := by decide +kernel
theorem dX12_rounds_109 : decode cX12_rounds 109 = .ok (.aload_n 0, 1) := by decide +kernel
theorem dX12_rounds_110 : decode cX12_rounds 110 = .ok (.getfield 62, 3) := by decide +kernel
theorem dX12_rounds_113 : decode cX12_rounds 113 = .ok (.iload 6, 2) := by decide +kernel
theorem dX12_rounds_115 : decode cX12_rounds 115 = .ok (.iaload, 1) := by decide +kernel
theorem dX12_rounds_116 : decode cX12_rounds 116 = .ok (.iconst 1, 1) := by decide +kernel
theorem dX12_rounds_117 : decode cX12_rounds 117 = .ok (.if_icmp .ne 29, 3) := by decide +kernel
theorem dX12_rounds_120 : decode cX12_rounds 120 = .ok (.aload_n 0, 1) := by decide +kernel
theorem dX12_rounds_121 : decode cX12_rounds 121 = .ok (.getfield 62, 3) := by decide +kernel
theorem dX12_rounds_124 : decode cX12_rounds 124 = .ok (.iload_n 2, 1) := by decide +kernel
theorem dX12_rounds_125 : decode cX12_rounds 125 = .ok (.aload_n 0, 1) := by decide +kernel
theorem dX12_rounds_126 : decode cX12_rounds 126 = .ok (.getfield 62, 3) := by decide +kernel
theorem dX12_rounds_129 : decode cX12_rounds 129 = .ok (.iload_n 2, 1) := by decide +kernel
theorem dX12_rounds_130 : decode cX12_rounds 130 = .ok (.iaload, 1) := by decide +kernel
theorem dX12_rounds_131 : decode cX12_rounds 131 = .ok (.iconst 1, 1) := by decide +kernel
theorem dX12_rounds_132 : decode cX12_rounds 132 = .ok (.aload_n 0, 1) := by decide +kernel
theorem dX12_rounds_133 : decode cX12_rounds 133 = .ok (.getfield 62, 3) := by decide +kernel
theorem dX12_rounds_136 : decode cX12_rounds 136 = .ok (.iload_n 2, 1) := by decide +kernel
theorem dX12_rounds_137 : decode cX12_rounds 137 = .ok (.iload 6, 2) := by decide +kernel
theorem dX12_rounds_139 : decode cX12_rounds 139 = .ok (.ixor, 1) := by decide +kernel
theorem dX12_rounds_140 : decode cX12_rounds 140 = .ok (.iaload, 1) := by decide +kernel
theorem dX12_rounds_141 : decode cX12_rounds 141 = .ok (.iadd, 1) := by decide +kernel
theorem dX12_rounds_142 : decode cX12_rounds 142 = .ok (.invokestatic 407, 3) := by decide +kernel
theorem dX12_rounds_145 : decode cX12_rounds 145 = .ok (.iastore, 1) := by decide +kernel
theorem dX12_rounds_146 : decode cX12_rounds 146 = .ok (.iload 5, 2) := by decide +kernel
theorem dX12_rounds_148 : decode cX12_rounds 148 = .ok (.ifCond .ne 7, 3) := by decide +kernel
theorem dX12_rounds_151 : decode cX12_rounds 151 = .ok (.iconst (-1), 1) := by decide +kernel
theorem dX12_rounds_152 : decode cX12_rounds 152 = .ok (.goto 10, 3) := by decide +kernel
theorem dX12_rounds_155 : decode cX12_rounds 155 = .ok (.iload 5, 2) := by decide +kernel
theorem dX12_rounds_157 : decode cX12_rounds 157 = .ok (.iconst 1, 1) := by decide +kernel
theorem dX12_rounds_158 : decode cX12_rounds 158 = .ok (.isub, 1) := by decide +kernel
theorem dX12_rounds_159 : decode cX12_rounds 159 = .ok (.iload 4, 2) := by decide +kernel
theorem dX12_rounds_161 : decode cX12_rounds 161 = .ok (.iand, 1) := by decide +kernel
theorem dX12_rounds_162 : decode cX12_rounds 162 = .ok (.istore 5, 2) := by decide +kernel
theorem dX12_rounds_164 : decode cX12_rounds 164 = .ok (.goto (-72), 3) := by decide +kernel
theorem dX12_rounds_167 : decode cX12_rounds 167 = .ok (.iinc 2 1, 3) := by decide +kernel
theorem dX12_rounds_170 : decode cX12_rounds 170 = .ok (.goto (-110), 3) := by decide +kernel
theorem dX12_rounds_173 : decode cX12_rounds 173 = .ok (.aload_n 0, 1) := by decide +kernel
theorem dX12_rounds_174 : decode cX12_rounds 174 = .ok (.getfield 62, 3) := by decide +kernel
theorem dX12_rounds_177 : decode cX12_rounds 177 = .ok (.iload_n 1, 1) := by decide +kernel
theorem dX12_rounds_178 : decode cX12_rounds 178 = .ok (.iaload, 1) := by decide +kernel
theorem dX12_rounds_179 : decode cX12_rounds 179 = .ok (.ireturn, 1) := by decide +kernel
theorem dX12_endOf_0 : decode cX12_endOf 0 = .ok (.aload_n 0, 1) := by decide +kernel
theorem dX12_endOf_1 : decode cX12_endOf 1 = .ok (.getfield 33, 3) := by decide +kernel
theorem dX12_endOf_4 : decode cX12_endOf 4 = .ok (.bipush 126, 2) := by decide +kernel
theorem dX12_endOf_6 : decode cX12_endOf 6 = .ok (.bipush 6, 2) := by decide +kernel
theorem dX12_endOf_8 : decode cX12_endOf 8 = .ok (.iload_n 1, 1) := by decide +kernel
theorem dX12_endOf_9 : decode cX12_endOf 9 = .ok (.imul, 1) := by decide +kernel
theorem dX12_endOf_10 : decode cX12_endOf 10 = .ok (.iadd, 1) := by decide +kernel
theorem dX12_endOf_11 : decode cX12_endOf 11 = .ok (.aload_n 0, 1) := by decide +kernel
theorem dX12_endOf_12 : decode cX12_endOf 12 = .ok (.getfield 33, 3) := by decide +kernel
theorem dX12_endOf_15 : decode cX12_endOf 15 = .ok (.bipush 116, 2) := by decide +kernel
theorem dX12_endOf_17 : decode cX12_endOf 17 = .ok (.iload_n 1, 1) := by decide +kernel
theorem dX12_endOf_18 : decode cX12_endOf 18 = .ok (.iadd, 1) := by decide +kernel
theorem dX12_endOf_19 : decode cX12_endOf 19 = .ok (.iaload, 1) := by decide +kernel
theorem dX12_endOf_20 : decode cX12_endOf 20 = .ok (.iadd, 1) := by decide +kernel
theorem dX12_endOf_21 : decode cX12_endOf 21 = .ok (.iconst 1, 1) := by decide +kernel
theorem dX12_endOf_22 : decode cX12_endOf 22 = .ok (.isub, 1) := by decide +kernel
theorem dX12_endOf_23 : decode cX12_endOf 23 = .ok (.iaload, 1) := by decide +kernel
theorem dX12_endOf_24 : decode cX12_endOf 24 = .ok (.ireturn, 1) := by decide +kernel
theorem dX12_isFrom_0 : decode cX12_isFrom 0 = .ok (.aload_n 0, 1) := by decide +kernel
theorem dX12_isFrom_1 : decode cX12_isFrom 1 = .ok (.getfield 33, 3) := by decide +kernel
theorem dX12_isFrom_4 : decode cX12_isFrom 4 = .ok (.bipush 116, 2) := by decide +kernel
theorem dX12_isFrom_6 : decode cX12_isFrom 6 = .ok (.iload_n 1, 1) := by decide +kernel
theorem dX12_isFrom_7 : decode cX12_isFrom 7 = .ok (.iadd, 1) := by decide +kernel
theorem dX12_isFrom_8 : decode cX12_isFrom 8 = .ok (.iaload, 1) := by decide +kernel
theorem dX12_isFrom_9 : decode cX12_isFrom 9 = .ok (.ifCond .le 49, 3) := by decide +kernel
theorem dX12_isFrom_12 : decode cX12_isFrom 12 = .ok (.aload_n 0, 1) := by decide +kernel
theorem dX12_isFrom_13 : decode cX12_isFrom 13 = .ok (.getfield 33, 3) := by decide +kernel
theorem dX12_isFrom_16 : decode cX12_isFrom 16 = .ok (.bipush 90, 2) := by decide +kernel
theorem dX12_isFrom_18 : decode cX12_isFrom 18 = .ok (.aload_n 0, 1) := by decide +kernel
theorem dX12_isFrom_19 : decode cX12_isFrom 19 = .ok (.getfield 33, 3) := by decide +kernel
theorem dX12_isFrom_22 : decode cX12_isFrom 22 = .ok (.bipush 106, 2) := by decide +kernel
theorem dX12_isFrom_24 : decode cX12_isFrom 24 = .ok (.iload_n 1, 1) := by decide +kernel
theorem dX12_isFrom_25 : decode cX12_isFrom 25 = .ok (.iadd, 1) := by decide +kernel
theorem dX12_isFrom_26 : decode cX12_isFrom 26 = .ok (.iaload, 1) := by decide +kernel
theorem dX12_isFrom_27 : decode cX12_isFrom 27 = .ok (.iadd, 1) := by decide +kernel
theorem dX12_isFrom_28 : decode cX12_isFrom 28 = .ok (.iaload, 1) := by decide +kernel
theorem dX12_isFrom_29 : decode cX12_isFrom 29 = .ok (.iload_n 2, 1) := by decide +kernel
theorem dX12_isFrom_30 : decode cX12_isFrom 30 = .ok (.if_icmp .ne 28, 3) := by decide +kernel
theorem dX12_isFrom_33 : decode cX12_isFrom 33 = .ok (.aload_n 0, 1) := by decide +kernel
theorem dX12_isFrom_34 : decode cX12_isFrom 34 = .ok (.getfield 33, 3) := by decide +kernel
theorem dX12_isFrom_37 : decode cX12_isFrom 37 = .ok (.bipush 98, 2) := by decide +kernel
theorem dX12_isFrom_39 : decode cX12_isFrom 39 = .ok (.aload_n 0, 1) := by decide +kernel
theorem dX12_isFrom_40 : decode cX12_isFrom 40 = .ok (.getfield 33, 3) := by decide +kernel
theorem dX12_isFrom_43 : decode cX12_isFrom 43 = .ok (.bipush 106, 2) := by decide +kernel
theorem dX12_isFrom_45 : decode cX12_isFrom 45 = .ok (.iload_n 1, 1) := by decide +kernel
theorem dX12_isFrom_46 : decode cX12_isFrom 46 = .ok (.iadd, 1) := by decide +kernel
theorem dX12_isFrom_47 : decode cX12_isFrom 47 = .ok (.iaload, 1) := by decide +kernel
theorem dX12_isFrom_48 : decode cX12_isFrom 48 = .ok (.iadd, 1) := by decide +kernel
theorem dX12_isFrom_49 : decode cX12_isFrom 49 = .ok (.iaload, 1) := by decide +kernel
theorem dX12_isFrom_50 : decode cX12_isFrom 50 = .ok (.iload_n 3, 1) := by decide +kernel
theorem dX12_isFrom_51 : decode cX12_isFrom 51 = .ok (.if_icmp .ne 7, 3) := by decide +kernel
theorem dX12_isFrom_54 : decode cX12_isFrom 54 = .ok (.iconst 1, 1) := by decide +kernel
theorem dX12_isFrom_55 : decode cX12_isFrom 55 = .ok (.goto 4, 3) := by decide +kernel
theorem dX12_isFrom_58 : decode cX12_isFrom 58 = .ok (.iconst 0, 1) := by decide +kernel
theorem dX12_isFrom_59 : decode cX12_isFrom 59 = .ok (.ireturn, 1) := by decide +kernel
theorem dX12_wantsBy_0 : decode cX12_wantsBy 0 = .ok (.aload_n 0, 1) := by decide +kernel
theorem dX12_wantsBy_1 : decode cX12_wantsBy 1 = .ok (.iload_n 1, 1) := by decide +kernel
theorem dX12_wantsBy_2 : decode cX12_wantsBy 2 = .ok (.invokevirtual 304, 3) := by decide +kernel
theorem dX12_wantsBy_5 : decode cX12_wantsBy 5 = .ok (.iload_n 2, 1) := by decide +kernel
theorem dX12_wantsBy_6 : decode cX12_wantsBy 6 = .ok (.invokestatic 280, 3) := by decide +kernel
theorem dX12_wantsBy_9 : decode cX12_wantsBy 9 = .ok (.ifCond .eq 7, 3) := by decide +kernel
theorem dX12_wantsBy_12 : decode cX12_wantsBy 12 = .ok (.iconst 1, 1) := by decide +kernel
theorem dX12_wantsBy_13 : decode cX12_wantsBy 13 = .ok (.goto 15, 3) := by decide +kernel
theorem dX12_wantsBy_16 : decode cX12_wantsBy 16 = .ok (.iconst 1, 1) := by decide +kernel
theorem dX12_wantsBy_17 : decode cX12_wantsBy 17 = .ok (.aload_n 0, 1) := by decide +kernel
theorem dX12_wantsBy_18 : decode cX12_wantsBy 18 = .ok (.getfield 65, 3) := by decide +kernel
theorem dX12_wantsBy_21 : decode cX12_wantsBy 21 = .ok (.aload_n 0, 1) := by decide +kernel
theorem dX12_wantsBy_22 : decode cX12_wantsBy 22 = .ok (.iload_n 1, 1) := by decide +kernel
theorem dX12_wantsBy_23 : decode cX12_wantsBy 23 = .ok (.invokevirtual 410, 3) := by decide +kernel
theorem dX12_wantsBy_26 : decode cX12_wantsBy 26 = .ok (.iaload, 1) := by decide +kernel
theorem dX12_wantsBy_27 : decode cX12_wantsBy 27 = .ok (.iadd, 1) := by decide +kernel
theorem dX12_wantsBy_28 : decode cX12_wantsBy 28 = .ok (.ireturn, 1) := by decide +kernel
theorem dX12_laysWants_0 : decode cX12_laysWants 0 = .ok (.iconst 0, 1) := by decide +kernel
theorem dX12_laysWants_1 : decode cX12_laysWants 1 = .ok (.istore_n 3, 1) := by decide +kernel
theorem dX12_laysWants_2 : decode cX12_laysWants 2 = .ok (.iload_n 3, 1) := by decide +kernel
theorem dX12_laysWants_3 : decode cX12_laysWants 3 = .ok (.bipush 12, 2) := by decide +kernel
theorem dX12_laysWants_5 : decode cX12_laysWants 5 = .ok (.if_icmp .ge 18, 3) := by decide +kernel
theorem dX12_laysWants_8 : decode cX12_laysWants 8 = .ok (.aload_n 0, 1) := by decide +kernel
theorem dX12_laysWants_9 : decode cX12_laysWants 9 = .ok (.getfield 65, 3) := by decide +kernel
theorem dX12_laysWants_12 : decode cX12_laysWants 12 = .ok (.iload_n 3, 1) := by decide +kernel
theorem dX12_laysWants_13 : decode cX12_laysWants 13 = .ok (.ldc_w 406, 3) := by decide +kernel
theorem dX12_laysWants_16 : decode cX12_laysWants 16 = .ok (.iastore, 1) := by decide +kernel
theorem dX12_laysWants_17 : decode cX12_laysWants 17 = .ok (.iinc 3 1, 3) := by decide +kernel
theorem dX12_laysWants_20 : decode cX12_laysWants 20 = .ok (.goto (-18), 3) := by decide +kernel
theorem dX12_laysWants_23 : decode cX12_laysWants 23 = .ok (.iconst 1, 1) := by decide +kernel
theorem dX12_laysWants_24 : decode cX12_laysWants 24 = .ok (.istore_n 3, 1) := by decide +kernel
theorem dX12_laysWants_25 : decode cX12_laysWants 25 = .ok (.iload_n 3, 1) := by decide +kernel
theorem dX12_laysWants_26 : decode cX12_laysWants 26 = .ok (.ifCond .eq 96, 3) := by decide +kernel
theorem dX12_laysWants_29 : decode cX12_laysWants 29 = .ok (.iconst 0, 1) := by decide +kernel
theorem dX12_laysWants_30 : decode cX12_laysWants 30 = .ok (.istore_n 3, 1) := by decide +kernel
theorem dX12_laysWants_31 : decode cX12_laysWants 31 = .ok (.iconst 0, 1) := by decide +kernel
theorem dX12_laysWants_32 : decode cX12_laysWants 32 = .ok (.istore 4, 2) := by decide +kernel
theorem dX12_laysWants_34 : decode cX12_laysWants 34 = .ok (.iload 4, 2) := by decide +kernel
theorem dX12_laysWants_36 : decode cX12_laysWants 36 = .ok (.aload_n 0, 1) := by decide +kernel
theorem dX12_laysWants_37 : decode cX12_laysWants 37 = .ok (.getfield 33, 3) := by decide +kernel
theorem dX12_laysWants_40 : decode cX12_laysWants 40 = .ok (.iconst 4, 1) := by decide +kernel
theorem dX12_laysWants_41 : decode cX12_laysWants 41 = .ok (.iaload, 1) := by decide +kernel
theorem dX12_laysWants_42 : decode cX12_laysWants 42 = .ok (.if_icmp .ge 77, 3) := by decide +kernel
theorem dX12_laysWants_45 : decode cX12_laysWants 45 = .ok (.aload_n 0, 1) := by decide +kernel
theorem dX12_laysWants_46 : decode cX12_laysWants 46 = .ok (.getfield 33, 3) := by decide +kernel
theorem dX12_laysWants_49 : decode cX12_laysWants 49 = .ok (.bipush 90, 2) := by decide +kernel
theorem dX12_laysWants_51 : decode cX12_laysWants 51 = .ok (.aload_n 0, 1) := by decide +kernel
theorem dX12_laysWants_52 : decode cX12_laysWants 52 = .ok (.getfield 33, 3) := by decide +kernel
theorem dX12_laysWants_55 : decode cX12_laysWants 55 = .ok (.bipush 106, 2) := by decide +kernel
theorem dX12_laysWants_57 : decode cX12_laysWants 57 = .ok (.iload 4, 2) := by decide +kernel
theorem dX12_laysWants_59 : decode cX12_laysWants 59 = .ok (.iadd, 1) := by decide +kernel
theorem dX12_laysWants_60 : decode cX12_laysWants 60 = .ok (.iaload, 1) := by decide +kernel
theorem dX12_laysWants_61 : decode cX12_laysWants 61 = .ok (.iadd, 1) := by decide +kernel
theorem dX12_laysWants_62 : decode cX12_laysWants 62 = .ok (.iaload, 1) := by decide +kernel
theorem dX12_laysWants_63 : decode cX12_laysWants 63 = .ok (.istore 5, 2) := by decide +kernel
theorem dX12_laysWants_65 : decode cX12_laysWants 65 = .ok (.aload_n 0, 1) := by decide +kernel
theorem dX12_laysWants_66 : decode cX12_laysWants 66 = .ok (.iload 4, 2) := by decide +kernel
theorem dX12_laysWants_68 : decode cX12_laysWants 68 = .ok (.iload 5, 2) := by decide +kernel
theorem dX12_laysWants_70 : decode cX12_laysWants 70 = .ok (.iload_n 2, 1) := by decide +kernel
theorem dX12_laysWants_71 : decode cX12_laysWants 71 = .ok (.invokevirtual 413, 3) := by decide +kernel
theorem dX12_laysWants_74 : decode cX12_laysWants 74 = .ok (.ifCond .eq 39, 3) := by decide +kernel
theorem dX12_laysWants_77 : decode cX12_laysWants 77 = .ok (.aload_n 0, 1) := by decide +kernel
theorem dX12_laysWants_78 : decode cX12_laysWants 78 = .ok (.iload 4, 2) := by decide +kernel
theorem dX12_laysWants_80 : decode cX12_laysWants 80 = .ok (.iload_n 1, 1) := by decide +kernel
theorem dX12_laysWants_81 : decode cX12_laysWants 81 = .ok (.invokevirtual 416, 3) := by decide +kernel
theorem dX12_laysWants_84 : decode cX12_laysWants 84 = .ok (.aload_n 0, 1) := by decide +kernel
theorem dX12_laysWants_85 : decode cX12_laysWants 85 = .ok (.getfield 65, 3) := by decide +kernel
theorem dX12_laysWants_88 : decode cX12_laysWants 88 = .ok (.iload 5, 2) := by decide +kernel
theorem dX12_laysWants_90 : decode cX12_laysWants 90 = .ok (.iaload, 1) := by decide +kernel
theorem dX12_laysWants_91 : decode cX12_laysWants 91 = .ok (.if_icmp .lt 6, 3) := by decide +kernel
theorem dX12_laysWants_94 : decode cX12_laysWants 94 = .ok (.goto 19, 3) := by decide +kernel
theorem dX12_laysWants_97 : decode cX12_laysWants 97 = .ok (.aload_n 0, 1) := by decide +kernel
theorem dX12_laysWants_98 : decode cX12_laysWants 98 = .ok (.getfield 65, 3) := by decide +kernel
theorem dX12_laysWants_101 : decode cX12_laysWants 101 = .ok (.iload 5, 2) := by decide +kernel
theorem dX12_laysWants_103 : decode cX12_laysWants 103 = .ok (.aload_n 0, 1) := by decide +kernel
theorem dX12_laysWants_104 : decode cX12_laysWants 104 = .ok (.iload 4, 2) := by decide +kernel
theorem dX12_laysWants_106 : decode cX12_laysWants 106 = .ok (.iload_n 1, 1) := by decide +kernel
theorem dX12_laysWants_107 : decode cX12_laysWants 107 = .ok (.invokevirtual 416, 3) := by decide +kernel
theorem dX12_laysWants_110 : decode cX12_laysWants 110 = .ok (.iastore, 1) := by decide +kernel
theorem dX12_laysWants_111 : decode cX12_laysWants 111 = .ok (.iconst 1, 1) := by decide +kernel
theorem dX12_laysWants_112 : decode cX12_laysWants 112 = .ok (.istore_n 3, 1) := by decide +kernel
theorem dX12_laysWants_113 : decode cX12_laysWants 113 = .ok (.iinc 4 1, 3) := by decide +kernel
theorem dX12_laysWants_116 : decode cX12_laysWants 116 = .ok (.goto (-82), 3) := by decide +kernel
theorem dX12_laysWants_119 : decode cX12_laysWants 119 = .ok (.goto (-94), 3) := by decide +kernel
theorem dX12_laysWants_122 : decode cX12_laysWants 122 = .ok (.return_, 1) := by decide +kernel
theorem dX12_path_0 : decode cX12_path 0 = .ok (.aload_n 0, 1) := by decide +kernel
theorem dX12_path_1 : decode cX12_path 1 = .ok (.iconst 0, 1) := by decide +kernel
theorem dX12_path_2 : decode cX12_path 2 = .ok (.putfield 1, 3) := by decide +kernel
theorem dX12_path_5 : decode cX12_path 5 = .ok (.aload_n 0, 1) := by decide +kernel
theorem dX12_path_6 : decode cX12_path 6 = .ok (.iload_n 1, 1) := by decide +kernel
theorem dX12_path_7 : decode cX12_path 7 = .ok (.invokevirtual 335, 3) := by decide +kernel
theorem dX12_path_10 : decode cX12_path 10 = .ok (.ifCond .eq 24, 3) := by decide +kernel
theorem dX12_path_13 : decode cX12_path 13 = .ok (.aload_n 0, 1) := by decide +kernel
theorem dX12_path_14 : decode cX12_path 14 = .ok (.iload_n 2, 1) := by decide +kernel
theorem dX12_path_15 : decode cX12_path 15 = .ok (.invokevirtual 311, 3) := by decide +kernel
theorem dX12_path_18 : decode cX12_path 18 = .ok (.ifCond .eq 16, 3) := by decide +kernel
theorem dX12_path_21 : decode cX12_path 21 = .ok (.aload_n 0, 1) := by decide +kernel
theorem dX12_path_22 : decode cX12_path 22 = .ok (.getfield 33, 3) := by decide +kernel
theorem dX12_path_25 : decode cX12_path 25 = .ok (.sipush 271, 3) := by decide +kernel
theorem dX12_path_28 : decode cX12_path 28 = .ok (.iload_n 1, 1) := by decide +kernel
theorem dX12_path_29 : decode cX12_path 29 = .ok (.iadd, 1) := by decide +kernel
theorem dX12_path_30 : decode cX12_path 30 = .ok (.iaload, 1) := by decide +kernel
theorem dX12_path_31 : decode cX12_path 31 = .ok (.ifCond .ne 5, 3) := by decide +kernel
theorem dX12_path_34 : decode cX12_path 34 = .ok (.iconst (-1), 1) := by decide +kernel
theorem dX12_path_35 : decode cX12_path 35 = .ok (.ireturn, 1) := by decide +kernel
theorem dX12_path_36 : decode cX12_path 36 = .ok (.aload_n 0, 1) := by decide +kernel
theorem dX12_path_37 : decode cX12_path 37 = .ok (.getfield 33, 3) := by decide +kernel
theorem dX12_path_40 : decode cX12_path 40 = .ok (.sipush 271, 3) := by decide +kernel
theorem dX12_path_43 : decode cX12_path 43 = .ok (.iload_n 1, 1) := by decide +kernel
theorem dX12_path_44 : decode cX12_path 44 = .ok (.iadd, 1) := by decide +kernel
theorem dX12_path_45 : decode cX12_path 45 = .ok (.iaload, 1) := by decide +kernel
theorem dX12_path_46 : decode cX12_path 46 = .ok (.iconst 1, 1) := by decide +kernel
theorem dX12_path_47 : decode cX12_path 47 = .ok (.isub, 1) := by decide +kernel
theorem dX12_path_48 : decode cX12_path 48 = .ok (.istore_n 3, 1) := by decide +kernel
theorem dX12_path_49 : decode cX12_path 49 = .ok (.aload_n 0, 1) := by decide +kernel
theorem dX12_path_50 : decode cX12_path 50 = .ok (.getfield 33, 3) := by decide +kernel
theorem dX12_path_53 : decode cX12_path 53 = .ok (.sipush 221, 3) := by decide +kernel
theorem dX12_path_56 : decode cX12_path 56 = .ok (.iload_n 1, 1) := by decide +kernel
theorem dX12_path_57 : decode cX12_path 57 = .ok (.iadd, 1) := by decide +kernel
theorem dX12_path_58 : decode cX12_path 58 = .ok (.iaload, 1) := by decide +kernel
theorem dX12_path_59 : decode cX12_path 59 = .ok (.istore 4, 2) := by decide +kernel
theorem dX12_path_61 : decode cX12_path 61 = .ok (.aload_n 0, 1) := by decide +kernel
theorem dX12_path_62 : decode cX12_path 62 = .ok (.iload_n 2, 1) := by decide +kernel
theorem dX12_path_63 : decode cX12_path 63 = .ok (.iload 4, 2) := by decide +kernel
theorem dX12_path_65 : decode cX12_path 65 = .ok (.invokevirtual 419, 3) := by decide +kernel
theorem dX12_path_68 : decode cX12_path 68 = .ok (.iload_n 3, 1) := by decide +kernel
theorem dX12_path_69 : decode cX12_path 69 = .ok (.iload_n 2, 1) := by decide +kernel
theorem dX12_path_70 : decode cX12_path 70 = .ok (.if_icmp .ne 7, 3) := by decide +kernel
theorem dX12_path_73 : decode cX12_path 73 = .ok (.iconst 0, 1) := by decide +kernel
theorem dX12_path_74 : decode cX12_path 74 = .ok (.goto 9, 3) := by decide +kernel
theorem dX12_path_77 : decode cX12_path 77 = .ok (.aload_n 0, 1) := by decide +kernel
theorem dX12_path_78 : decode cX12_path 78 = .ok (.getfield 65, 3) := by decide +kernel
theorem dX12_path_81 : decode cX12_path 81 = .ok (.iload_n 3, 1) := by decide +kernel
theorem dX12_path_82 : decode cX12_path 82 = .ok (.iaload, 1) := by decide +kernel
theorem dX12_path_83 : decode cX12_path 83 = .ok (.istore 5, 2) := by decide +kernel
theorem dX12_path_85 : decode cX12_path 85 = .ok (.iload 5, 2) := by decide +kernel
theorem dX12_path_87 : decode cX12_path 87 = .ok (.ldc_w 406, 3) := by decide +kernel
theorem dX12_path_90 : decode cX12_path 90 = .ok (.if_icmp .lt 5, 3) := by decide +kernel
theorem dX12_path_93 : decode cX12_path 93 = .ok (.iconst (-1), 1) := by decide +kernel
theorem dX12_path_94 : decode cX12_path 94 = .ok (.ireturn, 1) := by decide +kernel
theorem dX12_path_95 : decode cX12_path 95 = .ok (.aload_n 0, 1) := by decide +kernel
theorem dX12_path_96 : decode cX12_path 96 = .ok (.iload 5, 2) := by decide +kernel
theorem dX12_path_98 : decode cX12_path 98 = .ok (.putfield 71, 3) := by decide +kernel
theorem dX12_path_101 : decode cX12_path 101 = .ok (.iconst 0, 1) := by decide +kernel
theorem dX12_path_102 : decode cX12_path 102 = .ok (.istore 6, 2) := by decide +kernel
theorem dX12_path_104 : decode cX12_path 104 = .ok (.iload 6, 2) := by decide +kernel
theorem dX12_path_106 : decode cX12_path 106 = .ok (.iload 5, 2) := by decide +kernel
theorem dX12_path_108 : decode cX12_path 108 = .ok (.if_icmp .ge 61, 3) := by decide +kernel
theorem dX12_path_111 : decode cX12_path 111 = .ok (.iconst 0, 1) := by decide +kernel
theorem dX12_path_112 : decode cX12_path 112 = .ok (.istore 7, 2) := by decide +kernel
theorem dX12_path_114 : decode cX12_path 114 = .ok (.aload_n 0, 1) := by decide +kernel
theorem dX12_path_115 : decode cX12_path 115 = .ok (.iload 7, 2) := by decide +kernel
theorem dX12_path_117 : decode cX12_path 117 = .ok (.iload_n 3, 1) := by decide +kernel
theorem dX12_path_118 : decode cX12_path 118 = .ok (.iload 4, 2) := by decide +kernel
theorem dX12_path_120 : decode cX12_path 120 = .ok (.invokevirtual 413, 3) := by decide +kernel
theorem dX12_path_123 : decode cX12_path 123 = .ok (.ifCond .eq 18, 3) := by decide +kernel
theorem dX12_path_126 : decode cX12_path 126 = .ok (.aload_n 0, 1) := by decide +kernel
theorem dX12_path_127 : decode cX12_path 127 = .ok (.iload 7, 2) := by decide +kernel
theorem dX12_path_129 : decode cX12_path 129 = .ok (.iload_n 2, 1) := by decide +kernel
theorem dX12_path_130 : decode cX12_path 130 = .ok (.invokevirtual 416, 3) := by decide +kernel
theorem dX12_path_133 : decode cX12_path 133 = .ok (.iload 5, 2) := by decide +kernel
theorem dX12_path_135 : decode cX12_path 135 = .ok (.iload 6, 2) := by decide +kernel
theorem dX12_path_137 : decode cX12_path 137 = .ok (.isub, 1) := by decide +kernel
theorem dX12_path_138 : decode cX12_path 138 = .ok (.if_icmp .eq 9, 3) := by decide +kernel
theorem dX12_path_141 : decode cX12_path 141 = .ok (.iinc 7 1, 3) := by decide +kernel
theorem dX12_path_144 : decode cX12_path 144 = .ok (.goto (-30), 3) := by decide +kernel
theorem dX12_path_147 : decode cX12_path 147 = .ok (.aload_n 0, 1) := by decide +kernel
theorem dX12_path_148 : decode cX12_path 148 = .ok (.getfield 68, 3) := by decide +kernel
theorem dX12_path_151 : decode cX12_path 151 = .ok (.iload 6, 2) := by decide +kernel
theorem dX12_path_153 : decode cX12_path 153 = .ok (.iload 7, 2) := by decide +kernel
theorem dX12_path_155 : decode cX12_path 155 = .ok (.iastore, 1) := by decide +kernel
theorem dX12_path_156 : decode cX12_path 156 = .ok (.aload_n 0, 1) := by decide +kernel
theorem dX12_path_157 : decode cX12_path 157 = .ok (.iload 7, 2) := by decide +kernel
theorem dX12_path_159 : decode cX12_path 159 = .ok (.invokevirtual 410, 3) := by decide +kernel
theorem dX12_path_162 : decode cX12_path 162 = .ok (.istore_n 3, 1) := by decide +kernel
theorem dX12_path_163 : decode cX12_path 163 = .ok (.iinc 6 1, 3) := by decide +kernel
theorem dX12_path_166 : decode cX12_path 166 = .ok (.goto (-62), 3) := by decide +kernel
theorem dX12_path_169 : decode cX12_path 169 = .ok (.iload 5, 2) := by decide +kernel
theorem dX12_path_171 : decode cX12_path 171 = .ok (.ireturn, 1) := by decide +kernel
theorem dX12_pathAt_0 : decode cX12_pathAt 0 = .ok (.aload_n 0, 1) := by decide +kernel
theorem dX12_pathAt_1 : decode cX12_pathAt 1 = .ok (.iconst 0, 1) := by decide +kernel
theorem dX12_pathAt_2 : decode cX12_pathAt 2 = .ok (.putfield 1, 3) := by decide +kernel
theorem dX12_pathAt_5 : decode cX12_pathAt 5 = .ok (.iload_n 1, 1) := by decide +kernel
theorem dX12_pathAt_6 : decode cX12_pathAt 6 = .ok (.iconst 0, 1) := by decide +kernel
theorem dX12_pathAt_7 : decode cX12_pathAt 7 = .ok (.aload_n 0, 1) := by decide +kernel
theorem dX12_pathAt_8 : decode cX12_pathAt 8 = .ok (.getfield 71, 3) := by decide +kernel
theorem dX12_pathAt_11 : decode cX12_pathAt 11 = .ok (.iconst 1, 1) := by decide +kernel
theorem dX12_pathAt_12 : decode cX12_pathAt 12 = .ok (.isub, 1) := by decide +kernel
theorem dX12_pathAt_13 : decode cX12_pathAt 13 = .ok (.invokestatic 211, 3) := by decide +kernel
theorem dX12_pathAt_16 : decode cX12_pathAt 16 = .ok (.ifCond .eq 12, 3) := by decide +kernel
theorem dX12_pathAt_19 : decode cX12_pathAt 19 = .ok (.aload_n 0, 1) := by decide +kernel
theorem dX12_pathAt_20 : decode cX12_pathAt 20 = .ok (.getfield 68, 3) := by decide +kernel
theorem dX12_pathAt_23 : decode cX12_pathAt 23 = .ok (.iload_n 1, 1) := by decide +kernel
theorem dX12_pathAt_24 : decode cX12_pathAt 24 = .ok (.iaload, 1) := by decide +kernel
theorem dX12_pathAt_25 : decode cX12_pathAt 25 = .ok (.goto 4, 3) := by decide +kernel
theorem dX12_pathAt_28 : decode cX12_pathAt 28 = .ok (.iconst (-1), 1) := by decide +kernel
theorem dX12_pathAt_29 : decode cX12_pathAt 29 = .ok (.ireturn, 1) := by decide +kernel
theorem dX12_comes_0 : decode cX12_comes 0 = .ok (.aload_n 0, 1) := by decide +kernel
theorem dX12_comes_1 : decode cX12_comes 1 = .ok (.iconst 0, 1) := by decide +kernel
theorem dX12_comes_2 : decode cX12_comes 2 = .ok (.putfield 1, 3) := by decide +kernel
theorem dX12_comes_5 : decode cX12_comes 5 = .ok (.aload_n 0, 1) := by decide +kernel
theorem dX12_comes_6 : decode cX12_comes 6 = .ok (.iload_n 1, 1) := by decide +kernel
theorem dX12_comes_7 : decode cX12_comes 7 = .ok (.invokevirtual 335, 3) := by decide +kernel
theorem dX12_comes_10 : decode cX12_comes 10 = .ok (.ifCond .eq 11, 3) := by decide +kernel
theorem dX12_comes_13 : decode cX12_comes 13 = .ok (.aload_n 0, 1) := by decide +kernel
theorem dX12_comes_14 : decode cX12_comes 14 = .ok (.iload_n 2, 1) := by decide +kernel
theorem dX12_comes_15 : decode cX12_comes 15 = .ok (.invokevirtual 311, 3) := by decide +kernel
theorem dX12_comes_18 : decode cX12_comes 18 = .ok (.ifCond .ne 5, 3) := by decide +kernel
theorem dX12_comes_21 : decode cX12_comes 21 = .ok (.iconst (-1), 1) := by decide +kernel
theorem dX12_comes_22 : decode cX12_comes 22 = .ok (.ireturn, 1) := by decide +kernel
theorem dX12_comes_23 : decode cX12_comes 23 = .ok (.aload_n 0, 1) := by decide +kernel
theorem dX12_comes_24 : decode cX12_comes 24 = .ok (.invokevirtual 422, 3) := by decide +kernel
theorem dX12_comes_27 : decode cX12_comes 27 = .ok (.iconst (-1), 1) := by decide +kernel
theorem dX12_comes_28 : decode cX12_comes 28 = .ok (.istore_n 3, 1) := by decide +kernel
theorem dX12_comes_29 : decode cX12_comes 29 = .ok (.iconst 0, 1) := by decide +kernel
theorem dX12_comes_30 : decode cX12_comes 30 = .ok (.istore 4, 2) := by decide +kernel
theorem dX12_comes_32 : decode cX12_comes 32 = .ok (.iload 4, 2) := by decide +kernel
theorem dX12_comes_34 : decode cX12_comes 34 = .ok (.sipush 300, 3) := by decide +kernel
theorem dX12_comes_37 : decode cX12_comes 37 = .ok (.if_icmp .gt 37, 3) := by decide +kernel
theorem dX12_comes_40 : decode cX12_comes 40 = .ok (.iload_n 3, 1) := by decide +kernel
theorem dX12_comes_41 : decode cX12_comes 41 = .ok (.ifCond .ge 33, 3) := by decide +kernel
theorem dX12_comes_44 : decode cX12_comes 44 = .ok (.aload_n 0, 1) := by decide +kernel
theorem dX12_comes_45 : decode cX12_comes 45 = .ok (.getfield 33, 3) := by decide +kernel
theorem dX12_comes_48 : decode cX12_comes 48 = .ok (.sipush 271, 3) := by decide +kernel
theorem dX12_comes_51 : decode cX12_comes 51 = .ok (.iload_n 1, 1) := by decide +kernel
theorem dX12_comes_52 : decode cX12_comes 52 = .ok (.iadd, 1) := by decide +kernel
theorem dX12_comes_53 : decode cX12_comes 53 = .ok (.iaload, 1) := by decide +kernel
theorem dX12_comes_54 : decode cX12_comes 54 = .ok (.iload_n 2, 1) := by decide +kernel
theorem dX12_comes_55 : decode cX12_comes 55 = .ok (.iconst 1, 1) := by decide +kernel
theorem dX12_comes_56 : decode cX12_comes 56 = .ok (.iadd, 1) := by decide +kernel
theorem dX12_comes_57 : decode cX12_comes 57 = .ok (.if_icmp .ne 6, 3) := by decide +kernel
theorem dX12_comes_60 : decode cX12_comes 60 = .ok (.iload 4, 2) := by decide +kernel
theorem dX12_comes_62 : decode cX12_comes 62 = .ok (.istore_n 3, 1) := by decide +kernel
theorem dX12_comes_63 : decode cX12_comes 63 = .ok (.aload_n 0, 1) := by decide +kernel
theorem dX12_comes_64 : decode cX12_comes 64 = .ok (.invokevirtual 373, 3) := by decide +kernel
theorem dX12_comes_67 : decode cX12_comes 67 = .ok (.pop, 1) := by decide +kernel
theorem dX12_comes_68 : decode cX12_comes 68 = .ok (.iinc 4 1, 3) := by decide +kernel
theorem dX12_comes_71 : decode cX12_comes 71 = .ok (.goto (-39), 3) := by decide +kernel
theorem dX12_comes_74 : decode cX12_comes 74 = .ok (.aload_n 0, 1) := by decide +kernel
theorem dX12_comes_75 : decode cX12_comes 75 = .ok (.invokevirtual 425, 3) := by decide +kernel
theorem dX12_comes_78 : decode cX12_comes 78 = .ok (.iload_n 3, 1) := by decide +kernel
theorem dX12_comes_79 : decode cX12_comes 79 = .ok (.ireturn, 1) := by decide +kernel
theorem dX12_meet_0 : decode cX12_meet 0 = .ok (.aload_n 0, 1) := by decide +kernel
theorem dX12_meet_1 : decode cX12_meet 1 = .ok (.iconst 0, 1) := by decide +kernel
theorem dX12_meet_2 : decode cX12_meet 2 = .ok (.putfield 1, 3) := by decide +kernel
theorem dX12_meet_5 : decode cX12_meet 5 = .ok (.aload_n 0, 1) := by decide +kernel
theorem dX12_meet_6 : decode cX12_meet 6 = .ok (.invokevirtual 422, 3) := by decide +kernel
theorem dX12_meet_9 : decode cX12_meet 9 = .ok (.aload_n 0, 1) := by decide +kernel
theorem dX12_meet_10 : decode cX12_meet 10 = .ok (.getfield 33, 3) := by decide +kernel
theorem dX12_meet_13 : decode cX12_meet 13 = .ok (.sipush 281, 3) := by decide +kernel
theorem dX12_meet_16 : decode cX12_meet 16 = .ok (.iaload, 1) := by decide +kernel
theorem dX12_meet_17 : decode cX12_meet 17 = .ok (.istore_n 1, 1) := by decide +kernel
theorem dX12_meet_18 : decode cX12_meet 18 = .ok (.iconst (-1), 1) := by decide +kernel
theorem dX12_meet_19 : decode cX12_meet 19 = .ok (.istore_n 2, 1) := by decide +kernel
theorem dX12_meet_20 : decode cX12_meet 20 = .ok (.iconst 1, 1) := by decide +kernel
theorem dX12_meet_21 : decode cX12_meet 21 = .ok (.istore_n 3, 1) := by decide +kernel
theorem dX12_meet_22 : decode cX12_meet 22 = .ok (.iload_n 3, 1) := by decide +kernel
theorem dX12_meet_23 : decode cX12_meet 23 = .ok (.sipush 300, 3) := by decide +kernel
theorem dX12_meet_26 : decode cX12_meet 26 = .ok (.if_icmp .gt 35, 3) := by decide +kernel
theorem dX12_meet_29 : decode cX12_meet 29 = .ok (.iload_n 2, 1) := by decide +kernel
theorem dX12_meet_30 : decode cX12_meet 30 = .ok (.ifCond .ge 31, 3) := by decide +kernel
theorem dX12_meet_33 : decode cX12_meet 33 = .ok (.aload_n 0, 1) := by decide +kernel
theorem dX12_meet_34 : decode cX12_meet 34 = .ok (.invokevirtual 373, 3) := by decide +kernel
theorem dX12_meet_37 : decode cX12_meet 37 = .ok (.pop, 1) := by decide +kernel
theorem dX12_meet_38 : decode cX12_meet 38 = .ok (.aload_n 0, 1) := by decide +kernel
theorem dX12_meet_39 : decode cX12_meet 39 = .ok (.getfield 33, 3) := by decide +kernel
theorem dX12_meet_42 : decode cX12_meet 42 = .ok (.sipush 281, 3) := by decide +kernel
theorem dX12_meet_45 : decode cX12_meet 45 = .ok (.iaload, 1) := by decide +kernel
theorem dX12_meet_46 : decode cX12_meet 46 = .ok (.iload_n 1, 1) := by decide +kernel
theorem dX12_meet_47 : decode cX12_meet 47 = .ok (.iconst (-1), 1) := by decide +kernel
theorem dX12_meet_48 : decode cX12_meet 48 = .ok (.ixor, 1) := by decide +kernel
theorem dX12_meet_49 : decode cX12_meet 49 = .ok (.iand, 1) := by decide +kernel
theorem dX12_meet_50 : decode cX12_meet 50 = .ok (.ifCond .eq 5, 3) := by decide +kernel
theorem dX12_meet_53 : decode cX12_meet 53 = .ok (.iload_n 3, 1) := by decide +kernel
theorem dX12_meet_54 : decode cX12_meet 54 = .ok (.istore_n 2, 1) := by decide +kernel
theorem dX12_meet_55 : decode cX12_meet 55 = .ok (.iinc 3 1, 3) := by decide +kernel
theorem dX12_meet_58 : decode cX12_meet 58 = .ok (.goto (-36), 3) := by decide +kernel
theorem dX12_meet_61 : decode cX12_meet 61 = .ok (.aload_n 0, 1) := by decide +kernel
theorem dX12_meet_62 : decode cX12_meet 62 = .ok (.invokevirtual 425, 3) := by decide +kernel
theorem dX12_meet_65 : decode cX12_meet 65 = .ok (.iload_n 2, 1) := by decide +kernel
theorem dX12_meet_66 : decode cX12_meet 66 = .ok (.ireturn, 1) := by decide +kernel
theorem dX12_showsAt_0 : decode cX12_showsAt 0 = .ok (.aload_n 0, 1) := by decide +kernel
theorem dX12_showsAt_1 : decode cX12_showsAt 1 = .ok (.iload_n 1, 1) := by decide +kernel
theorem dX12_showsAt_2 : decode cX12_showsAt 2 = .ok (.iload_n 2, 1) := by decide +kernel
theorem dX12_showsAt_3 : decode cX12_showsAt 3 = .ok (.iconst 2, 1) := by decide +kernel
theorem dX12_showsAt_4 : decode cX12_showsAt 4 = .ok (.idiv, 1) := by decide +kernel
theorem dX12_showsAt_5 : decode cX12_showsAt 5 = .ok (.iload_n 1, 1) := by decide +kernel
theorem dX12_showsAt_6 : decode cX12_showsAt 6 = .ok (.if_icmp .ne 11, 3) := by decide +kernel
theorem dX12_showsAt_9 : decode cX12_showsAt 9 = .ok (.iconst 1, 1) := by decide +kernel
theorem dX12_showsAt_10 : decode cX12_showsAt 10 = .ok (.iload_n 2, 1) := by decide +kernel
theorem dX12_showsAt_11 : decode cX12_showsAt 11 = .ok (.iconst 2, 1) := by decide +kernel
theorem dX12_showsAt_12 : decode cX12_showsAt 12 = .ok (.irem, 1) := by decide +kernel
theorem dX12_showsAt_13 : decode cX12_showsAt 13 = .ok (.iadd, 1) := by decide +kernel
theorem dX12_showsAt_14 : decode cX12_showsAt 14 = .ok (.goto 4, 3) := by decide +kernel
theorem dX12_showsAt_17 : decode cX12_showsAt 17 = .ok (.iconst 0, 1) := by decide +kernel
theorem dX12_showsAt_18 : decode cX12_showsAt 18 = .ok (.invokevirtual 301, 3) := by decide +kernel
theorem dX12_showsAt_21 : decode cX12_showsAt 21 = .ok (.ifCond .eq 7, 3) := by decide +kernel
theorem dX12_showsAt_24 : decode cX12_showsAt 24 = .ok (.iconst 1, 1) := by decide +kernel
theorem dX12_showsAt_25 : decode cX12_showsAt 25 = .ok (.goto 4, 3) := by decide +kernel
theorem dX12_showsAt_28 : decode cX12_showsAt 28 = .ok (.iconst 0, 1) := by decide +kernel
theorem dX12_showsAt_29 : decode cX12_showsAt 29 = .ok (.ireturn, 1) := by decide +kernel
theorem dX12_isFit_0 : decode cX12_isFit 0 = .ok (.iconst 1, 1) := by decide +kernel
theorem dX12_isFit_1 : decode cX12_isFit 1 = .ok (.istore_n 2, 1) := by decide +kernel
theorem dX12_isFit_2 : decode cX12_isFit 2 = .ok (.iconst 0, 1) := by decide +kernel
theorem dX12_isFit_3 : decode cX12_isFit 3 = .ok (.istore_n 3, 1) := by decide +kernel
theorem dX12_isFit_4 : decode cX12_isFit 4 = .ok (.iload_n 3, 1) := by decide +kernel
theorem dX12_isFit_5 : decode cX12_isFit 5 = .ok (.aload_n 0, 1) := by decide +kernel
theorem dX12_isFit_6 : decode cX12_isFit 6 = .ok (.getfield 18, 3) := by decide +kernel
theorem dX12_isFit_9 : decode cX12_isFit 9 = .ok (.if_icmp .ge 39, 3) := by decide +kernel
theorem dX12_isFit_12 : decode cX12_isFit 12 = .ok (.iload_n 2, 1) := by decide +kernel
theorem dX12_isFit_13 : decode cX12_isFit 13 = .ok (.ifCond .eq 27, 3) := by decide +kernel
theorem dX12_isFit_16 : decode cX12_isFit 16 = .ok (.aload_n 0, 1) := by decide +kernel
theorem dX12_isFit_17 : decode cX12_isFit 17 = .ok (.aload_n 0, 1) := by decide +kernel
theorem dX12_isFit_18 : decode cX12_isFit 18 = .ok (.iload_n 3, 1) := by decide +kernel
theorem dX12_isFit_19 : decode cX12_isFit 19 = .ok (.invokevirtual 428, 3) := by decide +kernel
theorem dX12_isFit_22 : decode cX12_isFit 22 = .ok (.iload_n 1, 1) := by decide +kernel
theorem dX12_isFit_23 : decode cX12_isFit 23 = .ok (.invokevirtual 431, 3) := by decide +kernel
theorem dX12_isFit_26 : decode cX12_isFit 26 = .ok (.aload_n 0, 1) := by decide +kernel
theorem dX12_isFit_27 : decode cX12_isFit 27 = .ok (.iload_n 3, 1) := by decide +kernel
theorem dX12_isFit_28 : decode cX12_isFit 28 = .ok (.iconst 1, 1) := by decide +kernel
theorem dX12_isFit_29 : decode cX12_isFit 29 = .ok (.iadd, 1) := by decide +kernel
theorem dX12_isFit_30 : decode cX12_isFit 30 = .ok (.invokevirtual 428, 3) := by decide +kernel
theorem dX12_isFit_33 : decode cX12_isFit 33 = .ok (.if_icmp .ne 7, 3) := by decide +kernel
theorem dX12_isFit_36 : decode cX12_isFit 36 = .ok (.iconst 1, 1) := by decide +kernel
theorem dX12_isFit_37 : decode cX12_isFit 37 = .ok (.goto 4, 3) := by decide +kernel
theorem dX12_isFit_40 : decode cX12_isFit 40 = .ok (.iconst 0, 1) := by decide +kernel
theorem dX12_isFit_41 : decode cX12_isFit 41 = .ok (.istore_n 2, 1) := by decide +kernel
theorem dX12_isFit_42 : decode cX12_isFit 42 = .ok (.iinc 3 2, 3) := by decide +kernel
theorem dX12_isFit_45 : decode cX12_isFit 45 = .ok (.goto (-41), 3) := by decide +kernel
theorem dX12_isFit_48 : decode cX12_isFit 48 = .ok (.iload_n 2, 1) := by decide +kernel
theorem dX12_isFit_49 : decode cX12_isFit 49 = .ok (.ireturn, 1) := by decide +kernel
theorem dX12_leftBy_0 : decode cX12_leftBy 0 = .ok (.iconst 0, 1) := by decide +kernel
theorem dX12_leftBy_1 : decode cX12_leftBy 1 = .ok (.istore_n 2, 1) := by decide +kernel
theorem dX12_leftBy_2 : decode cX12_leftBy 2 = .ok (.iconst 0, 1) := by decide +kernel
theorem dX12_leftBy_3 : decode cX12_leftBy 3 = .ok (.istore_n 3, 1) := by decide +kernel
theorem dX12_leftBy_4 : decode cX12_leftBy 4 = .ok (.iload_n 3, 1) := by decide +kernel
theorem dX12_leftBy_5 : decode cX12_leftBy 5 = .ok (.aload_n 0, 1) := by decide +kernel
theorem dX12_leftBy_6 : decode cX12_leftBy 6 = .ok (.getfield 77, 3) := by decide +kernel
theorem dX12_leftBy_9 : decode cX12_leftBy 9 = .ok (.if_icmp .ge 23, 3) := by decide +kernel
theorem dX12_leftBy_12 : decode cX12_leftBy 12 = .ok (.iload_n 2, 1) := by decide +kernel
theorem dX12_leftBy_13 : decode cX12_leftBy 13 = .ok (.aload_n 0, 1) := by decide +kernel
theorem dX12_leftBy_14 : decode cX12_leftBy 14 = .ok (.iload_n 1, 1) := by decide +kernel
theorem dX12_leftBy_15 : decode cX12_leftBy 15 = .ok (.aload_n 0, 1) := by decide +kernel
theorem dX12_leftBy_16 : decode cX12_leftBy 16 = .ok (.getfield 74, 3) := by decide +kernel
theorem dX12_leftBy_19 : decode cX12_leftBy 19 = .ok (.iload_n 3, 1) := by decide +kernel
theorem dX12_leftBy_20 : decode cX12_leftBy 20 = .ok (.iaload, 1) := by decide +kernel
theorem dX12_leftBy_21 : decode cX12_leftBy 21 = .ok (.invokevirtual 431, 3) := by decide +kernel
theorem dX12_leftBy_24 : decode cX12_leftBy 24 = .ok (.iadd, 1) := by decide +kernel
theorem dX12_leftBy_25 : decode cX12_leftBy 25 = .ok (.istore_n 2, 1) := by decide +kernel
theorem dX12_leftBy_26 : decode cX12_leftBy 26 = .ok (.iinc 3 1, 3) := by decide +kernel
theorem dX12_leftBy_29 : decode cX12_leftBy 29 = .ok (.goto (-25), 3) := by decide +kernel
theorem dX12_leftBy_32 : decode cX12_leftBy 32 = .ok (.iload_n 2, 1) := by decide +kernel
theorem dX12_leftBy_33 : decode cX12_leftBy 33 = .ok (.aload_n 0, 1) := by decide +kernel
theorem dX12_leftBy_34 : decode cX12_leftBy 34 = .ok (.getfield 77, 3) := by decide +kernel
theorem dX12_leftBy_37 : decode cX12_leftBy 37 = .ok (.iload_n 2, 1) := by decide +kernel
theorem dX12_leftBy_38 : decode cX12_leftBy 38 = .ok (.isub, 1) := by decide +kernel
theorem dX12_leftBy_39 : decode cX12_leftBy 39 = .ok (.invokestatic 434, 3) := by decide +kernel
theorem dX12_leftBy_42 : decode cX12_leftBy 42 = .ok (.ireturn, 1) := by decide +kernel
theorem dX12_fits_0 : decode cX12_fits 0 = .ok (.aload_n 0, 1) := by decide +kernel
theorem dX12_fits_1 : decode cX12_fits 1 = .ok (.iconst 0, 1) := by decide +kernel
theorem dX12_fits_2 : decode cX12_fits 2 = .ok (.putfield 1, 3) := by decide +kernel
theorem dX12_fits_5 : decode cX12_fits 5 = .ok (.aload_n 0, 1) := by decide +kernel
theorem dX12_fits_6 : decode cX12_fits 6 = .ok (.sipush 1460, 3) := by decide +kernel
theorem dX12_fits_9 : decode cX12_fits 9 = .ok (.invokevirtual 283, 3) := by decide +kernel
theorem dX12_fits_12 : decode cX12_fits 12 = .ok (.aload_n 0, 1) := by decide +kernel
theorem dX12_fits_13 : decode cX12_fits 13 = .ok (.getfield 18, 3) := by decide +kernel
theorem dX12_fits_16 : decode cX12_fits 16 = .ok (.iconst 2, 1) := by decide +kernel
theorem dX12_fits_17 : decode cX12_fits 17 = .ok (.bipush 12, 2) := by decide +kernel
theorem dX12_fits_19 : decode cX12_fits 19 = .ok (.invokestatic 211, 3) := by decide +kernel
theorem dX12_fits_22 : decode cX12_fits 22 = .ok (.ifCond .eq 13, 3) := by decide +kernel
theorem dX12_fits_25 : decode cX12_fits 25 = .ok (.aload_n 0, 1) := by decide +kernel
theorem dX12_fits_26 : decode cX12_fits 26 = .ok (.getfield 18, 3) := by decide +kernel
theorem dX12_fits_29 : decode cX12_fits 29 = .ok (.iconst 2, 1) := by decide +kernel
theorem dX12_fits_30 : decode cX12_fits 30 = .ok (.irem, 1) := by decide +kernel
theorem dX12_fits_31 : decode cX12_fits 31 = .ok (.iconst 1, 1) := by decide +kernel
theorem dX12_fits_32 : decode cX12_fits 32 = .ok (.if_icmp .ne 5, 3) := by decide +kernel
theorem dX12_fits_35 : decode cX12_fits 35 = .ok (.iconst (-1), 1) := by decide +kernel
theorem dX12_fits_36 : decode cX12_fits 36 = .ok (.ireturn, 1) := by decide +kernel
theorem dX12_fits_37 : decode cX12_fits 37 = .ok (.iconst 0, 1) := by decide +kernel
theorem dX12_fits_38 : decode cX12_fits 38 = .ok (.istore_n 1, 1) := by decide +kernel
theorem dX12_fits_39 : decode cX12_fits 39 = .ok (.iload_n 1, 1) := by decide +kernel
theorem dX12_fits_40 : decode cX12_fits 40 = .ok (.aload_n 0, 1) := by decide +kernel
theorem dX12_fits_41 : decode cX12_fits 41 = .ok (.getfield 18, 3) := by decide +kernel
theorem dX12_fits_44 : decode cX12_fits 44 = .ok (.if_icmp .ge 34, 3) := by decide +kernel
theorem dX12_fits_47 : decode cX12_fits 47 = .ok (.aload_n 0, 1) := by decide +kernel
theorem dX12_fits_48 : decode cX12_fits 48 = .ok (.aload_n 0, 1) := by decide +kernel
theorem dX12_fits_49 : decode cX12_fits 49 = .ok (.iload_n 1, 1) := by decide +kernel
theorem dX12_fits_50 : decode cX12_fits 50 = .ok (.invokevirtual 428, 3) := by decide +kernel
theorem dX12_fits_53 : decode cX12_fits 53 = .ok (.invokevirtual 311, 3) := by decide +kernel
theorem dX12_fits_56 : decode cX12_fits 56 = .ok (.ifCond .eq 14, 3) := by decide +kernel
theorem dX12_fits_59 : decode cX12_fits 59 = .ok (.aload_n 0, 1) := by decide +kernel
theorem dX12_fits_60 : decode cX12_fits 60 = .ok (.iload_n 1, 1) := by decide +kernel
theorem dX12_fits_61 : decode cX12_fits 61 = .ok (.iconst 1, 1) := by decide +kernel
theorem dX12_fits_62 : decode cX12_fits 62 = .ok (.iadd, 1) := by decide +kernel
theorem dX12_fits_63 : decode cX12_fits 63 = .ok (.invokevirtual 428, 3) := by decide +kernel
theorem dX12_fits_66 : decode cX12_fits 66 = .ok (.iconst 1, 1) := by decide +kernel
theorem dX12_fits_67 : decode cX12_fits 67 = .ok (.if_icmp .le 5, 3) := by decide +kernel
theorem dX12_fits_70 : decode cX12_fits 70 = .ok (.iconst (-1), 1) := by decide +kernel
theorem dX12_fits_71 : decode cX12_fits 71 = .ok (.ireturn, 1) := by decide +kernel
theorem dX12_fits_72 : decode cX12_fits 72 = .ok (.iinc 1 2, 3) := by decide +kernel
theorem dX12_fits_75 : decode cX12_fits 75 = .ok (.goto (-36), 3) := by decide +kernel
theorem dX12_fits_78 : decode cX12_fits 78 = .ok (.iconst 0, 1) := by decide +kernel
theorem dX12_fits_79 : decode cX12_fits 79 = .ok (.istore_n 1, 1) := by decide +kernel
theorem dX12_fits_80 : decode cX12_fits 80 = .ok (.iconst 0, 1) := by decide +kernel
theorem dX12_fits_81 : decode cX12_fits 81 = .ok (.istore_n 2, 1) := by decide +kernel
theorem dX12_fits_82 : decode cX12_fits 82 = .ok (.iload_n 2, 1) := by decide +kernel
theorem dX12_fits_83 : decode cX12_fits 83 = .ok (.iconst 2, 1) := by decide +kernel
theorem dX12_fits_84 : decode cX12_fits 84 = .ok (.aload_n 0, 1) := by decide +kernel
theorem dX12_fits_85 : decode cX12_fits 85 = .ok (.getfield 33, 3) := by decide +kernel
theorem dX12_fits_88 : decode cX12_fits 88 = .ok (.iconst 0, 1) := by decide +kernel
theorem dX12_fits_89 : decode cX12_fits 89 = .ok (.iaload, 1) := by decide +kernel
theorem dX12_fits_90 : decode cX12_fits 90 = .ok (.imul, 1) := by decide +kernel
theorem dX12_fits_91 : decode cX12_fits 91 = .ok (.if_icmp .gt 25, 3) := by decide +kernel
theorem dX12_fits_94 : decode cX12_fits 94 = .ok (.iload_n 1, 1) := by decide +kernel
theorem dX12_fits_95 : decode cX12_fits 95 = .ok (.aload_n 0, 1) := by decide +kernel
theorem dX12_fits_96 : decode cX12_fits 96 = .ok (.iload_n 2, 1) := by decide +kernel
theorem dX12_fits_97 : decode cX12_fits 97 = .ok (.invokevirtual 437, 3) := by decide +kernel
theorem dX12_fits_100 : decode cX12_fits 100 = .ok (.ifCond .eq 7, 3) := by decide +kernel
theorem dX12_fits_103 : decode cX12_fits 103 = .ok (.iconst 1, 1) := by decide +kernel
theorem dX12_fits_104 : decode cX12_fits 104 = .ok (.goto 4, 3) := by decide +kernel
theorem dX12_fits_107 : decode cX12_fits 107 = .ok (.iconst 0, 1) := by decide +kernel
theorem dX12_fits_108 : decode cX12_fits 108 = .ok (.iadd, 1) := by decide +kernel
theorem dX12_fits_109 : decode cX12_fits 109 = .ok (.istore_n 1, 1) := by decide +kernel
theorem dX12_fits_110 : decode cX12_fits 110 = .ok (.iinc 2 1, 3) := by decide +kernel
theorem dX12_fits_113 : decode cX12_fits 113 = .ok (.goto (-31), 3) := by decide +kernel
theorem dX12_fits_116 : decode cX12_fits 116 = .ok (.iload_n 1, 1) := by decide +kernel
theorem dX12_fits_117 : decode cX12_fits 117 = .ok (.ifCond .ne 5, 3) := by decide +kernel
theorem dX12_fits_120 : decode cX12_fits 120 = .ok (.iconst 0, 1) := by decide +kernel
theorem dX12_fits_121 : decode cX12_fits 121 = .ok (.ireturn, 1) := by decide +kernel
theorem dX12_fits_122 : decode cX12_fits 122 = .ok (.aload_n 0, 1) := by decide +kernel
theorem dX12_fits_123 : decode cX12_fits 123 = .ok (.iconst 0, 1) := by decide +kernel
theorem dX12_fits_124 : decode cX12_fits 124 = .ok (.putfield 77, 3) := by decide +kernel
theorem dX12_fits_127 : decode cX12_fits 127 = .ok (.iconst 0, 1) := by decide +kernel
theorem dX12_fits_128 : decode cX12_fits 128 = .ok (.istore_n 2, 1) := by decide +kernel
theorem dX12_fits_129 : decode cX12_fits 129 = .ok (.iload_n 2, 1) := by decide +kernel
theorem dX12_fits_130 : decode cX12_fits 130 = .ok (.iconst 2, 1) := by decide +kernel
theorem dX12_fits_131 : decode cX12_fits 131 = .ok (.aload_n 0, 1) := by decide +kernel
theorem dX12_fits_132 : decode cX12_fits 132 = .ok (.getfield 33, 3) := by decide +kernel
theorem dX12_fits_135 : decode cX12_fits 135 = .ok (.iconst 0, 1) := by decide +kernel
theorem dX12_fits_136 : decode cX12_fits 136 = .ok (.iaload, 1) := by decide +kernel
theorem dX12_fits_137 : decode cX12_fits 137 = .ok (.imul, 1) := by decide +kernel
theorem dX12_fits_138 : decode cX12_fits 138 = .ok (.if_icmp .gt 40, 3) := by decide +kernel
theorem dX12_fits_141 : decode cX12_fits 141 = .ok (.aload_n 0, 1) := by decide +kernel
theorem dX12_fits_142 : decode cX12_fits 142 = .ok (.iload_n 2, 1) := by decide +kernel
theorem dX12_fits_143 : decode cX12_fits 143 = .ok (.invokevirtual 437, 3) := by decide +kernel
theorem dX12_fits_146 : decode cX12_fits 146 = .ok (.ifCond .ne 6, 3) := by decide +kernel
theorem dX12_fits_149 : decode cX12_fits 149 = .ok (.goto 23, 3) := by decide +kernel
theorem dX12_fits_152 : decode cX12_fits 152 = .ok (.aload_n 0, 1) := by decide +kernel
theorem dX12_fits_153 : decode cX12_fits 153 = .ok (.getfield 74, 3) := by decide +kernel
theorem dX12_fits_156 : decode cX12_fits 156 = .ok (.aload_n 0, 1) := by decide +kernel
theorem dX12_fits_157 : decode cX12_fits 157 = .ok (.getfield 77, 3) := by decide +kernel
theorem dX12_fits_160 : decode cX12_fits 160 = .ok (.iload_n 2, 1) := by decide +kernel
theorem dX12_fits_161 : decode cX12_fits 161 = .ok (.iastore, 1) := by decide +kernel
theorem dX12_fits_162 : decode cX12_fits 162 = .ok (.aload_n 0, 1) := by decide +kernel
theorem dX12_fits_163 : decode cX12_fits 163 = .ok (.dup, 1) := by decide +kernel
theorem dX12_fits_164 : decode cX12_fits 164 = .ok (.getfield 77, 3) := by decide +kernel
theorem dX12_fits_167 : decode cX12_fits 167 = .ok (.iconst 1, 1) := by decide +kernel
theorem dX12_fits_168 : decode cX12_fits 168 = .ok (.iadd, 1) := by decide +kernel
theorem dX12_fits_169 : decode cX12_fits 169 = .ok (.putfield 77, 3) := by decide +kernel
theorem dX12_fits_172 : decode cX12_fits 172 = .ok (.iinc 2 1, 3) := by decide +kernel
theorem dX12_fits_175 : decode cX12_fits 175 = .ok (.goto (-46), 3) := by decide +kernel
theorem dX12_fits_178 : decode cX12_fits 178 = .ok (.aload_n 0, 1) := by decide +kernel
theorem dX12_fits_179 : decode cX12_fits 179 = .ok (.iconst 0, 1) := by decide +kernel
theorem dX12_fits_180 : decode cX12_fits 180 = .ok (.putfield 440, 3) := by decide +kernel
theorem dX12_fits_183 : decode cX12_fits 183 = .ok (.iconst 1, 1) := by decide +kernel
theorem dX12_fits_184 : decode cX12_fits 184 = .ok (.istore_n 2, 1) := by decide +kernel
theorem dX12_fits_185 : decode cX12_fits 185 = .ok (.iload_n 2, 1) := by decide +kernel
theorem dX12_fits_186 : decode cX12_fits 186 = .ok (.aload_n 0, 1) := by decide +kernel
theorem dX12_fits_187 : decode cX12_fits 187 = .ok (.getfield 33, 3) := by decide +kernel
theorem dX12_fits_190 : decode cX12_fits 190 = .ok (.iconst 0, 1) := by decide +kernel
theorem dX12_fits_191 : decode cX12_fits 191 = .ok (.iaload, 1) := by decide +kernel
theorem dX12_fits_192 : decode cX12_fits 192 = .ok (.if_icmp .ge 30, 3) := by decide +kernel
theorem dX12_fits_195 : decode cX12_fits 195 = .ok (.aload_n 0, 1) := by decide +kernel
theorem dX12_fits_196 : decode cX12_fits 196 = .ok (.iload_n 2, 1) := by decide +kernel
theorem dX12_fits_197 : decode cX12_fits 197 = .ok (.invokevirtual 443, 3) := by decide +kernel
theorem dX12_fits_200 : decode cX12_fits 200 = .ok (.aload_n 0, 1) := by decide +kernel
theorem dX12_fits_201 : decode cX12_fits 201 = .ok (.aload_n 0, 1) := by decide +kernel
theorem dX12_fits_202 : decode cX12_fits 202 = .ok (.getfield 440, 3) := by decide +kernel
theorem dX12_fits_205 : decode cX12_fits 205 = .ok (.invokevirtual 443, 3) := by decide +kernel
theorem dX12_fits_208 : decode cX12_fits 208 = .ok (.if_icmp .ge 8, 3) := by decide +kernel
theorem dX12_fits_211 : decode cX12_fits 211 = .ok (.aload_n 0, 1) := by decide +kernel
theorem dX12_fits_212 : decode cX12_fits 212 = .ok (.iload_n 2, 1) := by decide +kernel
theorem dX12_fits_213 : decode cX12_fits 213 = .ok (.putfield 440, 3) := by decide +kernel
theorem dX12_fits_216 : decode cX12_fits 216 = .ok (.iinc 2 1, 3) := by decide +kernel
theorem dX12_fits_219 : decode cX12_fits 219 = .ok (.goto (-34), 3) := by decide +kernel
theorem dX12_fits_222 : decode cX12_fits 222 = .ok (.iload_n 1, 1) := by decide +kernel
theorem dX12_fits_223 : decode cX12_fits 223 = .ok (.ireturn, 1) := by decide +kernel
theorem dX12_fitsAt_0 : decode cX12_fitsAt 0 = .ok (.aload_n 0, 1) := by decide +kernel
theorem dX12_fitsAt_1 : decode cX12_fitsAt 1 = .ok (.iconst 0, 1) := by decide +kernel
theorem dX12_fitsAt_2 : decode cX12_fitsAt 2 = .ok (.putfield 1, 3) := by decide +kernel
theorem dX12_fitsAt_5 : decode cX12_fitsAt 5 = .ok (.iload_n 1, 1) := by decide +kernel
theorem dX12_fitsAt_6 : decode cX12_fitsAt 6 = .ok (.iconst 0, 1) := by decide +kernel
theorem dX12_fitsAt_7 : decode cX12_fitsAt 7 = .ok (.aload_n 0, 1) := by decide +kernel
theorem dX12_fitsAt_8 : decode cX12_fitsAt 8 = .ok (.getfield 77, 3) := by decide +kernel
theorem dX12_fitsAt_11 : decode cX12_fitsAt 11 = .ok (.iconst 1, 1) := by decide +kernel
theorem dX12_fitsAt_12 : decode cX12_fitsAt 12 = .ok (.isub, 1) := by decide +kernel
theorem dX12_fitsAt_13 : decode cX12_fitsAt 13 = .ok (.invokestatic 211, 3) := by decide +kernel
theorem dX12_fitsAt_16 : decode cX12_fitsAt 16 = .ok (.ifCond .eq 12, 3) := by decide +kernel
theorem dX12_fitsAt_19 : decode cX12_fitsAt 19 = .ok (.aload_n 0, 1) := by decide +kernel
theorem dX12_fitsAt_20 : decode cX12_fitsAt 20 = .ok (.getfield 74, 3) := by decide +kernel
theorem dX12_fitsAt_23 : decode cX12_fitsAt 23 = .ok (.iload_n 1, 1) := by decide +kernel
theorem dX12_fitsAt_24 : decode cX12_fitsAt 24 = .ok (.iaload, 1) := by decide +kernel
theorem dX12_fitsAt_25 : decode cX12_fitsAt 25 = .ok (.goto 4, 3) := by decide +kernel
theorem dX12_fitsAt_28 : decode cX12_fitsAt 28 = .ok (.iconst (-1), 1) := by decide +kernel
theorem dX12_fitsAt_29 : decode cX12_fitsAt 29 = .ok (.ireturn, 1) := by decide +kernel
theorem dX12_ask_0 : decode cX12_ask 0 = .ok (.aload_n 0, 1) := by decide +kernel
theorem dX12_ask_1 : decode cX12_ask 1 = .ok (.iconst 0, 1) := by decide +kernel
theorem dX12_ask_2 : decode cX12_ask 2 = .ok (.putfield 1, 3) := by decide +kernel
theorem dX12_ask_5 : decode cX12_ask 5 = .ok (.aload_n 0, 1) := by decide +kernel
theorem dX12_ask_6 : decode cX12_ask 6 = .ok (.getfield 77, 3) := by decide +kernel
theorem dX12_ask_9 : decode cX12_ask 9 = .ok (.ifCond .le 10, 3) := by decide +kernel
theorem dX12_ask_12 : decode cX12_ask 12 = .ok (.aload_n 0, 1) := by decide +kernel
theorem dX12_ask_13 : decode cX12_ask 13 = .ok (.getfield 440, 3) := by decide +kernel
theorem dX12_ask_16 : decode cX12_ask 16 = .ok (.goto 4, 3) := by decide +kernel
theorem dX12_ask_19 : decode cX12_ask 19 = .ok (.iconst (-1), 1) := by decide +kernel
theorem dX12_ask_20 : decode cX12_ask 20 = .ok (.ireturn, 1) := by decide +kernel
theorem dX12_waitedInAll_0 : decode cX12_waitedInAll 0 = .ok (.iconst 0, 1) := by decide +kernel
theorem dX12_waitedInAll_1 : decode cX12_waitedInAll 1 = .ok (.istore_n 1, 1) := by decide +kernel
theorem dX12_waitedInAll_2 : decode cX12_waitedInAll 2 = .ok (.iconst 0, 1) := by decide +kernel
theorem dX12_waitedInAll_3 : decode cX12_waitedInAll 3 = .ok (.istore_n 2, 1) := by decide +kernel
theorem dX12_waitedInAll_4 : decode cX12_waitedInAll 4 = .ok (.iload_n 2, 1) := by decide +kernel
theorem dX12_waitedInAll_5 : decode cX12_waitedInAll 5 = .ok (.aload_n 0, 1) := by decide +kernel
theorem dX12_waitedInAll_6 : decode cX12_waitedInAll 6 = .ok (.getfield 33, 3) := by decide +kernel
theorem dX12_waitedInAll_9 : decode cX12_waitedInAll 9 = .ok (.bipush 6, 2) := by decide +kernel
theorem dX12_waitedInAll_11 : decode cX12_waitedInAll 11 = .ok (.iaload, 1) := by decide +kernel
theorem dX12_waitedInAll_12 : decode cX12_waitedInAll 12 = .ok (.if_icmp .ge 22, 3) := by decide +kernel
theorem dX12_waitedInAll_15 : decode cX12_waitedInAll 15 = .ok (.iload_n 1, 1) := by decide +kernel
theorem dX12_waitedInAll_16 : decode cX12_waitedInAll 16 = .ok (.aload_n 0, 1) := by decide +kernel
theorem dX12_waitedInAll_17 : decode cX12_waitedInAll 17 = .ok (.getfield 33, 3) := by decide +kernel
theorem dX12_waitedInAll_20 : decode cX12_waitedInAll 20 = .ok (.sipush 283, 3) := by decide +kernel
theorem dX12_waitedInAll_23 : decode cX12_waitedInAll 23 = .ok (.iload_n 2, 1) := by decide +kernel
theorem dX12_waitedInAll_24 : decode cX12_waitedInAll 24 = .ok (.iadd, 1) := by decide +kernel
theorem dX12_waitedInAll_25 : decode cX12_waitedInAll 25 = .ok (.iaload, 1) := by decide +kernel
theorem dX12_waitedInAll_26 : decode cX12_waitedInAll 26 = .ok (.iadd, 1) := by decide +kernel
theorem dX12_waitedInAll_27 : decode cX12_waitedInAll 27 = .ok (.istore_n 1, 1) := by decide +kernel
theorem dX12_waitedInAll_28 : decode cX12_waitedInAll 28 = .ok (.iinc 2 1, 3) := by decide +kernel
theorem dX12_waitedInAll_31 : decode cX12_waitedInAll 31 = .ok (.goto (-27), 3) := by decide +kernel
theorem dX12_waitedInAll_34 : decode cX12_waitedInAll 34 = .ok (.iload_n 1, 1) := by decide +kernel
theorem dX12_waitedInAll_35 : decode cX12_waitedInAll 35 = .ok (.ireturn, 1) := by decide +kernel
theorem dX12_mean_0 : decode cX12_mean 0 = .ok (.aload_n 0, 1) := by decide +kernel
theorem dX12_mean_1 : decode cX12_mean 1 = .ok (.aload_n 0, 1) := by decide +kernel
theorem dX12_mean_2 : decode cX12_mean 2 = .ok (.getfield 33, 3) := by decide +kernel
theorem dX12_mean_5 : decode cX12_mean 5 = .ok (.bipush 6, 2) := by decide +kernel
theorem dX12_mean_7 : decode cX12_mean 7 = .ok (.iaload, 1) := by decide +kernel
theorem dX12_mean_8 : decode cX12_mean 8 = .ok (.ifCond .eq 12, 3) := by decide +kernel
theorem dX12_mean_11 : decode cX12_mean 11 = .ok (.iload_n 1, 1) := by decide +kernel
theorem dX12_mean_12 : decode cX12_mean 12 = .ok (.iconst 0, 1) := by decide +kernel
theorem dX12_mean_13 : decode cX12_mean 13 = .ok (.iconst 1, 1) := by decide +kernel
theorem dX12_mean_14 : decode cX12_mean 14 = .ok (.invokestatic 211, 3) := by decide +kernel
theorem dX12_mean_17 : decode cX12_mean 17 = .ok (.ifCond .ne 7, 3) := by decide +kernel
theorem dX12_mean_20 : decode cX12_mean 20 = .ok (.iconst 1, 1) := by decide +kernel
theorem dX12_mean_21 : decode cX12_mean 21 = .ok (.goto 4, 3) := by decide +kernel
theorem dX12_mean_24 : decode cX12_mean 24 = .ok (.iconst 0, 1) := by decide +kernel
theorem dX12_mean_25 : decode cX12_mean 25 = .ok (.invokevirtual 338, 3) := by decide +kernel
theorem dX12_mean_28 : decode cX12_mean 28 = .ok (.ifCond .eq 5, 3) := by decide +kernel
theorem dX12_mean_31 : decode cX12_mean 31 = .ok (.iconst 0, 1) := by decide +kernel
theorem dX12_mean_32 : decode cX12_mean 32 = .ok (.ireturn, 1) := by decide +kernel
theorem dX12_mean_33 : decode cX12_mean 33 = .ok (.aload_n 0, 1) := by decide +kernel
theorem dX12_mean_34 : decode cX12_mean 34 = .ok (.getfield 33, 3) := by decide +kernel
theorem dX12_mean_37 : decode cX12_mean 37 = .ok (.bipush 6, 2) := by decide +kernel
theorem dX12_mean_39 : decode cX12_mean 39 = .ok (.iaload, 1) := by decide +kernel
theorem dX12_mean_40 : decode cX12_mean 40 = .ok (.istore_n 2, 1) := by decide +kernel
theorem dX12_mean_41 : decode cX12_mean 41 = .ok (.aload_n 0, 1) := by decide +kernel
theorem dX12_mean_42 : decode cX12_mean 42 = .ok (.invokevirtual 446, 3) := by decide +kernel
theorem dX12_mean_45 : decode cX12_mean 45 = .ok (.istore_n 3, 1) := by decide +kernel
theorem dX12_mean_46 : decode cX12_mean 46 = .ok (.iload_n 3, 1) := by decide +kernel
theorem dX12_mean_47 : decode cX12_mean 47 = .ok (.ifCond .eq 16, 3) := by decide +kernel
theorem dX12_mean_50 : decode cX12_mean 50 = .ok (.iload_n 2, 1) := by decide +kernel
theorem dX12_mean_51 : decode cX12_mean 51 = .ok (.iload_n 3, 1) := by decide +kernel
theorem dX12_mean_52 : decode cX12_mean 52 = .ok (.irem, 1) := by decide +kernel
theorem dX12_mean_53 : decode cX12_mean 53 = .ok (.istore 4, 2) := by decide +kernel
theorem dX12_mean_55 : decode cX12_mean 55 = .ok (.iload_n 3, 1) := by decide +kernel
theorem dX12_mean_56 : decode cX12_mean 56 = .ok (.istore_n 2, 1) := by decide +kernel
theorem dX12_mean_57 : decode cX12_mean 57 = .ok (.iload 4, 2) := by decide +kernel
theorem dX12_mean_59 : decode cX12_mean 59 = .ok (.istore_n 3, 1) := by decide +kernel
theorem dX12_mean_60 : decode cX12_mean 60 = .ok (.goto (-14), 3) := by decide +kernel
theorem dX12_mean_63 : decode cX12_mean 63 = .ok (.iload_n 1, 1) := by decide +kernel
theorem dX12_mean_64 : decode cX12_mean 64 = .ok (.ifCond .ne 10, 3) := by decide +kernel
theorem dX12_mean_67 : decode cX12_mean 67 = .ok (.aload_n 0, 1) := by decide +kernel
theorem dX12_mean_68 : decode cX12_mean 68 = .ok (.invokevirtual 446, 3) := by decide +kernel
theorem dX12_mean_71 : decode cX12_mean 71 = .ok (.goto 10, 3) := by decide +kernel
theorem dX12_mean_74 : decode cX12_mean 74 = .ok (.aload_n 0, 1) := by decide +kernel
theorem dX12_mean_75 : decode cX12_mean 75 = .ok (.getfield 33, 3) := by decide +kernel
theorem dX12_mean_78 : decode cX12_mean 78 = .ok (.bipush 6, 2) := by decide +kernel
theorem dX12_mean_80 : decode cX12_mean 80 = .ok (.iaload, 1) := by decide +kernel
theorem dX12_mean_81 : decode cX12_mean 81 = .ok (.iload_n 2, 1) := by decide +kernel
theorem dX12_mean_82 : decode cX12_mean 82 = .ok (.idiv, 1) := by decide +kernel
theorem dX12_mean_83 : decode cX12_mean 83 = .ok (.ireturn, 1) := by decide +kernel
theorem dX12_lays_0 : decode cX12_lays 0 = .ok (.aload_n 0, 1) := by decide +kernel
theorem dX12_lays_1 : decode cX12_lays 1 = .ok (.getfield 80, 3) := by decide +kernel
theorem dX12_lays_4 : decode cX12_lays 4 = .ok (.aload_n 0, 1) := by decide +kernel
theorem dX12_lays_5 : decode cX12_lays 5 = .ok (.getfield 449, 3) := by decide +kernel
theorem dX12_lays_8 : decode cX12_lays 8 = .ok (.iload_n 1, 1) := by decide +kernel
theorem dX12_lays_9 : decode cX12_lays 9 = .ok (.i2b, 1) := by decide +kernel
theorem dX12_lays_10 : decode cX12_lays 10 = .ok (.bastore, 1) := by decide +kernel
theorem dX12_lays_11 : decode cX12_lays 11 = .ok (.aload_n 0, 1) := by decide +kernel
theorem dX12_lays_12 : decode cX12_lays 12 = .ok (.dup, 1) := by decide +kernel
theorem dX12_lays_13 : decode cX12_lays 13 = .ok (.getfield 449, 3) := by decide +kernel
theorem dX12_lays_16 : decode cX12_lays 16 = .ok (.iconst 1, 1) := by decide +kernel
theorem dX12_lays_17 : decode cX12_lays 17 = .ok (.iadd, 1) := by decide +kernel
theorem dX12_lays_18 : decode cX12_lays 18 = .ok (.putfield 449, 3) := by decide +kernel
theorem dX12_lays_21 : decode cX12_lays 21 = .ok (.return_, 1) := by decide +kernel
theorem dX12_spells_0 : decode cX12_spells 0 = .ok (.bipush 56, 2) := by decide +kernel
theorem dX12_spells_2 : decode cX12_spells 2 = .ok (.istore_n 3, 1) := by decide +kernel
theorem dX12_spells_3 : decode cX12_spells 3 = .ok (.iload_n 3, 1) := by decide +kernel
theorem dX12_spells_4 : decode cX12_spells 4 = .ok (.ifCond .lt 33, 3) := by decide +kernel
theorem dX12_spells_7 : decode cX12_spells 7 = .ok (.lload_n 1, 1) := by decide +kernel
theorem dX12_spells_8 : decode cX12_spells 8 = .ok (.iload_n 3, 1) := by decide +kernel
theorem dX12_spells_9 : decode cX12_spells 9 = .ok (.lshr, 1) := by decide +kernel
theorem dX12_spells_10 : decode cX12_spells 10 = .ok (.ldc2_w 452, 3) := by decide +kernel
theorem dX12_spells_13 : decode cX12_spells 13 = .ok (.land, 1) := by decide +kernel
theorem dX12_spells_14 : decode cX12_spells 14 = .ok (.lconst 0, 1) := by decide +kernel
theorem dX12_spells_15 : decode cX12_spells 15 = .ok (.lcmp, 1) := by decide +kernel
theorem dX12_spells_16 : decode cX12_spells 16 = .ok (.ifCond .eq 15, 3) := by decide +kernel
theorem dX12_spells_19 : decode cX12_spells 19 = .ok (.aload_n 0, 1) := by decide +kernel
theorem dX12_spells_20 : decode cX12_spells 20 = .ok (.lload_n 1, 1) := by decide +kernel
theorem dX12_spells_21 : decode cX12_spells 21 = .ok (.iload_n 3, 1) := by decide +kernel
theorem dX12_spells_22 : decode cX12_spells 22 = .ok (.lshr, 1) := by decide +kernel
theorem dX12_spells_23 : decode cX12_spells 23 = .ok (.ldc2_w 452, 3) := by decide +kernel
theorem dX12_spells_26 : decode cX12_spells 26 = .ok (.land, 1) := by decide +kernel
theorem dX12_spells_27 : decode cX12_spells 27 = .ok (.l2i, 1) := by decide +kernel
theorem dX12_spells_28 : decode cX12_spells 28 = .ok (.invokevirtual 454, 3) := by decide +kernel
theorem dX12_spells_31 : decode cX12_spells 31 = .ok (.iinc 3 (-8), 3) := by decide +kernel
theorem dX12_spells_34 : decode cX12_spells 34 = .ok (.goto (-31), 3) := by decide +kernel
theorem dX12_spells_37 : decode cX12_spells 37 = .ok (.return_, 1) := by decide +kernel
theorem dX12_says_0 : decode cX12_says 0 = .ok (.aload_n 0, 1) := by decide +kernel
theorem dX12_says_1 : decode cX12_says 1 = .ok (.bipush 32, 2) := by decide +kernel
theorem dX12_says_3 : decode cX12_says 3 = .ok (.invokevirtual 454, 3) := by decide +kernel
theorem dX12_says_6 : decode cX12_says 6 = .ok (.aload_n 0, 1) := by decide +kernel
theorem dX12_says_7 : decode cX12_says 7 = .ok (.lload_n 1, 1) := by decide +kernel
theorem dX12_says_8 : decode cX12_says 8 = .ok (.invokevirtual 457, 3) := by decide +kernel
theorem dX12_says_11 : decode cX12_says 11 = .ok (.return_, 1) := by decide +kernel
theorem dX12_tag_0 : decode cX12_tag 0 = .ok (.aload_n 0, 1) := by decide +kernel
theorem dX12_tag_1 : decode cX12_tag 1 = .ok (.iconst 0, 1) := by decide +kernel
theorem dX12_tag_2 : decode cX12_tag 2 = .ok (.putfield 1, 3) := by decide +kernel
theorem dX12_tag_5 : decode cX12_tag 5 = .ok (.aload_n 0, 1) := by decide +kernel
theorem dX12_tag_6 : decode cX12_tag 6 = .ok (.iload_n 1, 1) := by decide +kernel
theorem dX12_tag_7 : decode cX12_tag 7 = .ok (.invokevirtual 335, 3) := by decide +kernel
theorem dX12_tag_10 : decode cX12_tag 10 = .ok (.ifCond .ne 5, 3) := by decide +kernel
theorem dX12_tag_13 : decode cX12_tag 13 = .ok (.iconst (-1), 1) := by decide +kernel
theorem dX12_tag_14 : decode cX12_tag 14 = .ok (.ireturn, 1) := by decide +kernel
theorem dX12_tag_15 : decode cX12_tag 15 = .ok (.aload_n 0, 1) := by decide +kernel
theorem dX12_tag_16 : decode cX12_tag 16 = .ok (.iconst 0, 1) := by decide +kernel
theorem dX12_tag_17 : decode cX12_tag 17 = .ok (.putfield 449, 3) := by decide +kernel
theorem dX12_tag_20 : decode cX12_tag 20 = .ok (.aload_n 0, 1) := by decide +kernel
theorem dX12_tag_21 : decode cX12_tag 21 = .ok (.aload_n 0, 1) := by decide +kernel
theorem dX12_tag_22 : decode cX12_tag 22 = .ok (.getfield 43, 3) := by decide +kernel
theorem dX12_tag_25 : decode cX12_tag 25 = .ok (.bipush 36, 2) := by decide +kernel
theorem dX12_tag_27 : decode cX12_tag 27 = .ok (.iload_n 1, 1) := by decide +kernel
theorem dX12_tag_28 : decode cX12_tag 28 = .ok (.iadd, 1) := by decide +kernel
theorem dX12_tag_29 : decode cX12_tag 29 = .ok (.laload, 1) := by decide +kernel
theorem dX12_tag_30 : decode cX12_tag 30 = .ok (.invokevirtual 457, 3) := by decide +kernel
theorem dX12_tag_33 : decode cX12_tag 33 = .ok (.aload_n 0, 1) := by decide +kernel
theorem dX12_tag_34 : decode cX12_tag 34 = .ok (.getfield 33, 3) := by decide +kernel
theorem dX12_tag_37 : decode cX12_tag 37 = .ok (.sipush 271, 3) := by decide +kernel
theorem dX12_tag_40 : decode cX12_tag 40 = .ok (.iload_n 1, 1) := by decide +kernel
theorem dX12_tag_41 : decode cX12_tag 41 = .ok (.iadd, 1) := by decide +kernel
theorem dX12_tag_42 : decode cX12_tag 42 = .ok (.iaload, 1) := by decide +kernel
theorem dX12_tag_43 : decode cX12_tag 43 = .ok (.ifCond .ne 13, 3) := by decide +kernel
theorem dX12_tag_46 : decode cX12_tag 46 = .ok (.aload_n 0, 1) := by decide +kernel
theorem dX12_tag_47 : decode cX12_tag 47 = .ok (.ldc2_w 150, 3) := by decide +kernel
theorem dX12_tag_50 : decode cX12_tag 50 = .ok (.invokevirtual 461, 3) := by decide +kernel
theorem dX12_tag_53 : decode cX12_tag 53 = .ok (.goto 31, 3) := by decide +kernel
theorem dX12_tag_56 : decode cX12_tag 56 = .ok (.aload_n 0, 1) := by decide +kernel
theorem dX12_tag_57 : decode cX12_tag 57 = .ok (.ldc2_w 156, 3) := by decide +kernel
theorem dX12_tag_60 : decode cX12_tag 60 = .ok (.invokevirtual 461, 3) := by decide +kernel
theorem dX12_tag_63 : decode cX12_tag 63 = .ok (.aload_n 0, 1) := by decide +kernel
theorem dX12_tag_64 : decode cX12_tag 64 = .ok (.aload_n 0, 1) := by decide +kernel
theorem dX12_tag_65 : decode cX12_tag 65 = .ok (.getfield 43, 3) := by decide +kernel
theorem dX12_tag_68 : decode cX12_tag 68 = .ok (.aload_n 0, 1) := by decide +kernel
theorem dX12_tag_69 : decode cX12_tag 69 = .ok (.getfield 33, 3) := by decide +kernel
theorem dX12_tag_72 : decode cX12_tag 72 = .ok (.sipush 271, 3) := by decide +kernel
theorem dX12_tag_75 : decode cX12_tag 75 = .ok (.iload_n 1, 1) := by decide +kernel
theorem dX12_tag_76 : decode cX12_tag 76 = .ok (.iadd, 1) := by decide +kernel
theorem dX12_tag_77 : decode cX12_tag 77 = .ok (.iaload, 1) := by decide +kernel
theorem dX12_tag_78 : decode cX12_tag 78 = .ok (.iconst 1, 1) := by decide +kernel
theorem dX12_tag_79 : decode cX12_tag 79 = .ok (.isub, 1) := by decide +kernel
theorem dX12_tag_80 : decode cX12_tag 80 = .ok (.laload, 1) := by decide +kernel
theorem dX12_tag_81 : decode cX12_tag 81 = .ok (.invokevirtual 461, 3) := by decide +kernel
theorem dX12_tag_84 : decode cX12_tag 84 = .ok (.aload_n 0, 1) := by decide +kernel
theorem dX12_tag_85 : decode cX12_tag 85 = .ok (.getfield 33, 3) := by decide +kernel
theorem dX12_tag_88 : decode cX12_tag 88 = .ok (.sipush 281, 3) := by decide +kernel
theorem dX12_tag_91 : decode cX12_tag 91 = .ok (.iaload, 1) := by decide +kernel
theorem dX12_tag_92 : decode cX12_tag 92 = .ok (.iload_n 1, 1) := by decide +kernel
theorem dX12_tag_93 : decode cX12_tag 93 = .ok (.invokestatic 280, 3) := by decide +kernel
theorem dX12_tag_96 : decode cX12_tag 96 = .ok (.ifCond .eq 13, 3) := by decide +kernel
theorem dX12_tag_99 : decode cX12_tag 99 = .ok (.aload_n 0, 1) := by decide +kernel
theorem dX12_tag_100 : decode cX12_tag 100 = .ok (.ldc2_w 152, 3) := by decide +kernel
theorem dX12_tag_103 : decode cX12_tag 103 = .ok (.invokevirtual 461, 3) := by decide +kernel
theorem dX12_tag_106 : decode cX12_tag 106 = .ok (.goto 25, 3) := by decide +kernel
theorem dX12_tag_109 : decode cX12_tag 109 = .ok (.aload_n 0, 1) := by decide +kernel
theorem dX12_tag_110 : decode cX12_tag 110 = .ok (.getfield 33, 3) := by decide +kernel
theorem dX12_tag_113 : decode cX12_tag 113 = .ok (.sipush 282, 3) := by decide +kernel
theorem dX12_tag_116 : decode cX12_tag 116 = .ok (.iaload, 1) := by decide +kernel
theorem dX12_tag_117 : decode cX12_tag 117 = .ok (.iload_n 1, 1) := by decide +kernel
theorem dX12_tag_118 : decode cX12_tag 118 = .ok (.invokestatic 280, 3) := by decide +kernel
theorem dX12_tag_121 : decode cX12_tag 121 = .ok (.ifCond .eq 10, 3) := by decide +kernel
theorem dX12_tag_124 : decode cX12_tag 124 = .ok (.aload_n 0, 1) := by decide +kernel
theorem dX12_tag_125 : decode cX12_tag 125 = .ok (.ldc2_w 464, 3) := by decide +kernel
theorem dX12_tag_128 : decode cX12_tag 128 = .ok (.invokevirtual 461, 3) := by decide +kernel
theorem dX12_tag_131 : decode cX12_tag 131 = .ok (.aload_n 0, 1) := by decide +kernel
theorem dX12_tag_132 : decode cX12_tag 132 = .ok (.getfield 449, 3) := by decide +kernel
theorem dX12_tag_135 : decode cX12_tag 135 = .ok (.ireturn, 1) := by decide +kernel
theorem dX12_byteAt_0 : decode cX12_byteAt 0 = .ok (.aload_n 0, 1) := by decide +kernel
theorem dX12_byteAt_1 : decode cX12_byteAt 1 = .ok (.iconst 0, 1) := by decide +kernel
theorem dX12_byteAt_2 : decode cX12_byteAt 2 = .ok (.putfield 1, 3) := by decide +kernel
theorem dX12_byteAt_5 : decode cX12_byteAt 5 = .ok (.iload_n 1, 1) := by decide +kernel
theorem dX12_byteAt_6 : decode cX12_byteAt 6 = .ok (.iconst 0, 1) := by decide +kernel
theorem dX12_byteAt_7 : decode cX12_byteAt 7 = .ok (.aload_n 0, 1) := by decide +kernel
theorem dX12_byteAt_8 : decode cX12_byteAt 8 = .ok (.getfield 449, 3) := by decide +kernel
theorem dX12_byteAt_11 : decode cX12_byteAt 11 = .ok (.iconst 1, 1) := by decide +kernel
theorem dX12_byteAt_12 : decode cX12_byteAt 12 = .ok (.isub, 1) := by decide +kernel
theorem dX12_byteAt_13 : decode cX12_byteAt 13 = .ok (.invokestatic 211, 3) := by decide +kernel
theorem dX12_byteAt_16 : decode cX12_byteAt 16 = .ok (.ifCond .eq 12, 3) := by decide +kernel
theorem dX12_byteAt_19 : decode cX12_byteAt 19 = .ok (.aload_n 0, 1) := by decide +kernel
theorem dX12_byteAt_20 : decode cX12_byteAt 20 = .ok (.getfield 80, 3) := by decide +kernel
theorem dX12_byteAt_23 : decode cX12_byteAt 23 = .ok (.iload_n 1, 1) := by decide +kernel
theorem dX12_byteAt_24 : decode cX12_byteAt 24 = .ok (.baload, 1) := by decide +kernel
theorem dX12_byteAt_25 : decode cX12_byteAt 25 = .ok (.goto 4, 3) := by decide +kernel
theorem dX12_byteAt_28 : decode cX12_byteAt 28 = .ok (.iconst (-1), 1) := by decide +kernel
theorem dX12_byteAt_29 : decode cX12_byteAt 29 = .ok (.ireturn, 1) := by decide +kernel
theorem dX12_draw_0 : decode cX12_draw 0 = .ok (.aload_n 0, 1) := by decide +kernel
theorem dX12_draw_1 : decode cX12_draw 1 = .ok (.aload_n 0, 1) := by decide +kernel
theorem dX12_draw_2 : decode cX12_draw 2 = .ok (.getfield 466, 3) := by decide +kernel
theorem dX12_draw_5 : decode cX12_draw 5 = .ok (.ldc_w 469, 3) := by decide +kernel
theorem dX12_draw_8 : decode cX12_draw 8 = .ok (.imul, 1) := by decide +kernel
theorem dX12_draw_9 : decode cX12_draw 9 = .ok (.sipush 12345, 3) := by decide +kernel
theorem dX12_draw_12 : decode cX12_draw 12 = .ok (.iadd, 1) := by decide +kernel
theorem dX12_draw_13 : decode cX12_draw 13 = .ok (.putfield 466, 3) := by decide +kernel
theorem dX12_draw_16 : decode cX12_draw 16 = .ok (.aload_n 0, 1) := by decide +kernel
theorem dX12_draw_17 : decode cX12_draw 17 = .ok (.getfield 466, 3) := by decide +kernel
theorem dX12_draw_20 : decode cX12_draw 20 = .ok (.bipush 8, 2) := by decide +kernel
theorem dX12_draw_22 : decode cX12_draw 22 = .ok (.iushr, 1) := by decide +kernel
theorem dX12_draw_23 : decode cX12_draw 23 = .ok (.iload_n 1, 1) := by decide +kernel
theorem dX12_draw_24 : decode cX12_draw 24 = .ok (.irem, 1) := by decide +kernel
theorem dX12_draw_25 : decode cX12_draw 25 = .ok (.ireturn, 1) := by decide +kernel
theorem dX12_drawTick_0 : decode cX12_drawTick 0 = .ok (.aload_n 0, 1) := by decide +kernel
theorem dX12_drawTick_1 : decode cX12_drawTick 1 = .ok (.iconst 4, 1) := by decide +kernel
theorem dX12_drawTick_2 : decode cX12_drawTick 2 = .ok (.invokevirtual 470, 3) := by decide +kernel
theorem dX12_drawTick_5 : decode cX12_drawTick 5 = .ok (.istore_n 1, 1) := by decide +kernel
theorem dX12_drawTick_6 : decode cX12_drawTick 6 = .ok (.iload_n 1, 1) := by decide +kernel
theorem dX12_drawTick_7 : decode cX12_drawTick 7 = .ok (.iconst 2, 1) := by decide +kernel
theorem dX12_drawTick_8 : decode cX12_drawTick 8 = .ok (.if_icmp .ge 64, 3) := by decide +kernel
theorem dX12_drawTick_11 : decode cX12_drawTick 11 = .ok (.aload_n 0, 1) := by decide +kernel
theorem dX12_drawTick_12 : decode cX12_drawTick 12 = .ok (.getfield 33, 3) := by decide +kernel
theorem dX12_drawTick_15 : decode cX12_drawTick 15 = .ok (.iconst 4, 1) := by decide +kernel
theorem dX12_drawTick_16 : decode cX12_drawTick 16 = .ok (.iaload, 1) := by decide +kernel
theorem dX12_drawTick_17 : decode cX12_drawTick 17 = .ok (.ifCond .le 55, 3) := by decide +kernel
theorem dX12_drawTick_20 : decode cX12_drawTick 20 = .ok (.aload_n 0, 1) := by decide +kernel
theorem dX12_drawTick_21 : decode cX12_drawTick 21 = .ok (.aload_n 0, 1) := by decide +kernel
theorem dX12_drawTick_22 : decode cX12_drawTick 22 = .ok (.getfield 33, 3) := by decide +kernel
theorem dX12_drawTick_25 : decode cX12_drawTick 25 = .ok (.iconst 4, 1) := by decide +kernel
theorem dX12_drawTick_26 : decode cX12_drawTick 26 = .ok (.iaload, 1) := by decide +kernel
theorem dX12_drawTick_27 : decode cX12_drawTick 27 = .ok (.invokevirtual 470, 3) := by decide +kernel
theorem dX12_drawTick_30 : decode cX12_drawTick 30 = .ok (.istore_n 2, 1) := by decide +kernel
theorem dX12_drawTick_31 : decode cX12_drawTick 31 = .ok (.aload_n 0, 1) := by decide +kernel
theorem dX12_drawTick_32 : decode cX12_drawTick 32 = .ok (.getfield 33, 3) := by decide +kernel
theorem dX12_drawTick_35 : decode cX12_drawTick 35 = .ok (.sipush 229, 3) := by decide +kernel
theorem dX12_drawTick_38 : decode cX12_drawTick 38 = .ok (.iload_n 2, 1) := by decide +kernel
theorem dX12_drawTick_39 : decode cX12_drawTick 39 = .ok (.iadd, 1) := by decide +kernel
theorem dX12_drawTick_40 : decode cX12_drawTick 40 = .ok (.iaload, 1) := by decide +kernel
theorem dX12_drawTick_41 : decode cX12_drawTick 41 = .ok (.iconst 1, 1) := by decide +kernel
theorem dX12_drawTick_42 : decode cX12_drawTick 42 = .ok (.if_icmp .ne 11, 3) := by decide +kernel
theorem dX12_drawTick_45 : decode cX12_drawTick 45 = .ok (.aload_n 0, 1) := by decide +kernel
theorem dX12_drawTick_46 : decode cX12_drawTick 46 = .ok (.iload_n 2, 1) := by decide +kernel
theorem dX12_drawTick_47 : decode cX12_drawTick 47 = .ok (.invokevirtual 382, 3) := by decide +kernel
theorem dX12_drawTick_50 : decode cX12_drawTick 50 = .ok (.goto 22, 3) := by decide +kernel
theorem dX12_drawTick_53 : decode cX12_drawTick 53 = .ok (.aload_n 0, 1) := by decide +kernel
theorem dX12_drawTick_54 : decode cX12_drawTick 54 = .ok (.iload_n 2, 1) := by decide +kernel
theorem dX12_drawTick_55 : decode cX12_drawTick 55 = .ok (.invokevirtual 376, 3) := by decide +kernel
theorem dX12_drawTick_58 : decode cX12_drawTick 58 = .ok (.ifCond .ne 14, 3) := by decide +kernel
theorem dX12_drawTick_61 : decode cX12_drawTick 61 = .ok (.aload_n 0, 1) := by decide +kernel
theorem dX12_drawTick_62 : decode cX12_drawTick 62 = .ok (.getfield 33, 3) := by decide +kernel
theorem dX12_drawTick_65 : decode cX12_drawTick 65 = .ok (.sipush 229, 3) := by decide +kernel
theorem dX12_drawTick_68 : decode cX12_drawTick 68 = .ok (.iload_n 2, 1) := by decide +kernel
theorem dX12_drawTick_69 : decode cX12_drawTick 69 = .ok (.iadd, 1) := by decide +kernel
theorem dX12_drawTick_70 : decode cX12_drawTick 70 = .ok (.iconst 1, 1) := by decide +kernel
theorem dX12_drawTick_71 : decode cX12_drawTick 71 = .ok (.iastore, 1) := by decide +kernel
theorem dX12_drawTick_72 : decode cX12_drawTick 72 = .ok (.iload_n 1, 1) := by decide +kernel
theorem dX12_drawTick_73 : decode cX12_drawTick 73 = .ok (.iconst 2, 1) := by decide +kernel
theorem dX12_drawTick_74 : decode cX12_drawTick 74 = .ok (.if_icmp .ne 12, 3) := by decide +kernel
theorem dX12_drawTick_77 : decode cX12_drawTick 77 = .ok (.aload_n 0, 1) := by decide +kernel
theorem dX12_drawTick_78 : decode cX12_drawTick 78 = .ok (.getfield 33, 3) := by decide +kernel
theorem dX12_drawTick_81 : decode cX12_drawTick 81 = .ok (.iconst 1, 1) := by decide +kernel
theorem dX12_drawTick_82 : decode cX12_drawTick 82 = .ok (.iaload, 1) := by decide +kernel
theorem dX12_drawTick_83 : decode cX12_drawTick 83 = .ok (.ifCond .ne 4, 3) := by decide +kernel
theorem dX12_drawTick_86 : decode cX12_drawTick 86 = .ok (.return_, 1) := by decide +kernel
theorem dX12_drawTick_87 : decode cX12_drawTick 87 = .ok (.aload_n 0, 1) := by decide +kernel
theorem dX12_drawTick_88 : decode cX12_drawTick 88 = .ok (.aload_n 0, 1) := by decide +kernel
theorem dX12_drawTick_89 : decode cX12_drawTick 89 = .ok (.getfield 33, 3) := by decide +kernel
theorem dX12_drawTick_92 : decode cX12_drawTick 92 = .ok (.iconst 1, 1) := by decide +kernel
theorem dX12_drawTick_93 : decode cX12_drawTick 93 = .ok (.iaload, 1) := by decide +kernel
theorem dX12_drawTick_94 : decode cX12_drawTick 94 = .ok (.invokevirtual 470, 3) := by decide +kernel
theorem dX12_drawTick_97 : decode cX12_drawTick 97 = .ok (.istore_n 2, 1) := by decide +kernel
theorem dX12_drawTick_98 : decode cX12_drawTick 98 = .ok (.aload_n 0, 1) := by decide +kernel
theorem dX12_drawTick_99 : decode cX12_drawTick 99 = .ok (.iload_n 2, 1) := by decide +kernel
theorem dX12_drawTick_100 : decode cX12_drawTick 100 = .ok (.invokevirtual 385, 3) := by decide +kernel
theorem dX12_drawTick_103 : decode cX12_drawTick 103 = .ok (.ifCond .ne 17, 3) := by decide +kernel
theorem dX12_drawTick_106 : decode cX12_drawTick 106 = .ok (.aload_n 0, 1) := by decide +kernel
theorem dX12_drawTick_107 : decode cX12_drawTick 107 = .ok (.getfield 33, 3) := by decide +kernel
theorem dX12_drawTick_110 : decode cX12_drawTick 110 = .ok (.sipush 228, 3) := by decide +kernel
theorem dX12_drawTick_113 : decode cX12_drawTick 113 = .ok (.dup2, 1) := by decide +kernel
theorem dX12_drawTick_114 : decode cX12_drawTick 114 = .ok (.iaload, 1) := by decide +kernel
theorem dX12_drawTick_115 : decode cX12_drawTick 115 = .ok (.iconst 1, 1) := by decide +kernel
theorem dX12_drawTick_116 : decode cX12_drawTick 116 = .ok (.iload_n 2, 1) := by decide +kernel
theorem dX12_drawTick_117 : decode cX12_drawTick 117 = .ok (.ishl, 1) := by decide +kernel
theorem dX12_drawTick_118 : decode cX12_drawTick 118 = .ok (.ixor, 1) := by decide +kernel
theorem dX12_drawTick_119 : decode cX12_drawTick 119 = .ok (.iastore, 1) := by decide +kernel
theorem dX12_drawTick_120 : decode cX12_drawTick 120 = .ok (.return_, 1) := by decide +kernel
theorem dX12_draws_0 : decode cX12_draws 0 = .ok (.aload_n 0, 1) := by decide +kernel
theorem dX12_draws_1 : decode cX12_draws 1 = .ok (.iload_n 2, 1) := by decide +kernel
theorem dX12_draws_2 : decode cX12_draws 2 = .ok (.putfield 466, 3) := by decide +kernel
theorem dX12_draws_5 : decode cX12_draws 5 = .ok (.iconst 0, 1) := by decide +kernel
theorem dX12_draws_6 : decode cX12_draws 6 = .ok (.istore_n 3, 1) := by decide +kernel
theorem dX12_draws_7 : decode cX12_draws 7 = .ok (.iload_n 3, 1) := by decide +kernel
theorem dX12_draws_8 : decode cX12_draws 8 = .ok (.iload_n 1, 1) := by decide +kernel
theorem dX12_draws_9 : decode cX12_draws 9 = .ok (.if_icmp .ge 32, 3) := by decide +kernel
theorem dX12_draws_12 : decode cX12_draws 12 = .ok (.aload_n 0, 1) := by decide +kernel
theorem dX12_draws_13 : decode cX12_draws 13 = .ok (.getfield 33, 3) := by decide +kernel
theorem dX12_draws_16 : decode cX12_draws 16 = .ok (.sipush 226, 3) := by decide +kernel
theorem dX12_draws_19 : decode cX12_draws 19 = .ok (.iaload, 1) := by decide +kernel
theorem dX12_draws_20 : decode cX12_draws 20 = .ok (.sipush 1000, 3) := by decide +kernel
theorem dX12_draws_23 : decode cX12_draws 23 = .ok (.if_icmp .ge 18, 3) := by decide +kernel
theorem dX12_draws_26 : decode cX12_draws 26 = .ok (.aload_n 0, 1) := by decide +kernel
theorem dX12_draws_27 : decode cX12_draws 27 = .ok (.invokevirtual 473, 3) := by decide +kernel
theorem dX12_draws_30 : decode cX12_draws 30 = .ok (.aload_n 0, 1) := by decide +kernel
theorem dX12_draws_31 : decode cX12_draws 31 = .ok (.invokevirtual 373, 3) := by decide +kernel
theorem dX12_draws_34 : decode cX12_draws 34 = .ok (.pop, 1) := by decide +kernel
theorem dX12_draws_35 : decode cX12_draws 35 = .ok (.iinc 3 1, 3) := by decide +kernel
theorem dX12_draws_38 : decode cX12_draws 38 = .ok (.goto (-31), 3) := by decide +kernel
theorem dX12_draws_41 : decode cX12_draws 41 = .ok (.iload_n 3, 1) := by decide +kernel
theorem dX12_draws_42 : decode cX12_draws 42 = .ok (.ireturn, 1) := by decide +kernel
theorem dX12_drawn_0 : decode cX12_drawn 0 = .ok (.aload_n 0, 1) := by decide +kernel
theorem dX12_drawn_1 : decode cX12_drawn 1 = .ok (.iconst 0, 1) := by decide +kernel
theorem dX12_drawn_2 : decode cX12_drawn 2 = .ok (.putfield 1, 3) := by decide +kernel
theorem dX12_drawn_5 : decode cX12_drawn 5 = .ok (.iload_n 1, 1) := by decide +kernel
theorem dX12_drawn_6 : decode cX12_drawn 6 = .ok (.iconst 1, 1) := by decide +kernel
theorem dX12_drawn_7 : decode cX12_drawn 7 = .ok (.bipush 60, 2) := by decide +kernel
theorem dX12_drawn_9 : decode cX12_drawn 9 = .ok (.invokestatic 211, 3) := by decide +kernel
theorem dX12_drawn_12 : decode cX12_drawn 12 = .ok (.ifCond .ne 5, 3) := by decide +kernel
theorem dX12_drawn_15 : decode cX12_drawn 15 = .ok (.iconst (-1), 1) := by decide +kernel
theorem dX12_drawn_16 : decode cX12_drawn 16 = .ok (.ireturn, 1) := by decide +kernel
theorem dX12_drawn_17 : decode cX12_drawn 17 = .ok (.aload_n 0, 1) := by decide +kernel
theorem dX12_drawn_18 : decode cX12_drawn 18 = .ok (.getfield 33, 3) := by decide +kernel
theorem dX12_drawn_21 : decode cX12_drawn 21 = .ok (.sipush 226, 3) := by decide +kernel
theorem dX12_drawn_24 : decode cX12_drawn 24 = .ok (.iaload, 1) := by decide +kernel
theorem dX12_drawn_25 : decode cX12_drawn 25 = .ok (.sipush 1000, 3) := by decide +kernel
theorem dX12_drawn_28 : decode cX12_drawn 28 = .ok (.if_icmp .ge 7, 3) := by decide +kernel
theorem dX12_drawn_31 : decode cX12_drawn 31 = .ok (.aload_n 0, 1) := by decide +kernel
theorem dX12_drawn_32 : decode cX12_drawn 32 = .ok (.invokevirtual 379, 3) := by decide +kernel
theorem dX12_drawn_35 : decode cX12_drawn 35 = .ok (.aload_n 0, 1) := by decide +kernel
theorem dX12_drawn_36 : decode cX12_drawn 36 = .ok (.iload_n 1, 1) := by decide +kernel
theorem dX12_drawn_37 : decode cX12_drawn 37 = .ok (.iload_n 2, 1) := by decide +kernel
theorem dX12_drawn_38 : decode cX12_drawn 38 = .ok (.invokevirtual 476, 3) := by decide +kernel
theorem dX12_drawn_41 : decode cX12_drawn 41 = .ok (.ireturn, 1) := by decide +kernel
theorem dX12_odds_0 : decode cX12_odds 0 = .ok (.aload_n 0, 1) := by decide +kernel
theorem dX12_odds_1 : decode cX12_odds 1 = .ok (.iconst 0, 1) := by decide +kernel
theorem dX12_odds_2 : decode cX12_odds 2 = .ok (.putfield 1, 3) := by decide +kernel
theorem dX12_odds_5 : decode cX12_odds 5 = .ok (.iload_n 1, 1) := by decide +kernel
theorem dX12_odds_6 : decode cX12_odds 6 = .ok (.iconst 1, 1) := by decide +kernel
theorem dX12_odds_7 : decode cX12_odds 7 = .ok (.bipush 30, 2) := by decide +kernel
theorem dX12_odds_9 : decode cX12_odds 9 = .ok (.invokestatic 211, 3) := by decide +kernel
theorem dX12_odds_12 : decode cX12_odds 12 = .ok (.ifCond .ne 5, 3) := by decide +kernel
theorem dX12_odds_15 : decode cX12_odds 15 = .ok (.iconst (-1), 1) := by decide +kernel
theorem dX12_odds_16 : decode cX12_odds 16 = .ok (.ireturn, 1) := by decide +kernel
theorem dX12_odds_17 : decode cX12_odds 17 = .ok (.aload_n 0, 1) := by decide +kernel
theorem dX12_odds_18 : decode cX12_odds 18 = .ok (.invokevirtual 422, 3) := by decide +kernel
theorem dX12_odds_21 : decode cX12_odds 21 = .ok (.aload_n 0, 1) := by decide +kernel
theorem dX12_odds_22 : decode cX12_odds 22 = .ok (.getfield 33, 3) := by decide +kernel
theorem dX12_odds_25 : decode cX12_odds 25 = .ok (.sipush 227, 3) := by decide +kernel
theorem dX12_odds_28 : decode cX12_odds 28 = .ok (.iaload, 1) := by decide +kernel
theorem dX12_odds_29 : decode cX12_odds 29 = .ok (.istore_n 3, 1) := by decide +kernel
theorem dX12_odds_30 : decode cX12_odds 30 = .ok (.iconst 0, 1) := by decide +kernel
theorem dX12_odds_31 : decode cX12_odds 31 = .ok (.istore 4, 2) := by decide +kernel
theorem dX12_odds_33 : decode cX12_odds 33 = .ok (.iconst 0, 1) := by decide +kernel
theorem dX12_odds_34 : decode cX12_odds 34 = .ok (.istore 5, 2) := by decide +kernel
theorem dX12_odds_36 : decode cX12_odds 36 = .ok (.iload 5, 2) := by decide +kernel
theorem dX12_odds_38 : decode cX12_odds 38 = .ok (.iload_n 1, 1) := by decide +kernel
theorem dX12_odds_39 : decode cX12_odds 39 = .ok (.if_icmp .ge 46, 3) := by decide +kernel
theorem dX12_odds_42 : decode cX12_odds 42 = .ok (.aload_n 0, 1) := by decide +kernel
theorem dX12_odds_43 : decode cX12_odds 43 = .ok (.bipush 40, 2) := by decide +kernel
theorem dX12_odds_45 : decode cX12_odds 45 = .ok (.iload_n 2, 1) := by decide +kernel
theorem dX12_odds_46 : decode cX12_odds 46 = .ok (.iload 5, 2) := by decide +kernel
theorem dX12_odds_48 : decode cX12_odds 48 = .ok (.iadd, 1) := by decide +kernel
theorem dX12_odds_49 : decode cX12_odds 49 = .ok (.invokevirtual 476, 3) := by decide +kernel
theorem dX12_odds_52 : decode cX12_odds 52 = .ok (.pop, 1) := by decide +kernel
theorem dX12_odds_53 : decode cX12_odds 53 = .ok (.iload 4, 2) := by decide +kernel
theorem dX12_odds_55 : decode cX12_odds 55 = .ok (.aload_n 0, 1) := by decide +kernel
theorem dX12_odds_56 : decode cX12_odds 56 = .ok (.getfield 33, 3) := by decide +kernel
theorem dX12_odds_59 : decode cX12_odds 59 = .ok (.sipush 227, 3) := by decide +kernel
theorem dX12_odds_62 : decode cX12_odds 62 = .ok (.iaload, 1) := by decide +kernel
theorem dX12_odds_63 : decode cX12_odds 63 = .ok (.iload_n 3, 1) := by decide +kernel
theorem dX12_odds_64 : decode cX12_odds 64 = .ok (.if_icmp .le 7, 3) := by decide +kernel
theorem dX12_odds_67 : decode cX12_odds 67 = .ok (.iconst 1, 1) := by decide +kernel
theorem dX12_odds_68 : decode cX12_odds 68 = .ok (.goto 4, 3) := by decide +kernel
theorem dX12_odds_71 : decode cX12_odds 71 = .ok (.iconst 0, 1) := by decide +kernel
theorem dX12_odds_72 : decode cX12_odds 72 = .ok (.iadd, 1) := by decide +kernel
theorem dX12_odds_73 : decode cX12_odds 73 = .ok (.istore 4, 2) := by decide +kernel
theorem dX12_odds_75 : decode cX12_odds 75 = .ok (.aload_n 0, 1) := by decide +kernel
theorem dX12_odds_76 : decode cX12_odds 76 = .ok (.invokevirtual 425, 3) := by decide +kernel
theorem dX12_odds_79 : decode cX12_odds 79 = .ok (.iinc 5 1, 3) := by decide +kernel
theorem dX12_odds_82 : decode cX12_odds 82 = .ok (.goto (-46), 3) := by decide +kernel
theorem dX12_odds_85 : decode cX12_odds 85 = .ok (.iload 4, 2) := by decide +kernel
theorem dX12_odds_87 : decode cX12_odds 87 = .ok (.ireturn, 1) := by decide +kernel
theorem dX12_bookLine_0 : decode cX12_bookLine 0 = .ok (.iconst 3, 1) := by decide +kernel
theorem dX12_bookLine_1 : decode cX12_bookLine 1 = .ok (.aload_n 0, 1) := by decide +kernel
theorem dX12_bookLine_2 : decode cX12_bookLine 2 = .ok (.getfield 479, 3) := by decide +kernel
theorem dX12_bookLine_5 : decode cX12_bookLine 5 = .ok (.imul, 1) := by decide +kernel
theorem dX12_bookLine_6 : decode cX12_bookLine 6 = .ok (.istore_n 1, 1) := by decide +kernel
theorem dX12_bookLine_7 : decode cX12_bookLine 7 = .ok (.aload_n 0, 1) := by decide +kernel
theorem dX12_bookLine_8 : decode cX12_bookLine 8 = .ok (.ldc2_w 128, 3) := by decide +kernel
theorem dX12_bookLine_11 : decode cX12_bookLine 11 = .ok (.invokevirtual 233, 3) := by decide +kernel
theorem dX12_bookLine_14 : decode cX12_bookLine 14 = .ok (.ifCond .eq 7, 3) := by decide +kernel
theorem dX12_bookLine_17 : decode cX12_bookLine 17 = .ok (.iconst 0, 1) := by decide +kernel
theorem dX12_bookLine_18 : decode cX12_bookLine 18 = .ok (.goto 74, 3) := by decide +kernel
theorem dX12_bookLine_21 : decode cX12_bookLine 21 = .ok (.aload_n 0, 1) := by decide +kernel
theorem dX12_bookLine_22 : decode cX12_bookLine 22 = .ok (.ldc2_w 130, 3) := by decide +kernel
theorem dX12_bookLine_25 : decode cX12_bookLine 25 = .ok (.invokevirtual 233, 3) := by decide +kernel
theorem dX12_bookLine_28 : decode cX12_bookLine 28 = .ok (.ifCond .eq 7, 3) := by decide +kernel
theorem dX12_bookLine_31 : decode cX12_bookLine 31 = .ok (.iconst 1, 1) := by decide +kernel
theorem dX12_bookLine_32 : decode cX12_bookLine 32 = .ok (.goto 60, 3) := by decide +kernel
theorem dX12_bookLine_35 : decode cX12_bookLine 35 = .ok (.aload_n 0, 1) := by decide +kernel
theorem dX12_bookLine_36 : decode cX12_bookLine 36 = .ok (.ldc2_w 132, 3) := by decide +kernel
theorem dX12_bookLine_39 : decode cX12_bookLine 39 = .ok (.invokevirtual 233, 3) := by decide +kernel
theorem dX12_bookLine_42 : decode cX12_bookLine 42 = .ok (.ifCond .eq 7, 3) := by decide +kernel
theorem dX12_bookLine_45 : decode cX12_bookLine 45 = .ok (.iconst 2, 1) := by decide +kernel
theorem dX12_bookLine_46 : decode cX12_bookLine 46 = .ok (.goto 46, 3) := by decide +kernel
theorem dX12_bookLine_49 : decode cX12_bookLine 49 = .ok (.aload_n 0, 1) := by decide +kernel
theorem dX12_bookLine_50 : decode cX12_bookLine 50 = .ok (.ldc2_w 134, 3) := by decide +kernel
theorem dX12_bookLine_53 : decode cX12_bookLine 53 = .ok (.invokevirtual 233, 3) := by decide +kernel
theorem dX12_bookLine_56 : decode cX12_bookLine 56 = .ok (.ifCond .eq 7, 3) := by decide +kernel
theorem dX12_bookLine_59 : decode cX12_bookLine 59 = .ok (.iconst 3, 1) := by decide +kernel
theorem dX12_bookLine_60 : decode cX12_bookLine 60 = .ok (.goto 32, 3) := by decide +kernel
theorem dX12_bookLine_63 : decode cX12_bookLine 63 = .ok (.aload_n 0, 1) := by decide +kernel
theorem dX12_bookLine_64 : decode cX12_bookLine 64 = .ok (.ldc2_w 140, 3) := by decide +kernel
theorem dX12_bookLine_67 : decode cX12_bookLine 67 = .ok (.invokevirtual 233, 3) := by decide +kernel
theorem dX12_bookLine_70 : decode cX12_bookLine 70 = .ok (.ifCond .eq 7, 3) := by decide +kernel
theorem dX12_bookLine_73 : decode cX12_bookLine 73 = .ok (.iconst 4, 1) := by decide +kernel
theorem dX12_bookLine_74 : decode cX12_bookLine 74 = .ok (.goto 18, 3) := by decide +kernel
theorem dX12_bookLine_77 : decode cX12_bookLine 77 = .ok (.aload_n 0, 1) := by decide +kernel
theorem dX12_bookLine_78 : decode cX12_bookLine 78 = .ok (.ldc2_w 142, 3) := by decide +kernel
theorem dX12_bookLine_81 : decode cX12_bookLine 81 = .ok (.invokevirtual 233, 3) := by decide +kernel
theorem dX12_bookLine_84 : decode cX12_bookLine 84 = .ok (.ifCond .eq 7, 3) := by decide +kernel
theorem dX12_bookLine_87 : decode cX12_bookLine 87 = .ok (.iconst 5, 1) := by decide +kernel
theorem dX12_bookLine_88 : decode cX12_bookLine 88 = .ok (.goto 4, 3) := by decide +kernel
theorem dX12_bookLine_91 : decode cX12_bookLine 91 = .ok (.iconst (-1), 1) := by decide +kernel
theorem dX12_bookLine_92 : decode cX12_bookLine 92 = .ok (.istore_n 2, 1) := by decide +kernel
theorem dX12_bookLine_93 : decode cX12_bookLine 93 = .ok (.iload_n 2, 1) := by decide +kernel
theorem dX12_bookLine_94 : decode cX12_bookLine 94 = .ok (.ifCond .ge 9, 3) := by decide +kernel
theorem dX12_bookLine_97 : decode cX12_bookLine 97 = .ok (.aload_n 0, 1) := by decide +kernel
theorem dX12_bookLine_98 : decode cX12_bookLine 98 = .ok (.iconst 1, 1) := by decide +kernel
theorem dX12_bookLine_99 : decode cX12_bookLine 99 = .ok (.invokevirtual 205, 3) := by decide +kernel
theorem dX12_bookLine_102 : decode cX12_bookLine 102 = .ok (.ireturn, 1) := by decide +kernel
theorem dX12_bookLine_103 : decode cX12_bookLine 103 = .ok (.aload_n 0, 1) := by decide +kernel
theorem dX12_bookLine_104 : decode cX12_bookLine 104 = .ok (.getfield 479, 3) := by decide +kernel
theorem dX12_bookLine_107 : decode cX12_bookLine 107 = .ok (.bipush 40, 2) := by decide +kernel
theorem dX12_bookLine_109 : decode cX12_bookLine 109 = .ok (.if_icmp .ne 9, 3) := by decide +kernel
theorem dX12_bookLine_112 : decode cX12_bookLine 112 = .ok (.aload_n 0, 1) := by decide +kernel
theorem dX12_bookLine_113 : decode cX12_bookLine 113 = .ok (.iconst 4, 1) := by decide +kernel
theorem dX12_bookLine_114 : decode cX12_bookLine 114 = .ok (.invokevirtual 205, 3) := by decide +kernel
theorem dX12_bookLine_117 : decode cX12_bookLine 117 = .ok (.ireturn, 1) := by decide +kernel
theorem dX12_bookLine_118 : decode cX12_bookLine 118 = .ok (.aload_n 0, 1) := by decide +kernel
theorem dX12_bookLine_119 : decode cX12_bookLine 119 = .ok (.invokevirtual 208, 3) := by decide +kernel
theorem dX12_bookLine_122 : decode cX12_bookLine 122 = .ok (.aload_n 0, 1) := by decide +kernel
theorem dX12_bookLine_123 : decode cX12_bookLine 123 = .ok (.getfield 40, 3) := by decide +kernel
theorem dX12_bookLine_126 : decode cX12_bookLine 126 = .ok (.iload_n 1, 1) := by decide +kernel
theorem dX12_bookLine_127 : decode cX12_bookLine 127 = .ok (.iload_n 2, 1) := by decide +kernel
theorem dX12_bookLine_128 : decode cX12_bookLine 128 = .ok (.iastore, 1) := by decide +kernel
theorem dX12_bookLine_129 : decode cX12_bookLine 129 = .ok (.iload_n 2, 1) := by decide +kernel
theorem dX12_bookLine_130 : decode cX12_bookLine 130 = .ok (.iconst 2, 1) := by decide +kernel
theorem dX12_bookLine_131 : decode cX12_bookLine 131 = .ok (.if_icmp .ge 18, 3) := by decide +kernel
theorem dX12_bookLine_134 : decode cX12_bookLine 134 = .ok (.aload_n 0, 1) := by decide +kernel
theorem dX12_bookLine_135 : decode cX12_bookLine 135 = .ok (.bipush 26, 2) := by decide +kernel
theorem dX12_bookLine_137 : decode cX12_bookLine 137 = .ok (.aload_n 0, 1) := by decide +kernel
theorem dX12_bookLine_138 : decode cX12_bookLine 138 = .ok (.getfield 33, 3) := by decide +kernel
theorem dX12_bookLine_141 : decode cX12_bookLine 141 = .ok (.iconst 4, 1) := by decide +kernel
theorem dX12_bookLine_142 : decode cX12_bookLine 142 = .ok (.iaload, 1) := by decide +kernel
theorem dX12_bookLine_143 : decode cX12_bookLine 143 = .ok (.invokevirtual 271, 3) := by decide +kernel
theorem dX12_bookLine_146 : decode cX12_bookLine 146 = .ok (.goto 49, 3) := by decide +kernel
theorem dX12_bookLine_149 : decode cX12_bookLine 149 = .ok (.iload_n 2, 1) := by decide +kernel
theorem dX12_bookLine_150 : decode cX12_bookLine 150 = .ok (.iconst 2, 1) := by decide +kernel
theorem dX12_bookLine_151 : decode cX12_bookLine 151 = .ok (.if_icmp .ne 18, 3) := by decide +kernel
theorem dX12_bookLine_154 : decode cX12_bookLine 154 = .ok (.aload_n 0, 1) := by decide +kernel
theorem dX12_bookLine_155 : decode cX12_bookLine 155 = .ok (.bipush 12, 2) := by decide +kernel
theorem dX12_bookLine_157 : decode cX12_bookLine 157 = .ok (.aload_n 0, 1) := by decide +kernel
theorem dX12_bookLine_158 : decode cX12_bookLine 158 = .ok (.getfield 33, 3) := by decide +kernel
theorem dX12_bookLine_161 : decode cX12_bookLine 161 = .ok (.iconst 1, 1) := by decide +kernel
theorem dX12_bookLine_162 : decode cX12_bookLine 162 = .ok (.iaload, 1) := by decide +kernel
theorem dX12_bookLine_163 : decode cX12_bookLine 163 = .ok (.invokevirtual 271, 3) := by decide +kernel
theorem dX12_bookLine_166 : decode cX12_bookLine 166 = .ok (.goto 29, 3) := by decide +kernel
theorem dX12_bookLine_169 : decode cX12_bookLine 169 = .ok (.iload_n 2, 1) := by decide +kernel
theorem dX12_bookLine_170 : decode cX12_bookLine 170 = .ok (.iconst 5, 1) := by decide +kernel
theorem dX12_bookLine_171 : decode cX12_bookLine 171 = .ok (.if_icmp .ge 17, 3) := by decide +kernel
theorem dX12_bookLine_174 : decode cX12_bookLine 174 = .ok (.aload_n 0, 1) := by decide +kernel
theorem dX12_bookLine_175 : decode cX12_bookLine 175 = .ok (.iconst 0, 1) := by decide +kernel
theorem dX12_bookLine_176 : decode cX12_bookLine 176 = .ok (.aload_n 0, 1) := by decide +kernel
theorem dX12_bookLine_177 : decode cX12_bookLine 177 = .ok (.getfield 33, 3) := by decide +kernel
theorem dX12_bookLine_180 : decode cX12_bookLine 180 = .ok (.iconst 0, 1) := by decide +kernel
theorem dX12_bookLine_181 : decode cX12_bookLine 181 = .ok (.iaload, 1) := by decide +kernel
theorem dX12_bookLine_182 : decode cX12_bookLine 182 = .ok (.invokevirtual 271, 3) := by decide +kernel
theorem dX12_bookLine_185 : decode cX12_bookLine 185 = .ok (.goto 10, 3) := by decide +kernel
theorem dX12_bookLine_188 : decode cX12_bookLine 188 = .ok (.aload_n 0, 1) := by decide +kernel
theorem dX12_bookLine_189 : decode cX12_bookLine 189 = .ok (.iconst 1, 1) := by decide +kernel
theorem dX12_bookLine_190 : decode cX12_bookLine 190 = .ok (.bipush 60, 2) := by decide +kernel
theorem dX12_bookLine_192 : decode cX12_bookLine 192 = .ok (.invokevirtual 218, 3) := by decide +kernel
theorem dX12_bookLine_195 : decode cX12_bookLine 195 = .ok (.istore_n 3, 1) := by decide +kernel
theorem dX12_bookLine_196 : decode cX12_bookLine 196 = .ok (.aload_n 0, 1) := by decide +kernel
theorem dX12_bookLine_197 : decode cX12_bookLine 197 = .ok (.getfield 40, 3) := by decide +kernel
theorem dX12_bookLine_200 : decode cX12_bookLine 200 = .ok (.iload_n 1, 1) := by decide +kernel
theorem dX12_bookLine_201 : decode cX12_bookLine 201 = .ok (.iconst 1, 1) := by decide +kernel
theorem dX12_bookLine_202 : decode cX12_bookLine 202 = .ok (.iadd, 1) := by decide +kernel
theorem dX12_bookLine_203 : decode cX12_bookLine 203 = .ok (.aload_n 0, 1) := by decide +kernel
theorem dX12_bookLine_204 : decode cX12_bookLine 204 = .ok (.getfield 215, 3) := by decide +kernel
theorem dX12_bookLine_207 : decode cX12_bookLine 207 = .ok (.iastore, 1) := by decide +kernel
theorem dX12_bookLine_208 : decode cX12_bookLine 208 = .ok (.iload_n 3, 1) := by decide +kernel
theorem dX12_bookLine_209 : decode cX12_bookLine 209 = .ok (.ifCond .eq 8, 3) := by decide +kernel
theorem dX12_bookLine_212 : decode cX12_bookLine 212 = .ok (.iload_n 2, 1) := by decide +kernel
theorem dX12_bookLine_213 : decode cX12_bookLine 213 = .ok (.iconst 3, 1) := by decide +kernel
theorem dX12_bookLine_214 : decode cX12_bookLine 214 = .ok (.if_icmp .eq 5, 3) := by decide +kernel
theorem dX12_bookLine_217 : decode cX12_bookLine 217 = .ok (.iload_n 3, 1) := by decide +kernel
theorem dX12_bookLine_218 : decode cX12_bookLine 218 = .ok (.ireturn, 1) := by decide +kernel
theorem dX12_bookLine_219 : decode cX12_bookLine 219 = .ok (.aload_n 0, 1) := by decide +kernel
theorem dX12_bookLine_220 : decode cX12_bookLine 220 = .ok (.ldc2_w 138, 3) := by decide +kernel
theorem dX12_bookLine_223 : decode cX12_bookLine 223 = .ok (.invokevirtual 233, 3) := by decide +kernel
theorem dX12_bookLine_226 : decode cX12_bookLine 226 = .ok (.istore 4, 2) := by decide +kernel
theorem dX12_bookLine_228 : decode cX12_bookLine 228 = .ok (.iload 4, 2) := by decide +kernel
theorem dX12_bookLine_230 : decode cX12_bookLine 230 = .ok (.ifCond .ne 19, 3) := by decide +kernel
theorem dX12_bookLine_233 : decode cX12_bookLine 233 = .ok (.aload_n 0, 1) := by decide +kernel
theorem dX12_bookLine_234 : decode cX12_bookLine 234 = .ok (.ldc2_w 136, 3) := by decide +kernel
