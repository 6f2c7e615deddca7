theorem dX5_mostTogether_20 : decode cX5_mostTogether 20 = .ok (.iload_n 1, 1) := by decide +kernel
theorem dX5_mostTogether_21 : decode cX5_mostTogether 21 = .ok (.invokestatic 108, 3) := by decide +kernel
theorem dX5_mostTogether_24 : decode cX5_mostTogether 24 = .ok (.if_icmp .le 13, 3) := by decide +kernel
theorem dX5_mostTogether_27 : decode cX5_mostTogether 27 = .ok (.aload_n 0, 1) := by decide +kernel
theorem dX5_mostTogether_28 : decode cX5_mostTogether 28 = .ok (.iload_n 2, 1) := by decide +kernel
theorem dX5_mostTogether_29 : decode cX5_mostTogether 29 = .ok (.invokevirtual 113, 3) := by decide +kernel
theorem dX5_mostTogether_32 : decode cX5_mostTogether 32 = .ok (.ifCond .eq 5, 3) := by decide +kernel
theorem dX5_mostTogether_35 : decode cX5_mostTogether 35 = .ok (.iload_n 2, 1) := by decide +kernel
theorem dX5_mostTogether_36 : decode cX5_mostTogether 36 = .ok (.istore_n 1, 1) := by decide +kernel
theorem dX5_mostTogether_37 : decode cX5_mostTogether 37 = .ok (.iinc 2 1, 3) := by decide +kernel
theorem dX5_mostTogether_40 : decode cX5_mostTogether 40 = .ok (.goto (-36), 3) := by decide +kernel
theorem dX5_mostTogether_43 : decode cX5_mostTogether 43 = .ok (.iload_n 1, 1) := by decide +kernel
theorem dX5_mostTogether_44 : decode cX5_mostTogether 44 = .ok (.ireturn, 1) := by decide +kernel
theorem dX5_isPeaceful_0 : decode cX5_isPeaceful 0 = .ok (.iconst 0, 1) := by decide +kernel
theorem dX5_isPeaceful_1 : decode cX5_isPeaceful 1 = .ok (.istore_n 2, 1) := by decide +kernel
theorem dX5_isPeaceful_2 : decode cX5_isPeaceful 2 = .ok (.iload_n 2, 1) := by decide +kernel
theorem dX5_isPeaceful_3 : decode cX5_isPeaceful 3 = .ok (.aload_n 0, 1) := by decide +kernel
theorem dX5_isPeaceful_4 : decode cX5_isPeaceful 4 = .ok (.getfield 9, 3) := by decide +kernel
theorem dX5_isPeaceful_7 : decode cX5_isPeaceful 7 = .ok (.iconst 4, 1) := by decide +kernel
theorem dX5_isPeaceful_8 : decode cX5_isPeaceful 8 = .ok (.iaload, 1) := by decide +kernel
theorem dX5_isPeaceful_9 : decode cX5_isPeaceful 9 = .ok (.if_icmp .ge 31, 3) := by decide +kernel
theorem dX5_isPeaceful_12 : decode cX5_isPeaceful 12 = .ok (.iload_n 1, 1) := by decide +kernel
theorem dX5_isPeaceful_13 : decode cX5_isPeaceful 13 = .ok (.iload_n 2, 1) := by decide +kernel
theorem dX5_isPeaceful_14 : decode cX5_isPeaceful 14 = .ok (.ishr, 1) := by decide +kernel
theorem dX5_isPeaceful_15 : decode cX5_isPeaceful 15 = .ok (.iconst 1, 1) := by decide +kernel
theorem dX5_isPeaceful_16 : decode cX5_isPeaceful 16 = .ok (.iand, 1) := by decide +kernel
theorem dX5_isPeaceful_17 : decode cX5_isPeaceful 17 = .ok (.iconst 1, 1) := by decide +kernel
theorem dX5_isPeaceful_18 : decode cX5_isPeaceful 18 = .ok (.if_icmp .ne 16, 3) := by decide +kernel
theorem dX5_isPeaceful_21 : decode cX5_isPeaceful 21 = .ok (.aload_n 0, 1) := by decide +kernel
theorem dX5_isPeaceful_22 : decode cX5_isPeaceful 22 = .ok (.getfield 64, 3) := by decide +kernel
theorem dX5_isPeaceful_25 : decode cX5_isPeaceful 25 = .ok (.iload_n 2, 1) := by decide +kernel
theorem dX5_isPeaceful_26 : decode cX5_isPeaceful 26 = .ok (.iaload, 1) := by decide +kernel
theorem dX5_isPeaceful_27 : decode cX5_isPeaceful 27 = .ok (.iload_n 1, 1) := by decide +kernel
theorem dX5_isPeaceful_28 : decode cX5_isPeaceful 28 = .ok (.iand, 1) := by decide +kernel
theorem dX5_isPeaceful_29 : decode cX5_isPeaceful 29 = .ok (.ifCond .eq 5, 3) := by decide +kernel
theorem dX5_isPeaceful_32 : decode cX5_isPeaceful 32 = .ok (.iconst 0, 1) := by decide +kernel
theorem dX5_isPeaceful_33 : decode cX5_isPeaceful 33 = .ok (.ireturn, 1) := by decide +kernel
theorem dX5_isPeaceful_34 : decode cX5_isPeaceful 34 = .ok (.iinc 2 1, 3) := by decide +kernel
theorem dX5_isPeaceful_37 : decode cX5_isPeaceful 37 = .ok (.goto (-35), 3) := by decide +kernel
theorem dX5_isPeaceful_40 : decode cX5_isPeaceful 40 = .ok (.iconst 1, 1) := by decide +kernel
theorem dX5_isPeaceful_41 : decode cX5_isPeaceful 41 = .ok (.ireturn, 1) := by decide +kernel
theorem dX6_init_0 : decode cX6_init 0 = .ok (.aload_n 0, 1) := by decide +kernel
theorem dX6_init_1 : decode cX6_init 1 = .ok (.invokespecial 3, 3) := by decide +kernel
theorem dX6_init_4 : decode cX6_init 4 = .ok (.aload_n 0, 1) := by decide +kernel
theorem dX6_init_5 : decode cX6_init 5 = .ok (.new 9, 3) := by decide +kernel
theorem dX6_init_8 : decode cX6_init 8 = .ok (.dup, 1) := by decide +kernel
theorem dX6_init_9 : decode cX6_init 9 = .ok (.invokespecial 11, 3) := by decide +kernel
theorem dX6_init_12 : decode cX6_init 12 = .ok (.putfield 12, 3) := by decide +kernel
theorem dX6_init_15 : decode cX6_init 15 = .ok (.aload_n 0, 1) := by decide +kernel
theorem dX6_init_16 : decode cX6_init 16 = .ok (.iconst 0, 1) := by decide +kernel
theorem dX6_init_17 : decode cX6_init 17 = .ok (.putfield 18, 3) := by decide +kernel
theorem dX6_init_20 : decode cX6_init 20 = .ok (.aload_n 0, 1) := by decide +kernel
theorem dX6_init_21 : decode cX6_init 21 = .ok (.iconst 0, 1) := by decide +kernel
theorem dX6_init_22 : decode cX6_init 22 = .ok (.putfield 22, 3) := by decide +kernel
theorem dX6_init_25 : decode cX6_init 25 = .ok (.return_, 1) := by decide +kernel
theorem dX6_readPlan_0 : decode cX6_readPlan 0 = .ok (.aload_n 1, 1) := by decide +kernel
theorem dX6_readPlan_1 : decode cX6_readPlan 1 = .ok (.sipush 1400, 3) := by decide +kernel
theorem dX6_readPlan_4 : decode cX6_readPlan 4 = .ok (.invokevirtual 26, 3) := by decide +kernel
theorem dX6_readPlan_7 : decode cX6_readPlan 7 = .ok (.aload_n 0, 1) := by decide +kernel
theorem dX6_readPlan_8 : decode cX6_readPlan 8 = .ok (.getfield 12, 3) := by decide +kernel
theorem dX6_readPlan_11 : decode cX6_readPlan 11 = .ok (.invokevirtual 32, 3) := by decide +kernel
theorem dX6_readPlan_14 : decode cX6_readPlan 14 = .ok (.aload_n 0, 1) := by decide +kernel
theorem dX6_readPlan_15 : decode cX6_readPlan 15 = .ok (.iconst 0, 1) := by decide +kernel
theorem dX6_readPlan_16 : decode cX6_readPlan 16 = .ok (.putfield 18, 3) := by decide +kernel
theorem dX6_readPlan_19 : decode cX6_readPlan 19 = .ok (.aload_n 0, 1) := by decide +kernel
theorem dX6_readPlan_20 : decode cX6_readPlan 20 = .ok (.iconst 0, 1) := by decide +kernel
theorem dX6_readPlan_21 : decode cX6_readPlan 21 = .ok (.putfield 22, 3) := by decide +kernel
theorem dX6_readPlan_24 : decode cX6_readPlan 24 = .ok (.aload_n 1, 1) := by decide +kernel
theorem dX6_readPlan_25 : decode cX6_readPlan 25 = .ok (.invokevirtual 35, 3) := by decide +kernel
theorem dX6_readPlan_28 : decode cX6_readPlan 28 = .ok (.aload_n 1, 1) := by decide +kernel
theorem dX6_readPlan_29 : decode cX6_readPlan 29 = .ok (.getfield 38, 3) := by decide +kernel
theorem dX6_readPlan_32 : decode cX6_readPlan 32 = .ok (.ifCond .eq 49, 3) := by decide +kernel
theorem dX6_readPlan_35 : decode cX6_readPlan 35 = .ok (.aload_n 0, 1) := by decide +kernel
theorem dX6_readPlan_36 : decode cX6_readPlan 36 = .ok (.getfield 18, 3) := by decide +kernel
theorem dX6_readPlan_39 : decode cX6_readPlan 39 = .ok (.sipush 1400, 3) := by decide +kernel
theorem dX6_readPlan_42 : decode cX6_readPlan 42 = .ok (.if_icmp .gt 39, 3) := by decide +kernel
theorem dX6_readPlan_45 : decode cX6_readPlan 45 = .ok (.aload_n 0, 1) := by decide +kernel
theorem dX6_readPlan_46 : decode cX6_readPlan 46 = .ok (.aload_n 1, 1) := by decide +kernel
theorem dX6_readPlan_47 : decode cX6_readPlan 47 = .ok (.invokevirtual 41, 3) := by decide +kernel
theorem dX6_readPlan_50 : decode cX6_readPlan 50 = .ok (.ifCond .eq 12, 3) := by decide +kernel
theorem dX6_readPlan_53 : decode cX6_readPlan 53 = .ok (.aload_n 1, 1) := by decide +kernel
theorem dX6_readPlan_54 : decode cX6_readPlan 54 = .ok (.bipush 59, 2) := by decide +kernel
theorem dX6_readPlan_56 : decode cX6_readPlan 56 = .ok (.invokevirtual 45, 3) := by decide +kernel
theorem dX6_readPlan_59 : decode cX6_readPlan 59 = .ok (.ifCond .ne 5, 3) := by decide +kernel
theorem dX6_readPlan_62 : decode cX6_readPlan 62 = .ok (.iconst 0, 1) := by decide +kernel
theorem dX6_readPlan_63 : decode cX6_readPlan 63 = .ok (.ireturn, 1) := by decide +kernel
theorem dX6_readPlan_64 : decode cX6_readPlan 64 = .ok (.aload_n 0, 1) := by decide +kernel
theorem dX6_readPlan_65 : decode cX6_readPlan 65 = .ok (.dup, 1) := by decide +kernel
theorem dX6_readPlan_66 : decode cX6_readPlan 66 = .ok (.getfield 18, 3) := by decide +kernel
theorem dX6_readPlan_69 : decode cX6_readPlan 69 = .ok (.iconst 1, 1) := by decide +kernel
theorem dX6_readPlan_70 : decode cX6_readPlan 70 = .ok (.iadd, 1) := by decide +kernel
theorem dX6_readPlan_71 : decode cX6_readPlan 71 = .ok (.putfield 18, 3) := by decide +kernel
theorem dX6_readPlan_74 : decode cX6_readPlan 74 = .ok (.aload_n 1, 1) := by decide +kernel
theorem dX6_readPlan_75 : decode cX6_readPlan 75 = .ok (.invokevirtual 35, 3) := by decide +kernel
theorem dX6_readPlan_78 : decode cX6_readPlan 78 = .ok (.goto (-50), 3) := by decide +kernel
theorem dX6_readPlan_81 : decode cX6_readPlan 81 = .ok (.aload_n 0, 1) := by decide +kernel
theorem dX6_readPlan_82 : decode cX6_readPlan 82 = .ok (.getfield 12, 3) := by decide +kernel
theorem dX6_readPlan_85 : decode cX6_readPlan 85 = .ok (.invokevirtual 49, 3) := by decide +kernel
theorem dX6_readPlan_88 : decode cX6_readPlan 88 = .ok (.iconst 1, 1) := by decide +kernel
theorem dX6_readPlan_89 : decode cX6_readPlan 89 = .ok (.ireturn, 1) := by decide +kernel
theorem dX6_readLine_0 : decode cX6_readLine 0 = .ok (.aload_n 1, 1) := by decide +kernel
theorem dX6_readLine_1 : decode cX6_readLine 1 = .ok (.getfield 52, 3) := by decide +kernel
theorem dX6_readLine_4 : decode cX6_readLine 4 = .ok (.tableswitch 106 0 8 #[52, 58, 64, 70, 76, 82, 88, 94, 100], 52) := by decide +kernel
theorem dX6_readLine_56 : decode cX6_readLine 56 = .ok (.aload_n 0, 1) := by decide +kernel
theorem dX6_readLine_57 : decode cX6_readLine 57 = .ok (.aload_n 1, 1) := by decide +kernel
theorem dX6_readLine_58 : decode cX6_readLine 58 = .ok (.invokevirtual 55, 3) := by decide +kernel
theorem dX6_readLine_61 : decode cX6_readLine 61 = .ok (.ireturn, 1) := by decide +kernel
theorem dX6_readLine_62 : decode cX6_readLine 62 = .ok (.aload_n 0, 1) := by decide +kernel
theorem dX6_readLine_63 : decode cX6_readLine 63 = .ok (.aload_n 1, 1) := by decide +kernel
theorem dX6_readLine_64 : decode cX6_readLine 64 = .ok (.invokevirtual 58, 3) := by decide +kernel
theorem dX6_readLine_67 : decode cX6_readLine 67 = .ok (.ireturn, 1) := by decide +kernel
theorem dX6_readLine_68 : decode cX6_readLine 68 = .ok (.aload_n 0, 1) := by decide +kernel
theorem dX6_readLine_69 : decode cX6_readLine 69 = .ok (.aload_n 1, 1) := by decide +kernel
theorem dX6_readLine_70 : decode cX6_readLine 70 = .ok (.invokevirtual 61, 3) := by decide +kernel
theorem dX6_readLine_73 : decode cX6_readLine 73 = .ok (.ireturn, 1) := by decide +kernel
theorem dX6_readLine_74 : decode cX6_readLine 74 = .ok (.aload_n 0, 1) := by decide +kernel
theorem dX6_readLine_75 : decode cX6_readLine 75 = .ok (.aload_n 1, 1) := by decide +kernel
theorem dX6_readLine_76 : decode cX6_readLine 76 = .ok (.invokevirtual 64, 3) := by decide +kernel
theorem dX6_readLine_79 : decode cX6_readLine 79 = .ok (.ireturn, 1) := by decide +kernel
theorem dX6_readLine_80 : decode cX6_readLine 80 = .ok (.aload_n 0, 1) := by decide +kernel
theorem dX6_readLine_81 : decode cX6_readLine 81 = .ok (.aload_n 1, 1) := by decide +kernel
theorem dX6_readLine_82 : decode cX6_readLine 82 = .ok (.invokevirtual 67, 3) := by decide +kernel
theorem dX6_readLine_85 : decode cX6_readLine 85 = .ok (.ireturn, 1) := by decide +kernel
theorem dX6_readLine_86 : decode cX6_readLine 86 = .ok (.aload_n 0, 1) := by decide +kernel
theorem dX6_readLine_87 : decode cX6_readLine 87 = .ok (.aload_n 1, 1) := by decide +kernel
theorem dX6_readLine_88 : decode cX6_readLine 88 = .ok (.invokevirtual 70, 3) := by decide +kernel
theorem dX6_readLine_91 : decode cX6_readLine 91 = .ok (.ireturn, 1) := by decide +kernel
theorem dX6_readLine_92 : decode cX6_readLine 92 = .ok (.aload_n 0, 1) := by decide +kernel
theorem dX6_readLine_93 : decode cX6_readLine 93 = .ok (.aload_n 1, 1) := by decide +kernel
theorem dX6_readLine_94 : decode cX6_readLine 94 = .ok (.invokevirtual 73, 3) := by decide +kernel
theorem dX6_readLine_97 : decode cX6_readLine 97 = .ok (.ireturn, 1) := by decide +kernel
theorem dX6_readLine_98 : decode cX6_readLine 98 = .ok (.aload_n 0, 1) := by decide +kernel
theorem dX6_readLine_99 : decode cX6_readLine 99 = .ok (.aload_n 1, 1) := by decide +kernel
theorem dX6_readLine_100 : decode cX6_readLine 100 = .ok (.invokevirtual 76, 3) := by decide +kernel
theorem dX6_readLine_103 : decode cX6_readLine 103 = .ok (.ireturn, 1) := by decide +kernel
theorem dX6_readLine_104 : decode cX6_readLine 104 = .ok (.aload_n 0, 1) := by decide +kernel
theorem dX6_readLine_105 : decode cX6_readLine 105 = .ok (.aload_n 1, 1) := by decide +kernel
theorem dX6_readLine_106 : decode cX6_readLine 106 = .ok (.invokevirtual 79, 3) := by decide +kernel
theorem dX6_readLine_109 : decode cX6_readLine 109 = .ok (.ireturn, 1) := by decide +kernel
theorem dX6_readLine_110 : decode cX6_readLine 110 = .ok (.aload_n 1, 1) := by decide +kernel
theorem dX6_readLine_111 : decode cX6_readLine 111 = .ok (.iconst 1, 1) := by decide +kernel
theorem dX6_readLine_112 : decode cX6_readLine 112 = .ok (.invokevirtual 82, 3) := by decide +kernel
theorem dX6_readLine_115 : decode cX6_readLine 115 = .ok (.ireturn, 1) := by decide +kernel
theorem dX6_hasRoom_0 : decode cX6_hasRoom 0 = .ok (.aload_n 0, 1) := by decide +kernel
theorem dX6_hasRoom_1 : decode cX6_hasRoom 1 = .ok (.getfield 12, 3) := by decide +kernel
theorem dX6_hasRoom_4 : decode cX6_hasRoom 4 = .ok (.getfield 86, 3) := by decide +kernel
theorem dX6_hasRoom_7 : decode cX6_hasRoom 7 = .ok (.iload_n 2, 1) := by decide +kernel
theorem dX6_hasRoom_8 : decode cX6_hasRoom 8 = .ok (.iaload, 1) := by decide +kernel
theorem dX6_hasRoom_9 : decode cX6_hasRoom 9 = .ok (.iload_n 3, 1) := by decide +kernel
theorem dX6_hasRoom_10 : decode cX6_hasRoom 10 = .ok (.if_icmp .lt 11, 3) := by decide +kernel
theorem dX6_hasRoom_13 : decode cX6_hasRoom 13 = .ok (.aload_n 1, 1) := by decide +kernel
theorem dX6_hasRoom_14 : decode cX6_hasRoom 14 = .ok (.iconst 4, 1) := by decide +kernel
theorem dX6_hasRoom_15 : decode cX6_hasRoom 15 = .ok (.invokevirtual 82, 3) := by decide +kernel
theorem dX6_hasRoom_18 : decode cX6_hasRoom 18 = .ok (.ifCond .eq 7, 3) := by decide +kernel
theorem dX6_hasRoom_21 : decode cX6_hasRoom 21 = .ok (.iconst 1, 1) := by decide +kernel
theorem dX6_hasRoom_22 : decode cX6_hasRoom 22 = .ok (.goto 4, 3) := by decide +kernel
theorem dX6_hasRoom_25 : decode cX6_hasRoom 25 = .ok (.iconst 0, 1) := by decide +kernel
theorem dX6_hasRoom_26 : decode cX6_hasRoom 26 = .ok (.ireturn, 1) := by decide +kernel
theorem dX6_goOn_0 : decode cX6_goOn 0 = .ok (.aload_n 0, 1) := by decide +kernel
theorem dX6_goOn_1 : decode cX6_goOn 1 = .ok (.invokevirtual 35, 3) := by decide +kernel
theorem dX6_goOn_4 : decode cX6_goOn 4 = .ok (.iconst 1, 1) := by decide +kernel
theorem dX6_goOn_5 : decode cX6_goOn 5 = .ok (.ireturn, 1) := by decide +kernel
theorem dX6_readSection_0 : decode cX6_readSection 0 = .ok (.aload_n 0, 1) := by decide +kernel
theorem dX6_readSection_1 : decode cX6_readSection 1 = .ok (.aload_n 1, 1) := by decide +kernel
theorem dX6_readSection_2 : decode cX6_readSection 2 = .ok (.iconst 0, 1) := by decide +kernel
theorem dX6_readSection_3 : decode cX6_readSection 3 = .ok (.bipush 12, 2) := by decide +kernel
theorem dX6_readSection_5 : decode cX6_readSection 5 = .ok (.invokevirtual 90, 3) := by decide +kernel
theorem dX6_readSection_8 : decode cX6_readSection 8 = .ok (.ifCond .eq 14, 3) := by decide +kernel
theorem dX6_readSection_11 : decode cX6_readSection 11 = .ok (.aload_n 1, 1) := by decide +kernel
theorem dX6_readSection_12 : decode cX6_readSection 12 = .ok (.aload_n 0, 1) := by decide +kernel
theorem dX6_readSection_13 : decode cX6_readSection 13 = .ok (.getfield 12, 3) := by decide +kernel
theorem dX6_readSection_16 : decode cX6_readSection 16 = .ok (.invokevirtual 94, 3) := by decide +kernel
theorem dX6_readSection_19 : decode cX6_readSection 19 = .ok (.ifCond .ne 5, 3) := by decide +kernel
theorem dX6_readSection_22 : decode cX6_readSection 22 = .ok (.iconst 0, 1) := by decide +kernel
theorem dX6_readSection_23 : decode cX6_readSection 23 = .ok (.ireturn, 1) := by decide +kernel
theorem dX6_readSection_24 : decode cX6_readSection 24 = .ok (.aload_n 1, 1) := by decide +kernel
theorem dX6_readSection_25 : decode cX6_readSection 25 = .ok (.getfield 98, 3) := by decide +kernel
theorem dX6_readSection_28 : decode cX6_readSection 28 = .ok (.lstore_n 2, 1) := by decide +kernel
theorem dX6_readSection_29 : decode cX6_readSection 29 = .ok (.aload_n 1, 1) := by decide +kernel
theorem dX6_readSection_30 : decode cX6_readSection 30 = .ok (.iconst 1, 1) := by decide +kernel
theorem dX6_readSection_31 : decode cX6_readSection 31 = .ok (.bipush 30, 2) := by decide +kernel
theorem dX6_readSection_33 : decode cX6_readSection 33 = .ok (.invokevirtual 102, 3) := by decide +kernel
theorem dX6_readSection_36 : decode cX6_readSection 36 = .ok (.istore 4, 2) := by decide +kernel
theorem dX6_readSection_38 : decode cX6_readSection 38 = .ok (.iload 4, 2) := by decide +kernel
theorem dX6_readSection_40 : decode cX6_readSection 40 = .ok (.iconst (-1), 1) := by decide +kernel
theorem dX6_readSection_41 : decode cX6_readSection 41 = .ok (.if_icmp .ne 5, 3) := by decide +kernel
theorem dX6_readSection_44 : decode cX6_readSection 44 = .ok (.iconst 0, 1) := by decide +kernel
theorem dX6_readSection_45 : decode cX6_readSection 45 = .ok (.ireturn, 1) := by decide +kernel
theorem dX6_readSection_46 : decode cX6_readSection 46 = .ok (.aload_n 0, 1) := by decide +kernel
theorem dX6_readSection_47 : decode cX6_readSection 47 = .ok (.getfield 12, 3) := by decide +kernel
theorem dX6_readSection_50 : decode cX6_readSection 50 = .ok (.getfield 106, 3) := by decide +kernel
theorem dX6_readSection_53 : decode cX6_readSection 53 = .ok (.aload_n 0, 1) := by decide +kernel
theorem dX6_readSection_54 : decode cX6_readSection 54 = .ok (.getfield 12, 3) := by decide +kernel
theorem dX6_readSection_57 : decode cX6_readSection 57 = .ok (.iconst 0, 1) := by decide +kernel
theorem dX6_readSection_58 : decode cX6_readSection 58 = .ok (.lload_n 2, 1) := by decide +kernel
theorem dX6_readSection_59 : decode cX6_readSection 59 = .ok (.invokevirtual 109, 3) := by decide +kernel
theorem dX6_readSection_62 : decode cX6_readSection 62 = .ok (.iload 4, 2) := by decide +kernel
theorem dX6_readSection_64 : decode cX6_readSection 64 = .ok (.iastore, 1) := by decide +kernel
theorem dX6_readSection_65 : decode cX6_readSection 65 = .ok (.aload_n 1, 1) := by decide +kernel
theorem dX6_readSection_66 : decode cX6_readSection 66 = .ok (.invokestatic 113, 3) := by decide +kernel
theorem dX6_readSection_69 : decode cX6_readSection 69 = .ok (.ireturn, 1) := by decide +kernel
theorem dX6_readPoints_0 : decode cX6_readPoints 0 = .ok (.aload_n 0, 1) := by decide +kernel
theorem dX6_readPoints_1 : decode cX6_readPoints 1 = .ok (.aload_n 1, 1) := by decide +kernel
theorem dX6_readPoints_2 : decode cX6_readPoints 2 = .ok (.iconst 1, 1) := by decide +kernel
theorem dX6_readPoints_3 : decode cX6_readPoints 3 = .ok (.bipush 6, 2) := by decide +kernel
theorem dX6_readPoints_5 : decode cX6_readPoints 5 = .ok (.invokevirtual 90, 3) := by decide +kernel
theorem dX6_readPoints_8 : decode cX6_readPoints 8 = .ok (.ifCond .eq 14, 3) := by decide +kernel
theorem dX6_readPoints_11 : decode cX6_readPoints 11 = .ok (.aload_n 1, 1) := by decide +kernel
theorem dX6_readPoints_12 : decode cX6_readPoints 12 = .ok (.aload_n 0, 1) := by decide +kernel
theorem dX6_readPoints_13 : decode cX6_readPoints 13 = .ok (.getfield 12, 3) := by decide +kernel
theorem dX6_readPoints_16 : decode cX6_readPoints 16 = .ok (.invokevirtual 94, 3) := by decide +kernel
theorem dX6_readPoints_19 : decode cX6_readPoints 19 = .ok (.ifCond .ne 5, 3) := by decide +kernel
theorem dX6_readPoints_22 : decode cX6_readPoints 22 = .ok (.iconst 0, 1) := by decide +kernel
theorem dX6_readPoints_23 : decode cX6_readPoints 23 = .ok (.ireturn, 1) := by decide +kernel
theorem dX6_readPoints_24 : decode cX6_readPoints 24 = .ok (.aload_n 1, 1) := by decide +kernel
theorem dX6_readPoints_25 : decode cX6_readPoints 25 = .ok (.getfield 98, 3) := by decide +kernel
theorem dX6_readPoints_28 : decode cX6_readPoints 28 = .ok (.lstore_n 2, 1) := by decide +kernel
theorem dX6_readPoints_29 : decode cX6_readPoints 29 = .ok (.aload_n 1, 1) := by decide +kernel
theorem dX6_readPoints_30 : decode cX6_readPoints 30 = .ok (.aload_n 0, 1) := by decide +kernel
theorem dX6_readPoints_31 : decode cX6_readPoints 31 = .ok (.getfield 12, 3) := by decide +kernel
theorem dX6_readPoints_34 : decode cX6_readPoints 34 = .ok (.iconst 0, 1) := by decide +kernel
theorem dX6_readPoints_35 : decode cX6_readPoints 35 = .ok (.invokevirtual 116, 3) := by decide +kernel
theorem dX6_readPoints_38 : decode cX6_readPoints 38 = .ok (.istore 4, 2) := by decide +kernel
theorem dX6_readPoints_40 : decode cX6_readPoints 40 = .ok (.iload 4, 2) := by decide +kernel
theorem dX6_readPoints_42 : decode cX6_readPoints 42 = .ok (.iconst (-1), 1) := by decide +kernel
theorem dX6_readPoints_43 : decode cX6_readPoints 43 = .ok (.if_icmp .ne 5, 3) := by decide +kernel
theorem dX6_readPoints_46 : decode cX6_readPoints 46 = .ok (.iconst 0, 1) := by decide +kernel
theorem dX6_readPoints_47 : decode cX6_readPoints 47 = .ok (.ireturn, 1) := by decide +kernel
theorem dX6_readPoints_48 : decode cX6_readPoints 48 = .ok (.aload_n 0, 1) := by decide +kernel
theorem dX6_readPoints_49 : decode cX6_readPoints 49 = .ok (.getfield 12, 3) := by decide +kernel
theorem dX6_readPoints_52 : decode cX6_readPoints 52 = .ok (.getfield 120, 3) := by decide +kernel
theorem dX6_readPoints_55 : decode cX6_readPoints 55 = .ok (.aload_n 0, 1) := by decide +kernel
theorem dX6_readPoints_56 : decode cX6_readPoints 56 = .ok (.getfield 12, 3) := by decide +kernel
theorem dX6_readPoints_59 : decode cX6_readPoints 59 = .ok (.iconst 1, 1) := by decide +kernel
theorem dX6_readPoints_60 : decode cX6_readPoints 60 = .ok (.lload_n 2, 1) := by decide +kernel
theorem dX6_readPoints_61 : decode cX6_readPoints 61 = .ok (.invokevirtual 109, 3) := by decide +kernel
theorem dX6_readPoints_64 : decode cX6_readPoints 64 = .ok (.iload 4, 2) := by decide +kernel
theorem dX6_readPoints_66 : decode cX6_readPoints 66 = .ok (.iastore, 1) := by decide +kernel
theorem dX6_readPoints_67 : decode cX6_readPoints 67 = .ok (.aload_n 1, 1) := by decide +kernel
theorem dX6_readPoints_68 : decode cX6_readPoints 68 = .ok (.invokestatic 113, 3) := by decide +kernel
theorem dX6_readPoints_71 : decode cX6_readPoints 71 = .ok (.ireturn, 1) := by decide +kernel
theorem dX6_readTrack_0 : decode cX6_readTrack 0 = .ok (.aload_n 0, 1) := by decide +kernel
theorem dX6_readTrack_1 : decode cX6_readTrack 1 = .ok (.aload_n 1, 1) := by decide +kernel
theorem dX6_readTrack_2 : decode cX6_readTrack 2 = .ok (.iconst 2, 1) := by decide +kernel
theorem dX6_readTrack_3 : decode cX6_readTrack 3 = .ok (.bipush 16, 2) := by decide +kernel
theorem dX6_readTrack_5 : decode cX6_readTrack 5 = .ok (.invokevirtual 90, 3) := by decide +kernel
theorem dX6_readTrack_8 : decode cX6_readTrack 8 = .ok (.ifCond .ne 5, 3) := by decide +kernel
theorem dX6_readTrack_11 : decode cX6_readTrack 11 = .ok (.iconst 0, 1) := by decide +kernel
theorem dX6_readTrack_12 : decode cX6_readTrack 12 = .ok (.ireturn, 1) := by decide +kernel
theorem dX6_readTrack_13 : decode cX6_readTrack 13 = .ok (.aload_n 1, 1) := by decide +kernel
theorem dX6_readTrack_14 : decode cX6_readTrack 14 = .ok (.aload_n 0, 1) := by decide +kernel
theorem dX6_readTrack_15 : decode cX6_readTrack 15 = .ok (.getfield 12, 3) := by decide +kernel
theorem dX6_readTrack_18 : decode cX6_readTrack 18 = .ok (.iconst 0, 1) := by decide +kernel
theorem dX6_readTrack_19 : decode cX6_readTrack 19 = .ok (.invokevirtual 116, 3) := by decide +kernel
theorem dX6_readTrack_22 : decode cX6_readTrack 22 = .ok (.istore_n 2, 1) := by decide +kernel
theorem dX6_readTrack_23 : decode cX6_readTrack 23 = .ok (.iload_n 2, 1) := by decide +kernel
theorem dX6_readTrack_24 : decode cX6_readTrack 24 = .ok (.iconst (-1), 1) := by decide +kernel
theorem dX6_readTrack_25 : decode cX6_readTrack 25 = .ok (.if_icmp .ne 7, 3) := by decide +kernel
theorem dX6_readTrack_28 : decode cX6_readTrack 28 = .ok (.iconst (-1), 1) := by decide +kernel
theorem dX6_readTrack_29 : decode cX6_readTrack 29 = .ok (.goto 12, 3) := by decide +kernel
theorem dX6_readTrack_32 : decode cX6_readTrack 32 = .ok (.aload_n 1, 1) := by decide +kernel
theorem dX6_readTrack_33 : decode cX6_readTrack 33 = .ok (.aload_n 0, 1) := by decide +kernel
theorem dX6_readTrack_34 : decode cX6_readTrack 34 = .ok (.getfield 12, 3) := by decide +kernel
theorem dX6_readTrack_37 : decode cX6_readTrack 37 = .ok (.iconst 0, 1) := by decide +kernel
theorem dX6_readTrack_38 : decode cX6_readTrack 38 = .ok (.invokevirtual 116, 3) := by decide +kernel
theorem dX6_readTrack_41 : decode cX6_readTrack 41 = .ok (.istore_n 3, 1) := by decide +kernel
theorem dX6_readTrack_42 : decode cX6_readTrack 42 = .ok (.iload_n 3, 1) := by decide +kernel
theorem dX6_readTrack_43 : decode cX6_readTrack 43 = .ok (.iconst (-1), 1) := by decide +kernel
theorem dX6_readTrack_44 : decode cX6_readTrack 44 = .ok (.if_icmp .ne 5, 3) := by decide +kernel
theorem dX6_readTrack_47 : decode cX6_readTrack 47 = .ok (.iconst 0, 1) := by decide +kernel
theorem dX6_readTrack_48 : decode cX6_readTrack 48 = .ok (.ireturn, 1) := by decide +kernel
theorem dX6_readTrack_49 : decode cX6_readTrack 49 = .ok (.iload_n 2, 1) := by decide +kernel
theorem dX6_readTrack_50 : decode cX6_readTrack 50 = .ok (.iload_n 3, 1) := by decide +kernel
theorem dX6_readTrack_51 : decode cX6_readTrack 51 = .ok (.if_icmp .eq 16, 3) := by decide +kernel
theorem dX6_readTrack_54 : decode cX6_readTrack 54 = .ok (.aload_n 0, 1) := by decide +kernel
theorem dX6_readTrack_55 : decode cX6_readTrack 55 = .ok (.getfield 12, 3) := by decide +kernel
theorem dX6_readTrack_58 : decode cX6_readTrack 58 = .ok (.iload_n 2, 1) := by decide +kernel
theorem dX6_readTrack_59 : decode cX6_readTrack 59 = .ok (.iload_n 3, 1) := by decide +kernel
theorem dX6_readTrack_60 : decode cX6_readTrack 60 = .ok (.invokevirtual 123, 3) := by decide +kernel
theorem dX6_readTrack_63 : decode cX6_readTrack 63 = .ok (.iconst (-1), 1) := by decide +kernel
theorem dX6_readTrack_64 : decode cX6_readTrack 64 = .ok (.if_icmp .eq 9, 3) := by decide +kernel
theorem dX6_readTrack_67 : decode cX6_readTrack 67 = .ok (.aload_n 1, 1) := by decide +kernel
theorem dX6_readTrack_68 : decode cX6_readTrack 68 = .ok (.iconst 3, 1) := by decide +kernel
theorem dX6_readTrack_69 : decode cX6_readTrack 69 = .ok (.invokevirtual 82, 3) := by decide +kernel
theorem dX6_readTrack_72 : decode cX6_readTrack 72 = .ok (.ireturn, 1) := by decide +kernel
theorem dX6_readTrack_73 : decode cX6_readTrack 73 = .ok (.iconst (-1), 1) := by decide +kernel
theorem dX6_readTrack_74 : decode cX6_readTrack 74 = .ok (.istore 4, 2) := by decide +kernel
theorem dX6_readTrack_76 : decode cX6_readTrack 76 = .ok (.iconst 0, 1) := by decide +kernel
theorem dX6_readTrack_77 : decode cX6_readTrack 77 = .ok (.istore 5, 2) := by decide +kernel
theorem dX6_readTrack_79 : decode cX6_readTrack 79 = .ok (.aload_n 1, 1) := by decide +kernel
theorem dX6_readTrack_80 : decode cX6_readTrack 80 = .ok (.invokevirtual 35, 3) := by decide +kernel
theorem dX6_readTrack_83 : decode cX6_readTrack 83 = .ok (.aload_n 1, 1) := by decide +kernel
theorem dX6_readTrack_84 : decode cX6_readTrack 84 = .ok (.bipush 59, 2) := by decide +kernel
theorem dX6_readTrack_86 : decode cX6_readTrack 86 = .ok (.invokevirtual 126, 3) := by decide +kernel
theorem dX6_readTrack_89 : decode cX6_readTrack 89 = .ok (.ifCond .ne 42, 3) := by decide +kernel
theorem dX6_readTrack_92 : decode cX6_readTrack 92 = .ok (.aload_n 0, 1) := by decide +kernel
theorem dX6_readTrack_93 : decode cX6_readTrack 93 = .ok (.aload_n 1, 1) := by decide +kernel
theorem dX6_readTrack_94 : decode cX6_readTrack 94 = .ok (.iload_n 2, 1) := by decide +kernel
theorem dX6_readTrack_95 : decode cX6_readTrack 95 = .ok (.iload_n 3, 1) := by decide +kernel
theorem dX6_readTrack_96 : decode cX6_readTrack 96 = .ok (.invokevirtual 129, 3) := by decide +kernel
theorem dX6_readTrack_99 : decode cX6_readTrack 99 = .ok (.istore 4, 2) := by decide +kernel
theorem dX6_readTrack_101 : decode cX6_readTrack 101 = .ok (.iload 4, 2) := by decide +kernel
theorem dX6_readTrack_103 : decode cX6_readTrack 103 = .ok (.iconst (-1), 1) := by decide +kernel
theorem dX6_readTrack_104 : decode cX6_readTrack 104 = .ok (.if_icmp .ne 7, 3) := by decide +kernel
theorem dX6_readTrack_107 : decode cX6_readTrack 107 = .ok (.iconst (-1), 1) := by decide +kernel
theorem dX6_readTrack_108 : decode cX6_readTrack 108 = .ok (.goto 9, 3) := by decide +kernel
theorem dX6_readTrack_111 : decode cX6_readTrack 111 = .ok (.aload_n 1, 1) := by decide +kernel
theorem dX6_readTrack_112 : decode cX6_readTrack 112 = .ok (.bipush 9, 2) := by decide +kernel
theorem dX6_readTrack_114 : decode cX6_readTrack 114 = .ok (.invokevirtual 133, 3) := by decide +kernel
theorem dX6_readTrack_117 : decode cX6_readTrack 117 = .ok (.istore 5, 2) := by decide +kernel
theorem dX6_readTrack_119 : decode cX6_readTrack 119 = .ok (.iload 5, 2) := by decide +kernel
theorem dX6_readTrack_121 : decode cX6_readTrack 121 = .ok (.iconst (-1), 1) := by decide +kernel
theorem dX6_readTrack_122 : decode cX6_readTrack 122 = .ok (.if_icmp .ne 5, 3) := by decide +kernel
theorem dX6_readTrack_125 : decode cX6_readTrack 125 = .ok (.iconst 0, 1) := by decide +kernel
theorem dX6_readTrack_126 : decode cX6_readTrack 126 = .ok (.ireturn, 1) := by decide +kernel
theorem dX6_readTrack_127 : decode cX6_readTrack 127 = .ok (.aload_n 1, 1) := by decide +kernel
theorem dX6_readTrack_128 : decode cX6_readTrack 128 = .ok (.invokevirtual 35, 3) := by decide +kernel
theorem dX6_readTrack_131 : decode cX6_readTrack 131 = .ok (.aload_n 0, 1) := by decide +kernel
theorem dX6_readTrack_132 : decode cX6_readTrack 132 = .ok (.iload_n 2, 1) := by decide +kernel
theorem dX6_readTrack_133 : decode cX6_readTrack 133 = .ok (.iload_n 3, 1) := by decide +kernel
theorem dX6_readTrack_134 : decode cX6_readTrack 134 = .ok (.iload 4, 2) := by decide +kernel
theorem dX6_readTrack_136 : decode cX6_readTrack 136 = .ok (.iload 5, 2) := by decide +kernel
theorem dX6_readTrack_138 : decode cX6_readTrack 138 = .ok (.invokevirtual 137, 3) := by decide +kernel
theorem dX6_readTrack_141 : decode cX6_readTrack 141 = .ok (.iconst 1, 1) := by decide +kernel
theorem dX6_readTrack_142 : decode cX6_readTrack 142 = .ok (.ireturn, 1) := by decide +kernel
theorem dX6_readPointsBy_0 : decode cX6_readPointsBy 0 = .ok (.aload_n 1, 1) := by decide +kernel
theorem dX6_readPointsBy_1 : decode cX6_readPointsBy 1 = .ok (.aload_n 0, 1) := by decide +kernel
theorem dX6_readPointsBy_2 : decode cX6_readPointsBy 2 = .ok (.getfield 12, 3) := by decide +kernel
theorem dX6_readPointsBy_5 : decode cX6_readPointsBy 5 = .ok (.iconst 1, 1) := by decide +kernel
theorem dX6_readPointsBy_6 : decode cX6_readPointsBy 6 = .ok (.invokevirtual 141, 3) := by decide +kernel
theorem dX6_readPointsBy_9 : decode cX6_readPointsBy 9 = .ok (.istore 4, 2) := by decide +kernel
theorem dX6_readPointsBy_11 : decode cX6_readPointsBy 11 = .ok (.iload 4, 2) := by decide +kernel
theorem dX6_readPointsBy_13 : decode cX6_readPointsBy 13 = .ok (.iconst (-1), 1) := by decide +kernel
theorem dX6_readPointsBy_14 : decode cX6_readPointsBy 14 = .ok (.if_icmp .ne 5, 3) := by decide +kernel
theorem dX6_readPointsBy_17 : decode cX6_readPointsBy 17 = .ok (.iconst (-1), 1) := by decide +kernel
theorem dX6_readPointsBy_18 : decode cX6_readPointsBy 18 = .ok (.ireturn, 1) := by decide +kernel
theorem dX6_readPointsBy_19 : decode cX6_readPointsBy 19 = .ok (.aload_n 0, 1) := by decide +kernel
theorem dX6_readPointsBy_20 : decode cX6_readPointsBy 20 = .ok (.getfield 12, 3) := by decide +kernel
theorem dX6_readPointsBy_23 : decode cX6_readPointsBy 23 = .ok (.getfield 120, 3) := by decide +kernel
theorem dX6_readPointsBy_26 : decode cX6_readPointsBy 26 = .ok (.iload 4, 2) := by decide +kernel
theorem dX6_readPointsBy_28 : decode cX6_readPointsBy 28 = .ok (.iaload, 1) := by decide +kernel
theorem dX6_readPointsBy_29 : decode cX6_readPointsBy 29 = .ok (.istore 5, 2) := by decide +kernel
theorem dX6_readPointsBy_31 : decode cX6_readPointsBy 31 = .ok (.iload 5, 2) := by decide +kernel
theorem dX6_readPointsBy_33 : decode cX6_readPointsBy 33 = .ok (.iload_n 2, 1) := by decide +kernel
theorem dX6_readPointsBy_34 : decode cX6_readPointsBy 34 = .ok (.if_icmp .eq 17, 3) := by decide +kernel
theorem dX6_readPointsBy_37 : decode cX6_readPointsBy 37 = .ok (.iload 5, 2) := by decide +kernel
theorem dX6_readPointsBy_39 : decode cX6_readPointsBy 39 = .ok (.iload_n 3, 1) := by decide +kernel
theorem dX6_readPointsBy_40 : decode cX6_readPointsBy 40 = .ok (.if_icmp .eq 11, 3) := by decide +kernel
theorem dX6_readPointsBy_43 : decode cX6_readPointsBy 43 = .ok (.aload_n 1, 1) := by decide +kernel
theorem dX6_readPointsBy_44 : decode cX6_readPointsBy 44 = .ok (.iconst 3, 1) := by decide +kernel
theorem dX6_readPointsBy_45 : decode cX6_readPointsBy 45 = .ok (.invokevirtual 82, 3) := by decide +kernel
theorem dX6_readPointsBy_48 : decode cX6_readPointsBy 48 = .ok (.pop, 1) := by decide +kernel
theorem dX6_readPointsBy_49 : decode cX6_readPointsBy 49 = .ok (.iconst (-1), 1) := by decide +kernel
theorem dX6_readPointsBy_50 : decode cX6_readPointsBy 50 = .ok (.ireturn, 1) := by decide +kernel
theorem dX6_readPointsBy_51 : decode cX6_readPointsBy 51 = .ok (.iload 4, 2) := by decide +kernel
theorem dX6_readPointsBy_53 : decode cX6_readPointsBy 53 = .ok (.ireturn, 1) := by decide +kernel
theorem dX6_addTrack_0 : decode cX6_addTrack 0 = .ok (.aload_n 0, 1) := by decide +kernel
theorem dX6_addTrack_1 : decode cX6_addTrack 1 = .ok (.getfield 12, 3) := by decide +kernel
theorem dX6_addTrack_4 : decode cX6_addTrack 4 = .ok (.getfield 86, 3) := by decide +kernel
theorem dX6_addTrack_7 : decode cX6_addTrack 7 = .ok (.iconst 2, 1) := by decide +kernel
theorem dX6_addTrack_8 : decode cX6_addTrack 8 = .ok (.iaload, 1) := by decide +kernel
theorem dX6_addTrack_9 : decode cX6_addTrack 9 = .ok (.istore 5, 2) := by decide +kernel
theorem dX6_addTrack_11 : decode cX6_addTrack 11 = .ok (.aload_n 0, 1) := by decide +kernel
theorem dX6_addTrack_12 : decode cX6_addTrack 12 = .ok (.getfield 12, 3) := by decide +kernel
theorem dX6_addTrack_15 : decode cX6_addTrack 15 = .ok (.getfield 144, 3) := by decide +kernel
theorem dX6_addTrack_18 : decode cX6_addTrack 18 = .ok (.iload 5, 2) := by decide +kernel
theorem dX6_addTrack_20 : decode cX6_addTrack 20 = .ok (.iload_n 1, 1) := by decide +kernel
theorem dX6_addTrack_21 : decode cX6_addTrack 21 = .ok (.iastore, 1) := by decide +kernel
theorem dX6_addTrack_22 : decode cX6_addTrack 22 = .ok (.aload_n 0, 1) := by decide +kernel
theorem dX6_addTrack_23 : decode cX6_addTrack 23 = .ok (.getfield 12, 3) := by decide +kernel
theorem dX6_addTrack_26 : decode cX6_addTrack 26 = .ok (.getfield 147, 3) := by decide +kernel
theorem dX6_addTrack_29 : decode cX6_addTrack 29 = .ok (.iload 5, 2) := by decide +kernel
theorem dX6_addTrack_31 : decode cX6_addTrack 31 = .ok (.iload_n 2, 1) := by decide +kernel
theorem dX6_addTrack_32 : decode cX6_addTrack 32 = .ok (.iastore, 1) := by decide +kernel
theorem dX6_addTrack_33 : decode cX6_addTrack 33 = .ok (.aload_n 0, 1) := by decide +kernel
theorem dX6_addTrack_34 : decode cX6_addTrack 34 = .ok (.getfield 12, 3) := by decide +kernel
theorem dX6_addTrack_37 : decode cX6_addTrack 37 = .ok (.getfield 150, 3) := by decide +kernel
theorem dX6_addTrack_40 : decode cX6_addTrack 40 = .ok (.iload 5, 2) := by decide +kernel
theorem dX6_addTrack_42 : decode cX6_addTrack 42 = .ok (.iload_n 3, 1) := by decide +kernel
theorem dX6_addTrack_43 : decode cX6_addTrack 43 = .ok (.iastore, 1) := by decide +kernel
theorem dX6_addTrack_44 : decode cX6_addTrack 44 = .ok (.aload_n 0, 1) := by decide +kernel
theorem dX6_addTrack_45 : decode cX6_addTrack 45 = .ok (.getfield 12, 3) := by decide +kernel
theorem dX6_addTrack_48 : decode cX6_addTrack 48 = .ok (.getfield 153, 3) := by decide +kernel
theorem dX6_addTrack_51 : decode cX6_addTrack 51 = .ok (.iload 5, 2) := by decide +kernel
theorem dX6_addTrack_53 : decode cX6_addTrack 53 = .ok (.iload 4, 2) := by decide +kernel
theorem dX6_addTrack_55 : decode cX6_addTrack 55 = .ok (.iastore, 1) := by decide +kernel
theorem dX6_addTrack_56 : decode cX6_addTrack 56 = .ok (.aload_n 0, 1) := by decide +kernel
theorem dX6_addTrack_57 : decode cX6_addTrack 57 = .ok (.getfield 12, 3) := by decide +kernel
theorem dX6_addTrack_60 : decode cX6_addTrack 60 = .ok (.getfield 86, 3) := by decide +kernel
theorem dX6_addTrack_63 : decode cX6_addTrack 63 = .ok (.iconst 2, 1) := by decide +kernel
theorem dX6_addTrack_64 : decode cX6_addTrack 64 = .ok (.iload 5, 2) := by decide +kernel
theorem dX6_addTrack_66 : decode cX6_addTrack 66 = .ok (.iconst 1, 1) := by decide +kernel
theorem dX6_addTrack_67 : decode cX6_addTrack 67 = .ok (.iadd, 1) := by decide +kernel
theorem dX6_addTrack_68 : decode cX6_addTrack 68 = .ok (.iastore, 1) := by decide +kernel
theorem dX6_addTrack_69 : decode cX6_addTrack 69 = .ok (.return_, 1) := by decide +kernel
theorem dX6_readSignal_0 : decode cX6_readSignal 0 = .ok (.aload_n 0, 1) := by decide +kernel
theorem dX6_readSignal_1 : decode cX6_readSignal 1 = .ok (.aload_n 1, 1) := by decide +kernel
theorem dX6_readSignal_2 : decode cX6_readSignal 2 = .ok (.iconst 3, 1) := by decide +kernel
theorem dX6_readSignal_3 : decode cX6_readSignal 3 = .ok (.bipush 8, 2) := by decide +kernel
theorem dX6_readSignal_5 : decode cX6_readSignal 5 = .ok (.invokevirtual 90, 3) := by decide +kernel
theorem dX6_readSignal_8 : decode cX6_readSignal 8 = .ok (.ifCond .eq 14, 3) := by decide +kernel
theorem dX6_readSignal_11 : decode cX6_readSignal 11 = .ok (.aload_n 1, 1) := by decide +kernel
theorem dX6_readSignal_12 : decode cX6_readSignal 12 = .ok (.aload_n 0, 1) := by decide +kernel
theorem dX6_readSignal_13 : decode cX6_readSignal 13 = .ok (.getfield 12, 3) := by decide +kernel
theorem dX6_readSignal_16 : decode cX6_readSignal 16 = .ok (.invokevirtual 94, 3) := by decide +kernel
theorem dX6_readSignal_19 : decode cX6_readSignal 19 = .ok (.ifCond .ne 5, 3) := by decide +kernel
theorem dX6_readSignal_22 : decode cX6_readSignal 22 = .ok (.iconst 0, 1) := by decide +kernel
theorem dX6_readSignal_23 : decode cX6_readSignal 23 = .ok (.ireturn, 1) := by decide +kernel
theorem dX6_readSignal_24 : decode cX6_readSignal 24 = .ok (.aload_n 1, 1) := by decide +kernel
theorem dX6_readSignal_25 : decode cX6_readSignal 25 = .ok (.getfield 98, 3) := by decide +kernel
theorem dX6_readSignal_28 : decode cX6_readSignal 28 = .ok (.lstore_n 2, 1) := by decide +kernel
theorem dX6_readSignal_29 : decode cX6_readSignal 29 = .ok (.aload_n 1, 1) := by decide +kernel
theorem dX6_readSignal_30 : decode cX6_readSignal 30 = .ok (.aload_n 0, 1) := by decide +kernel
theorem dX6_readSignal_31 : decode cX6_readSignal 31 = .ok (.getfield 12, 3) := by decide +kernel
theorem dX6_readSignal_34 : decode cX6_readSignal 34 = .ok (.iconst 0, 1) := by decide +kernel
theorem dX6_readSignal_35 : decode cX6_readSignal 35 = .ok (.invokevirtual 116, 3) := by decide +kernel
theorem dX6_readSignal_38 : decode cX6_readSignal 38 = .ok (.istore 4, 2) := by decide +kernel
theorem dX6_readSignal_40 : decode cX6_readSignal 40 = .ok (.iload 4, 2) := by decide +kernel
theorem dX6_readSignal_42 : decode cX6_readSignal 42 = .ok (.iconst (-1), 1) := by decide +kernel
theorem dX6_readSignal_43 : decode cX6_readSignal 43 = .ok (.if_icmp .ne 7, 3) := by decide +kernel
theorem dX6_readSignal_46 : decode cX6_readSignal 46 = .ok (.iconst (-1), 1) := by decide +kernel
theorem dX6_readSignal_47 : decode cX6_readSignal 47 = .ok (.goto 9, 3) := by decide +kernel
theorem dX6_readSignal_50 : decode cX6_readSignal 50 = .ok (.aload_n 1, 1) := by decide +kernel
theorem dX6_readSignal_51 : decode cX6_readSignal 51 = .ok (.bipush 11, 2) := by decide +kernel
theorem dX6_readSignal_53 : decode cX6_readSignal 53 = .ok (.invokevirtual 133, 3) := by decide +kernel
theorem dX6_readSignal_56 : decode cX6_readSignal 56 = .ok (.istore 5, 2) := by decide +kernel
theorem dX6_readSignal_58 : decode cX6_readSignal 58 = .ok (.iload 5, 2) := by decide +kernel
theorem dX6_readSignal_60 : decode cX6_readSignal 60 = .ok (.iconst (-1), 1) := by decide +kernel
theorem dX6_readSignal_61 : decode cX6_readSignal 61 = .ok (.if_icmp .ne 5, 3) := by decide +kernel
theorem dX6_readSignal_64 : decode cX6_readSignal 64 = .ok (.iconst 0, 1) := by decide +kernel
theorem dX6_readSignal_65 : decode cX6_readSignal 65 = .ok (.ireturn, 1) := by decide +kernel
theorem dX6_readSignal_66 : decode cX6_readSignal 66 = .ok (.aload_n 0, 1) := by decide +kernel
theorem dX6_readSignal_67 : decode cX6_readSignal 67 = .ok (.getfield 12, 3) := by decide +kernel
theorem dX6_readSignal_70 : decode cX6_readSignal 70 = .ok (.iload 4, 2) := by decide +kernel
theorem dX6_readSignal_72 : decode cX6_readSignal 72 = .ok (.iload 5, 2) := by decide +kernel
theorem dX6_readSignal_74 : decode cX6_readSignal 74 = .ok (.invokevirtual 156, 3) := by decide +kernel
theorem dX6_readSignal_77 : decode cX6_readSignal 77 = .ok (.iconst (-1), 1) := by decide +kernel
theorem dX6_readSignal_78 : decode cX6_readSignal 78 = .ok (.if_icmp .eq 9, 3) := by decide +kernel
theorem dX6_readSignal_81 : decode cX6_readSignal 81 = .ok (.aload_n 1, 1) := by decide +kernel
theorem dX6_readSignal_82 : decode cX6_readSignal 82 = .ok (.iconst 3, 1) := by decide +kernel
theorem dX6_readSignal_83 : decode cX6_readSignal 83 = .ok (.invokevirtual 82, 3) := by decide +kernel
theorem dX6_readSignal_86 : decode cX6_readSignal 86 = .ok (.ireturn, 1) := by decide +kernel
theorem dX6_readSignal_87 : decode cX6_readSignal 87 = .ok (.aload_n 0, 1) := by decide +kernel
theorem dX6_readSignal_88 : decode cX6_readSignal 88 = .ok (.getfield 12, 3) := by decide +kernel
theorem dX6_readSignal_91 : decode cX6_readSignal 91 = .ok (.iconst 3, 1) := by decide +kernel
theorem dX6_readSignal_92 : decode cX6_readSignal 92 = .ok (.lload_n 2, 1) := by decide +kernel
theorem dX6_readSignal_93 : decode cX6_readSignal 93 = .ok (.invokevirtual 109, 3) := by decide +kernel
theorem dX6_readSignal_96 : decode cX6_readSignal 96 = .ok (.istore 6, 2) := by decide +kernel
theorem dX6_readSignal_98 : decode cX6_readSignal 98 = .ok (.aload_n 0, 1) := by decide +kernel
theorem dX6_readSignal_99 : decode cX6_readSignal 99 = .ok (.getfield 12, 3) := by decide +kernel
theorem dX6_readSignal_102 : decode cX6_readSignal 102 = .ok (.getfield 159, 3) := by decide +kernel
theorem dX6_readSignal_105 : decode cX6_readSignal 105 = .ok (.iload 6, 2) := by decide +kernel
theorem dX6_readSignal_107 : decode cX6_readSignal 107 = .ok (.iload 4, 2) := by decide +kernel
theorem dX6_readSignal_109 : decode cX6_readSignal 109 = .ok (.iastore, 1) := by decide +kernel
theorem dX6_readSignal_110 : decode cX6_readSignal 110 = .ok (.aload_n 0, 1) := by decide +kernel
theorem dX6_readSignal_111 : decode cX6_readSignal 111 = .ok (.getfield 12, 3) := by decide +kernel
theorem dX6_readSignal_114 : decode cX6_readSignal 114 = .ok (.getfield 162, 3) := by decide +kernel
theorem dX6_readSignal_117 : decode cX6_readSignal 117 = .ok (.iload 6, 2) := by decide +kernel
theorem dX6_readSignal_119 : decode cX6_readSignal 119 = .ok (.iload 5, 2) := by decide +kernel
theorem dX6_readSignal_121 : decode cX6_readSignal 121 = .ok (.iastore, 1) := by decide +kernel
theorem dX6_readSignal_122 : decode cX6_readSignal 122 = .ok (.aload_n 1, 1) := by decide +kernel
theorem dX6_readSignal_123 : decode cX6_readSignal 123 = .ok (.invokestatic 113, 3) := by decide +kernel
theorem dX6_readSignal_126 : decode cX6_readSignal 126 = .ok (.ireturn, 1) := by decide +kernel
theorem dX6_readRoute_0 : decode cX6_readRoute 0 = .ok (.aload_n 0, 1) := by decide +kernel
theorem dX6_readRoute_1 : decode cX6_readRoute 1 = .ok (.aload_n 1, 1) := by decide +kernel
theorem dX6_readRoute_2 : decode cX6_readRoute 2 = .ok (.iconst 4, 1) := by decide +kernel
theorem dX6_readRoute_3 : decode cX6_readRoute 3 = .ok (.bipush 10, 2) := by decide +kernel
theorem dX6_readRoute_5 : decode cX6_readRoute 5 = .ok (.invokevirtual 90, 3) := by decide +kernel
theorem dX6_readRoute_8 : decode cX6_readRoute 8 = .ok (.ifCond .eq 14, 3) := by decide +kernel
theorem dX6_readRoute_11 : decode cX6_readRoute 11 = .ok (.aload_n 1, 1) := by decide +kernel
theorem dX6_readRoute_12 : decode cX6_readRoute 12 = .ok (.aload_n 0, 1) := by decide +kernel
theorem dX6_readRoute_13 : decode cX6_readRoute 13 = .ok (.getfield 12, 3) := by decide +kernel
theorem dX6_readRoute_16 : decode cX6_readRoute 16 = .ok (.invokevirtual 94, 3) := by decide +kernel
theorem dX6_readRoute_19 : decode cX6_readRoute 19 = .ok (.ifCond .ne 5, 3) := by decide +kernel
theorem dX6_readRoute_22 : decode cX6_readRoute 22 = .ok (.iconst 0, 1) := by decide +kernel
theorem dX6_readRoute_23 : decode cX6_readRoute 23 = .ok (.ireturn, 1) := by decide +kernel
theorem dX6_readRoute_24 : decode cX6_readRoute 24 = .ok (.aload_n 1, 1) := by decide +kernel
theorem dX6_readRoute_25 : decode cX6_readRoute 25 = .ok (.getfield 98, 3) := by decide +kernel
theorem dX6_readRoute_28 : decode cX6_readRoute 28 = .ok (.lstore_n 2, 1) := by decide +kernel
theorem dX6_readRoute_29 : decode cX6_readRoute 29 = .ok (.aload_n 1, 1) := by decide +kernel
theorem dX6_readRoute_30 : decode cX6_readRoute 30 = .ok (.aload_n 0, 1) := by decide +kernel
theorem dX6_readRoute_31 : decode cX6_readRoute 31 = .ok (.getfield 12, 3) := by decide +kernel
theorem dX6_readRoute_34 : decode cX6_readRoute 34 = .ok (.iconst 3, 1) := by decide +kernel
theorem dX6_readRoute_35 : decode cX6_readRoute 35 = .ok (.invokevirtual 116, 3) := by decide +kernel
theorem dX6_readRoute_38 : decode cX6_readRoute 38 = .ok (.istore 4, 2) := by decide +kernel
theorem dX6_readRoute_40 : decode cX6_readRoute 40 = .ok (.iload 4, 2) := by decide +kernel
theorem dX6_readRoute_42 : decode cX6_readRoute 42 = .ok (.iconst (-1), 1) := by decide +kernel
theorem dX6_readRoute_43 : decode cX6_readRoute 43 = .ok (.if_icmp .ne 5, 3) := by decide +kernel
theorem dX6_readRoute_46 : decode cX6_readRoute 46 = .ok (.iconst 0, 1) := by decide +kernel
theorem dX6_readRoute_47 : decode cX6_readRoute 47 = .ok (.ireturn, 1) := by decide +kernel
theorem dX6_readRoute_48 : decode cX6_readRoute 48 = .ok (.aload_n 0, 1) := by decide +kernel
theorem dX6_readRoute_49 : decode cX6_readRoute 49 = .ok (.getfield 12, 3) := by decide +kernel
theorem dX6_readRoute_52 : decode cX6_readRoute 52 = .ok (.iconst 4, 1) := by decide +kernel
theorem dX6_readRoute_53 : decode cX6_readRoute 53 = .ok (.lload_n 2, 1) := by decide +kernel
theorem dX6_readRoute_54 : decode cX6_readRoute 54 = .ok (.invokevirtual 109, 3) := by decide +kernel
theorem dX6_readRoute_57 : decode cX6_readRoute 57 = .ok (.istore 5, 2) := by decide +kernel
theorem dX6_readRoute_59 : decode cX6_readRoute 59 = .ok (.aload_n 0, 1) := by decide +kernel
theorem dX6_readRoute_60 : decode cX6_readRoute 60 = .ok (.getfield 12, 3) := by decide +kernel
theorem dX6_readRoute_63 : decode cX6_readRoute 63 = .ok (.getfield 165, 3) := by decide +kernel
theorem dX6_readRoute_66 : decode cX6_readRoute 66 = .ok (.iload 5, 2) := by decide +kernel
theorem dX6_readRoute_68 : decode cX6_readRoute 68 = .ok (.iload 4, 2) := by decide +kernel
theorem dX6_readRoute_70 : decode cX6_readRoute 70 = .ok (.iastore, 1) := by decide +kernel
theorem dX6_readRoute_71 : decode cX6_readRoute 71 = .ok (.aload_n 0, 1) := by decide +kernel
theorem dX6_readRoute_72 : decode cX6_readRoute 72 = .ok (.getfield 12, 3) := by decide +kernel
theorem dX6_readRoute_75 : decode cX6_readRoute 75 = .ok (.getfield 168, 3) := by decide +kernel
theorem dX6_readRoute_78 : decode cX6_readRoute 78 = .ok (.iload 5, 2) := by decide +kernel
theorem dX6_readRoute_80 : decode cX6_readRoute 80 = .ok (.iconst 0, 1) := by decide +kernel
theorem dX6_readRoute_81 : decode cX6_readRoute 81 = .ok (.iastore, 1) := by decide +kernel
theorem dX6_readRoute_82 : decode cX6_readRoute 82 = .ok (.aload_n 0, 1) := by decide +kernel
theorem dX6_readRoute_83 : decode cX6_readRoute 83 = .ok (.getfield 12, 3) := by decide +kernel
theorem dX6_readRoute_86 : decode cX6_readRoute 86 = .ok (.getfield 171, 3) := by decide +kernel
theorem dX6_readRoute_89 : decode cX6_readRoute 89 = .ok (.iload 5, 2) := by decide +kernel
theorem dX6_readRoute_91 : decode cX6_readRoute 91 = .ok (.iconst 0, 1) := by decide +kernel
theorem dX6_readRoute_92 : decode cX6_readRoute 92 = .ok (.iastore, 1) := by decide +kernel
theorem dX6_readRoute_93 : decode cX6_readRoute 93 = .ok (.aload_n 0, 1) := by decide +kernel
theorem dX6_readRoute_94 : decode cX6_readRoute 94 = .ok (.getfield 12, 3) := by decide +kernel
theorem dX6_readRoute_97 : decode cX6_readRoute 97 = .ok (.getfield 174, 3) := by decide +kernel
theorem dX6_readRoute_100 : decode cX6_readRoute 100 = .ok (.iload 5, 2) := by decide +kernel
theorem dX6_readRoute_102 : decode cX6_readRoute 102 = .ok (.iconst 0, 1) := by decide +kernel
theorem dX6_readRoute_103 : decode cX6_readRoute 103 = .ok (.iastore, 1) := by decide +kernel
theorem dX6_readRoute_104 : decode cX6_readRoute 104 = .ok (.aload_n 0, 1) := by decide +kernel
theorem dX6_readRoute_105 : decode cX6_readRoute 105 = .ok (.getfield 12, 3) := by decide +kernel
theorem dX6_readRoute_108 : decode cX6_readRoute 108 = .ok (.getfield 177, 3) := by decide +kernel
theorem dX6_readRoute_111 : decode cX6_readRoute 111 = .ok (.iload 5, 2) := by decide +kernel
theorem dX6_readRoute_113 : decode cX6_readRoute 113 = .ok (.iconst 0, 1) := by decide +kernel
theorem dX6_readRoute_114 : decode cX6_readRoute 114 = .ok (.iastore, 1) := by decide +kernel
theorem dX6_readRoute_115 : decode cX6_readRoute 115 = .ok (.aload_n 0, 1) := by decide +kernel
theorem dX6_readRoute_116 : decode cX6_readRoute 116 = .ok (.getfield 12, 3) := by decide +kernel
theorem dX6_readRoute_119 : decode cX6_readRoute 119 = .ok (.getfield 180, 3) := by decide +kernel
theorem dX6_readRoute_122 : decode cX6_readRoute 122 = .ok (.iload 5, 2) := by decide +kernel
theorem dX6_readRoute_124 : decode cX6_readRoute 124 = .ok (.iconst 0, 1) := by decide +kernel
theorem dX6_readRoute_125 : decode cX6_readRoute 125 = .ok (.iastore, 1) := by decide +kernel
theorem dX6_readRoute_126 : decode cX6_readRoute 126 = .ok (.aload_n 1, 1) := by decide +kernel
theorem dX6_readRoute_127 : decode cX6_readRoute 127 = .ok (.invokestatic 113, 3) := by decide +kernel
theorem dX6_readRoute_130 : decode cX6_readRoute 130 = .ok (.ireturn, 1) := by decide +kernel
theorem dX6_readOver_0 : decode cX6_readOver 0 = .ok (.aload_n 1, 1) := by decide +kernel
theorem dX6_readOver_1 : decode cX6_readOver 1 = .ok (.aload_n 0, 1) := by decide +kernel
theorem dX6_readOver_2 : decode cX6_readOver 2 = .ok (.getfield 12, 3) := by decide +kernel
theorem dX6_readOver_5 : decode cX6_readOver 5 = .ok (.iconst 4, 1) := by decide +kernel
theorem dX6_readOver_6 : decode cX6_readOver 6 = .ok (.invokevirtual 116, 3) := by decide +kernel
theorem dX6_readOver_9 : decode cX6_readOver 9 = .ok (.istore_n 2, 1) := by decide +kernel
theorem dX6_readOver_10 : decode cX6_readOver 10 = .ok (.iload_n 2, 1) := by decide +kernel
theorem dX6_readOver_11 : decode cX6_readOver 11 = .ok (.iconst (-1), 1) := by decide +kernel
theorem dX6_readOver_12 : decode cX6_readOver 12 = .ok (.if_icmp .ne 5, 3) := by decide +kernel
theorem dX6_readOver_15 : decode cX6_readOver 15 = .ok (.iconst 0, 1) := by decide +kernel
theorem dX6_readOver_16 : decode cX6_readOver 16 = .ok (.ireturn, 1) := by decide +kernel
theorem dX6_readOver_17 : decode cX6_readOver 17 = .ok (.aload_n 0, 1) := by decide +kernel
theorem dX6_readOver_18 : decode cX6_readOver 18 = .ok (.getfield 12, 3) := by decide +kernel
theorem dX6_readOver_21 : decode cX6_readOver 21 = .ok (.getfield 168, 3) := by decide +kernel
theorem dX6_readOver_24 : decode cX6_readOver 24 = .ok (.iload_n 2, 1) := by decide +kernel
theorem dX6_readOver_25 : decode cX6_readOver 25 = .ok (.iaload, 1) := by decide +kernel
theorem dX6_readOver_26 : decode cX6_readOver 26 = .ok (.bipush 6, 2) := by decide +kernel
theorem dX6_readOver_28 : decode cX6_readOver 28 = .ok (.if_icmp .lt 9, 3) := by decide +kernel
theorem dX6_readOver_31 : decode cX6_readOver 31 = .ok (.aload_n 1, 1) := by decide +kernel
theorem dX6_readOver_32 : decode cX6_readOver 32 = .ok (.iconst 4, 1) := by decide +kernel
theorem dX6_readOver_33 : decode cX6_readOver 33 = .ok (.invokevirtual 82, 3) := by decide +kernel
theorem dX6_readOver_36 : decode cX6_readOver 36 = .ok (.ireturn, 1) := by decide +kernel
theorem dX6_readOver_37 : decode cX6_readOver 37 = .ok (.aload_n 1, 1) := by decide +kernel
theorem dX6_readOver_38 : decode cX6_readOver 38 = .ok (.aload_n 0, 1) := by decide +kernel
theorem dX6_readOver_39 : decode cX6_readOver 39 = .ok (.getfield 12, 3) := by decide +kernel
theorem dX6_readOver_42 : decode cX6_readOver 42 = .ok (.iconst 0, 1) := by decide +kernel
theorem dX6_readOver_43 : decode cX6_readOver 43 = .ok (.invokevirtual 116, 3) := by decide +kernel
theorem dX6_readOver_46 : decode cX6_readOver 46 = .ok (.istore_n 3, 1) := by decide +kernel
theorem dX6_readOver_47 : decode cX6_readOver 47 = .ok (.iload_n 3, 1) := by decide +kernel
theorem dX6_readOver_48 : decode cX6_readOver 48 = .ok (.iconst (-1), 1) := by decide +kernel
theorem dX6_readOver_49 : decode cX6_readOver 49 = .ok (.if_icmp .ne 5, 3) := by decide +kernel
theorem dX6_readOver_52 : decode cX6_readOver 52 = .ok (.iconst 0, 1) := by decide +kernel
theorem dX6_readOver_53 : decode cX6_readOver 53 = .ok (.ireturn, 1) := by decide +kernel
theorem dX6_readOver_54 : decode cX6_readOver 54 = .ok (.aload_n 0, 1) := by decide +kernel
theorem dX6_readOver_55 : decode cX6_readOver 55 = .ok (.iload_n 2, 1) := by decide +kernel
theorem dX6_readOver_56 : decode cX6_readOver 56 = .ok (.iload_n 3, 1) := by decide +kernel
theorem dX6_readOver_57 : decode cX6_readOver 57 = .ok (.invokevirtual 183, 3) := by decide +kernel
theorem dX6_readOver_60 : decode cX6_readOver 60 = .ok (.ifCond .ne 9, 3) := by decide +kernel
theorem dX6_readOver_63 : decode cX6_readOver 63 = .ok (.aload_n 1, 1) := by decide +kernel
theorem dX6_readOver_64 : decode cX6_readOver 64 = .ok (.iconst 3, 1) := by decide +kernel
theorem dX6_readOver_65 : decode cX6_readOver 65 = .ok (.invokevirtual 82, 3) := by decide +kernel
theorem dX6_readOver_68 : decode cX6_readOver 68 = .ok (.ireturn, 1) := by decide +kernel
theorem dX6_readOver_69 : decode cX6_readOver 69 = .ok (.aload_n 0, 1) := by decide +kernel
theorem dX6_readOver_70 : decode cX6_readOver 70 = .ok (.iload_n 2, 1) := by decide +kernel
theorem dX6_readOver_71 : decode cX6_readOver 71 = .ok (.iload_n 3, 1) := by decide +kernel
theorem dX6_readOver_72 : decode cX6_readOver 72 = .ok (.invokevirtual 187, 3) := by decide +kernel
theorem dX6_readOver_75 : decode cX6_readOver 75 = .ok (.aload_n 1, 1) := by decide +kernel
theorem dX6_readOver_76 : decode cX6_readOver 76 = .ok (.invokestatic 113, 3) := by decide +kernel
theorem dX6_readOver_79 : decode cX6_readOver 79 = .ok (.ireturn, 1) := by decide +kernel
theorem dX6_canGoOver_0 : decode cX6_canGoOver 0 = .ok (.aload_n 0, 1) := by decide +kernel
theorem dX6_canGoOver_1 : decode cX6_canGoOver 1 = .ok (.getfield 12, 3) := by decide +kernel
theorem dX6_canGoOver_4 : decode cX6_canGoOver 4 = .ok (.getfield 165, 3) := by decide +kernel
theorem dX6_canGoOver_7 : decode cX6_canGoOver 7 = .ok (.iload_n 1, 1) := by decide +kernel
theorem dX6_canGoOver_8 : decode cX6_canGoOver 8 = .ok (.iaload, 1) := by decide +kernel
theorem dX6_canGoOver_9 : decode cX6_canGoOver 9 = .ok (.istore_n 3, 1) := by decide +kernel
theorem dX6_canGoOver_10 : decode cX6_canGoOver 10 = .ok (.aload_n 0, 1) := by decide +kernel
theorem dX6_canGoOver_11 : decode cX6_canGoOver 11 = .ok (.getfield 12, 3) := by decide +kernel
theorem dX6_canGoOver_14 : decode cX6_canGoOver 14 = .ok (.iload_n 1, 1) := by decide +kernel
theorem dX6_canGoOver_15 : decode cX6_canGoOver 15 = .ok (.invokevirtual 191, 3) := by decide +kernel
theorem dX6_canGoOver_18 : decode cX6_canGoOver 18 = .ok (.istore 4, 2) := by decide +kernel
theorem dX6_canGoOver_20 : decode cX6_canGoOver 20 = .ok (.aload_n 0, 1) := by decide +kernel
theorem dX6_canGoOver_21 : decode cX6_canGoOver 21 = .ok (.getfield 12, 3) := by decide +kernel
theorem dX6_canGoOver_24 : decode cX6_canGoOver 24 = .ok (.iload 4, 2) := by decide +kernel
theorem dX6_canGoOver_26 : decode cX6_canGoOver 26 = .ok (.iload_n 2, 1) := by decide +kernel
theorem dX6_canGoOver_27 : decode cX6_canGoOver 27 = .ok (.invokevirtual 123, 3) := by decide +kernel
theorem dX6_canGoOver_30 : decode cX6_canGoOver 30 = .ok (.istore 5, 2) := by decide +kernel
theorem dX6_canGoOver_32 : decode cX6_canGoOver 32 = .ok (.iload 5, 2) := by decide +kernel
theorem dX6_canGoOver_34 : decode cX6_canGoOver 34 = .ok (.iconst (-1), 1) := by decide +kernel
theorem dX6_canGoOver_35 : decode cX6_canGoOver 35 = .ok (.if_icmp .eq 27, 3) := by decide +kernel
theorem dX6_canGoOver_38 : decode cX6_canGoOver 38 = .ok (.aload_n 0, 1) := by decide +kernel
theorem dX6_canGoOver_39 : decode cX6_canGoOver 39 = .ok (.getfield 12, 3) := by decide +kernel
theorem dX6_canGoOver_42 : decode cX6_canGoOver 42 = .ok (.iload 5, 2) := by decide +kernel
theorem dX6_canGoOver_44 : decode cX6_canGoOver 44 = .ok (.iload 4, 2) := by decide +kernel
theorem dX6_canGoOver_46 : decode cX6_canGoOver 46 = .ok (.aload_n 0, 1) := by decide +kernel
theorem dX6_canGoOver_47 : decode cX6_canGoOver 47 = .ok (.getfield 12, 3) := by decide +kernel
theorem dX6_canGoOver_50 : decode cX6_canGoOver 50 = .ok (.getfield 162, 3) := by decide +kernel
theorem dX6_canGoOver_53 : decode cX6_canGoOver 53 = .ok (.iload_n 3, 1) := by decide +kernel
theorem dX6_canGoOver_54 : decode cX6_canGoOver 54 = .ok (.iaload, 1) := by decide +kernel
theorem dX6_canGoOver_55 : decode cX6_canGoOver 55 = .ok (.invokevirtual 194, 3) := by decide +kernel
theorem dX6_canGoOver_58 : decode cX6_canGoOver 58 = .ok (.iload_n 2, 1) := by decide +kernel
theorem dX6_canGoOver_59 : decode cX6_canGoOver 59 = .ok (.if_icmp .eq 5, 3) := by decide +kernel
theorem dX6_canGoOver_62 : decode cX6_canGoOver 62 = .ok (.iconst 0, 1) := by decide +kernel
theorem dX6_canGoOver_63 : decode cX6_canGoOver 63 = .ok (.ireturn, 1) := by decide +kernel
theorem dX6_canGoOver_64 : decode cX6_canGoOver 64 = .ok (.aload_n 0, 1) := by decide +kernel
theorem dX6_canGoOver_65 : decode cX6_canGoOver 65 = .ok (.getfield 12, 3) := by decide +kernel
theorem dX6_canGoOver_68 : decode cX6_canGoOver 68 = .ok (.getfield 171, 3) := by decide +kernel
theorem dX6_canGoOver_71 : decode cX6_canGoOver 71 = .ok (.iload_n 1, 1) := by decide +kernel
theorem dX6_canGoOver_72 : decode cX6_canGoOver 72 = .ok (.iaload, 1) := by decide +kernel
theorem dX6_canGoOver_73 : decode cX6_canGoOver 73 = .ok (.iload_n 2, 1) := by decide +kernel
theorem dX6_canGoOver_74 : decode cX6_canGoOver 74 = .ok (.ishr, 1) := by decide +kernel
theorem dX6_canGoOver_75 : decode cX6_canGoOver 75 = .ok (.iconst 1, 1) := by decide +kernel
theorem dX6_canGoOver_76 : decode cX6_canGoOver 76 = .ok (.iand, 1) := by decide +kernel
theorem dX6_canGoOver_77 : decode cX6_canGoOver 77 = .ok (.iconst 1, 1) := by decide +kernel
theorem dX6_canGoOver_78 : decode cX6_canGoOver 78 = .ok (.if_icmp .eq 16, 3) := by decide +kernel
theorem dX6_canGoOver_81 : decode cX6_canGoOver 81 = .ok (.aload_n 0, 1) := by decide +kernel
theorem dX6_canGoOver_82 : decode cX6_canGoOver 82 = .ok (.getfield 12, 3) := by decide +kernel
theorem dX6_canGoOver_85 : decode cX6_canGoOver 85 = .ok (.getfield 159, 3) := by decide +kernel
theorem dX6_canGoOver_88 : decode cX6_canGoOver 88 = .ok (.iload_n 3, 1) := by decide +kernel
theorem dX6_canGoOver_89 : decode cX6_canGoOver 89 = .ok (.iaload, 1) := by decide +kernel
theorem dX6_canGoOver_90 : decode cX6_canGoOver 90 = .ok (.iload_n 2, 1) := by decide +kernel
theorem dX6_canGoOver_91 : decode cX6_canGoOver 91 = .ok (.if_icmp .ne 5, 3) := by decide +kernel
theorem dX6_canGoOver_94 : decode cX6_canGoOver 94 = .ok (.iconst 0, 1) := by decide +kernel
theorem dX6_canGoOver_95 : decode cX6_canGoOver 95 = .ok (.ireturn, 1) := by decide +kernel
theorem dX6_canGoOver_96 : decode cX6_canGoOver 96 = .ok (.aload_n 0, 1) := by decide +kernel
theorem dX6_canGoOver_97 : decode cX6_canGoOver 97 = .ok (.getfield 12, 3) := by decide +kernel
theorem dX6_canGoOver_100 : decode cX6_canGoOver 100 = .ok (.getfield 150, 3) := by decide +kernel
theorem dX6_canGoOver_103 : decode cX6_canGoOver 103 = .ok (.iload 5, 2) := by decide +kernel
theorem dX6_canGoOver_105 : decode cX6_canGoOver 105 = .ok (.iaload, 1) := by decide +kernel
theorem dX6_canGoOver_106 : decode cX6_canGoOver 106 = .ok (.istore 6, 2) := by decide +kernel
theorem dX6_canGoOver_108 : decode cX6_canGoOver 108 = .ok (.aload_n 0, 1) := by decide +kernel
theorem dX6_canGoOver_109 : decode cX6_canGoOver 109 = .ok (.getfield 12, 3) := by decide +kernel
theorem dX6_canGoOver_112 : decode cX6_canGoOver 112 = .ok (.getfield 153, 3) := by decide +kernel
theorem dX6_canGoOver_115 : decode cX6_canGoOver 115 = .ok (.iload 5, 2) := by decide +kernel
theorem dX6_canGoOver_117 : decode cX6_canGoOver 117 = .ok (.iaload, 1) := by decide +kernel
theorem dX6_canGoOver_118 : decode cX6_canGoOver 118 = .ok (.ifCond .ne 15, 3) := by decide +kernel
theorem dX6_canGoOver_121 : decode cX6_canGoOver 121 = .ok (.aload_n 0, 1) := by decide +kernel
theorem dX6_canGoOver_122 : decode cX6_canGoOver 122 = .ok (.getfield 12, 3) := by decide +kernel
theorem dX6_canGoOver_125 : decode cX6_canGoOver 125 = .ok (.getfield 177, 3) := by decide +kernel
theorem dX6_canGoOver_128 : decode cX6_canGoOver 128 = .ok (.iload_n 1, 1) := by decide +kernel
theorem dX6_canGoOver_129 : decode cX6_canGoOver 129 = .ok (.iaload, 1) := by decide +kernel
theorem dX6_canGoOver_130 : decode cX6_canGoOver 130 = .ok (.goto 12, 3) := by decide +kernel
theorem dX6_canGoOver_133 : decode cX6_canGoOver 133 = .ok (.aload_n 0, 1) := by decide +kernel
theorem dX6_canGoOver_134 : decode cX6_canGoOver 134 = .ok (.getfield 12, 3) := by decide +kernel
theorem dX6_canGoOver_137 : decode cX6_canGoOver 137 = .ok (.getfield 174, 3) := by decide +kernel
theorem dX6_canGoOver_140 : decode cX6_canGoOver 140 = .ok (.iload_n 1, 1) := by decide +kernel
theorem dX6_canGoOver_141 : decode cX6_canGoOver 141 = .ok (.iaload, 1) := by decide +kernel
theorem dX6_canGoOver_142 : decode cX6_canGoOver 142 = .ok (.istore 7, 2) := by decide +kernel
theorem dX6_canGoOver_144 : decode cX6_canGoOver 144 = .ok (.iload 6, 2) := by decide +kernel
theorem dX6_canGoOver_146 : decode cX6_canGoOver 146 = .ok (.iconst (-1), 1) := by decide +kernel
theorem dX6_canGoOver_147 : decode cX6_canGoOver 147 = .ok (.if_icmp .eq 13, 3) := by decide +kernel
theorem dX6_canGoOver_150 : decode cX6_canGoOver 150 = .ok (.iload 7, 2) := by decide +kernel
theorem dX6_canGoOver_152 : decode cX6_canGoOver 152 = .ok (.iload 6, 2) := by decide +kernel
theorem dX6_canGoOver_154 : decode cX6_canGoOver 154 = .ok (.ishr, 1) := by decide +kernel
theorem dX6_canGoOver_155 : decode cX6_canGoOver 155 = .ok (.iconst 1, 1) := by decide +kernel
theorem dX6_canGoOver_156 : decode cX6_canGoOver 156 = .ok (.iand, 1) := by decide +kernel
theorem dX6_canGoOver_157 : decode cX6_canGoOver 157 = .ok (.ifCond .ne 7, 3) := by decide +kernel
theorem dX6_canGoOver_160 : decode cX6_canGoOver 160 = .ok (.iconst 1, 1) := by decide +kernel
theorem dX6_canGoOver_161 : decode cX6_canGoOver 161 = .ok (.goto 4, 3) := by decide +kernel
theorem dX6_canGoOver_164 : decode cX6_canGoOver 164 = .ok (.iconst 0, 1) := by decide +kernel
theorem dX6_canGoOver_165 : decode cX6_canGoOver 165 = .ok (.ireturn, 1) := by decide +kernel
theorem dX6_addOver_0 : decode cX6_addOver 0 = .ok (.aload_n 0, 1) := by decide +kernel
theorem dX6_addOver_1 : decode cX6_addOver 1 = .ok (.getfield 12, 3) := by decide +kernel
theorem dX6_addOver_4 : decode cX6_addOver 4 = .ok (.aload_n 0, 1) := by decide +kernel
theorem dX6_addOver_5 : decode cX6_addOver 5 = .ok (.getfield 12, 3) := by decide +kernel
theorem dX6_addOver_8 : decode cX6_addOver 8 = .ok (.iload_n 1, 1) := by decide +kernel
theorem dX6_addOver_9 : decode cX6_addOver 9 = .ok (.invokevirtual 191, 3) := by decide +kernel
theorem dX6_addOver_12 : decode cX6_addOver 12 = .ok (.iload_n 2, 1) := by decide +kernel
theorem dX6_addOver_13 : decode cX6_addOver 13 = .ok (.invokevirtual 123, 3) := by decide +kernel
theorem dX6_addOver_16 : decode cX6_addOver 16 = .ok (.istore_n 3, 1) := by decide +kernel
theorem dX6_addOver_17 : decode cX6_addOver 17 = .ok (.iload_n 3, 1) := by decide +kernel
theorem dX6_addOver_18 : decode cX6_addOver 18 = .ok (.iconst (-1), 1) := by decide +kernel
theorem dX6_addOver_19 : decode cX6_addOver 19 = .ok (.if_icmp .ne 7, 3) := by decide +kernel
theorem dX6_addOver_22 : decode cX6_addOver 22 = .ok (.iconst (-1), 1) := by decide +kernel
theorem dX6_addOver_23 : decode cX6_addOver 23 = .ok (.goto 12, 3) := by decide +kernel
theorem dX6_addOver_26 : decode cX6_addOver 26 = .ok (.aload_n 0, 1) := by decide +kernel
theorem dX6_addOver_27 : decode cX6_addOver 27 = .ok (.getfield 12, 3) := by decide +kernel
theorem dX6_addOver_30 : decode cX6_addOver 30 = .ok (.getfield 150, 3) := by decide +kernel
theorem dX6_addOver_33 : decode cX6_addOver 33 = .ok (.iload_n 3, 1) := by decide +kernel
theorem dX6_addOver_34 : decode cX6_addOver 34 = .ok (.iaload, 1) := by decide +kernel
theorem dX6_addOver_35 : decode cX6_addOver 35 = .ok (.istore 4, 2) := by decide +kernel
theorem dX6_addOver_37 : decode cX6_addOver 37 = .ok (.iload 4, 2) := by decide +kernel
theorem dX6_addOver_39 : decode cX6_addOver 39 = .ok (.iconst (-1), 1) := by decide +kernel
theorem dX6_addOver_40 : decode cX6_addOver 40 = .ok (.if_icmp .eq 50, 3) := by decide +kernel
theorem dX6_addOver_43 : decode cX6_addOver 43 = .ok (.aload_n 0, 1) := by decide +kernel
theorem dX6_addOver_44 : decode cX6_addOver 44 = .ok (.getfield 12, 3) := by decide +kernel
theorem dX6_addOver_47 : decode cX6_addOver 47 = .ok (.getfield 153, 3) := by decide +kernel
theorem dX6_addOver_50 : decode cX6_addOver 50 = .ok (.iload_n 3, 1) := by decide +kernel
theorem dX6_addOver_51 : decode cX6_addOver 51 = .ok (.iaload, 1) := by decide +kernel
theorem dX6_addOver_52 : decode cX6_addOver 52 = .ok (.ifCond .ne 22, 3) := by decide +kernel
theorem dX6_addOver_55 : decode cX6_addOver 55 = .ok (.aload_n 0, 1) := by decide +kernel
theorem dX6_addOver_56 : decode cX6_addOver 56 = .ok (.getfield 12, 3) := by decide +kernel
theorem dX6_addOver_59 : decode cX6_addOver 59 = .ok (.getfield 174, 3) := by decide +kernel
theorem dX6_addOver_62 : decode cX6_addOver 62 = .ok (.iload_n 1, 1) := by decide +kernel
theorem dX6_addOver_63 : decode cX6_addOver 63 = .ok (.dup2, 1) := by decide +kernel
theorem dX6_addOver_64 : decode cX6_addOver 64 = .ok (.iaload, 1) := by decide +kernel
theorem dX6_addOver_65 : decode cX6_addOver 65 = .ok (.iconst 1, 1) := by decide +kernel
theorem dX6_addOver_66 : decode cX6_addOver 66 = .ok (.iload 4, 2) := by decide +kernel
theorem dX6_addOver_68 : decode cX6_addOver 68 = .ok (.ishl, 1) := by decide +kernel
theorem dX6_addOver_69 : decode cX6_addOver 69 = .ok (.ior, 1) := by decide +kernel
theorem dX6_addOver_70 : decode cX6_addOver 70 = .ok (.iastore, 1) := by decide +kernel
theorem dX6_addOver_71 : decode cX6_addOver 71 = .ok (.goto 19, 3) := by decide +kernel
theorem dX6_addOver_74 : decode cX6_addOver 74 = .ok (.aload_n 0, 1) := by decide +kernel
theorem dX6_addOver_75 : decode cX6_addOver 75 = .ok (.getfield 12, 3) := by decide +kernel
theorem dX6_addOver_78 : decode cX6_addOver 78 = .ok (.getfield 177, 3) := by decide +kernel
theorem dX6_addOver_81 : decode cX6_addOver 81 = .ok (.iload_n 1, 1) := by decide +kernel
theorem dX6_addOver_82 : decode cX6_addOver 82 = .ok (.dup2, 1) := by decide +kernel
theorem dX6_addOver_83 : decode cX6_addOver 83 = .ok (.iaload, 1) := by decide +kernel
theorem dX6_addOver_84 : decode cX6_addOver 84 = .ok (.iconst 1, 1) := by decide +kernel
theorem dX6_addOver_85 : decode cX6_addOver 85 = .ok (.iload 4, 2) := by decide +kernel
theorem dX6_addOver_87 : decode cX6_addOver 87 = .ok (.ishl, 1) := by decide +kernel
theorem dX6_addOver_88 : decode cX6_addOver 88 = .ok (.ior, 1) := by decide +kernel
theorem dX6_addOver_89 : decode cX6_addOver 89 = .ok (.iastore, 1) := by decide +kernel
theorem dX6_addOver_90 : decode cX6_addOver 90 = .ok (.aload_n 0, 1) := by decide +kernel
theorem dX6_addOver_91 : decode cX6_addOver 91 = .ok (.getfield 12, 3) := by decide +kernel
theorem dX6_addOver_94 : decode cX6_addOver 94 = .ok (.getfield 198, 3) := by decide +kernel
theorem dX6_addOver_97 : decode cX6_addOver 97 = .ok (.iload_n 1, 1) := by decide +kernel
theorem dX6_addOver_98 : decode cX6_addOver 98 = .ok (.bipush 6, 2) := by decide +kernel
theorem dX6_addOver_100 : decode cX6_addOver 100 = .ok (.imul, 1) := by decide +kernel
theorem dX6_addOver_101 : decode cX6_addOver 101 = .ok (.aload_n 0, 1) := by decide +kernel
theorem dX6_addOver_102 : decode cX6_addOver 102 = .ok (.getfield 12, 3) := by decide +kernel
theorem dX6_addOver_105 : decode cX6_addOver 105 = .ok (.getfield 168, 3) := by decide +kernel
theorem dX6_addOver_108 : decode cX6_addOver 108 = .ok (.iload_n 1, 1) := by decide +kernel
theorem dX6_addOver_109 : decode cX6_addOver 109 = .ok (.iaload, 1) := by decide +kernel
theorem dX6_addOver_110 : decode cX6_addOver 110 = .ok (.iadd, 1) := by decide +kernel
theorem dX6_addOver_111 : decode cX6_addOver 111 = .ok (.iload_n 2, 1) := by decide +kernel
theorem dX6_addOver_112 : decode cX6_addOver 112 = .ok (.iastore, 1) := by decide +kernel
theorem dX6_addOver_113 : decode cX6_addOver 113 = .ok (.aload_n 0, 1) := by decide +kernel
theorem dX6_addOver_114 : decode cX6_addOver 114 = .ok (.getfield 12, 3) := by decide +kernel
theorem dX6_addOver_117 : decode cX6_addOver 117 = .ok (.getfield 168, 3) := by decide +kernel
theorem dX6_addOver_120 : decode cX6_addOver 120 = .ok (.iload_n 1, 1) := by decide +kernel
theorem dX6_addOver_121 : decode cX6_addOver 121 = .ok (.dup2, 1) := by decide +kernel
theorem dX6_addOver_122 : decode cX6_addOver 122 = .ok (.iaload, 1) := by decide +kernel
theorem dX6_addOver_123 : decode cX6_addOver 123 = .ok (.iconst 1, 1) := by decide +kernel
theorem dX6_addOver_124 : decode cX6_addOver 124 = .ok (.iadd, 1) := by decide +kernel
theorem dX6_addOver_125 : decode cX6_addOver 125 = .ok (.iastore, 1) := by decide +kernel
theorem dX6_addOver_126 : decode cX6_addOver 126 = .ok (.aload_n 0, 1) := by decide +kernel
theorem dX6_addOver_127 : decode cX6_addOver 127 = .ok (.getfield 12, 3) := by decide +kernel
theorem dX6_addOver_130 : decode cX6_addOver 130 = .ok (.getfield 171, 3) := by decide +kernel
theorem dX6_addOver_133 : decode cX6_addOver 133 = .ok (.iload_n 1, 1) := by decide +kernel
theorem dX6_addOver_134 : decode cX6_addOver 134 = .ok (.dup2, 1) := by decide +kernel
theorem dX6_addOver_135 : decode cX6_addOver 135 = .ok (.iaload, 1) := by decide +kernel
theorem dX6_addOver_136 : decode cX6_addOver 136 = .ok (.iconst 1, 1) := by decide +kernel
theorem dX6_addOver_137 : decode cX6_addOver 137 = .ok (.iload_n 2, 1) := by decide +kernel
theorem dX6_addOver_138 : decode cX6_addOver 138 = .ok (.ishl, 1) := by decide +kernel
theorem dX6_addOver_139 : decode cX6_addOver 139 = .ok (.ior, 1) := by decide +kernel
theorem dX6_addOver_140 : decode cX6_addOver 140 = .ok (.iastore, 1) := by decide +kernel
theorem dX6_addOver_141 : decode cX6_addOver 141 = .ok (.return_, 1) := by decide +kernel
theorem dX6_readLock_0 : decode cX6_readLock 0 = .ok (.aload_n 1, 1) := by decide +kernel
theorem dX6_readLock_1 : decode cX6_readLock 1 = .ok (.aload_n 0, 1) := by decide +kernel
theorem dX6_readLock_2 : decode cX6_readLock 2 = .ok (.getfield 12, 3) := by decide +kernel
theorem dX6_readLock_5 : decode cX6_readLock 5 = .ok (.iconst 4, 1) := by decide +kernel
theorem dX6_readLock_6 : decode cX6_readLock 6 = .ok (.invokevirtual 116, 3) := by decide +kernel
theorem dX6_readLock_9 : decode cX6_readLock 9 = .ok (.istore_n 2, 1) := by decide +kernel
theorem dX6_readLock_10 : decode cX6_readLock 10 = .ok (.iload_n 2, 1) := by decide +kernel
theorem dX6_readLock_11 : decode cX6_readLock 11 = .ok (.iconst (-1), 1) := by decide +kernel
theorem dX6_readLock_12 : decode cX6_readLock 12 = .ok (.if_icmp .ne 7, 3) := by decide +kernel
theorem dX6_readLock_15 : decode cX6_readLock 15 = .ok (.iconst (-1), 1) := by decide +kernel
theorem dX6_readLock_16 : decode cX6_readLock 16 = .ok (.goto 12, 3) := by decide +kernel
theorem dX6_readLock_19 : decode cX6_readLock 19 = .ok (.aload_n 1, 1) := by decide +kernel
theorem dX6_readLock_20 : decode cX6_readLock 20 = .ok (.aload_n 0, 1) := by decide +kernel
theorem dX6_readLock_21 : decode cX6_readLock 21 = .ok (.getfield 12, 3) := by decide +kernel
theorem dX6_readLock_24 : decode cX6_readLock 24 = .ok (.iconst 4, 1) := by decide +kernel
theorem dX6_readLock_25 : decode cX6_readLock 25 = .ok (.invokevirtual 116, 3) := by decide +kernel
theorem dX6_readLock_28 : decode cX6_readLock 28 = .ok (.istore_n 3, 1) := by decide +kernel
theorem dX6_readLock_29 : decode cX6_readLock 29 = .ok (.iload_n 3, 1) := by decide +kernel
theorem dX6_readLock_30 : decode cX6_readLock 30 = .ok (.iconst (-1), 1) := by decide +kernel
theorem dX6_readLock_31 : decode cX6_readLock 31 = .ok (.if_icmp .ne 5, 3) := by decide +kernel
theorem dX6_readLock_34 : decode cX6_readLock 34 = .ok (.iconst 0, 1) := by decide +kernel
theorem dX6_readLock_35 : decode cX6_readLock 35 = .ok (.ireturn, 1) := by decide +kernel
theorem dX6_readLock_36 : decode cX6_readLock 36 = .ok (.iload_n 2, 1) := by decide +kernel
theorem dX6_readLock_37 : decode cX6_readLock 37 = .ok (.iload_n 3, 1) := by decide +kernel
theorem dX6_readLock_38 : decode cX6_readLock 38 = .ok (.if_icmp .eq 20, 3) := by decide +kernel
theorem dX6_readLock_41 : decode cX6_readLock 41 = .ok (.aload_n 0, 1) := by decide +kernel
theorem dX6_readLock_42 : decode cX6_readLock 42 = .ok (.getfield 12, 3) := by decide +kernel
theorem dX6_readLock_45 : decode cX6_readLock 45 = .ok (.getfield 180, 3) := by decide +kernel
theorem dX6_readLock_48 : decode cX6_readLock 48 = .ok (.iload_n 2, 1) := by decide +kernel
theorem dX6_readLock_49 : decode cX6_readLock 49 = .ok (.iaload, 1) := by decide +kernel
theorem dX6_readLock_50 : decode cX6_readLock 50 = .ok (.iload_n 3, 1) := by decide +kernel
theorem dX6_readLock_51 : decode cX6_readLock 51 = .ok (.ishr, 1) := by decide +kernel
theorem dX6_readLock_52 : decode cX6_readLock 52 = .ok (.iconst 1, 1) := by decide +kernel
theorem dX6_readLock_53 : decode cX6_readLock 53 = .ok (.iand, 1) := by decide +kernel
theorem dX6_readLock_54 : decode cX6_readLock 54 = .ok (.iconst 1, 1) := by decide +kernel
theorem dX6_readLock_55 : decode cX6_readLock 55 = .ok (.if_icmp .ne 9, 3) := by decide +kernel
theorem dX6_readLock_58 : decode cX6_readLock 58 = .ok (.aload_n 1, 1) := by decide +kernel
theorem dX6_readLock_59 : decode cX6_readLock 59 = .ok (.iconst 3, 1) := by decide +kernel
theorem dX6_readLock_60 : decode cX6_readLock 60 = .ok (.invokevirtual 82, 3) := by decide +kernel
theorem dX6_readLock_63 : decode cX6_readLock 63 = .ok (.ireturn, 1) := by decide +kernel
theorem dX6_readLock_64 : decode cX6_readLock 64 = .ok (.aload_n 0, 1) := by decide +kernel
theorem dX6_readLock_65 : decode cX6_readLock 65 = .ok (.getfield 12, 3) := by decide +kernel
theorem dX6_readLock_68 : decode cX6_readLock 68 = .ok (.getfield 180, 3) := by decide +kernel
theorem dX6_readLock_71 : decode cX6_readLock 71 = .ok (.iload_n 2, 1) := by decide +kernel
theorem dX6_readLock_72 : decode cX6_readLock 72 = .ok (.dup2, 1) := by decide +kernel
theorem dX6_readLock_73 : decode cX6_readLock 73 = .ok (.iaload, 1) := by decide +kernel
theorem dX6_readLock_74 : decode cX6_readLock 74 = .ok (.iconst 1, 1) := by decide +kernel
theorem dX6_readLock_75 : decode cX6_readLock 75 = .ok (.iload_n 3, 1) := by decide +kernel
theorem dX6_readLock_76 : decode cX6_readLock 76 = .ok (.ishl, 1) := by decide +kernel
theorem dX6_readLock_77 : decode cX6_readLock 77 = .ok (.ior, 1) := by decide +kernel
theorem dX6_readLock_78 : decode cX6_readLock 78 = .ok (.iastore, 1) := by decide +kernel
theorem dX6_readLock_79 : decode cX6_readLock 79 = .ok (.aload_n 0, 1) := by decide +kernel
theorem dX6_readLock_80 : decode cX6_readLock 80 = .ok (.getfield 12, 3) := by decide +kernel
theorem dX6_readLock_83 : decode cX6_readLock 83 = .ok (.getfield 180, 3) := by decide +kernel
theorem dX6_readLock_86 : decode cX6_readLock 86 = .ok (.iload_n 3, 1) := by decide +kernel
theorem dX6_readLock_87 : decode cX6_readLock 87 = .ok (.dup2, 1) := by decide +kernel
theorem dX6_readLock_88 : decode cX6_readLock 88 = .ok (.iaload, 1) := by decide +kernel
theorem dX6_readLock_89 : decode cX6_readLock 89 = .ok (.iconst 1, 1) := by decide +kernel
theorem dX6_readLock_90 : decode cX6_readLock 90 = .ok (.iload_n 2, 1) := by decide +kernel
theorem dX6_readLock_91 : decode cX6_readLock 91 = .ok (.ishl, 1) := by decide +kernel
theorem dX6_readLock_92 : decode cX6_readLock 92 = .ok (.ior, 1) := by decide +kernel
theorem dX6_readLock_93 : decode cX6_readLock 93 = .ok (.iastore, 1) := by decide +kernel
theorem dX6_readLock_94 : decode cX6_readLock 94 = .ok (.aload_n 0, 1) := by decide +kernel
theorem dX6_readLock_95 : decode cX6_readLock 95 = .ok (.getfield 12, 3) := by decide +kernel
theorem dX6_readLock_98 : decode cX6_readLock 98 = .ok (.getfield 86, 3) := by decide +kernel
theorem dX6_readLock_101 : decode cX6_readLock 101 = .ok (.iconst 5, 1) := by decide +kernel
theorem dX6_readLock_102 : decode cX6_readLock 102 = .ok (.dup2, 1) := by decide +kernel
theorem dX6_readLock_103 : decode cX6_readLock 103 = .ok (.iaload, 1) := by decide +kernel
theorem dX6_readLock_104 : decode cX6_readLock 104 = .ok (.iconst 1, 1) := by decide +kernel
theorem dX6_readLock_105 : decode cX6_readLock 105 = .ok (.iadd, 1) := by decide +kernel
theorem dX6_readLock_106 : decode cX6_readLock 106 = .ok (.iastore, 1) := by decide +kernel
theorem dX6_readLock_107 : decode cX6_readLock 107 = .ok (.aload_n 1, 1) := by decide +kernel
theorem dX6_readLock_108 : decode cX6_readLock 108 = .ok (.invokestatic 113, 3) := by decide +kernel
theorem dX6_readLock_111 : decode cX6_readLock 111 = .ok (.ireturn, 1) := by decide +kernel
theorem dX6_readTrain_0 : decode cX6_readTrain 0 = .ok (.aload_n 0, 1) := by decide +kernel
theorem dX6_readTrain_1 : decode cX6_readTrain 1 = .ok (.aload_n 1, 1) := by decide +kernel
theorem dX6_readTrain_2 : decode cX6_readTrain 2 = .ok (.bipush 6, 2) := by decide +kernel
theorem dX6_readTrain_4 : decode cX6_readTrain 4 = .ok (.iconst 5, 1) := by decide +kernel
theorem dX6_readTrain_5 : decode cX6_readTrain 5 = .ok (.invokevirtual 90, 3) := by decide +kernel
theorem dX6_readTrain_8 : decode cX6_readTrain 8 = .ok (.ifCond .eq 14, 3) := by decide +kernel
theorem dX6_readTrain_11 : decode cX6_readTrain 11 = .ok (.aload_n 1, 1) := by decide +kernel
theorem dX6_readTrain_12 : decode cX6_readTrain 12 = .ok (.aload_n 0, 1) := by decide +kernel
theorem dX6_readTrain_13 : decode cX6_readTrain 13 = .ok (.getfield 12, 3) := by decide +kernel
theorem dX6_readTrain_16 : decode cX6_readTrain 16 = .ok (.invokevirtual 94, 3) := by decide +kernel
theorem dX6_readTrain_19 : decode cX6_readTrain 19 = .ok (.ifCond .ne 5, 3) := by decide +kernel
theorem dX6_readTrain_22 : decode cX6_readTrain 22 = .ok (.iconst 0, 1) := by decide +kernel
theorem dX6_readTrain_23 : decode cX6_readTrain 23 = .ok (.ireturn, 1) := by decide +kernel
theorem dX6_readTrain_24 : decode cX6_readTrain 24 = .ok (.aload_n 1, 1) := by decide +kernel
theorem dX6_readTrain_25 : decode cX6_readTrain 25 = .ok (.getfield 98, 3) := by decide +kernel
theorem dX6_readTrain_28 : decode cX6_readTrain 28 = .ok (.lstore_n 2, 1) := by decide +kernel
theorem dX6_readTrain_29 : decode cX6_readTrain 29 = .ok (.aload_n 1, 1) := by decide +kernel
theorem dX6_readTrain_30 : decode cX6_readTrain 30 = .ok (.aload_n 0, 1) := by decide +kernel
theorem dX6_readTrain_31 : decode cX6_readTrain 31 = .ok (.getfield 12, 3) := by decide +kernel
theorem dX6_readTrain_34 : decode cX6_readTrain 34 = .ok (.iconst 0, 1) := by decide +kernel
theorem dX6_readTrain_35 : decode cX6_readTrain 35 = .ok (.invokevirtual 116, 3) := by decide +kernel
theorem dX6_readTrain_38 : decode cX6_readTrain 38 = .ok (.istore 4, 2) := by decide +kernel
theorem dX6_readTrain_40 : decode cX6_readTrain 40 = .ok (.iload 4, 2) := by decide +kernel
theorem dX6_readTrain_42 : decode cX6_readTrain 42 = .ok (.iconst (-1), 1) := by decide +kernel
theorem dX6_readTrain_43 : decode cX6_readTrain 43 = .ok (.if_icmp .ne 5, 3) := by decide +kernel
theorem dX6_readTrain_46 : decode cX6_readTrain 46 = .ok (.iconst 0, 1) := by decide +kernel
theorem dX6_readTrain_47 : decode cX6_readTrain 47 = .ok (.ireturn, 1) := by decide +kernel
theorem dX6_readTrain_48 : decode cX6_readTrain 48 = .ok (.iconst 0, 1) := by decide +kernel
theorem dX6_readTrain_49 : decode cX6_readTrain 49 = .ok (.istore 5, 2) := by decide +kernel
theorem dX6_readTrain_51 : decode cX6_readTrain 51 = .ok (.iload 5, 2) := by decide +kernel
theorem dX6_readTrain_53 : decode cX6_readTrain 53 = .ok (.aload_n 0, 1) := by decide +kernel
theorem dX6_readTrain_54 : decode cX6_readTrain 54 = .ok (.getfield 12, 3) := by decide +kernel
theorem dX6_readTrain_57 : decode cX6_readTrain 57 = .ok (.getfield 86, 3) := by decide +kernel
theorem dX6_readTrain_60 : decode cX6_readTrain 60 = .ok (.bipush 6, 2) := by decide +kernel
theorem dX6_readTrain_62 : decode cX6_readTrain 62 = .ok (.iaload, 1) := by decide +kernel
theorem dX6_readTrain_63 : decode cX6_readTrain 63 = .ok (.if_icmp .ge 30, 3) := by decide +kernel
theorem dX6_readTrain_66 : decode cX6_readTrain 66 = .ok (.aload_n 0, 1) := by decide +kernel
theorem dX6_readTrain_67 : decode cX6_readTrain 67 = .ok (.getfield 12, 3) := by decide +kernel
theorem dX6_readTrain_70 : decode cX6_readTrain 70 = .ok (.getfield 201, 3) := by decide +kernel
theorem dX6_readTrain_73 : decode cX6_readTrain 73 = .ok (.iload 5, 2) := by decide +kernel
theorem dX6_readTrain_75 : decode cX6_readTrain 75 = .ok (.iaload, 1) := by decide +kernel
theorem dX6_readTrain_76 : decode cX6_readTrain 76 = .ok (.iload 4, 2) := by decide +kernel
theorem dX6_readTrain_78 : decode cX6_readTrain 78 = .ok (.if_icmp .ne 9, 3) := by decide +kernel
theorem dX6_readTrain_81 : decode cX6_readTrain 81 = .ok (.aload_n 1, 1) := by decide +kernel
theorem dX6_readTrain_82 : decode cX6_readTrain 82 = .ok (.iconst 3, 1) := by decide +kernel
theorem dX6_readTrain_83 : decode cX6_readTrain 83 = .ok (.invokevirtual 82, 3) := by decide +kernel
theorem dX6_readTrain_86 : decode cX6_readTrain 86 = .ok (.ireturn, 1) := by decide +kernel
theorem dX6_readTrain_87 : decode cX6_readTrain 87 = .ok (.iinc 5 1, 3) := by decide +kernel
theorem dX6_readTrain_90 : decode cX6_readTrain 90 = .ok (.goto (-39), 3) := by decide +kernel
theorem dX6_readTrain_93 : decode cX6_readTrain 93 = .ok (.aload_n 1, 1) := by decide +kernel
theorem dX6_readTrain_94 : decode cX6_readTrain 94 = .ok (.bipush 11, 2) := by decide +kernel
theorem dX6_readTrain_96 : decode cX6_readTrain 96 = .ok (.invokevirtual 133, 3) := by decide +kernel
theorem dX6_readTrain_99 : decode cX6_readTrain 99 = .ok (.istore 5, 2) := by decide +kernel
theorem dX6_readTrain_101 : decode cX6_readTrain 101 = .ok (.iload 5, 2) := by decide +kernel
theorem dX6_readTrain_103 : decode cX6_readTrain 103 = .ok (.iconst (-1), 1) := by decide +kernel
theorem dX6_readTrain_104 : decode cX6_readTrain 104 = .ok (.if_icmp .ne 5, 3) := by decide +kernel
theorem dX6_readTrain_107 : decode cX6_readTrain 107 = .ok (.iconst 0, 1) := by decide +kernel
theorem dX6_readTrain_108 : decode cX6_readTrain 108 = .ok (.ireturn, 1) := by decide +kernel
theorem dX6_readTrain_109 : decode cX6_readTrain 109 = .ok (.aload_n 0, 1) := by decide +kernel
theorem dX6_readTrain_110 : decode cX6_readTrain 110 = .ok (.getfield 12, 3) := by decide +kernel
theorem dX6_readTrain_113 : decode cX6_readTrain 113 = .ok (.bipush 6, 2) := by decide +kernel
theorem dX6_readTrain_115 : decode cX6_readTrain 115 = .ok (.lload_n 2, 1) := by decide +kernel
theorem dX6_readTrain_116 : decode cX6_readTrain 116 = .ok (.invokevirtual 109, 3) := by decide +kernel
theorem dX6_readTrain_119 : decode cX6_readTrain 119 = .ok (.istore 6, 2) := by decide +kernel
theorem dX6_readTrain_121 : decode cX6_readTrain 121 = .ok (.aload_n 0, 1) := by decide +kernel
theorem dX6_readTrain_122 : decode cX6_readTrain 122 = .ok (.getfield 12, 3) := by decide +kernel
theorem dX6_readTrain_125 : decode cX6_readTrain 125 = .ok (.getfield 201, 3) := by decide +kernel
theorem dX6_readTrain_128 : decode cX6_readTrain 128 = .ok (.iload 6, 2) := by decide +kernel
theorem dX6_readTrain_130 : decode cX6_readTrain 130 = .ok (.iload 4, 2) := by decide +kernel
theorem dX6_readTrain_132 : decode cX6_readTrain 132 = .ok (.iastore, 1) := by decide +kernel
theorem dX6_readTrain_133 : decode cX6_readTrain 133 = .ok (.aload_n 0, 1) := by decide +kernel
theorem dX6_readTrain_134 : decode cX6_readTrain 134 = .ok (.getfield 12, 3) := by decide +kernel
theorem dX6_readTrain_137 : decode cX6_readTrain 137 = .ok (.getfield 204, 3) := by decide +kernel
theorem dX6_readTrain_140 : decode cX6_readTrain 140 = .ok (.iload 6, 2) := by decide +kernel
theorem dX6_readTrain_142 : decode cX6_readTrain 142 = .ok (.iload 5, 2) := by decide +kernel
theorem dX6_readTrain_144 : decode cX6_readTrain 144 = .ok (.iastore, 1) := by decide +kernel
theorem dX6_readTrain_145 : decode cX6_readTrain 145 = .ok (.aload_n 1, 1) := by decide +kernel
theorem dX6_readTrain_146 : decode cX6_readTrain 146 = .ok (.invokestatic 113, 3) := by decide +kernel
theorem dX6_readTrain_149 : decode cX6_readTrain 149 = .ok (.ireturn, 1) := by decide +kernel
theorem dX6_readHold_0 : decode cX6_readHold 0 = .ok (.aload_n 0, 1) := by decide +kernel
theorem dX6_readHold_1 : decode cX6_readHold 1 = .ok (.getfield 22, 3) := by decide +kernel
theorem dX6_readHold_4 : decode cX6_readHold 4 = .ok (.ifCond .eq 9, 3) := by decide +kernel
theorem dX6_readHold_7 : decode cX6_readHold 7 = .ok (.aload_n 1, 1) := by decide +kernel
theorem dX6_readHold_8 : decode cX6_readHold 8 = .ok (.iconst 3, 1) := by decide +kernel
theorem dX6_readHold_9 : decode cX6_readHold 9 = .ok (.invokevirtual 82, 3) := by decide +kernel
theorem dX6_readHold_12 : decode cX6_readHold 12 = .ok (.ireturn, 1) := by decide +kernel
theorem dX6_readHold_13 : decode cX6_readHold 13 = .ok (.aload_n 1, 1) := by decide +kernel
theorem dX6_readHold_14 : decode cX6_readHold 14 = .ok (.iconst 1, 1) := by decide +kernel
theorem dX6_readHold_15 : decode cX6_readHold 15 = .ok (.bipush 30, 2) := by decide +kernel
theorem dX6_readHold_17 : decode cX6_readHold 17 = .ok (.invokevirtual 102, 3) := by decide +kernel
theorem dX6_readHold_20 : decode cX6_readHold 20 = .ok (.istore_n 2, 1) := by decide +kernel
theorem dX6_readHold_21 : decode cX6_readHold 21 = .ok (.iload_n 2, 1) := by decide +kernel
theorem dX6_readHold_22 : decode cX6_readHold 22 = .ok (.iconst (-1), 1) := by decide +kernel
theorem dX6_readHold_23 : decode cX6_readHold 23 = .ok (.if_icmp .ne 5, 3) := by decide +kernel
theorem dX6_readHold_26 : decode cX6_readHold 26 = .ok (.iconst 0, 1) := by decide +kernel
theorem dX6_readHold_27 : decode cX6_readHold 27 = .ok (.ireturn, 1) := by decide +kernel
theorem dX6_readHold_28 : decode cX6_readHold 28 = .ok (.aload_n 0, 1) := by decide +kernel
theorem dX6_readHold_29 : decode cX6_readHold 29 = .ok (.iconst 1, 1) := by decide +kernel
theorem dX6_readHold_30 : decode cX6_readHold 30 = .ok (.putfield 22, 3) := by decide +kernel
theorem dX6_readHold_33 : decode cX6_readHold 33 = .ok (.aload_n 0, 1) := by decide +kernel
theorem dX6_readHold_34 : decode cX6_readHold 34 = .ok (.getfield 12, 3) := by decide +kernel
theorem dX6_readHold_37 : decode cX6_readHold 37 = .ok (.getfield 86, 3) := by decide +kernel
theorem dX6_readHold_40 : decode cX6_readHold 40 = .ok (.bipush 7, 2) := by decide +kernel
theorem dX6_readHold_42 : decode cX6_readHold 42 = .ok (.iload_n 2, 1) := by decide +kernel
theorem dX6_readHold_43 : decode cX6_readHold 43 = .ok (.iastore, 1) := by decide +kernel
theorem dX6_readHold_44 : decode cX6_readHold 44 = .ok (.aload_n 1, 1) := by decide +kernel
theorem dX6_readHold_45 : decode cX6_readHold 45 = .ok (.invokestatic 113, 3) := by decide +kernel
theorem dX6_readHold_48 : decode cX6_readHold 48 = .ok (.ireturn, 1) := by decide +kernel
theorem dX7_init_0 : decode cX7_init 0 = .ok (.aload_n 0, 1) := by decide +kernel
theorem dX7_init_1 : decode cX7_init 1 = .ok (.invokespecial 3, 3) := by decide +kernel
theorem dX7_init_4 : decode cX7_init 4 = .ok (.aload_n 0, 1) := by decide +kernel
theorem dX7_init_5 : decode cX7_init 5 = .ok (.iconst 0, 1) := by decide +kernel
theorem dX7_init_6 : decode cX7_init 6 = .ok (.putfield 9, 3) := by decide +kernel
theorem dX7_init_9 : decode cX7_init 9 = .ok (.aload_n 0, 1) := by decide +kernel
theorem dX7_init_10 : decode cX7_init 10 = .ok (.iconst 0, 1) := by decide +kernel
theorem dX7_init_11 : decode cX7_init 11 = .ok (.putfield 15, 3) := by decide +kernel
theorem dX7_init_14 : decode cX7_init 14 = .ok (.aload_n 0, 1) := by decide +kernel
theorem dX7_init_15 : decode cX7_init 15 = .ok (.iconst 0, 1) := by decide +kernel
theorem dX7_init_16 : decode cX7_init 16 = .ok (.putfield 19, 3) := by decide +kernel
theorem dX7_init_19 : decode cX7_init 19 = .ok (.aload_n 0, 1) := by decide +kernel
theorem dX7_init_20 : decode cX7_init 20 = .ok (.bipush 40, 2) := by decide +kernel
theorem dX7_init_22 : decode cX7_init 22 = .ok (.newarray .int, 2) := by decide +kernel
theorem dX7_init_24 : decode cX7_init 24 = .ok (.putfield 22, 3) := by decide +kernel
theorem dX7_init_27 : decode cX7_init 27 = .ok (.aload_n 0, 1) := by decide +kernel
theorem dX7_init_28 : decode cX7_init 28 = .ok (.bipush 40, 2) := by decide +kernel
theorem dX7_init_30 : decode cX7_init 30 = .ok (.newarray .int, 2) := by decide +kernel
theorem dX7_init_32 : decode cX7_init 32 = .ok (.putfield 26, 3) := by decide +kernel
theorem dX7_init_35 : decode cX7_init 35 = .ok (.aload_n 0, 1) := by decide +kernel
theorem dX7_init_36 : decode cX7_init 36 = .ok (.bipush 40, 2) := by decide +kernel
theorem dX7_init_38 : decode cX7_init 38 = .ok (.newarray .int, 2) := by decide +kernel
theorem dX7_init_40 : decode cX7_init 40 = .ok (.putfield 29, 3) := by decide +kernel
theorem dX7_init_43 : decode cX7_init 43 = .ok (.aload_n 0, 1) := by decide +kernel
theorem dX7_init_44 : decode cX7_init 44 = .ok (.bipush 40, 2) := by decide +kernel
theorem dX7_init_46 : decode cX7_init 46 = .ok (.newarray .int, 2) := by decide +kernel
theorem dX7_init_48 : decode cX7_init 48 = .ok (.putfield 32, 3) := by decide +kernel
theorem dX7_init_51 : decode cX7_init 51 = .ok (.return_, 1) := by decide +kernel
theorem dX7_copyFrom_0 : decode cX7_copyFrom 0 = .ok (.aload_n 0, 1) := by decide +kernel
theorem dX7_copyFrom_1 : decode cX7_copyFrom 1 = .ok (.aload_n 1, 1) := by decide +kernel
theorem dX7_copyFrom_2 : decode cX7_copyFrom 2 = .ok (.getfield 9, 3) := by decide +kernel
theorem dX7_copyFrom_5 : decode cX7_copyFrom 5 = .ok (.putfield 9, 3) := by decide +kernel
theorem dX7_copyFrom_8 : decode cX7_copyFrom 8 = .ok (.aload_n 0, 1) := by decide +kernel
theorem dX7_copyFrom_9 : decode cX7_copyFrom 9 = .ok (.aload_n 1, 1) := by decide +kernel
theorem dX7_copyFrom_10 : decode cX7_copyFrom 10 = .ok (.getfield 15, 3) := by decide +kernel
theorem dX7_copyFrom_13 : decode cX7_copyFrom 13 = .ok (.putfield 15, 3) := by decide +kernel
theorem dX7_copyFrom_16 : decode cX7_copyFrom 16 = .ok (.aload_n 0, 1) := by decide +kernel
theorem dX7_copyFrom_17 : decode cX7_copyFrom 17 = .ok (.aload_n 1, 1) := by decide +kernel
theorem dX7_copyFrom_18 : decode cX7_copyFrom 18 = .ok (.getfield 19, 3) := by decide +kernel
theorem dX7_copyFrom_21 : decode cX7_copyFrom 21 = .ok (.putfield 19, 3) := by decide +kernel
theorem dX7_copyFrom_24 : decode cX7_copyFrom 24 = .ok (.aload_n 1, 1) := by decide +kernel
theorem dX7_copyFrom_25 : decode cX7_copyFrom 25 = .ok (.getfield 22, 3) := by decide +kernel
theorem dX7_copyFrom_28 : decode cX7_copyFrom 28 = .ok (.aload_n 0, 1) := by decide +kernel
theorem dX7_copyFrom_29 : decode cX7_copyFrom 29 = .ok (.getfield 22, 3) := by decide +kernel
theorem dX7_copyFrom_32 : decode cX7_copyFrom 32 = .ok (.invokestatic 35, 3) := by decide +kernel
theorem dX7_copyFrom_35 : decode cX7_copyFrom 35 = .ok (.aload_n 1, 1) := by decide +kernel
theorem dX7_copyFrom_36 : decode cX7_copyFrom 36 = .ok (.getfield 26, 3) := by decide +kernel
theorem dX7_copyFrom_39 : decode cX7_copyFrom 39 = .ok (.aload_n 0, 1) := by decide +kernel
theorem dX7_copyFrom_40 : decode cX7_copyFrom 40 = .ok (.getfield 26, 3) := by decide +kernel
theorem dX7_copyFrom_43 : decode cX7_copyFrom 43 = .ok (.invokestatic 35, 3) := by decide +kernel
theorem dX7_copyFrom_46 : decode cX7_copyFrom 46 = .ok (.aload_n 1, 1) := by decide +kernel
theorem dX7_copyFrom_47 : decode cX7_copyFrom 47 = .ok (.getfield 29, 3) := by decide +kernel
theorem dX7_copyFrom_50 : decode cX7_copyFrom 50 = .ok (.aload_n 0, 1) := by decide +kernel
theorem dX7_copyFrom_51 : decode cX7_copyFrom 51 = .ok (.getfield 29, 3) := by decide +kernel
theorem dX7_copyFrom_54 : decode cX7_copyFrom 54 = .ok (.invokestatic 35, 3) := by decide +kernel
theorem dX7_copyFrom_57 : decode cX7_copyFrom 57 = .ok (.return_, 1) := by decide +kernel
theorem dX7_readOnes_0 : decode cX7_readOnes 0 = .ok (.aload_n 1, 1) := by decide +kernel
theorem dX7_readOnes_1 : decode cX7_readOnes 1 = .ok (.sipush 200, 3) := by decide +kernel
theorem dX7_readOnes_4 : decode cX7_readOnes 4 = .ok (.invokevirtual 39, 3) := by decide +kernel
theorem dX7_readOnes_7 : decode cX7_readOnes 7 = .ok (.aload_n 0, 1) := by decide +kernel
theorem dX7_readOnes_8 : decode cX7_readOnes 8 = .ok (.iconst 0, 1) := by decide +kernel
theorem dX7_readOnes_9 : decode cX7_readOnes 9 = .ok (.putfield 15, 3) := by decide +kernel
theorem dX7_readOnes_12 : decode cX7_readOnes 12 = .ok (.aload_n 0, 1) := by decide +kernel
theorem dX7_readOnes_13 : decode cX7_readOnes 13 = .ok (.iconst 0, 1) := by decide +kernel
theorem dX7_readOnes_14 : decode cX7_readOnes 14 = .ok (.putfield 19, 3) := by decide +kernel
theorem dX7_readOnes_17 : decode cX7_readOnes 17 = .ok (.aload_n 0, 1) := by decide +kernel
theorem dX7_readOnes_18 : decode cX7_readOnes 18 = .ok (.iconst 0, 1) := by decide +kernel
theorem dX7_readOnes_19 : decode cX7_readOnes 19 = .ok (.putfield 9, 3) := by decide +kernel
theorem dX7_readOnes_22 : decode cX7_readOnes 22 = .ok (.aload_n 1, 1) := by decide +kernel
theorem dX7_readOnes_23 : decode cX7_readOnes 23 = .ok (.invokevirtual 45, 3) := by decide +kernel
theorem dX7_readOnes_26 : decode cX7_readOnes 26 = .ok (.aload_n 0, 1) := by decide +kernel
theorem dX7_readOnes_27 : decode cX7_readOnes 27 = .ok (.aload_n 1, 1) := by decide +kernel
theorem dX7_readOnes_28 : decode cX7_readOnes 28 = .ok (.aload_n 2, 1) := by decide +kernel
theorem dX7_readOnes_29 : decode cX7_readOnes 29 = .ok (.iconst 1, 1) := by decide +kernel
theorem dX7_readOnes_30 : decode cX7_readOnes 30 = .ok (.invokevirtual 48, 3) := by decide +kernel
theorem dX7_readOnes_33 : decode cX7_readOnes 33 = .ok (.ifCond .ne 5, 3) := by decide +kernel
theorem dX7_readOnes_36 : decode cX7_readOnes 36 = .ok (.iconst 0, 1) := by decide +kernel
theorem dX7_readOnes_37 : decode cX7_readOnes 37 = .ok (.ireturn, 1) := by decide +kernel
theorem dX7_readOnes_38 : decode cX7_readOnes 38 = .ok (.aload_n 1, 1) := by decide +kernel
theorem dX7_readOnes_39 : decode cX7_readOnes 39 = .ok (.getfield 52, 3) := by decide +kernel
theorem dX7_readOnes_42 : decode cX7_readOnes 42 = .ok (.ifCond .eq 9, 3) := by decide +kernel
theorem dX7_readOnes_45 : decode cX7_readOnes 45 = .ok (.aload_n 1, 1) := by decide +kernel
theorem dX7_readOnes_46 : decode cX7_readOnes 46 = .ok (.iconst 1, 1) := by decide +kernel
theorem dX7_readOnes_47 : decode cX7_readOnes 47 = .ok (.invokevirtual 55, 3) := by decide +kernel
theorem dX7_readOnes_50 : decode cX7_readOnes 50 = .ok (.ireturn, 1) := by decide +kernel
theorem dX7_readOnes_51 : decode cX7_readOnes 51 = .ok (.aload_n 0, 1) := by decide +kernel
theorem dX7_readOnes_52 : decode cX7_readOnes 52 = .ok (.iconst 1, 1) := by decide +kernel
theorem dX7_readOnes_53 : decode cX7_readOnes 53 = .ok (.putfield 9, 3) := by decide +kernel
theorem dX7_readOnes_56 : decode cX7_readOnes 56 = .ok (.iconst 1, 1) := by decide +kernel
theorem dX7_readOnes_57 : decode cX7_readOnes 57 = .ok (.ireturn, 1) := by decide +kernel
theorem dX7_addStep_0 : decode cX7_addStep 0 = .ok (.aload_n 0, 1) := by decide +kernel
theorem dX7_addStep_1 : decode cX7_addStep 1 = .ok (.getfield 19, 3) := by decide +kernel
theorem dX7_addStep_4 : decode cX7_addStep 4 = .ok (.aload_n 0, 1) := by decide +kernel
theorem dX7_addStep_5 : decode cX7_addStep 5 = .ok (.getfield 22, 3) := by decide +kernel
theorem dX7_addStep_8 : decode cX7_addStep 8 = .ok (.arraylength, 1) := by decide +kernel
theorem dX7_addStep_9 : decode cX7_addStep 9 = .ok (.if_icmp .ge 43, 3) := by decide +kernel
theorem dX7_addStep_12 : decode cX7_addStep 12 = .ok (.aload_n 0, 1) := by decide +kernel
theorem dX7_addStep_13 : decode cX7_addStep 13 = .ok (.getfield 22, 3) := by decide +kernel
theorem dX7_addStep_16 : decode cX7_addStep 16 = .ok (.aload_n 0, 1) := by decide +kernel
theorem dX7_addStep_17 : decode cX7_addStep 17 = .ok (.getfield 19, 3) := by decide +kernel
theorem dX7_addStep_20 : decode cX7_addStep 20 = .ok (.iload_n 1, 1) := by decide +kernel
theorem dX7_addStep_21 : decode cX7_addStep 21 = .ok (.iastore, 1) := by decide +kernel
theorem dX7_addStep_22 : decode cX7_addStep 22 = .ok (.aload_n 0, 1) := by decide +kernel
theorem dX7_addStep_23 : decode cX7_addStep 23 = .ok (.getfield 26, 3) := by decide +kernel
theorem dX7_addStep_26 : decode cX7_addStep 26 = .ok (.aload_n 0, 1) := by decide +kernel
theorem dX7_addStep_27 : decode cX7_addStep 27 = .ok (.getfield 19, 3) := by decide +kernel
theorem dX7_addStep_30 : decode cX7_addStep 30 = .ok (.iload_n 2, 1) := by decide +kernel
theorem dX7_addStep_31 : decode cX7_addStep 31 = .ok (.iastore, 1) := by decide +kernel
theorem dX7_addStep_32 : decode cX7_addStep 32 = .ok (.aload_n 0, 1) := by decide +kernel
theorem dX7_addStep_33 : decode cX7_addStep 33 = .ok (.getfield 29, 3) := by decide +kernel
theorem dX7_addStep_36 : decode cX7_addStep 36 = .ok (.aload_n 0, 1) := by decide +kernel
theorem dX7_addStep_37 : decode cX7_addStep 37 = .ok (.getfield 19, 3) := by decide +kernel
theorem dX7_addStep_40 : decode cX7_addStep 40 = .ok (.iload_n 3, 1) := by decide +kernel
theorem dX7_addStep_41 : decode cX7_addStep 41 = .ok (.iastore, 1) := by decide +kernel
theorem dX7_addStep_42 : decode cX7_addStep 42 = .ok (.aload_n 0, 1) := by decide +kernel
theorem dX7_addStep_43 : decode cX7_addStep 43 = .ok (.dup, 1) := by decide +kernel
theorem dX7_addStep_44 : decode cX7_addStep 44 = .ok (.getfield 19, 3) := by decide +kernel
theorem dX7_addStep_47 : decode cX7_addStep 47 = .ok (.iconst 1, 1) := by decide +kernel
theorem dX7_addStep_48 : decode cX7_addStep 48 = .ok (.iadd, 1) := by decide +kernel
theorem dX7_addStep_49 : decode cX7_addStep 49 = .ok (.putfield 19, 3) := by decide +kernel
theorem dX7_addStep_52 : decode cX7_addStep 52 = .ok (.return_, 1) := by decide +kernel
theorem dX7_readCond_0 : decode cX7_readCond 0 = .ok (.aload_n 0, 1) := by decide +kernel
theorem dX7_readCond_1 : decode cX7_readCond 1 = .ok (.aload_n 1, 1) := by decide +kernel
theorem dX7_readCond_2 : decode cX7_readCond 2 = .ok (.aload_n 2, 1) := by decide +kernel
theorem dX7_readCond_3 : decode cX7_readCond 3 = .ok (.iload_n 3, 1) := by decide +kernel
theorem dX7_readCond_4 : decode cX7_readCond 4 = .ok (.invokevirtual 59, 3) := by decide +kernel
theorem dX7_readCond_7 : decode cX7_readCond 7 = .ok (.ifCond .ne 5, 3) := by decide +kernel
theorem dX7_readCond_10 : decode cX7_readCond 10 = .ok (.iconst 0, 1) := by decide +kernel
theorem dX7_readCond_11 : decode cX7_readCond 11 = .ok (.ireturn, 1) := by decide +kernel
theorem dX7_readCond_12 : decode cX7_readCond 12 = .ok (.iconst 0, 1) := by decide +kernel
theorem dX7_readCond_13 : decode cX7_readCond 13 = .ok (.istore 4, 2) := by decide +kernel
theorem dX7_readCond_15 : decode cX7_readCond 15 = .ok (.iload 4, 2) := by decide +kernel
theorem dX7_readCond_17 : decode cX7_readCond 17 = .ok (.bipush 20, 2) := by decide +kernel
theorem dX7_readCond_19 : decode cX7_readCond 19 = .ok (.if_icmp .ge 42, 3) := by decide +kernel
theorem dX7_readCond_22 : decode cX7_readCond 22 = .ok (.aload_n 1, 1) := by decide +kernel
theorem dX7_readCond_23 : decode cX7_readCond 23 = .ok (.getfield 62, 3) := by decide +kernel
theorem dX7_readCond_26 : decode cX7_readCond 26 = .ok (.bipush 21, 2) := by decide +kernel
theorem dX7_readCond_28 : decode cX7_readCond 28 = .ok (.if_icmp .ne 33, 3) := by decide +kernel
theorem dX7_readCond_31 : decode cX7_readCond 31 = .ok (.aload_n 1, 1) := by decide +kernel
theorem dX7_readCond_32 : decode cX7_readCond 32 = .ok (.invokevirtual 45, 3) := by decide +kernel
theorem dX7_readCond_35 : decode cX7_readCond 35 = .ok (.aload_n 0, 1) := by decide +kernel
theorem dX7_readCond_36 : decode cX7_readCond 36 = .ok (.aload_n 1, 1) := by decide +kernel
theorem dX7_readCond_37 : decode cX7_readCond 37 = .ok (.aload_n 2, 1) := by decide +kernel
theorem dX7_readCond_38 : decode cX7_readCond 38 = .ok (.iload_n 3, 1) := by decide +kernel
theorem dX7_readCond_39 : decode cX7_readCond 39 = .ok (.invokevirtual 59, 3) := by decide +kernel
theorem dX7_readCond_42 : decode cX7_readCond 42 = .ok (.ifCond .ne 5, 3) := by decide +kernel
theorem dX7_readCond_45 : decode cX7_readCond 45 = .ok (.iconst 0, 1) := by decide +kernel
theorem dX7_readCond_46 : decode cX7_readCond 46 = .ok (.ireturn, 1) := by decide +kernel
theorem dX7_readCond_47 : decode cX7_readCond 47 = .ok (.aload_n 0, 1) := by decide +kernel
theorem dX7_readCond_48 : decode cX7_readCond 48 = .ok (.bipush 21, 2) := by decide +kernel
theorem dX7_readCond_50 : decode cX7_readCond 50 = .ok (.iconst 0, 1) := by decide +kernel
theorem dX7_readCond_51 : decode cX7_readCond 51 = .ok (.iconst 0, 1) := by decide +kernel
theorem dX7_readCond_52 : decode cX7_readCond 52 = .ok (.invokevirtual 65, 3) := by decide +kernel
theorem dX7_readCond_55 : decode cX7_readCond 55 = .ok (.iinc 4 1, 3) := by decide +kernel
theorem dX7_readCond_58 : decode cX7_readCond 58 = .ok (.goto (-43), 3) := by decide +kernel
theorem dX7_readCond_61 : decode cX7_readCond 61 = .ok (.iconst 1, 1) := by decide +kernel
theorem dX7_readCond_62 : decode cX7_readCond 62 = .ok (.ireturn, 1) := by decide +kernel
theorem dX7_readAll_0 : decode cX7_readAll 0 = .ok (.aload_n 0, 1) := by decide +kernel
theorem dX7_readAll_1 : decode cX7_readAll 1 = .ok (.aload_n 1, 1) := by decide +kernel
theorem dX7_readAll_2 : decode cX7_readAll 2 = .ok (.aload_n 2, 1) := by decide +kernel
theorem dX7_readAll_3 : decode cX7_readAll 3 = .ok (.iload_n 3, 1) := by decide +kernel
theorem dX7_readAll_4 : decode cX7_readAll 4 = .ok (.invokevirtual 69, 3) := by decide +kernel
theorem dX7_readAll_7 : decode cX7_readAll 7 = .ok (.ifCond .ne 5, 3) := by decide +kernel
theorem dX7_readAll_10 : decode cX7_readAll 10 = .ok (.iconst 0, 1) := by decide +kernel
theorem dX7_readAll_11 : decode cX7_readAll 11 = .ok (.ireturn, 1) := by decide +kernel
theorem dX7_readAll_12 : decode cX7_readAll 12 = .ok (.iconst 0, 1) := by decide +kernel
theorem dX7_readAll_13 : decode cX7_readAll 13 = .ok (.istore 4, 2) := by decide +kernel
theorem dX7_readAll_15 : decode cX7_readAll 15 = .ok (.iload 4, 2) := by decide +kernel
theorem dX7_readAll_17 : decode cX7_readAll 17 = .ok (.bipush 20, 2) := by decide +kernel
theorem dX7_readAll_19 : decode cX7_readAll 19 = .ok (.if_icmp .ge 42, 3) := by decide +kernel
theorem dX7_readAll_22 : decode cX7_readAll 22 = .ok (.aload_n 1, 1) := by decide +kernel
theorem dX7_readAll_23 : decode cX7_readAll 23 = .ok (.getfield 62, 3) := by decide +kernel
theorem dX7_readAll_26 : decode cX7_readAll 26 = .ok (.bipush 22, 2) := by decide +kernel
theorem dX7_readAll_28 : decode cX7_readAll 28 = .ok (.if_icmp .ne 33, 3) := by decide +kernel
theorem dX7_readAll_31 : decode cX7_readAll 31 = .ok (.aload_n 1, 1) := by decide +kernel
theorem dX7_readAll_32 : decode cX7_readAll 32 = .ok (.invokevirtual 45, 3) := by decide +kernel
theorem dX7_readAll_35 : decode cX7_readAll 35 = .ok (.aload_n 0, 1) := by decide +kernel
theorem dX7_readAll_36 : decode cX7_readAll 36 = .ok (.aload_n 1, 1) := by decide +kernel
theorem dX7_readAll_37 : decode cX7_readAll 37 = .ok (.aload_n 2, 1) := by decide +kernel
theorem dX7_readAll_38 : decode cX7_readAll 38 = .ok (.iload_n 3, 1) := by decide +kernel
theorem dX7_readAll_39 : decode cX7_readAll 39 = .ok (.invokevirtual 69, 3) := by decide +kernel
theorem dX7_readAll_42 : decode cX7_readAll 42 = .ok (.ifCond .ne 5, 3) := by decide +kernel
theorem dX7_readAll_45 : decode cX7_readAll 45 = .ok (.iconst 0, 1) := by decide +kernel
theorem dX7_readAll_46 : decode cX7_readAll 46 = .ok (.ireturn, 1) := by decide +kernel
theorem dX7_readAll_47 : decode cX7_readAll 47 = .ok (.aload_n 0, 1) := by decide +kernel
theorem dX7_readAll_48 : decode cX7_readAll 48 = .ok (.bipush 22, 2) := by decide +kernel
theorem dX7_readAll_50 : decode cX7_readAll 50 = .ok (.iconst 0, 1) := by decide +kernel
theorem dX7_readAll_51 : decode cX7_readAll 51 = .ok (.iconst 0, 1) := by decide +kernel
theorem dX7_readAll_52 : decode cX7_readAll 52 = .ok (.invokevirtual 65, 3) := by decide +kernel
theorem dX7_readAll_55 : decode cX7_readAll 55 = .ok (.iinc 4 1, 3) := by decide +kernel
theorem dX7_readAll_58 : decode cX7_readAll 58 = .ok (.goto (-43), 3) := by decide +kernel
theorem dX7_readAll_61 : decode cX7_readAll 61 = .ok (.iconst 1, 1) := by decide +kernel
theorem dX7_readAll_62 : decode cX7_readAll 62 = .ok (.ireturn, 1) := by decide +kernel
theorem dX7_readOne_0 : decode cX7_readOne 0 = .ok (.aload_n 1, 1) := by decide +kernel
theorem dX7_readOne_1 : decode cX7_readOne 1 = .ok (.bipush 40, 2) := by decide +kernel
theorem dX7_readOne_3 : decode cX7_readOne 3 = .ok (.invokevirtual 72, 3) := by decide +kernel
theorem dX7_readOne_6 : decode cX7_readOne 6 = .ok (.istore 4, 2) := by decide +kernel
theorem dX7_readOne_8 : decode cX7_readOne 8 = .ok (.aload_n 1, 1) := by decide +kernel
theorem dX7_readOne_9 : decode cX7_readOne 9 = .ok (.getfield 62, 3) := by decide +kernel
theorem dX7_readOne_12 : decode cX7_readOne 12 = .ok (.istore 5, 2) := by decide +kernel
theorem dX7_readOne_14 : decode cX7_readOne 14 = .ok (.iload 4, 2) := by decide +kernel
theorem dX7_readOne_16 : decode cX7_readOne 16 = .ok (.ifCond .ne 23, 3) := by decide +kernel
theorem dX7_readOne_19 : decode cX7_readOne 19 = .ok (.iload 5, 2) := by decide +kernel
theorem dX7_readOne_21 : decode cX7_readOne 21 = .ok (.bipush 23, 2) := by decide +kernel
theorem dX7_readOne_23 : decode cX7_readOne 23 = .ok (.if_icmp .lt 10, 3) := by decide +kernel
theorem dX7_readOne_26 : decode cX7_readOne 26 = .ok (.iload 5, 2) := by decide +kernel
theorem dX7_readOne_28 : decode cX7_readOne 28 = .ok (.bipush 31, 2) := by decide +kernel
theorem dX7_readOne_30 : decode cX7_readOne 30 = .ok (.if_icmp .le 9, 3) := by decide +kernel
theorem dX7_readOne_33 : decode cX7_readOne 33 = .ok (.aload_n 1, 1) := by decide +kernel
theorem dX7_readOne_34 : decode cX7_readOne 34 = .ok (.iconst 1, 1) := by decide +kernel
theorem dX7_readOne_35 : decode cX7_readOne 35 = .ok (.invokevirtual 55, 3) := by decide +kernel
theorem dX7_readOne_38 : decode cX7_readOne 38 = .ok (.ireturn, 1) := by decide +kernel
theorem dX7_readOne_39 : decode cX7_readOne 39 = .ok (.aload_n 0, 1) := by decide +kernel
theorem dX7_readOne_40 : decode cX7_readOne 40 = .ok (.getfield 15, 3) := by decide +kernel
theorem dX7_readOne_43 : decode cX7_readOne 43 = .ok (.bipush 20, 2) := by decide +kernel
theorem dX7_readOne_45 : decode cX7_readOne 45 = .ok (.if_icmp .ge 9, 3) := by decide +kernel
theorem dX7_readOne_48 : decode cX7_readOne 48 = .ok (.iload_n 3, 1) := by decide +kernel
theorem dX7_readOne_49 : decode cX7_readOne 49 = .ok (.bipush 8, 2) := by decide +kernel
theorem dX7_readOne_51 : decode cX7_readOne 51 = .ok (.if_icmp .le 9, 3) := by decide +kernel
theorem dX7_readOne_54 : decode cX7_readOne 54 = .ok (.aload_n 1, 1) := by decide +kernel
theorem dX7_readOne_55 : decode cX7_readOne 55 = .ok (.iconst 4, 1) := by decide +kernel
theorem dX7_readOne_56 : decode cX7_readOne 56 = .ok (.invokevirtual 55, 3) := by decide +kernel
theorem dX7_readOne_59 : decode cX7_readOne 59 = .ok (.ireturn, 1) := by decide +kernel
theorem dX7_readOne_60 : decode cX7_readOne 60 = .ok (.aload_n 0, 1) := by decide +kernel
theorem dX7_readOne_61 : decode cX7_readOne 61 = .ok (.dup, 1) := by decide +kernel
theorem dX7_readOne_62 : decode cX7_readOne 62 = .ok (.getfield 15, 3) := by decide +kernel
theorem dX7_readOne_65 : decode cX7_readOne 65 = .ok (.iconst 1, 1) := by decide +kernel
theorem dX7_readOne_66 : decode cX7_readOne 66 = .ok (.iadd, 1) := by decide +kernel
theorem dX7_readOne_67 : decode cX7_readOne 67 = .ok (.putfield 15, 3) := by decide +kernel
theorem dX7_readOne_70 : decode cX7_readOne 70 = .ok (.iload 4, 2) := by decide +kernel
theorem dX7_readOne_72 : decode cX7_readOne 72 = .ok (.ifCond .eq 30, 3) := by decide +kernel
theorem dX7_readOne_75 : decode cX7_readOne 75 = .ok (.aload_n 1, 1) := by decide +kernel
theorem dX7_readOne_76 : decode cX7_readOne 76 = .ok (.invokevirtual 45, 3) := by decide +kernel
theorem dX7_readOne_79 : decode cX7_readOne 79 = .ok (.aload_n 0, 1) := by decide +kernel
theorem dX7_readOne_80 : decode cX7_readOne 80 = .ok (.aload_n 1, 1) := by decide +kernel
theorem dX7_readOne_81 : decode cX7_readOne 81 = .ok (.aload_n 2, 1) := by decide +kernel
theorem dX7_readOne_82 : decode cX7_readOne 82 = .ok (.iload_n 3, 1) := by decide +kernel
theorem dX7_readOne_83 : decode cX7_readOne 83 = .ok (.iconst 1, 1) := by decide +kernel
theorem dX7_readOne_84 : decode cX7_readOne 84 = .ok (.iadd, 1) := by decide +kernel
theorem dX7_readOne_85 : decode cX7_readOne 85 = .ok (.invokevirtual 48, 3) := by decide +kernel
theorem dX7_readOne_88 : decode cX7_readOne 88 = .ok (.ifCond .eq 12, 3) := by decide +kernel
theorem dX7_readOne_91 : decode cX7_readOne 91 = .ok (.aload_n 1, 1) := by decide +kernel
theorem dX7_readOne_92 : decode cX7_readOne 92 = .ok (.bipush 41, 2) := by decide +kernel
theorem dX7_readOne_94 : decode cX7_readOne 94 = .ok (.invokevirtual 76, 3) := by decide +kernel
theorem dX7_readOne_97 : decode cX7_readOne 97 = .ok (.ifCond .ne 53, 3) := by decide +kernel
theorem dX7_readOne_100 : decode cX7_readOne 100 = .ok (.iconst 0, 1) := by decide +kernel
theorem dX7_readOne_101 : decode cX7_readOne 101 = .ok (.ireturn, 1) := by decide +kernel
theorem dX7_readOne_102 : decode cX7_readOne 102 = .ok (.iload 5, 2) := by decide +kernel
theorem dX7_readOne_104 : decode cX7_readOne 104 = .ok (.bipush 23, 2) := by decide +kernel
theorem dX7_readOne_106 : decode cX7_readOne 106 = .ok (.if_icmp .ne 31, 3) := by decide +kernel
theorem dX7_readOne_109 : decode cX7_readOne 109 = .ok (.aload_n 1, 1) := by decide +kernel
theorem dX7_readOne_110 : decode cX7_readOne 110 = .ok (.invokevirtual 45, 3) := by decide +kernel
theorem dX7_readOne_113 : decode cX7_readOne 113 = .ok (.aload_n 0, 1) := by decide +kernel
theorem dX7_readOne_114 : decode cX7_readOne 114 = .ok (.aload_n 1, 1) := by decide +kernel
theorem dX7_readOne_115 : decode cX7_readOne 115 = .ok (.aload_n 2, 1) := by decide +kernel
theorem dX7_readOne_116 : decode cX7_readOne 116 = .ok (.iload_n 3, 1) := by decide +kernel
theorem dX7_readOne_117 : decode cX7_readOne 117 = .ok (.iconst 1, 1) := by decide +kernel
theorem dX7_readOne_118 : decode cX7_readOne 118 = .ok (.iadd, 1) := by decide +kernel
theorem dX7_readOne_119 : decode cX7_readOne 119 = .ok (.invokevirtual 69, 3) := by decide +kernel
theorem dX7_readOne_122 : decode cX7_readOne 122 = .ok (.ifCond .ne 5, 3) := by decide +kernel
theorem dX7_readOne_125 : decode cX7_readOne 125 = .ok (.iconst 0, 1) := by decide +kernel
theorem dX7_readOne_126 : decode cX7_readOne 126 = .ok (.ireturn, 1) := by decide +kernel
theorem dX7_readOne_127 : decode cX7_readOne 127 = .ok (.aload_n 0, 1) := by decide +kernel
theorem dX7_readOne_128 : decode cX7_readOne 128 = .ok (.bipush 23, 2) := by decide +kernel
theorem dX7_readOne_130 : decode cX7_readOne 130 = .ok (.iconst 0, 1) := by decide +kernel
theorem dX7_readOne_131 : decode cX7_readOne 131 = .ok (.iconst 0, 1) := by decide +kernel
theorem dX7_readOne_132 : decode cX7_readOne 132 = .ok (.invokevirtual 65, 3) := by decide +kernel
theorem dX7_readOne_135 : decode cX7_readOne 135 = .ok (.iconst 1, 1) := by decide +kernel
theorem dX7_readOne_136 : decode cX7_readOne 136 = .ok (.ireturn, 1) := by decide +kernel
theorem dX7_readOne_137 : decode cX7_readOne 137 = .ok (.aload_n 0, 1) := by decide +kernel
theorem dX7_readOne_138 : decode cX7_readOne 138 = .ok (.aload_n 1, 1) := by decide +kernel
theorem dX7_readOne_139 : decode cX7_readOne 139 = .ok (.aload_n 2, 1) := by decide +kernel
theorem dX7_readOne_140 : decode cX7_readOne 140 = .ok (.iload 5, 2) := by decide +kernel
theorem dX7_readOne_142 : decode cX7_readOne 142 = .ok (.invokevirtual 79, 3) := by decide +kernel
theorem dX7_readOne_145 : decode cX7_readOne 145 = .ok (.ifCond .ne 5, 3) := by decide +kernel
theorem dX7_readOne_148 : decode cX7_readOne 148 = .ok (.iconst 0, 1) := by decide +kernel
theorem dX7_readOne_149 : decode cX7_readOne 149 = .ok (.ireturn, 1) := by decide +kernel
theorem dX7_readOne_150 : decode cX7_readOne 150 = .ok (.aload_n 1, 1) := by decide +kernel
theorem dX7_readOne_151 : decode cX7_readOne 151 = .ok (.invokevirtual 45, 3) := by decide +kernel
theorem dX7_readOne_154 : decode cX7_readOne 154 = .ok (.iconst 1, 1) := by decide +kernel
theorem dX7_readOne_155 : decode cX7_readOne 155 = .ok (.ireturn, 1) := by decide +kernel
theorem dX7_readPlainOne_0 : decode cX7_readPlainOne 0 = .ok (.iconst 0, 1) := by decide +kernel
theorem dX7_readPlainOne_1 : decode cX7_readPlainOne 1 = .ok (.istore 4, 2) := by decide +kernel
theorem dX7_readPlainOne_3 : decode cX7_readPlainOne 3 = .ok (.iconst 0, 1) := by decide +kernel
theorem dX7_readPlainOne_4 : decode cX7_readPlainOne 4 = .ok (.istore 5, 2) := by decide +kernel
theorem dX7_readPlainOne_6 : decode cX7_readPlainOne 6 = .ok (.iload_n 3, 1) := by decide +kernel
theorem dX7_readPlainOne_7 : decode cX7_readPlainOne 7 = .ok (.bipush 27, 2) := by decide +kernel
theorem dX7_readPlainOne_9 : decode cX7_readPlainOne 9 = .ok (.if_icmp .eq 9, 3) := by decide +kernel
theorem dX7_readPlainOne_12 : decode cX7_readPlainOne 12 = .ok (.iload_n 3, 1) := by decide +kernel
theorem dX7_readPlainOne_13 : decode cX7_readPlainOne 13 = .ok (.bipush 28, 2) := by decide +kernel
theorem dX7_readPlainOne_15 : decode cX7_readPlainOne 15 = .ok (.if_icmp .ne 24, 3) := by decide +kernel
theorem dX7_readPlainOne_18 : decode cX7_readPlainOne 18 = .ok (.aload_n 1, 1) := by decide +kernel
theorem dX7_readPlainOne_19 : decode cX7_readPlainOne 19 = .ok (.aload_n 2, 1) := by decide +kernel
theorem dX7_readPlainOne_20 : decode cX7_readPlainOne 20 = .ok (.iload_n 3, 1) := by decide +kernel
theorem dX7_readPlainOne_21 : decode cX7_readPlainOne 21 = .ok (.bipush 27, 2) := by decide +kernel
theorem dX7_readPlainOne_23 : decode cX7_readPlainOne 23 = .ok (.if_icmp .ne 7, 3) := by decide +kernel
theorem dX7_readPlainOne_26 : decode cX7_readPlainOne 26 = .ok (.iconst 0, 1) := by decide +kernel
theorem dX7_readPlainOne_27 : decode cX7_readPlainOne 27 = .ok (.goto 4, 3) := by decide +kernel
theorem dX7_readPlainOne_30 : decode cX7_readPlainOne 30 = .ok (.iconst 4, 1) := by decide +kernel
theorem dX7_readPlainOne_31 : decode cX7_readPlainOne 31 = .ok (.invokevirtual 82, 3) := by decide +kernel
theorem dX7_readPlainOne_34 : decode cX7_readPlainOne 34 = .ok (.istore 4, 2) := by decide +kernel
theorem dX7_readPlainOne_36 : decode cX7_readPlainOne 36 = .ok (.goto 62, 3) := by decide +kernel
theorem dX7_readPlainOne_39 : decode cX7_readPlainOne 39 = .ok (.iload_n 3, 1) := by decide +kernel
theorem dX7_readPlainOne_40 : decode cX7_readPlainOne 40 = .ok (.bipush 29, 2) := by decide +kernel
theorem dX7_readPlainOne_42 : decode cX7_readPlainOne 42 = .ok (.if_icmp .lt 56, 3) := by decide +kernel
theorem dX7_readPlainOne_45 : decode cX7_readPlainOne 45 = .ok (.aload_n 1, 1) := by decide +kernel
theorem dX7_readPlainOne_46 : decode cX7_readPlainOne 46 = .ok (.invokevirtual 45, 3) := by decide +kernel
theorem dX7_readPlainOne_49 : decode cX7_readPlainOne 49 = .ok (.aload_n 1, 1) := by decide +kernel
theorem dX7_readPlainOne_50 : decode cX7_readPlainOne 50 = .ok (.bipush 60, 2) := by decide +kernel
theorem dX7_readPlainOne_52 : decode cX7_readPlainOne 52 = .ok (.invokevirtual 72, 3) := by decide +kernel
theorem dX7_readPlainOne_55 : decode cX7_readPlainOne 55 = .ok (.ifCond .ne 27, 3) := by decide +kernel
theorem dX7_readPlainOne_58 : decode cX7_readPlainOne 58 = .ok (.aload_n 1, 1) := by decide +kernel
theorem dX7_readPlainOne_59 : decode cX7_readPlainOne 59 = .ok (.bipush 61, 2) := by decide +kernel
theorem dX7_readPlainOne_61 : decode cX7_readPlainOne 61 = .ok (.invokevirtual 72, 3) := by decide +kernel
theorem dX7_readPlainOne_64 : decode cX7_readPlainOne 64 = .ok (.ifCond .ne 18, 3) := by decide +kernel
theorem dX7_readPlainOne_67 : decode cX7_readPlainOne 67 = .ok (.aload_n 1, 1) := by decide +kernel
theorem dX7_readPlainOne_68 : decode cX7_readPlainOne 68 = .ok (.bipush 62, 2) := by decide +kernel
theorem dX7_readPlainOne_70 : decode cX7_readPlainOne 70 = .ok (.invokevirtual 72, 3) := by decide +kernel
theorem dX7_readPlainOne_73 : decode cX7_readPlainOne 73 = .ok (.ifCond .ne 9, 3) := by decide +kernel
theorem dX7_readPlainOne_76 : decode cX7_readPlainOne 76 = .ok (.aload_n 1, 1) := by decide +kernel
theorem dX7_readPlainOne_77 : decode cX7_readPlainOne 77 = .ok (.iconst 1, 1) := by decide +kernel
theorem dX7_readPlainOne_78 : decode cX7_readPlainOne 78 = .ok (.invokevirtual 55, 3) := by decide +kernel
theorem dX7_readPlainOne_81 : decode cX7_readPlainOne 81 = .ok (.ireturn, 1) := by decide +kernel
theorem dX7_readPlainOne_82 : decode cX7_readPlainOne 82 = .ok (.aload_n 1, 1) := by decide +kernel
theorem dX7_readPlainOne_83 : decode cX7_readPlainOne 83 = .ok (.getfield 86, 3) := by decide +kernel
theorem dX7_readPlainOne_86 : decode cX7_readPlainOne 86 = .ok (.istore 5, 2) := by decide +kernel
theorem dX7_readPlainOne_88 : decode cX7_readPlainOne 88 = .ok (.aload_n 1, 1) := by decide +kernel
theorem dX7_readPlainOne_89 : decode cX7_readPlainOne 89 = .ok (.iconst 0, 1) := by decide +kernel
theorem dX7_readPlainOne_90 : decode cX7_readPlainOne 90 = .ok (.sipush 999, 3) := by decide +kernel
theorem dX7_readPlainOne_93 : decode cX7_readPlainOne 93 = .ok (.invokevirtual 89, 3) := by decide +kernel
theorem dX7_readPlainOne_96 : decode cX7_readPlainOne 96 = .ok (.istore 4, 2) := by decide +kernel
theorem dX7_readPlainOne_98 : decode cX7_readPlainOne 98 = .ok (.iload 4, 2) := by decide +kernel
theorem dX7_readPlainOne_100 : decode cX7_readPlainOne 100 = .ok (.iconst (-1), 1) := by decide +kernel
theorem dX7_readPlainOne_101 : decode cX7_readPlainOne 101 = .ok (.if_icmp .ne 5, 3) := by decide +kernel
theorem dX7_readPlainOne_104 : decode cX7_readPlainOne 104 = .ok (.iconst 0, 1) := by decide +kernel
theorem dX7_readPlainOne_105 : decode cX7_readPlainOne 105 = .ok (.ireturn, 1) := by decide +kernel
theorem dX7_readPlainOne_106 : decode cX7_readPlainOne 106 = .ok (.aload_n 0, 1) := by decide +kernel
theorem dX7_readPlainOne_107 : decode cX7_readPlainOne 107 = .ok (.iload_n 3, 1) := by decide +kernel
theorem dX7_readPlainOne_108 : decode cX7_readPlainOne 108 = .ok (.iload 4, 2) := by decide +kernel
theorem dX7_readPlainOne_110 : decode cX7_readPlainOne 110 = .ok (.iload 5, 2) := by decide +kernel
theorem dX7_readPlainOne_112 : decode cX7_readPlainOne 112 = .ok (.invokevirtual 65, 3) := by decide +kernel
theorem dX7_readPlainOne_115 : decode cX7_readPlainOne 115 = .ok (.iconst 1, 1) := by decide +kernel
theorem dX7_readPlainOne_116 : decode cX7_readPlainOne 116 = .ok (.ireturn, 1) := by decide +kernel
theorem dX7_trainsFitting_0 : decode cX7_trainsFitting 0 = .ok (.iconst 1, 1) := by decide +kernel
theorem dX7_trainsFitting_1 : decode cX7_trainsFitting 1 = .ok (.aload_n 1, 1) := by decide +kernel
theorem dX7_trainsFitting_2 : decode cX7_trainsFitting 2 = .ok (.getfield 93, 3) := by decide +kernel
theorem dX7_trainsFitting_5 : decode cX7_trainsFitting 5 = .ok (.bipush 6, 2) := by decide +kernel
theorem dX7_trainsFitting_7 : decode cX7_trainsFitting 7 = .ok (.iaload, 1) := by decide +kernel
theorem dX7_trainsFitting_8 : decode cX7_trainsFitting 8 = .ok (.ishl, 1) := by decide +kernel
theorem dX7_trainsFitting_9 : decode cX7_trainsFitting 9 = .ok (.iconst 1, 1) := by decide +kernel
theorem dX7_trainsFitting_10 : decode cX7_trainsFitting 10 = .ok (.isub, 1) := by decide +kernel
theorem dX7_trainsFitting_11 : decode cX7_trainsFitting 11 = .ok (.istore_n 3, 1) := by decide +kernel
theorem dX7_trainsFitting_12 : decode cX7_trainsFitting 12 = .ok (.iconst 0, 1) := by decide +kernel
theorem dX7_trainsFitting_13 : decode cX7_trainsFitting 13 = .ok (.istore 4, 2) := by decide +kernel
theorem dX7_trainsFitting_15 : decode cX7_trainsFitting 15 = .ok (.iconst 0, 1) := by decide +kernel
theorem dX7_trainsFitting_16 : decode cX7_trainsFitting 16 = .ok (.istore 5, 2) := by decide +kernel
theorem dX7_trainsFitting_18 : decode cX7_trainsFitting 18 = .ok (.iload 5, 2) := by decide +kernel
theorem dX7_trainsFitting_20 : decode cX7_trainsFitting 20 = .ok (.aload_n 0, 1) := by decide +kernel
theorem dX7_trainsFitting_21 : decode cX7_trainsFitting 21 = .ok (.getfield 19, 3) := by decide +kernel
theorem dX7_trainsFitting_24 : decode cX7_trainsFitting 24 = .ok (.if_icmp .ge 166, 3) := by decide +kernel
theorem dX7_trainsFitting_27 : decode cX7_trainsFitting 27 = .ok (.aload_n 0, 1) := by decide +kernel
theorem dX7_trainsFitting_28 : decode cX7_trainsFitting 28 = .ok (.getfield 22, 3) := by decide +kernel
theorem dX7_trainsFitting_31 : decode cX7_trainsFitting 31 = .ok (.iload 5, 2) := by decide +kernel
theorem dX7_trainsFitting_33 : decode cX7_trainsFitting 33 = .ok (.iaload, 1) := by decide +kernel
theorem dX7_trainsFitting_34 : decode cX7_trainsFitting 34 = .ok (.bipush 23, 2) := by decide +kernel
theorem dX7_trainsFitting_36 : decode cX7_trainsFitting 36 = .ok (.if_icmp .ne 34, 3) := by decide +kernel
theorem dX7_trainsFitting_39 : decode cX7_trainsFitting 39 = .ok (.iload 4, 2) := by decide +kernel
theorem dX7_trainsFitting_41 : decode cX7_trainsFitting 41 = .ok (.iconst 1, 1) := by decide +kernel
theorem dX7_trainsFitting_42 : decode cX7_trainsFitting 42 = .ok (.if_icmp .lt 28, 3) := by decide +kernel
theorem dX7_trainsFitting_45 : decode cX7_trainsFitting 45 = .ok (.aload_n 0, 1) := by decide +kernel
theorem dX7_trainsFitting_46 : decode cX7_trainsFitting 46 = .ok (.getfield 32, 3) := by decide +kernel
theorem dX7_trainsFitting_49 : decode cX7_trainsFitting 49 = .ok (.iload 4, 2) := by decide +kernel
theorem dX7_trainsFitting_51 : decode cX7_trainsFitting 51 = .ok (.iconst 1, 1) := by decide +kernel
theorem dX7_trainsFitting_52 : decode cX7_trainsFitting 52 = .ok (.isub, 1) := by decide +kernel
theorem dX7_trainsFitting_53 : decode cX7_trainsFitting 53 = .ok (.iload_n 3, 1) := by decide +kernel
theorem dX7_trainsFitting_54 : decode cX7_trainsFitting 54 = .ok (.aload_n 0, 1) := by decide +kernel
theorem dX7_trainsFitting_55 : decode cX7_trainsFitting 55 = .ok (.getfield 32, 3) := by decide +kernel
theorem dX7_trainsFitting_58 : decode cX7_trainsFitting 58 = .ok (.iload 4, 2) := by decide +kernel
theorem dX7_trainsFitting_60 : decode cX7_trainsFitting 60 = .ok (.iconst 1, 1) := by decide +kernel
theorem dX7_trainsFitting_61 : decode cX7_trainsFitting 61 = .ok (.isub, 1) := by decide +kernel
theorem dX7_trainsFitting_62 : decode cX7_trainsFitting 62 = .ok (.iaload, 1) := by decide +kernel
theorem dX7_trainsFitting_63 : decode cX7_trainsFitting 63 = .ok (.iconst (-1), 1) := by decide +kernel
theorem dX7_trainsFitting_64 : decode cX7_trainsFitting 64 = .ok (.ixor, 1) := by decide +kernel
theorem dX7_trainsFitting_65 : decode cX7_trainsFitting 65 = .ok (.iand, 1) := by decide +kernel
theorem dX7_trainsFitting_66 : decode cX7_trainsFitting 66 = .ok (.iastore, 1) := by decide +kernel
theorem dX7_trainsFitting_67 : decode cX7_trainsFitting 67 = .ok (.goto 117, 3) := by decide +kernel
theorem dX7_trainsFitting_70 : decode cX7_trainsFitting 70 = .ok (.aload_n 0, 1) := by decide +kernel
theorem dX7_trainsFitting_71 : decode cX7_trainsFitting 71 = .ok (.getfield 22, 3) := by decide +kernel
theorem dX7_trainsFitting_74 : decode cX7_trainsFitting 74 = .ok (.iload 5, 2) := by decide +kernel
theorem dX7_trainsFitting_76 : decode cX7_trainsFitting 76 = .ok (.iaload, 1) := by decide +kernel
theorem dX7_trainsFitting_77 : decode cX7_trainsFitting 77 = .ok (.bipush 22, 2) := by decide +kernel
theorem dX7_trainsFitting_79 : decode cX7_trainsFitting 79 = .ok (.if_icmp .ne 34, 3) := by decide +kernel
theorem dX7_trainsFitting_82 : decode cX7_trainsFitting 82 = .ok (.iload 4, 2) := by decide +kernel
theorem dX7_trainsFitting_84 : decode cX7_trainsFitting 84 = .ok (.iconst 2, 1) := by decide +kernel
theorem dX7_trainsFitting_85 : decode cX7_trainsFitting 85 = .ok (.if_icmp .lt 28, 3) := by decide +kernel
theorem dX7_trainsFitting_88 : decode cX7_trainsFitting 88 = .ok (.iinc 4 (-1), 3) := by decide +kernel
theorem dX7_trainsFitting_91 : decode cX7_trainsFitting 91 = .ok (.aload_n 0, 1) := by decide +kernel
theorem dX7_trainsFitting_92 : decode cX7_trainsFitting 92 = .ok (.getfield 32, 3) := by decide +kernel
theorem dX7_trainsFitting_95 : decode cX7_trainsFitting 95 = .ok (.iload 4, 2) := by decide +kernel
theorem dX7_trainsFitting_97 : decode cX7_trainsFitting 97 = .ok (.iconst 1, 1) := by decide +kernel
theorem dX7_trainsFitting_98 : decode cX7_trainsFitting 98 = .ok (.isub, 1) := by decide +kernel
theorem dX7_trainsFitting_99 : decode cX7_trainsFitting 99 = .ok (.dup2, 1) := by decide +kernel
theorem dX7_trainsFitting_100 : decode cX7_trainsFitting 100 = .ok (.iaload, 1) := by decide +kernel
theorem dX7_trainsFitting_101 : decode cX7_trainsFitting 101 = .ok (.aload_n 0, 1) := by decide +kernel
theorem dX7_trainsFitting_102 : decode cX7_trainsFitting 102 = .ok (.getfield 32, 3) := by decide +kernel
theorem dX7_trainsFitting_105 : decode cX7_trainsFitting 105 = .ok (.iload 4, 2) := by decide +kernel
theorem dX7_trainsFitting_107 : decode cX7_trainsFitting 107 = .ok (.iaload, 1) := by decide +kernel
theorem dX7_trainsFitting_108 : decode cX7_trainsFitting 108 = .ok (.iand, 1) := by decide +kernel
theorem dX7_trainsFitting_109 : decode cX7_trainsFitting 109 = .ok (.iastore, 1) := by decide +kernel
theorem dX7_trainsFitting_110 : decode cX7_trainsFitting 110 = .ok (.goto 74, 3) := by decide +kernel
theorem dX7_trainsFitting_113 : decode cX7_trainsFitting 113 = .ok (.aload_n 0, 1) := by decide +kernel
theorem dX7_trainsFitting_114 : decode cX7_trainsFitting 114 = .ok (.getfield 22, 3) := by decide +kernel
theorem dX7_trainsFitting_117 : decode cX7_trainsFitting 117 = .ok (.iload 5, 2) := by decide +kernel
theorem dX7_trainsFitting_119 : decode cX7_trainsFitting 119 = .ok (.iaload, 1) := by decide +kernel
theorem dX7_trainsFitting_120 : decode cX7_trainsFitting 120 = .ok (.bipush 21, 2) := by decide +kernel
theorem dX7_trainsFitting_122 : decode cX7_trainsFitting 122 = .ok (.if_icmp .ne 34, 3) := by decide +kernel
theorem dX7_trainsFitting_125 : decode cX7_trainsFitting 125 = .ok (.iload 4, 2) := by decide +kernel
theorem dX7_trainsFitting_127 : decode cX7_trainsFitting 127 = .ok (.iconst 2, 1) := by decide +kernel
theorem dX7_trainsFitting_128 : decode cX7_trainsFitting 128 = .ok (.if_icmp .lt 28, 3) := by decide +kernel
theorem dX7_trainsFitting_131 : decode cX7_trainsFitting 131 = .ok (.iinc 4 (-1), 3) := by decide +kernel
theorem dX7_trainsFitting_134 : decode cX7_trainsFitting 134 = .ok (.aload_n 0, 1) := by decide +kernel
theorem dX7_trainsFitting_135 : decode cX7_trainsFitting 135 = .ok (.getfield 32, 3) := by decide +kernel
theorem dX7_trainsFitting_138 : decode cX7_trainsFitting 138 = .ok (.iload 4, 2) := by decide +kernel
theorem dX7_trainsFitting_140 : decode cX7_trainsFitting 140 = .ok (.iconst 1, 1) := by decide +kernel
theorem dX7_trainsFitting_141 : decode cX7_trainsFitting 141 = .ok (.isub, 1) := by decide +kernel
theorem dX7_trainsFitting_142 : decode cX7_trainsFitting 142 = .ok (.dup2, 1) := by decide +kernel
theorem dX7_trainsFitting_143 : decode cX7_trainsFitting 143 = .ok (.iaload, 1) := by decide +kernel
theorem dX7_trainsFitting_144 : decode cX7_trainsFitting 144 = .ok (.aload_n 0, 1) := by decide +kernel
theorem dX7_trainsFitting_145 : decode cX7_trainsFitting 145 = .ok (.getfield 32, 3) := by decide +kernel
theorem dX7_trainsFitting_148 : decode cX7_trainsFitting 148 = .ok (.iload 4, 2) := by decide +kernel
theorem dX7_trainsFitting_150 : decode cX7_trainsFitting 150 = .ok (.iaload, 1) := by decide +kernel
theorem dX7_trainsFitting_151 : decode cX7_trainsFitting 151 = .ok (.ior, 1) := by decide +kernel
theorem dX7_trainsFitting_152 : decode cX7_trainsFitting 152 = .ok (.iastore, 1) := by decide +kernel
theorem dX7_trainsFitting_153 : decode cX7_trainsFitting 153 = .ok (.goto 31, 3) := by decide +kernel
theorem dX7_trainsFitting_156 : decode cX7_trainsFitting 156 = .ok (.iload 4, 2) := by decide +kernel
theorem dX7_trainsFitting_158 : decode cX7_trainsFitting 158 = .ok (.aload_n 0, 1) := by decide +kernel
theorem dX7_trainsFitting_159 : decode cX7_trainsFitting 159 = .ok (.getfield 32, 3) := by decide +kernel
theorem dX7_trainsFitting_162 : decode cX7_trainsFitting 162 = .ok (.arraylength, 1) := by decide +kernel
theorem dX7_trainsFitting_163 : decode cX7_trainsFitting 163 = .ok (.if_icmp .ge 21, 3) := by decide +kernel
theorem dX7_trainsFitting_166 : decode cX7_trainsFitting 166 = .ok (.aload_n 0, 1) := by decide +kernel
theorem dX7_trainsFitting_167 : decode cX7_trainsFitting 167 = .ok (.getfield 32, 3) := by decide +kernel
theorem dX7_trainsFitting_170 : decode cX7_trainsFitting 170 = .ok (.iload 4, 2) := by decide +kernel
theorem dX7_trainsFitting_172 : decode cX7_trainsFitting 172 = .ok (.aload_n 0, 1) := by decide +kernel
theorem dX7_trainsFitting_173 : decode cX7_trainsFitting 173 = .ok (.aload_n 1, 1) := by decide +kernel
theorem dX7_trainsFitting_174 : decode cX7_trainsFitting 174 = .ok (.aload_n 2, 1) := by decide +kernel
theorem dX7_trainsFitting_175 : decode cX7_trainsFitting 175 = .ok (.iload 5, 2) := by decide +kernel
theorem dX7_trainsFitting_177 : decode cX7_trainsFitting 177 = .ok (.invokevirtual 98, 3) := by decide +kernel
theorem dX7_trainsFitting_180 : decode cX7_trainsFitting 180 = .ok (.iastore, 1) := by decide +kernel
theorem dX7_trainsFitting_181 : decode cX7_trainsFitting 181 = .ok (.iinc 4 1, 3) := by decide +kernel
theorem dX7_trainsFitting_184 : decode cX7_trainsFitting 184 = .ok (.iinc 5 1, 3) := by decide +kernel
theorem dX7_trainsFitting_187 : decode cX7_trainsFitting 187 = .ok (.goto (-169), 3) := by decide +kernel
theorem dX7_trainsFitting_190 : decode cX7_trainsFitting 190 = .ok (.aload_n 0, 1) := by decide +kernel
theorem dX7_trainsFitting_191 : decode cX7_trainsFitting 191 = .ok (.getfield 32, 3) := by decide +kernel
theorem dX7_trainsFitting_194 : decode cX7_trainsFitting 194 = .ok (.iconst 0, 1) := by decide +kernel
theorem dX7_trainsFitting_195 : decode cX7_trainsFitting 195 = .ok (.iaload, 1) := by decide +kernel
theorem dX7_trainsFitting_196 : decode cX7_trainsFitting 196 = .ok (.ireturn, 1) := by decide +kernel
theorem dX7_trainsOfStep_0 : decode cX7_trainsOfStep 0 = .ok (.aload_n 0, 1) := by decide +kernel
theorem dX7_trainsOfStep_1 : decode cX7_trainsOfStep 1 = .ok (.getfield 22, 3) := by decide +kernel
theorem dX7_trainsOfStep_4 : decode cX7_trainsOfStep 4 = .ok (.iload_n 3, 1) := by decide +kernel
theorem dX7_trainsOfStep_5 : decode cX7_trainsOfStep 5 = .ok (.iaload, 1) := by decide +kernel
theorem dX7_trainsOfStep_6 : decode cX7_trainsOfStep 6 = .ok (.tableswitch 41 24 26 #[26, 31, 36], 26) := by decide +kernel
theorem dX7_trainsOfStep_32 : decode cX7_trainsOfStep 32 = .ok (.aload_n 2, 1) := by decide +kernel
theorem dX7_trainsOfStep_33 : decode cX7_trainsOfStep 33 = .ok (.invokevirtual 102, 3) := by decide +kernel
theorem dX7_trainsOfStep_36 : decode cX7_trainsOfStep 36 = .ok (.ireturn, 1) := by decide +kernel
theorem dX7_trainsOfStep_37 : decode cX7_trainsOfStep 37 = .ok (.aload_n 2, 1) := by decide +kernel
theorem dX7_trainsOfStep_38 : decode cX7_trainsOfStep 38 = .ok (.getfield 108, 3) := by decide +kernel
theorem dX7_trainsOfStep_41 : decode cX7_trainsOfStep 41 = .ok (.ireturn, 1) := by decide +kernel
theorem dX7_trainsOfStep_42 : decode cX7_trainsOfStep 42 = .ok (.aload_n 2, 1) := by decide +kernel
theorem dX7_trainsOfStep_43 : decode cX7_trainsOfStep 43 = .ok (.getfield 111, 3) := by decide +kernel
theorem dX7_trainsOfStep_46 : decode cX7_trainsOfStep 46 = .ok (.ireturn, 1) := by decide +kernel
theorem dX7_trainsOfStep_47 : decode cX7_trainsOfStep 47 = .ok (.iconst 0, 1) := by decide +kernel
theorem dX7_trainsOfStep_48 : decode cX7_trainsOfStep 48 = .ok (.istore 4, 2) := by decide +kernel
theorem dX7_trainsOfStep_50 : decode cX7_trainsOfStep 50 = .ok (.iconst 0, 1) := by decide +kernel
theorem dX7_trainsOfStep_51 : decode cX7_trainsOfStep 51 = .ok (.istore 5, 2) := by decide +kernel
theorem dX7_trainsOfStep_53 : decode cX7_trainsOfStep 53 = .ok (.iload 5, 2) := by decide +kernel
theorem dX7_trainsOfStep_55 : decode cX7_trainsOfStep 55 = .ok (.aload_n 1, 1) := by decide +kernel
theorem dX7_trainsOfStep_56 : decode cX7_trainsOfStep 56 = .ok (.getfield 93, 3) := by decide +kernel
theorem dX7_trainsOfStep_59 : decode cX7_trainsOfStep 59 = .ok (.bipush 6, 2) := by decide +kernel
theorem dX7_trainsOfStep_61 : decode cX7_trainsOfStep 61 = .ok (.iaload, 1) := by decide +kernel
theorem dX7_trainsOfStep_62 : decode cX7_trainsOfStep 62 = .ok (.if_icmp .ge 29, 3) := by decide +kernel
theorem dX7_trainsOfStep_65 : decode cX7_trainsOfStep 65 = .ok (.aload_n 0, 1) := by decide +kernel
theorem dX7_trainsOfStep_66 : decode cX7_trainsOfStep 66 = .ok (.aload_n 2, 1) := by decide +kernel
theorem dX7_trainsOfStep_67 : decode cX7_trainsOfStep 67 = .ok (.iload_n 3, 1) := by decide +kernel
theorem dX7_trainsOfStep_68 : decode cX7_trainsOfStep 68 = .ok (.iload 5, 2) := by decide +kernel
theorem dX7_trainsOfStep_70 : decode cX7_trainsOfStep 70 = .ok (.invokevirtual 114, 3) := by decide +kernel
theorem dX7_trainsOfStep_73 : decode cX7_trainsOfStep 73 = .ok (.ifCond .eq 12, 3) := by decide +kernel
theorem dX7_trainsOfStep_76 : decode cX7_trainsOfStep 76 = .ok (.iload 4, 2) := by decide +kernel
theorem dX7_trainsOfStep_78 : decode cX7_trainsOfStep 78 = .ok (.iconst 1, 1) := by decide +kernel
theorem dX7_trainsOfStep_79 : decode cX7_trainsOfStep 79 = .ok (.iload 5, 2) := by decide +kernel
theorem dX7_trainsOfStep_81 : decode cX7_trainsOfStep 81 = .ok (.ishl, 1) := by decide +kernel
theorem dX7_trainsOfStep_82 : decode cX7_trainsOfStep 82 = .ok (.ior, 1) := by decide +kernel
theorem dX7_trainsOfStep_83 : decode cX7_trainsOfStep 83 = .ok (.istore 4, 2) := by decide +kernel
theorem dX7_trainsOfStep_85 : decode cX7_trainsOfStep 85 = .ok (.iinc 5 1, 3) := by decide +kernel
theorem dX7_trainsOfStep_88 : decode cX7_trainsOfStep 88 = .ok (.goto (-35), 3) := by decide +kernel
theorem dX7_trainsOfStep_91 : decode cX7_trainsOfStep 91 = .ok (.iload 4, 2) := by decide +kernel
theorem dX7_trainsOfStep_93 : decode cX7_trainsOfStep 93 = .ok (.ireturn, 1) := by decide +kernel
theorem dX7_isTrueOf_0 : decode cX7_isTrueOf 0 = .ok (.aload_n 0, 1) := by decide +kernel
theorem dX7_isTrueOf_1 : decode cX7_isTrueOf 1 = .ok (.getfield 22, 3) := by decide +kernel
theorem dX7_isTrueOf_4 : decode cX7_isTrueOf 4 = .ok (.iload_n 2, 1) := by decide +kernel
theorem dX7_isTrueOf_5 : decode cX7_isTrueOf 5 = .ok (.iaload, 1) := by decide +kernel
theorem dX7_isTrueOf_6 : decode cX7_isTrueOf 6 = .ok (.tableswitch 99 27 30 #[30, 51, 75, 87], 30) := by decide +kernel
theorem dX7_isTrueOf_36 : decode cX7_isTrueOf 36 = .ok (.aload_n 1, 1) := by decide +kernel
theorem dX7_isTrueOf_37 : decode cX7_isTrueOf 37 = .ok (.getfield 118, 3) := by decide +kernel
theorem dX7_isTrueOf_40 : decode cX7_isTrueOf 40 = .ok (.iload_n 3, 1) := by decide +kernel
theorem dX7_isTrueOf_41 : decode cX7_isTrueOf 41 = .ok (.iaload, 1) := by decide +kernel
theorem dX7_isTrueOf_42 : decode cX7_isTrueOf 42 = .ok (.aload_n 0, 1) := by decide +kernel
theorem dX7_isTrueOf_43 : decode cX7_isTrueOf 43 = .ok (.getfield 26, 3) := by decide +kernel
theorem dX7_isTrueOf_46 : decode cX7_isTrueOf 46 = .ok (.iload_n 2, 1) := by decide +kernel
theorem dX7_isTrueOf_47 : decode cX7_isTrueOf 47 = .ok (.iaload, 1) := by decide +kernel
theorem dX7_isTrueOf_48 : decode cX7_isTrueOf 48 = .ok (.if_icmp .ne 7, 3) := by decide +kernel
theorem dX7_isTrueOf_51 : decode cX7_isTrueOf 51 = .ok (.iconst 1, 1) := by decide +kernel
theorem dX7_isTrueOf_52 : decode cX7_isTrueOf 52 = .ok (.goto 4, 3) := by decide +kernel
theorem dX7_isTrueOf_55 : decode cX7_isTrueOf 55 = .ok (.iconst 0, 1) := by decide +kernel
theorem dX7_isTrueOf_56 : decode cX7_isTrueOf 56 = .ok (.ireturn, 1) := by decide +kernel
theorem dX7_isTrueOf_57 : decode cX7_isTrueOf 57 = .ok (.aload_n 1, 1) := by decide +kernel
theorem dX7_isTrueOf_58 : decode cX7_isTrueOf 58 = .ok (.iload_n 3, 1) := by decide +kernel
theorem dX7_isTrueOf_59 : decode cX7_isTrueOf 59 = .ok (.invokevirtual 121, 3) := by decide +kernel
theorem dX7_isTrueOf_62 : decode cX7_isTrueOf 62 = .ok (.aload_n 0, 1) := by decide +kernel
theorem dX7_isTrueOf_63 : decode cX7_isTrueOf 63 = .ok (.getfield 26, 3) := by decide +kernel
theorem dX7_isTrueOf_66 : decode cX7_isTrueOf 66 = .ok (.iload_n 2, 1) := by decide +kernel
theorem dX7_isTrueOf_67 : decode cX7_isTrueOf 67 = .ok (.iaload, 1) := by decide +kernel
theorem dX7_isTrueOf_68 : decode cX7_isTrueOf 68 = .ok (.ishr, 1) := by decide +kernel
theorem dX7_isTrueOf_69 : decode cX7_isTrueOf 69 = .ok (.iconst 1, 1) := by decide +kernel
theorem dX7_isTrueOf_70 : decode cX7_isTrueOf 70 = .ok (.iand, 1) := by decide +kernel
theorem dX7_isTrueOf_71 : decode cX7_isTrueOf 71 = .ok (.iconst 1, 1) := by decide +kernel
theorem dX7_isTrueOf_72 : decode cX7_isTrueOf 72 = .ok (.if_icmp .ne 7, 3) := by decide +kernel
theorem dX7_isTrueOf_75 : decode cX7_isTrueOf 75 = .ok (.iconst 1, 1) := by decide +kernel
theorem dX7_isTrueOf_76 : decode cX7_isTrueOf 76 = .ok (.goto 4, 3) := by decide +kernel
theorem dX7_isTrueOf_79 : decode cX7_isTrueOf 79 = .ok (.iconst 0, 1) := by decide +kernel
theorem dX7_isTrueOf_80 : decode cX7_isTrueOf 80 = .ok (.ireturn, 1) := by decide +kernel
theorem dX7_isTrueOf_81 : decode cX7_isTrueOf 81 = .ok (.aload_n 0, 1) := by decide +kernel
theorem dX7_isTrueOf_82 : decode cX7_isTrueOf 82 = .ok (.aload_n 1, 1) := by decide +kernel
theorem dX7_isTrueOf_83 : decode cX7_isTrueOf 83 = .ok (.getfield 125, 3) := by decide +kernel
theorem dX7_isTrueOf_86 : decode cX7_isTrueOf 86 = .ok (.iload_n 3, 1) := by decide +kernel
theorem dX7_isTrueOf_87 : decode cX7_isTrueOf 87 = .ok (.iaload, 1) := by decide +kernel
theorem dX7_isTrueOf_88 : decode cX7_isTrueOf 88 = .ok (.iload_n 2, 1) := by decide +kernel
theorem dX7_isTrueOf_89 : decode cX7_isTrueOf 89 = .ok (.invokevirtual 128, 3) := by decide +kernel
theorem dX7_isTrueOf_92 : decode cX7_isTrueOf 92 = .ok (.ireturn, 1) := by decide +kernel
theorem dX7_isTrueOf_93 : decode cX7_isTrueOf 93 = .ok (.aload_n 0, 1) := by decide +kernel
theorem dX7_isTrueOf_94 : decode cX7_isTrueOf 94 = .ok (.aload_n 1, 1) := by decide +kernel
theorem dX7_isTrueOf_95 : decode cX7_isTrueOf 95 = .ok (.getfield 132, 3) := by decide +kernel
theorem dX7_isTrueOf_98 : decode cX7_isTrueOf 98 = .ok (.iload_n 3, 1) := by decide +kernel
theorem dX7_isTrueOf_99 : decode cX7_isTrueOf 99 = .ok (.iaload, 1) := by decide +kernel
theorem dX7_isTrueOf_100 : decode cX7_isTrueOf 100 = .ok (.iload_n 2, 1) := by decide +kernel
theorem dX7_isTrueOf_101 : decode cX7_isTrueOf 101 = .ok (.invokevirtual 128, 3) := by decide +kernel
theorem dX7_isTrueOf_104 : decode cX7_isTrueOf 104 = .ok (.ireturn, 1) := by decide +kernel
theorem dX7_isTrueOf_105 : decode cX7_isTrueOf 105 = .ok (.aload_n 0, 1) := by decide +kernel
theorem dX7_isTrueOf_106 : decode cX7_isTrueOf 106 = .ok (.iload_n 3, 1) := by decide +kernel
theorem dX7_isTrueOf_107 : decode cX7_isTrueOf 107 = .ok (.iload_n 2, 1) := by decide +kernel
theorem dX7_isTrueOf_108 : decode cX7_isTrueOf 108 = .ok (.invokevirtual 128, 3) := by decide +kernel
theorem dX7_isTrueOf_111 : decode cX7_isTrueOf 111 = .ok (.ireturn, 1) := by decide +kernel
theorem dX7_compares_0 : decode cX7_compares 0 = .ok (.aload_n 0, 1) := by decide +kernel
theorem dX7_compares_1 : decode cX7_compares 1 = .ok (.getfield 29, 3) := by decide +kernel
theorem dX7_compares_4 : decode cX7_compares 4 = .ok (.iload_n 2, 1) := by decide +kernel
theorem dX7_compares_5 : decode cX7_compares 5 = .ok (.iaload, 1) := by decide +kernel
theorem dX7_compares_6 : decode cX7_compares 6 = .ok (.bipush 60, 2) := by decide +kernel
theorem dX7_compares_8 : decode cX7_compares 8 = .ok (.if_icmp .ne 19, 3) := by decide +kernel
theorem dX7_compares_11 : decode cX7_compares 11 = .ok (.iload_n 1, 1) := by decide +kernel
theorem dX7_compares_12 : decode cX7_compares 12 = .ok (.aload_n 0, 1) := by decide +kernel
theorem dX7_compares_13 : decode cX7_compares 13 = .ok (.getfield 26, 3) := by decide +kernel
theorem dX7_compares_16 : decode cX7_compares 16 = .ok (.iload_n 2, 1) := by decide +kernel
theorem dX7_compares_17 : decode cX7_compares 17 = .ok (.iaload, 1) := by decide +kernel
theorem dX7_compares_18 : decode cX7_compares 18 = .ok (.if_icmp .ge 7, 3) := by decide +kernel
theorem dX7_compares_21 : decode cX7_compares 21 = .ok (.iconst 1, 1) := by decide +kernel
theorem dX7_compares_22 : decode cX7_compares 22 = .ok (.goto 4, 3) := by decide +kernel
theorem dX7_compares_25 : decode cX7_compares 25 = .ok (.iconst 0, 1) := by decide +kernel
theorem dX7_compares_26 : decode cX7_compares 26 = .ok (.ireturn, 1) := by decide +kernel
theorem dX7_compares_27 : decode cX7_compares 27 = .ok (.aload_n 0, 1) := by decide +kernel
theorem dX7_compares_28 : decode cX7_compares 28 = .ok (.getfield 29, 3) := by decide +kernel
theorem dX7_compares_31 : decode cX7_compares 31 = .ok (.iload_n 2, 1) := by decide +kernel
theorem dX7_compares_32 : decode cX7_compares 32 = .ok (.iaload, 1) := by decide +kernel
theorem dX7_compares_33 : decode cX7_compares 33 = .ok (.bipush 62, 2) := by decide +kernel
theorem dX7_compares_35 : decode cX7_compares 35 = .ok (.if_icmp .ne 21, 3) := by decide +kernel
theorem dX7_compares_38 : decode cX7_compares 38 = .ok (.iload_n 1, 1) := by decide +kernel
theorem dX7_compares_39 : decode cX7_compares 39 = .ok (.aload_n 0, 1) := by decide +kernel
theorem dX7_compares_40 : decode cX7_compares 40 = .ok (.getfield 26, 3) := by decide +kernel
theorem dX7_compares_43 : decode cX7_compares 43 = .ok (.iload_n 2, 1) := by decide +kernel
theorem dX7_compares_44 : decode cX7_compares 44 = .ok (.iaload, 1) := by decide +kernel
theorem dX7_compares_45 : decode cX7_compares 45 = .ok (.if_icmp .le 7, 3) := by decide +kernel
theorem dX7_compares_48 : decode cX7_compares 48 = .ok (.iconst 1, 1) := by decide +kernel
theorem dX7_compares_49 : decode cX7_compares 49 = .ok (.goto 22, 3) := by decide +kernel
theorem dX7_compares_52 : decode cX7_compares 52 = .ok (.iconst 0, 1) := by decide +kernel
theorem dX7_compares_53 : decode cX7_compares 53 = .ok (.goto 18, 3) := by decide +kernel
theorem dX7_compares_56 : decode cX7_compares 56 = .ok (.iload_n 1, 1) := by decide +kernel
theorem dX7_compares_57 : decode cX7_compares 57 = .ok (.aload_n 0, 1) := by decide +kernel
theorem dX7_compares_58 : decode cX7_compares 58 = .ok (.getfield 26, 3) := by decide +kernel
theorem dX7_compares_61 : decode cX7_compares 61 = .ok (.iload_n 2, 1) := by decide +kernel
theorem dX7_compares_62 : decode cX7_compares 62 = .ok (.iaload, 1) := by decide +kernel
theorem dX7_compares_63 : decode cX7_compares 63 = .ok (.if_icmp .ne 7, 3) := by decide +kernel
theorem dX7_compares_66 : decode cX7_compares 66 = .ok (.iconst 1, 1) := by decide +kernel
theorem dX7_compares_67 : decode cX7_compares 67 = .ok (.goto 4, 3) := by decide +kernel
theorem dX7_compares_70 : decode cX7_compares 70 = .ok (.iconst 0, 1) := by decide +kernel
theorem dX7_compares_71 : decode cX7_compares 71 = .ok (.ireturn, 1) := by decide +kernel
theorem dX8_init_0 : decode cX8_init 0 = .ok (.aload_n 0, 1) := by decide +kernel
theorem dX8_init_1 : decode cX8_init 1 = .ok (.invokespecial 3, 3) := by decide +kernel
theorem dX8_init_4 : decode cX8_init 4 = .ok (.aload_n 0, 1) := by decide +kernel
theorem dX8_init_5 : decode cX8_init 5 = .ok (.iconst 0, 1) := by decide +kernel
theorem dX8_init_6 : decode cX8_init 6 = .ok (.putfield 9, 3) := by decide +kernel
theorem dX8_init_9 : decode cX8_init 9 = .ok (.aload_n 0, 1) := by decide +kernel
theorem dX8_init_10 : decode cX8_init 10 = .ok (.iconst 0, 1) := by decide +kernel
theorem dX8_init_11 : decode cX8_init 11 = .ok (.putfield 15, 3) := by decide +kernel
theorem dX8_init_14 : decode cX8_init 14 = .ok (.aload_n 0, 1) := by decide +kernel
theorem dX8_init_15 : decode cX8_init 15 = .ok (.iconst 0, 1) := by decide +kernel
theorem dX8_init_16 : decode cX8_init 16 = .ok (.putfield 18, 3) := by decide +kernel
theorem dX8_init_19 : decode cX8_init 19 = .ok (.aload_n 0, 1) := by decide +kernel
theorem dX8_init_20 : decode cX8_init 20 = .ok (.iconst 0, 1) := by decide +kernel
theorem dX8_init_21 : decode cX8_init 21 = .ok (.putfield 21, 3) := by decide +kernel
theorem dX8_init_24 : decode cX8_init 24 = .ok (.aload_n 0, 1) := by decide +kernel
theorem dX8_init_25 : decode cX8_init 25 = .ok (.iconst 0, 1) := by decide +kernel
theorem dX8_init_26 : decode cX8_init 26 = .ok (.putfield 24, 3) := by decide +kernel
theorem dX8_init_29 : decode cX8_init 29 = .ok (.aload_n 0, 1) := by decide +kernel
theorem dX8_init_30 : decode cX8_init 30 = .ok (.iconst 0, 1) := by decide +kernel
theorem dX8_init_31 : decode cX8_init 31 = .ok (.putfield 27, 3) := by decide +kernel
theorem dX8_init_34 : decode cX8_init 34 = .ok (.aload_n 0, 1) := by decide +kernel
theorem dX8_init_35 : decode cX8_init 35 = .ok (.iconst 0, 1) := by decide +kernel
theorem dX8_init_36 : decode cX8_init 36 = .ok (.putfield 30, 3) := by decide +kernel
theorem dX8_init_39 : decode cX8_init 39 = .ok (.aload_n 0, 1) := by decide +kernel
theorem dX8_init_40 : decode cX8_init 40 = .ok (.bipush 10, 2) := by decide +kernel
theorem dX8_init_42 : decode cX8_init 42 = .ok (.newarray .int, 2) := by decide +kernel
theorem dX8_init_44 : decode cX8_init 44 = .ok (.putfield 33, 3) := by decide +kernel
theorem dX8_init_47 : decode cX8_init 47 = .ok (.aload_n 0, 1) := by decide +kernel
theorem dX8_init_48 : decode cX8_init 48 = .ok (.bipush 10, 2) := by decide +kernel
theorem dX8_init_50 : decode cX8_init 50 = .ok (.newarray .int, 2) := by decide +kernel
theorem dX8_init_52 : decode cX8_init 52 = .ok (.putfield 37, 3) := by decide +kernel
theorem dX8_init_55 : decode cX8_init 55 = .ok (.aload_n 0, 1) := by decide +kernel
theorem dX8_init_56 : decode cX8_init 56 = .ok (.bipush 10, 2) := by decide +kernel
theorem dX8_init_58 : decode cX8_init 58 = .ok (.newarray .int, 2) := by decide +kernel
theorem dX8_init_60 : decode cX8_init 60 = .ok (.putfield 40, 3) := by decide +kernel
theorem dX8_init_63 : decode cX8_init 63 = .ok (.aload_n 0, 1) := by decide +kernel
theorem dX8_init_64 : decode cX8_init 64 = .ok (.iconst 5, 1) := by decide +kernel
theorem dX8_init_65 : decode cX8_init 65 = .ok (.newarray .int, 2) := by decide +kernel
theorem dX8_init_67 : decode cX8_init 67 = .ok (.putfield 43, 3) := by decide +kernel
theorem dX8_init_70 : decode cX8_init 70 = .ok (.aload_n 0, 1) := by decide +kernel
theorem dX8_init_71 : decode cX8_init 71 = .ok (.iconst 5, 1) := by decide +kernel
theorem dX8_init_72 : decode cX8_init 72 = .ok (.newarray .int, 2) := by decide +kernel
theorem dX8_init_74 : decode cX8_init 74 = .ok (.putfield 46, 3) := by decide +kernel
theorem dX8_init_77 : decode cX8_init 77 = .ok (.aload_n 0, 1) := by decide +kernel
theorem dX8_init_78 : decode cX8_init 78 = .ok (.iconst 5, 1) := by decide +kernel
theorem dX8_init_79 : decode cX8_init 79 = .ok (.newarray .int, 2) := by decide +kernel
theorem dX8_init_81 : decode cX8_init 81 = .ok (.putfield 49, 3) := by decide +kernel
theorem dX8_init_84 : decode cX8_init 84 = .ok (.aload_n 0, 1) := by decide +kernel
theorem dX8_init_85 : decode cX8_init 85 = .ok (.aload_n 1, 1) := by decide +kernel
theorem dX8_init_86 : decode cX8_init 86 = .ok (.putfield 52, 3) := by decide +kernel
theorem dX8_init_89 : decode cX8_init 89 = .ok (.return_, 1) := by decide +kernel
theorem dX8_start_0 : decode cX8_start 0 = .ok (.aload_n 0, 1) := by decide +kernel
theorem dX8_start_1 : decode cX8_start 1 = .ok (.iconst 0, 1) := by decide +kernel
theorem dX8_start_2 : decode cX8_start 2 = .ok (.putfield 9, 3) := by decide +kernel
theorem dX8_start_5 : decode cX8_start 5 = .ok (.aload_n 0, 1) := by decide +kernel
theorem dX8_start_6 : decode cX8_start 6 = .ok (.iconst 0, 1) := by decide +kernel
theorem dX8_start_7 : decode cX8_start 7 = .ok (.putfield 15, 3) := by decide +kernel
theorem dX8_start_10 : decode cX8_start 10 = .ok (.aload_n 0, 1) := by decide +kernel
theorem dX8_start_11 : decode cX8_start 11 = .ok (.iconst 0, 1) := by decide +kernel
theorem dX8_start_12 : decode cX8_start 12 = .ok (.putfield 18, 3) := by decide +kernel
theorem dX8_start_15 : decode cX8_start 15 = .ok (.aload_n 0, 1) := by decide +kernel
theorem dX8_start_16 : decode cX8_start 16 = .ok (.iconst 0, 1) := by decide +kernel
theorem dX8_start_17 : decode cX8_start 17 = .ok (.putfield 21, 3) := by decide +kernel
theorem dX8_start_20 : decode cX8_start 20 = .ok (.aload_n 0, 1) := by decide +kernel
theorem dX8_start_21 : decode cX8_start 21 = .ok (.iconst 0, 1) := by decide +kernel
theorem dX8_start_22 : decode cX8_start 22 = .ok (.putfield 24, 3) := by decide +kernel
theorem dX8_start_25 : decode cX8_start 25 = .ok (.aload_n 0, 1) := by decide +kernel
theorem dX8_start_26 : decode cX8_start 26 = .ok (.iconst 0, 1) := by decide +kernel
theorem dX8_start_27 : decode cX8_start 27 = .ok (.putfield 27, 3) := by decide +kernel
theorem dX8_start_30 : decode cX8_start 30 = .ok (.aload_n 0, 1) := by decide +kernel
theorem dX8_start_31 : decode cX8_start 31 = .ok (.iconst 0, 1) := by decide +kernel
theorem dX8_start_32 : decode cX8_start 32 = .ok (.putfield 30, 3) := by decide +kernel
theorem dX8_start_35 : decode cX8_start 35 = .ok (.aload_n 0, 1) := by decide +kernel
theorem dX8_start_36 : decode cX8_start 36 = .ok (.getfield 33, 3) := by decide +kernel
theorem dX8_start_39 : decode cX8_start 39 = .ok (.iconst 0, 1) := by decide +kernel
theorem dX8_start_40 : decode cX8_start 40 = .ok (.invokestatic 56, 3) := by decide +kernel
theorem dX8_start_43 : decode cX8_start 43 = .ok (.aload_n 0, 1) := by decide +kernel
theorem dX8_start_44 : decode cX8_start 44 = .ok (.getfield 37, 3) := by decide +kernel
theorem dX8_start_47 : decode cX8_start 47 = .ok (.iconst 0, 1) := by decide +kernel
theorem dX8_start_48 : decode cX8_start 48 = .ok (.invokestatic 56, 3) := by decide +kernel
theorem dX8_start_51 : decode cX8_start 51 = .ok (.aload_n 0, 1) := by decide +kernel
theorem dX8_start_52 : decode cX8_start 52 = .ok (.getfield 40, 3) := by decide +kernel
theorem dX8_start_55 : decode cX8_start 55 = .ok (.iconst (-1), 1) := by decide +kernel
theorem dX8_start_56 : decode cX8_start 56 = .ok (.invokestatic 56, 3) := by decide +kernel
theorem dX8_start_59 : decode cX8_start 59 = .ok (.aload_n 0, 1) := by decide +kernel
theorem dX8_start_60 : decode cX8_start 60 = .ok (.getfield 52, 3) := by decide +kernel
theorem dX8_start_63 : decode cX8_start 63 = .ok (.getfield 62, 3) := by decide +kernel
theorem dX8_start_66 : decode cX8_start 66 = .ok (.aload_n 0, 1) := by decide +kernel
theorem dX8_start_67 : decode cX8_start 67 = .ok (.getfield 43, 3) := by decide +kernel
theorem dX8_start_70 : decode cX8_start 70 = .ok (.invokestatic 67, 3) := by decide +kernel
theorem dX8_start_73 : decode cX8_start 73 = .ok (.aload_n 0, 1) := by decide +kernel
theorem dX8_start_74 : decode cX8_start 74 = .ok (.getfield 46, 3) := by decide +kernel
theorem dX8_start_77 : decode cX8_start 77 = .ok (.iconst 0, 1) := by decide +kernel
theorem dX8_start_78 : decode cX8_start 78 = .ok (.invokestatic 56, 3) := by decide +kernel
theorem dX8_start_81 : decode cX8_start 81 = .ok (.aload_n 0, 1) := by decide +kernel
theorem dX8_start_82 : decode cX8_start 82 = .ok (.getfield 49, 3) := by decide +kernel
theorem dX8_start_85 : decode cX8_start 85 = .ok (.iconst 0, 1) := by decide +kernel
theorem dX8_start_86 : decode cX8_start 86 = .ok (.invokestatic 56, 3) := by decide +kernel
theorem dX8_start_89 : decode cX8_start 89 = .ok (.return_, 1) := by decide +kernel
theorem dX8_copyFrom_0 : decode cX8_copyFrom 0 = .ok (.aload_n 0, 1) := by decide +kernel
theorem dX8_copyFrom_1 : decode cX8_copyFrom 1 = .ok (.aload_n 1, 1) := by decide +kernel
theorem dX8_copyFrom_2 : decode cX8_copyFrom 2 = .ok (.getfield 9, 3) := by decide +kernel
theorem dX8_copyFrom_5 : decode cX8_copyFrom 5 = .ok (.putfield 9, 3) := by decide +kernel
theorem dX8_copyFrom_8 : decode cX8_copyFrom 8 = .ok (.aload_n 0, 1) := by decide +kernel
theorem dX8_copyFrom_9 : decode cX8_copyFrom 9 = .ok (.aload_n 1, 1) := by decide +kernel
theorem dX8_copyFrom_10 : decode cX8_copyFrom 10 = .ok (.getfield 15, 3) := by decide +kernel
theorem dX8_copyFrom_13 : decode cX8_copyFrom 13 = .ok (.putfield 15, 3) := by decide +kernel
theorem dX8_copyFrom_16 : decode cX8_copyFrom 16 = .ok (.aload_n 0, 1) := by decide +kernel
theorem dX8_copyFrom_17 : decode cX8_copyFrom 17 = .ok (.aload_n 1, 1) := by decide +kernel
theorem dX8_copyFrom_18 : decode cX8_copyFrom 18 = .ok (.getfield 18, 3) := by decide +kernel
theorem dX8_copyFrom_21 : decode cX8_copyFrom 21 = .ok (.putfield 18, 3) := by decide +kernel
theorem dX8_copyFrom_24 : decode cX8_copyFrom 24 = .ok (.aload_n 0, 1) := by decide +kernel
theorem dX8_copyFrom_25 : decode cX8_copyFrom 25 = .ok (.aload_n 1, 1) := by decide +kernel
theorem dX8_copyFrom_26 : decode cX8_copyFrom 26 = .ok (.getfield 21, 3) := by decide +kernel
theorem dX8_copyFrom_29 : decode cX8_copyFrom 29 = .ok (.putfield 21, 3) := by decide +kernel
theorem dX8_copyFrom_32 : decode cX8_copyFrom 32 = .ok (.aload_n 0, 1) := by decide +kernel
theorem dX8_copyFrom_33 : decode cX8_copyFrom 33 = .ok (.aload_n 1, 1) := by decide +kernel
theorem dX8_copyFrom_34 : decode cX8_copyFrom 34 = .ok (.getfield 24, 3) := by decide +kernel
theorem dX8_copyFrom_37 : decode cX8_copyFrom 37 = .ok (.putfield 24, 3) := by decide +kernel
theorem dX8_copyFrom_40 : decode cX8_copyFrom 40 = .ok (.aload_n 0, 1) := by decide +kernel
theorem dX8_copyFrom_41 : decode cX8_copyFrom 41 = .ok (.aload_n 1, 1) := by decide +kernel
theorem dX8_copyFrom_42 : decode cX8_copyFrom 42 = .ok (.getfield 27, 3) := by decide +kernel
theorem dX8_copyFrom_45 : decode cX8_copyFrom 45 = .ok (.putfield 27, 3) := by decide +kernel
theorem dX8_copyFrom_48 : decode cX8_copyFrom 48 = .ok (.aload_n 0, 1) := by decide +kernel
theorem dX8_copyFrom_49 : decode cX8_copyFrom 49 = .ok (.aload_n 1, 1) := by decide +kernel
theorem dX8_copyFrom_50 : decode cX8_copyFrom 50 = .ok (.getfield 30, 3) := by decide +kernel
theorem dX8_copyFrom_53 : decode cX8_copyFrom 53 = .ok (.putfield 30, 3) := by decide +kernel
theorem dX8_copyFrom_56 : decode cX8_copyFrom 56 = .ok (.aload_n 1, 1) := by decide +kernel
theorem dX8_copyFrom_57 : decode cX8_copyFrom 57 = .ok (.getfield 33, 3) := by decide +kernel
theorem dX8_copyFrom_60 : decode cX8_copyFrom 60 = .ok (.aload_n 0, 1) := by decide +kernel
theorem dX8_copyFrom_61 : decode cX8_copyFrom 61 = .ok (.getfield 33, 3) := by decide +kernel
theorem dX8_copyFrom_64 : decode cX8_copyFrom 64 = .ok (.invokestatic 67, 3) := by decide +kernel
theorem dX8_copyFrom_67 : decode cX8_copyFrom 67 = .ok (.aload_n 1, 1) := by decide +kernel
theorem dX8_copyFrom_68 : decode cX8_copyFrom 68 = .ok (.getfield 37, 3) := by decide +kernel
theorem dX8_copyFrom_71 : decode cX8_copyFrom 71 = .ok (.aload_n 0, 1) := by decide +kernel
theorem dX8_copyFrom_72 : decode cX8_copyFrom 72 = .ok (.getfield 37, 3) := by decide +kernel
theorem dX8_copyFrom_75 : decode cX8_copyFrom 75 = .ok (.invokestatic 67, 3) := by decide +kernel
theorem dX8_copyFrom_78 : decode cX8_copyFrom 78 = .ok (.aload_n 1, 1) := by decide +kernel
theorem dX8_copyFrom_79 : decode cX8_copyFrom 79 = .ok (.getfield 40, 3) := by decide +kernel
theorem dX8_copyFrom_82 : decode cX8_copyFrom 82 = .ok (.aload_n 0, 1) := by decide +kernel
theorem dX8_copyFrom_83 : decode cX8_copyFrom 83 = .ok (.getfield 40, 3) := by decide +kernel
theorem dX8_copyFrom_86 : decode cX8_copyFrom 86 = .ok (.invokestatic 67, 3) := by decide +kernel
theorem dX8_copyFrom_89 : decode cX8_copyFrom 89 = .ok (.aload_n 1, 1) := by decide +kernel
theorem dX8_copyFrom_90 : decode cX8_copyFrom 90 = .ok (.getfield 43, 3) := by decide +kernel
theorem dX8_copyFrom_93 : decode cX8_copyFrom 93 = .ok (.aload_n 0, 1) := by decide +kernel
theorem dX8_copyFrom_94 : decode cX8_copyFrom 94 = .ok (.getfield 43, 3) := by decide +kernel
theorem dX8_copyFrom_97 : decode cX8_copyFrom 97 = .ok (.invokestatic 67, 3) := by decide +kernel
theorem dX8_copyFrom_100 : decode cX8_copyFrom 100 = .ok (.aload_n 1, 1) := by decide +kernel
theorem dX8_copyFrom_101 : decode cX8_copyFrom 101 = .ok (.getfield 46, 3) := by decide +kernel
theorem dX8_copyFrom_104 : decode cX8_copyFrom 104 = .ok (.aload_n 0, 1) := by decide +kernel
theorem dX8_copyFrom_105 : decode cX8_copyFrom 105 = .ok (.getfield 46, 3) := by decide +kernel
theorem dX8_copyFrom_108 : decode cX8_copyFrom 108 = .ok (.invokestatic 67, 3) := by decide +kernel
theorem dX8_copyFrom_111 : decode cX8_copyFrom 111 = .ok (.aload_n 1, 1) := by decide +kernel
theorem dX8_copyFrom_112 : decode cX8_copyFrom 112 = .ok (.getfield 49, 3) := by decide +kernel
theorem dX8_copyFrom_115 : decode cX8_copyFrom 115 = .ok (.aload_n 0, 1) := by decide +kernel
theorem dX8_copyFrom_116 : decode cX8_copyFrom 116 = .ok (.getfield 49, 3) := by decide +kernel
theorem dX8_copyFrom_119 : decode cX8_copyFrom 119 = .ok (.invokestatic 67, 3) := by decide +kernel
theorem dX8_copyFrom_122 : decode cX8_copyFrom 122 = .ok (.return_, 1) := by decide +kernel
theorem dX8_occupied_0 : decode cX8_occupied 0 = .ok (.iconst 0, 1) := by decide +kernel
theorem dX8_occupied_1 : decode cX8_occupied 1 = .ok (.istore_n 1, 1) := by decide +kernel
theorem dX8_occupied_2 : decode cX8_occupied 2 = .ok (.iconst 0, 1) := by decide +kernel
theorem dX8_occupied_3 : decode cX8_occupied 3 = .ok (.istore_n 2, 1) := by decide +kernel
theorem dX8_occupied_4 : decode cX8_occupied 4 = .ok (.iload_n 2, 1) := by decide +kernel
theorem dX8_occupied_5 : decode cX8_occupied 5 = .ok (.aload_n 0, 1) := by decide +kernel
theorem dX8_occupied_6 : decode cX8_occupied 6 = .ok (.getfield 52, 3) := by decide +kernel
theorem dX8_occupied_9 : decode cX8_occupied 9 = .ok (.getfield 71, 3) := by decide +kernel
theorem dX8_occupied_12 : decode cX8_occupied 12 = .ok (.bipush 6, 2) := by decide +kernel
theorem dX8_occupied_14 : decode cX8_occupied 14 = .ok (.iaload, 1) := by decide +kernel
theorem dX8_occupied_15 : decode cX8_occupied 15 = .ok (.if_icmp .ge 30, 3) := by decide +kernel
theorem dX8_occupied_18 : decode cX8_occupied 18 = .ok (.aload_n 0, 1) := by decide +kernel
theorem dX8_occupied_19 : decode cX8_occupied 19 = .ok (.getfield 43, 3) := by decide +kernel
theorem dX8_occupied_22 : decode cX8_occupied 22 = .ok (.iload_n 2, 1) := by decide +kernel
theorem dX8_occupied_23 : decode cX8_occupied 23 = .ok (.iaload, 1) := by decide +kernel
theorem dX8_occupied_24 : decode cX8_occupied 24 = .ok (.iconst (-1), 1) := by decide +kernel
theorem dX8_occupied_25 : decode cX8_occupied 25 = .ok (.if_icmp .eq 14, 3) := by decide +kernel
theorem dX8_occupied_28 : decode cX8_occupied 28 = .ok (.iload_n 1, 1) := by decide +kernel
theorem dX8_occupied_29 : decode cX8_occupied 29 = .ok (.iconst 1, 1) := by decide +kernel
theorem dX8_occupied_30 : decode cX8_occupied 30 = .ok (.aload_n 0, 1) := by decide +kernel
theorem dX8_occupied_31 : decode cX8_occupied 31 = .ok (.getfield 43, 3) := by decide +kernel
theorem dX8_occupied_34 : decode cX8_occupied 34 = .ok (.iload_n 2, 1) := by decide +kernel
theorem dX8_occupied_35 : decode cX8_occupied 35 = .ok (.iaload, 1) := by decide +kernel
theorem dX8_occupied_36 : decode cX8_occupied 36 = .ok (.ishl, 1) := by decide +kernel
theorem dX8_occupied_37 : decode cX8_occupied 37 = .ok (.ior, 1) := by decide +kernel
theorem dX8_occupied_38 : decode cX8_occupied 38 = .ok (.istore_n 1, 1) := by decide +kernel
theorem dX8_occupied_39 : decode cX8_occupied 39 = .ok (.iinc 2 1, 3) := by decide +kernel
theorem dX8_occupied_42 : decode cX8_occupied 42 = .ok (.goto (-38), 3) := by decide +kernel
theorem dX8_occupied_45 : decode cX8_occupied 45 = .ok (.iload_n 1, 1) := by decide +kernel
theorem dX8_occupied_46 : decode cX8_occupied 46 = .ok (.ireturn, 1) := by decide +kernel
theorem dX8_showing_0 : decode cX8_showing 0 = .ok (.aload_n 0, 1) := by decide +kernel
theorem dX8_showing_1 : decode cX8_showing 1 = .ok (.invokevirtual 74, 3) := by decide +kernel
theorem dX8_showing_4 : decode cX8_showing 4 = .ok (.aload_n 0, 1) := by decide +kernel
theorem dX8_showing_5 : decode cX8_showing 5 = .ok (.getfield 21, 3) := by decide +kernel
theorem dX8_showing_8 : decode cX8_showing 8 = .ok (.iconst (-1), 1) := by decide +kernel
theorem dX8_showing_9 : decode cX8_showing 9 = .ok (.ixor, 1) := by decide +kernel
theorem dX8_showing_10 : decode cX8_showing 10 = .ok (.iand, 1) := by decide +kernel
theorem dX8_showing_11 : decode cX8_showing 11 = .ok (.aload_n 0, 1) := by decide +kernel
theorem dX8_showing_12 : decode cX8_showing 12 = .ok (.getfield 24, 3) := by decide +kernel
theorem dX8_showing_15 : decode cX8_showing 15 = .ok (.ior, 1) := by decide +kernel
theorem dX8_showing_16 : decode cX8_showing 16 = .ok (.ireturn, 1) := by decide +kernel
theorem dX8_failing_0 : decode cX8_failing 0 = .ok (.aload_n 0, 1) := by decide +kernel
theorem dX8_failing_1 : decode cX8_failing 1 = .ok (.getfield 21, 3) := by decide +kernel
theorem dX8_failing_4 : decode cX8_failing 4 = .ok (.iload_n 1, 1) := by decide +kernel
theorem dX8_failing_5 : decode cX8_failing 5 = .ok (.ishr, 1) := by decide +kernel
theorem dX8_failing_6 : decode cX8_failing 6 = .ok (.iconst 1, 1) := by decide +kernel
theorem dX8_failing_7 : decode cX8_failing 7 = .ok (.iand, 1) := by decide +kernel
theorem dX8_failing_8 : decode cX8_failing 8 = .ok (.iconst 2, 1) := by decide +kernel
theorem dX8_failing_9 : decode cX8_failing 9 = .ok (.aload_n 0, 1) := by decide +kernel
theorem dX8_failing_10 : decode cX8_failing 10 = .ok (.getfield 24, 3) := by decide +kernel
theorem dX8_failing_13 : decode cX8_failing 13 = .ok (.iload_n 1, 1) := by decide +kernel
theorem dX8_failing_14 : decode cX8_failing 14 = .ok (.ishr, 1) := by decide +kernel
theorem dX8_failing_15 : decode cX8_failing 15 = .ok (.iconst 1, 1) := by decide +kernel
theorem dX8_failing_16 : decode cX8_failing 16 = .ok (.iand, 1) := by decide +kernel
theorem dX8_failing_17 : decode cX8_failing 17 = .ok (.imul, 1) := by decide +kernel
theorem dX8_failing_18 : decode cX8_failing 18 = .ok (.iadd, 1) := by decide +kernel
theorem dX8_failing_19 : decode cX8_failing 19 = .ok (.ireturn, 1) := by decide +kernel
theorem dX8_leastTrainIn_0 : decode cX8_leastTrainIn 0 = .ok (.iconst 0, 1) := by decide +kernel
theorem dX8_leastTrainIn_1 : decode cX8_leastTrainIn 1 = .ok (.istore_n 3, 1) := by decide +kernel
theorem dX8_leastTrainIn_2 : decode cX8_leastTrainIn 2 = .ok (.iload_n 3, 1) := by decide +kernel
theorem dX8_leastTrainIn_3 : decode cX8_leastTrainIn 3 = .ok (.aload_n 0, 1) := by decide +kernel
theorem dX8_leastTrainIn_4 : decode cX8_leastTrainIn 4 = .ok (.getfield 52, 3) := by decide +kernel
theorem dX8_leastTrainIn_7 : decode cX8_leastTrainIn 7 = .ok (.getfield 71, 3) := by decide +kernel
theorem dX8_leastTrainIn_10 : decode cX8_leastTrainIn 10 = .ok (.bipush 6, 2) := by decide +kernel
theorem dX8_leastTrainIn_12 : decode cX8_leastTrainIn 12 = .ok (.iaload, 1) := by decide +kernel
theorem dX8_leastTrainIn_13 : decode cX8_leastTrainIn 13 = .ok (.if_icmp .ge 26, 3) := by decide +kernel
theorem dX8_leastTrainIn_16 : decode cX8_leastTrainIn 16 = .ok (.iload_n 3, 1) := by decide +kernel
theorem dX8_leastTrainIn_17 : decode cX8_leastTrainIn 17 = .ok (.iload_n 2, 1) := by decide +kernel
theorem dX8_leastTrainIn_18 : decode cX8_leastTrainIn 18 = .ok (.if_icmp .eq 15, 3) := by decide +kernel
theorem dX8_leastTrainIn_21 : decode cX8_leastTrainIn 21 = .ok (.aload_n 0, 1) := by decide +kernel
theorem dX8_leastTrainIn_22 : decode cX8_leastTrainIn 22 = .ok (.getfield 43, 3) := by decide +kernel
theorem dX8_leastTrainIn_25 : decode cX8_leastTrainIn 25 = .ok (.iload_n 3, 1) := by decide +kernel
theorem dX8_leastTrainIn_26 : decode cX8_leastTrainIn 26 = .ok (.iaload, 1) := by decide +kernel
theorem dX8_leastTrainIn_27 : decode cX8_leastTrainIn 27 = .ok (.iload_n 1, 1) := by decide +kernel
theorem dX8_leastTrainIn_28 : decode cX8_leastTrainIn 28 = .ok (.if_icmp .ne 5, 3) := by decide +kernel
theorem dX8_leastTrainIn_31 : decode cX8_leastTrainIn 31 = .ok (.iload_n 3, 1) := by decide +kernel
theorem dX8_leastTrainIn_32 : decode cX8_leastTrainIn 32 = .ok (.ireturn, 1) := by decide +kernel
theorem dX8_leastTrainIn_33 : decode cX8_leastTrainIn 33 = .ok (.iinc 3 1, 3) := by decide +kernel
theorem dX8_leastTrainIn_36 : decode cX8_leastTrainIn 36 = .ok (.goto (-34), 3) := by decide +kernel
theorem dX8_leastTrainIn_39 : decode cX8_leastTrainIn 39 = .ok (.iconst (-1), 1) := by decide +kernel
theorem dX8_leastTrainIn_40 : decode cX8_leastTrainIn 40 = .ok (.ireturn, 1) := by decide +kernel
theorem dX8_notFree_0 : decode cX8_notFree 0 = .ok (.iconst 0, 1) := by decide +kernel
theorem dX8_notFree_1 : decode cX8_notFree 1 = .ok (.istore_n 1, 1) := by decide +kernel
theorem dX8_notFree_2 : decode cX8_notFree 2 = .ok (.iconst 0, 1) := by decide +kernel
theorem dX8_notFree_3 : decode cX8_notFree 3 = .ok (.istore_n 2, 1) := by decide +kernel
theorem dX8_notFree_4 : decode cX8_notFree 4 = .ok (.iload_n 2, 1) := by decide +kernel
theorem dX8_notFree_5 : decode cX8_notFree 5 = .ok (.aload_n 0, 1) := by decide +kernel
theorem dX8_notFree_6 : decode cX8_notFree 6 = .ok (.getfield 52, 3) := by decide +kernel
theorem dX8_notFree_9 : decode cX8_notFree 9 = .ok (.getfield 71, 3) := by decide +kernel
theorem dX8_notFree_12 : decode cX8_notFree 12 = .ok (.iconst 4, 1) := by decide +kernel
theorem dX8_notFree_13 : decode cX8_notFree 13 = .ok (.iaload, 1) := by decide +kernel
theorem dX8_notFree_14 : decode cX8_notFree 14 = .ok (.if_icmp .ge 24, 3) := by decide +kernel
theorem dX8_notFree_17 : decode cX8_notFree 17 = .ok (.aload_n 0, 1) := by decide +kernel
theorem dX8_notFree_18 : decode cX8_notFree 18 = .ok (.getfield 33, 3) := by decide +kernel
theorem dX8_notFree_21 : decode cX8_notFree 21 = .ok (.iload_n 2, 1) := by decide +kernel
theorem dX8_notFree_22 : decode cX8_notFree 22 = .ok (.iaload, 1) := by decide +kernel
theorem dX8_notFree_23 : decode cX8_notFree 23 = .ok (.ifCond .eq 9, 3) := by decide +kernel
theorem dX8_notFree_26 : decode cX8_notFree 26 = .ok (.iload_n 1, 1) := by decide +kernel
theorem dX8_notFree_27 : decode cX8_notFree 27 = .ok (.iconst 1, 1) := by decide +kernel
theorem dX8_notFree_28 : decode cX8_notFree 28 = .ok (.iload_n 2, 1) := by decide +kernel
theorem dX8_notFree_29 : decode cX8_notFree 29 = .ok (.ishl, 1) := by decide +kernel
theorem dX8_notFree_30 : decode cX8_notFree 30 = .ok (.ior, 1) := by decide +kernel
theorem dX8_notFree_31 : decode cX8_notFree 31 = .ok (.istore_n 1, 1) := by decide +kernel
theorem dX8_notFree_32 : decode cX8_notFree 32 = .ok (.iinc 2 1, 3) := by decide +kernel
theorem dX8_notFree_35 : decode cX8_notFree 35 = .ok (.goto (-31), 3) := by decide +kernel
theorem dX8_notFree_38 : decode cX8_notFree 38 = .ok (.iload_n 1, 1) := by decide +kernel
theorem dX8_notFree_39 : decode cX8_notFree 39 = .ok (.ireturn, 1) := by decide +kernel
theorem dX8_routesUsedBy_0 : decode cX8_routesUsedBy 0 = .ok (.iconst 0, 1) := by decide +kernel
theorem dX8_routesUsedBy_1 : decode cX8_routesUsedBy 1 = .ok (.istore_n 2, 1) := by decide +kernel
theorem dX8_routesUsedBy_2 : decode cX8_routesUsedBy 2 = .ok (.iconst 0, 1) := by decide +kernel
theorem dX8_routesUsedBy_3 : decode cX8_routesUsedBy 3 = .ok (.istore_n 3, 1) := by decide +kernel
theorem dX8_routesUsedBy_4 : decode cX8_routesUsedBy 4 = .ok (.iload_n 3, 1) := by decide +kernel
theorem dX8_routesUsedBy_5 : decode cX8_routesUsedBy 5 = .ok (.aload_n 0, 1) := by decide +kernel
theorem dX8_routesUsedBy_6 : decode cX8_routesUsedBy 6 = .ok (.getfield 52, 3) := by decide +kernel
theorem dX8_routesUsedBy_9 : decode cX8_routesUsedBy 9 = .ok (.getfield 71, 3) := by decide +kernel
theorem dX8_routesUsedBy_12 : decode cX8_routesUsedBy 12 = .ok (.iconst 4, 1) := by decide +kernel
theorem dX8_routesUsedBy_13 : decode cX8_routesUsedBy 13 = .ok (.iaload, 1) := by decide +kernel
theorem dX8_routesUsedBy_14 : decode cX8_routesUsedBy 14 = .ok (.if_icmp .ge 35, 3) := by decide +kernel
theorem dX8_routesUsedBy_17 : decode cX8_routesUsedBy 17 = .ok (.aload_n 0, 1) := by decide +kernel
theorem dX8_routesUsedBy_18 : decode cX8_routesUsedBy 18 = .ok (.getfield 33, 3) := by decide +kernel
theorem dX8_routesUsedBy_21 : decode cX8_routesUsedBy 21 = .ok (.iload_n 3, 1) := by decide +kernel
theorem dX8_routesUsedBy_22 : decode cX8_routesUsedBy 22 = .ok (.iaload, 1) := by decide +kernel
theorem dX8_routesUsedBy_23 : decode cX8_routesUsedBy 23 = .ok (.iconst 2, 1) := by decide +kernel
theorem dX8_routesUsedBy_24 : decode cX8_routesUsedBy 24 = .ok (.if_icmp .ne 19, 3) := by decide +kernel
theorem dX8_routesUsedBy_27 : decode cX8_routesUsedBy 27 = .ok (.aload_n 0, 1) := by decide +kernel
theorem dX8_routesUsedBy_28 : decode cX8_routesUsedBy 28 = .ok (.getfield 40, 3) := by decide +kernel
theorem dX8_routesUsedBy_31 : decode cX8_routesUsedBy 31 = .ok (.iload_n 3, 1) := by decide +kernel
theorem dX8_routesUsedBy_32 : decode cX8_routesUsedBy 32 = .ok (.iaload, 1) := by decide +kernel
theorem dX8_routesUsedBy_33 : decode cX8_routesUsedBy 33 = .ok (.iload_n 1, 1) := by decide +kernel
theorem dX8_routesUsedBy_34 : decode cX8_routesUsedBy 34 = .ok (.if_icmp .ne 9, 3) := by decide +kernel
theorem dX8_routesUsedBy_37 : decode cX8_routesUsedBy 37 = .ok (.iload_n 2, 1) := by decide +kernel
theorem dX8_routesUsedBy_38 : decode cX8_routesUsedBy 38 = .ok (.iconst 1, 1) := by decide +kernel
theorem dX8_routesUsedBy_39 : decode cX8_routesUsedBy 39 = .ok (.iload_n 3, 1) := by decide +kernel
theorem dX8_routesUsedBy_40 : decode cX8_routesUsedBy 40 = .ok (.ishl, 1) := by decide +kernel
theorem dX8_routesUsedBy_41 : decode cX8_routesUsedBy 41 = .ok (.ior, 1) := by decide +kernel
theorem dX8_routesUsedBy_42 : decode cX8_routesUsedBy 42 = .ok (.istore_n 2, 1) := by decide +kernel
theorem dX8_routesUsedBy_43 : decode cX8_routesUsedBy 43 = .ok (.iinc 3 1, 3) := by decide +kernel
theorem dX8_routesUsedBy_46 : decode cX8_routesUsedBy 46 = .ok (.goto (-42), 3) := by decide +kernel
theorem dX8_routesUsedBy_49 : decode cX8_routesUsedBy 49 = .ok (.iload_n 2, 1) := by decide +kernel
theorem dX8_routesUsedBy_50 : decode cX8_routesUsedBy 50 = .ok (.ireturn, 1) := by decide +kernel
theorem dX8_setRouteOf_0 : decode cX8_setRouteOf 0 = .ok (.iconst 0, 1) := by decide +kernel
theorem dX8_setRouteOf_1 : decode cX8_setRouteOf 1 = .ok (.istore_n 2, 1) := by decide +kernel
theorem dX8_setRouteOf_2 : decode cX8_setRouteOf 2 = .ok (.iload_n 2, 1) := by decide +kernel
theorem dX8_setRouteOf_3 : decode cX8_setRouteOf 3 = .ok (.aload_n 0, 1) := by decide +kernel
theorem dX8_setRouteOf_4 : decode cX8_setRouteOf 4 = .ok (.getfield 52, 3) := by decide +kernel
theorem dX8_setRouteOf_7 : decode cX8_setRouteOf 7 = .ok (.getfield 71, 3) := by decide +kernel
theorem dX8_setRouteOf_10 : decode cX8_setRouteOf 10 = .ok (.iconst 4, 1) := by decide +kernel
theorem dX8_setRouteOf_11 : decode cX8_setRouteOf 11 = .ok (.iaload, 1) := by decide +kernel
theorem dX8_setRouteOf_12 : decode cX8_setRouteOf 12 = .ok (.if_icmp .ge 34, 3) := by decide +kernel
theorem dX8_setRouteOf_15 : decode cX8_setRouteOf 15 = .ok (.aload_n 0, 1) := by decide +kernel
theorem dX8_setRouteOf_16 : decode cX8_setRouteOf 16 = .ok (.getfield 52, 3) := by decide +kernel
theorem dX8_setRouteOf_19 : decode cX8_setRouteOf 19 = .ok (.getfield 78, 3) := by decide +kernel
theorem dX8_setRouteOf_22 : decode cX8_setRouteOf 22 = .ok (.iload_n 2, 1) := by decide +kernel
theorem dX8_setRouteOf_23 : decode cX8_setRouteOf 23 = .ok (.iaload, 1) := by decide +kernel
theorem dX8_setRouteOf_24 : decode cX8_setRouteOf 24 = .ok (.iload_n 1, 1) := by decide +kernel
theorem dX8_setRouteOf_25 : decode cX8_setRouteOf 25 = .ok (.if_icmp .ne 15, 3) := by decide +kernel
theorem dX8_setRouteOf_28 : decode cX8_setRouteOf 28 = .ok (.aload_n 0, 1) := by decide +kernel
theorem dX8_setRouteOf_29 : decode cX8_setRouteOf 29 = .ok (.getfield 33, 3) := by decide +kernel
theorem dX8_setRouteOf_32 : decode cX8_setRouteOf 32 = .ok (.iload_n 2, 1) := by decide +kernel
theorem dX8_setRouteOf_33 : decode cX8_setRouteOf 33 = .ok (.iaload, 1) := by decide +kernel
theorem dX8_setRouteOf_34 : decode cX8_setRouteOf 34 = .ok (.iconst 1, 1) := by decide +kernel
theorem dX8_setRouteOf_35 : decode cX8_setRouteOf 35 = .ok (.if_icmp .ne 5, 3) := by decide +kernel
theorem dX8_setRouteOf_38 : decode cX8_setRouteOf 38 = .ok (.iload_n 2, 1) := by decide +kernel
theorem dX8_setRouteOf_39 : decode cX8_setRouteOf 39 = .ok (.ireturn, 1) := by decide +kernel
theorem dX8_setRouteOf_40 : decode cX8_setRouteOf 40 = .ok (.iinc 2 1, 3) := by decide +kernel
theorem dX8_setRouteOf_43 : decode cX8_setRouteOf 43 = .ok (.goto (-41), 3) := by decide +kernel
theorem dX8_setRouteOf_46 : decode cX8_setRouteOf 46 = .ok (.iconst (-1), 1) := by decide +kernel
theorem dX8_setRouteOf_47 : decode cX8_setRouteOf 47 = .ok (.ireturn, 1) := by decide +kernel
theorem dX8_trainsOut_0 : decode cX8_trainsOut 0 = .ok (.iconst 0, 1) := by decide +kernel
theorem dX8_trainsOut_1 : decode cX8_trainsOut 1 = .ok (.istore_n 1, 1) := by decide +kernel
theorem dX8_trainsOut_2 : decode cX8_trainsOut 2 = .ok (.iconst 0, 1) := by decide +kernel
theorem dX8_trainsOut_3 : decode cX8_trainsOut 3 = .ok (.istore_n 2, 1) := by decide +kernel
theorem dX8_trainsOut_4 : decode cX8_trainsOut 4 = .ok (.iload_n 2, 1) := by decide +kernel
theorem dX8_trainsOut_5 : decode cX8_trainsOut 5 = .ok (.aload_n 0, 1) := by decide +kernel
theorem dX8_trainsOut_6 : decode cX8_trainsOut 6 = .ok (.getfield 52, 3) := by decide +kernel
theorem dX8_trainsOut_9 : decode cX8_trainsOut 9 = .ok (.getfield 71, 3) := by decide +kernel
theorem dX8_trainsOut_12 : decode cX8_trainsOut 12 = .ok (.bipush 6, 2) := by decide +kernel
theorem dX8_trainsOut_14 : decode cX8_trainsOut 14 = .ok (.iaload, 1) := by decide +kernel
theorem dX8_trainsOut_15 : decode cX8_trainsOut 15 = .ok (.if_icmp .ge 25, 3) := by decide +kernel
theorem dX8_trainsOut_18 : decode cX8_trainsOut 18 = .ok (.aload_n 0, 1) := by decide +kernel
theorem dX8_trainsOut_19 : decode cX8_trainsOut 19 = .ok (.getfield 43, 3) := by decide +kernel
theorem dX8_trainsOut_22 : decode cX8_trainsOut 22 = .ok (.iload_n 2, 1) := by decide +kernel
theorem dX8_trainsOut_23 : decode cX8_trainsOut 23 = .ok (.iaload, 1) := by decide +kernel
theorem dX8_trainsOut_24 : decode cX8_trainsOut 24 = .ok (.iconst (-1), 1) := by decide +kernel
theorem dX8_trainsOut_25 : decode cX8_trainsOut 25 = .ok (.if_icmp .ne 9, 3) := by decide +kernel
theorem dX8_trainsOut_28 : decode cX8_trainsOut 28 = .ok (.iload_n 1, 1) := by decide +kernel
theorem dX8_trainsOut_29 : decode cX8_trainsOut 29 = .ok (.iconst 1, 1) := by decide +kernel
theorem dX8_trainsOut_30 : decode cX8_trainsOut 30 = .ok (.iload_n 2, 1) := by decide +kernel
theorem dX8_trainsOut_31 : decode cX8_trainsOut 31 = .ok (.ishl, 1) := by decide +kernel
theorem dX8_trainsOut_32 : decode cX8_trainsOut 32 = .ok (.ior, 1) := by decide +kernel
theorem dX8_trainsOut_33 : decode cX8_trainsOut 33 = .ok (.istore_n 1, 1) := by decide +kernel
theorem dX8_trainsOut_34 : decode cX8_trainsOut 34 = .ok (.iinc 2 1, 3) := by decide +kernel
theorem dX8_trainsOut_37 : decode cX8_trainsOut 37 = .ok (.goto (-33), 3) := by decide +kernel
theorem dX8_trainsOut_40 : decode cX8_trainsOut 40 = .ok (.iload_n 1, 1) := by decide +kernel
theorem dX8_trainsOut_41 : decode cX8_trainsOut 41 = .ok (.ireturn, 1) := by decide +kernel
theorem dX8_waitedByAll_0 : decode cX8_waitedByAll 0 = .ok (.iconst 0, 1) := by decide +kernel
theorem dX8_waitedByAll_1 : decode cX8_waitedByAll 1 = .ok (.istore_n 1, 1) := by decide +kernel
theorem dX8_waitedByAll_2 : decode cX8_waitedByAll 2 = .ok (.iconst 0, 1) := by decide +kernel
theorem dX8_waitedByAll_3 : decode cX8_waitedByAll 3 = .ok (.istore_n 2, 1) := by decide +kernel
theorem dX8_waitedByAll_4 : decode cX8_waitedByAll 4 = .ok (.iload_n 2, 1) := by decide +kernel
theorem dX8_waitedByAll_5 : decode cX8_waitedByAll 5 = .ok (.aload_n 0, 1) := by decide +kernel
theorem dX8_waitedByAll_6 : decode cX8_waitedByAll 6 = .ok (.getfield 52, 3) := by decide +kernel
theorem dX8_waitedByAll_9 : decode cX8_waitedByAll 9 = .ok (.getfield 71, 3) := by decide +kernel
theorem dX8_waitedByAll_12 : decode cX8_waitedByAll 12 = .ok (.bipush 6, 2) := by decide +kernel
theorem dX8_waitedByAll_14 : decode cX8_waitedByAll 14 = .ok (.iaload, 1) := by decide +kernel
theorem dX8_waitedByAll_15 : decode cX8_waitedByAll 15 = .ok (.if_icmp .ge 18, 3) := by decide +kernel
theorem dX8_waitedByAll_18 : decode cX8_waitedByAll 18 = .ok (.iload_n 1, 1) := by decide +kernel
theorem dX8_waitedByAll_19 : decode cX8_waitedByAll 19 = .ok (.aload_n 0, 1) := by decide +kernel
theorem dX8_waitedByAll_20 : decode cX8_waitedByAll 20 = .ok (.getfield 49, 3) := by decide +kernel
theorem dX8_waitedByAll_23 : decode cX8_waitedByAll 23 = .ok (.iload_n 2, 1) := by decide +kernel
theorem dX8_waitedByAll_24 : decode cX8_waitedByAll 24 = .ok (.iaload, 1) := by decide +kernel
theorem dX8_waitedByAll_25 : decode cX8_waitedByAll 25 = .ok (.iadd, 1) := by decide +kernel
theorem dX8_waitedByAll_26 : decode cX8_waitedByAll 26 = .ok (.istore_n 1, 1) := by decide +kernel
theorem dX8_waitedByAll_27 : decode cX8_waitedByAll 27 = .ok (.iinc 2 1, 3) := by decide +kernel
theorem dX8_waitedByAll_30 : decode cX8_waitedByAll 30 = .ok (.goto (-26), 3) := by decide +kernel
theorem dX8_waitedByAll_33 : decode cX8_waitedByAll 33 = .ok (.iload_n 1, 1) := by decide +kernel
theorem dX8_waitedByAll_34 : decode cX8_waitedByAll 34 = .ok (.ireturn, 1) := by decide +kernel
theorem dX8_pointsAgainst_0 : decode cX8_pointsAgainst 0 = .ok (.aload_n 0, 1) := by decide +kernel
theorem dX8_pointsAgainst_1 : decode cX8_pointsAgainst 1 = .ok (.getfield 52, 3) := by decide +kernel
theorem dX8_pointsAgainst_4 : decode cX8_pointsAgainst 4 = .ok (.getfield 81, 3) := by decide +kernel
theorem dX8_pointsAgainst_7 : decode cX8_pointsAgainst 7 = .ok (.iload_n 1, 1) := by decide +kernel
theorem dX8_pointsAgainst_8 : decode cX8_pointsAgainst 8 = .ok (.iaload, 1) := by decide +kernel
theorem dX8_pointsAgainst_9 : decode cX8_pointsAgainst 9 = .ok (.aload_n 0, 1) := by decide +kernel
theorem dX8_pointsAgainst_10 : decode cX8_pointsAgainst 10 = .ok (.getfield 18, 3) := by decide +kernel
theorem dX8_pointsAgainst_13 : decode cX8_pointsAgainst 13 = .ok (.iand, 1) := by decide +kernel
theorem dX8_pointsAgainst_14 : decode cX8_pointsAgainst 14 = .ok (.aload_n 0, 1) := by decide +kernel
theorem dX8_pointsAgainst_15 : decode cX8_pointsAgainst 15 = .ok (.getfield 52, 3) := by decide +kernel
theorem dX8_pointsAgainst_18 : decode cX8_pointsAgainst 18 = .ok (.getfield 84, 3) := by decide +kernel
theorem dX8_pointsAgainst_21 : decode cX8_pointsAgainst 21 = .ok (.iload_n 1, 1) := by decide +kernel
theorem dX8_pointsAgainst_22 : decode cX8_pointsAgainst 22 = .ok (.iaload, 1) := by decide +kernel
theorem dX8_pointsAgainst_23 : decode cX8_pointsAgainst 23 = .ok (.aload_n 0, 1) := by decide +kernel
theorem dX8_pointsAgainst_24 : decode cX8_pointsAgainst 24 = .ok (.getfield 18, 3) := by decide +kernel
theorem dX8_pointsAgainst_27 : decode cX8_pointsAgainst 27 = .ok (.iconst (-1), 1) := by decide +kernel
theorem dX8_pointsAgainst_28 : decode cX8_pointsAgainst 28 = .ok (.ixor, 1) := by decide +kernel
theorem dX8_pointsAgainst_29 : decode cX8_pointsAgainst 29 = .ok (.iand, 1) := by decide +kernel
theorem dX8_pointsAgainst_30 : decode cX8_pointsAgainst 30 = .ok (.ior, 1) := by decide +kernel
theorem dX8_pointsAgainst_31 : decode cX8_pointsAgainst 31 = .ok (.ireturn, 1) := by decide +kernel
theorem dX8_barring_0 : decode cX8_barring 0 = .ok (.aload_n 0, 1) := by decide +kernel
theorem dX8_barring_1 : decode cX8_barring 1 = .ok (.getfield 52, 3) := by decide +kernel
theorem dX8_barring_4 : decode cX8_barring 4 = .ok (.aload_n 0, 1) := by decide +kernel
theorem dX8_barring_5 : decode cX8_barring 5 = .ok (.getfield 52, 3) := by decide +kernel
theorem dX8_barring_8 : decode cX8_barring 8 = .ok (.getfield 78, 3) := by decide +kernel
theorem dX8_barring_11 : decode cX8_barring 11 = .ok (.iload_n 1, 1) := by decide +kernel
theorem dX8_barring_12 : decode cX8_barring 12 = .ok (.iaload, 1) := by decide +kernel
theorem dX8_barring_13 : decode cX8_barring 13 = .ok (.invokevirtual 87, 3) := by decide +kernel
theorem dX8_barring_16 : decode cX8_barring 16 = .ok (.iconst 1, 1) := by decide +kernel
theorem dX8_barring_17 : decode cX8_barring 17 = .ok (.iload_n 1, 1) := by decide +kernel
theorem dX8_barring_18 : decode cX8_barring 18 = .ok (.ishl, 1) := by decide +kernel
theorem dX8_barring_19 : decode cX8_barring 19 = .ok (.iconst (-1), 1) := by decide +kernel
theorem dX8_barring_20 : decode cX8_barring 20 = .ok (.ixor, 1) := by decide +kernel
theorem dX8_barring_21 : decode cX8_barring 21 = .ok (.iand, 1) := by decide +kernel
theorem dX8_barring_22 : decode cX8_barring 22 = .ok (.istore_n 2, 1) := by decide +kernel
theorem dX8_barring_23 : decode cX8_barring 23 = .ok (.aload_n 0, 1) := by decide +kernel
theorem dX8_barring_24 : decode cX8_barring 24 = .ok (.getfield 52, 3) := by decide +kernel
theorem dX8_barring_27 : decode cX8_barring 27 = .ok (.getfield 91, 3) := by decide +kernel
theorem dX8_barring_30 : decode cX8_barring 30 = .ok (.iload_n 1, 1) := by decide +kernel
theorem dX8_barring_31 : decode cX8_barring 31 = .ok (.iaload, 1) := by decide +kernel
theorem dX8_barring_32 : decode cX8_barring 32 = .ok (.iload_n 2, 1) := by decide +kernel
theorem dX8_barring_33 : decode cX8_barring 33 = .ok (.ior, 1) := by decide +kernel
theorem dX8_barring_34 : decode cX8_barring 34 = .ok (.ireturn, 1) := by decide +kernel
theorem dX8_perform_0 : decode cX8_perform 0 = .ok (.iload_n 1, 1) := by decide +kernel
theorem dX8_perform_1 : decode cX8_perform 1 = .ok (.tableswitch 56 13 16 #[31, 37, 43, 49], 31) := by decide +kernel
theorem dX8_perform_32 : decode cX8_perform 32 = .ok (.aload_n 0, 1) := by decide +kernel
theorem dX8_perform_33 : decode cX8_perform 33 = .ok (.iload_n 2, 1) := by decide +kernel
theorem dX8_perform_34 : decode cX8_perform 34 = .ok (.invokevirtual 94, 3) := by decide +kernel
theorem dX8_perform_37 : decode cX8_perform 37 = .ok (.ireturn, 1) := by decide +kernel
theorem dX8_perform_38 : decode cX8_perform 38 = .ok (.aload_n 0, 1) := by decide +kernel
theorem dX8_perform_39 : decode cX8_perform 39 = .ok (.iload_n 2, 1) := by decide +kernel
theorem dX8_perform_40 : decode cX8_perform 40 = .ok (.invokevirtual 97, 3) := by decide +kernel
theorem dX8_perform_43 : decode cX8_perform 43 = .ok (.ireturn, 1) := by decide +kernel
theorem dX8_perform_44 : decode cX8_perform 44 = .ok (.aload_n 0, 1) := by decide +kernel
theorem dX8_perform_45 : decode cX8_perform 45 = .ok (.iload_n 2, 1) := by decide +kernel
theorem dX8_perform_46 : decode cX8_perform 46 = .ok (.invokevirtual 100, 3) := by decide +kernel
theorem dX8_perform_49 : decode cX8_perform 49 = .ok (.ireturn, 1) := by decide +kernel
theorem dX8_perform_50 : decode cX8_perform 50 = .ok (.aload_n 0, 1) := by decide +kernel
theorem dX8_perform_51 : decode cX8_perform 51 = .ok (.iload_n 2, 1) := by decide +kernel
theorem dX8_perform_52 : decode cX8_perform 52 = .ok (.iload_n 3, 1) := by decide +kernel
theorem dX8_perform_53 : decode cX8_perform 53 = .ok (.invokevirtual 103, 3) := by decide +kernel
theorem dX8_perform_56 : decode cX8_perform 56 = .ok (.ireturn, 1) := by decide +kernel
theorem dX8_perform_57 : decode cX8_perform 57 = .ok (.aload_n 0, 1) := by decide +kernel
theorem dX8_perform_58 : decode cX8_perform 58 = .ok (.iload_n 2, 1) := by decide +kernel
theorem dX8_perform_59 : decode cX8_perform 59 = .ok (.invokevirtual 107, 3) := by decide +kernel
theorem dX8_perform_62 : decode cX8_perform 62 = .ok (.ireturn, 1) := by decide +kernel
theorem dX8_whyNotSet_0 : decode cX8_whyNotSet 0 = .ok (.aload_n 0, 1) := by decide +kernel
theorem dX8_whyNotSet_1 : decode cX8_whyNotSet 1 = .ok (.getfield 33, 3) := by decide +kernel
theorem dX8_whyNotSet_4 : decode cX8_whyNotSet 4 = .ok (.iload_n 1, 1) := by decide +kernel
theorem dX8_whyNotSet_5 : decode cX8_whyNotSet 5 = .ok (.iaload, 1) := by decide +kernel
theorem dX8_whyNotSet_6 : decode cX8_whyNotSet 6 = .ok (.ifCond .eq 5, 3) := by decide +kernel
theorem dX8_whyNotSet_9 : decode cX8_whyNotSet 9 = .ok (.iconst 1, 1) := by decide +kernel
theorem dX8_whyNotSet_10 : decode cX8_whyNotSet 10 = .ok (.ireturn, 1) := by decide +kernel
theorem dX8_whyNotSet_11 : decode cX8_whyNotSet 11 = .ok (.aload_n 0, 1) := by decide +kernel
theorem dX8_whyNotSet_12 : decode cX8_whyNotSet 12 = .ok (.iload_n 1, 1) := by decide +kernel
theorem dX8_whyNotSet_13 : decode cX8_whyNotSet 13 = .ok (.invokevirtual 110, 3) := by decide +kernel
theorem dX8_whyNotSet_16 : decode cX8_whyNotSet 16 = .ok (.aload_n 0, 1) := by decide +kernel
theorem dX8_whyNotSet_17 : decode cX8_whyNotSet 17 = .ok (.invokevirtual 113, 3) := by decide +kernel
theorem dX8_whyNotSet_20 : decode cX8_whyNotSet 20 = .ok (.iand, 1) := by decide +kernel
theorem dX8_whyNotSet_21 : decode cX8_whyNotSet 21 = .ok (.ifCond .eq 5, 3) := by decide +kernel
theorem dX8_whyNotSet_24 : decode cX8_whyNotSet 24 = .ok (.iconst 2, 1) := by decide +kernel
theorem dX8_whyNotSet_25 : decode cX8_whyNotSet 25 = .ok (.ireturn, 1) := by decide +kernel
theorem dX8_whyNotSet_26 : decode cX8_whyNotSet 26 = .ok (.aload_n 0, 1) := by decide +kernel
theorem dX8_whyNotSet_27 : decode cX8_whyNotSet 27 = .ok (.iload_n 1, 1) := by decide +kernel
theorem dX8_whyNotSet_28 : decode cX8_whyNotSet 28 = .ok (.invokevirtual 116, 3) := by decide +kernel
theorem dX8_whyNotSet_31 : decode cX8_whyNotSet 31 = .ok (.ifCond .eq 5, 3) := by decide +kernel
theorem dX8_whyNotSet_34 : decode cX8_whyNotSet 34 = .ok (.iconst 3, 1) := by decide +kernel
theorem dX8_whyNotSet_35 : decode cX8_whyNotSet 35 = .ok (.ireturn, 1) := by decide +kernel
