theorem dX8_whyNotSet_36 : decode cX8_whyNotSet 36 = .ok (.aload_n 0, 1) := by decide +kernel
theorem dX8_whyNotSet_37 : decode cX8_whyNotSet 37 = .ok (.getfield 52, 3) := by decide +kernel
theorem dX8_whyNotSet_40 : decode cX8_whyNotSet 40 = .ok (.getfield 119, 3) := by decide +kernel
theorem dX8_whyNotSet_43 : decode cX8_whyNotSet 43 = .ok (.iload_n 1, 1) := by decide +kernel
theorem dX8_whyNotSet_44 : decode cX8_whyNotSet 44 = .ok (.iaload, 1) := by decide +kernel
theorem dX8_whyNotSet_45 : decode cX8_whyNotSet 45 = .ok (.aload_n 0, 1) := by decide +kernel
theorem dX8_whyNotSet_46 : decode cX8_whyNotSet 46 = .ok (.invokevirtual 122, 3) := by decide +kernel
theorem dX8_whyNotSet_49 : decode cX8_whyNotSet 49 = .ok (.iand, 1) := by decide +kernel
theorem dX8_whyNotSet_50 : decode cX8_whyNotSet 50 = .ok (.ifCond .eq 5, 3) := by decide +kernel
theorem dX8_whyNotSet_53 : decode cX8_whyNotSet 53 = .ok (.iconst 4, 1) := by decide +kernel
theorem dX8_whyNotSet_54 : decode cX8_whyNotSet 54 = .ok (.ireturn, 1) := by decide +kernel
theorem dX8_whyNotSet_55 : decode cX8_whyNotSet 55 = .ok (.aload_n 0, 1) := by decide +kernel
theorem dX8_whyNotSet_56 : decode cX8_whyNotSet 56 = .ok (.getfield 52, 3) := by decide +kernel
theorem dX8_whyNotSet_59 : decode cX8_whyNotSet 59 = .ok (.getfield 125, 3) := by decide +kernel
theorem dX8_whyNotSet_62 : decode cX8_whyNotSet 62 = .ok (.iload_n 1, 1) := by decide +kernel
theorem dX8_whyNotSet_63 : decode cX8_whyNotSet 63 = .ok (.iaload, 1) := by decide +kernel
theorem dX8_whyNotSet_64 : decode cX8_whyNotSet 64 = .ok (.ifCond .ne 7, 3) := by decide +kernel
theorem dX8_whyNotSet_67 : decode cX8_whyNotSet 67 = .ok (.iconst 5, 1) := by decide +kernel
theorem dX8_whyNotSet_68 : decode cX8_whyNotSet 68 = .ok (.goto 4, 3) := by decide +kernel
theorem dX8_whyNotSet_71 : decode cX8_whyNotSet 71 = .ok (.iconst 0, 1) := by decide +kernel
theorem dX8_whyNotSet_72 : decode cX8_whyNotSet 72 = .ok (.ireturn, 1) := by decide +kernel
theorem dX8_setRoute_0 : decode cX8_setRoute 0 = .ok (.aload_n 0, 1) := by decide +kernel
theorem dX8_setRoute_1 : decode cX8_setRoute 1 = .ok (.iload_n 1, 1) := by decide +kernel
theorem dX8_setRoute_2 : decode cX8_setRoute 2 = .ok (.invokevirtual 128, 3) := by decide +kernel
theorem dX8_setRoute_5 : decode cX8_setRoute 5 = .ok (.istore_n 2, 1) := by decide +kernel
theorem dX8_setRoute_6 : decode cX8_setRoute 6 = .ok (.iload_n 2, 1) := by decide +kernel
theorem dX8_setRoute_7 : decode cX8_setRoute 7 = .ok (.ifCond .ne 10, 3) := by decide +kernel
theorem dX8_setRoute_10 : decode cX8_setRoute 10 = .ok (.aload_n 0, 1) := by decide +kernel
theorem dX8_setRoute_11 : decode cX8_setRoute 11 = .ok (.getfield 33, 3) := by decide +kernel
theorem dX8_setRoute_14 : decode cX8_setRoute 14 = .ok (.iload_n 1, 1) := by decide +kernel
theorem dX8_setRoute_15 : decode cX8_setRoute 15 = .ok (.iconst 1, 1) := by decide +kernel
theorem dX8_setRoute_16 : decode cX8_setRoute 16 = .ok (.iastore, 1) := by decide +kernel
theorem dX8_setRoute_17 : decode cX8_setRoute 17 = .ok (.iload_n 2, 1) := by decide +kernel
theorem dX8_setRoute_18 : decode cX8_setRoute 18 = .ok (.ireturn, 1) := by decide +kernel
theorem dX8_putBack_0 : decode cX8_putBack 0 = .ok (.aload_n 0, 1) := by decide +kernel
theorem dX8_putBack_1 : decode cX8_putBack 1 = .ok (.getfield 33, 3) := by decide +kernel
theorem dX8_putBack_4 : decode cX8_putBack 4 = .ok (.iload_n 1, 1) := by decide +kernel
theorem dX8_putBack_5 : decode cX8_putBack 5 = .ok (.iaload, 1) := by decide +kernel
theorem dX8_putBack_6 : decode cX8_putBack 6 = .ok (.iconst 1, 1) := by decide +kernel
theorem dX8_putBack_7 : decode cX8_putBack 7 = .ok (.if_icmp .eq 5, 3) := by decide +kernel
theorem dX8_putBack_10 : decode cX8_putBack 10 = .ok (.iconst 1, 1) := by decide +kernel
theorem dX8_putBack_11 : decode cX8_putBack 11 = .ok (.ireturn, 1) := by decide +kernel
theorem dX8_putBack_12 : decode cX8_putBack 12 = .ok (.aload_n 0, 1) := by decide +kernel
theorem dX8_putBack_13 : decode cX8_putBack 13 = .ok (.aload_n 0, 1) := by decide +kernel
theorem dX8_putBack_14 : decode cX8_putBack 14 = .ok (.getfield 52, 3) := by decide +kernel
theorem dX8_putBack_17 : decode cX8_putBack 17 = .ok (.getfield 78, 3) := by decide +kernel
theorem dX8_putBack_20 : decode cX8_putBack 20 = .ok (.iload_n 1, 1) := by decide +kernel
theorem dX8_putBack_21 : decode cX8_putBack 21 = .ok (.iaload, 1) := by decide +kernel
theorem dX8_putBack_22 : decode cX8_putBack 22 = .ok (.invokevirtual 131, 3) := by decide +kernel
theorem dX8_putBack_25 : decode cX8_putBack 25 = .ok (.ifCond .eq 29, 3) := by decide +kernel
theorem dX8_putBack_28 : decode cX8_putBack 28 = .ok (.aload_n 0, 1) := by decide +kernel
theorem dX8_putBack_29 : decode cX8_putBack 29 = .ok (.getfield 33, 3) := by decide +kernel
theorem dX8_putBack_32 : decode cX8_putBack 32 = .ok (.iload_n 1, 1) := by decide +kernel
theorem dX8_putBack_33 : decode cX8_putBack 33 = .ok (.iconst 3, 1) := by decide +kernel
theorem dX8_putBack_34 : decode cX8_putBack 34 = .ok (.iastore, 1) := by decide +kernel
theorem dX8_putBack_35 : decode cX8_putBack 35 = .ok (.aload_n 0, 1) := by decide +kernel
theorem dX8_putBack_36 : decode cX8_putBack 36 = .ok (.getfield 37, 3) := by decide +kernel
theorem dX8_putBack_39 : decode cX8_putBack 39 = .ok (.iload_n 1, 1) := by decide +kernel
theorem dX8_putBack_40 : decode cX8_putBack 40 = .ok (.aload_n 0, 1) := by decide +kernel
theorem dX8_putBack_41 : decode cX8_putBack 41 = .ok (.getfield 52, 3) := by decide +kernel
theorem dX8_putBack_44 : decode cX8_putBack 44 = .ok (.getfield 71, 3) := by decide +kernel
theorem dX8_putBack_47 : decode cX8_putBack 47 = .ok (.bipush 7, 2) := by decide +kernel
theorem dX8_putBack_49 : decode cX8_putBack 49 = .ok (.iaload, 1) := by decide +kernel
theorem dX8_putBack_50 : decode cX8_putBack 50 = .ok (.iastore, 1) := by decide +kernel
theorem dX8_putBack_51 : decode cX8_putBack 51 = .ok (.goto 10, 3) := by decide +kernel
theorem dX8_putBack_54 : decode cX8_putBack 54 = .ok (.aload_n 0, 1) := by decide +kernel
theorem dX8_putBack_55 : decode cX8_putBack 55 = .ok (.getfield 33, 3) := by decide +kernel
theorem dX8_putBack_58 : decode cX8_putBack 58 = .ok (.iload_n 1, 1) := by decide +kernel
theorem dX8_putBack_59 : decode cX8_putBack 59 = .ok (.iconst 0, 1) := by decide +kernel
theorem dX8_putBack_60 : decode cX8_putBack 60 = .ok (.iastore, 1) := by decide +kernel
theorem dX8_putBack_61 : decode cX8_putBack 61 = .ok (.iconst 0, 1) := by decide +kernel
theorem dX8_putBack_62 : decode cX8_putBack 62 = .ok (.ireturn, 1) := by decide +kernel
theorem dX8_freeByPuttingBack_0 : decode cX8_freeByPuttingBack 0 = .ok (.iconst 0, 1) := by decide +kernel
theorem dX8_freeByPuttingBack_1 : decode cX8_freeByPuttingBack 1 = .ok (.istore_n 1, 1) := by decide +kernel
theorem dX8_freeByPuttingBack_2 : decode cX8_freeByPuttingBack 2 = .ok (.iconst 0, 1) := by decide +kernel
theorem dX8_freeByPuttingBack_3 : decode cX8_freeByPuttingBack 3 = .ok (.istore_n 2, 1) := by decide +kernel
theorem dX8_freeByPuttingBack_4 : decode cX8_freeByPuttingBack 4 = .ok (.iload_n 2, 1) := by decide +kernel
theorem dX8_freeByPuttingBack_5 : decode cX8_freeByPuttingBack 5 = .ok (.aload_n 0, 1) := by decide +kernel
theorem dX8_freeByPuttingBack_6 : decode cX8_freeByPuttingBack 6 = .ok (.getfield 52, 3) := by decide +kernel
theorem dX8_freeByPuttingBack_9 : decode cX8_freeByPuttingBack 9 = .ok (.getfield 71, 3) := by decide +kernel
theorem dX8_freeByPuttingBack_12 : decode cX8_freeByPuttingBack 12 = .ok (.iconst 4, 1) := by decide +kernel
theorem dX8_freeByPuttingBack_13 : decode cX8_freeByPuttingBack 13 = .ok (.iaload, 1) := by decide +kernel
theorem dX8_freeByPuttingBack_14 : decode cX8_freeByPuttingBack 14 = .ok (.if_icmp .ge 41, 3) := by decide +kernel
theorem dX8_freeByPuttingBack_17 : decode cX8_freeByPuttingBack 17 = .ok (.aload_n 0, 1) := by decide +kernel
theorem dX8_freeByPuttingBack_18 : decode cX8_freeByPuttingBack 18 = .ok (.getfield 33, 3) := by decide +kernel
theorem dX8_freeByPuttingBack_21 : decode cX8_freeByPuttingBack 21 = .ok (.iload_n 2, 1) := by decide +kernel
theorem dX8_freeByPuttingBack_22 : decode cX8_freeByPuttingBack 22 = .ok (.iaload, 1) := by decide +kernel
theorem dX8_freeByPuttingBack_23 : decode cX8_freeByPuttingBack 23 = .ok (.iconst 1, 1) := by decide +kernel
theorem dX8_freeByPuttingBack_24 : decode cX8_freeByPuttingBack 24 = .ok (.if_icmp .ne 25, 3) := by decide +kernel
theorem dX8_freeByPuttingBack_27 : decode cX8_freeByPuttingBack 27 = .ok (.aload_n 0, 1) := by decide +kernel
theorem dX8_freeByPuttingBack_28 : decode cX8_freeByPuttingBack 28 = .ok (.aload_n 0, 1) := by decide +kernel
theorem dX8_freeByPuttingBack_29 : decode cX8_freeByPuttingBack 29 = .ok (.getfield 52, 3) := by decide +kernel
theorem dX8_freeByPuttingBack_32 : decode cX8_freeByPuttingBack 32 = .ok (.getfield 78, 3) := by decide +kernel
theorem dX8_freeByPuttingBack_35 : decode cX8_freeByPuttingBack 35 = .ok (.iload_n 2, 1) := by decide +kernel
theorem dX8_freeByPuttingBack_36 : decode cX8_freeByPuttingBack 36 = .ok (.iaload, 1) := by decide +kernel
theorem dX8_freeByPuttingBack_37 : decode cX8_freeByPuttingBack 37 = .ok (.invokevirtual 131, 3) := by decide +kernel
theorem dX8_freeByPuttingBack_40 : decode cX8_freeByPuttingBack 40 = .ok (.ifCond .ne 9, 3) := by decide +kernel
theorem dX8_freeByPuttingBack_43 : decode cX8_freeByPuttingBack 43 = .ok (.iload_n 1, 1) := by decide +kernel
theorem dX8_freeByPuttingBack_44 : decode cX8_freeByPuttingBack 44 = .ok (.iconst 1, 1) := by decide +kernel
theorem dX8_freeByPuttingBack_45 : decode cX8_freeByPuttingBack 45 = .ok (.iload_n 2, 1) := by decide +kernel
theorem dX8_freeByPuttingBack_46 : decode cX8_freeByPuttingBack 46 = .ok (.ishl, 1) := by decide +kernel
theorem dX8_freeByPuttingBack_47 : decode cX8_freeByPuttingBack 47 = .ok (.ior, 1) := by decide +kernel
theorem dX8_freeByPuttingBack_48 : decode cX8_freeByPuttingBack 48 = .ok (.istore_n 1, 1) := by decide +kernel
theorem dX8_freeByPuttingBack_49 : decode cX8_freeByPuttingBack 49 = .ok (.iinc 2 1, 3) := by decide +kernel
theorem dX8_freeByPuttingBack_52 : decode cX8_freeByPuttingBack 52 = .ok (.goto (-48), 3) := by decide +kernel
theorem dX8_freeByPuttingBack_55 : decode cX8_freeByPuttingBack 55 = .ok (.iload_n 1, 1) := by decide +kernel
theorem dX8_freeByPuttingBack_56 : decode cX8_freeByPuttingBack 56 = .ok (.ireturn, 1) := by decide +kernel
theorem dX8_isApproached_0 : decode cX8_isApproached 0 = .ok (.iconst 0, 1) := by decide +kernel
theorem dX8_isApproached_1 : decode cX8_isApproached 1 = .ok (.istore_n 2, 1) := by decide +kernel
theorem dX8_isApproached_2 : decode cX8_isApproached 2 = .ok (.iload_n 2, 1) := by decide +kernel
theorem dX8_isApproached_3 : decode cX8_isApproached 3 = .ok (.aload_n 0, 1) := by decide +kernel
theorem dX8_isApproached_4 : decode cX8_isApproached 4 = .ok (.getfield 52, 3) := by decide +kernel
theorem dX8_isApproached_7 : decode cX8_isApproached 7 = .ok (.getfield 71, 3) := by decide +kernel
theorem dX8_isApproached_10 : decode cX8_isApproached 10 = .ok (.bipush 6, 2) := by decide +kernel
theorem dX8_isApproached_12 : decode cX8_isApproached 12 = .ok (.iaload, 1) := by decide +kernel
theorem dX8_isApproached_13 : decode cX8_isApproached 13 = .ok (.if_icmp .ge 61, 3) := by decide +kernel
theorem dX8_isApproached_16 : decode cX8_isApproached 16 = .ok (.aload_n 0, 1) := by decide +kernel
theorem dX8_isApproached_17 : decode cX8_isApproached 17 = .ok (.getfield 43, 3) := by decide +kernel
theorem dX8_isApproached_20 : decode cX8_isApproached 20 = .ok (.iload_n 2, 1) := by decide +kernel
theorem dX8_isApproached_21 : decode cX8_isApproached 21 = .ok (.iaload, 1) := by decide +kernel
theorem dX8_isApproached_22 : decode cX8_isApproached 22 = .ok (.aload_n 0, 1) := by decide +kernel
theorem dX8_isApproached_23 : decode cX8_isApproached 23 = .ok (.getfield 52, 3) := by decide +kernel
theorem dX8_isApproached_26 : decode cX8_isApproached 26 = .ok (.getfield 135, 3) := by decide +kernel
theorem dX8_isApproached_29 : decode cX8_isApproached 29 = .ok (.iload_n 1, 1) := by decide +kernel
theorem dX8_isApproached_30 : decode cX8_isApproached 30 = .ok (.iaload, 1) := by decide +kernel
theorem dX8_isApproached_31 : decode cX8_isApproached 31 = .ok (.if_icmp .ne 37, 3) := by decide +kernel
theorem dX8_isApproached_34 : decode cX8_isApproached 34 = .ok (.aload_n 0, 1) := by decide +kernel
theorem dX8_isApproached_35 : decode cX8_isApproached 35 = .ok (.getfield 52, 3) := by decide +kernel
theorem dX8_isApproached_38 : decode cX8_isApproached 38 = .ok (.getfield 138, 3) := by decide +kernel
theorem dX8_isApproached_41 : decode cX8_isApproached 41 = .ok (.iload_n 2, 1) := by decide +kernel
theorem dX8_isApproached_42 : decode cX8_isApproached 42 = .ok (.iaload, 1) := by decide +kernel
theorem dX8_isApproached_43 : decode cX8_isApproached 43 = .ok (.aload_n 0, 1) := by decide +kernel
theorem dX8_isApproached_44 : decode cX8_isApproached 44 = .ok (.getfield 52, 3) := by decide +kernel
theorem dX8_isApproached_47 : decode cX8_isApproached 47 = .ok (.getfield 141, 3) := by decide +kernel
theorem dX8_isApproached_50 : decode cX8_isApproached 50 = .ok (.iload_n 1, 1) := by decide +kernel
theorem dX8_isApproached_51 : decode cX8_isApproached 51 = .ok (.iaload, 1) := by decide +kernel
theorem dX8_isApproached_52 : decode cX8_isApproached 52 = .ok (.if_icmp .ne 16, 3) := by decide +kernel
theorem dX8_isApproached_55 : decode cX8_isApproached 55 = .ok (.aload_n 0, 1) := by decide +kernel
theorem dX8_isApproached_56 : decode cX8_isApproached 56 = .ok (.getfield 27, 3) := by decide +kernel
theorem dX8_isApproached_59 : decode cX8_isApproached 59 = .ok (.iload_n 2, 1) := by decide +kernel
theorem dX8_isApproached_60 : decode cX8_isApproached 60 = .ok (.ishr, 1) := by decide +kernel
theorem dX8_isApproached_61 : decode cX8_isApproached 61 = .ok (.iconst 1, 1) := by decide +kernel
theorem dX8_isApproached_62 : decode cX8_isApproached 62 = .ok (.iand, 1) := by decide +kernel
theorem dX8_isApproached_63 : decode cX8_isApproached 63 = .ok (.ifCond .ne 5, 3) := by decide +kernel
theorem dX8_isApproached_66 : decode cX8_isApproached 66 = .ok (.iconst 1, 1) := by decide +kernel
theorem dX8_isApproached_67 : decode cX8_isApproached 67 = .ok (.ireturn, 1) := by decide +kernel
theorem dX8_isApproached_68 : decode cX8_isApproached 68 = .ok (.iinc 2 1, 3) := by decide +kernel
theorem dX8_isApproached_71 : decode cX8_isApproached 71 = .ok (.goto (-69), 3) := by decide +kernel
theorem dX8_isApproached_74 : decode cX8_isApproached 74 = .ok (.iconst 0, 1) := by decide +kernel
theorem dX8_isApproached_75 : decode cX8_isApproached 75 = .ok (.ireturn, 1) := by decide +kernel
theorem dX8_throwPoints_0 : decode cX8_throwPoints 0 = .ok (.aload_n 0, 1) := by decide +kernel
theorem dX8_throwPoints_1 : decode cX8_throwPoints 1 = .ok (.invokevirtual 122, 3) := by decide +kernel
theorem dX8_throwPoints_4 : decode cX8_throwPoints 4 = .ok (.aload_n 0, 1) := by decide +kernel
theorem dX8_throwPoints_5 : decode cX8_throwPoints 5 = .ok (.getfield 52, 3) := by decide +kernel
theorem dX8_throwPoints_8 : decode cX8_throwPoints 8 = .ok (.getfield 144, 3) := by decide +kernel
theorem dX8_throwPoints_11 : decode cX8_throwPoints 11 = .ok (.iload_n 1, 1) := by decide +kernel
theorem dX8_throwPoints_12 : decode cX8_throwPoints 12 = .ok (.iaload, 1) := by decide +kernel
theorem dX8_throwPoints_13 : decode cX8_throwPoints 13 = .ok (.ishr, 1) := by decide +kernel
theorem dX8_throwPoints_14 : decode cX8_throwPoints 14 = .ok (.iconst 1, 1) := by decide +kernel
theorem dX8_throwPoints_15 : decode cX8_throwPoints 15 = .ok (.iand, 1) := by decide +kernel
theorem dX8_throwPoints_16 : decode cX8_throwPoints 16 = .ok (.iconst 1, 1) := by decide +kernel
theorem dX8_throwPoints_17 : decode cX8_throwPoints 17 = .ok (.if_icmp .ne 5, 3) := by decide +kernel
theorem dX8_throwPoints_20 : decode cX8_throwPoints 20 = .ok (.iconst 1, 1) := by decide +kernel
theorem dX8_throwPoints_21 : decode cX8_throwPoints 21 = .ok (.ireturn, 1) := by decide +kernel
theorem dX8_throwPoints_22 : decode cX8_throwPoints 22 = .ok (.aload_n 0, 1) := by decide +kernel
theorem dX8_throwPoints_23 : decode cX8_throwPoints 23 = .ok (.getfield 52, 3) := by decide +kernel
theorem dX8_throwPoints_26 : decode cX8_throwPoints 26 = .ok (.iload_n 1, 1) := by decide +kernel
theorem dX8_throwPoints_27 : decode cX8_throwPoints 27 = .ok (.iconst 0, 1) := by decide +kernel
theorem dX8_throwPoints_28 : decode cX8_throwPoints 28 = .ok (.invokevirtual 147, 3) := by decide +kernel
theorem dX8_throwPoints_31 : decode cX8_throwPoints 31 = .ok (.aload_n 0, 1) := by decide +kernel
theorem dX8_throwPoints_32 : decode cX8_throwPoints 32 = .ok (.getfield 52, 3) := by decide +kernel
theorem dX8_throwPoints_35 : decode cX8_throwPoints 35 = .ok (.iload_n 1, 1) := by decide +kernel
theorem dX8_throwPoints_36 : decode cX8_throwPoints 36 = .ok (.iconst 1, 1) := by decide +kernel
theorem dX8_throwPoints_37 : decode cX8_throwPoints 37 = .ok (.invokevirtual 147, 3) := by decide +kernel
theorem dX8_throwPoints_40 : decode cX8_throwPoints 40 = .ok (.ior, 1) := by decide +kernel
theorem dX8_throwPoints_41 : decode cX8_throwPoints 41 = .ok (.istore_n 2, 1) := by decide +kernel
theorem dX8_throwPoints_42 : decode cX8_throwPoints 42 = .ok (.iload_n 2, 1) := by decide +kernel
theorem dX8_throwPoints_43 : decode cX8_throwPoints 43 = .ok (.aload_n 0, 1) := by decide +kernel
theorem dX8_throwPoints_44 : decode cX8_throwPoints 44 = .ok (.invokevirtual 113, 3) := by decide +kernel
theorem dX8_throwPoints_47 : decode cX8_throwPoints 47 = .ok (.iand, 1) := by decide +kernel
theorem dX8_throwPoints_48 : decode cX8_throwPoints 48 = .ok (.ifCond .eq 5, 3) := by decide +kernel
theorem dX8_throwPoints_51 : decode cX8_throwPoints 51 = .ok (.iconst 2, 1) := by decide +kernel
theorem dX8_throwPoints_52 : decode cX8_throwPoints 52 = .ok (.ireturn, 1) := by decide +kernel
theorem dX8_throwPoints_53 : decode cX8_throwPoints 53 = .ok (.aload_n 0, 1) := by decide +kernel
theorem dX8_throwPoints_54 : decode cX8_throwPoints 54 = .ok (.dup, 1) := by decide +kernel
theorem dX8_throwPoints_55 : decode cX8_throwPoints 55 = .ok (.getfield 18, 3) := by decide +kernel
theorem dX8_throwPoints_58 : decode cX8_throwPoints 58 = .ok (.iconst 1, 1) := by decide +kernel
theorem dX8_throwPoints_59 : decode cX8_throwPoints 59 = .ok (.iload_n 1, 1) := by decide +kernel
theorem dX8_throwPoints_60 : decode cX8_throwPoints 60 = .ok (.ishl, 1) := by decide +kernel
theorem dX8_throwPoints_61 : decode cX8_throwPoints 61 = .ok (.ixor, 1) := by decide +kernel
theorem dX8_throwPoints_62 : decode cX8_throwPoints 62 = .ok (.putfield 18, 3) := by decide +kernel
theorem dX8_throwPoints_65 : decode cX8_throwPoints 65 = .ok (.iconst 0, 1) := by decide +kernel
theorem dX8_throwPoints_66 : decode cX8_throwPoints 66 = .ok (.ireturn, 1) := by decide +kernel
theorem dX8_failSection_0 : decode cX8_failSection 0 = .ok (.aload_n 0, 1) := by decide +kernel
theorem dX8_failSection_1 : decode cX8_failSection 1 = .ok (.iload_n 1, 1) := by decide +kernel
theorem dX8_failSection_2 : decode cX8_failSection 2 = .ok (.invokevirtual 150, 3) := by decide +kernel
theorem dX8_failSection_5 : decode cX8_failSection 5 = .ok (.iload_n 2, 1) := by decide +kernel
theorem dX8_failSection_6 : decode cX8_failSection 6 = .ok (.iconst 1, 1) := by decide +kernel
theorem dX8_failSection_7 : decode cX8_failSection 7 = .ok (.iadd, 1) := by decide +kernel
theorem dX8_failSection_8 : decode cX8_failSection 8 = .ok (.if_icmp .ne 5, 3) := by decide +kernel
theorem dX8_failSection_11 : decode cX8_failSection 11 = .ok (.iconst 1, 1) := by decide +kernel
theorem dX8_failSection_12 : decode cX8_failSection 12 = .ok (.ireturn, 1) := by decide +kernel
theorem dX8_failSection_13 : decode cX8_failSection 13 = .ok (.iconst 1, 1) := by decide +kernel
theorem dX8_failSection_14 : decode cX8_failSection 14 = .ok (.iload_n 1, 1) := by decide +kernel
theorem dX8_failSection_15 : decode cX8_failSection 15 = .ok (.ishl, 1) := by decide +kernel
theorem dX8_failSection_16 : decode cX8_failSection 16 = .ok (.istore_n 3, 1) := by decide +kernel
theorem dX8_failSection_17 : decode cX8_failSection 17 = .ok (.aload_n 0, 1) := by decide +kernel
theorem dX8_failSection_18 : decode cX8_failSection 18 = .ok (.iload_n 2, 1) := by decide +kernel
theorem dX8_failSection_19 : decode cX8_failSection 19 = .ok (.ifCond .ne 12, 3) := by decide +kernel
theorem dX8_failSection_22 : decode cX8_failSection 22 = .ok (.aload_n 0, 1) := by decide +kernel
theorem dX8_failSection_23 : decode cX8_failSection 23 = .ok (.getfield 21, 3) := by decide +kernel
theorem dX8_failSection_26 : decode cX8_failSection 26 = .ok (.iload_n 3, 1) := by decide +kernel
theorem dX8_failSection_27 : decode cX8_failSection 27 = .ok (.ior, 1) := by decide +kernel
theorem dX8_failSection_28 : decode cX8_failSection 28 = .ok (.goto 11, 3) := by decide +kernel
theorem dX8_failSection_31 : decode cX8_failSection 31 = .ok (.aload_n 0, 1) := by decide +kernel
theorem dX8_failSection_32 : decode cX8_failSection 32 = .ok (.getfield 21, 3) := by decide +kernel
theorem dX8_failSection_35 : decode cX8_failSection 35 = .ok (.iload_n 3, 1) := by decide +kernel
theorem dX8_failSection_36 : decode cX8_failSection 36 = .ok (.iconst (-1), 1) := by decide +kernel
theorem dX8_failSection_37 : decode cX8_failSection 37 = .ok (.ixor, 1) := by decide +kernel
theorem dX8_failSection_38 : decode cX8_failSection 38 = .ok (.iand, 1) := by decide +kernel
theorem dX8_failSection_39 : decode cX8_failSection 39 = .ok (.putfield 21, 3) := by decide +kernel
theorem dX8_failSection_42 : decode cX8_failSection 42 = .ok (.aload_n 0, 1) := by decide +kernel
theorem dX8_failSection_43 : decode cX8_failSection 43 = .ok (.iload_n 2, 1) := by decide +kernel
theorem dX8_failSection_44 : decode cX8_failSection 44 = .ok (.ifCond .ne 14, 3) := by decide +kernel
theorem dX8_failSection_47 : decode cX8_failSection 47 = .ok (.aload_n 0, 1) := by decide +kernel
theorem dX8_failSection_48 : decode cX8_failSection 48 = .ok (.getfield 24, 3) := by decide +kernel
theorem dX8_failSection_51 : decode cX8_failSection 51 = .ok (.iload_n 3, 1) := by decide +kernel
theorem dX8_failSection_52 : decode cX8_failSection 52 = .ok (.iconst (-1), 1) := by decide +kernel
theorem dX8_failSection_53 : decode cX8_failSection 53 = .ok (.ixor, 1) := by decide +kernel
theorem dX8_failSection_54 : decode cX8_failSection 54 = .ok (.iand, 1) := by decide +kernel
theorem dX8_failSection_55 : decode cX8_failSection 55 = .ok (.goto 9, 3) := by decide +kernel
theorem dX8_failSection_58 : decode cX8_failSection 58 = .ok (.aload_n 0, 1) := by decide +kernel
theorem dX8_failSection_59 : decode cX8_failSection 59 = .ok (.getfield 24, 3) := by decide +kernel
theorem dX8_failSection_62 : decode cX8_failSection 62 = .ok (.iload_n 3, 1) := by decide +kernel
theorem dX8_failSection_63 : decode cX8_failSection 63 = .ok (.ior, 1) := by decide +kernel
theorem dX8_failSection_64 : decode cX8_failSection 64 = .ok (.putfield 24, 3) := by decide +kernel
theorem dX8_failSection_67 : decode cX8_failSection 67 = .ok (.iconst 0, 1) := by decide +kernel
theorem dX8_failSection_68 : decode cX8_failSection 68 = .ok (.ireturn, 1) := by decide +kernel
theorem dX8_mendSection_0 : decode cX8_mendSection 0 = .ok (.aload_n 0, 1) := by decide +kernel
theorem dX8_mendSection_1 : decode cX8_mendSection 1 = .ok (.iload_n 1, 1) := by decide +kernel
theorem dX8_mendSection_2 : decode cX8_mendSection 2 = .ok (.invokevirtual 150, 3) := by decide +kernel
theorem dX8_mendSection_5 : decode cX8_mendSection 5 = .ok (.ifCond .ne 5, 3) := by decide +kernel
theorem dX8_mendSection_8 : decode cX8_mendSection 8 = .ok (.iconst 1, 1) := by decide +kernel
theorem dX8_mendSection_9 : decode cX8_mendSection 9 = .ok (.ireturn, 1) := by decide +kernel
theorem dX8_mendSection_10 : decode cX8_mendSection 10 = .ok (.aload_n 0, 1) := by decide +kernel
theorem dX8_mendSection_11 : decode cX8_mendSection 11 = .ok (.dup, 1) := by decide +kernel
theorem dX8_mendSection_12 : decode cX8_mendSection 12 = .ok (.getfield 21, 3) := by decide +kernel
theorem dX8_mendSection_15 : decode cX8_mendSection 15 = .ok (.iconst 1, 1) := by decide +kernel
theorem dX8_mendSection_16 : decode cX8_mendSection 16 = .ok (.iload_n 1, 1) := by decide +kernel
theorem dX8_mendSection_17 : decode cX8_mendSection 17 = .ok (.ishl, 1) := by decide +kernel
theorem dX8_mendSection_18 : decode cX8_mendSection 18 = .ok (.iconst (-1), 1) := by decide +kernel
theorem dX8_mendSection_19 : decode cX8_mendSection 19 = .ok (.ixor, 1) := by decide +kernel
theorem dX8_mendSection_20 : decode cX8_mendSection 20 = .ok (.iand, 1) := by decide +kernel
theorem dX8_mendSection_21 : decode cX8_mendSection 21 = .ok (.putfield 21, 3) := by decide +kernel
theorem dX8_mendSection_24 : decode cX8_mendSection 24 = .ok (.aload_n 0, 1) := by decide +kernel
theorem dX8_mendSection_25 : decode cX8_mendSection 25 = .ok (.dup, 1) := by decide +kernel
theorem dX8_mendSection_26 : decode cX8_mendSection 26 = .ok (.getfield 24, 3) := by decide +kernel
theorem dX8_mendSection_29 : decode cX8_mendSection 29 = .ok (.iconst 1, 1) := by decide +kernel
theorem dX8_mendSection_30 : decode cX8_mendSection 30 = .ok (.iload_n 1, 1) := by decide +kernel
theorem dX8_mendSection_31 : decode cX8_mendSection 31 = .ok (.ishl, 1) := by decide +kernel
theorem dX8_mendSection_32 : decode cX8_mendSection 32 = .ok (.iconst (-1), 1) := by decide +kernel
theorem dX8_mendSection_33 : decode cX8_mendSection 33 = .ok (.ixor, 1) := by decide +kernel
theorem dX8_mendSection_34 : decode cX8_mendSection 34 = .ok (.iand, 1) := by decide +kernel
theorem dX8_mendSection_35 : decode cX8_mendSection 35 = .ok (.putfield 24, 3) := by decide +kernel
theorem dX8_mendSection_38 : decode cX8_mendSection 38 = .ok (.iconst 0, 1) := by decide +kernel
theorem dX8_mendSection_39 : decode cX8_mendSection 39 = .ok (.ireturn, 1) := by decide +kernel
theorem dX8_passTicks_0 : decode cX8_passTicks 0 = .ok (.iconst 0, 1) := by decide +kernel
theorem dX8_passTicks_1 : decode cX8_passTicks 1 = .ok (.istore_n 2, 1) := by decide +kernel
theorem dX8_passTicks_2 : decode cX8_passTicks 2 = .ok (.iload_n 2, 1) := by decide +kernel
theorem dX8_passTicks_3 : decode cX8_passTicks 3 = .ok (.iload_n 1, 1) := by decide +kernel
theorem dX8_passTicks_4 : decode cX8_passTicks 4 = .ok (.if_icmp .ge 23, 3) := by decide +kernel
theorem dX8_passTicks_7 : decode cX8_passTicks 7 = .ok (.aload_n 0, 1) := by decide +kernel
theorem dX8_passTicks_8 : decode cX8_passTicks 8 = .ok (.getfield 9, 3) := by decide +kernel
theorem dX8_passTicks_11 : decode cX8_passTicks 11 = .ok (.sipush 1000, 3) := by decide +kernel
theorem dX8_passTicks_14 : decode cX8_passTicks 14 = .ok (.if_icmp .ge 13, 3) := by decide +kernel
theorem dX8_passTicks_17 : decode cX8_passTicks 17 = .ok (.aload_n 0, 1) := by decide +kernel
theorem dX8_passTicks_18 : decode cX8_passTicks 18 = .ok (.invokevirtual 153, 3) := by decide +kernel
theorem dX8_passTicks_21 : decode cX8_passTicks 21 = .ok (.iinc 2 1, 3) := by decide +kernel
theorem dX8_passTicks_24 : decode cX8_passTicks 24 = .ok (.goto (-22), 3) := by decide +kernel
theorem dX8_passTicks_27 : decode cX8_passTicks 27 = .ok (.iload_n 2, 1) := by decide +kernel
theorem dX8_passTicks_28 : decode cX8_passTicks 28 = .ok (.ireturn, 1) := by decide +kernel
theorem dX8_passOne_0 : decode cX8_passOne 0 = .ok (.aload_n 0, 1) := by decide +kernel
theorem dX8_passOne_1 : decode cX8_passOne 1 = .ok (.iconst 0, 1) := by decide +kernel
theorem dX8_passOne_2 : decode cX8_passOne 2 = .ok (.putfield 30, 3) := by decide +kernel
theorem dX8_passOne_5 : decode cX8_passOne 5 = .ok (.iconst 0, 1) := by decide +kernel
theorem dX8_passOne_6 : decode cX8_passOne 6 = .ok (.istore_n 1, 1) := by decide +kernel
theorem dX8_passOne_7 : decode cX8_passOne 7 = .ok (.iload_n 1, 1) := by decide +kernel
theorem dX8_passOne_8 : decode cX8_passOne 8 = .ok (.aload_n 0, 1) := by decide +kernel
theorem dX8_passOne_9 : decode cX8_passOne 9 = .ok (.getfield 52, 3) := by decide +kernel
theorem dX8_passOne_12 : decode cX8_passOne 12 = .ok (.getfield 71, 3) := by decide +kernel
theorem dX8_passOne_15 : decode cX8_passOne 15 = .ok (.bipush 6, 2) := by decide +kernel
theorem dX8_passOne_17 : decode cX8_passOne 17 = .ok (.iaload, 1) := by decide +kernel
theorem dX8_passOne_18 : decode cX8_passOne 18 = .ok (.if_icmp .ge 35, 3) := by decide +kernel
theorem dX8_passOne_21 : decode cX8_passOne 21 = .ok (.aload_n 0, 1) := by decide +kernel
theorem dX8_passOne_22 : decode cX8_passOne 22 = .ok (.getfield 43, 3) := by decide +kernel
theorem dX8_passOne_25 : decode cX8_passOne 25 = .ok (.iload_n 1, 1) := by decide +kernel
theorem dX8_passOne_26 : decode cX8_passOne 26 = .ok (.iaload, 1) := by decide +kernel
theorem dX8_passOne_27 : decode cX8_passOne 27 = .ok (.iconst (-1), 1) := by decide +kernel
theorem dX8_passOne_28 : decode cX8_passOne 28 = .ok (.if_icmp .eq 19, 3) := by decide +kernel
theorem dX8_passOne_31 : decode cX8_passOne 31 = .ok (.aload_n 0, 1) := by decide +kernel
theorem dX8_passOne_32 : decode cX8_passOne 32 = .ok (.getfield 27, 3) := by decide +kernel
theorem dX8_passOne_35 : decode cX8_passOne 35 = .ok (.iload_n 1, 1) := by decide +kernel
theorem dX8_passOne_36 : decode cX8_passOne 36 = .ok (.ishr, 1) := by decide +kernel
theorem dX8_passOne_37 : decode cX8_passOne 37 = .ok (.iconst 1, 1) := by decide +kernel
theorem dX8_passOne_38 : decode cX8_passOne 38 = .ok (.iand, 1) := by decide +kernel
theorem dX8_passOne_39 : decode cX8_passOne 39 = .ok (.ifCond .ne 8, 3) := by decide +kernel
theorem dX8_passOne_42 : decode cX8_passOne 42 = .ok (.aload_n 0, 1) := by decide +kernel
theorem dX8_passOne_43 : decode cX8_passOne 43 = .ok (.iload_n 1, 1) := by decide +kernel
theorem dX8_passOne_44 : decode cX8_passOne 44 = .ok (.invokevirtual 156, 3) := by decide +kernel
theorem dX8_passOne_47 : decode cX8_passOne 47 = .ok (.iinc 1 1, 3) := by decide +kernel
theorem dX8_passOne_50 : decode cX8_passOne 50 = .ok (.goto (-43), 3) := by decide +kernel
theorem dX8_passOne_53 : decode cX8_passOne 53 = .ok (.iconst 0, 1) := by decide +kernel
theorem dX8_passOne_54 : decode cX8_passOne 54 = .ok (.istore_n 1, 1) := by decide +kernel
theorem dX8_passOne_55 : decode cX8_passOne 55 = .ok (.iload_n 1, 1) := by decide +kernel
theorem dX8_passOne_56 : decode cX8_passOne 56 = .ok (.aload_n 0, 1) := by decide +kernel
theorem dX8_passOne_57 : decode cX8_passOne 57 = .ok (.getfield 52, 3) := by decide +kernel
theorem dX8_passOne_60 : decode cX8_passOne 60 = .ok (.getfield 71, 3) := by decide +kernel
theorem dX8_passOne_63 : decode cX8_passOne 63 = .ok (.iconst 4, 1) := by decide +kernel
theorem dX8_passOne_64 : decode cX8_passOne 64 = .ok (.iaload, 1) := by decide +kernel
theorem dX8_passOne_65 : decode cX8_passOne 65 = .ok (.if_icmp .ge 45, 3) := by decide +kernel
theorem dX8_passOne_68 : decode cX8_passOne 68 = .ok (.aload_n 0, 1) := by decide +kernel
theorem dX8_passOne_69 : decode cX8_passOne 69 = .ok (.getfield 33, 3) := by decide +kernel
theorem dX8_passOne_72 : decode cX8_passOne 72 = .ok (.iload_n 1, 1) := by decide +kernel
theorem dX8_passOne_73 : decode cX8_passOne 73 = .ok (.iaload, 1) := by decide +kernel
theorem dX8_passOne_74 : decode cX8_passOne 74 = .ok (.iconst 3, 1) := by decide +kernel
theorem dX8_passOne_75 : decode cX8_passOne 75 = .ok (.if_icmp .ne 29, 3) := by decide +kernel
theorem dX8_passOne_78 : decode cX8_passOne 78 = .ok (.aload_n 0, 1) := by decide +kernel
theorem dX8_passOne_79 : decode cX8_passOne 79 = .ok (.getfield 37, 3) := by decide +kernel
theorem dX8_passOne_82 : decode cX8_passOne 82 = .ok (.iload_n 1, 1) := by decide +kernel
theorem dX8_passOne_83 : decode cX8_passOne 83 = .ok (.dup2, 1) := by decide +kernel
theorem dX8_passOne_84 : decode cX8_passOne 84 = .ok (.iaload, 1) := by decide +kernel
theorem dX8_passOne_85 : decode cX8_passOne 85 = .ok (.iconst 1, 1) := by decide +kernel
theorem dX8_passOne_86 : decode cX8_passOne 86 = .ok (.isub, 1) := by decide +kernel
theorem dX8_passOne_87 : decode cX8_passOne 87 = .ok (.iastore, 1) := by decide +kernel
theorem dX8_passOne_88 : decode cX8_passOne 88 = .ok (.aload_n 0, 1) := by decide +kernel
theorem dX8_passOne_89 : decode cX8_passOne 89 = .ok (.getfield 37, 3) := by decide +kernel
theorem dX8_passOne_92 : decode cX8_passOne 92 = .ok (.iload_n 1, 1) := by decide +kernel
theorem dX8_passOne_93 : decode cX8_passOne 93 = .ok (.iaload, 1) := by decide +kernel
theorem dX8_passOne_94 : decode cX8_passOne 94 = .ok (.ifCond .gt 10, 3) := by decide +kernel
theorem dX8_passOne_97 : decode cX8_passOne 97 = .ok (.aload_n 0, 1) := by decide +kernel
theorem dX8_passOne_98 : decode cX8_passOne 98 = .ok (.getfield 33, 3) := by decide +kernel
theorem dX8_passOne_101 : decode cX8_passOne 101 = .ok (.iload_n 1, 1) := by decide +kernel
theorem dX8_passOne_102 : decode cX8_passOne 102 = .ok (.iconst 0, 1) := by decide +kernel
theorem dX8_passOne_103 : decode cX8_passOne 103 = .ok (.iastore, 1) := by decide +kernel
theorem dX8_passOne_104 : decode cX8_passOne 104 = .ok (.iinc 1 1, 3) := by decide +kernel
theorem dX8_passOne_107 : decode cX8_passOne 107 = .ok (.goto (-52), 3) := by decide +kernel
theorem dX8_passOne_110 : decode cX8_passOne 110 = .ok (.aload_n 0, 1) := by decide +kernel
theorem dX8_passOne_111 : decode cX8_passOne 111 = .ok (.dup, 1) := by decide +kernel
theorem dX8_passOne_112 : decode cX8_passOne 112 = .ok (.getfield 9, 3) := by decide +kernel
theorem dX8_passOne_115 : decode cX8_passOne 115 = .ok (.iconst 1, 1) := by decide +kernel
theorem dX8_passOne_116 : decode cX8_passOne 116 = .ok (.iadd, 1) := by decide +kernel
theorem dX8_passOne_117 : decode cX8_passOne 117 = .ok (.putfield 9, 3) := by decide +kernel
theorem dX8_passOne_120 : decode cX8_passOne 120 = .ok (.return_, 1) := by decide +kernel
theorem dX8_runTrain_0 : decode cX8_runTrain 0 = .ok (.aload_n 0, 1) := by decide +kernel
theorem dX8_runTrain_1 : decode cX8_runTrain 1 = .ok (.getfield 46, 3) := by decide +kernel
theorem dX8_runTrain_4 : decode cX8_runTrain 4 = .ok (.iload_n 1, 1) := by decide +kernel
theorem dX8_runTrain_5 : decode cX8_runTrain 5 = .ok (.dup2, 1) := by decide +kernel
theorem dX8_runTrain_6 : decode cX8_runTrain 6 = .ok (.iaload, 1) := by decide +kernel
theorem dX8_runTrain_7 : decode cX8_runTrain 7 = .ok (.iconst 1, 1) := by decide +kernel
theorem dX8_runTrain_8 : decode cX8_runTrain 8 = .ok (.iadd, 1) := by decide +kernel
theorem dX8_runTrain_9 : decode cX8_runTrain 9 = .ok (.iastore, 1) := by decide +kernel
theorem dX8_runTrain_10 : decode cX8_runTrain 10 = .ok (.aload_n 0, 1) := by decide +kernel
theorem dX8_runTrain_11 : decode cX8_runTrain 11 = .ok (.getfield 46, 3) := by decide +kernel
theorem dX8_runTrain_14 : decode cX8_runTrain 14 = .ok (.iload_n 1, 1) := by decide +kernel
theorem dX8_runTrain_15 : decode cX8_runTrain 15 = .ok (.iaload, 1) := by decide +kernel
theorem dX8_runTrain_16 : decode cX8_runTrain 16 = .ok (.aload_n 0, 1) := by decide +kernel
theorem dX8_runTrain_17 : decode cX8_runTrain 17 = .ok (.getfield 52, 3) := by decide +kernel
theorem dX8_runTrain_20 : decode cX8_runTrain 20 = .ok (.getfield 160, 3) := by decide +kernel
theorem dX8_runTrain_23 : decode cX8_runTrain 23 = .ok (.aload_n 0, 1) := by decide +kernel
theorem dX8_runTrain_24 : decode cX8_runTrain 24 = .ok (.getfield 43, 3) := by decide +kernel
theorem dX8_runTrain_27 : decode cX8_runTrain 27 = .ok (.iload_n 1, 1) := by decide +kernel
theorem dX8_runTrain_28 : decode cX8_runTrain 28 = .ok (.iaload, 1) := by decide +kernel
theorem dX8_runTrain_29 : decode cX8_runTrain 29 = .ok (.iaload, 1) := by decide +kernel
theorem dX8_runTrain_30 : decode cX8_runTrain 30 = .ok (.if_icmp .ge 4, 3) := by decide +kernel
theorem dX8_runTrain_33 : decode cX8_runTrain 33 = .ok (.return_, 1) := by decide +kernel
theorem dX8_runTrain_34 : decode cX8_runTrain 34 = .ok (.aload_n 0, 1) := by decide +kernel
theorem dX8_runTrain_35 : decode cX8_runTrain 35 = .ok (.getfield 52, 3) := by decide +kernel
theorem dX8_runTrain_38 : decode cX8_runTrain 38 = .ok (.aload_n 0, 1) := by decide +kernel
theorem dX8_runTrain_39 : decode cX8_runTrain 39 = .ok (.getfield 43, 3) := by decide +kernel
theorem dX8_runTrain_42 : decode cX8_runTrain 42 = .ok (.iload_n 1, 1) := by decide +kernel
theorem dX8_runTrain_43 : decode cX8_runTrain 43 = .ok (.iaload, 1) := by decide +kernel
theorem dX8_runTrain_44 : decode cX8_runTrain 44 = .ok (.aload_n 0, 1) := by decide +kernel
theorem dX8_runTrain_45 : decode cX8_runTrain 45 = .ok (.getfield 52, 3) := by decide +kernel
theorem dX8_runTrain_48 : decode cX8_runTrain 48 = .ok (.getfield 138, 3) := by decide +kernel
theorem dX8_runTrain_51 : decode cX8_runTrain 51 = .ok (.iload_n 1, 1) := by decide +kernel
theorem dX8_runTrain_52 : decode cX8_runTrain 52 = .ok (.iaload, 1) := by decide +kernel
theorem dX8_runTrain_53 : decode cX8_runTrain 53 = .ok (.invokevirtual 163, 3) := by decide +kernel
theorem dX8_runTrain_56 : decode cX8_runTrain 56 = .ok (.istore_n 2, 1) := by decide +kernel
theorem dX8_runTrain_57 : decode cX8_runTrain 57 = .ok (.iload_n 2, 1) := by decide +kernel
theorem dX8_runTrain_58 : decode cX8_runTrain 58 = .ok (.iconst (-1), 1) := by decide +kernel
theorem dX8_runTrain_59 : decode cX8_runTrain 59 = .ok (.if_icmp .ne 11, 3) := by decide +kernel
theorem dX8_runTrain_62 : decode cX8_runTrain 62 = .ok (.aload_n 0, 1) := by decide +kernel
theorem dX8_runTrain_63 : decode cX8_runTrain 63 = .ok (.iload_n 1, 1) := by decide +kernel
theorem dX8_runTrain_64 : decode cX8_runTrain 64 = .ok (.invokevirtual 166, 3) := by decide +kernel
theorem dX8_runTrain_67 : decode cX8_runTrain 67 = .ok (.goto 9, 3) := by decide +kernel
theorem dX8_runTrain_70 : decode cX8_runTrain 70 = .ok (.aload_n 0, 1) := by decide +kernel
theorem dX8_runTrain_71 : decode cX8_runTrain 71 = .ok (.iload_n 1, 1) := by decide +kernel
theorem dX8_runTrain_72 : decode cX8_runTrain 72 = .ok (.iload_n 2, 1) := by decide +kernel
theorem dX8_runTrain_73 : decode cX8_runTrain 73 = .ok (.invokevirtual 169, 3) := by decide +kernel
theorem dX8_runTrain_76 : decode cX8_runTrain 76 = .ok (.istore_n 3, 1) := by decide +kernel
theorem dX8_runTrain_77 : decode cX8_runTrain 77 = .ok (.iload_n 3, 1) := by decide +kernel
theorem dX8_runTrain_78 : decode cX8_runTrain 78 = .ok (.bipush (-2), 2) := by decide +kernel
theorem dX8_runTrain_80 : decode cX8_runTrain 80 = .ok (.if_icmp .ne 28, 3) := by decide +kernel
theorem dX8_runTrain_83 : decode cX8_runTrain 83 = .ok (.aload_n 0, 1) := by decide +kernel
theorem dX8_runTrain_84 : decode cX8_runTrain 84 = .ok (.dup, 1) := by decide +kernel
theorem dX8_runTrain_85 : decode cX8_runTrain 85 = .ok (.getfield 30, 3) := by decide +kernel
theorem dX8_runTrain_88 : decode cX8_runTrain 88 = .ok (.iconst 1, 1) := by decide +kernel
theorem dX8_runTrain_89 : decode cX8_runTrain 89 = .ok (.iload_n 1, 1) := by decide +kernel
theorem dX8_runTrain_90 : decode cX8_runTrain 90 = .ok (.ishl, 1) := by decide +kernel
theorem dX8_runTrain_91 : decode cX8_runTrain 91 = .ok (.ior, 1) := by decide +kernel
theorem dX8_runTrain_92 : decode cX8_runTrain 92 = .ok (.putfield 30, 3) := by decide +kernel
theorem dX8_runTrain_95 : decode cX8_runTrain 95 = .ok (.aload_n 0, 1) := by decide +kernel
theorem dX8_runTrain_96 : decode cX8_runTrain 96 = .ok (.getfield 49, 3) := by decide +kernel
theorem dX8_runTrain_99 : decode cX8_runTrain 99 = .ok (.iload_n 1, 1) := by decide +kernel
theorem dX8_runTrain_100 : decode cX8_runTrain 100 = .ok (.dup2, 1) := by decide +kernel
theorem dX8_runTrain_101 : decode cX8_runTrain 101 = .ok (.iaload, 1) := by decide +kernel
theorem dX8_runTrain_102 : decode cX8_runTrain 102 = .ok (.iconst 1, 1) := by decide +kernel
theorem dX8_runTrain_103 : decode cX8_runTrain 103 = .ok (.iadd, 1) := by decide +kernel
theorem dX8_runTrain_104 : decode cX8_runTrain 104 = .ok (.iastore, 1) := by decide +kernel
theorem dX8_runTrain_105 : decode cX8_runTrain 105 = .ok (.goto 9, 3) := by decide +kernel
theorem dX8_runTrain_108 : decode cX8_runTrain 108 = .ok (.aload_n 0, 1) := by decide +kernel
theorem dX8_runTrain_109 : decode cX8_runTrain 109 = .ok (.iload_n 1, 1) := by decide +kernel
theorem dX8_runTrain_110 : decode cX8_runTrain 110 = .ok (.iload_n 3, 1) := by decide +kernel
theorem dX8_runTrain_111 : decode cX8_runTrain 111 = .ok (.invokevirtual 172, 3) := by decide +kernel
theorem dX8_runTrain_114 : decode cX8_runTrain 114 = .ok (.return_, 1) := by decide +kernel
theorem dX8_goalBySignal_0 : decode cX8_goalBySignal 0 = .ok (.aload_n 0, 1) := by decide +kernel
theorem dX8_goalBySignal_1 : decode cX8_goalBySignal 1 = .ok (.iload_n 2, 1) := by decide +kernel
theorem dX8_goalBySignal_2 : decode cX8_goalBySignal 2 = .ok (.invokevirtual 176, 3) := by decide +kernel
theorem dX8_goalBySignal_5 : decode cX8_goalBySignal 5 = .ok (.istore_n 3, 1) := by decide +kernel
theorem dX8_goalBySignal_6 : decode cX8_goalBySignal 6 = .ok (.iload_n 3, 1) := by decide +kernel
theorem dX8_goalBySignal_7 : decode cX8_goalBySignal 7 = .ok (.iconst (-1), 1) := by decide +kernel
theorem dX8_goalBySignal_8 : decode cX8_goalBySignal 8 = .ok (.if_icmp .ne 6, 3) := by decide +kernel
theorem dX8_goalBySignal_11 : decode cX8_goalBySignal 11 = .ok (.bipush (-2), 2) := by decide +kernel
theorem dX8_goalBySignal_13 : decode cX8_goalBySignal 13 = .ok (.ireturn, 1) := by decide +kernel
theorem dX8_goalBySignal_14 : decode cX8_goalBySignal 14 = .ok (.aload_n 0, 1) := by decide +kernel
theorem dX8_goalBySignal_15 : decode cX8_goalBySignal 15 = .ok (.getfield 33, 3) := by decide +kernel
theorem dX8_goalBySignal_18 : decode cX8_goalBySignal 18 = .ok (.iload_n 3, 1) := by decide +kernel
theorem dX8_goalBySignal_19 : decode cX8_goalBySignal 19 = .ok (.iconst 2, 1) := by decide +kernel
theorem dX8_goalBySignal_20 : decode cX8_goalBySignal 20 = .ok (.iastore, 1) := by decide +kernel
theorem dX8_goalBySignal_21 : decode cX8_goalBySignal 21 = .ok (.aload_n 0, 1) := by decide +kernel
theorem dX8_goalBySignal_22 : decode cX8_goalBySignal 22 = .ok (.getfield 40, 3) := by decide +kernel
theorem dX8_goalBySignal_25 : decode cX8_goalBySignal 25 = .ok (.iload_n 3, 1) := by decide +kernel
theorem dX8_goalBySignal_26 : decode cX8_goalBySignal 26 = .ok (.iload_n 1, 1) := by decide +kernel
theorem dX8_goalBySignal_27 : decode cX8_goalBySignal 27 = .ok (.iastore, 1) := by decide +kernel
theorem dX8_goalBySignal_28 : decode cX8_goalBySignal 28 = .ok (.aload_n 0, 1) := by decide +kernel
theorem dX8_goalBySignal_29 : decode cX8_goalBySignal 29 = .ok (.getfield 52, 3) := by decide +kernel
theorem dX8_goalBySignal_32 : decode cX8_goalBySignal 32 = .ok (.iload_n 3, 1) := by decide +kernel
theorem dX8_goalBySignal_33 : decode cX8_goalBySignal 33 = .ok (.iconst 0, 1) := by decide +kernel
theorem dX8_goalBySignal_34 : decode cX8_goalBySignal 34 = .ok (.invokevirtual 179, 3) := by decide +kernel
theorem dX8_goalBySignal_37 : decode cX8_goalBySignal 37 = .ok (.ireturn, 1) := by decide +kernel
theorem dX8_goalByTracks_0 : decode cX8_goalByTracks 0 = .ok (.iconst (-1), 1) := by decide +kernel
theorem dX8_goalByTracks_1 : decode cX8_goalByTracks 1 = .ok (.istore_n 2, 1) := by decide +kernel
theorem dX8_goalByTracks_2 : decode cX8_goalByTracks 2 = .ok (.iconst 0, 1) := by decide +kernel
theorem dX8_goalByTracks_3 : decode cX8_goalByTracks 3 = .ok (.istore_n 3, 1) := by decide +kernel
theorem dX8_goalByTracks_4 : decode cX8_goalByTracks 4 = .ok (.iload_n 3, 1) := by decide +kernel
theorem dX8_goalByTracks_5 : decode cX8_goalByTracks 5 = .ok (.aload_n 0, 1) := by decide +kernel
theorem dX8_goalByTracks_6 : decode cX8_goalByTracks 6 = .ok (.getfield 52, 3) := by decide +kernel
theorem dX8_goalByTracks_9 : decode cX8_goalByTracks 9 = .ok (.getfield 71, 3) := by decide +kernel
theorem dX8_goalByTracks_12 : decode cX8_goalByTracks 12 = .ok (.iconst 2, 1) := by decide +kernel
theorem dX8_goalByTracks_13 : decode cX8_goalByTracks 13 = .ok (.iaload, 1) := by decide +kernel
theorem dX8_goalByTracks_14 : decode cX8_goalByTracks 14 = .ok (.if_icmp .ge 54, 3) := by decide +kernel
theorem dX8_goalByTracks_17 : decode cX8_goalByTracks 17 = .ok (.aload_n 0, 1) := by decide +kernel
theorem dX8_goalByTracks_18 : decode cX8_goalByTracks 18 = .ok (.getfield 52, 3) := by decide +kernel
theorem dX8_goalByTracks_21 : decode cX8_goalByTracks 21 = .ok (.iload_n 3, 1) := by decide +kernel
theorem dX8_goalByTracks_22 : decode cX8_goalByTracks 22 = .ok (.aload_n 0, 1) := by decide +kernel
theorem dX8_goalByTracks_23 : decode cX8_goalByTracks 23 = .ok (.getfield 43, 3) := by decide +kernel
theorem dX8_goalByTracks_26 : decode cX8_goalByTracks 26 = .ok (.iload_n 1, 1) := by decide +kernel
theorem dX8_goalByTracks_27 : decode cX8_goalByTracks 27 = .ok (.iaload, 1) := by decide +kernel
theorem dX8_goalByTracks_28 : decode cX8_goalByTracks 28 = .ok (.aload_n 0, 1) := by decide +kernel
theorem dX8_goalByTracks_29 : decode cX8_goalByTracks 29 = .ok (.getfield 52, 3) := by decide +kernel
theorem dX8_goalByTracks_32 : decode cX8_goalByTracks 32 = .ok (.getfield 138, 3) := by decide +kernel
theorem dX8_goalByTracks_35 : decode cX8_goalByTracks 35 = .ok (.iload_n 1, 1) := by decide +kernel
theorem dX8_goalByTracks_36 : decode cX8_goalByTracks 36 = .ok (.iaload, 1) := by decide +kernel
theorem dX8_goalByTracks_37 : decode cX8_goalByTracks 37 = .ok (.invokevirtual 182, 3) := by decide +kernel
theorem dX8_goalByTracks_40 : decode cX8_goalByTracks 40 = .ok (.istore 4, 2) := by decide +kernel
theorem dX8_goalByTracks_42 : decode cX8_goalByTracks 42 = .ok (.iload 4, 2) := by decide +kernel
theorem dX8_goalByTracks_44 : decode cX8_goalByTracks 44 = .ok (.iconst (-1), 1) := by decide +kernel
theorem dX8_goalByTracks_45 : decode cX8_goalByTracks 45 = .ok (.if_icmp .eq 17, 3) := by decide +kernel
theorem dX8_goalByTracks_48 : decode cX8_goalByTracks 48 = .ok (.aload_n 0, 1) := by decide +kernel
theorem dX8_goalByTracks_49 : decode cX8_goalByTracks 49 = .ok (.iload_n 3, 1) := by decide +kernel
theorem dX8_goalByTracks_50 : decode cX8_goalByTracks 50 = .ok (.invokevirtual 186, 3) := by decide +kernel
theorem dX8_goalByTracks_53 : decode cX8_goalByTracks 53 = .ok (.ifCond .eq 6, 3) := by decide +kernel
theorem dX8_goalByTracks_56 : decode cX8_goalByTracks 56 = .ok (.iload 4, 2) := by decide +kernel
theorem dX8_goalByTracks_58 : decode cX8_goalByTracks 58 = .ok (.ireturn, 1) := by decide +kernel
theorem dX8_goalByTracks_59 : decode cX8_goalByTracks 59 = .ok (.bipush (-2), 2) := by decide +kernel
theorem dX8_goalByTracks_61 : decode cX8_goalByTracks 61 = .ok (.istore_n 2, 1) := by decide +kernel
theorem dX8_goalByTracks_62 : decode cX8_goalByTracks 62 = .ok (.iinc 3 1, 3) := by decide +kernel
theorem dX8_goalByTracks_65 : decode cX8_goalByTracks 65 = .ok (.goto (-61), 3) := by decide +kernel
theorem dX8_goalByTracks_68 : decode cX8_goalByTracks 68 = .ok (.iload_n 2, 1) := by decide +kernel
theorem dX8_goalByTracks_69 : decode cX8_goalByTracks 69 = .ok (.ireturn, 1) := by decide +kernel
theorem dX8_leadsNow_0 : decode cX8_leadsNow 0 = .ok (.aload_n 0, 1) := by decide +kernel
theorem dX8_leadsNow_1 : decode cX8_leadsNow 1 = .ok (.getfield 52, 3) := by decide +kernel
theorem dX8_leadsNow_4 : decode cX8_leadsNow 4 = .ok (.getfield 189, 3) := by decide +kernel
theorem dX8_leadsNow_7 : decode cX8_leadsNow 7 = .ok (.iload_n 1, 1) := by decide +kernel
theorem dX8_leadsNow_8 : decode cX8_leadsNow 8 = .ok (.iaload, 1) := by decide +kernel
theorem dX8_leadsNow_9 : decode cX8_leadsNow 9 = .ok (.istore_n 2, 1) := by decide +kernel
theorem dX8_leadsNow_10 : decode cX8_leadsNow 10 = .ok (.iload_n 2, 1) := by decide +kernel
theorem dX8_leadsNow_11 : decode cX8_leadsNow 11 = .ok (.iconst (-1), 1) := by decide +kernel
theorem dX8_leadsNow_12 : decode cX8_leadsNow 12 = .ok (.if_icmp .eq 23, 3) := by decide +kernel
theorem dX8_leadsNow_15 : decode cX8_leadsNow 15 = .ok (.aload_n 0, 1) := by decide +kernel
theorem dX8_leadsNow_16 : decode cX8_leadsNow 16 = .ok (.getfield 18, 3) := by decide +kernel
theorem dX8_leadsNow_19 : decode cX8_leadsNow 19 = .ok (.iload_n 2, 1) := by decide +kernel
theorem dX8_leadsNow_20 : decode cX8_leadsNow 20 = .ok (.ishr, 1) := by decide +kernel
theorem dX8_leadsNow_21 : decode cX8_leadsNow 21 = .ok (.iconst 1, 1) := by decide +kernel
theorem dX8_leadsNow_22 : decode cX8_leadsNow 22 = .ok (.iand, 1) := by decide +kernel
theorem dX8_leadsNow_23 : decode cX8_leadsNow 23 = .ok (.aload_n 0, 1) := by decide +kernel
theorem dX8_leadsNow_24 : decode cX8_leadsNow 24 = .ok (.getfield 52, 3) := by decide +kernel
theorem dX8_leadsNow_27 : decode cX8_leadsNow 27 = .ok (.getfield 192, 3) := by decide +kernel
theorem dX8_leadsNow_30 : decode cX8_leadsNow 30 = .ok (.iload_n 1, 1) := by decide +kernel
theorem dX8_leadsNow_31 : decode cX8_leadsNow 31 = .ok (.iaload, 1) := by decide +kernel
theorem dX8_leadsNow_32 : decode cX8_leadsNow 32 = .ok (.if_icmp .ne 7, 3) := by decide +kernel
theorem dX8_leadsNow_35 : decode cX8_leadsNow 35 = .ok (.iconst 1, 1) := by decide +kernel
theorem dX8_leadsNow_36 : decode cX8_leadsNow 36 = .ok (.goto 4, 3) := by decide +kernel
theorem dX8_leadsNow_39 : decode cX8_leadsNow 39 = .ok (.iconst 0, 1) := by decide +kernel
theorem dX8_leadsNow_40 : decode cX8_leadsNow 40 = .ok (.ireturn, 1) := by decide +kernel
theorem dX8_enter_0 : decode cX8_enter 0 = .ok (.iload_n 2, 1) := by decide +kernel
theorem dX8_enter_1 : decode cX8_enter 1 = .ok (.iconst (-1), 1) := by decide +kernel
theorem dX8_enter_2 : decode cX8_enter 2 = .ok (.if_icmp .ne 7, 3) := by decide +kernel
theorem dX8_enter_5 : decode cX8_enter 5 = .ok (.iconst (-1), 1) := by decide +kernel
theorem dX8_enter_6 : decode cX8_enter 6 = .ok (.goto 9, 3) := by decide +kernel
theorem dX8_enter_9 : decode cX8_enter 9 = .ok (.aload_n 0, 1) := by decide +kernel
theorem dX8_enter_10 : decode cX8_enter 10 = .ok (.iload_n 2, 1) := by decide +kernel
theorem dX8_enter_11 : decode cX8_enter 11 = .ok (.iload_n 1, 1) := by decide +kernel
theorem dX8_enter_12 : decode cX8_enter 12 = .ok (.invokevirtual 195, 3) := by decide +kernel
theorem dX8_enter_15 : decode cX8_enter 15 = .ok (.istore_n 3, 1) := by decide +kernel
theorem dX8_enter_16 : decode cX8_enter 16 = .ok (.aload_n 0, 1) := by decide +kernel
theorem dX8_enter_17 : decode cX8_enter 17 = .ok (.getfield 43, 3) := by decide +kernel
theorem dX8_enter_20 : decode cX8_enter 20 = .ok (.iload_n 1, 1) := by decide +kernel
theorem dX8_enter_21 : decode cX8_enter 21 = .ok (.iload_n 2, 1) := by decide +kernel
theorem dX8_enter_22 : decode cX8_enter 22 = .ok (.iastore, 1) := by decide +kernel
theorem dX8_enter_23 : decode cX8_enter 23 = .ok (.aload_n 0, 1) := by decide +kernel
theorem dX8_enter_24 : decode cX8_enter 24 = .ok (.getfield 46, 3) := by decide +kernel
theorem dX8_enter_27 : decode cX8_enter 27 = .ok (.iload_n 1, 1) := by decide +kernel
theorem dX8_enter_28 : decode cX8_enter 28 = .ok (.iconst 0, 1) := by decide +kernel
theorem dX8_enter_29 : decode cX8_enter 29 = .ok (.iastore, 1) := by decide +kernel
theorem dX8_enter_30 : decode cX8_enter 30 = .ok (.iload_n 3, 1) := by decide +kernel
theorem dX8_enter_31 : decode cX8_enter 31 = .ok (.iconst (-1), 1) := by decide +kernel
theorem dX8_enter_32 : decode cX8_enter 32 = .ok (.if_icmp .eq 9, 3) := by decide +kernel
theorem dX8_enter_35 : decode cX8_enter 35 = .ok (.aload_n 0, 1) := by decide +kernel
theorem dX8_enter_36 : decode cX8_enter 36 = .ok (.iload_n 1, 1) := by decide +kernel
theorem dX8_enter_37 : decode cX8_enter 37 = .ok (.iload_n 2, 1) := by decide +kernel
theorem dX8_enter_38 : decode cX8_enter 38 = .ok (.invokevirtual 198, 3) := by decide +kernel
theorem dX8_enter_41 : decode cX8_enter 41 = .ok (.iconst 0, 1) := by decide +kernel
theorem dX8_enter_42 : decode cX8_enter 42 = .ok (.istore 4, 2) := by decide +kernel
theorem dX8_enter_44 : decode cX8_enter 44 = .ok (.iload 4, 2) := by decide +kernel
theorem dX8_enter_46 : decode cX8_enter 46 = .ok (.aload_n 0, 1) := by decide +kernel
theorem dX8_enter_47 : decode cX8_enter 47 = .ok (.getfield 52, 3) := by decide +kernel
theorem dX8_enter_50 : decode cX8_enter 50 = .ok (.getfield 71, 3) := by decide +kernel
theorem dX8_enter_53 : decode cX8_enter 53 = .ok (.iconst 4, 1) := by decide +kernel
theorem dX8_enter_54 : decode cX8_enter 54 = .ok (.iaload, 1) := by decide +kernel
theorem dX8_enter_55 : decode cX8_enter 55 = .ok (.if_icmp .ge 61, 3) := by decide +kernel
theorem dX8_enter_58 : decode cX8_enter 58 = .ok (.aload_n 0, 1) := by decide +kernel
theorem dX8_enter_59 : decode cX8_enter 59 = .ok (.getfield 33, 3) := by decide +kernel
theorem dX8_enter_62 : decode cX8_enter 62 = .ok (.iload 4, 2) := by decide +kernel
theorem dX8_enter_64 : decode cX8_enter 64 = .ok (.iaload, 1) := by decide +kernel
theorem dX8_enter_65 : decode cX8_enter 65 = .ok (.iconst 2, 1) := by decide +kernel
theorem dX8_enter_66 : decode cX8_enter 66 = .ok (.if_icmp .ne 44, 3) := by decide +kernel
theorem dX8_enter_69 : decode cX8_enter 69 = .ok (.aload_n 0, 1) := by decide +kernel
theorem dX8_enter_70 : decode cX8_enter 70 = .ok (.getfield 40, 3) := by decide +kernel
theorem dX8_enter_73 : decode cX8_enter 73 = .ok (.iload 4, 2) := by decide +kernel
theorem dX8_enter_75 : decode cX8_enter 75 = .ok (.iaload, 1) := by decide +kernel
theorem dX8_enter_76 : decode cX8_enter 76 = .ok (.iload_n 1, 1) := by decide +kernel
theorem dX8_enter_77 : decode cX8_enter 77 = .ok (.if_icmp .ne 33, 3) := by decide +kernel
theorem dX8_enter_80 : decode cX8_enter 80 = .ok (.iload_n 2, 1) := by decide +kernel
theorem dX8_enter_81 : decode cX8_enter 81 = .ok (.iconst (-1), 1) := by decide +kernel
theorem dX8_enter_82 : decode cX8_enter 82 = .ok (.if_icmp .eq 20, 3) := by decide +kernel
theorem dX8_enter_85 : decode cX8_enter 85 = .ok (.aload_n 0, 1) := by decide +kernel
theorem dX8_enter_86 : decode cX8_enter 86 = .ok (.getfield 52, 3) := by decide +kernel
theorem dX8_enter_89 : decode cX8_enter 89 = .ok (.getfield 119, 3) := by decide +kernel
theorem dX8_enter_92 : decode cX8_enter 92 = .ok (.iload 4, 2) := by decide +kernel
theorem dX8_enter_94 : decode cX8_enter 94 = .ok (.iaload, 1) := by decide +kernel
theorem dX8_enter_95 : decode cX8_enter 95 = .ok (.iload_n 2, 1) := by decide +kernel
theorem dX8_enter_96 : decode cX8_enter 96 = .ok (.ishr, 1) := by decide +kernel
theorem dX8_enter_97 : decode cX8_enter 97 = .ok (.iconst 1, 1) := by decide +kernel
theorem dX8_enter_98 : decode cX8_enter 98 = .ok (.iand, 1) := by decide +kernel
theorem dX8_enter_99 : decode cX8_enter 99 = .ok (.ifCond .ne 11, 3) := by decide +kernel
theorem dX8_enter_102 : decode cX8_enter 102 = .ok (.aload_n 0, 1) := by decide +kernel
theorem dX8_enter_103 : decode cX8_enter 103 = .ok (.getfield 33, 3) := by decide +kernel
theorem dX8_enter_106 : decode cX8_enter 106 = .ok (.iload 4, 2) := by decide +kernel
theorem dX8_enter_108 : decode cX8_enter 108 = .ok (.iconst 0, 1) := by decide +kernel
theorem dX8_enter_109 : decode cX8_enter 109 = .ok (.iastore, 1) := by decide +kernel
theorem dX8_enter_110 : decode cX8_enter 110 = .ok (.iinc 4 1, 3) := by decide +kernel
theorem dX8_enter_113 : decode cX8_enter 113 = .ok (.goto (-69), 3) := by decide +kernel
theorem dX8_enter_116 : decode cX8_enter 116 = .ok (.return_, 1) := by decide +kernel
theorem dX8_crash_0 : decode cX8_crash 0 = .ok (.aload_n 0, 1) := by decide +kernel
theorem dX8_crash_1 : decode cX8_crash 1 = .ok (.dup, 1) := by decide +kernel
theorem dX8_crash_2 : decode cX8_crash 2 = .ok (.getfield 15, 3) := by decide +kernel
theorem dX8_crash_5 : decode cX8_crash 5 = .ok (.iconst 1, 1) := by decide +kernel
theorem dX8_crash_6 : decode cX8_crash 6 = .ok (.iadd, 1) := by decide +kernel
theorem dX8_crash_7 : decode cX8_crash 7 = .ok (.putfield 15, 3) := by decide +kernel
theorem dX8_crash_10 : decode cX8_crash 10 = .ok (.aload_n 0, 1) := by decide +kernel
theorem dX8_crash_11 : decode cX8_crash 11 = .ok (.dup, 1) := by decide +kernel
theorem dX8_crash_12 : decode cX8_crash 12 = .ok (.getfield 27, 3) := by decide +kernel
theorem dX8_crash_15 : decode cX8_crash 15 = .ok (.iconst 1, 1) := by decide +kernel
theorem dX8_crash_16 : decode cX8_crash 16 = .ok (.iload_n 1, 1) := by decide +kernel
theorem dX8_crash_17 : decode cX8_crash 17 = .ok (.ishl, 1) := by decide +kernel
theorem dX8_crash_18 : decode cX8_crash 18 = .ok (.ior, 1) := by decide +kernel
theorem dX8_crash_19 : decode cX8_crash 19 = .ok (.putfield 27, 3) := by decide +kernel
theorem dX8_crash_22 : decode cX8_crash 22 = .ok (.iconst 0, 1) := by decide +kernel
theorem dX8_crash_23 : decode cX8_crash 23 = .ok (.istore_n 3, 1) := by decide +kernel
theorem dX8_crash_24 : decode cX8_crash 24 = .ok (.iload_n 3, 1) := by decide +kernel
theorem dX8_crash_25 : decode cX8_crash 25 = .ok (.aload_n 0, 1) := by decide +kernel
theorem dX8_crash_26 : decode cX8_crash 26 = .ok (.getfield 52, 3) := by decide +kernel
theorem dX8_crash_29 : decode cX8_crash 29 = .ok (.getfield 71, 3) := by decide +kernel
theorem dX8_crash_32 : decode cX8_crash 32 = .ok (.bipush 6, 2) := by decide +kernel
theorem dX8_crash_34 : decode cX8_crash 34 = .ok (.iaload, 1) := by decide +kernel
theorem dX8_crash_35 : decode cX8_crash 35 = .ok (.if_icmp .ge 31, 3) := by decide +kernel
theorem dX8_crash_38 : decode cX8_crash 38 = .ok (.aload_n 0, 1) := by decide +kernel
theorem dX8_crash_39 : decode cX8_crash 39 = .ok (.getfield 43, 3) := by decide +kernel
theorem dX8_crash_42 : decode cX8_crash 42 = .ok (.iload_n 3, 1) := by decide +kernel
theorem dX8_crash_43 : decode cX8_crash 43 = .ok (.iaload, 1) := by decide +kernel
theorem dX8_crash_44 : decode cX8_crash 44 = .ok (.iload_n 2, 1) := by decide +kernel
theorem dX8_crash_45 : decode cX8_crash 45 = .ok (.if_icmp .ne 15, 3) := by decide +kernel
theorem dX8_crash_48 : decode cX8_crash 48 = .ok (.aload_n 0, 1) := by decide +kernel
theorem dX8_crash_49 : decode cX8_crash 49 = .ok (.dup, 1) := by decide +kernel
theorem dX8_crash_50 : decode cX8_crash 50 = .ok (.getfield 27, 3) := by decide +kernel
theorem dX8_crash_53 : decode cX8_crash 53 = .ok (.iconst 1, 1) := by decide +kernel
theorem dX8_crash_54 : decode cX8_crash 54 = .ok (.iload_n 3, 1) := by decide +kernel
theorem dX8_crash_55 : decode cX8_crash 55 = .ok (.ishl, 1) := by decide +kernel
theorem dX8_crash_56 : decode cX8_crash 56 = .ok (.ior, 1) := by decide +kernel
theorem dX8_crash_57 : decode cX8_crash 57 = .ok (.putfield 27, 3) := by decide +kernel
theorem dX8_crash_60 : decode cX8_crash 60 = .ok (.iinc 3 1, 3) := by decide +kernel
theorem dX8_crash_63 : decode cX8_crash 63 = .ok (.goto (-39), 3) := by decide +kernel
theorem dX8_crash_66 : decode cX8_crash 66 = .ok (.aload_n 0, 1) := by decide +kernel
theorem dX8_crash_67 : decode cX8_crash 67 = .ok (.dup, 1) := by decide +kernel
theorem dX8_crash_68 : decode cX8_crash 68 = .ok (.getfield 30, 3) := by decide +kernel
theorem dX8_crash_71 : decode cX8_crash 71 = .ok (.aload_n 0, 1) := by decide +kernel
theorem dX8_crash_72 : decode cX8_crash 72 = .ok (.getfield 27, 3) := by decide +kernel
theorem dX8_crash_75 : decode cX8_crash 75 = .ok (.iconst (-1), 1) := by decide +kernel
theorem dX8_crash_76 : decode cX8_crash 76 = .ok (.ixor, 1) := by decide +kernel
theorem dX8_crash_77 : decode cX8_crash 77 = .ok (.iand, 1) := by decide +kernel
theorem dX8_crash_78 : decode cX8_crash 78 = .ok (.putfield 30, 3) := by decide +kernel
theorem dX8_crash_81 : decode cX8_crash 81 = .ok (.return_, 1) := by decide +kernel
theorem dX8_passDrawn_0 : decode cX8_passDrawn 0 = .ok (.iload_n 2, 1) := by decide +kernel
theorem dX8_passDrawn_1 : decode cX8_passDrawn 1 = .ok (.istore_n 3, 1) := by decide +kernel
theorem dX8_passDrawn_2 : decode cX8_passDrawn 2 = .ok (.iconst 0, 1) := by decide +kernel
theorem dX8_passDrawn_3 : decode cX8_passDrawn 3 = .ok (.istore 4, 2) := by decide +kernel
theorem dX8_passDrawn_5 : decode cX8_passDrawn 5 = .ok (.iload 4, 2) := by decide +kernel
theorem dX8_passDrawn_7 : decode cX8_passDrawn 7 = .ok (.iload_n 1, 1) := by decide +kernel
theorem dX8_passDrawn_8 : decode cX8_passDrawn 8 = .ok (.if_icmp .ge 96, 3) := by decide +kernel
theorem dX8_passDrawn_11 : decode cX8_passDrawn 11 = .ok (.aload_n 0, 1) := by decide +kernel
theorem dX8_passDrawn_12 : decode cX8_passDrawn 12 = .ok (.getfield 9, 3) := by decide +kernel
theorem dX8_passDrawn_15 : decode cX8_passDrawn 15 = .ok (.sipush 1000, 3) := by decide +kernel
theorem dX8_passDrawn_18 : decode cX8_passDrawn 18 = .ok (.if_icmp .ge 86, 3) := by decide +kernel
theorem dX8_passDrawn_21 : decode cX8_passDrawn 21 = .ok (.iload_n 3, 1) := by decide +kernel
theorem dX8_passDrawn_22 : decode cX8_passDrawn 22 = .ok (.invokestatic 201, 3) := by decide +kernel
theorem dX8_passDrawn_25 : decode cX8_passDrawn 25 = .ok (.istore_n 3, 1) := by decide +kernel
theorem dX8_passDrawn_26 : decode cX8_passDrawn 26 = .ok (.iload_n 3, 1) := by decide +kernel
theorem dX8_passDrawn_27 : decode cX8_passDrawn 27 = .ok (.iconst 4, 1) := by decide +kernel
theorem dX8_passDrawn_28 : decode cX8_passDrawn 28 = .ok (.invokestatic 204, 3) := by decide +kernel
theorem dX8_passDrawn_31 : decode cX8_passDrawn 31 = .ok (.istore 5, 2) := by decide +kernel
theorem dX8_passDrawn_33 : decode cX8_passDrawn 33 = .ok (.iload 5, 2) := by decide +kernel
theorem dX8_passDrawn_35 : decode cX8_passDrawn 35 = .ok (.iconst 2, 1) := by decide +kernel
theorem dX8_passDrawn_36 : decode cX8_passDrawn 36 = .ok (.if_icmp .ge 15, 3) := by decide +kernel
theorem dX8_passDrawn_39 : decode cX8_passDrawn 39 = .ok (.aload_n 0, 1) := by decide +kernel
theorem dX8_passDrawn_40 : decode cX8_passDrawn 40 = .ok (.getfield 52, 3) := by decide +kernel
theorem dX8_passDrawn_43 : decode cX8_passDrawn 43 = .ok (.getfield 71, 3) := by decide +kernel
theorem dX8_passDrawn_46 : decode cX8_passDrawn 46 = .ok (.iconst 4, 1) := by decide +kernel
theorem dX8_passDrawn_47 : decode cX8_passDrawn 47 = .ok (.iaload, 1) := by decide +kernel
theorem dX8_passDrawn_48 : decode cX8_passDrawn 48 = .ok (.goto 22, 3) := by decide +kernel
theorem dX8_passDrawn_51 : decode cX8_passDrawn 51 = .ok (.iload 5, 2) := by decide +kernel
theorem dX8_passDrawn_53 : decode cX8_passDrawn 53 = .ok (.iconst 2, 1) := by decide +kernel
theorem dX8_passDrawn_54 : decode cX8_passDrawn 54 = .ok (.if_icmp .ne 15, 3) := by decide +kernel
theorem dX8_passDrawn_57 : decode cX8_passDrawn 57 = .ok (.aload_n 0, 1) := by decide +kernel
theorem dX8_passDrawn_58 : decode cX8_passDrawn 58 = .ok (.getfield 52, 3) := by decide +kernel
theorem dX8_passDrawn_61 : decode cX8_passDrawn 61 = .ok (.getfield 71, 3) := by decide +kernel
theorem dX8_passDrawn_64 : decode cX8_passDrawn 64 = .ok (.iconst 1, 1) := by decide +kernel
theorem dX8_passDrawn_65 : decode cX8_passDrawn 65 = .ok (.iaload, 1) := by decide +kernel
theorem dX8_passDrawn_66 : decode cX8_passDrawn 66 = .ok (.goto 4, 3) := by decide +kernel
theorem dX8_passDrawn_69 : decode cX8_passDrawn 69 = .ok (.iconst 0, 1) := by decide +kernel
theorem dX8_passDrawn_70 : decode cX8_passDrawn 70 = .ok (.istore 6, 2) := by decide +kernel
theorem dX8_passDrawn_72 : decode cX8_passDrawn 72 = .ok (.iload 6, 2) := by decide +kernel
theorem dX8_passDrawn_74 : decode cX8_passDrawn 74 = .ok (.ifCond .le 20, 3) := by decide +kernel
theorem dX8_passDrawn_77 : decode cX8_passDrawn 77 = .ok (.iload_n 3, 1) := by decide +kernel
theorem dX8_passDrawn_78 : decode cX8_passDrawn 78 = .ok (.invokestatic 201, 3) := by decide +kernel
theorem dX8_passDrawn_81 : decode cX8_passDrawn 81 = .ok (.istore_n 3, 1) := by decide +kernel
theorem dX8_passDrawn_82 : decode cX8_passDrawn 82 = .ok (.aload_n 0, 1) := by decide +kernel
theorem dX8_passDrawn_83 : decode cX8_passDrawn 83 = .ok (.iload 5, 2) := by decide +kernel
theorem dX8_passDrawn_85 : decode cX8_passDrawn 85 = .ok (.iload_n 3, 1) := by decide +kernel
theorem dX8_passDrawn_86 : decode cX8_passDrawn 86 = .ok (.iload 6, 2) := by decide +kernel
theorem dX8_passDrawn_88 : decode cX8_passDrawn 88 = .ok (.invokestatic 204, 3) := by decide +kernel
theorem dX8_passDrawn_91 : decode cX8_passDrawn 91 = .ok (.invokevirtual 207, 3) := by decide +kernel
theorem dX8_passDrawn_94 : decode cX8_passDrawn 94 = .ok (.aload_n 0, 1) := by decide +kernel
theorem dX8_passDrawn_95 : decode cX8_passDrawn 95 = .ok (.invokevirtual 153, 3) := by decide +kernel
theorem dX8_passDrawn_98 : decode cX8_passDrawn 98 = .ok (.iinc 4 1, 3) := by decide +kernel
theorem dX8_passDrawn_101 : decode cX8_passDrawn 101 = .ok (.goto (-96), 3) := by decide +kernel
theorem dX8_passDrawn_104 : decode cX8_passDrawn 104 = .ok (.iload 4, 2) := by decide +kernel
theorem dX8_passDrawn_106 : decode cX8_passDrawn 106 = .ok (.ireturn, 1) := by decide +kernel
theorem dX8_stir_0 : decode cX8_stir 0 = .ok (.iload_n 0, 1) := by decide +kernel
theorem dX8_stir_1 : decode cX8_stir 1 = .ok (.ldc 210, 2) := by decide +kernel
theorem dX8_stir_3 : decode cX8_stir 3 = .ok (.imul, 1) := by decide +kernel
theorem dX8_stir_4 : decode cX8_stir 4 = .ok (.sipush 12345, 3) := by decide +kernel
theorem dX8_stir_7 : decode cX8_stir 7 = .ok (.iadd, 1) := by decide +kernel
theorem dX8_stir_8 : decode cX8_stir 8 = .ok (.ireturn, 1) := by decide +kernel
theorem dX8_lotOf_0 : decode cX8_lotOf 0 = .ok (.iload_n 1, 1) := by decide +kernel
theorem dX8_lotOf_1 : decode cX8_lotOf 1 = .ok (.iconst 1, 1) := by decide +kernel
theorem dX8_lotOf_2 : decode cX8_lotOf 2 = .ok (.if_icmp .ge 7, 3) := by decide +kernel
theorem dX8_lotOf_5 : decode cX8_lotOf 5 = .ok (.iconst 0, 1) := by decide +kernel
theorem dX8_lotOf_6 : decode cX8_lotOf 6 = .ok (.goto 9, 3) := by decide +kernel
theorem dX8_lotOf_9 : decode cX8_lotOf 9 = .ok (.iload_n 0, 1) := by decide +kernel
theorem dX8_lotOf_10 : decode cX8_lotOf 10 = .ok (.bipush 8, 2) := by decide +kernel
theorem dX8_lotOf_12 : decode cX8_lotOf 12 = .ok (.iushr, 1) := by decide +kernel
theorem dX8_lotOf_13 : decode cX8_lotOf 13 = .ok (.iload_n 1, 1) := by decide +kernel
theorem dX8_lotOf_14 : decode cX8_lotOf 14 = .ok (.irem, 1) := by decide +kernel
theorem dX8_lotOf_15 : decode cX8_lotOf 15 = .ok (.ireturn, 1) := by decide +kernel
theorem dX8_actByLot_0 : decode cX8_actByLot 0 = .ok (.iload_n 1, 1) := by decide +kernel
theorem dX8_actByLot_1 : decode cX8_actByLot 1 = .ok (.iconst 2, 1) := by decide +kernel
theorem dX8_actByLot_2 : decode cX8_actByLot 2 = .ok (.if_icmp .ne 12, 3) := by decide +kernel
theorem dX8_actByLot_5 : decode cX8_actByLot 5 = .ok (.aload_n 0, 1) := by decide +kernel
theorem dX8_actByLot_6 : decode cX8_actByLot 6 = .ok (.iload_n 2, 1) := by decide +kernel
theorem dX8_actByLot_7 : decode cX8_actByLot 7 = .ok (.invokevirtual 100, 3) := by decide +kernel
theorem dX8_actByLot_10 : decode cX8_actByLot 10 = .ok (.pop, 1) := by decide +kernel
theorem dX8_actByLot_11 : decode cX8_actByLot 11 = .ok (.goto 28, 3) := by decide +kernel
theorem dX8_actByLot_14 : decode cX8_actByLot 14 = .ok (.aload_n 0, 1) := by decide +kernel
theorem dX8_actByLot_15 : decode cX8_actByLot 15 = .ok (.getfield 33, 3) := by decide +kernel
theorem dX8_actByLot_18 : decode cX8_actByLot 18 = .ok (.iload_n 2, 1) := by decide +kernel
theorem dX8_actByLot_19 : decode cX8_actByLot 19 = .ok (.iaload, 1) := by decide +kernel
theorem dX8_actByLot_20 : decode cX8_actByLot 20 = .ok (.iconst 1, 1) := by decide +kernel
theorem dX8_actByLot_21 : decode cX8_actByLot 21 = .ok (.if_icmp .ne 12, 3) := by decide +kernel
theorem dX8_actByLot_24 : decode cX8_actByLot 24 = .ok (.aload_n 0, 1) := by decide +kernel
theorem dX8_actByLot_25 : decode cX8_actByLot 25 = .ok (.iload_n 2, 1) := by decide +kernel
theorem dX8_actByLot_26 : decode cX8_actByLot 26 = .ok (.invokevirtual 97, 3) := by decide +kernel
theorem dX8_actByLot_29 : decode cX8_actByLot 29 = .ok (.pop, 1) := by decide +kernel
theorem dX8_actByLot_30 : decode cX8_actByLot 30 = .ok (.goto 9, 3) := by decide +kernel
theorem dX8_actByLot_33 : decode cX8_actByLot 33 = .ok (.aload_n 0, 1) := by decide +kernel
theorem dX8_actByLot_34 : decode cX8_actByLot 34 = .ok (.iload_n 2, 1) := by decide +kernel
theorem dX8_actByLot_35 : decode cX8_actByLot 35 = .ok (.invokevirtual 94, 3) := by decide +kernel
theorem dX8_actByLot_38 : decode cX8_actByLot 38 = .ok (.pop, 1) := by decide +kernel
theorem dX8_actByLot_39 : decode cX8_actByLot 39 = .ok (.return_, 1) := by decide +kernel
theorem dX9_init_0 : decode cX9_init 0 = .ok (.aload_n 0, 1) := by decide +kernel
theorem dX9_init_1 : decode cX9_init 1 = .ok (.invokespecial 3, 3) := by decide +kernel
theorem dX9_init_4 : decode cX9_init 4 = .ok (.aload_n 0, 1) := by decide +kernel
theorem dX9_init_5 : decode cX9_init 5 = .ok (.bipush 26, 2) := by decide +kernel
theorem dX9_init_7 : decode cX9_init 7 = .ok (.newarray .int, 2) := by decide +kernel
theorem dX9_init_9 : decode cX9_init 9 = .ok (.putfield 9, 3) := by decide +kernel
theorem dX9_init_12 : decode cX9_init 12 = .ok (.aload_n 0, 1) := by decide +kernel
theorem dX9_init_13 : decode cX9_init 13 = .ok (.iconst 0, 1) := by decide +kernel
theorem dX9_init_14 : decode cX9_init 14 = .ok (.putfield 15, 3) := by decide +kernel
theorem dX9_init_17 : decode cX9_init 17 = .ok (.return_, 1) := by decide +kernel
theorem dX9_write_0 : decode cX9_write 0 = .ok (.aload_n 0, 1) := by decide +kernel
theorem dX9_write_1 : decode cX9_write 1 = .ok (.iconst 0, 1) := by decide +kernel
theorem dX9_write_2 : decode cX9_write 2 = .ok (.putfield 15, 3) := by decide +kernel
theorem dX9_write_5 : decode cX9_write 5 = .ok (.aload_n 0, 1) := by decide +kernel
theorem dX9_write_6 : decode cX9_write 6 = .ok (.aload_n 1, 1) := by decide +kernel
theorem dX9_write_7 : decode cX9_write 7 = .ok (.bipush 6, 2) := by decide +kernel
theorem dX9_write_9 : decode cX9_write 9 = .ok (.iload_n 3, 1) := by decide +kernel
theorem dX9_write_10 : decode cX9_write 10 = .ok (.invokevirtual 19, 3) := by decide +kernel
theorem dX9_write_13 : decode cX9_write 13 = .ok (.invokevirtual 25, 3) := by decide +kernel
theorem dX9_write_16 : decode cX9_write 16 = .ok (.aload_n 2, 1) := by decide +kernel
theorem dX9_write_17 : decode cX9_write 17 = .ok (.getfield 29, 3) := by decide +kernel
theorem dX9_write_20 : decode cX9_write 20 = .ok (.iload_n 3, 1) := by decide +kernel
theorem dX9_write_21 : decode cX9_write 21 = .ok (.iaload, 1) := by decide +kernel
theorem dX9_write_22 : decode cX9_write 22 = .ok (.iconst (-1), 1) := by decide +kernel
theorem dX9_write_23 : decode cX9_write 23 = .ok (.if_icmp .ne 12, 3) := by decide +kernel
theorem dX9_write_26 : decode cX9_write 26 = .ok (.aload_n 0, 1) := by decide +kernel
theorem dX9_write_27 : decode cX9_write 27 = .ok (.ldc 34, 2) := by decide +kernel
theorem dX9_write_29 : decode cX9_write 29 = .ok (.invokevirtual 36, 3) := by decide +kernel
theorem dX9_write_32 : decode cX9_write 32 = .ok (.goto 24, 3) := by decide +kernel
theorem dX9_write_35 : decode cX9_write 35 = .ok (.aload_n 0, 1) := by decide +kernel
theorem dX9_write_36 : decode cX9_write 36 = .ok (.ldc 40, 2) := by decide +kernel
theorem dX9_write_38 : decode cX9_write 38 = .ok (.invokevirtual 36, 3) := by decide +kernel
theorem dX9_write_41 : decode cX9_write 41 = .ok (.aload_n 0, 1) := by decide +kernel
theorem dX9_write_42 : decode cX9_write 42 = .ok (.aload_n 1, 1) := by decide +kernel
theorem dX9_write_43 : decode cX9_write 43 = .ok (.iconst 0, 1) := by decide +kernel
theorem dX9_write_44 : decode cX9_write 44 = .ok (.aload_n 2, 1) := by decide +kernel
theorem dX9_write_45 : decode cX9_write 45 = .ok (.getfield 29, 3) := by decide +kernel
theorem dX9_write_48 : decode cX9_write 48 = .ok (.iload_n 3, 1) := by decide +kernel
theorem dX9_write_49 : decode cX9_write 49 = .ok (.iaload, 1) := by decide +kernel
theorem dX9_write_50 : decode cX9_write 50 = .ok (.invokevirtual 19, 3) := by decide +kernel
theorem dX9_write_53 : decode cX9_write 53 = .ok (.invokevirtual 25, 3) := by decide +kernel
theorem dX9_write_56 : decode cX9_write 56 = .ok (.aload_n 2, 1) := by decide +kernel
theorem dX9_write_57 : decode cX9_write 57 = .ok (.getfield 42, 3) := by decide +kernel
theorem dX9_write_60 : decode cX9_write 60 = .ok (.iload_n 3, 1) := by decide +kernel
theorem dX9_write_61 : decode cX9_write 61 = .ok (.ishr, 1) := by decide +kernel
theorem dX9_write_62 : decode cX9_write 62 = .ok (.iconst 1, 1) := by decide +kernel
theorem dX9_write_63 : decode cX9_write 63 = .ok (.iand, 1) := by decide +kernel
theorem dX9_write_64 : decode cX9_write 64 = .ok (.iconst 1, 1) := by decide +kernel
theorem dX9_write_65 : decode cX9_write 65 = .ok (.if_icmp .ne 12, 3) := by decide +kernel
theorem dX9_write_68 : decode cX9_write 68 = .ok (.aload_n 0, 1) := by decide +kernel
theorem dX9_write_69 : decode cX9_write 69 = .ok (.ldc 45, 2) := by decide +kernel
theorem dX9_write_71 : decode cX9_write 71 = .ok (.invokevirtual 36, 3) := by decide +kernel
theorem dX9_write_74 : decode cX9_write 74 = .ok (.goto 21, 3) := by decide +kernel
theorem dX9_write_77 : decode cX9_write 77 = .ok (.aload_n 2, 1) := by decide +kernel
theorem dX9_write_78 : decode cX9_write 78 = .ok (.getfield 47, 3) := by decide +kernel
theorem dX9_write_81 : decode cX9_write 81 = .ok (.iload_n 3, 1) := by decide +kernel
theorem dX9_write_82 : decode cX9_write 82 = .ok (.ishr, 1) := by decide +kernel
theorem dX9_write_83 : decode cX9_write 83 = .ok (.iconst 1, 1) := by decide +kernel
theorem dX9_write_84 : decode cX9_write 84 = .ok (.iand, 1) := by decide +kernel
theorem dX9_write_85 : decode cX9_write 85 = .ok (.iconst 1, 1) := by decide +kernel
theorem dX9_write_86 : decode cX9_write 86 = .ok (.if_icmp .ne 9, 3) := by decide +kernel
theorem dX9_write_89 : decode cX9_write 89 = .ok (.aload_n 0, 1) := by decide +kernel
theorem dX9_write_90 : decode cX9_write 90 = .ok (.ldc 50, 2) := by decide +kernel
theorem dX9_write_92 : decode cX9_write 92 = .ok (.invokevirtual 36, 3) := by decide +kernel
theorem dX9_write_95 : decode cX9_write 95 = .ok (.return_, 1) := by decide +kernel
theorem dX9_addByte_0 : decode cX9_addByte 0 = .ok (.aload_n 0, 1) := by decide +kernel
theorem dX9_addByte_1 : decode cX9_addByte 1 = .ok (.getfield 15, 3) := by decide +kernel
theorem dX9_addByte_4 : decode cX9_addByte 4 = .ok (.aload_n 0, 1) := by decide +kernel
theorem dX9_addByte_5 : decode cX9_addByte 5 = .ok (.getfield 9, 3) := by decide +kernel
theorem dX9_addByte_8 : decode cX9_addByte 8 = .ok (.arraylength, 1) := by decide +kernel
theorem dX9_addByte_9 : decode cX9_addByte 9 = .ok (.if_icmp .ge 23, 3) := by decide +kernel
theorem dX9_addByte_12 : decode cX9_addByte 12 = .ok (.aload_n 0, 1) := by decide +kernel
theorem dX9_addByte_13 : decode cX9_addByte 13 = .ok (.getfield 9, 3) := by decide +kernel
theorem dX9_addByte_16 : decode cX9_addByte 16 = .ok (.aload_n 0, 1) := by decide +kernel
theorem dX9_addByte_17 : decode cX9_addByte 17 = .ok (.getfield 15, 3) := by decide +kernel
theorem dX9_addByte_20 : decode cX9_addByte 20 = .ok (.iload_n 1, 1) := by decide +kernel
theorem dX9_addByte_21 : decode cX9_addByte 21 = .ok (.iastore, 1) := by decide +kernel
theorem dX9_addByte_22 : decode cX9_addByte 22 = .ok (.aload_n 0, 1) := by decide +kernel
theorem dX9_addByte_23 : decode cX9_addByte 23 = .ok (.dup, 1) := by decide +kernel
theorem dX9_addByte_24 : decode cX9_addByte 24 = .ok (.getfield 15, 3) := by decide +kernel
theorem dX9_addByte_27 : decode cX9_addByte 27 = .ok (.iconst 1, 1) := by decide +kernel
theorem dX9_addByte_28 : decode cX9_addByte 28 = .ok (.iadd, 1) := by decide +kernel
theorem dX9_addByte_29 : decode cX9_addByte 29 = .ok (.putfield 15, 3) := by decide +kernel
theorem dX9_addByte_32 : decode cX9_addByte 32 = .ok (.return_, 1) := by decide +kernel
theorem dX9_addText_0 : decode cX9_addText 0 = .ok (.iconst 0, 1) := by decide +kernel
theorem dX9_addText_1 : decode cX9_addText 1 = .ok (.istore_n 2, 1) := by decide +kernel
theorem dX9_addText_2 : decode cX9_addText 2 = .ok (.iload_n 2, 1) := by decide +kernel
theorem dX9_addText_3 : decode cX9_addText 3 = .ok (.aload_n 1, 1) := by decide +kernel
theorem dX9_addText_4 : decode cX9_addText 4 = .ok (.invokevirtual 52, 3) := by decide +kernel
theorem dX9_addText_7 : decode cX9_addText 7 = .ok (.if_icmp .ge 18, 3) := by decide +kernel
theorem dX9_addText_10 : decode cX9_addText 10 = .ok (.aload_n 0, 1) := by decide +kernel
theorem dX9_addText_11 : decode cX9_addText 11 = .ok (.aload_n 1, 1) := by decide +kernel
theorem dX9_addText_12 : decode cX9_addText 12 = .ok (.iload_n 2, 1) := by decide +kernel
theorem dX9_addText_13 : decode cX9_addText 13 = .ok (.invokevirtual 58, 3) := by decide +kernel
theorem dX9_addText_16 : decode cX9_addText 16 = .ok (.invokevirtual 62, 3) := by decide +kernel
theorem dX9_addText_19 : decode cX9_addText 19 = .ok (.iinc 2 1, 3) := by decide +kernel
theorem dX9_addText_22 : decode cX9_addText 22 = .ok (.goto (-20), 3) := by decide +kernel
theorem dX9_addText_25 : decode cX9_addText 25 = .ok (.return_, 1) := by decide +kernel
theorem dX9_addName_0 : decode cX9_addName 0 = .ok (.bipush 30, 2) := by decide +kernel
theorem dX9_addName_2 : decode cX9_addName 2 = .ok (.istore_n 3, 1) := by decide +kernel
theorem dX9_addName_3 : decode cX9_addName 3 = .ok (.iload_n 3, 1) := by decide +kernel
theorem dX9_addName_4 : decode cX9_addName 4 = .ok (.ifCond .lt 35, 3) := by decide +kernel
theorem dX9_addName_7 : decode cX9_addName 7 = .ok (.lload_n 1, 1) := by decide +kernel
theorem dX9_addName_8 : decode cX9_addName 8 = .ok (.iload_n 3, 1) := by decide +kernel
theorem dX9_addName_9 : decode cX9_addName 9 = .ok (.lshr, 1) := by decide +kernel
theorem dX9_addName_10 : decode cX9_addName 10 = .ok (.ldc2_w 66, 3) := by decide +kernel
theorem dX9_addName_13 : decode cX9_addName 13 = .ok (.land, 1) := by decide +kernel
theorem dX9_addName_14 : decode cX9_addName 14 = .ok (.l2i, 1) := by decide +kernel
theorem dX9_addName_15 : decode cX9_addName 15 = .ok (.istore 4, 2) := by decide +kernel
theorem dX9_addName_17 : decode cX9_addName 17 = .ok (.iload 4, 2) := by decide +kernel
theorem dX9_addName_19 : decode cX9_addName 19 = .ok (.ifCond .eq 14, 3) := by decide +kernel
theorem dX9_addName_22 : decode cX9_addName 22 = .ok (.aload_n 0, 1) := by decide +kernel
theorem dX9_addName_23 : decode cX9_addName 23 = .ok (.bipush 97, 2) := by decide +kernel
theorem dX9_addName_25 : decode cX9_addName 25 = .ok (.iload 4, 2) := by decide +kernel
theorem dX9_addName_27 : decode cX9_addName 27 = .ok (.iadd, 1) := by decide +kernel
theorem dX9_addName_28 : decode cX9_addName 28 = .ok (.iconst 1, 1) := by decide +kernel
theorem dX9_addName_29 : decode cX9_addName 29 = .ok (.isub, 1) := by decide +kernel
theorem dX9_addName_30 : decode cX9_addName 30 = .ok (.invokevirtual 62, 3) := by decide +kernel
theorem dX9_addName_33 : decode cX9_addName 33 = .ok (.iinc 3 (-5), 3) := by decide +kernel
theorem dX9_addName_36 : decode cX9_addName 36 = .ok (.goto (-33), 3) := by decide +kernel
theorem dX9_addName_39 : decode cX9_addName 39 = .ok (.return_, 1) := by decide +kernel
theorem dX9_at_0 : decode cX9_at 0 = .ok (.iload_n 1, 1) := by decide +kernel
theorem dX9_at_1 : decode cX9_at 1 = .ok (.ifCond .lt 20, 3) := by decide +kernel
theorem dX9_at_4 : decode cX9_at 4 = .ok (.iload_n 1, 1) := by decide +kernel
theorem dX9_at_5 : decode cX9_at 5 = .ok (.aload_n 0, 1) := by decide +kernel
theorem dX9_at_6 : decode cX9_at 6 = .ok (.getfield 15, 3) := by decide +kernel
theorem dX9_at_9 : decode cX9_at 9 = .ok (.if_icmp .ge 12, 3) := by decide +kernel
theorem dX9_at_12 : decode cX9_at 12 = .ok (.aload_n 0, 1) := by decide +kernel
theorem dX9_at_13 : decode cX9_at 13 = .ok (.getfield 9, 3) := by decide +kernel
theorem dX9_at_16 : decode cX9_at 16 = .ok (.iload_n 1, 1) := by decide +kernel
theorem dX9_at_17 : decode cX9_at 17 = .ok (.iaload, 1) := by decide +kernel
theorem dX9_at_18 : decode cX9_at 18 = .ok (.goto 4, 3) := by decide +kernel
theorem dX9_at_21 : decode cX9_at 21 = .ok (.iconst (-1), 1) := by decide +kernel
theorem dX9_at_22 : decode cX9_at 22 = .ok (.ireturn, 1) := by decide +kernel
theorem dX10_init_0 : decode cX10_init 0 = .ok (.aload_n 0, 1) := by decide +kernel
theorem dX10_init_1 : decode cX10_init 1 = .ok (.invokespecial 3, 3) := by decide +kernel
theorem dX10_init_4 : decode cX10_init 4 = .ok (.aload_n 0, 1) := by decide +kernel
theorem dX10_init_5 : decode cX10_init 5 = .ok (.sipush 1460, 3) := by decide +kernel
theorem dX10_init_8 : decode cX10_init 8 = .ok (.newarray .int, 2) := by decide +kernel
theorem dX10_init_10 : decode cX10_init 10 = .ok (.putfield 9, 3) := by decide +kernel
theorem dX10_init_13 : decode cX10_init 13 = .ok (.aload_n 0, 1) := by decide +kernel
theorem dX10_init_14 : decode cX10_init 14 = .ok (.iconst 0, 1) := by decide +kernel
theorem dX10_init_15 : decode cX10_init 15 = .ok (.putfield 15, 3) := by decide +kernel
theorem dX10_init_18 : decode cX10_init 18 = .ok (.aload_n 0, 1) := by decide +kernel
theorem dX10_init_19 : decode cX10_init 19 = .ok (.iconst 0, 1) := by decide +kernel
theorem dX10_init_20 : decode cX10_init 20 = .ok (.putfield 19, 3) := by decide +kernel
theorem dX10_init_23 : decode cX10_init 23 = .ok (.aload_n 0, 1) := by decide +kernel
theorem dX10_init_24 : decode cX10_init 24 = .ok (.iconst 0, 1) := by decide +kernel
theorem dX10_init_25 : decode cX10_init 25 = .ok (.putfield 22, 3) := by decide +kernel
theorem dX10_init_28 : decode cX10_init 28 = .ok (.aload_n 0, 1) := by decide +kernel
theorem dX10_init_29 : decode cX10_init 29 = .ok (.iconst 0, 1) := by decide +kernel
theorem dX10_init_30 : decode cX10_init 30 = .ok (.putfield 25, 3) := by decide +kernel
theorem dX10_init_33 : decode cX10_init 33 = .ok (.aload_n 0, 1) := by decide +kernel
theorem dX10_init_34 : decode cX10_init 34 = .ok (.iconst 0, 1) := by decide +kernel
theorem dX10_init_35 : decode cX10_init 35 = .ok (.putfield 28, 3) := by decide +kernel
theorem dX10_init_38 : decode cX10_init 38 = .ok (.aload_n 0, 1) := by decide +kernel
theorem dX10_init_39 : decode cX10_init 39 = .ok (.iconst 0, 1) := by decide +kernel
theorem dX10_init_40 : decode cX10_init 40 = .ok (.putfield 31, 3) := by decide +kernel
theorem dX10_init_43 : decode cX10_init 43 = .ok (.aload_n 0, 1) := by decide +kernel
theorem dX10_init_44 : decode cX10_init 44 = .ok (.lconst 0, 1) := by decide +kernel
theorem dX10_init_45 : decode cX10_init 45 = .ok (.putfield 34, 3) := by decide +kernel
theorem dX10_init_48 : decode cX10_init 48 = .ok (.aload_n 0, 1) := by decide +kernel
theorem dX10_init_49 : decode cX10_init 49 = .ok (.iconst (-1), 1) := by decide +kernel
theorem dX10_init_50 : decode cX10_init 50 = .ok (.putfield 38, 3) := by decide +kernel
theorem dX10_init_53 : decode cX10_init 53 = .ok (.aload_n 0, 1) := by decide +kernel
theorem dX10_init_54 : decode cX10_init 54 = .ok (.iconst 0, 1) := by decide +kernel
theorem dX10_init_55 : decode cX10_init 55 = .ok (.putfield 41, 3) := by decide +kernel
theorem dX10_init_58 : decode cX10_init 58 = .ok (.aload_n 0, 1) := by decide +kernel
theorem dX10_init_59 : decode cX10_init 59 = .ok (.iconst 0, 1) := by decide +kernel
theorem dX10_init_60 : decode cX10_init 60 = .ok (.putfield 44, 3) := by decide +kernel
theorem dX10_init_63 : decode cX10_init 63 = .ok (.aload_n 0, 1) := by decide +kernel
theorem dX10_init_64 : decode cX10_init 64 = .ok (.invokestatic 47, 3) := by decide +kernel
theorem dX10_init_67 : decode cX10_init 67 = .ok (.putfield 51, 3) := by decide +kernel
theorem dX10_init_70 : decode cX10_init 70 = .ok (.return_, 1) := by decide +kernel
theorem dX10_codesOfWords_0 : decode cX10_codesOfWords 0 = .ok (.bipush 32, 2) := by decide +kernel
theorem dX10_codesOfWords_2 : decode cX10_codesOfWords 2 = .ok (.newarray .long, 2) := by decide +kernel
theorem dX10_codesOfWords_4 : decode cX10_codesOfWords 4 = .ok (.astore_n 0, 1) := by decide +kernel
theorem dX10_codesOfWords_5 : decode cX10_codesOfWords 5 = .ok (.lconst 0, 1) := by decide +kernel
theorem dX10_codesOfWords_6 : decode cX10_codesOfWords 6 = .ok (.lstore_n 1, 1) := by decide +kernel
theorem dX10_codesOfWords_7 : decode cX10_codesOfWords 7 = .ok (.iconst 0, 1) := by decide +kernel
theorem dX10_codesOfWords_8 : decode cX10_codesOfWords 8 = .ok (.istore_n 3, 1) := by decide +kernel
theorem dX10_codesOfWords_9 : decode cX10_codesOfWords 9 = .ok (.iconst 0, 1) := by decide +kernel
theorem dX10_codesOfWords_10 : decode cX10_codesOfWords 10 = .ok (.istore 4, 2) := by decide +kernel
theorem dX10_codesOfWords_12 : decode cX10_codesOfWords 12 = .ok (.iload 4, 2) := by decide +kernel
theorem dX10_codesOfWords_14 : decode cX10_codesOfWords 14 = .ok (.ldc 55, 2) := by decide +kernel
theorem dX10_codesOfWords_16 : decode cX10_codesOfWords 16 = .ok (.invokevirtual 57, 3) := by decide +kernel
theorem dX10_codesOfWords_19 : decode cX10_codesOfWords 19 = .ok (.if_icmp .ge 58, 3) := by decide +kernel
theorem dX10_codesOfWords_22 : decode cX10_codesOfWords 22 = .ok (.iload_n 3, 1) := by decide +kernel
theorem dX10_codesOfWords_23 : decode cX10_codesOfWords 23 = .ok (.bipush 32, 2) := by decide +kernel
theorem dX10_codesOfWords_25 : decode cX10_codesOfWords 25 = .ok (.if_icmp .ge 52, 3) := by decide +kernel
theorem dX10_codesOfWords_28 : decode cX10_codesOfWords 28 = .ok (.ldc 55, 2) := by decide +kernel
theorem dX10_codesOfWords_30 : decode cX10_codesOfWords 30 = .ok (.iload 4, 2) := by decide +kernel
theorem dX10_codesOfWords_32 : decode cX10_codesOfWords 32 = .ok (.invokevirtual 63, 3) := by decide +kernel
theorem dX10_codesOfWords_35 : decode cX10_codesOfWords 35 = .ok (.istore 5, 2) := by decide +kernel
theorem dX10_codesOfWords_37 : decode cX10_codesOfWords 37 = .ok (.iload 5, 2) := by decide +kernel
theorem dX10_codesOfWords_39 : decode cX10_codesOfWords 39 = .ok (.bipush 32, 2) := by decide +kernel
theorem dX10_codesOfWords_41 : decode cX10_codesOfWords 41 = .ok (.if_icmp .ne 15, 3) := by decide +kernel
theorem dX10_codesOfWords_44 : decode cX10_codesOfWords 44 = .ok (.aload_n 0, 1) := by decide +kernel
theorem dX10_codesOfWords_45 : decode cX10_codesOfWords 45 = .ok (.iload_n 3, 1) := by decide +kernel
theorem dX10_codesOfWords_46 : decode cX10_codesOfWords 46 = .ok (.lload_n 1, 1) := by decide +kernel
theorem dX10_codesOfWords_47 : decode cX10_codesOfWords 47 = .ok (.lastore, 1) := by decide +kernel
theorem dX10_codesOfWords_48 : decode cX10_codesOfWords 48 = .ok (.iinc 3 1, 3) := by decide +kernel
theorem dX10_codesOfWords_51 : decode cX10_codesOfWords 51 = .ok (.lconst 0, 1) := by decide +kernel
theorem dX10_codesOfWords_52 : decode cX10_codesOfWords 52 = .ok (.lstore_n 1, 1) := by decide +kernel
theorem dX10_codesOfWords_53 : decode cX10_codesOfWords 53 = .ok (.goto 18, 3) := by decide +kernel
theorem dX10_codesOfWords_56 : decode cX10_codesOfWords 56 = .ok (.lload_n 1, 1) := by decide +kernel
theorem dX10_codesOfWords_57 : decode cX10_codesOfWords 57 = .ok (.ldc2_w 67, 3) := by decide +kernel
theorem dX10_codesOfWords_60 : decode cX10_codesOfWords 60 = .ok (.lmul, 1) := by decide +kernel
theorem dX10_codesOfWords_61 : decode cX10_codesOfWords 61 = .ok (.iload 5, 2) := by decide +kernel
theorem dX10_codesOfWords_63 : decode cX10_codesOfWords 63 = .ok (.bipush 97, 2) := by decide +kernel
theorem dX10_codesOfWords_65 : decode cX10_codesOfWords 65 = .ok (.isub, 1) := by decide +kernel
theorem dX10_codesOfWords_66 : decode cX10_codesOfWords 66 = .ok (.iconst 1, 1) := by decide +kernel
theorem dX10_codesOfWords_67 : decode cX10_codesOfWords 67 = .ok (.iadd, 1) := by decide +kernel
theorem dX10_codesOfWords_68 : decode cX10_codesOfWords 68 = .ok (.i2l, 1) := by decide +kernel
theorem dX10_codesOfWords_69 : decode cX10_codesOfWords 69 = .ok (.ladd, 1) := by decide +kernel
theorem dX10_codesOfWords_70 : decode cX10_codesOfWords 70 = .ok (.lstore_n 1, 1) := by decide +kernel
theorem dX10_codesOfWords_71 : decode cX10_codesOfWords 71 = .ok (.iinc 4 1, 3) := by decide +kernel
theorem dX10_codesOfWords_74 : decode cX10_codesOfWords 74 = .ok (.goto (-62), 3) := by decide +kernel
theorem dX10_codesOfWords_77 : decode cX10_codesOfWords 77 = .ok (.aload_n 0, 1) := by decide +kernel
theorem dX10_codesOfWords_78 : decode cX10_codesOfWords 78 = .ok (.areturn, 1) := by decide +kernel
theorem dX10_addNumber_0 : decode cX10_addNumber 0 = .ok (.bipush 24, 2) := by decide +kernel
theorem dX10_addNumber_2 : decode cX10_addNumber 2 = .ok (.istore_n 2, 1) := by decide +kernel
theorem dX10_addNumber_3 : decode cX10_addNumber 3 = .ok (.iload_n 2, 1) := by decide +kernel
theorem dX10_addNumber_4 : decode cX10_addNumber 4 = .ok (.ifCond .lt 47, 3) := by decide +kernel
theorem dX10_addNumber_7 : decode cX10_addNumber 7 = .ok (.aload_n 0, 1) := by decide +kernel
theorem dX10_addNumber_8 : decode cX10_addNumber 8 = .ok (.getfield 15, 3) := by decide +kernel
theorem dX10_addNumber_11 : decode cX10_addNumber 11 = .ok (.aload_n 0, 1) := by decide +kernel
theorem dX10_addNumber_12 : decode cX10_addNumber 12 = .ok (.getfield 9, 3) := by decide +kernel
theorem dX10_addNumber_15 : decode cX10_addNumber 15 = .ok (.arraylength, 1) := by decide +kernel
theorem dX10_addNumber_16 : decode cX10_addNumber 16 = .ok (.if_icmp .ge 29, 3) := by decide +kernel
theorem dX10_addNumber_19 : decode cX10_addNumber 19 = .ok (.aload_n 0, 1) := by decide +kernel
theorem dX10_addNumber_20 : decode cX10_addNumber 20 = .ok (.getfield 9, 3) := by decide +kernel
theorem dX10_addNumber_23 : decode cX10_addNumber 23 = .ok (.aload_n 0, 1) := by decide +kernel
theorem dX10_addNumber_24 : decode cX10_addNumber 24 = .ok (.getfield 15, 3) := by decide +kernel
theorem dX10_addNumber_27 : decode cX10_addNumber 27 = .ok (.iload_n 1, 1) := by decide +kernel
theorem dX10_addNumber_28 : decode cX10_addNumber 28 = .ok (.iload_n 2, 1) := by decide +kernel
theorem dX10_addNumber_29 : decode cX10_addNumber 29 = .ok (.iushr, 1) := by decide +kernel
theorem dX10_addNumber_30 : decode cX10_addNumber 30 = .ok (.sipush 255, 3) := by decide +kernel
theorem dX10_addNumber_33 : decode cX10_addNumber 33 = .ok (.iand, 1) := by decide +kernel
theorem dX10_addNumber_34 : decode cX10_addNumber 34 = .ok (.iastore, 1) := by decide +kernel
theorem dX10_addNumber_35 : decode cX10_addNumber 35 = .ok (.aload_n 0, 1) := by decide +kernel
theorem dX10_addNumber_36 : decode cX10_addNumber 36 = .ok (.dup, 1) := by decide +kernel
theorem dX10_addNumber_37 : decode cX10_addNumber 37 = .ok (.getfield 15, 3) := by decide +kernel
theorem dX10_addNumber_40 : decode cX10_addNumber 40 = .ok (.iconst 1, 1) := by decide +kernel
theorem dX10_addNumber_41 : decode cX10_addNumber 41 = .ok (.iadd, 1) := by decide +kernel
theorem dX10_addNumber_42 : decode cX10_addNumber 42 = .ok (.putfield 15, 3) := by decide +kernel
theorem dX10_addNumber_45 : decode cX10_addNumber 45 = .ok (.iinc 2 (-8), 3) := by decide +kernel
theorem dX10_addNumber_48 : decode cX10_addNumber 48 = .ok (.goto (-45), 3) := by decide +kernel
theorem dX10_addNumber_51 : decode cX10_addNumber 51 = .ok (.return_, 1) := by decide +kernel
theorem dX10_begin_0 : decode cX10_begin 0 = .ok (.aload_n 0, 1) := by decide +kernel
theorem dX10_begin_1 : decode cX10_begin 1 = .ok (.iload_n 1, 1) := by decide +kernel
theorem dX10_begin_2 : decode cX10_begin 2 = .ok (.putfield 19, 3) := by decide +kernel
theorem dX10_begin_5 : decode cX10_begin 5 = .ok (.aload_n 0, 1) := by decide +kernel
theorem dX10_begin_6 : decode cX10_begin 6 = .ok (.iconst 0, 1) := by decide +kernel
theorem dX10_begin_7 : decode cX10_begin 7 = .ok (.putfield 22, 3) := by decide +kernel
theorem dX10_begin_10 : decode cX10_begin 10 = .ok (.aload_n 0, 1) := by decide +kernel
theorem dX10_begin_11 : decode cX10_begin 11 = .ok (.iconst 0, 1) := by decide +kernel
theorem dX10_begin_12 : decode cX10_begin 12 = .ok (.putfield 41, 3) := by decide +kernel
theorem dX10_begin_15 : decode cX10_begin 15 = .ok (.aload_n 0, 1) := by decide +kernel
theorem dX10_begin_16 : decode cX10_begin 16 = .ok (.iconst 0, 1) := by decide +kernel
theorem dX10_begin_17 : decode cX10_begin 17 = .ok (.putfield 44, 3) := by decide +kernel
theorem dX10_begin_20 : decode cX10_begin 20 = .ok (.return_, 1) := by decide +kernel
theorem dX10_next_0 : decode cX10_next 0 = .ok (.aload_n 0, 1) := by decide +kernel
theorem dX10_next_1 : decode cX10_next 1 = .ok (.iconst (-1), 1) := by decide +kernel
theorem dX10_next_2 : decode cX10_next 2 = .ok (.putfield 38, 3) := by decide +kernel
theorem dX10_next_5 : decode cX10_next 5 = .ok (.aload_n 0, 1) := by decide +kernel
theorem dX10_next_6 : decode cX10_next 6 = .ok (.getfield 22, 3) := by decide +kernel
theorem dX10_next_9 : decode cX10_next 9 = .ok (.aload_n 0, 1) := by decide +kernel
theorem dX10_next_10 : decode cX10_next 10 = .ok (.getfield 15, 3) := by decide +kernel
theorem dX10_next_13 : decode cX10_next 13 = .ok (.if_icmp .ge 31, 3) := by decide +kernel
theorem dX10_next_16 : decode cX10_next 16 = .ok (.aload_n 0, 1) := by decide +kernel
theorem dX10_next_17 : decode cX10_next 17 = .ok (.getfield 9, 3) := by decide +kernel
theorem dX10_next_20 : decode cX10_next 20 = .ok (.aload_n 0, 1) := by decide +kernel
theorem dX10_next_21 : decode cX10_next 21 = .ok (.getfield 22, 3) := by decide +kernel
theorem dX10_next_24 : decode cX10_next 24 = .ok (.iaload, 1) := by decide +kernel
theorem dX10_next_25 : decode cX10_next 25 = .ok (.invokestatic 69, 3) := by decide +kernel
theorem dX10_next_28 : decode cX10_next 28 = .ok (.ifCond .eq 16, 3) := by decide +kernel
theorem dX10_next_31 : decode cX10_next 31 = .ok (.aload_n 0, 1) := by decide +kernel
theorem dX10_next_32 : decode cX10_next 32 = .ok (.dup, 1) := by decide +kernel
theorem dX10_next_33 : decode cX10_next 33 = .ok (.getfield 22, 3) := by decide +kernel
theorem dX10_next_36 : decode cX10_next 36 = .ok (.iconst 1, 1) := by decide +kernel
theorem dX10_next_37 : decode cX10_next 37 = .ok (.iadd, 1) := by decide +kernel
theorem dX10_next_38 : decode cX10_next 38 = .ok (.putfield 22, 3) := by decide +kernel
theorem dX10_next_41 : decode cX10_next 41 = .ok (.goto (-36), 3) := by decide +kernel
theorem dX10_next_44 : decode cX10_next 44 = .ok (.aload_n 0, 1) := by decide +kernel
theorem dX10_next_45 : decode cX10_next 45 = .ok (.getfield 22, 3) := by decide +kernel
theorem dX10_next_48 : decode cX10_next 48 = .ok (.aload_n 0, 1) := by decide +kernel
theorem dX10_next_49 : decode cX10_next 49 = .ok (.getfield 15, 3) := by decide +kernel
theorem dX10_next_52 : decode cX10_next 52 = .ok (.if_icmp .ge 14, 3) := by decide +kernel
theorem dX10_next_55 : decode cX10_next 55 = .ok (.aload_n 0, 1) := by decide +kernel
theorem dX10_next_56 : decode cX10_next 56 = .ok (.getfield 22, 3) := by decide +kernel
theorem dX10_next_59 : decode cX10_next 59 = .ok (.aload_n 0, 1) := by decide +kernel
theorem dX10_next_60 : decode cX10_next 60 = .ok (.getfield 19, 3) := by decide +kernel
theorem dX10_next_63 : decode cX10_next 63 = .ok (.if_icmp .lt 39, 3) := by decide +kernel
theorem dX10_next_66 : decode cX10_next 66 = .ok (.aload_n 0, 1) := by decide +kernel
theorem dX10_next_67 : decode cX10_next 67 = .ok (.aload_n 0, 1) := by decide +kernel
theorem dX10_next_68 : decode cX10_next 68 = .ok (.getfield 15, 3) := by decide +kernel
theorem dX10_next_71 : decode cX10_next 71 = .ok (.aload_n 0, 1) := by decide +kernel
theorem dX10_next_72 : decode cX10_next 72 = .ok (.getfield 19, 3) := by decide +kernel
theorem dX10_next_75 : decode cX10_next 75 = .ok (.if_icmp .le 7, 3) := by decide +kernel
theorem dX10_next_78 : decode cX10_next 78 = .ok (.iconst 4, 1) := by decide +kernel
theorem dX10_next_79 : decode cX10_next 79 = .ok (.goto 4, 3) := by decide +kernel
theorem dX10_next_82 : decode cX10_next 82 = .ok (.iconst 0, 1) := by decide +kernel
theorem dX10_next_83 : decode cX10_next 83 = .ok (.putfield 25, 3) := by decide +kernel
theorem dX10_next_86 : decode cX10_next 86 = .ok (.aload_n 0, 1) := by decide +kernel
theorem dX10_next_87 : decode cX10_next 87 = .ok (.aload_n 0, 1) := by decide +kernel
theorem dX10_next_88 : decode cX10_next 88 = .ok (.getfield 15, 3) := by decide +kernel
theorem dX10_next_91 : decode cX10_next 91 = .ok (.aload_n 0, 1) := by decide +kernel
theorem dX10_next_92 : decode cX10_next 92 = .ok (.getfield 19, 3) := by decide +kernel
theorem dX10_next_95 : decode cX10_next 95 = .ok (.invokestatic 73, 3) := by decide +kernel
theorem dX10_next_98 : decode cX10_next 98 = .ok (.putfield 28, 3) := by decide +kernel
theorem dX10_next_101 : decode cX10_next 101 = .ok (.return_, 1) := by decide +kernel
theorem dX10_next_102 : decode cX10_next 102 = .ok (.aload_n 0, 1) := by decide +kernel
theorem dX10_next_103 : decode cX10_next 103 = .ok (.aload_n 0, 1) := by decide +kernel
theorem dX10_next_104 : decode cX10_next 104 = .ok (.getfield 22, 3) := by decide +kernel
theorem dX10_next_107 : decode cX10_next 107 = .ok (.putfield 28, 3) := by decide +kernel
theorem dX10_next_110 : decode cX10_next 110 = .ok (.aload_n 0, 1) := by decide +kernel
theorem dX10_next_111 : decode cX10_next 111 = .ok (.getfield 9, 3) := by decide +kernel
theorem dX10_next_114 : decode cX10_next 114 = .ok (.aload_n 0, 1) := by decide +kernel
theorem dX10_next_115 : decode cX10_next 115 = .ok (.getfield 22, 3) := by decide +kernel
theorem dX10_next_118 : decode cX10_next 118 = .ok (.iaload, 1) := by decide +kernel
theorem dX10_next_119 : decode cX10_next 119 = .ok (.invokestatic 79, 3) := by decide +kernel
theorem dX10_next_122 : decode cX10_next 122 = .ok (.ifCond .ne 18, 3) := by decide +kernel
theorem dX10_next_125 : decode cX10_next 125 = .ok (.aload_n 0, 1) := by decide +kernel
theorem dX10_next_126 : decode cX10_next 126 = .ok (.getfield 9, 3) := by decide +kernel
theorem dX10_next_129 : decode cX10_next 129 = .ok (.aload_n 0, 1) := by decide +kernel
theorem dX10_next_130 : decode cX10_next 130 = .ok (.getfield 22, 3) := by decide +kernel
theorem dX10_next_133 : decode cX10_next 133 = .ok (.iaload, 1) := by decide +kernel
theorem dX10_next_134 : decode cX10_next 134 = .ok (.invokestatic 82, 3) := by decide +kernel
theorem dX10_next_137 : decode cX10_next 137 = .ok (.ifCond .eq 10, 3) := by decide +kernel
theorem dX10_next_140 : decode cX10_next 140 = .ok (.aload_n 0, 1) := by decide +kernel
theorem dX10_next_141 : decode cX10_next 141 = .ok (.invokevirtual 85, 3) := by decide +kernel
theorem dX10_next_144 : decode cX10_next 144 = .ok (.goto 31, 3) := by decide +kernel
theorem dX10_next_147 : decode cX10_next 147 = .ok (.aload_n 0, 1) := by decide +kernel
theorem dX10_next_148 : decode cX10_next 148 = .ok (.iconst 3, 1) := by decide +kernel
theorem dX10_next_149 : decode cX10_next 149 = .ok (.putfield 25, 3) := by decide +kernel
theorem dX10_next_152 : decode cX10_next 152 = .ok (.aload_n 0, 1) := by decide +kernel
theorem dX10_next_153 : decode cX10_next 153 = .ok (.aload_n 0, 1) := by decide +kernel
theorem dX10_next_154 : decode cX10_next 154 = .ok (.getfield 9, 3) := by decide +kernel
theorem dX10_next_157 : decode cX10_next 157 = .ok (.aload_n 0, 1) := by decide +kernel
theorem dX10_next_158 : decode cX10_next 158 = .ok (.getfield 22, 3) := by decide +kernel
theorem dX10_next_161 : decode cX10_next 161 = .ok (.iaload, 1) := by decide +kernel
theorem dX10_next_162 : decode cX10_next 162 = .ok (.putfield 31, 3) := by decide +kernel
theorem dX10_next_165 : decode cX10_next 165 = .ok (.aload_n 0, 1) := by decide +kernel
theorem dX10_next_166 : decode cX10_next 166 = .ok (.dup, 1) := by decide +kernel
theorem dX10_next_167 : decode cX10_next 167 = .ok (.getfield 22, 3) := by decide +kernel
theorem dX10_next_170 : decode cX10_next 170 = .ok (.iconst 1, 1) := by decide +kernel
theorem dX10_next_171 : decode cX10_next 171 = .ok (.iadd, 1) := by decide +kernel
theorem dX10_next_172 : decode cX10_next 172 = .ok (.putfield 22, 3) := by decide +kernel
theorem dX10_next_175 : decode cX10_next 175 = .ok (.return_, 1) := by decide +kernel
theorem dX10_readRun_0 : decode cX10_readRun 0 = .ok (.iconst 0, 1) := by decide +kernel
theorem dX10_readRun_1 : decode cX10_readRun 1 = .ok (.istore_n 1, 1) := by decide +kernel
theorem dX10_readRun_2 : decode cX10_readRun 2 = .ok (.iconst 0, 1) := by decide +kernel
theorem dX10_readRun_3 : decode cX10_readRun 3 = .ok (.istore_n 2, 1) := by decide +kernel
theorem dX10_readRun_4 : decode cX10_readRun 4 = .ok (.aload_n 0, 1) := by decide +kernel
theorem dX10_readRun_5 : decode cX10_readRun 5 = .ok (.lconst 0, 1) := by decide +kernel
theorem dX10_readRun_6 : decode cX10_readRun 6 = .ok (.putfield 34, 3) := by decide +kernel
theorem dX10_readRun_9 : decode cX10_readRun 9 = .ok (.aload_n 0, 1) := by decide +kernel
theorem dX10_readRun_10 : decode cX10_readRun 10 = .ok (.iconst 0, 1) := by decide +kernel
theorem dX10_readRun_11 : decode cX10_readRun 11 = .ok (.putfield 31, 3) := by decide +kernel
theorem dX10_readRun_14 : decode cX10_readRun 14 = .ok (.aload_n 0, 1) := by decide +kernel
theorem dX10_readRun_15 : decode cX10_readRun 15 = .ok (.getfield 22, 3) := by decide +kernel
theorem dX10_readRun_18 : decode cX10_readRun 18 = .ok (.aload_n 0, 1) := by decide +kernel
theorem dX10_readRun_19 : decode cX10_readRun 19 = .ok (.getfield 15, 3) := by decide +kernel
theorem dX10_readRun_22 : decode cX10_readRun 22 = .ok (.if_icmp .ge 122, 3) := by decide +kernel
theorem dX10_readRun_25 : decode cX10_readRun 25 = .ok (.aload_n 0, 1) := by decide +kernel
theorem dX10_readRun_26 : decode cX10_readRun 26 = .ok (.getfield 9, 3) := by decide +kernel
theorem dX10_readRun_29 : decode cX10_readRun 29 = .ok (.aload_n 0, 1) := by decide +kernel
theorem dX10_readRun_30 : decode cX10_readRun 30 = .ok (.getfield 22, 3) := by decide +kernel
theorem dX10_readRun_33 : decode cX10_readRun 33 = .ok (.iaload, 1) := by decide +kernel
theorem dX10_readRun_34 : decode cX10_readRun 34 = .ok (.invokestatic 79, 3) := by decide +kernel
theorem dX10_readRun_37 : decode cX10_readRun 37 = .ok (.ifCond .ne 18, 3) := by decide +kernel
theorem dX10_readRun_40 : decode cX10_readRun 40 = .ok (.aload_n 0, 1) := by decide +kernel
theorem dX10_readRun_41 : decode cX10_readRun 41 = .ok (.getfield 9, 3) := by decide +kernel
theorem dX10_readRun_44 : decode cX10_readRun 44 = .ok (.aload_n 0, 1) := by decide +kernel
theorem dX10_readRun_45 : decode cX10_readRun 45 = .ok (.getfield 22, 3) := by decide +kernel
theorem dX10_readRun_48 : decode cX10_readRun 48 = .ok (.iaload, 1) := by decide +kernel
theorem dX10_readRun_49 : decode cX10_readRun 49 = .ok (.invokestatic 82, 3) := by decide +kernel
theorem dX10_readRun_52 : decode cX10_readRun 52 = .ok (.ifCond .eq 92, 3) := by decide +kernel
theorem dX10_readRun_55 : decode cX10_readRun 55 = .ok (.aload_n 0, 1) := by decide +kernel
theorem dX10_readRun_56 : decode cX10_readRun 56 = .ok (.getfield 9, 3) := by decide +kernel
theorem dX10_readRun_59 : decode cX10_readRun 59 = .ok (.aload_n 0, 1) := by decide +kernel
theorem dX10_readRun_60 : decode cX10_readRun 60 = .ok (.getfield 22, 3) := by decide +kernel
theorem dX10_readRun_63 : decode cX10_readRun 63 = .ok (.iaload, 1) := by decide +kernel
theorem dX10_readRun_64 : decode cX10_readRun 64 = .ok (.invokestatic 79, 3) := by decide +kernel
theorem dX10_readRun_67 : decode cX10_readRun 67 = .ok (.ifCond .eq 37, 3) := by decide +kernel
theorem dX10_readRun_70 : decode cX10_readRun 70 = .ok (.iinc 1 1, 3) := by decide +kernel
theorem dX10_readRun_73 : decode cX10_readRun 73 = .ok (.aload_n 0, 1) := by decide +kernel
theorem dX10_readRun_74 : decode cX10_readRun 74 = .ok (.aload_n 0, 1) := by decide +kernel
theorem dX10_readRun_75 : decode cX10_readRun 75 = .ok (.getfield 34, 3) := by decide +kernel
theorem dX10_readRun_78 : decode cX10_readRun 78 = .ok (.ldc2_w 67, 3) := by decide +kernel
theorem dX10_readRun_81 : decode cX10_readRun 81 = .ok (.lmul, 1) := by decide +kernel
theorem dX10_readRun_82 : decode cX10_readRun 82 = .ok (.aload_n 0, 1) := by decide +kernel
theorem dX10_readRun_83 : decode cX10_readRun 83 = .ok (.getfield 9, 3) := by decide +kernel
theorem dX10_readRun_86 : decode cX10_readRun 86 = .ok (.aload_n 0, 1) := by decide +kernel
theorem dX10_readRun_87 : decode cX10_readRun 87 = .ok (.getfield 22, 3) := by decide +kernel
theorem dX10_readRun_90 : decode cX10_readRun 90 = .ok (.iaload, 1) := by decide +kernel
theorem dX10_readRun_91 : decode cX10_readRun 91 = .ok (.bipush 97, 2) := by decide +kernel
theorem dX10_readRun_93 : decode cX10_readRun 93 = .ok (.isub, 1) := by decide +kernel
theorem dX10_readRun_94 : decode cX10_readRun 94 = .ok (.iconst 1, 1) := by decide +kernel
theorem dX10_readRun_95 : decode cX10_readRun 95 = .ok (.iadd, 1) := by decide +kernel
theorem dX10_readRun_96 : decode cX10_readRun 96 = .ok (.i2l, 1) := by decide +kernel
theorem dX10_readRun_97 : decode cX10_readRun 97 = .ok (.ladd, 1) := by decide +kernel
theorem dX10_readRun_98 : decode cX10_readRun 98 = .ok (.putfield 34, 3) := by decide +kernel
theorem dX10_readRun_101 : decode cX10_readRun 101 = .ok (.goto 30, 3) := by decide +kernel
theorem dX10_readRun_104 : decode cX10_readRun 104 = .ok (.iinc 2 1, 3) := by decide +kernel
theorem dX10_readRun_107 : decode cX10_readRun 107 = .ok (.aload_n 0, 1) := by decide +kernel
theorem dX10_readRun_108 : decode cX10_readRun 108 = .ok (.aload_n 0, 1) := by decide +kernel
theorem dX10_readRun_109 : decode cX10_readRun 109 = .ok (.getfield 31, 3) := by decide +kernel
theorem dX10_readRun_112 : decode cX10_readRun 112 = .ok (.bipush 10, 2) := by decide +kernel
theorem dX10_readRun_114 : decode cX10_readRun 114 = .ok (.imul, 1) := by decide +kernel
theorem dX10_readRun_115 : decode cX10_readRun 115 = .ok (.aload_n 0, 1) := by decide +kernel
theorem dX10_readRun_116 : decode cX10_readRun 116 = .ok (.getfield 9, 3) := by decide +kernel
theorem dX10_readRun_119 : decode cX10_readRun 119 = .ok (.aload_n 0, 1) := by decide +kernel
theorem dX10_readRun_120 : decode cX10_readRun 120 = .ok (.getfield 22, 3) := by decide +kernel
theorem dX10_readRun_123 : decode cX10_readRun 123 = .ok (.iaload, 1) := by decide +kernel
theorem dX10_readRun_124 : decode cX10_readRun 124 = .ok (.bipush 48, 2) := by decide +kernel
theorem dX10_readRun_126 : decode cX10_readRun 126 = .ok (.isub, 1) := by decide +kernel
theorem dX10_readRun_127 : decode cX10_readRun 127 = .ok (.iadd, 1) := by decide +kernel
theorem dX10_readRun_128 : decode cX10_readRun 128 = .ok (.putfield 31, 3) := by decide +kernel
theorem dX10_readRun_131 : decode cX10_readRun 131 = .ok (.aload_n 0, 1) := by decide +kernel
theorem dX10_readRun_132 : decode cX10_readRun 132 = .ok (.dup, 1) := by decide +kernel
theorem dX10_readRun_133 : decode cX10_readRun 133 = .ok (.getfield 22, 3) := by decide +kernel
theorem dX10_readRun_136 : decode cX10_readRun 136 = .ok (.iconst 1, 1) := by decide +kernel
theorem dX10_readRun_137 : decode cX10_readRun 137 = .ok (.iadd, 1) := by decide +kernel
theorem dX10_readRun_138 : decode cX10_readRun 138 = .ok (.putfield 22, 3) := by decide +kernel
theorem dX10_readRun_141 : decode cX10_readRun 141 = .ok (.goto (-127), 3) := by decide +kernel
theorem dX10_readRun_144 : decode cX10_readRun 144 = .ok (.iload_n 2, 1) := by decide +kernel
theorem dX10_readRun_145 : decode cX10_readRun 145 = .ok (.ifCond .ne 17, 3) := by decide +kernel
theorem dX10_readRun_148 : decode cX10_readRun 148 = .ok (.iload_n 1, 1) := by decide +kernel
theorem dX10_readRun_149 : decode cX10_readRun 149 = .ok (.bipush 7, 2) := by decide +kernel
theorem dX10_readRun_151 : decode cX10_readRun 151 = .ok (.if_icmp .gt 11, 3) := by decide +kernel
theorem dX10_readRun_154 : decode cX10_readRun 154 = .ok (.aload_n 0, 1) := by decide +kernel
theorem dX10_readRun_155 : decode cX10_readRun 155 = .ok (.iconst 1, 1) := by decide +kernel
theorem dX10_readRun_156 : decode cX10_readRun 156 = .ok (.putfield 25, 3) := by decide +kernel
theorem dX10_readRun_159 : decode cX10_readRun 159 = .ok (.goto 21, 3) := by decide +kernel
theorem dX10_readRun_162 : decode cX10_readRun 162 = .ok (.aload_n 0, 1) := by decide +kernel
theorem dX10_readRun_163 : decode cX10_readRun 163 = .ok (.iload_n 1, 1) := by decide +kernel
theorem dX10_readRun_164 : decode cX10_readRun 164 = .ok (.ifCond .ne 12, 3) := by decide +kernel
theorem dX10_readRun_167 : decode cX10_readRun 167 = .ok (.iload_n 2, 1) := by decide +kernel
theorem dX10_readRun_168 : decode cX10_readRun 168 = .ok (.iconst 3, 1) := by decide +kernel
theorem dX10_readRun_169 : decode cX10_readRun 169 = .ok (.if_icmp .gt 7, 3) := by decide +kernel
theorem dX10_readRun_172 : decode cX10_readRun 172 = .ok (.iconst 2, 1) := by decide +kernel
theorem dX10_readRun_173 : decode cX10_readRun 173 = .ok (.goto 4, 3) := by decide +kernel
theorem dX10_readRun_176 : decode cX10_readRun 176 = .ok (.iconst 4, 1) := by decide +kernel
theorem dX10_readRun_177 : decode cX10_readRun 177 = .ok (.putfield 25, 3) := by decide +kernel
theorem dX10_readRun_180 : decode cX10_readRun 180 = .ok (.iconst 0, 1) := by decide +kernel
theorem dX10_readRun_181 : decode cX10_readRun 181 = .ok (.istore_n 3, 1) := by decide +kernel
theorem dX10_readRun_182 : decode cX10_readRun 182 = .ok (.iload_n 3, 1) := by decide +kernel
theorem dX10_readRun_183 : decode cX10_readRun 183 = .ok (.aload_n 0, 1) := by decide +kernel
theorem dX10_readRun_184 : decode cX10_readRun 184 = .ok (.getfield 51, 3) := by decide +kernel
theorem dX10_readRun_187 : decode cX10_readRun 187 = .ok (.arraylength, 1) := by decide +kernel
theorem dX10_readRun_188 : decode cX10_readRun 188 = .ok (.if_icmp .ge 36, 3) := by decide +kernel
theorem dX10_readRun_191 : decode cX10_readRun 191 = .ok (.aload_n 0, 1) := by decide +kernel
theorem dX10_readRun_192 : decode cX10_readRun 192 = .ok (.getfield 25, 3) := by decide +kernel
theorem dX10_readRun_195 : decode cX10_readRun 195 = .ok (.iconst 1, 1) := by decide +kernel
theorem dX10_readRun_196 : decode cX10_readRun 196 = .ok (.if_icmp .ne 28, 3) := by decide +kernel
theorem dX10_readRun_199 : decode cX10_readRun 199 = .ok (.aload_n 0, 1) := by decide +kernel
theorem dX10_readRun_200 : decode cX10_readRun 200 = .ok (.getfield 51, 3) := by decide +kernel
theorem dX10_readRun_203 : decode cX10_readRun 203 = .ok (.iload_n 3, 1) := by decide +kernel
theorem dX10_readRun_204 : decode cX10_readRun 204 = .ok (.laload, 1) := by decide +kernel
theorem dX10_readRun_205 : decode cX10_readRun 205 = .ok (.aload_n 0, 1) := by decide +kernel
theorem dX10_readRun_206 : decode cX10_readRun 206 = .ok (.getfield 34, 3) := by decide +kernel
theorem dX10_readRun_209 : decode cX10_readRun 209 = .ok (.lcmp, 1) := by decide +kernel
theorem dX10_readRun_210 : decode cX10_readRun 210 = .ok (.ifCond .ne 8, 3) := by decide +kernel
theorem dX10_readRun_213 : decode cX10_readRun 213 = .ok (.aload_n 0, 1) := by decide +kernel
theorem dX10_readRun_214 : decode cX10_readRun 214 = .ok (.iload_n 3, 1) := by decide +kernel
theorem dX10_readRun_215 : decode cX10_readRun 215 = .ok (.putfield 38, 3) := by decide +kernel
theorem dX10_readRun_218 : decode cX10_readRun 218 = .ok (.iinc 3 1, 3) := by decide +kernel
theorem dX10_readRun_221 : decode cX10_readRun 221 = .ok (.goto (-39), 3) := by decide +kernel
theorem dX10_readRun_224 : decode cX10_readRun 224 = .ok (.return_, 1) := by decide +kernel
theorem dX10_isBlank_0 : decode cX10_isBlank 0 = .ok (.iload_n 0, 1) := by decide +kernel
theorem dX10_isBlank_1 : decode cX10_isBlank 1 = .ok (.bipush 32, 2) := by decide +kernel
theorem dX10_isBlank_3 : decode cX10_isBlank 3 = .ok (.if_icmp .eq 9, 3) := by decide +kernel
theorem dX10_isBlank_6 : decode cX10_isBlank 6 = .ok (.iload_n 0, 1) := by decide +kernel
theorem dX10_isBlank_7 : decode cX10_isBlank 7 = .ok (.bipush 10, 2) := by decide +kernel
theorem dX10_isBlank_9 : decode cX10_isBlank 9 = .ok (.if_icmp .ne 7, 3) := by decide +kernel
theorem dX10_isBlank_12 : decode cX10_isBlank 12 = .ok (.iconst 1, 1) := by decide +kernel
theorem dX10_isBlank_13 : decode cX10_isBlank 13 = .ok (.goto 4, 3) := by decide +kernel
theorem dX10_isBlank_16 : decode cX10_isBlank 16 = .ok (.iconst 0, 1) := by decide +kernel
theorem dX10_isBlank_17 : decode cX10_isBlank 17 = .ok (.ireturn, 1) := by decide +kernel
theorem dX10_isLetter_0 : decode cX10_isLetter 0 = .ok (.iload_n 0, 1) := by decide +kernel
theorem dX10_isLetter_1 : decode cX10_isLetter 1 = .ok (.bipush 97, 2) := by decide +kernel
theorem dX10_isLetter_3 : decode cX10_isLetter 3 = .ok (.if_icmp .lt 13, 3) := by decide +kernel
theorem dX10_isLetter_6 : decode cX10_isLetter 6 = .ok (.iload_n 0, 1) := by decide +kernel
theorem dX10_isLetter_7 : decode cX10_isLetter 7 = .ok (.bipush 122, 2) := by decide +kernel
theorem dX10_isLetter_9 : decode cX10_isLetter 9 = .ok (.if_icmp .gt 7, 3) := by decide +kernel
theorem dX10_isLetter_12 : decode cX10_isLetter 12 = .ok (.iconst 1, 1) := by decide +kernel
theorem dX10_isLetter_13 : decode cX10_isLetter 13 = .ok (.goto 4, 3) := by decide +kernel
theorem dX10_isLetter_16 : decode cX10_isLetter 16 = .ok (.iconst 0, 1) := by decide +kernel
theorem dX10_isLetter_17 : decode cX10_isLetter 17 = .ok (.ireturn, 1) := by decide +kernel
theorem dX10_isDigit_0 : decode cX10_isDigit 0 = .ok (.iload_n 0, 1) := by decide +kernel
theorem dX10_isDigit_1 : decode cX10_isDigit 1 = .ok (.bipush 48, 2) := by decide +kernel
theorem dX10_isDigit_3 : decode cX10_isDigit 3 = .ok (.if_icmp .lt 13, 3) := by decide +kernel
theorem dX10_isDigit_6 : decode cX10_isDigit 6 = .ok (.iload_n 0, 1) := by decide +kernel
theorem dX10_isDigit_7 : decode cX10_isDigit 7 = .ok (.bipush 57, 2) := by decide +kernel
theorem dX10_isDigit_9 : decode cX10_isDigit 9 = .ok (.if_icmp .gt 7, 3) := by decide +kernel
theorem dX10_isDigit_12 : decode cX10_isDigit 12 = .ok (.iconst 1, 1) := by decide +kernel
theorem dX10_isDigit_13 : decode cX10_isDigit 13 = .ok (.goto 4, 3) := by decide +kernel
theorem dX10_isDigit_16 : decode cX10_isDigit 16 = .ok (.iconst 0, 1) := by decide +kernel
theorem dX10_isDigit_17 : decode cX10_isDigit 17 = .ok (.ireturn, 1) := by decide +kernel
theorem dX10_wrong_0 : decode cX10_wrong 0 = .ok (.aload_n 0, 1) := by decide +kernel
theorem dX10_wrong_1 : decode cX10_wrong 1 = .ok (.iload_n 1, 1) := by decide +kernel
theorem dX10_wrong_2 : decode cX10_wrong 2 = .ok (.putfield 41, 3) := by decide +kernel
theorem dX10_wrong_5 : decode cX10_wrong 5 = .ok (.aload_n 0, 1) := by decide +kernel
theorem dX10_wrong_6 : decode cX10_wrong 6 = .ok (.aload_n 0, 1) := by decide +kernel
theorem dX10_wrong_7 : decode cX10_wrong 7 = .ok (.getfield 28, 3) := by decide +kernel
theorem dX10_wrong_10 : decode cX10_wrong 10 = .ok (.putfield 44, 3) := by decide +kernel
theorem dX10_wrong_13 : decode cX10_wrong 13 = .ok (.iconst 0, 1) := by decide +kernel
theorem dX10_wrong_14 : decode cX10_wrong 14 = .ok (.ireturn, 1) := by decide +kernel
theorem dX10_isSign_0 : decode cX10_isSign 0 = .ok (.aload_n 0, 1) := by decide +kernel
theorem dX10_isSign_1 : decode cX10_isSign 1 = .ok (.getfield 25, 3) := by decide +kernel
theorem dX10_isSign_4 : decode cX10_isSign 4 = .ok (.iconst 3, 1) := by decide +kernel
theorem dX10_isSign_5 : decode cX10_isSign 5 = .ok (.if_icmp .ne 15, 3) := by decide +kernel
theorem dX10_isSign_8 : decode cX10_isSign 8 = .ok (.aload_n 0, 1) := by decide +kernel
theorem dX10_isSign_9 : decode cX10_isSign 9 = .ok (.getfield 31, 3) := by decide +kernel
theorem dX10_isSign_12 : decode cX10_isSign 12 = .ok (.iload_n 1, 1) := by decide +kernel
theorem dX10_isSign_13 : decode cX10_isSign 13 = .ok (.if_icmp .ne 7, 3) := by decide +kernel
theorem dX10_isSign_16 : decode cX10_isSign 16 = .ok (.iconst 1, 1) := by decide +kernel
theorem dX10_isSign_17 : decode cX10_isSign 17 = .ok (.goto 4, 3) := by decide +kernel
theorem dX10_isSign_20 : decode cX10_isSign 20 = .ok (.iconst 0, 1) := by decide +kernel
theorem dX10_isSign_21 : decode cX10_isSign 21 = .ok (.ireturn, 1) := by decide +kernel
theorem dX10_mustBe_0 : decode cX10_mustBe 0 = .ok (.aload_n 0, 1) := by decide +kernel
theorem dX10_mustBe_1 : decode cX10_mustBe 1 = .ok (.iload_n 1, 1) := by decide +kernel
theorem dX10_mustBe_2 : decode cX10_mustBe 2 = .ok (.invokevirtual 88, 3) := by decide +kernel
theorem dX10_mustBe_5 : decode cX10_mustBe 5 = .ok (.ifCond .ne 11, 3) := by decide +kernel
theorem dX10_mustBe_8 : decode cX10_mustBe 8 = .ok (.aload_n 0, 1) := by decide +kernel
theorem dX10_mustBe_9 : decode cX10_mustBe 9 = .ok (.iconst 1, 1) := by decide +kernel
theorem dX10_mustBe_10 : decode cX10_mustBe 10 = .ok (.invokevirtual 92, 3) := by decide +kernel
theorem dX10_mustBe_13 : decode cX10_mustBe 13 = .ok (.ifCond .eq 7, 3) := by decide +kernel
theorem dX10_mustBe_16 : decode cX10_mustBe 16 = .ok (.iconst 1, 1) := by decide +kernel
theorem dX10_mustBe_17 : decode cX10_mustBe 17 = .ok (.goto 4, 3) := by decide +kernel
theorem dX10_mustBe_20 : decode cX10_mustBe 20 = .ok (.iconst 0, 1) := by decide +kernel
theorem dX10_mustBe_21 : decode cX10_mustBe 21 = .ok (.ireturn, 1) := by decide +kernel
theorem dX10_named_0 : decode cX10_named 0 = .ok (.aload_n 0, 1) := by decide +kernel
theorem dX10_named_1 : decode cX10_named 1 = .ok (.getfield 25, 3) := by decide +kernel
theorem dX10_named_4 : decode cX10_named 4 = .ok (.iconst 1, 1) := by decide +kernel
theorem dX10_named_5 : decode cX10_named 5 = .ok (.if_icmp .ne 11, 3) := by decide +kernel
theorem dX10_named_8 : decode cX10_named 8 = .ok (.aload_n 0, 1) := by decide +kernel
theorem dX10_named_9 : decode cX10_named 9 = .ok (.getfield 38, 3) := by decide +kernel
theorem dX10_named_12 : decode cX10_named 12 = .ok (.iconst (-1), 1) := by decide +kernel
theorem dX10_named_13 : decode cX10_named 13 = .ok (.if_icmp .eq 11, 3) := by decide +kernel
theorem dX10_named_16 : decode cX10_named 16 = .ok (.aload_n 0, 1) := by decide +kernel
theorem dX10_named_17 : decode cX10_named 17 = .ok (.iconst 1, 1) := by decide +kernel
theorem dX10_named_18 : decode cX10_named 18 = .ok (.invokevirtual 92, 3) := by decide +kernel
theorem dX10_named_21 : decode cX10_named 21 = .ok (.pop, 1) := by decide +kernel
theorem dX10_named_22 : decode cX10_named 22 = .ok (.iconst (-1), 1) := by decide +kernel
theorem dX10_named_23 : decode cX10_named 23 = .ok (.ireturn, 1) := by decide +kernel
theorem dX10_named_24 : decode cX10_named 24 = .ok (.aload_n 1, 1) := by decide +kernel
theorem dX10_named_25 : decode cX10_named 25 = .ok (.iload_n 2, 1) := by decide +kernel
theorem dX10_named_26 : decode cX10_named 26 = .ok (.aload_n 0, 1) := by decide +kernel
theorem dX10_named_27 : decode cX10_named 27 = .ok (.getfield 34, 3) := by decide +kernel
theorem dX10_named_30 : decode cX10_named 30 = .ok (.invokevirtual 95, 3) := by decide +kernel
theorem dX10_named_33 : decode cX10_named 33 = .ok (.istore_n 3, 1) := by decide +kernel
theorem dX10_named_34 : decode cX10_named 34 = .ok (.iload_n 3, 1) := by decide +kernel
theorem dX10_named_35 : decode cX10_named 35 = .ok (.iconst (-1), 1) := by decide +kernel
theorem dX10_named_36 : decode cX10_named 36 = .ok (.if_icmp .ne 9, 3) := by decide +kernel
theorem dX10_named_39 : decode cX10_named 39 = .ok (.aload_n 0, 1) := by decide +kernel
theorem dX10_named_40 : decode cX10_named 40 = .ok (.iconst 3, 1) := by decide +kernel
theorem dX10_named_41 : decode cX10_named 41 = .ok (.invokevirtual 92, 3) := by decide +kernel
theorem dX10_named_44 : decode cX10_named 44 = .ok (.pop, 1) := by decide +kernel
theorem dX10_named_45 : decode cX10_named 45 = .ok (.iload_n 3, 1) := by decide +kernel
theorem dX10_named_46 : decode cX10_named 46 = .ok (.ireturn, 1) := by decide +kernel
theorem dX10_nextNamed_0 : decode cX10_nextNamed 0 = .ok (.aload_n 0, 1) := by decide +kernel
theorem dX10_nextNamed_1 : decode cX10_nextNamed 1 = .ok (.invokevirtual 101, 3) := by decide +kernel
theorem dX10_nextNamed_4 : decode cX10_nextNamed 4 = .ok (.aload_n 0, 1) := by decide +kernel
theorem dX10_nextNamed_5 : decode cX10_nextNamed 5 = .ok (.aload_n 1, 1) := by decide +kernel
theorem dX10_nextNamed_6 : decode cX10_nextNamed 6 = .ok (.iload_n 2, 1) := by decide +kernel
theorem dX10_nextNamed_7 : decode cX10_nextNamed 7 = .ok (.invokevirtual 104, 3) := by decide +kernel
theorem dX10_nextNamed_10 : decode cX10_nextNamed 10 = .ok (.ireturn, 1) := by decide +kernel
theorem dX10_nextNewName_0 : decode cX10_nextNewName 0 = .ok (.aload_n 0, 1) := by decide +kernel
theorem dX10_nextNewName_1 : decode cX10_nextNewName 1 = .ok (.invokevirtual 101, 3) := by decide +kernel
theorem dX10_nextNewName_4 : decode cX10_nextNewName 4 = .ok (.aload_n 0, 1) := by decide +kernel
theorem dX10_nextNewName_5 : decode cX10_nextNewName 5 = .ok (.getfield 25, 3) := by decide +kernel
theorem dX10_nextNewName_8 : decode cX10_nextNewName 8 = .ok (.iconst 1, 1) := by decide +kernel
theorem dX10_nextNewName_9 : decode cX10_nextNewName 9 = .ok (.if_icmp .ne 11, 3) := by decide +kernel
theorem dX10_nextNewName_12 : decode cX10_nextNewName 12 = .ok (.aload_n 0, 1) := by decide +kernel
theorem dX10_nextNewName_13 : decode cX10_nextNewName 13 = .ok (.getfield 38, 3) := by decide +kernel
theorem dX10_nextNewName_16 : decode cX10_nextNewName 16 = .ok (.iconst (-1), 1) := by decide +kernel
theorem dX10_nextNewName_17 : decode cX10_nextNewName 17 = .ok (.if_icmp .eq 9, 3) := by decide +kernel
theorem dX10_nextNewName_20 : decode cX10_nextNewName 20 = .ok (.aload_n 0, 1) := by decide +kernel
theorem dX10_nextNewName_21 : decode cX10_nextNewName 21 = .ok (.iconst 1, 1) := by decide +kernel
theorem dX10_nextNewName_22 : decode cX10_nextNewName 22 = .ok (.invokevirtual 92, 3) := by decide +kernel
theorem dX10_nextNewName_25 : decode cX10_nextNewName 25 = .ok (.ireturn, 1) := by decide +kernel
theorem dX10_nextNewName_26 : decode cX10_nextNewName 26 = .ok (.aload_n 1, 1) := by decide +kernel
theorem dX10_nextNewName_27 : decode cX10_nextNewName 27 = .ok (.aload_n 0, 1) := by decide +kernel
theorem dX10_nextNewName_28 : decode cX10_nextNewName 28 = .ok (.getfield 34, 3) := by decide +kernel
theorem dX10_nextNewName_31 : decode cX10_nextNewName 31 = .ok (.invokevirtual 108, 3) := by decide +kernel
theorem dX10_nextNewName_34 : decode cX10_nextNewName 34 = .ok (.ifCond .eq 11, 3) := by decide +kernel
theorem dX10_nextNewName_37 : decode cX10_nextNewName 37 = .ok (.aload_n 0, 1) := by decide +kernel
theorem dX10_nextNewName_38 : decode cX10_nextNewName 38 = .ok (.iconst 3, 1) := by decide +kernel
theorem dX10_nextNewName_39 : decode cX10_nextNewName 39 = .ok (.invokevirtual 92, 3) := by decide +kernel
theorem dX10_nextNewName_42 : decode cX10_nextNewName 42 = .ok (.ifCond .eq 7, 3) := by decide +kernel
theorem dX10_nextNewName_45 : decode cX10_nextNewName 45 = .ok (.iconst 1, 1) := by decide +kernel
theorem dX10_nextNewName_46 : decode cX10_nextNewName 46 = .ok (.goto 4, 3) := by decide +kernel
theorem dX10_nextNewName_49 : decode cX10_nextNewName 49 = .ok (.iconst 0, 1) := by decide +kernel
theorem dX10_nextNewName_50 : decode cX10_nextNewName 50 = .ok (.ireturn, 1) := by decide +kernel
theorem dX10_nextNumber_0 : decode cX10_nextNumber 0 = .ok (.aload_n 0, 1) := by decide +kernel
theorem dX10_nextNumber_1 : decode cX10_nextNumber 1 = .ok (.invokevirtual 101, 3) := by decide +kernel
theorem dX10_nextNumber_4 : decode cX10_nextNumber 4 = .ok (.aload_n 0, 1) := by decide +kernel
theorem dX10_nextNumber_5 : decode cX10_nextNumber 5 = .ok (.getfield 25, 3) := by decide +kernel
theorem dX10_nextNumber_8 : decode cX10_nextNumber 8 = .ok (.iconst 2, 1) := by decide +kernel
theorem dX10_nextNumber_9 : decode cX10_nextNumber 9 = .ok (.if_icmp .eq 11, 3) := by decide +kernel
theorem dX10_nextNumber_12 : decode cX10_nextNumber 12 = .ok (.aload_n 0, 1) := by decide +kernel
theorem dX10_nextNumber_13 : decode cX10_nextNumber 13 = .ok (.iconst 1, 1) := by decide +kernel
theorem dX10_nextNumber_14 : decode cX10_nextNumber 14 = .ok (.invokevirtual 92, 3) := by decide +kernel
theorem dX10_nextNumber_17 : decode cX10_nextNumber 17 = .ok (.pop, 1) := by decide +kernel
theorem dX10_nextNumber_18 : decode cX10_nextNumber 18 = .ok (.iconst (-1), 1) := by decide +kernel
theorem dX10_nextNumber_19 : decode cX10_nextNumber 19 = .ok (.ireturn, 1) := by decide +kernel
theorem dX10_nextNumber_20 : decode cX10_nextNumber 20 = .ok (.aload_n 0, 1) := by decide +kernel
theorem dX10_nextNumber_21 : decode cX10_nextNumber 21 = .ok (.getfield 31, 3) := by decide +kernel
theorem dX10_nextNumber_24 : decode cX10_nextNumber 24 = .ok (.iload_n 1, 1) := by decide +kernel
theorem dX10_nextNumber_25 : decode cX10_nextNumber 25 = .ok (.if_icmp .lt 11, 3) := by decide +kernel
theorem dX10_nextNumber_28 : decode cX10_nextNumber 28 = .ok (.aload_n 0, 1) := by decide +kernel
theorem dX10_nextNumber_29 : decode cX10_nextNumber 29 = .ok (.getfield 31, 3) := by decide +kernel
theorem dX10_nextNumber_32 : decode cX10_nextNumber 32 = .ok (.iload_n 2, 1) := by decide +kernel
theorem dX10_nextNumber_33 : decode cX10_nextNumber 33 = .ok (.if_icmp .le 11, 3) := by decide +kernel
theorem dX10_nextNumber_36 : decode cX10_nextNumber 36 = .ok (.aload_n 0, 1) := by decide +kernel
theorem dX10_nextNumber_37 : decode cX10_nextNumber 37 = .ok (.iconst 2, 1) := by decide +kernel
theorem dX10_nextNumber_38 : decode cX10_nextNumber 38 = .ok (.invokevirtual 92, 3) := by decide +kernel
theorem dX10_nextNumber_41 : decode cX10_nextNumber 41 = .ok (.pop, 1) := by decide +kernel
theorem dX10_nextNumber_42 : decode cX10_nextNumber 42 = .ok (.iconst (-1), 1) := by decide +kernel
theorem dX10_nextNumber_43 : decode cX10_nextNumber 43 = .ok (.ireturn, 1) := by decide +kernel
theorem dX10_nextNumber_44 : decode cX10_nextNumber 44 = .ok (.aload_n 0, 1) := by decide +kernel
theorem dX10_nextNumber_45 : decode cX10_nextNumber 45 = .ok (.getfield 31, 3) := by decide +kernel
theorem dX10_nextNumber_48 : decode cX10_nextNumber 48 = .ok (.ireturn, 1) := by decide +kernel
theorem dX10_nextOfTwo_0 : decode cX10_nextOfTwo 0 = .ok (.aload_n 0, 1) := by decide +kernel
theorem dX10_nextOfTwo_1 : decode cX10_nextOfTwo 1 = .ok (.invokevirtual 101, 3) := by decide +kernel
theorem dX10_nextOfTwo_4 : decode cX10_nextOfTwo 4 = .ok (.aload_n 0, 1) := by decide +kernel
theorem dX10_nextOfTwo_5 : decode cX10_nextOfTwo 5 = .ok (.getfield 25, 3) := by decide +kernel
theorem dX10_nextOfTwo_8 : decode cX10_nextOfTwo 8 = .ok (.iconst 1, 1) := by decide +kernel
theorem dX10_nextOfTwo_9 : decode cX10_nextOfTwo 9 = .ok (.if_icmp .ne 21, 3) := by decide +kernel
theorem dX10_nextOfTwo_12 : decode cX10_nextOfTwo 12 = .ok (.aload_n 0, 1) := by decide +kernel
theorem dX10_nextOfTwo_13 : decode cX10_nextOfTwo 13 = .ok (.getfield 38, 3) := by decide +kernel
theorem dX10_nextOfTwo_16 : decode cX10_nextOfTwo 16 = .ok (.iload_n 1, 1) := by decide +kernel
theorem dX10_nextOfTwo_17 : decode cX10_nextOfTwo 17 = .ok (.if_icmp .eq 21, 3) := by decide +kernel
theorem dX10_nextOfTwo_20 : decode cX10_nextOfTwo 20 = .ok (.aload_n 0, 1) := by decide +kernel
theorem dX10_nextOfTwo_21 : decode cX10_nextOfTwo 21 = .ok (.getfield 38, 3) := by decide +kernel
theorem dX10_nextOfTwo_24 : decode cX10_nextOfTwo 24 = .ok (.iload_n 1, 1) := by decide +kernel
theorem dX10_nextOfTwo_25 : decode cX10_nextOfTwo 25 = .ok (.iconst 1, 1) := by decide +kernel
theorem dX10_nextOfTwo_26 : decode cX10_nextOfTwo 26 = .ok (.iadd, 1) := by decide +kernel
theorem dX10_nextOfTwo_27 : decode cX10_nextOfTwo 27 = .ok (.if_icmp .eq 11, 3) := by decide +kernel
theorem dX10_nextOfTwo_30 : decode cX10_nextOfTwo 30 = .ok (.aload_n 0, 1) := by decide +kernel
theorem dX10_nextOfTwo_31 : decode cX10_nextOfTwo 31 = .ok (.iconst 1, 1) := by decide +kernel
theorem dX10_nextOfTwo_32 : decode cX10_nextOfTwo 32 = .ok (.invokevirtual 92, 3) := by decide +kernel
theorem dX10_nextOfTwo_35 : decode cX10_nextOfTwo 35 = .ok (.pop, 1) := by decide +kernel
theorem dX10_nextOfTwo_36 : decode cX10_nextOfTwo 36 = .ok (.iconst (-1), 1) := by decide +kernel
theorem dX10_nextOfTwo_37 : decode cX10_nextOfTwo 37 = .ok (.ireturn, 1) := by decide +kernel
theorem dX10_nextOfTwo_38 : decode cX10_nextOfTwo 38 = .ok (.aload_n 0, 1) := by decide +kernel
theorem dX10_nextOfTwo_39 : decode cX10_nextOfTwo 39 = .ok (.getfield 38, 3) := by decide +kernel
theorem dX10_nextOfTwo_42 : decode cX10_nextOfTwo 42 = .ok (.iload_n 1, 1) := by decide +kernel
theorem dX10_nextOfTwo_43 : decode cX10_nextOfTwo 43 = .ok (.isub, 1) := by decide +kernel
theorem dX10_nextOfTwo_44 : decode cX10_nextOfTwo 44 = .ok (.ireturn, 1) := by decide +kernel
theorem dX11_init_0 : decode cX11_init 0 = .ok (.aload_n 0, 1) := by decide +kernel
theorem dX11_init_1 : decode cX11_init 1 = .ok (.invokespecial 1, 3) := by decide +kernel
theorem dX11_init_4 : decode cX11_init 4 = .ok (.aload_n 0, 1) := by decide +kernel
theorem dX11_init_5 : decode cX11_init 5 = .ok (.new 7, 3) := by decide +kernel
theorem dX11_init_8 : decode cX11_init 8 = .ok (.dup, 1) := by decide +kernel
theorem dX11_init_9 : decode cX11_init 9 = .ok (.invokespecial 9, 3) := by decide +kernel
theorem dX11_init_12 : decode cX11_init 12 = .ok (.putfield 10, 3) := by decide +kernel
theorem dX11_init_15 : decode cX11_init 15 = .ok (.aload_n 0, 1) := by decide +kernel
theorem dX11_init_16 : decode cX11_init 16 = .ok (.new 16, 3) := by decide +kernel
theorem dX11_init_19 : decode cX11_init 19 = .ok (.dup, 1) := by decide +kernel
theorem dX11_init_20 : decode cX11_init 20 = .ok (.invokespecial 18, 3) := by decide +kernel
theorem dX11_init_23 : decode cX11_init 23 = .ok (.putfield 19, 3) := by decide +kernel
theorem dX11_init_26 : decode cX11_init 26 = .ok (.aload_n 0, 1) := by decide +kernel
theorem dX11_init_27 : decode cX11_init 27 = .ok (.new 23, 3) := by decide +kernel
theorem dX11_init_30 : decode cX11_init 30 = .ok (.dup, 1) := by decide +kernel
theorem dX11_init_31 : decode cX11_init 31 = .ok (.invokespecial 25, 3) := by decide +kernel
theorem dX11_init_34 : decode cX11_init 34 = .ok (.putfield 26, 3) := by decide +kernel
theorem dX11_init_37 : decode cX11_init 37 = .ok (.aload_n 0, 1) := by decide +kernel
theorem dX11_init_38 : decode cX11_init 38 = .ok (.new 30, 3) := by decide +kernel
theorem dX11_init_41 : decode cX11_init 41 = .ok (.dup, 1) := by decide +kernel
theorem dX11_init_42 : decode cX11_init 42 = .ok (.aload_n 0, 1) := by decide +kernel
theorem dX11_init_43 : decode cX11_init 43 = .ok (.getfield 19, 3) := by decide +kernel
theorem dX11_init_46 : decode cX11_init 46 = .ok (.invokespecial 32, 3) := by decide +kernel
theorem dX11_init_49 : decode cX11_init 49 = .ok (.putfield 35, 3) := by decide +kernel
theorem dX11_init_52 : decode cX11_init 52 = .ok (.aload_n 0, 1) := by decide +kernel
theorem dX11_init_53 : decode cX11_init 53 = .ok (.new 30, 3) := by decide +kernel
theorem dX11_init_56 : decode cX11_init 56 = .ok (.dup, 1) := by decide +kernel
theorem dX11_init_57 : decode cX11_init 57 = .ok (.aload_n 0, 1) := by decide +kernel
theorem dX11_init_58 : decode cX11_init 58 = .ok (.getfield 19, 3) := by decide +kernel
theorem dX11_init_61 : decode cX11_init 61 = .ok (.invokespecial 32, 3) := by decide +kernel
theorem dX11_init_64 : decode cX11_init 64 = .ok (.putfield 39, 3) := by decide +kernel
theorem dX11_init_67 : decode cX11_init 67 = .ok (.aload_n 0, 1) := by decide +kernel
theorem dX11_init_68 : decode cX11_init 68 = .ok (.new 42, 3) := by decide +kernel
theorem dX11_init_71 : decode cX11_init 71 = .ok (.dup, 1) := by decide +kernel
theorem dX11_init_72 : decode cX11_init 72 = .ok (.aload_n 0, 1) := by decide +kernel
theorem dX11_init_73 : decode cX11_init 73 = .ok (.getfield 19, 3) := by decide +kernel
theorem dX11_init_76 : decode cX11_init 76 = .ok (.invokespecial 44, 3) := by decide +kernel
theorem dX11_init_79 : decode cX11_init 79 = .ok (.putfield 45, 3) := by decide +kernel
theorem dX11_init_82 : decode cX11_init 82 = .ok (.aload_n 0, 1) := by decide +kernel
theorem dX11_init_83 : decode cX11_init 83 = .ok (.new 49, 3) := by decide +kernel
theorem dX11_init_86 : decode cX11_init 86 = .ok (.dup, 1) := by decide +kernel
theorem dX11_init_87 : decode cX11_init 87 = .ok (.invokespecial 51, 3) := by decide +kernel
theorem dX11_init_90 : decode cX11_init 90 = .ok (.putfield 52, 3) := by decide +kernel
theorem dX11_init_93 : decode cX11_init 93 = .ok (.aload_n 0, 1) := by decide +kernel
theorem dX11_init_94 : decode cX11_init 94 = .ok (.new 56, 3) := by decide +kernel
theorem dX11_init_97 : decode cX11_init 97 = .ok (.dup, 1) := by decide +kernel
theorem dX11_init_98 : decode cX11_init 98 = .ok (.invokespecial 58, 3) := by decide +kernel
theorem dX11_init_101 : decode cX11_init 101 = .ok (.putfield 59, 3) := by decide +kernel
theorem dX11_init_104 : decode cX11_init 104 = .ok (.aload_n 0, 1) := by decide +kernel
theorem dX11_init_105 : decode cX11_init 105 = .ok (.new 56, 3) := by decide +kernel
theorem dX11_init_108 : decode cX11_init 108 = .ok (.dup, 1) := by decide +kernel
theorem dX11_init_109 : decode cX11_init 109 = .ok (.invokespecial 58, 3) := by decide +kernel
theorem dX11_init_112 : decode cX11_init 112 = .ok (.putfield 63, 3) := by decide +kernel
theorem dX11_init_115 : decode cX11_init 115 = .ok (.aload_n 0, 1) := by decide +kernel
theorem dX11_init_116 : decode cX11_init 116 = .ok (.iconst 2, 1) := by decide +kernel
theorem dX11_init_117 : decode cX11_init 117 = .ok (.anewarray 66, 3) := by decide +kernel
theorem dX11_init_120 : decode cX11_init 120 = .ok (.putfield 68, 3) := by decide +kernel
theorem dX11_init_123 : decode cX11_init 123 = .ok (.aload_n 0, 1) := by decide +kernel
theorem dX11_init_124 : decode cX11_init 124 = .ok (.new 72, 3) := by decide +kernel
theorem dX11_init_127 : decode cX11_init 127 = .ok (.dup, 1) := by decide +kernel
theorem dX11_init_128 : decode cX11_init 128 = .ok (.invokespecial 74, 3) := by decide +kernel
theorem dX11_init_131 : decode cX11_init 131 = .ok (.putfield 75, 3) := by decide +kernel
theorem dX11_init_134 : decode cX11_init 134 = .ok (.aload_n 0, 1) := by decide +kernel
theorem dX11_init_135 : decode cX11_init 135 = .ok (.new 79, 3) := by decide +kernel
theorem dX11_init_138 : decode cX11_init 138 = .ok (.dup, 1) := by decide +kernel
theorem dX11_init_139 : decode cX11_init 139 = .ok (.invokespecial 81, 3) := by decide +kernel
theorem dX11_init_142 : decode cX11_init 142 = .ok (.putfield 82, 3) := by decide +kernel
theorem dX11_init_145 : decode cX11_init 145 = .ok (.aload_n 0, 1) := by decide +kernel
theorem dX11_init_146 : decode cX11_init 146 = .ok (.new 86, 3) := by decide +kernel
theorem dX11_init_149 : decode cX11_init 149 = .ok (.dup, 1) := by decide +kernel
theorem dX11_init_150 : decode cX11_init 150 = .ok (.invokespecial 88, 3) := by decide +kernel
theorem dX11_init_153 : decode cX11_init 153 = .ok (.putfield 89, 3) := by decide +kernel
theorem dX11_init_156 : decode cX11_init 156 = .ok (.aload_n 0, 1) := by decide +kernel
theorem dX11_init_157 : decode cX11_init 157 = .ok (.iconst 0, 1) := by decide +kernel
theorem dX11_init_158 : decode cX11_init 158 = .ok (.putfield 93, 3) := by decide +kernel
theorem dX11_init_161 : decode cX11_init 161 = .ok (.aload_n 0, 1) := by decide +kernel
theorem dX11_init_162 : decode cX11_init 162 = .ok (.iconst (-1), 1) := by decide +kernel
theorem dX11_init_163 : decode cX11_init 163 = .ok (.putfield 97, 3) := by decide +kernel
theorem dX11_init_166 : decode cX11_init 166 = .ok (.iconst 0, 1) := by decide +kernel
theorem dX11_init_167 : decode cX11_init 167 = .ok (.istore_n 1, 1) := by decide +kernel
theorem dX11_init_168 : decode cX11_init 168 = .ok (.iload_n 1, 1) := by decide +kernel
theorem dX11_init_169 : decode cX11_init 169 = .ok (.iconst 2, 1) := by decide +kernel
theorem dX11_init_170 : decode cX11_init 170 = .ok (.if_icmp .ge 26, 3) := by decide +kernel
theorem dX11_init_173 : decode cX11_init 173 = .ok (.aload_n 0, 1) := by decide +kernel
theorem dX11_init_174 : decode cX11_init 174 = .ok (.getfield 68, 3) := by decide +kernel
theorem dX11_init_177 : decode cX11_init 177 = .ok (.iload_n 1, 1) := by decide +kernel
theorem dX11_init_178 : decode cX11_init 178 = .ok (.new 66, 3) := by decide +kernel
theorem dX11_init_181 : decode cX11_init 181 = .ok (.dup, 1) := by decide +kernel
theorem dX11_init_182 : decode cX11_init 182 = .ok (.aload_n 0, 1) := by decide +kernel
theorem dX11_init_183 : decode cX11_init 183 = .ok (.getfield 19, 3) := by decide +kernel
theorem dX11_init_186 : decode cX11_init 186 = .ok (.invokespecial 100, 3) := by decide +kernel
theorem dX11_init_189 : decode cX11_init 189 = .ok (.aastore, 1) := by decide +kernel
theorem dX11_init_190 : decode cX11_init 190 = .ok (.iinc 1 1, 3) := by decide +kernel
theorem dX11_init_193 : decode cX11_init 193 = .ok (.goto (-25), 3) := by decide +kernel
theorem dX11_init_196 : decode cX11_init 196 = .ok (.return_, 1) := by decide +kernel
theorem dX11_feed_0 : decode cX11_feed 0 = .ok (.aload_n 0, 1) := by decide +kernel
theorem dX11_feed_1 : decode cX11_feed 1 = .ok (.getfield 10, 3) := by decide +kernel
theorem dX11_feed_4 : decode cX11_feed 4 = .ok (.getfield 101, 3) := by decide +kernel
theorem dX11_feed_7 : decode cX11_feed 7 = .ok (.bipush 20, 2) := by decide +kernel
theorem dX11_feed_9 : decode cX11_feed 9 = .ok (.iadd, 1) := by decide +kernel
theorem dX11_feed_10 : decode cX11_feed 10 = .ok (.sipush 1460, 3) := by decide +kernel
theorem dX11_feed_13 : decode cX11_feed 13 = .ok (.if_icmp .le 5, 3) := by decide +kernel
theorem dX11_feed_16 : decode cX11_feed 16 = .ok (.iconst (-1), 1) := by decide +kernel
theorem dX11_feed_17 : decode cX11_feed 17 = .ok (.ireturn, 1) := by decide +kernel
theorem dX11_feed_18 : decode cX11_feed 18 = .ok (.aload_n 0, 1) := by decide +kernel
theorem dX11_feed_19 : decode cX11_feed 19 = .ok (.getfield 10, 3) := by decide +kernel
theorem dX11_feed_22 : decode cX11_feed 22 = .ok (.iload_n 1, 1) := by decide +kernel
theorem dX11_feed_23 : decode cX11_feed 23 = .ok (.invokevirtual 104, 3) := by decide +kernel
theorem dX11_feed_26 : decode cX11_feed 26 = .ok (.aload_n 0, 1) := by decide +kernel
theorem dX11_feed_27 : decode cX11_feed 27 = .ok (.getfield 10, 3) := by decide +kernel
theorem dX11_feed_30 : decode cX11_feed 30 = .ok (.iload_n 2, 1) := by decide +kernel
theorem dX11_feed_31 : decode cX11_feed 31 = .ok (.invokevirtual 104, 3) := by decide +kernel
theorem dX11_feed_34 : decode cX11_feed 34 = .ok (.aload_n 0, 1) := by decide +kernel
theorem dX11_feed_35 : decode cX11_feed 35 = .ok (.getfield 10, 3) := by decide +kernel
theorem dX11_feed_38 : decode cX11_feed 38 = .ok (.iload_n 3, 1) := by decide +kernel
theorem dX11_feed_39 : decode cX11_feed 39 = .ok (.invokevirtual 104, 3) := by decide +kernel
theorem dX11_feed_42 : decode cX11_feed 42 = .ok (.aload_n 0, 1) := by decide +kernel
theorem dX11_feed_43 : decode cX11_feed 43 = .ok (.getfield 10, 3) := by decide +kernel
theorem dX11_feed_46 : decode cX11_feed 46 = .ok (.iload 4, 2) := by decide +kernel
theorem dX11_feed_48 : decode cX11_feed 48 = .ok (.invokevirtual 104, 3) := by decide +kernel
theorem dX11_feed_51 : decode cX11_feed 51 = .ok (.aload_n 0, 1) := by decide +kernel
theorem dX11_feed_52 : decode cX11_feed 52 = .ok (.getfield 10, 3) := by decide +kernel
theorem dX11_feed_55 : decode cX11_feed 55 = .ok (.iload 5, 2) := by decide +kernel
theorem dX11_feed_57 : decode cX11_feed 57 = .ok (.invokevirtual 104, 3) := by decide +kernel
theorem dX11_feed_60 : decode cX11_feed 60 = .ok (.aload_n 0, 1) := by decide +kernel
theorem dX11_feed_61 : decode cX11_feed 61 = .ok (.getfield 10, 3) := by decide +kernel
theorem dX11_feed_64 : decode cX11_feed 64 = .ok (.getfield 101, 3) := by decide +kernel
theorem dX11_feed_67 : decode cX11_feed 67 = .ok (.ireturn, 1) := by decide +kernel
theorem dX11_end_0 : decode cX11_end 0 = .ok (.iload_n 1, 1) := by decide +kernel
theorem dX11_end_1 : decode cX11_end 1 = .ok (.ifCond .lt 14, 3) := by decide +kernel
theorem dX11_end_4 : decode cX11_end 4 = .ok (.iload_n 1, 1) := by decide +kernel
theorem dX11_end_5 : decode cX11_end 5 = .ok (.aload_n 0, 1) := by decide +kernel
theorem dX11_end_6 : decode cX11_end 6 = .ok (.getfield 10, 3) := by decide +kernel
theorem dX11_end_9 : decode cX11_end 9 = .ok (.getfield 101, 3) := by decide +kernel
theorem dX11_end_12 : decode cX11_end 12 = .ok (.if_icmp .le 5, 3) := by decide +kernel
theorem dX11_end_15 : decode cX11_end 15 = .ok (.iconst 0, 1) := by decide +kernel
theorem dX11_end_16 : decode cX11_end 16 = .ok (.ireturn, 1) := by decide +kernel
theorem dX11_end_17 : decode cX11_end 17 = .ok (.aload_n 0, 1) := by decide +kernel
theorem dX11_end_18 : decode cX11_end 18 = .ok (.getfield 10, 3) := by decide +kernel
theorem dX11_end_21 : decode cX11_end 21 = .ok (.iload_n 1, 1) := by decide +kernel
theorem dX11_end_22 : decode cX11_end 22 = .ok (.putfield 101, 3) := by decide +kernel
theorem dX11_end_25 : decode cX11_end 25 = .ok (.iconst 1, 1) := by decide +kernel
theorem dX11_end_26 : decode cX11_end 26 = .ok (.ireturn, 1) := by decide +kernel
theorem dX11_layout_0 : decode cX11_layout 0 = .ok (.aload_n 0, 1) := by decide +kernel
theorem dX11_layout_1 : decode cX11_layout 1 = .ok (.getfield 26, 3) := by decide +kernel
theorem dX11_layout_4 : decode cX11_layout 4 = .ok (.aload_n 0, 1) := by decide +kernel
theorem dX11_layout_5 : decode cX11_layout 5 = .ok (.getfield 10, 3) := by decide +kernel
theorem dX11_layout_8 : decode cX11_layout 8 = .ok (.invokevirtual 108, 3) := by decide +kernel
theorem dX11_layout_11 : decode cX11_layout 11 = .ok (.istore_n 1, 1) := by decide +kernel
theorem dX11_layout_12 : decode cX11_layout 12 = .ok (.aload_n 0, 1) := by decide +kernel
theorem dX11_layout_13 : decode cX11_layout 13 = .ok (.aload_n 0, 1) := by decide +kernel
theorem dX11_layout_14 : decode cX11_layout 14 = .ok (.getfield 10, 3) := by decide +kernel
theorem dX11_layout_17 : decode cX11_layout 17 = .ok (.getfield 112, 3) := by decide +kernel
theorem dX11_layout_20 : decode cX11_layout 20 = .ok (.putfield 93, 3) := by decide +kernel
theorem dX11_layout_23 : decode cX11_layout 23 = .ok (.aload_n 0, 1) := by decide +kernel
theorem dX11_layout_24 : decode cX11_layout 24 = .ok (.getfield 10, 3) := by decide +kernel
theorem dX11_layout_27 : decode cX11_layout 27 = .ok (.iconst 0, 1) := by decide +kernel
theorem dX11_layout_28 : decode cX11_layout 28 = .ok (.putfield 101, 3) := by decide +kernel
theorem dX11_layout_31 : decode cX11_layout 31 = .ok (.iload_n 1, 1) := by decide +kernel
theorem dX11_layout_32 : decode cX11_layout 32 = .ok (.ifCond .ne 13, 3) := by decide +kernel
theorem dX11_layout_35 : decode cX11_layout 35 = .ok (.iconst (-1), 1) := by decide +kernel
theorem dX11_layout_36 : decode cX11_layout 36 = .ok (.aload_n 0, 1) := by decide +kernel
theorem dX11_layout_37 : decode cX11_layout 37 = .ok (.getfield 10, 3) := by decide +kernel
theorem dX11_layout_40 : decode cX11_layout 40 = .ok (.getfield 115, 3) := by decide +kernel
theorem dX11_layout_43 : decode cX11_layout 43 = .ok (.isub, 1) := by decide +kernel
theorem dX11_layout_44 : decode cX11_layout 44 = .ok (.ireturn, 1) := by decide +kernel
theorem dX11_layout_45 : decode cX11_layout 45 = .ok (.aload_n 0, 1) := by decide +kernel
theorem dX11_layout_46 : decode cX11_layout 46 = .ok (.getfield 19, 3) := by decide +kernel
theorem dX11_layout_49 : decode cX11_layout 49 = .ok (.aload_n 0, 1) := by decide +kernel
theorem dX11_layout_50 : decode cX11_layout 50 = .ok (.getfield 26, 3) := by decide +kernel
theorem dX11_layout_53 : decode cX11_layout 53 = .ok (.getfield 118, 3) := by decide +kernel
theorem dX11_layout_56 : decode cX11_layout 56 = .ok (.invokevirtual 120, 3) := by decide +kernel
theorem dX11_layout_59 : decode cX11_layout 59 = .ok (.aload_n 0, 1) := by decide +kernel
theorem dX11_layout_60 : decode cX11_layout 60 = .ok (.getfield 35, 3) := by decide +kernel
theorem dX11_layout_63 : decode cX11_layout 63 = .ok (.invokevirtual 123, 3) := by decide +kernel
theorem dX11_layout_66 : decode cX11_layout 66 = .ok (.aload_n 0, 1) := by decide +kernel
theorem dX11_layout_67 : decode cX11_layout 67 = .ok (.getfield 59, 3) := by decide +kernel
theorem dX11_layout_70 : decode cX11_layout 70 = .ok (.iconst 0, 1) := by decide +kernel
theorem dX11_layout_71 : decode cX11_layout 71 = .ok (.putfield 126, 3) := by decide +kernel
theorem dX11_layout_74 : decode cX11_layout 74 = .ok (.aload_n 0, 1) := by decide +kernel
theorem dX11_layout_75 : decode cX11_layout 75 = .ok (.getfield 45, 3) := by decide +kernel
theorem dX11_layout_78 : decode cX11_layout 78 = .ok (.iconst 0, 1) := by decide +kernel
theorem dX11_layout_79 : decode cX11_layout 79 = .ok (.putfield 130, 3) := by decide +kernel
theorem dX11_layout_82 : decode cX11_layout 82 = .ok (.aload_n 0, 1) := by decide +kernel
theorem dX11_layout_83 : decode cX11_layout 83 = .ok (.getfield 26, 3) := by decide +kernel
theorem dX11_layout_86 : decode cX11_layout 86 = .ok (.getfield 131, 3) := by decide +kernel
theorem dX11_layout_89 : decode cX11_layout 89 = .ok (.ireturn, 1) := by decide +kernel
theorem dX11_fault_0 : decode cX11_fault 0 = .ok (.aload_n 0, 1) := by decide +kernel
theorem dX11_fault_1 : decode cX11_fault 1 = .ok (.getfield 93, 3) := by decide +kernel
theorem dX11_fault_4 : decode cX11_fault 4 = .ok (.ireturn, 1) := by decide +kernel
theorem dX11_section_0 : decode cX11_section 0 = .ok (.aload_n 0, 1) := by decide +kernel
theorem dX11_section_1 : decode cX11_section 1 = .ok (.getfield 19, 3) := by decide +kernel
theorem dX11_section_4 : decode cX11_section 4 = .ok (.iconst 0, 1) := by decide +kernel
theorem dX11_section_5 : decode cX11_section 5 = .ok (.iload_n 1, 1) := by decide +kernel
theorem dX11_section_6 : decode cX11_section 6 = .ok (.invokevirtual 134, 3) := by decide +kernel
theorem dX11_section_9 : decode cX11_section 9 = .ok (.ifCond .ne 5, 3) := by decide +kernel
theorem dX11_section_12 : decode cX11_section 12 = .ok (.iconst (-1), 1) := by decide +kernel
theorem dX11_section_13 : decode cX11_section 13 = .ok (.ireturn, 1) := by decide +kernel
theorem dX11_section_14 : decode cX11_section 14 = .ok (.iload_n 2, 1) := by decide +kernel
theorem dX11_section_15 : decode cX11_section 15 = .ok (.tableswitch 96 0 5 #[37, 47, 57, 69, 78, 87], 37) := by decide +kernel
theorem dX11_section_52 : decode cX11_section 52 = .ok (.aload_n 0, 1) := by decide +kernel
theorem dX11_section_53 : decode cX11_section 53 = .ok (.getfield 19, 3) := by decide +kernel
theorem dX11_section_56 : decode cX11_section 56 = .ok (.getfield 138, 3) := by decide +kernel
theorem dX11_section_59 : decode cX11_section 59 = .ok (.iload_n 1, 1) := by decide +kernel
theorem dX11_section_60 : decode cX11_section 60 = .ok (.iaload, 1) := by decide +kernel
theorem dX11_section_61 : decode cX11_section 61 = .ok (.ireturn, 1) := by decide +kernel
theorem dX11_section_62 : decode cX11_section 62 = .ok (.aload_n 0, 1) := by decide +kernel
theorem dX11_section_63 : decode cX11_section 63 = .ok (.getfield 35, 3) := by decide +kernel
theorem dX11_section_66 : decode cX11_section 66 = .ok (.iload_n 1, 1) := by decide +kernel
theorem dX11_section_67 : decode cX11_section 67 = .ok (.iconst (-1), 1) := by decide +kernel
theorem dX11_section_68 : decode cX11_section 68 = .ok (.invokevirtual 142, 3) := by decide +kernel
theorem dX11_section_71 : decode cX11_section 71 = .ok (.ireturn, 1) := by decide +kernel
theorem dX11_section_72 : decode cX11_section 72 = .ok (.aload_n 0, 1) := by decide +kernel
theorem dX11_section_73 : decode cX11_section 73 = .ok (.getfield 35, 3) := by decide +kernel
theorem dX11_section_76 : decode cX11_section 76 = .ok (.invokevirtual 146, 3) := by decide +kernel
theorem dX11_section_79 : decode cX11_section 79 = .ok (.iload_n 1, 1) := by decide +kernel
theorem dX11_section_80 : decode cX11_section 80 = .ok (.ishr, 1) := by decide +kernel
theorem dX11_section_81 : decode cX11_section 81 = .ok (.iconst 1, 1) := by decide +kernel
theorem dX11_section_82 : decode cX11_section 82 = .ok (.iand, 1) := by decide +kernel
theorem dX11_section_83 : decode cX11_section 83 = .ok (.ireturn, 1) := by decide +kernel
theorem dX11_section_84 : decode cX11_section 84 = .ok (.aload_n 0, 1) := by decide +kernel
theorem dX11_section_85 : decode cX11_section 85 = .ok (.getfield 35, 3) := by decide +kernel
theorem dX11_section_88 : decode cX11_section 88 = .ok (.iload_n 1, 1) := by decide +kernel
theorem dX11_section_89 : decode cX11_section 89 = .ok (.invokevirtual 150, 3) := by decide +kernel
theorem dX11_section_92 : decode cX11_section 92 = .ok (.ireturn, 1) := by decide +kernel
theorem dX11_section_93 : decode cX11_section 93 = .ok (.aload_n 0, 1) := by decide +kernel
theorem dX11_section_94 : decode cX11_section 94 = .ok (.getfield 19, 3) := by decide +kernel
theorem dX11_section_97 : decode cX11_section 97 = .ok (.iload_n 1, 1) := by decide +kernel
theorem dX11_section_98 : decode cX11_section 98 = .ok (.invokevirtual 154, 3) := by decide +kernel
theorem dX11_section_101 : decode cX11_section 101 = .ok (.ireturn, 1) := by decide +kernel
theorem dX11_section_102 : decode cX11_section 102 = .ok (.aload_n 0, 1) := by decide +kernel
theorem dX11_section_103 : decode cX11_section 103 = .ok (.getfield 19, 3) := by decide +kernel
theorem dX11_section_106 : decode cX11_section 106 = .ok (.iload_n 1, 1) := by decide +kernel
theorem dX11_section_107 : decode cX11_section 107 = .ok (.invokevirtual 157, 3) := by decide +kernel
theorem dX11_section_110 : decode cX11_section 110 = .ok (.ireturn, 1) := by decide +kernel
theorem dX11_section_111 : decode cX11_section 111 = .ok (.iconst (-1), 1) := by decide +kernel
theorem dX11_section_112 : decode cX11_section 112 = .ok (.ireturn, 1) := by decide +kernel
theorem dX11_points_0 : decode cX11_points 0 = .ok (.aload_n 0, 1) := by decide +kernel
theorem dX11_points_1 : decode cX11_points 1 = .ok (.getfield 19, 3) := by decide +kernel
theorem dX11_points_4 : decode cX11_points 4 = .ok (.iconst 1, 1) := by decide +kernel
theorem dX11_points_5 : decode cX11_points 5 = .ok (.iload_n 1, 1) := by decide +kernel
theorem dX11_points_6 : decode cX11_points 6 = .ok (.invokevirtual 134, 3) := by decide +kernel
theorem dX11_points_9 : decode cX11_points 9 = .ok (.ifCond .ne 5, 3) := by decide +kernel
theorem dX11_points_12 : decode cX11_points 12 = .ok (.iconst (-1), 1) := by decide +kernel
theorem dX11_points_13 : decode cX11_points 13 = .ok (.ireturn, 1) := by decide +kernel
theorem dX11_points_14 : decode cX11_points 14 = .ok (.iload_n 2, 1) := by decide +kernel
theorem dX11_points_15 : decode cX11_points 15 = .ok (.tableswitch 71 0 3 #[29, 39, 51, 61], 29) := by decide +kernel
theorem dX11_points_44 : decode cX11_points 44 = .ok (.aload_n 0, 1) := by decide +kernel
theorem dX11_points_45 : decode cX11_points 45 = .ok (.getfield 19, 3) := by decide +kernel
theorem dX11_points_48 : decode cX11_points 48 = .ok (.getfield 160, 3) := by decide +kernel
theorem dX11_points_51 : decode cX11_points 51 = .ok (.iload_n 1, 1) := by decide +kernel
theorem dX11_points_52 : decode cX11_points 52 = .ok (.iaload, 1) := by decide +kernel
theorem dX11_points_53 : decode cX11_points 53 = .ok (.ireturn, 1) := by decide +kernel
theorem dX11_points_54 : decode cX11_points 54 = .ok (.aload_n 0, 1) := by decide +kernel
theorem dX11_points_55 : decode cX11_points 55 = .ok (.getfield 35, 3) := by decide +kernel
theorem dX11_points_58 : decode cX11_points 58 = .ok (.getfield 163, 3) := by decide +kernel
theorem dX11_points_61 : decode cX11_points 61 = .ok (.iload_n 1, 1) := by decide +kernel
theorem dX11_points_62 : decode cX11_points 62 = .ok (.ishr, 1) := by decide +kernel
theorem dX11_points_63 : decode cX11_points 63 = .ok (.iconst 1, 1) := by decide +kernel
theorem dX11_points_64 : decode cX11_points 64 = .ok (.iand, 1) := by decide +kernel
theorem dX11_points_65 : decode cX11_points 65 = .ok (.ireturn, 1) := by decide +kernel
theorem dX11_points_66 : decode cX11_points 66 = .ok (.aload_n 0, 1) := by decide +kernel
theorem dX11_points_67 : decode cX11_points 67 = .ok (.getfield 19, 3) := by decide +kernel
theorem dX11_points_70 : decode cX11_points 70 = .ok (.iload_n 1, 1) := by decide +kernel
theorem dX11_points_71 : decode cX11_points 71 = .ok (.iconst 0, 1) := by decide +kernel
theorem dX11_points_72 : decode cX11_points 72 = .ok (.invokevirtual 166, 3) := by decide +kernel
theorem dX11_points_75 : decode cX11_points 75 = .ok (.ireturn, 1) := by decide +kernel
theorem dX11_points_76 : decode cX11_points 76 = .ok (.aload_n 0, 1) := by decide +kernel
theorem dX11_points_77 : decode cX11_points 77 = .ok (.getfield 19, 3) := by decide +kernel
theorem dX11_points_80 : decode cX11_points 80 = .ok (.iload_n 1, 1) := by decide +kernel
theorem dX11_points_81 : decode cX11_points 81 = .ok (.iconst 1, 1) := by decide +kernel
theorem dX11_points_82 : decode cX11_points 82 = .ok (.invokevirtual 166, 3) := by decide +kernel
theorem dX11_points_85 : decode cX11_points 85 = .ok (.ireturn, 1) := by decide +kernel
theorem dX11_points_86 : decode cX11_points 86 = .ok (.iconst (-1), 1) := by decide +kernel
theorem dX11_points_87 : decode cX11_points 87 = .ok (.ireturn, 1) := by decide +kernel
theorem dX11_signal_0 : decode cX11_signal 0 = .ok (.aload_n 0, 1) := by decide +kernel
theorem dX11_signal_1 : decode cX11_signal 1 = .ok (.getfield 19, 3) := by decide +kernel
theorem dX11_signal_4 : decode cX11_signal 4 = .ok (.iconst 3, 1) := by decide +kernel
theorem dX11_signal_5 : decode cX11_signal 5 = .ok (.iload_n 1, 1) := by decide +kernel
theorem dX11_signal_6 : decode cX11_signal 6 = .ok (.invokevirtual 134, 3) := by decide +kernel
theorem dX11_signal_9 : decode cX11_signal 9 = .ok (.ifCond .ne 5, 3) := by decide +kernel
theorem dX11_signal_12 : decode cX11_signal 12 = .ok (.iconst (-1), 1) := by decide +kernel
theorem dX11_signal_13 : decode cX11_signal 13 = .ok (.ireturn, 1) := by decide +kernel
theorem dX11_signal_14 : decode cX11_signal 14 = .ok (.iload_n 2, 1) := by decide +kernel
theorem dX11_signal_15 : decode cX11_signal 15 = .ok (.tableswitch 76 0 3 #[29, 39, 49, 67], 29) := by decide +kernel
theorem dX11_signal_44 : decode cX11_signal 44 = .ok (.aload_n 0, 1) := by decide +kernel
theorem dX11_signal_45 : decode cX11_signal 45 = .ok (.getfield 19, 3) := by decide +kernel
theorem dX11_signal_48 : decode cX11_signal 48 = .ok (.getfield 169, 3) := by decide +kernel
theorem dX11_signal_51 : decode cX11_signal 51 = .ok (.iload_n 1, 1) := by decide +kernel
theorem dX11_signal_52 : decode cX11_signal 52 = .ok (.iaload, 1) := by decide +kernel
theorem dX11_signal_53 : decode cX11_signal 53 = .ok (.ireturn, 1) := by decide +kernel
theorem dX11_signal_54 : decode cX11_signal 54 = .ok (.aload_n 0, 1) := by decide +kernel
theorem dX11_signal_55 : decode cX11_signal 55 = .ok (.getfield 19, 3) := by decide +kernel
theorem dX11_signal_58 : decode cX11_signal 58 = .ok (.getfield 172, 3) := by decide +kernel
theorem dX11_signal_61 : decode cX11_signal 61 = .ok (.iload_n 1, 1) := by decide +kernel
theorem dX11_signal_62 : decode cX11_signal 62 = .ok (.iaload, 1) := by decide +kernel
theorem dX11_signal_63 : decode cX11_signal 63 = .ok (.ireturn, 1) := by decide +kernel
theorem dX11_signal_64 : decode cX11_signal 64 = .ok (.aload_n 0, 1) := by decide +kernel
theorem dX11_signal_65 : decode cX11_signal 65 = .ok (.getfield 35, 3) := by decide +kernel
theorem dX11_signal_68 : decode cX11_signal 68 = .ok (.iload_n 1, 1) := by decide +kernel
theorem dX11_signal_69 : decode cX11_signal 69 = .ok (.invokevirtual 175, 3) := by decide +kernel
theorem dX11_signal_72 : decode cX11_signal 72 = .ok (.iconst (-1), 1) := by decide +kernel
theorem dX11_signal_73 : decode cX11_signal 73 = .ok (.if_icmp .ne 7, 3) := by decide +kernel
theorem dX11_signal_76 : decode cX11_signal 76 = .ok (.iconst 0, 1) := by decide +kernel
theorem dX11_signal_77 : decode cX11_signal 77 = .ok (.goto 4, 3) := by decide +kernel
theorem dX11_signal_80 : decode cX11_signal 80 = .ok (.iconst 1, 1) := by decide +kernel
theorem dX11_signal_81 : decode cX11_signal 81 = .ok (.ireturn, 1) := by decide +kernel
theorem dX11_signal_82 : decode cX11_signal 82 = .ok (.aload_n 0, 1) := by decide +kernel
theorem dX11_signal_83 : decode cX11_signal 83 = .ok (.getfield 19, 3) := by decide +kernel
theorem dX11_signal_86 : decode cX11_signal 86 = .ok (.iload_n 1, 1) := by decide +kernel
theorem dX11_signal_87 : decode cX11_signal 87 = .ok (.invokevirtual 178, 3) := by decide +kernel
theorem dX11_signal_90 : decode cX11_signal 90 = .ok (.ireturn, 1) := by decide +kernel
theorem dX11_signal_91 : decode cX11_signal 91 = .ok (.iconst (-1), 1) := by decide +kernel
theorem dX11_signal_92 : decode cX11_signal 92 = .ok (.ireturn, 1) := by decide +kernel
theorem dX11_route_0 : decode cX11_route 0 = .ok (.aload_n 0, 1) := by decide +kernel
theorem dX11_route_1 : decode cX11_route 1 = .ok (.getfield 19, 3) := by decide +kernel
theorem dX11_route_4 : decode cX11_route 4 = .ok (.iconst 4, 1) := by decide +kernel
theorem dX11_route_5 : decode cX11_route 5 = .ok (.iload_n 1, 1) := by decide +kernel
theorem dX11_route_6 : decode cX11_route 6 = .ok (.invokevirtual 134, 3) := by decide +kernel
theorem dX11_route_9 : decode cX11_route 9 = .ok (.ifCond .ne 5, 3) := by decide +kernel
theorem dX11_route_12 : decode cX11_route 12 = .ok (.iconst (-1), 1) := by decide +kernel
theorem dX11_route_13 : decode cX11_route 13 = .ok (.ireturn, 1) := by decide +kernel
theorem dX11_route_14 : decode cX11_route 14 = .ok (.iload_n 2, 1) := by decide +kernel
theorem dX11_route_15 : decode cX11_route 15 = .ok (.tableswitch 173 0 8 #[49, 59, 69, 79, 89, 99, 109, 119, 146], 49) := by decide +kernel
theorem dX11_route_64 : decode cX11_route 64 = .ok (.aload_n 0, 1) := by decide +kernel
theorem dX11_route_65 : decode cX11_route 65 = .ok (.getfield 19, 3) := by decide +kernel
theorem dX11_route_68 : decode cX11_route 68 = .ok (.getfield 181, 3) := by decide +kernel
theorem dX11_route_71 : decode cX11_route 71 = .ok (.iload_n 1, 1) := by decide +kernel
theorem dX11_route_72 : decode cX11_route 72 = .ok (.iaload, 1) := by decide +kernel
theorem dX11_route_73 : decode cX11_route 73 = .ok (.ireturn, 1) := by decide +kernel
theorem dX11_route_74 : decode cX11_route 74 = .ok (.aload_n 0, 1) := by decide +kernel
theorem dX11_route_75 : decode cX11_route 75 = .ok (.getfield 35, 3) := by decide +kernel
theorem dX11_route_78 : decode cX11_route 78 = .ok (.getfield 184, 3) := by decide +kernel
theorem dX11_route_81 : decode cX11_route 81 = .ok (.iload_n 1, 1) := by decide +kernel
theorem dX11_route_82 : decode cX11_route 82 = .ok (.iaload, 1) := by decide +kernel
theorem dX11_route_83 : decode cX11_route 83 = .ok (.ireturn, 1) := by decide +kernel
theorem dX11_route_84 : decode cX11_route 84 = .ok (.aload_n 0, 1) := by decide +kernel
theorem dX11_route_85 : decode cX11_route 85 = .ok (.getfield 19, 3) := by decide +kernel
theorem dX11_route_88 : decode cX11_route 88 = .ok (.getfield 187, 3) := by decide +kernel
theorem dX11_route_91 : decode cX11_route 91 = .ok (.iload_n 1, 1) := by decide +kernel
theorem dX11_route_92 : decode cX11_route 92 = .ok (.iaload, 1) := by decide +kernel
theorem dX11_route_93 : decode cX11_route 93 = .ok (.ireturn, 1) := by decide +kernel
theorem dX11_route_94 : decode cX11_route 94 = .ok (.aload_n 0, 1) := by decide +kernel
theorem dX11_route_95 : decode cX11_route 95 = .ok (.getfield 19, 3) := by decide +kernel
theorem dX11_route_98 : decode cX11_route 98 = .ok (.getfield 190, 3) := by decide +kernel
theorem dX11_route_101 : decode cX11_route 101 = .ok (.iload_n 1, 1) := by decide +kernel
theorem dX11_route_102 : decode cX11_route 102 = .ok (.iaload, 1) := by decide +kernel
theorem dX11_route_103 : decode cX11_route 103 = .ok (.ireturn, 1) := by decide +kernel
theorem dX11_route_104 : decode cX11_route 104 = .ok (.aload_n 0, 1) := by decide +kernel
theorem dX11_route_105 : decode cX11_route 105 = .ok (.getfield 19, 3) := by decide +kernel
theorem dX11_route_108 : decode cX11_route 108 = .ok (.getfield 193, 3) := by decide +kernel
theorem dX11_route_111 : decode cX11_route 111 = .ok (.iload_n 1, 1) := by decide +kernel
theorem dX11_route_112 : decode cX11_route 112 = .ok (.iaload, 1) := by decide +kernel
theorem dX11_route_113 : decode cX11_route 113 = .ok (.ireturn, 1) := by decide +kernel
theorem dX11_route_114 : decode cX11_route 114 = .ok (.aload_n 0, 1) := by decide +kernel
theorem dX11_route_115 : decode cX11_route 115 = .ok (.getfield 19, 3) := by decide +kernel
theorem dX11_route_118 : decode cX11_route 118 = .ok (.getfield 196, 3) := by decide +kernel
theorem dX11_route_121 : decode cX11_route 121 = .ok (.iload_n 1, 1) := by decide +kernel
theorem dX11_route_122 : decode cX11_route 122 = .ok (.iaload, 1) := by decide +kernel
theorem dX11_route_123 : decode cX11_route 123 = .ok (.ireturn, 1) := by decide +kernel
theorem dX11_route_124 : decode cX11_route 124 = .ok (.aload_n 0, 1) := by decide +kernel
theorem dX11_route_125 : decode cX11_route 125 = .ok (.getfield 19, 3) := by decide +kernel
theorem dX11_route_128 : decode cX11_route 128 = .ok (.getfield 199, 3) := by decide +kernel
theorem dX11_route_131 : decode cX11_route 131 = .ok (.iload_n 1, 1) := by decide +kernel
theorem dX11_route_132 : decode cX11_route 132 = .ok (.iaload, 1) := by decide +kernel
theorem dX11_route_133 : decode cX11_route 133 = .ok (.ireturn, 1) := by decide +kernel
theorem dX11_route_134 : decode cX11_route 134 = .ok (.aload_n 0, 1) := by decide +kernel
theorem dX11_route_135 : decode cX11_route 135 = .ok (.getfield 35, 3) := by decide +kernel
theorem dX11_route_138 : decode cX11_route 138 = .ok (.getfield 184, 3) := by decide +kernel
theorem dX11_route_141 : decode cX11_route 141 = .ok (.iload_n 1, 1) := by decide +kernel
theorem dX11_route_142 : decode cX11_route 142 = .ok (.iaload, 1) := by decide +kernel
theorem dX11_route_143 : decode cX11_route 143 = .ok (.iconst 3, 1) := by decide +kernel
theorem dX11_route_144 : decode cX11_route 144 = .ok (.if_icmp .ne 15, 3) := by decide +kernel
theorem dX11_route_147 : decode cX11_route 147 = .ok (.aload_n 0, 1) := by decide +kernel
theorem dX11_route_148 : decode cX11_route 148 = .ok (.getfield 35, 3) := by decide +kernel
theorem dX11_route_151 : decode cX11_route 151 = .ok (.getfield 202, 3) := by decide +kernel
theorem dX11_route_154 : decode cX11_route 154 = .ok (.iload_n 1, 1) := by decide +kernel
theorem dX11_route_155 : decode cX11_route 155 = .ok (.iaload, 1) := by decide +kernel
theorem dX11_route_156 : decode cX11_route 156 = .ok (.goto 4, 3) := by decide +kernel
theorem dX11_route_159 : decode cX11_route 159 = .ok (.iconst 0, 1) := by decide +kernel
theorem dX11_route_160 : decode cX11_route 160 = .ok (.ireturn, 1) := by decide +kernel
theorem dX11_route_161 : decode cX11_route 161 = .ok (.aload_n 0, 1) := by decide +kernel
theorem dX11_route_162 : decode cX11_route 162 = .ok (.getfield 35, 3) := by decide +kernel
theorem dX11_route_165 : decode cX11_route 165 = .ok (.getfield 184, 3) := by decide +kernel
theorem dX11_route_168 : decode cX11_route 168 = .ok (.iload_n 1, 1) := by decide +kernel
theorem dX11_route_169 : decode cX11_route 169 = .ok (.iaload, 1) := by decide +kernel
theorem dX11_route_170 : decode cX11_route 170 = .ok (.iconst 2, 1) := by decide +kernel
theorem dX11_route_171 : decode cX11_route 171 = .ok (.if_icmp .ne 15, 3) := by decide +kernel
theorem dX11_route_174 : decode cX11_route 174 = .ok (.aload_n 0, 1) := by decide +kernel
theorem dX11_route_175 : decode cX11_route 175 = .ok (.getfield 35, 3) := by decide +kernel
theorem dX11_route_178 : decode cX11_route 178 = .ok (.getfield 205, 3) := by decide +kernel
theorem dX11_route_181 : decode cX11_route 181 = .ok (.iload_n 1, 1) := by decide +kernel
theorem dX11_route_182 : decode cX11_route 182 = .ok (.iaload, 1) := by decide +kernel
theorem dX11_route_183 : decode cX11_route 183 = .ok (.goto 4, 3) := by decide +kernel
theorem dX11_route_186 : decode cX11_route 186 = .ok (.iconst (-1), 1) := by decide +kernel
theorem dX11_route_187 : decode cX11_route 187 = .ok (.ireturn, 1) := by decide +kernel
theorem dX11_route_188 : decode cX11_route 188 = .ok (.iconst (-1), 1) := by decide +kernel
theorem dX11_route_189 : decode cX11_route 189 = .ok (.ireturn, 1) := by decide +kernel
theorem dX11_over_0 : decode cX11_over 0 = .ok (.aload_n 0, 1) := by decide +kernel
theorem dX11_over_1 : decode cX11_over 1 = .ok (.getfield 19, 3) := by decide +kernel
theorem dX11_over_4 : decode cX11_over 4 = .ok (.iconst 4, 1) := by decide +kernel
theorem dX11_over_5 : decode cX11_over 5 = .ok (.iload_n 1, 1) := by decide +kernel
theorem dX11_over_6 : decode cX11_over 6 = .ok (.invokevirtual 134, 3) := by decide +kernel
theorem dX11_over_9 : decode cX11_over 9 = .ok (.ifCond .eq 20, 3) := by decide +kernel
theorem dX11_over_12 : decode cX11_over 12 = .ok (.iload_n 2, 1) := by decide +kernel
theorem dX11_over_13 : decode cX11_over 13 = .ok (.ifCond .lt 16, 3) := by decide +kernel
theorem dX11_over_16 : decode cX11_over 16 = .ok (.iload_n 2, 1) := by decide +kernel
theorem dX11_over_17 : decode cX11_over 17 = .ok (.aload_n 0, 1) := by decide +kernel
theorem dX11_over_18 : decode cX11_over 18 = .ok (.getfield 19, 3) := by decide +kernel
theorem dX11_over_21 : decode cX11_over 21 = .ok (.getfield 187, 3) := by decide +kernel
theorem dX11_over_24 : decode cX11_over 24 = .ok (.iload_n 1, 1) := by decide +kernel
theorem dX11_over_25 : decode cX11_over 25 = .ok (.iaload, 1) := by decide +kernel
theorem dX11_over_26 : decode cX11_over 26 = .ok (.if_icmp .lt 5, 3) := by decide +kernel
theorem dX11_over_29 : decode cX11_over 29 = .ok (.iconst (-1), 1) := by decide +kernel
theorem dX11_over_30 : decode cX11_over 30 = .ok (.ireturn, 1) := by decide +kernel
theorem dX11_over_31 : decode cX11_over 31 = .ok (.aload_n 0, 1) := by decide +kernel
theorem dX11_over_32 : decode cX11_over 32 = .ok (.getfield 19, 3) := by decide +kernel
theorem dX11_over_35 : decode cX11_over 35 = .ok (.iload_n 1, 1) := by decide +kernel
theorem dX11_over_36 : decode cX11_over 36 = .ok (.iload_n 2, 1) := by decide +kernel
theorem dX11_over_37 : decode cX11_over 37 = .ok (.invokevirtual 208, 3) := by decide +kernel
theorem dX11_over_40 : decode cX11_over 40 = .ok (.ireturn, 1) := by decide +kernel
theorem dX11_train_0 : decode cX11_train 0 = .ok (.aload_n 0, 1) := by decide +kernel
theorem dX11_train_1 : decode cX11_train 1 = .ok (.getfield 19, 3) := by decide +kernel
theorem dX11_train_4 : decode cX11_train 4 = .ok (.bipush 6, 2) := by decide +kernel
theorem dX11_train_6 : decode cX11_train 6 = .ok (.iload_n 1, 1) := by decide +kernel
theorem dX11_train_7 : decode cX11_train 7 = .ok (.invokevirtual 134, 3) := by decide +kernel
theorem dX11_train_10 : decode cX11_train 10 = .ok (.ifCond .ne 13, 3) := by decide +kernel
theorem dX11_train_13 : decode cX11_train 13 = .ok (.new 211, 3) := by decide +kernel
theorem dX11_train_16 : decode cX11_train 16 = .ok (.dup, 1) := by decide +kernel
theorem dX11_train_17 : decode cX11_train 17 = .ok (.ldc 213, 2) := by decide +kernel
theorem dX11_train_19 : decode cX11_train 19 = .ok (.invokespecial 215, 3) := by decide +kernel
theorem dX11_train_22 : decode cX11_train 22 = .ok (.athrow, 1) := by decide +kernel
theorem dX11_train_23 : decode cX11_train 23 = .ok (.iload_n 2, 1) := by decide +kernel
theorem dX11_train_24 : decode cX11_train 24 = .ok (.tableswitch 117 0 6 #[44, 54, 64, 74, 86, 98, 108], 44) := by decide +kernel
theorem dX11_train_68 : decode cX11_train 68 = .ok (.aload_n 0, 1) := by decide +kernel
theorem dX11_train_69 : decode cX11_train 69 = .ok (.getfield 35, 3) := by decide +kernel
theorem dX11_train_72 : decode cX11_train 72 = .ok (.getfield 218, 3) := by decide +kernel
theorem dX11_train_75 : decode cX11_train 75 = .ok (.iload_n 1, 1) := by decide +kernel
theorem dX11_train_76 : decode cX11_train 76 = .ok (.iaload, 1) := by decide +kernel
theorem dX11_train_77 : decode cX11_train 77 = .ok (.ireturn, 1) := by decide +kernel
theorem dX11_train_78 : decode cX11_train 78 = .ok (.aload_n 0, 1) := by decide +kernel
theorem dX11_train_79 : decode cX11_train 79 = .ok (.getfield 19, 3) := by decide +kernel
theorem dX11_train_82 : decode cX11_train 82 = .ok (.getfield 221, 3) := by decide +kernel
theorem dX11_train_85 : decode cX11_train 85 = .ok (.iload_n 1, 1) := by decide +kernel
theorem dX11_train_86 : decode cX11_train 86 = .ok (.iaload, 1) := by decide +kernel
theorem dX11_train_87 : decode cX11_train 87 = .ok (.ireturn, 1) := by decide +kernel
theorem dX11_train_88 : decode cX11_train 88 = .ok (.aload_n 0, 1) := by decide +kernel
theorem dX11_train_89 : decode cX11_train 89 = .ok (.getfield 35, 3) := by decide +kernel
theorem dX11_train_92 : decode cX11_train 92 = .ok (.getfield 224, 3) := by decide +kernel
theorem dX11_train_95 : decode cX11_train 95 = .ok (.iload_n 1, 1) := by decide +kernel
theorem dX11_train_96 : decode cX11_train 96 = .ok (.iaload, 1) := by decide +kernel
theorem dX11_train_97 : decode cX11_train 97 = .ok (.ireturn, 1) := by decide +kernel
theorem dX11_train_98 : decode cX11_train 98 = .ok (.aload_n 0, 1) := by decide +kernel
theorem dX11_train_99 : decode cX11_train 99 = .ok (.getfield 35, 3) := by decide +kernel
theorem dX11_train_102 : decode cX11_train 102 = .ok (.getfield 227, 3) := by decide +kernel
theorem dX11_train_105 : decode cX11_train 105 = .ok (.iload_n 1, 1) := by decide +kernel
theorem dX11_train_106 : decode cX11_train 106 = .ok (.ishr, 1) := by decide +kernel
theorem dX11_train_107 : decode cX11_train 107 = .ok (.iconst 1, 1) := by decide +kernel
theorem dX11_train_108 : decode cX11_train 108 = .ok (.iand, 1) := by decide +kernel
theorem dX11_train_109 : decode cX11_train 109 = .ok (.ireturn, 1) := by decide +kernel
theorem dX11_train_110 : decode cX11_train 110 = .ok (.aload_n 0, 1) := by decide +kernel
theorem dX11_train_111 : decode cX11_train 111 = .ok (.getfield 35, 3) := by decide +kernel
theorem dX11_train_114 : decode cX11_train 114 = .ok (.getfield 230, 3) := by decide +kernel
theorem dX11_train_117 : decode cX11_train 117 = .ok (.iload_n 1, 1) := by decide +kernel
theorem dX11_train_118 : decode cX11_train 118 = .ok (.ishr, 1) := by decide +kernel
theorem dX11_train_119 : decode cX11_train 119 = .ok (.iconst 1, 1) := by decide +kernel
theorem dX11_train_120 : decode cX11_train 120 = .ok (.iand, 1) := by decide +kernel
theorem dX11_train_121 : decode cX11_train 121 = .ok (.ireturn, 1) := by decide +kernel
theorem dX11_train_122 : decode cX11_train 122 = .ok (.aload_n 0, 1) := by decide +kernel
theorem dX11_train_123 : decode cX11_train 123 = .ok (.getfield 35, 3) := by decide +kernel
theorem dX11_train_126 : decode cX11_train 126 = .ok (.getfield 233, 3) := by decide +kernel
theorem dX11_train_129 : decode cX11_train 129 = .ok (.iload_n 1, 1) := by decide +kernel
theorem dX11_train_130 : decode cX11_train 130 = .ok (.iaload, 1) := by decide +kernel
theorem dX11_train_131 : decode cX11_train 131 = .ok (.ireturn, 1) := by decide +kernel
theorem dX11_train_132 : decode cX11_train 132 = .ok (.aload_n 0, 1) := by decide +kernel
theorem dX11_train_133 : decode cX11_train 133 = .ok (.getfield 35, 3) := by decide +kernel
theorem dX11_train_136 : decode cX11_train 136 = .ok (.iload_n 1, 1) := by decide +kernel
theorem dX11_train_137 : decode cX11_train 137 = .ok (.invokevirtual 236, 3) := by decide +kernel
theorem dX11_train_140 : decode cX11_train 140 = .ok (.ireturn, 1) := by decide +kernel
theorem dX11_train_141 : decode cX11_train 141 = .ok (.new 211, 3) := by decide +kernel
theorem dX11_train_144 : decode cX11_train 144 = .ok (.dup, 1) := by decide +kernel
theorem dX11_train_145 : decode cX11_train 145 = .ok (.ldc 239, 2) := by decide +kernel
theorem dX11_train_147 : decode cX11_train 147 = .ok (.invokespecial 215, 3) := by decide +kernel
theorem dX11_train_150 : decode cX11_train 150 = .ok (.athrow, 1) := by decide +kernel
theorem dX11_now_0 : decode cX11_now 0 = .ok (.iload_n 1, 1) := by decide +kernel
theorem dX11_now_1 : decode cX11_now 1 = .ok (.tableswitch 99 0 6 #[43, 51, 59, 67, 75, 83, 91], 43) := by decide +kernel
theorem dX11_now_44 : decode cX11_now 44 = .ok (.aload_n 0, 1) := by decide +kernel
theorem dX11_now_45 : decode cX11_now 45 = .ok (.getfield 35, 3) := by decide +kernel
theorem dX11_now_48 : decode cX11_now 48 = .ok (.getfield 241, 3) := by decide +kernel
theorem dX11_now_51 : decode cX11_now 51 = .ok (.ireturn, 1) := by decide +kernel
theorem dX11_now_52 : decode cX11_now 52 = .ok (.aload_n 0, 1) := by decide +kernel
theorem dX11_now_53 : decode cX11_now 53 = .ok (.getfield 35, 3) := by decide +kernel
theorem dX11_now_56 : decode cX11_now 56 = .ok (.invokevirtual 146, 3) := by decide +kernel
theorem dX11_now_59 : decode cX11_now 59 = .ok (.ireturn, 1) := by decide +kernel
theorem dX11_now_60 : decode cX11_now 60 = .ok (.aload_n 0, 1) := by decide +kernel
theorem dX11_now_61 : decode cX11_now 61 = .ok (.getfield 35, 3) := by decide +kernel
theorem dX11_now_64 : decode cX11_now 64 = .ok (.invokevirtual 244, 3) := by decide +kernel
theorem dX11_now_67 : decode cX11_now 67 = .ok (.ireturn, 1) := by decide +kernel
theorem dX11_now_68 : decode cX11_now 68 = .ok (.aload_n 0, 1) := by decide +kernel
theorem dX11_now_69 : decode cX11_now 69 = .ok (.getfield 35, 3) := by decide +kernel
theorem dX11_now_72 : decode cX11_now 72 = .ok (.getfield 163, 3) := by decide +kernel
theorem dX11_now_75 : decode cX11_now 75 = .ok (.ireturn, 1) := by decide +kernel
theorem dX11_now_76 : decode cX11_now 76 = .ok (.aload_n 0, 1) := by decide +kernel
theorem dX11_now_77 : decode cX11_now 77 = .ok (.getfield 35, 3) := by decide +kernel
theorem dX11_now_80 : decode cX11_now 80 = .ok (.invokevirtual 247, 3) := by decide +kernel
theorem dX11_now_83 : decode cX11_now 83 = .ok (.ireturn, 1) := by decide +kernel
theorem dX11_now_84 : decode cX11_now 84 = .ok (.aload_n 0, 1) := by decide +kernel
theorem dX11_now_85 : decode cX11_now 85 = .ok (.getfield 35, 3) := by decide +kernel
theorem dX11_now_88 : decode cX11_now 88 = .ok (.getfield 227, 3) := by decide +kernel
theorem dX11_now_91 : decode cX11_now 91 = .ok (.ireturn, 1) := by decide +kernel
theorem dX11_now_92 : decode cX11_now 92 = .ok (.aload_n 0, 1) := by decide +kernel
theorem dX11_now_93 : decode cX11_now 93 = .ok (.getfield 35, 3) := by decide +kernel
theorem dX11_now_96 : decode cX11_now 96 = .ok (.getfield 250, 3) := by decide +kernel
theorem dX11_now_99 : decode cX11_now 99 = .ok (.ireturn, 1) := by decide +kernel
theorem dX11_now_100 : decode cX11_now 100 = .ok (.iconst (-1), 1) := by decide +kernel
theorem dX11_now_101 : decode cX11_now 101 = .ok (.ireturn, 1) := by decide +kernel
theorem dX11_set_0 : decode cX11_set 0 = .ok (.aload_n 0, 1) := by decide +kernel
theorem dX11_set_1 : decode cX11_set 1 = .ok (.bipush 13, 2) := by decide +kernel
theorem dX11_set_3 : decode cX11_set 3 = .ok (.iload_n 1, 1) := by decide +kernel
theorem dX11_set_4 : decode cX11_set 4 = .ok (.iconst 0, 1) := by decide +kernel
theorem dX11_set_5 : decode cX11_set 5 = .ok (.invokevirtual 253, 3) := by decide +kernel
theorem dX11_set_8 : decode cX11_set 8 = .ok (.ireturn, 1) := by decide +kernel
theorem dX11_back_0 : decode cX11_back 0 = .ok (.aload_n 0, 1) := by decide +kernel
theorem dX11_back_1 : decode cX11_back 1 = .ok (.bipush 14, 2) := by decide +kernel
theorem dX11_back_3 : decode cX11_back 3 = .ok (.iload_n 1, 1) := by decide +kernel
theorem dX11_back_4 : decode cX11_back 4 = .ok (.iconst 0, 1) := by decide +kernel
theorem dX11_back_5 : decode cX11_back 5 = .ok (.invokevirtual 253, 3) := by decide +kernel
theorem dX11_back_8 : decode cX11_back 8 = .ok (.ireturn, 1) := by decide +kernel
theorem dX11_turn_0 : decode cX11_turn 0 = .ok (.aload_n 0, 1) := by decide +kernel
theorem dX11_turn_1 : decode cX11_turn 1 = .ok (.bipush 15, 2) := by decide +kernel
theorem dX11_turn_3 : decode cX11_turn 3 = .ok (.iload_n 1, 1) := by decide +kernel
theorem dX11_turn_4 : decode cX11_turn 4 = .ok (.iconst 0, 1) := by decide +kernel
theorem dX11_turn_5 : decode cX11_turn 5 = .ok (.invokevirtual 253, 3) := by decide +kernel
theorem dX11_turn_8 : decode cX11_turn 8 = .ok (.ireturn, 1) := by decide +kernel
theorem dX11_fail_0 : decode cX11_fail 0 = .ok (.iload_n 2, 1) := by decide +kernel
theorem dX11_fail_1 : decode cX11_fail 1 = .ok (.ifCond .eq 10, 3) := by decide +kernel
theorem dX11_fail_4 : decode cX11_fail 4 = .ok (.iload_n 2, 1) := by decide +kernel
theorem dX11_fail_5 : decode cX11_fail 5 = .ok (.iconst 1, 1) := by decide +kernel
theorem dX11_fail_6 : decode cX11_fail 6 = .ok (.if_icmp .eq 5, 3) := by decide +kernel
theorem dX11_fail_9 : decode cX11_fail 9 = .ok (.iconst (-1), 1) := by decide +kernel
theorem dX11_fail_10 : decode cX11_fail 10 = .ok (.ireturn, 1) := by decide +kernel
theorem dX11_fail_11 : decode cX11_fail 11 = .ok (.aload_n 0, 1) := by decide +kernel
theorem dX11_fail_12 : decode cX11_fail 12 = .ok (.bipush 16, 2) := by decide +kernel
theorem dX11_fail_14 : decode cX11_fail 14 = .ok (.iload_n 1, 1) := by decide +kernel
theorem dX11_fail_15 : decode cX11_fail 15 = .ok (.iload_n 2, 1) := by decide +kernel
theorem dX11_fail_16 : decode cX11_fail 16 = .ok (.invokevirtual 253, 3) := by decide +kernel
theorem dX11_fail_19 : decode cX11_fail 19 = .ok (.ireturn, 1) := by decide +kernel
theorem dX11_mend_0 : decode cX11_mend 0 = .ok (.aload_n 0, 1) := by decide +kernel
theorem dX11_mend_1 : decode cX11_mend 1 = .ok (.bipush 19, 2) := by decide +kernel
theorem dX11_mend_3 : decode cX11_mend 3 = .ok (.iload_n 1, 1) := by decide +kernel
theorem dX11_mend_4 : decode cX11_mend 4 = .ok (.iconst 0, 1) := by decide +kernel
theorem dX11_mend_5 : decode cX11_mend 5 = .ok (.invokevirtual 253, 3) := by decide +kernel
theorem dX11_mend_8 : decode cX11_mend 8 = .ok (.ireturn, 1) := by decide +kernel
theorem dX11_ticks_0 : decode cX11_ticks 0 = .ok (.iload_n 1, 1) := by decide +kernel
theorem dX11_ticks_1 : decode cX11_ticks 1 = .ok (.iconst 1, 1) := by decide +kernel
theorem dX11_ticks_2 : decode cX11_ticks 2 = .ok (.if_icmp .lt 9, 3) := by decide +kernel
theorem dX11_ticks_5 : decode cX11_ticks 5 = .ok (.iload_n 1, 1) := by decide +kernel
theorem dX11_ticks_6 : decode cX11_ticks 6 = .ok (.bipush 60, 2) := by decide +kernel
theorem dX11_ticks_8 : decode cX11_ticks 8 = .ok (.if_icmp .le 5, 3) := by decide +kernel
theorem dX11_ticks_11 : decode cX11_ticks 11 = .ok (.iconst (-1), 1) := by decide +kernel
theorem dX11_ticks_12 : decode cX11_ticks 12 = .ok (.ireturn, 1) := by decide +kernel
theorem dX11_ticks_13 : decode cX11_ticks 13 = .ok (.aload_n 0, 1) := by decide +kernel
theorem dX11_ticks_14 : decode cX11_ticks 14 = .ok (.getfield 45, 3) := by decide +kernel
theorem dX11_ticks_17 : decode cX11_ticks 17 = .ok (.aload_n 0, 1) := by decide +kernel
theorem dX11_ticks_18 : decode cX11_ticks 18 = .ok (.getfield 35, 3) := by decide +kernel
theorem dX11_ticks_21 : decode cX11_ticks 21 = .ok (.invokevirtual 257, 3) := by decide +kernel
theorem dX11_ticks_24 : decode cX11_ticks 24 = .ok (.aload_n 0, 1) := by decide +kernel
theorem dX11_ticks_25 : decode cX11_ticks 25 = .ok (.getfield 35, 3) := by decide +kernel
theorem dX11_ticks_28 : decode cX11_ticks 28 = .ok (.iload_n 1, 1) := by decide +kernel
theorem dX11_ticks_29 : decode cX11_ticks 29 = .ok (.invokevirtual 261, 3) := by decide +kernel
theorem dX11_ticks_32 : decode cX11_ticks 32 = .ok (.istore_n 2, 1) := by decide +kernel
theorem dX11_ticks_33 : decode cX11_ticks 33 = .ok (.iload_n 2, 1) := by decide +kernel
theorem dX11_ticks_34 : decode cX11_ticks 34 = .ok (.ifCond .le 10, 3) := by decide +kernel
theorem dX11_ticks_37 : decode cX11_ticks 37 = .ok (.aload_n 0, 1) := by decide +kernel
theorem dX11_ticks_38 : decode cX11_ticks 38 = .ok (.getfield 45, 3) := by decide +kernel
theorem dX11_ticks_41 : decode cX11_ticks 41 = .ok (.invokevirtual 264, 3) := by decide +kernel
theorem dX11_ticks_44 : decode cX11_ticks 44 = .ok (.iload_n 2, 1) := by decide +kernel
theorem dX11_ticks_45 : decode cX11_ticks 45 = .ok (.ireturn, 1) := by decide +kernel
theorem dX11_undo_0 : decode cX11_undo 0 = .ok (.aload_n 0, 1) := by decide +kernel
theorem dX11_undo_1 : decode cX11_undo 1 = .ok (.getfield 45, 3) := by decide +kernel
theorem dX11_undo_4 : decode cX11_undo 4 = .ok (.aload_n 0, 1) := by decide +kernel
theorem dX11_undo_5 : decode cX11_undo 5 = .ok (.getfield 35, 3) := by decide +kernel
theorem dX11_undo_8 : decode cX11_undo 8 = .ok (.invokevirtual 267, 3) := by decide +kernel
theorem dX11_undo_11 : decode cX11_undo 11 = .ok (.ireturn, 1) := by decide +kernel
theorem dX11_lacking_0 : decode cX11_lacking 0 = .ok (.aload_n 0, 1) := by decide +kernel
theorem dX11_lacking_1 : decode cX11_lacking 1 = .ok (.getfield 19, 3) := by decide +kernel
theorem dX11_lacking_4 : decode cX11_lacking 4 = .ok (.invokevirtual 271, 3) := by decide +kernel
theorem dX11_lacking_7 : decode cX11_lacking 7 = .ok (.ireturn, 1) := by decide +kernel
theorem dX11_lacks_0 : decode cX11_lacks 0 = .ok (.aload_n 0, 1) := by decide +kernel
theorem dX11_lacks_1 : decode cX11_lacks 1 = .ok (.getfield 19, 3) := by decide +kernel
theorem dX11_lacks_4 : decode cX11_lacks 4 = .ok (.iload_n 1, 1) := by decide +kernel
theorem dX11_lacks_5 : decode cX11_lacks 5 = .ok (.invokevirtual 274, 3) := by decide +kernel
theorem dX11_lacks_8 : decode cX11_lacks 8 = .ok (.ireturn, 1) := by decide +kernel
theorem dX11_spare_0 : decode cX11_spare 0 = .ok (.aload_n 0, 1) := by decide +kernel
theorem dX11_spare_1 : decode cX11_spare 1 = .ok (.getfield 19, 3) := by decide +kernel
theorem dX11_spare_4 : decode cX11_spare 4 = .ok (.invokevirtual 277, 3) := by decide +kernel
theorem dX11_spare_7 : decode cX11_spare 7 = .ok (.ireturn, 1) := by decide +kernel
theorem dX11_pulls_0 : decode cX11_pulls 0 = .ok (.aload_n 0, 1) := by decide +kernel
theorem dX11_pulls_1 : decode cX11_pulls 1 = .ok (.getfield 75, 3) := by decide +kernel
theorem dX11_pulls_4 : decode cX11_pulls 4 = .ok (.aload_n 0, 1) := by decide +kernel
theorem dX11_pulls_5 : decode cX11_pulls 5 = .ok (.getfield 19, 3) := by decide +kernel
theorem dX11_pulls_8 : decode cX11_pulls 8 = .ok (.aload_n 0, 1) := by decide +kernel
theorem dX11_pulls_9 : decode cX11_pulls 9 = .ok (.getfield 35, 3) := by decide +kernel
theorem dX11_pulls_12 : decode cX11_pulls 12 = .ok (.iload_n 1, 1) := by decide +kernel
theorem dX11_pulls_13 : decode cX11_pulls 13 = .ok (.invokevirtual 280, 3) := by decide +kernel
theorem dX11_pulls_16 : decode cX11_pulls 16 = .ok (.ireturn, 1) := by decide +kernel
theorem dX11_pullsAt_0 : decode cX11_pullsAt 0 = .ok (.aload_n 0, 1) := by decide +kernel
theorem dX11_pullsAt_1 : decode cX11_pullsAt 1 = .ok (.getfield 75, 3) := by decide +kernel
theorem dX11_pullsAt_4 : decode cX11_pullsAt 4 = .ok (.iload_n 1, 1) := by decide +kernel
theorem dX11_pullsAt_5 : decode cX11_pullsAt 5 = .ok (.invokevirtual 284, 3) := by decide +kernel
theorem dX11_pullsAt_8 : decode cX11_pullsAt 8 = .ok (.ireturn, 1) := by decide +kernel
theorem dX11_together_0 : decode cX11_together 0 = .ok (.aload_n 0, 1) := by decide +kernel
theorem dX11_together_1 : decode cX11_together 1 = .ok (.aload_n 0, 1) := by decide +kernel
theorem dX11_together_2 : decode cX11_together 2 = .ok (.getfield 19, 3) := by decide +kernel
theorem dX11_together_5 : decode cX11_together 5 = .ok (.invokevirtual 287, 3) := by decide +kernel
theorem dX11_together_8 : decode cX11_together 8 = .ok (.putfield 97, 3) := by decide +kernel
theorem dX11_together_11 : decode cX11_together 11 = .ok (.aload_n 0, 1) := by decide +kernel
theorem dX11_together_12 : decode cX11_together 12 = .ok (.getfield 97, 3) := by decide +kernel
