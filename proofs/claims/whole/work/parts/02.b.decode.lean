theorem dX2_init_0 : decode cX2_init 0 = .ok (.aload_n 0, 1) := by decide +kernel
theorem dX2_init_1 : decode cX2_init 1 = .ok (.invokespecial 5, 3) := by decide +kernel
theorem dX2_init_4 : decode cX2_init 4 = .ok (.aload_n 0, 1) := by decide +kernel
theorem dX2_init_5 : decode cX2_init 5 = .ok (.bipush 8, 2) := by decide +kernel
theorem dX2_init_7 : decode cX2_init 7 = .ok (.newarray .int, 2) := by decide +kernel
theorem dX2_init_9 : decode cX2_init 9 = .ok (.putfield 11, 3) := by decide +kernel
theorem dX2_init_12 : decode cX2_init 12 = .ok (.aload_n 0, 1) := by decide +kernel
theorem dX2_init_13 : decode cX2_init 13 = .ok (.bipush 8, 2) := by decide +kernel
theorem dX2_init_15 : decode cX2_init 15 = .ok (.newarray .boolean, 2) := by decide +kernel
theorem dX2_init_17 : decode cX2_init 17 = .ok (.putfield 15, 3) := by decide +kernel
theorem dX2_init_20 : decode cX2_init 20 = .ok (.aload_n 0, 1) := by decide +kernel
theorem dX2_init_21 : decode cX2_init 21 = .ok (.bipush 11, 2) := by decide +kernel
theorem dX2_init_23 : decode cX2_init 23 = .ok (.newarray .int, 2) := by decide +kernel
theorem dX2_init_25 : decode cX2_init 25 = .ok (.putfield 19, 3) := by decide +kernel
theorem dX2_init_28 : decode cX2_init 28 = .ok (.aload_n 0, 1) := by decide +kernel
theorem dX2_init_29 : decode cX2_init 29 = .ok (.bipush 8, 2) := by decide +kernel
theorem dX2_init_31 : decode cX2_init 31 = .ok (.newarray .int, 2) := by decide +kernel
theorem dX2_init_33 : decode cX2_init 33 = .ok (.putfield 22, 3) := by decide +kernel
theorem dX2_init_36 : decode cX2_init 36 = .ok (.aload_n 0, 1) := by decide +kernel
theorem dX2_init_37 : decode cX2_init 37 = .ok (.bipush 8, 2) := by decide +kernel
theorem dX2_init_39 : decode cX2_init 39 = .ok (.newarray .int, 2) := by decide +kernel
theorem dX2_init_41 : decode cX2_init 41 = .ok (.putfield 25, 3) := by decide +kernel
theorem dX2_init_44 : decode cX2_init 44 = .ok (.aload_n 0, 1) := by decide +kernel
theorem dX2_init_45 : decode cX2_init 45 = .ok (.bipush 9, 2) := by decide +kernel
theorem dX2_init_47 : decode cX2_init 47 = .ok (.sipush 11264, 3) := by decide +kernel
theorem dX2_init_50 : decode cX2_init 50 = .ok (.multianewarray 28 2, 4) := by decide +kernel
theorem dX2_init_54 : decode cX2_init 54 = .ok (.putfield 30, 3) := by decide +kernel
theorem dX2_init_57 : decode cX2_init 57 = .ok (.aload_n 0, 1) := by decide +kernel
theorem dX2_init_58 : decode cX2_init 58 = .ok (.bipush 9, 2) := by decide +kernel
theorem dX2_init_60 : decode cX2_init 60 = .ok (.sipush 6144, 3) := by decide +kernel
theorem dX2_init_63 : decode cX2_init 63 = .ok (.multianewarray 33 2, 4) := by decide +kernel
theorem dX2_init_67 : decode cX2_init 67 = .ok (.putfield 35, 3) := by decide +kernel
theorem dX2_init_70 : decode cX2_init 70 = .ok (.aload_n 0, 1) := by decide +kernel
theorem dX2_init_71 : decode cX2_init 71 = .ok (.bipush 9, 2) := by decide +kernel
theorem dX2_init_73 : decode cX2_init 73 = .ok (.newarray .int, 2) := by decide +kernel
theorem dX2_init_75 : decode cX2_init 75 = .ok (.putfield 38, 3) := by decide +kernel
theorem dX2_init_78 : decode cX2_init 78 = .ok (.aload_n 0, 1) := by decide +kernel
theorem dX2_init_79 : decode cX2_init 79 = .ok (.bipush 10, 2) := by decide +kernel
theorem dX2_init_81 : decode cX2_init 81 = .ok (.bipush 9, 2) := by decide +kernel
theorem dX2_init_83 : decode cX2_init 83 = .ok (.multianewarray 33 2, 4) := by decide +kernel
theorem dX2_init_87 : decode cX2_init 87 = .ok (.putfield 41, 3) := by decide +kernel
theorem dX2_init_90 : decode cX2_init 90 = .ok (.aload_n 0, 1) := by decide +kernel
theorem dX2_init_91 : decode cX2_init 91 = .ok (.iconst (-1), 1) := by decide +kernel
theorem dX2_init_92 : decode cX2_init 92 = .ok (.putfield 44, 3) := by decide +kernel
theorem dX2_init_95 : decode cX2_init 95 = .ok (.return_, 1) := by decide +kernel
theorem dX2_leastNew_0 : decode cX2_leastNew 0 = .ok (.aload_n 0, 1) := by decide +kernel
theorem dX2_leastNew_1 : decode cX2_leastNew 1 = .ok (.getfield 44, 3) := by decide +kernel
theorem dX2_leastNew_4 : decode cX2_leastNew 4 = .ok (.ireturn, 1) := by decide +kernel
theorem dX2_bestWays_0 : decode cX2_bestWays 0 = .ok (.aload_n 0, 1) := by decide +kernel
theorem dX2_bestWays_1 : decode cX2_bestWays 1 = .ok (.getfield 48, 3) := by decide +kernel
theorem dX2_bestWays_4 : decode cX2_bestWays 4 = .ok (.lreturn, 1) := by decide +kernel
theorem dX2_hasWay_0 : decode cX2_hasWay 0 = .ok (.aload_n 0, 1) := by decide +kernel
theorem dX2_hasWay_1 : decode cX2_hasWay 1 = .ok (.getfield 44, 3) := by decide +kernel
theorem dX2_hasWay_4 : decode cX2_hasWay 4 = .ok (.iconst (-1), 1) := by decide +kernel
theorem dX2_hasWay_5 : decode cX2_hasWay 5 = .ok (.if_icmp .eq 7, 3) := by decide +kernel
theorem dX2_hasWay_8 : decode cX2_hasWay 8 = .ok (.iconst 1, 1) := by decide +kernel
theorem dX2_hasWay_9 : decode cX2_hasWay 9 = .ok (.goto 4, 3) := by decide +kernel
theorem dX2_hasWay_12 : decode cX2_hasWay 12 = .ok (.iconst 0, 1) := by decide +kernel
theorem dX2_hasWay_13 : decode cX2_hasWay 13 = .ok (.ireturn, 1) := by decide +kernel
theorem dX2_firstAt_0 : decode cX2_firstAt 0 = .ok (.aload_n 0, 1) := by decide +kernel
theorem dX2_firstAt_1 : decode cX2_firstAt 1 = .ok (.iload_n 1, 1) := by decide +kernel
theorem dX2_firstAt_2 : decode cX2_firstAt 2 = .ok (.invokevirtual 52, 3) := by decide +kernel
theorem dX2_firstAt_5 : decode cX2_firstAt 5 = .ok (.ifCond .eq 12, 3) := by decide +kernel
theorem dX2_firstAt_8 : decode cX2_firstAt 8 = .ok (.aload_n 0, 1) := by decide +kernel
theorem dX2_firstAt_9 : decode cX2_firstAt 9 = .ok (.getfield 25, 3) := by decide +kernel
theorem dX2_firstAt_12 : decode cX2_firstAt 12 = .ok (.iload_n 1, 1) := by decide +kernel
theorem dX2_firstAt_13 : decode cX2_firstAt 13 = .ok (.iaload, 1) := by decide +kernel
theorem dX2_firstAt_14 : decode cX2_firstAt 14 = .ok (.goto 4, 3) := by decide +kernel
theorem dX2_firstAt_17 : decode cX2_firstAt 17 = .ok (.iconst (-1), 1) := by decide +kernel
theorem dX2_firstAt_18 : decode cX2_firstAt 18 = .ok (.ireturn, 1) := by decide +kernel
theorem dX2_bestHeldAt_0 : decode cX2_bestHeldAt 0 = .ok (.aload_n 0, 1) := by decide +kernel
theorem dX2_bestHeldAt_1 : decode cX2_bestHeldAt 1 = .ok (.iload_n 1, 1) := by decide +kernel
theorem dX2_bestHeldAt_2 : decode cX2_bestHeldAt 2 = .ok (.invokevirtual 52, 3) := by decide +kernel
theorem dX2_bestHeldAt_5 : decode cX2_bestHeldAt 5 = .ok (.ifCond .eq 12, 3) := by decide +kernel
theorem dX2_bestHeldAt_8 : decode cX2_bestHeldAt 8 = .ok (.aload_n 0, 1) := by decide +kernel
theorem dX2_bestHeldAt_9 : decode cX2_bestHeldAt 9 = .ok (.getfield 22, 3) := by decide +kernel
theorem dX2_bestHeldAt_12 : decode cX2_bestHeldAt 12 = .ok (.iload_n 1, 1) := by decide +kernel
theorem dX2_bestHeldAt_13 : decode cX2_bestHeldAt 13 = .ok (.iaload, 1) := by decide +kernel
theorem dX2_bestHeldAt_14 : decode cX2_bestHeldAt 14 = .ok (.goto 4, 3) := by decide +kernel
theorem dX2_bestHeldAt_17 : decode cX2_bestHeldAt 17 = .ok (.iconst 0, 1) := by decide +kernel
theorem dX2_bestHeldAt_18 : decode cX2_bestHeldAt 18 = .ok (.ireturn, 1) := by decide +kernel
theorem dX2_clear_0 : decode cX2_clear 0 = .ok (.iconst 0, 1) := by decide +kernel
theorem dX2_clear_1 : decode cX2_clear 1 = .ok (.istore_n 2, 1) := by decide +kernel
theorem dX2_clear_2 : decode cX2_clear 2 = .ok (.iload_n 2, 1) := by decide +kernel
theorem dX2_clear_3 : decode cX2_clear 3 = .ok (.bipush 8, 2) := by decide +kernel
theorem dX2_clear_5 : decode cX2_clear 5 = .ok (.if_icmp .gt 50, 3) := by decide +kernel
theorem dX2_clear_8 : decode cX2_clear 8 = .ok (.iconst 0, 1) := by decide +kernel
theorem dX2_clear_9 : decode cX2_clear 9 = .ok (.istore_n 3, 1) := by decide +kernel
theorem dX2_clear_10 : decode cX2_clear 10 = .ok (.iload_n 3, 1) := by decide +kernel
theorem dX2_clear_11 : decode cX2_clear 11 = .ok (.aload_n 0, 1) := by decide +kernel
theorem dX2_clear_12 : decode cX2_clear 12 = .ok (.getfield 38, 3) := by decide +kernel
theorem dX2_clear_15 : decode cX2_clear 15 = .ok (.iload_n 2, 1) := by decide +kernel
theorem dX2_clear_16 : decode cX2_clear 16 = .ok (.iaload, 1) := by decide +kernel
theorem dX2_clear_17 : decode cX2_clear 17 = .ok (.if_icmp .ge 25, 3) := by decide +kernel
theorem dX2_clear_20 : decode cX2_clear 20 = .ok (.aload_n 0, 1) := by decide +kernel
theorem dX2_clear_21 : decode cX2_clear 21 = .ok (.getfield 30, 3) := by decide +kernel
theorem dX2_clear_24 : decode cX2_clear 24 = .ok (.iload_n 2, 1) := by decide +kernel
theorem dX2_clear_25 : decode cX2_clear 25 = .ok (.aaload, 1) := by decide +kernel
theorem dX2_clear_26 : decode cX2_clear 26 = .ok (.aload_n 0, 1) := by decide +kernel
theorem dX2_clear_27 : decode cX2_clear 27 = .ok (.getfield 35, 3) := by decide +kernel
theorem dX2_clear_30 : decode cX2_clear 30 = .ok (.iload_n 2, 1) := by decide +kernel
theorem dX2_clear_31 : decode cX2_clear 31 = .ok (.aaload, 1) := by decide +kernel
theorem dX2_clear_32 : decode cX2_clear 32 = .ok (.iload_n 3, 1) := by decide +kernel
theorem dX2_clear_33 : decode cX2_clear 33 = .ok (.iaload, 1) := by decide +kernel
theorem dX2_clear_34 : decode cX2_clear 34 = .ok (.lconst 0, 1) := by decide +kernel
theorem dX2_clear_35 : decode cX2_clear 35 = .ok (.lastore, 1) := by decide +kernel
theorem dX2_clear_36 : decode cX2_clear 36 = .ok (.iinc 3 1, 3) := by decide +kernel
theorem dX2_clear_39 : decode cX2_clear 39 = .ok (.goto (-29), 3) := by decide +kernel
theorem dX2_clear_42 : decode cX2_clear 42 = .ok (.aload_n 0, 1) := by decide +kernel
theorem dX2_clear_43 : decode cX2_clear 43 = .ok (.getfield 38, 3) := by decide +kernel
theorem dX2_clear_46 : decode cX2_clear 46 = .ok (.iload_n 2, 1) := by decide +kernel
theorem dX2_clear_47 : decode cX2_clear 47 = .ok (.iconst 0, 1) := by decide +kernel
theorem dX2_clear_48 : decode cX2_clear 48 = .ok (.iastore, 1) := by decide +kernel
theorem dX2_clear_49 : decode cX2_clear 49 = .ok (.iinc 2 1, 3) := by decide +kernel
theorem dX2_clear_52 : decode cX2_clear 52 = .ok (.goto (-50), 3) := by decide +kernel
theorem dX2_clear_55 : decode cX2_clear 55 = .ok (.iconst 0, 1) := by decide +kernel
theorem dX2_clear_56 : decode cX2_clear 56 = .ok (.istore_n 2, 1) := by decide +kernel
theorem dX2_clear_57 : decode cX2_clear 57 = .ok (.iload_n 2, 1) := by decide +kernel
theorem dX2_clear_58 : decode cX2_clear 58 = .ok (.bipush 11, 2) := by decide +kernel
theorem dX2_clear_60 : decode cX2_clear 60 = .ok (.if_icmp .ge 18, 3) := by decide +kernel
theorem dX2_clear_63 : decode cX2_clear 63 = .ok (.aload_n 0, 1) := by decide +kernel
theorem dX2_clear_64 : decode cX2_clear 64 = .ok (.getfield 19, 3) := by decide +kernel
theorem dX2_clear_67 : decode cX2_clear 67 = .ok (.iload_n 2, 1) := by decide +kernel
theorem dX2_clear_68 : decode cX2_clear 68 = .ok (.sipush 2047, 3) := by decide +kernel
theorem dX2_clear_71 : decode cX2_clear 71 = .ok (.iastore, 1) := by decide +kernel
theorem dX2_clear_72 : decode cX2_clear 72 = .ok (.iinc 2 1, 3) := by decide +kernel
theorem dX2_clear_75 : decode cX2_clear 75 = .ok (.goto (-18), 3) := by decide +kernel
theorem dX2_clear_78 : decode cX2_clear 78 = .ok (.aload_n 0, 1) := by decide +kernel
theorem dX2_clear_79 : decode cX2_clear 79 = .ok (.iconst 0, 1) := by decide +kernel
theorem dX2_clear_80 : decode cX2_clear 80 = .ok (.iload_n 1, 1) := by decide +kernel
theorem dX2_clear_81 : decode cX2_clear 81 = .ok (.bipush 8, 2) := by decide +kernel
theorem dX2_clear_83 : decode cX2_clear 83 = .ok (.invokestatic 56, 3) := by decide +kernel
theorem dX2_clear_86 : decode cX2_clear 86 = .ok (.invokestatic 62, 3) := by decide +kernel
theorem dX2_clear_89 : decode cX2_clear 89 = .ok (.putfield 65, 3) := by decide +kernel
theorem dX2_clear_92 : decode cX2_clear 92 = .ok (.return_, 1) := by decide +kernel
theorem dX2_allowOver_0 : decode cX2_allowOver 0 = .ok (.iload_n 1, 1) := by decide +kernel
theorem dX2_allowOver_1 : decode cX2_allowOver 1 = .ok (.ifCond .lt 20, 3) := by decide +kernel
theorem dX2_allowOver_4 : decode cX2_allowOver 4 = .ok (.iload_n 1, 1) := by decide +kernel
theorem dX2_allowOver_5 : decode cX2_allowOver 5 = .ok (.bipush 10, 2) := by decide +kernel
theorem dX2_allowOver_7 : decode cX2_allowOver 7 = .ok (.if_icmp .ge 14, 3) := by decide +kernel
theorem dX2_allowOver_10 : decode cX2_allowOver 10 = .ok (.aload_n 0, 1) := by decide +kernel
theorem dX2_allowOver_11 : decode cX2_allowOver 11 = .ok (.getfield 19, 3) := by decide +kernel
theorem dX2_allowOver_14 : decode cX2_allowOver 14 = .ok (.iload_n 1, 1) := by decide +kernel
theorem dX2_allowOver_15 : decode cX2_allowOver 15 = .ok (.iload_n 2, 1) := by decide +kernel
theorem dX2_allowOver_16 : decode cX2_allowOver 16 = .ok (.sipush 1024, 3) := by decide +kernel
theorem dX2_allowOver_19 : decode cX2_allowOver 19 = .ok (.ior, 1) := by decide +kernel
theorem dX2_allowOver_20 : decode cX2_allowOver 20 = .ok (.iastore, 1) := by decide +kernel
theorem dX2_allowOver_21 : decode cX2_allowOver 21 = .ok (.return_, 1) := by decide +kernel
theorem dX2_allowAt_0 : decode cX2_allowAt 0 = .ok (.aload_n 0, 1) := by decide +kernel
theorem dX2_allowAt_1 : decode cX2_allowAt 1 = .ok (.iload_n 1, 1) := by decide +kernel
theorem dX2_allowAt_2 : decode cX2_allowAt 2 = .ok (.invokevirtual 52, 3) := by decide +kernel
theorem dX2_allowAt_5 : decode cX2_allowAt 5 = .ok (.ifCond .eq 17, 3) := by decide +kernel
theorem dX2_allowAt_8 : decode cX2_allowAt 8 = .ok (.aload_n 0, 1) := by decide +kernel
theorem dX2_allowAt_9 : decode cX2_allowAt 9 = .ok (.getfield 11, 3) := by decide +kernel
theorem dX2_allowAt_12 : decode cX2_allowAt 12 = .ok (.iload_n 1, 1) := by decide +kernel
theorem dX2_allowAt_13 : decode cX2_allowAt 13 = .ok (.iload_n 2, 1) := by decide +kernel
theorem dX2_allowAt_14 : decode cX2_allowAt 14 = .ok (.iastore, 1) := by decide +kernel
theorem dX2_allowAt_15 : decode cX2_allowAt 15 = .ok (.aload_n 0, 1) := by decide +kernel
theorem dX2_allowAt_16 : decode cX2_allowAt 16 = .ok (.getfield 15, 3) := by decide +kernel
theorem dX2_allowAt_19 : decode cX2_allowAt 19 = .ok (.iload_n 1, 1) := by decide +kernel
theorem dX2_allowAt_20 : decode cX2_allowAt 20 = .ok (.iload_n 3, 1) := by decide +kernel
theorem dX2_allowAt_21 : decode cX2_allowAt 21 = .ok (.bastore, 1) := by decide +kernel
theorem dX2_allowAt_22 : decode cX2_allowAt 22 = .ok (.return_, 1) := by decide +kernel
theorem dX2_findBest_0 : decode cX2_findBest 0 = .ok (.aload_n 0, 1) := by decide +kernel
theorem dX2_findBest_1 : decode cX2_findBest 1 = .ok (.iconst (-1), 1) := by decide +kernel
theorem dX2_findBest_2 : decode cX2_findBest 2 = .ok (.putfield 44, 3) := by decide +kernel
theorem dX2_findBest_5 : decode cX2_findBest 5 = .ok (.iconst 0, 1) := by decide +kernel
theorem dX2_findBest_6 : decode cX2_findBest 6 = .ok (.istore_n 1, 1) := by decide +kernel
theorem dX2_findBest_7 : decode cX2_findBest 7 = .ok (.iload_n 1, 1) := by decide +kernel
theorem dX2_findBest_8 : decode cX2_findBest 8 = .ok (.aload_n 0, 1) := by decide +kernel
theorem dX2_findBest_9 : decode cX2_findBest 9 = .ok (.getfield 65, 3) := by decide +kernel
theorem dX2_findBest_12 : decode cX2_findBest 12 = .ok (.if_icmp .gt 39, 3) := by decide +kernel
theorem dX2_findBest_15 : decode cX2_findBest 15 = .ok (.aload_n 0, 1) := by decide +kernel
theorem dX2_findBest_16 : decode cX2_findBest 16 = .ok (.getfield 44, 3) := by decide +kernel
theorem dX2_findBest_19 : decode cX2_findBest 19 = .ok (.iconst (-1), 1) := by decide +kernel
theorem dX2_findBest_20 : decode cX2_findBest 20 = .ok (.if_icmp .ne 31, 3) := by decide +kernel
theorem dX2_findBest_23 : decode cX2_findBest 23 = .ok (.aload_n 0, 1) := by decide +kernel
theorem dX2_findBest_24 : decode cX2_findBest 24 = .ok (.iload_n 1, 1) := by decide +kernel
theorem dX2_findBest_25 : decode cX2_findBest 25 = .ok (.invokevirtual 68, 3) := by decide +kernel
theorem dX2_findBest_28 : decode cX2_findBest 28 = .ok (.aload_n 0, 1) := by decide +kernel
theorem dX2_findBest_29 : decode cX2_findBest 29 = .ok (.getfield 38, 3) := by decide +kernel
theorem dX2_findBest_32 : decode cX2_findBest 32 = .ok (.aload_n 0, 1) := by decide +kernel
theorem dX2_findBest_33 : decode cX2_findBest 33 = .ok (.getfield 65, 3) := by decide +kernel
theorem dX2_findBest_36 : decode cX2_findBest 36 = .ok (.iaload, 1) := by decide +kernel
theorem dX2_findBest_37 : decode cX2_findBest 37 = .ok (.ifCond .le 8, 3) := by decide +kernel
theorem dX2_findBest_40 : decode cX2_findBest 40 = .ok (.aload_n 0, 1) := by decide +kernel
theorem dX2_findBest_41 : decode cX2_findBest 41 = .ok (.iload_n 1, 1) := by decide +kernel
theorem dX2_findBest_42 : decode cX2_findBest 42 = .ok (.putfield 44, 3) := by decide +kernel
theorem dX2_findBest_45 : decode cX2_findBest 45 = .ok (.iinc 1 1, 3) := by decide +kernel
theorem dX2_findBest_48 : decode cX2_findBest 48 = .ok (.goto (-41), 3) := by decide +kernel
theorem dX2_findBest_51 : decode cX2_findBest 51 = .ok (.aload_n 0, 1) := by decide +kernel
theorem dX2_findBest_52 : decode cX2_findBest 52 = .ok (.lconst 0, 1) := by decide +kernel
theorem dX2_findBest_53 : decode cX2_findBest 53 = .ok (.putfield 48, 3) := by decide +kernel
theorem dX2_findBest_56 : decode cX2_findBest 56 = .ok (.iconst 0, 1) := by decide +kernel
theorem dX2_findBest_57 : decode cX2_findBest 57 = .ok (.istore_n 1, 1) := by decide +kernel
theorem dX2_findBest_58 : decode cX2_findBest 58 = .ok (.iload_n 1, 1) := by decide +kernel
theorem dX2_findBest_59 : decode cX2_findBest 59 = .ok (.aload_n 0, 1) := by decide +kernel
theorem dX2_findBest_60 : decode cX2_findBest 60 = .ok (.getfield 38, 3) := by decide +kernel
theorem dX2_findBest_63 : decode cX2_findBest 63 = .ok (.aload_n 0, 1) := by decide +kernel
theorem dX2_findBest_64 : decode cX2_findBest 64 = .ok (.getfield 65, 3) := by decide +kernel
theorem dX2_findBest_67 : decode cX2_findBest 67 = .ok (.iaload, 1) := by decide +kernel
theorem dX2_findBest_68 : decode cX2_findBest 68 = .ok (.if_icmp .ge 39, 3) := by decide +kernel
theorem dX2_findBest_71 : decode cX2_findBest 71 = .ok (.aload_n 0, 1) := by decide +kernel
theorem dX2_findBest_72 : decode cX2_findBest 72 = .ok (.dup, 1) := by decide +kernel
theorem dX2_findBest_73 : decode cX2_findBest 73 = .ok (.getfield 48, 3) := by decide +kernel
theorem dX2_findBest_76 : decode cX2_findBest 76 = .ok (.aload_n 0, 1) := by decide +kernel
theorem dX2_findBest_77 : decode cX2_findBest 77 = .ok (.getfield 30, 3) := by decide +kernel
theorem dX2_findBest_80 : decode cX2_findBest 80 = .ok (.aload_n 0, 1) := by decide +kernel
theorem dX2_findBest_81 : decode cX2_findBest 81 = .ok (.getfield 65, 3) := by decide +kernel
theorem dX2_findBest_84 : decode cX2_findBest 84 = .ok (.aaload, 1) := by decide +kernel
theorem dX2_findBest_85 : decode cX2_findBest 85 = .ok (.aload_n 0, 1) := by decide +kernel
theorem dX2_findBest_86 : decode cX2_findBest 86 = .ok (.getfield 35, 3) := by decide +kernel
theorem dX2_findBest_89 : decode cX2_findBest 89 = .ok (.aload_n 0, 1) := by decide +kernel
theorem dX2_findBest_90 : decode cX2_findBest 90 = .ok (.getfield 65, 3) := by decide +kernel
theorem dX2_findBest_93 : decode cX2_findBest 93 = .ok (.aaload, 1) := by decide +kernel
theorem dX2_findBest_94 : decode cX2_findBest 94 = .ok (.iload_n 1, 1) := by decide +kernel
theorem dX2_findBest_95 : decode cX2_findBest 95 = .ok (.iaload, 1) := by decide +kernel
theorem dX2_findBest_96 : decode cX2_findBest 96 = .ok (.laload, 1) := by decide +kernel
theorem dX2_findBest_97 : decode cX2_findBest 97 = .ok (.ladd, 1) := by decide +kernel
theorem dX2_findBest_98 : decode cX2_findBest 98 = .ok (.putfield 48, 3) := by decide +kernel
theorem dX2_findBest_101 : decode cX2_findBest 101 = .ok (.iinc 1 1, 3) := by decide +kernel
theorem dX2_findBest_104 : decode cX2_findBest 104 = .ok (.goto (-46), 3) := by decide +kernel
theorem dX2_findBest_107 : decode cX2_findBest 107 = .ok (.aload_n 0, 1) := by decide +kernel
theorem dX2_findBest_108 : decode cX2_findBest 108 = .ok (.invokevirtual 72, 3) := by decide +kernel
theorem dX2_findBest_111 : decode cX2_findBest 111 = .ok (.aload_n 0, 1) := by decide +kernel
theorem dX2_findBest_112 : decode cX2_findBest 112 = .ok (.invokevirtual 75, 3) := by decide +kernel
theorem dX2_findBest_115 : decode cX2_findBest 115 = .ok (.return_, 1) := by decide +kernel
theorem dX2_reachWith_0 : decode cX2_reachWith 0 = .ok (.iconst 0, 1) := by decide +kernel
theorem dX2_reachWith_1 : decode cX2_reachWith 1 = .ok (.istore_n 2, 1) := by decide +kernel
theorem dX2_reachWith_2 : decode cX2_reachWith 2 = .ok (.iload_n 2, 1) := by decide +kernel
theorem dX2_reachWith_3 : decode cX2_reachWith 3 = .ok (.aload_n 0, 1) := by decide +kernel
theorem dX2_reachWith_4 : decode cX2_reachWith 4 = .ok (.getfield 65, 3) := by decide +kernel
theorem dX2_reachWith_7 : decode cX2_reachWith 7 = .ok (.if_icmp .gt 62, 3) := by decide +kernel
theorem dX2_reachWith_10 : decode cX2_reachWith 10 = .ok (.iload_n 2, 1) := by decide +kernel
theorem dX2_reachWith_11 : decode cX2_reachWith 11 = .ok (.ifCond .le 24, 3) := by decide +kernel
theorem dX2_reachWith_14 : decode cX2_reachWith 14 = .ok (.aload_n 0, 1) := by decide +kernel
theorem dX2_reachWith_15 : decode cX2_reachWith 15 = .ok (.iload_n 1, 1) := by decide +kernel
theorem dX2_reachWith_16 : decode cX2_reachWith 16 = .ok (.iload_n 2, 1) := by decide +kernel
theorem dX2_reachWith_17 : decode cX2_reachWith 17 = .ok (.iconst 1, 1) := by decide +kernel
theorem dX2_reachWith_18 : decode cX2_reachWith 18 = .ok (.isub, 1) := by decide +kernel
theorem dX2_reachWith_19 : decode cX2_reachWith 19 = .ok (.invokevirtual 78, 3) := by decide +kernel
theorem dX2_reachWith_22 : decode cX2_reachWith 22 = .ok (.aload_n 0, 1) := by decide +kernel
theorem dX2_reachWith_23 : decode cX2_reachWith 23 = .ok (.iload_n 1, 1) := by decide +kernel
theorem dX2_reachWith_24 : decode cX2_reachWith 24 = .ok (.iconst 1, 1) := by decide +kernel
theorem dX2_reachWith_25 : decode cX2_reachWith 25 = .ok (.isub, 1) := by decide +kernel
theorem dX2_reachWith_26 : decode cX2_reachWith 26 = .ok (.iload_n 2, 1) := by decide +kernel
theorem dX2_reachWith_27 : decode cX2_reachWith 27 = .ok (.iconst 1, 1) := by decide +kernel
theorem dX2_reachWith_28 : decode cX2_reachWith 28 = .ok (.isub, 1) := by decide +kernel
theorem dX2_reachWith_29 : decode cX2_reachWith 29 = .ok (.invokevirtual 82, 3) := by decide +kernel
theorem dX2_reachWith_32 : decode cX2_reachWith 32 = .ok (.goto 15, 3) := by decide +kernel
theorem dX2_reachWith_35 : decode cX2_reachWith 35 = .ok (.iload_n 1, 1) := by decide +kernel
theorem dX2_reachWith_36 : decode cX2_reachWith 36 = .ok (.ifCond .ne 11, 3) := by decide +kernel
theorem dX2_reachWith_39 : decode cX2_reachWith 39 = .ok (.aload_n 0, 1) := by decide +kernel
theorem dX2_reachWith_40 : decode cX2_reachWith 40 = .ok (.iconst 0, 1) := by decide +kernel
theorem dX2_reachWith_41 : decode cX2_reachWith 41 = .ok (.bipush 10, 2) := by decide +kernel
theorem dX2_reachWith_43 : decode cX2_reachWith 43 = .ok (.lconst 1, 1) := by decide +kernel
theorem dX2_reachWith_44 : decode cX2_reachWith 44 = .ok (.invokevirtual 85, 3) := by decide +kernel
theorem dX2_reachWith_47 : decode cX2_reachWith 47 = .ok (.aload_n 0, 1) := by decide +kernel
theorem dX2_reachWith_48 : decode cX2_reachWith 48 = .ok (.getfield 41, 3) := by decide +kernel
theorem dX2_reachWith_51 : decode cX2_reachWith 51 = .ok (.iload_n 1, 1) := by decide +kernel
theorem dX2_reachWith_52 : decode cX2_reachWith 52 = .ok (.iconst 1, 1) := by decide +kernel
theorem dX2_reachWith_53 : decode cX2_reachWith 53 = .ok (.iadd, 1) := by decide +kernel
theorem dX2_reachWith_54 : decode cX2_reachWith 54 = .ok (.aaload, 1) := by decide +kernel
theorem dX2_reachWith_55 : decode cX2_reachWith 55 = .ok (.iload_n 2, 1) := by decide +kernel
theorem dX2_reachWith_56 : decode cX2_reachWith 56 = .ok (.aload_n 0, 1) := by decide +kernel
theorem dX2_reachWith_57 : decode cX2_reachWith 57 = .ok (.getfield 38, 3) := by decide +kernel
theorem dX2_reachWith_60 : decode cX2_reachWith 60 = .ok (.iload_n 2, 1) := by decide +kernel
theorem dX2_reachWith_61 : decode cX2_reachWith 61 = .ok (.iaload, 1) := by decide +kernel
theorem dX2_reachWith_62 : decode cX2_reachWith 62 = .ok (.iastore, 1) := by decide +kernel
theorem dX2_reachWith_63 : decode cX2_reachWith 63 = .ok (.iinc 2 1, 3) := by decide +kernel
theorem dX2_reachWith_66 : decode cX2_reachWith 66 = .ok (.goto (-64), 3) := by decide +kernel
theorem dX2_reachWith_69 : decode cX2_reachWith 69 = .ok (.return_, 1) := by decide +kernel
theorem dX2_spreadDrums_0 : decode cX2_spreadDrums 0 = .ok (.aload_n 0, 1) := by decide +kernel
theorem dX2_spreadDrums_1 : decode cX2_spreadDrums 1 = .ok (.getfield 41, 3) := by decide +kernel
theorem dX2_spreadDrums_4 : decode cX2_spreadDrums 4 = .ok (.iload_n 1, 1) := by decide +kernel
theorem dX2_spreadDrums_5 : decode cX2_spreadDrums 5 = .ok (.iconst 1, 1) := by decide +kernel
theorem dX2_spreadDrums_6 : decode cX2_spreadDrums 6 = .ok (.iadd, 1) := by decide +kernel
theorem dX2_spreadDrums_7 : decode cX2_spreadDrums 7 = .ok (.aaload, 1) := by decide +kernel
theorem dX2_spreadDrums_8 : decode cX2_spreadDrums 8 = .ok (.iload_n 2, 1) := by decide +kernel
theorem dX2_spreadDrums_9 : decode cX2_spreadDrums 9 = .ok (.iaload, 1) := by decide +kernel
theorem dX2_spreadDrums_10 : decode cX2_spreadDrums 10 = .ok (.istore_n 3, 1) := by decide +kernel
theorem dX2_spreadDrums_11 : decode cX2_spreadDrums 11 = .ok (.aload_n 0, 1) := by decide +kernel
theorem dX2_spreadDrums_12 : decode cX2_spreadDrums 12 = .ok (.getfield 41, 3) := by decide +kernel
theorem dX2_spreadDrums_15 : decode cX2_spreadDrums 15 = .ok (.iload_n 1, 1) := by decide +kernel
theorem dX2_spreadDrums_16 : decode cX2_spreadDrums 16 = .ok (.aaload, 1) := by decide +kernel
theorem dX2_spreadDrums_17 : decode cX2_spreadDrums 17 = .ok (.iload_n 2, 1) := by decide +kernel
theorem dX2_spreadDrums_18 : decode cX2_spreadDrums 18 = .ok (.iaload, 1) := by decide +kernel
theorem dX2_spreadDrums_19 : decode cX2_spreadDrums 19 = .ok (.istore 4, 2) := by decide +kernel
theorem dX2_spreadDrums_21 : decode cX2_spreadDrums 21 = .ok (.iload 4, 2) := by decide +kernel
theorem dX2_spreadDrums_23 : decode cX2_spreadDrums 23 = .ok (.iload_n 3, 1) := by decide +kernel
theorem dX2_spreadDrums_24 : decode cX2_spreadDrums 24 = .ok (.if_icmp .ge 84, 3) := by decide +kernel
theorem dX2_spreadDrums_27 : decode cX2_spreadDrums 27 = .ok (.aload_n 0, 1) := by decide +kernel
theorem dX2_spreadDrums_28 : decode cX2_spreadDrums 28 = .ok (.getfield 35, 3) := by decide +kernel
theorem dX2_spreadDrums_31 : decode cX2_spreadDrums 31 = .ok (.iload_n 2, 1) := by decide +kernel
theorem dX2_spreadDrums_32 : decode cX2_spreadDrums 32 = .ok (.aaload, 1) := by decide +kernel
theorem dX2_spreadDrums_33 : decode cX2_spreadDrums 33 = .ok (.iload 4, 2) := by decide +kernel
theorem dX2_spreadDrums_35 : decode cX2_spreadDrums 35 = .ok (.iaload, 1) := by decide +kernel
theorem dX2_spreadDrums_36 : decode cX2_spreadDrums 36 = .ok (.istore 5, 2) := by decide +kernel
theorem dX2_spreadDrums_38 : decode cX2_spreadDrums 38 = .ok (.aload_n 0, 1) := by decide +kernel
theorem dX2_spreadDrums_39 : decode cX2_spreadDrums 39 = .ok (.iload_n 2, 1) := by decide +kernel
theorem dX2_spreadDrums_40 : decode cX2_spreadDrums 40 = .ok (.iload 5, 2) := by decide +kernel
theorem dX2_spreadDrums_42 : decode cX2_spreadDrums 42 = .ok (.invokevirtual 89, 3) := by decide +kernel
theorem dX2_spreadDrums_45 : decode cX2_spreadDrums 45 = .ok (.istore 6, 2) := by decide +kernel
theorem dX2_spreadDrums_47 : decode cX2_spreadDrums 47 = .ok (.aload_n 0, 1) := by decide +kernel
theorem dX2_spreadDrums_48 : decode cX2_spreadDrums 48 = .ok (.getfield 30, 3) := by decide +kernel
theorem dX2_spreadDrums_51 : decode cX2_spreadDrums 51 = .ok (.iload_n 2, 1) := by decide +kernel
theorem dX2_spreadDrums_52 : decode cX2_spreadDrums 52 = .ok (.aaload, 1) := by decide +kernel
theorem dX2_spreadDrums_53 : decode cX2_spreadDrums 53 = .ok (.iload 5, 2) := by decide +kernel
theorem dX2_spreadDrums_55 : decode cX2_spreadDrums 55 = .ok (.laload, 1) := by decide +kernel
theorem dX2_spreadDrums_56 : decode cX2_spreadDrums 56 = .ok (.lstore 7, 2) := by decide +kernel
theorem dX2_spreadDrums_58 : decode cX2_spreadDrums 58 = .ok (.iconst 0, 1) := by decide +kernel
theorem dX2_spreadDrums_59 : decode cX2_spreadDrums 59 = .ok (.istore 9, 2) := by decide +kernel
theorem dX2_spreadDrums_61 : decode cX2_spreadDrums 61 = .ok (.iload 9, 2) := by decide +kernel
theorem dX2_spreadDrums_63 : decode cX2_spreadDrums 63 = .ok (.bipush 10, 2) := by decide +kernel
theorem dX2_spreadDrums_65 : decode cX2_spreadDrums 65 = .ok (.if_icmp .ge 37, 3) := by decide +kernel
theorem dX2_spreadDrums_68 : decode cX2_spreadDrums 68 = .ok (.iload 6, 2) := by decide +kernel
theorem dX2_spreadDrums_70 : decode cX2_spreadDrums 70 = .ok (.iload 9, 2) := by decide +kernel
theorem dX2_spreadDrums_72 : decode cX2_spreadDrums 72 = .ok (.invokestatic 92, 3) := by decide +kernel
theorem dX2_spreadDrums_75 : decode cX2_spreadDrums 75 = .ok (.ifCond .eq 21, 3) := by decide +kernel
theorem dX2_spreadDrums_78 : decode cX2_spreadDrums 78 = .ok (.aload_n 0, 1) := by decide +kernel
theorem dX2_spreadDrums_79 : decode cX2_spreadDrums 79 = .ok (.iload_n 2, 1) := by decide +kernel
theorem dX2_spreadDrums_80 : decode cX2_spreadDrums 80 = .ok (.iconst 1, 1) := by decide +kernel
theorem dX2_spreadDrums_81 : decode cX2_spreadDrums 81 = .ok (.iadd, 1) := by decide +kernel
theorem dX2_spreadDrums_82 : decode cX2_spreadDrums 82 = .ok (.aload_n 0, 1) := by decide +kernel
theorem dX2_spreadDrums_83 : decode cX2_spreadDrums 83 = .ok (.iload_n 2, 1) := by decide +kernel
theorem dX2_spreadDrums_84 : decode cX2_spreadDrums 84 = .ok (.iload 5, 2) := by decide +kernel
theorem dX2_spreadDrums_86 : decode cX2_spreadDrums 86 = .ok (.iload 9, 2) := by decide +kernel
theorem dX2_spreadDrums_88 : decode cX2_spreadDrums 88 = .ok (.invokevirtual 96, 3) := by decide +kernel
theorem dX2_spreadDrums_91 : decode cX2_spreadDrums 91 = .ok (.lload 7, 2) := by decide +kernel
theorem dX2_spreadDrums_93 : decode cX2_spreadDrums 93 = .ok (.invokevirtual 85, 3) := by decide +kernel
theorem dX2_spreadDrums_96 : decode cX2_spreadDrums 96 = .ok (.iinc 9 1, 3) := by decide +kernel
theorem dX2_spreadDrums_99 : decode cX2_spreadDrums 99 = .ok (.goto (-38), 3) := by decide +kernel
theorem dX2_spreadDrums_102 : decode cX2_spreadDrums 102 = .ok (.iinc 4 1, 3) := by decide +kernel
theorem dX2_spreadDrums_105 : decode cX2_spreadDrums 105 = .ok (.goto (-84), 3) := by decide +kernel
theorem dX2_spreadDrums_108 : decode cX2_spreadDrums 108 = .ok (.return_, 1) := by decide +kernel
theorem dX2_spreadNew_0 : decode cX2_spreadNew 0 = .ok (.iload_n 1, 1) := by decide +kernel
theorem dX2_spreadNew_1 : decode cX2_spreadNew 1 = .ok (.ifCond .lt 17, 3) := by decide +kernel
theorem dX2_spreadNew_4 : decode cX2_spreadNew 4 = .ok (.aload_n 0, 1) := by decide +kernel
theorem dX2_spreadNew_5 : decode cX2_spreadNew 5 = .ok (.getfield 11, 3) := by decide +kernel
theorem dX2_spreadNew_8 : decode cX2_spreadNew 8 = .ok (.iload_n 2, 1) := by decide +kernel
theorem dX2_spreadNew_9 : decode cX2_spreadNew 9 = .ok (.iaload, 1) := by decide +kernel
theorem dX2_spreadNew_10 : decode cX2_spreadNew 10 = .ok (.bipush 10, 2) := by decide +kernel
theorem dX2_spreadNew_12 : decode cX2_spreadNew 12 = .ok (.invokestatic 92, 3) := by decide +kernel
theorem dX2_spreadNew_15 : decode cX2_spreadNew 15 = .ok (.ifCond .ne 4, 3) := by decide +kernel
theorem dX2_spreadNew_18 : decode cX2_spreadNew 18 = .ok (.return_, 1) := by decide +kernel
theorem dX2_spreadNew_19 : decode cX2_spreadNew 19 = .ok (.aload_n 0, 1) := by decide +kernel
theorem dX2_spreadNew_20 : decode cX2_spreadNew 20 = .ok (.getfield 41, 3) := by decide +kernel
theorem dX2_spreadNew_23 : decode cX2_spreadNew 23 = .ok (.iload_n 1, 1) := by decide +kernel
theorem dX2_spreadNew_24 : decode cX2_spreadNew 24 = .ok (.iconst 1, 1) := by decide +kernel
theorem dX2_spreadNew_25 : decode cX2_spreadNew 25 = .ok (.iadd, 1) := by decide +kernel
theorem dX2_spreadNew_26 : decode cX2_spreadNew 26 = .ok (.aaload, 1) := by decide +kernel
theorem dX2_spreadNew_27 : decode cX2_spreadNew 27 = .ok (.iload_n 2, 1) := by decide +kernel
theorem dX2_spreadNew_28 : decode cX2_spreadNew 28 = .ok (.iaload, 1) := by decide +kernel
theorem dX2_spreadNew_29 : decode cX2_spreadNew 29 = .ok (.istore_n 3, 1) := by decide +kernel
theorem dX2_spreadNew_30 : decode cX2_spreadNew 30 = .ok (.aload_n 0, 1) := by decide +kernel
theorem dX2_spreadNew_31 : decode cX2_spreadNew 31 = .ok (.getfield 41, 3) := by decide +kernel
theorem dX2_spreadNew_34 : decode cX2_spreadNew 34 = .ok (.iload_n 1, 1) := by decide +kernel
theorem dX2_spreadNew_35 : decode cX2_spreadNew 35 = .ok (.aaload, 1) := by decide +kernel
theorem dX2_spreadNew_36 : decode cX2_spreadNew 36 = .ok (.iload_n 2, 1) := by decide +kernel
theorem dX2_spreadNew_37 : decode cX2_spreadNew 37 = .ok (.iaload, 1) := by decide +kernel
theorem dX2_spreadNew_38 : decode cX2_spreadNew 38 = .ok (.istore 4, 2) := by decide +kernel
theorem dX2_spreadNew_40 : decode cX2_spreadNew 40 = .ok (.iload 4, 2) := by decide +kernel
theorem dX2_spreadNew_42 : decode cX2_spreadNew 42 = .ok (.iload_n 3, 1) := by decide +kernel
theorem dX2_spreadNew_43 : decode cX2_spreadNew 43 = .ok (.if_icmp .ge 45, 3) := by decide +kernel
theorem dX2_spreadNew_46 : decode cX2_spreadNew 46 = .ok (.aload_n 0, 1) := by decide +kernel
theorem dX2_spreadNew_47 : decode cX2_spreadNew 47 = .ok (.getfield 35, 3) := by decide +kernel
theorem dX2_spreadNew_50 : decode cX2_spreadNew 50 = .ok (.iload_n 2, 1) := by decide +kernel
theorem dX2_spreadNew_51 : decode cX2_spreadNew 51 = .ok (.aaload, 1) := by decide +kernel
theorem dX2_spreadNew_52 : decode cX2_spreadNew 52 = .ok (.iload 4, 2) := by decide +kernel
theorem dX2_spreadNew_54 : decode cX2_spreadNew 54 = .ok (.iaload, 1) := by decide +kernel
theorem dX2_spreadNew_55 : decode cX2_spreadNew 55 = .ok (.istore 5, 2) := by decide +kernel
theorem dX2_spreadNew_57 : decode cX2_spreadNew 57 = .ok (.aload_n 0, 1) := by decide +kernel
theorem dX2_spreadNew_58 : decode cX2_spreadNew 58 = .ok (.iload_n 2, 1) := by decide +kernel
theorem dX2_spreadNew_59 : decode cX2_spreadNew 59 = .ok (.iconst 1, 1) := by decide +kernel
theorem dX2_spreadNew_60 : decode cX2_spreadNew 60 = .ok (.iadd, 1) := by decide +kernel
theorem dX2_spreadNew_61 : decode cX2_spreadNew 61 = .ok (.aload_n 0, 1) := by decide +kernel
theorem dX2_spreadNew_62 : decode cX2_spreadNew 62 = .ok (.iload_n 2, 1) := by decide +kernel
theorem dX2_spreadNew_63 : decode cX2_spreadNew 63 = .ok (.iload 5, 2) := by decide +kernel
theorem dX2_spreadNew_65 : decode cX2_spreadNew 65 = .ok (.bipush 10, 2) := by decide +kernel
theorem dX2_spreadNew_67 : decode cX2_spreadNew 67 = .ok (.invokevirtual 96, 3) := by decide +kernel
theorem dX2_spreadNew_70 : decode cX2_spreadNew 70 = .ok (.aload_n 0, 1) := by decide +kernel
theorem dX2_spreadNew_71 : decode cX2_spreadNew 71 = .ok (.getfield 30, 3) := by decide +kernel
theorem dX2_spreadNew_74 : decode cX2_spreadNew 74 = .ok (.iload_n 2, 1) := by decide +kernel
theorem dX2_spreadNew_75 : decode cX2_spreadNew 75 = .ok (.aaload, 1) := by decide +kernel
theorem dX2_spreadNew_76 : decode cX2_spreadNew 76 = .ok (.iload 5, 2) := by decide +kernel
theorem dX2_spreadNew_78 : decode cX2_spreadNew 78 = .ok (.laload, 1) := by decide +kernel
theorem dX2_spreadNew_79 : decode cX2_spreadNew 79 = .ok (.invokevirtual 85, 3) := by decide +kernel
theorem dX2_spreadNew_82 : decode cX2_spreadNew 82 = .ok (.iinc 4 1, 3) := by decide +kernel
theorem dX2_spreadNew_85 : decode cX2_spreadNew 85 = .ok (.goto (-45), 3) := by decide +kernel
theorem dX2_spreadNew_88 : decode cX2_spreadNew 88 = .ok (.return_, 1) := by decide +kernel
theorem dX2_reach_0 : decode cX2_reach 0 = .ok (.aload_n 0, 1) := by decide +kernel
theorem dX2_reach_1 : decode cX2_reach 1 = .ok (.getfield 38, 3) := by decide +kernel
theorem dX2_reach_4 : decode cX2_reach 4 = .ok (.iload_n 1, 1) := by decide +kernel
theorem dX2_reach_5 : decode cX2_reach 5 = .ok (.iaload, 1) := by decide +kernel
theorem dX2_reach_6 : decode cX2_reach 6 = .ok (.istore 5, 2) := by decide +kernel
theorem dX2_reach_8 : decode cX2_reach 8 = .ok (.aload_n 0, 1) := by decide +kernel
theorem dX2_reach_9 : decode cX2_reach 9 = .ok (.getfield 30, 3) := by decide +kernel
theorem dX2_reach_12 : decode cX2_reach 12 = .ok (.iload_n 1, 1) := by decide +kernel
theorem dX2_reach_13 : decode cX2_reach 13 = .ok (.aaload, 1) := by decide +kernel
theorem dX2_reach_14 : decode cX2_reach 14 = .ok (.iload_n 2, 1) := by decide +kernel
theorem dX2_reach_15 : decode cX2_reach 15 = .ok (.laload, 1) := by decide +kernel
theorem dX2_reach_16 : decode cX2_reach 16 = .ok (.lconst 0, 1) := by decide +kernel
theorem dX2_reach_17 : decode cX2_reach 17 = .ok (.lcmp, 1) := by decide +kernel
theorem dX2_reach_18 : decode cX2_reach 18 = .ok (.ifCond .ne 31, 3) := by decide +kernel
theorem dX2_reach_21 : decode cX2_reach 21 = .ok (.iload 5, 2) := by decide +kernel
theorem dX2_reach_23 : decode cX2_reach 23 = .ok (.sipush 6144, 3) := by decide +kernel
theorem dX2_reach_26 : decode cX2_reach 26 = .ok (.if_icmp .ge 23, 3) := by decide +kernel
theorem dX2_reach_29 : decode cX2_reach 29 = .ok (.aload_n 0, 1) := by decide +kernel
theorem dX2_reach_30 : decode cX2_reach 30 = .ok (.getfield 35, 3) := by decide +kernel
theorem dX2_reach_33 : decode cX2_reach 33 = .ok (.iload_n 1, 1) := by decide +kernel
theorem dX2_reach_34 : decode cX2_reach 34 = .ok (.aaload, 1) := by decide +kernel
theorem dX2_reach_35 : decode cX2_reach 35 = .ok (.iload 5, 2) := by decide +kernel
theorem dX2_reach_37 : decode cX2_reach 37 = .ok (.iload_n 2, 1) := by decide +kernel
theorem dX2_reach_38 : decode cX2_reach 38 = .ok (.iastore, 1) := by decide +kernel
theorem dX2_reach_39 : decode cX2_reach 39 = .ok (.aload_n 0, 1) := by decide +kernel
theorem dX2_reach_40 : decode cX2_reach 40 = .ok (.getfield 38, 3) := by decide +kernel
theorem dX2_reach_43 : decode cX2_reach 43 = .ok (.iload_n 1, 1) := by decide +kernel
theorem dX2_reach_44 : decode cX2_reach 44 = .ok (.iload 5, 2) := by decide +kernel
theorem dX2_reach_46 : decode cX2_reach 46 = .ok (.iconst 1, 1) := by decide +kernel
theorem dX2_reach_47 : decode cX2_reach 47 = .ok (.iadd, 1) := by decide +kernel
theorem dX2_reach_48 : decode cX2_reach 48 = .ok (.iastore, 1) := by decide +kernel
theorem dX2_reach_49 : decode cX2_reach 49 = .ok (.aload_n 0, 1) := by decide +kernel
theorem dX2_reach_50 : decode cX2_reach 50 = .ok (.getfield 30, 3) := by decide +kernel
theorem dX2_reach_53 : decode cX2_reach 53 = .ok (.iload_n 1, 1) := by decide +kernel
theorem dX2_reach_54 : decode cX2_reach 54 = .ok (.aaload, 1) := by decide +kernel
theorem dX2_reach_55 : decode cX2_reach 55 = .ok (.iload_n 2, 1) := by decide +kernel
theorem dX2_reach_56 : decode cX2_reach 56 = .ok (.dup2, 1) := by decide +kernel
theorem dX2_reach_57 : decode cX2_reach 57 = .ok (.laload, 1) := by decide +kernel
theorem dX2_reach_58 : decode cX2_reach 58 = .ok (.lload_n 3, 1) := by decide +kernel
theorem dX2_reach_59 : decode cX2_reach 59 = .ok (.ladd, 1) := by decide +kernel
theorem dX2_reach_60 : decode cX2_reach 60 = .ok (.lastore, 1) := by decide +kernel
theorem dX2_reach_61 : decode cX2_reach 61 = .ok (.return_, 1) := by decide +kernel
theorem dX2_dropAllButBest_0 : decode cX2_dropAllButBest 0 = .ok (.aload_n 0, 1) := by decide +kernel
theorem dX2_dropAllButBest_1 : decode cX2_dropAllButBest 1 = .ok (.getfield 65, 3) := by decide +kernel
theorem dX2_dropAllButBest_4 : decode cX2_dropAllButBest 4 = .ok (.iconst 1, 1) := by decide +kernel
theorem dX2_dropAllButBest_5 : decode cX2_dropAllButBest 5 = .ok (.isub, 1) := by decide +kernel
theorem dX2_dropAllButBest_6 : decode cX2_dropAllButBest 6 = .ok (.istore_n 1, 1) := by decide +kernel
theorem dX2_dropAllButBest_7 : decode cX2_dropAllButBest 7 = .ok (.iload_n 1, 1) := by decide +kernel
theorem dX2_dropAllButBest_8 : decode cX2_dropAllButBest 8 = .ok (.ifCond .lt 75, 3) := by decide +kernel
theorem dX2_dropAllButBest_11 : decode cX2_dropAllButBest 11 = .ok (.iconst 0, 1) := by decide +kernel
theorem dX2_dropAllButBest_12 : decode cX2_dropAllButBest 12 = .ok (.istore_n 2, 1) := by decide +kernel
theorem dX2_dropAllButBest_13 : decode cX2_dropAllButBest 13 = .ok (.iconst 0, 1) := by decide +kernel
theorem dX2_dropAllButBest_14 : decode cX2_dropAllButBest 14 = .ok (.istore_n 3, 1) := by decide +kernel
theorem dX2_dropAllButBest_15 : decode cX2_dropAllButBest 15 = .ok (.iload_n 3, 1) := by decide +kernel
theorem dX2_dropAllButBest_16 : decode cX2_dropAllButBest 16 = .ok (.aload_n 0, 1) := by decide +kernel
theorem dX2_dropAllButBest_17 : decode cX2_dropAllButBest 17 = .ok (.getfield 38, 3) := by decide +kernel
theorem dX2_dropAllButBest_20 : decode cX2_dropAllButBest 20 = .ok (.iload_n 1, 1) := by decide +kernel
theorem dX2_dropAllButBest_21 : decode cX2_dropAllButBest 21 = .ok (.iaload, 1) := by decide +kernel
theorem dX2_dropAllButBest_22 : decode cX2_dropAllButBest 22 = .ok (.if_icmp .ge 48, 3) := by decide +kernel
theorem dX2_dropAllButBest_25 : decode cX2_dropAllButBest 25 = .ok (.aload_n 0, 1) := by decide +kernel
theorem dX2_dropAllButBest_26 : decode cX2_dropAllButBest 26 = .ok (.getfield 35, 3) := by decide +kernel
theorem dX2_dropAllButBest_29 : decode cX2_dropAllButBest 29 = .ok (.iload_n 1, 1) := by decide +kernel
theorem dX2_dropAllButBest_30 : decode cX2_dropAllButBest 30 = .ok (.aaload, 1) := by decide +kernel
theorem dX2_dropAllButBest_31 : decode cX2_dropAllButBest 31 = .ok (.iload_n 3, 1) := by decide +kernel
theorem dX2_dropAllButBest_32 : decode cX2_dropAllButBest 32 = .ok (.iaload, 1) := by decide +kernel
theorem dX2_dropAllButBest_33 : decode cX2_dropAllButBest 33 = .ok (.istore 4, 2) := by decide +kernel
theorem dX2_dropAllButBest_35 : decode cX2_dropAllButBest 35 = .ok (.aload_n 0, 1) := by decide +kernel
theorem dX2_dropAllButBest_36 : decode cX2_dropAllButBest 36 = .ok (.iload_n 1, 1) := by decide +kernel
theorem dX2_dropAllButBest_37 : decode cX2_dropAllButBest 37 = .ok (.iload 4, 2) := by decide +kernel
theorem dX2_dropAllButBest_39 : decode cX2_dropAllButBest 39 = .ok (.invokevirtual 100, 3) := by decide +kernel
theorem dX2_dropAllButBest_42 : decode cX2_dropAllButBest 42 = .ok (.istore 5, 2) := by decide +kernel
theorem dX2_dropAllButBest_44 : decode cX2_dropAllButBest 44 = .ok (.iload 5, 2) := by decide +kernel
theorem dX2_dropAllButBest_46 : decode cX2_dropAllButBest 46 = .ok (.ifCond .ne 13, 3) := by decide +kernel
theorem dX2_dropAllButBest_49 : decode cX2_dropAllButBest 49 = .ok (.aload_n 0, 1) := by decide +kernel
theorem dX2_dropAllButBest_50 : decode cX2_dropAllButBest 50 = .ok (.getfield 30, 3) := by decide +kernel
theorem dX2_dropAllButBest_53 : decode cX2_dropAllButBest 53 = .ok (.iload_n 1, 1) := by decide +kernel
theorem dX2_dropAllButBest_54 : decode cX2_dropAllButBest 54 = .ok (.aaload, 1) := by decide +kernel
theorem dX2_dropAllButBest_55 : decode cX2_dropAllButBest 55 = .ok (.iload 4, 2) := by decide +kernel
theorem dX2_dropAllButBest_57 : decode cX2_dropAllButBest 57 = .ok (.lconst 0, 1) := by decide +kernel
theorem dX2_dropAllButBest_58 : decode cX2_dropAllButBest 58 = .ok (.lastore, 1) := by decide +kernel
theorem dX2_dropAllButBest_59 : decode cX2_dropAllButBest 59 = .ok (.iload_n 2, 1) := by decide +kernel
theorem dX2_dropAllButBest_60 : decode cX2_dropAllButBest 60 = .ok (.iload 5, 2) := by decide +kernel
theorem dX2_dropAllButBest_62 : decode cX2_dropAllButBest 62 = .ok (.ior, 1) := by decide +kernel
theorem dX2_dropAllButBest_63 : decode cX2_dropAllButBest 63 = .ok (.istore_n 2, 1) := by decide +kernel
theorem dX2_dropAllButBest_64 : decode cX2_dropAllButBest 64 = .ok (.iinc 3 1, 3) := by decide +kernel
theorem dX2_dropAllButBest_67 : decode cX2_dropAllButBest 67 = .ok (.goto (-52), 3) := by decide +kernel
theorem dX2_dropAllButBest_70 : decode cX2_dropAllButBest 70 = .ok (.aload_n 0, 1) := by decide +kernel
theorem dX2_dropAllButBest_71 : decode cX2_dropAllButBest 71 = .ok (.getfield 22, 3) := by decide +kernel
theorem dX2_dropAllButBest_74 : decode cX2_dropAllButBest 74 = .ok (.iload_n 1, 1) := by decide +kernel
theorem dX2_dropAllButBest_75 : decode cX2_dropAllButBest 75 = .ok (.iload_n 2, 1) := by decide +kernel
theorem dX2_dropAllButBest_76 : decode cX2_dropAllButBest 76 = .ok (.iastore, 1) := by decide +kernel
theorem dX2_dropAllButBest_77 : decode cX2_dropAllButBest 77 = .ok (.iinc 1 (-1), 3) := by decide +kernel
theorem dX2_dropAllButBest_80 : decode cX2_dropAllButBest 80 = .ok (.goto (-73), 3) := by decide +kernel
theorem dX2_dropAllButBest_83 : decode cX2_dropAllButBest 83 = .ok (.return_, 1) := by decide +kernel
theorem dX2_walkFirst_0 : decode cX2_walkFirst 0 = .ok (.bipush 10, 2) := by decide +kernel
theorem dX2_walkFirst_2 : decode cX2_walkFirst 2 = .ok (.istore_n 1, 1) := by decide +kernel
theorem dX2_walkFirst_3 : decode cX2_walkFirst 3 = .ok (.iconst 0, 1) := by decide +kernel
theorem dX2_walkFirst_4 : decode cX2_walkFirst 4 = .ok (.istore_n 2, 1) := by decide +kernel
theorem dX2_walkFirst_5 : decode cX2_walkFirst 5 = .ok (.iload_n 2, 1) := by decide +kernel
theorem dX2_walkFirst_6 : decode cX2_walkFirst 6 = .ok (.aload_n 0, 1) := by decide +kernel
theorem dX2_walkFirst_7 : decode cX2_walkFirst 7 = .ok (.getfield 65, 3) := by decide +kernel
theorem dX2_walkFirst_10 : decode cX2_walkFirst 10 = .ok (.if_icmp .ge 50, 3) := by decide +kernel
theorem dX2_walkFirst_13 : decode cX2_walkFirst 13 = .ok (.aload_n 0, 1) := by decide +kernel
theorem dX2_walkFirst_14 : decode cX2_walkFirst 14 = .ok (.invokevirtual 103, 3) := by decide +kernel
theorem dX2_walkFirst_17 : decode cX2_walkFirst 17 = .ok (.ifCond .eq 15, 3) := by decide +kernel
theorem dX2_walkFirst_20 : decode cX2_walkFirst 20 = .ok (.aload_n 0, 1) := by decide +kernel
theorem dX2_walkFirst_21 : decode cX2_walkFirst 21 = .ok (.iload_n 2, 1) := by decide +kernel
theorem dX2_walkFirst_22 : decode cX2_walkFirst 22 = .ok (.iload_n 1, 1) := by decide +kernel
theorem dX2_walkFirst_23 : decode cX2_walkFirst 23 = .ok (.invokevirtual 100, 3) := by decide +kernel
theorem dX2_walkFirst_26 : decode cX2_walkFirst 26 = .ok (.invokestatic 107, 3) := by decide +kernel
theorem dX2_walkFirst_29 : decode cX2_walkFirst 29 = .ok (.goto 4, 3) := by decide +kernel
theorem dX2_walkFirst_32 : decode cX2_walkFirst 32 = .ok (.iconst (-1), 1) := by decide +kernel
theorem dX2_walkFirst_33 : decode cX2_walkFirst 33 = .ok (.istore_n 3, 1) := by decide +kernel
theorem dX2_walkFirst_34 : decode cX2_walkFirst 34 = .ok (.aload_n 0, 1) := by decide +kernel
theorem dX2_walkFirst_35 : decode cX2_walkFirst 35 = .ok (.getfield 25, 3) := by decide +kernel
theorem dX2_walkFirst_38 : decode cX2_walkFirst 38 = .ok (.iload_n 2, 1) := by decide +kernel
theorem dX2_walkFirst_39 : decode cX2_walkFirst 39 = .ok (.iload_n 3, 1) := by decide +kernel
theorem dX2_walkFirst_40 : decode cX2_walkFirst 40 = .ok (.iastore, 1) := by decide +kernel
theorem dX2_walkFirst_41 : decode cX2_walkFirst 41 = .ok (.iload_n 3, 1) := by decide +kernel
theorem dX2_walkFirst_42 : decode cX2_walkFirst 42 = .ok (.iconst (-1), 1) := by decide +kernel
theorem dX2_walkFirst_43 : decode cX2_walkFirst 43 = .ok (.if_icmp .eq 11, 3) := by decide +kernel
theorem dX2_walkFirst_46 : decode cX2_walkFirst 46 = .ok (.aload_n 0, 1) := by decide +kernel
theorem dX2_walkFirst_47 : decode cX2_walkFirst 47 = .ok (.iload_n 2, 1) := by decide +kernel
theorem dX2_walkFirst_48 : decode cX2_walkFirst 48 = .ok (.iload_n 1, 1) := by decide +kernel
theorem dX2_walkFirst_49 : decode cX2_walkFirst 49 = .ok (.iload_n 3, 1) := by decide +kernel
theorem dX2_walkFirst_50 : decode cX2_walkFirst 50 = .ok (.invokevirtual 96, 3) := by decide +kernel
theorem dX2_walkFirst_53 : decode cX2_walkFirst 53 = .ok (.istore_n 1, 1) := by decide +kernel
theorem dX2_walkFirst_54 : decode cX2_walkFirst 54 = .ok (.iinc 2 1, 3) := by decide +kernel
theorem dX2_walkFirst_57 : decode cX2_walkFirst 57 = .ok (.goto (-52), 3) := by decide +kernel
theorem dX2_walkFirst_60 : decode cX2_walkFirst 60 = .ok (.return_, 1) := by decide +kernel
theorem dX2_itemsToBest_0 : decode cX2_itemsToBest 0 = .ok (.aload_n 0, 1) := by decide +kernel
theorem dX2_itemsToBest_1 : decode cX2_itemsToBest 1 = .ok (.iload_n 1, 1) := by decide +kernel
theorem dX2_itemsToBest_2 : decode cX2_itemsToBest 2 = .ok (.iload_n 2, 1) := by decide +kernel
theorem dX2_itemsToBest_3 : decode cX2_itemsToBest 3 = .ok (.invokevirtual 89, 3) := by decide +kernel
theorem dX2_itemsToBest_6 : decode cX2_itemsToBest 6 = .ok (.istore_n 3, 1) := by decide +kernel
theorem dX2_itemsToBest_7 : decode cX2_itemsToBest 7 = .ok (.iconst 0, 1) := by decide +kernel
theorem dX2_itemsToBest_8 : decode cX2_itemsToBest 8 = .ok (.istore 4, 2) := by decide +kernel
theorem dX2_itemsToBest_10 : decode cX2_itemsToBest 10 = .ok (.iconst 0, 1) := by decide +kernel
theorem dX2_itemsToBest_11 : decode cX2_itemsToBest 11 = .ok (.istore 5, 2) := by decide +kernel
theorem dX2_itemsToBest_13 : decode cX2_itemsToBest 13 = .ok (.iload 5, 2) := by decide +kernel
theorem dX2_itemsToBest_15 : decode cX2_itemsToBest 15 = .ok (.bipush 11, 2) := by decide +kernel
theorem dX2_itemsToBest_17 : decode cX2_itemsToBest 17 = .ok (.if_icmp .ge 49, 3) := by decide +kernel
theorem dX2_itemsToBest_20 : decode cX2_itemsToBest 20 = .ok (.iload_n 3, 1) := by decide +kernel
theorem dX2_itemsToBest_21 : decode cX2_itemsToBest 21 = .ok (.iload 5, 2) := by decide +kernel
theorem dX2_itemsToBest_23 : decode cX2_itemsToBest 23 = .ok (.invokestatic 92, 3) := by decide +kernel
theorem dX2_itemsToBest_26 : decode cX2_itemsToBest 26 = .ok (.ifCond .eq 34, 3) := by decide +kernel
theorem dX2_itemsToBest_29 : decode cX2_itemsToBest 29 = .ok (.aload_n 0, 1) := by decide +kernel
theorem dX2_itemsToBest_30 : decode cX2_itemsToBest 30 = .ok (.getfield 30, 3) := by decide +kernel
theorem dX2_itemsToBest_33 : decode cX2_itemsToBest 33 = .ok (.iload_n 1, 1) := by decide +kernel
theorem dX2_itemsToBest_34 : decode cX2_itemsToBest 34 = .ok (.iconst 1, 1) := by decide +kernel
theorem dX2_itemsToBest_35 : decode cX2_itemsToBest 35 = .ok (.iadd, 1) := by decide +kernel
theorem dX2_itemsToBest_36 : decode cX2_itemsToBest 36 = .ok (.aaload, 1) := by decide +kernel
theorem dX2_itemsToBest_37 : decode cX2_itemsToBest 37 = .ok (.aload_n 0, 1) := by decide +kernel
theorem dX2_itemsToBest_38 : decode cX2_itemsToBest 38 = .ok (.iload_n 1, 1) := by decide +kernel
theorem dX2_itemsToBest_39 : decode cX2_itemsToBest 39 = .ok (.iload_n 2, 1) := by decide +kernel
theorem dX2_itemsToBest_40 : decode cX2_itemsToBest 40 = .ok (.iload 5, 2) := by decide +kernel
theorem dX2_itemsToBest_42 : decode cX2_itemsToBest 42 = .ok (.invokevirtual 96, 3) := by decide +kernel
theorem dX2_itemsToBest_45 : decode cX2_itemsToBest 45 = .ok (.laload, 1) := by decide +kernel
theorem dX2_itemsToBest_46 : decode cX2_itemsToBest 46 = .ok (.lconst 0, 1) := by decide +kernel
theorem dX2_itemsToBest_47 : decode cX2_itemsToBest 47 = .ok (.lcmp, 1) := by decide +kernel
theorem dX2_itemsToBest_48 : decode cX2_itemsToBest 48 = .ok (.ifCond .eq 12, 3) := by decide +kernel
theorem dX2_itemsToBest_51 : decode cX2_itemsToBest 51 = .ok (.iload 4, 2) := by decide +kernel
theorem dX2_itemsToBest_53 : decode cX2_itemsToBest 53 = .ok (.iconst 1, 1) := by decide +kernel
theorem dX2_itemsToBest_54 : decode cX2_itemsToBest 54 = .ok (.iload 5, 2) := by decide +kernel
theorem dX2_itemsToBest_56 : decode cX2_itemsToBest 56 = .ok (.ishl, 1) := by decide +kernel
theorem dX2_itemsToBest_57 : decode cX2_itemsToBest 57 = .ok (.ior, 1) := by decide +kernel
theorem dX2_itemsToBest_58 : decode cX2_itemsToBest 58 = .ok (.istore 4, 2) := by decide +kernel
theorem dX2_itemsToBest_60 : decode cX2_itemsToBest 60 = .ok (.iinc 5 1, 3) := by decide +kernel
theorem dX2_itemsToBest_63 : decode cX2_itemsToBest 63 = .ok (.goto (-50), 3) := by decide +kernel
theorem dX2_itemsToBest_66 : decode cX2_itemsToBest 66 = .ok (.iload 4, 2) := by decide +kernel
theorem dX2_itemsToBest_68 : decode cX2_itemsToBest 68 = .ok (.ireturn, 1) := by decide +kernel
theorem dX2_itemsFor_0 : decode cX2_itemsFor 0 = .ok (.aload_n 0, 1) := by decide +kernel
theorem dX2_itemsFor_1 : decode cX2_itemsFor 1 = .ok (.getfield 11, 3) := by decide +kernel
theorem dX2_itemsFor_4 : decode cX2_itemsFor 4 = .ok (.iload_n 1, 1) := by decide +kernel
theorem dX2_itemsFor_5 : decode cX2_itemsFor 5 = .ok (.iaload, 1) := by decide +kernel
theorem dX2_itemsFor_6 : decode cX2_itemsFor 6 = .ok (.aload_n 0, 1) := by decide +kernel
theorem dX2_itemsFor_7 : decode cX2_itemsFor 7 = .ok (.getfield 19, 3) := by decide +kernel
theorem dX2_itemsFor_10 : decode cX2_itemsFor 10 = .ok (.iload_n 2, 1) := by decide +kernel
theorem dX2_itemsFor_11 : decode cX2_itemsFor 11 = .ok (.bipush 11, 2) := by decide +kernel
theorem dX2_itemsFor_13 : decode cX2_itemsFor 13 = .ok (.irem, 1) := by decide +kernel
theorem dX2_itemsFor_14 : decode cX2_itemsFor 14 = .ok (.iaload, 1) := by decide +kernel
theorem dX2_itemsFor_15 : decode cX2_itemsFor 15 = .ok (.iand, 1) := by decide +kernel
theorem dX2_itemsFor_16 : decode cX2_itemsFor 16 = .ok (.iload_n 2, 1) := by decide +kernel
theorem dX2_itemsFor_17 : decode cX2_itemsFor 17 = .ok (.bipush 11, 2) := by decide +kernel
theorem dX2_itemsFor_19 : decode cX2_itemsFor 19 = .ok (.idiv, 1) := by decide +kernel
theorem dX2_itemsFor_20 : decode cX2_itemsFor 20 = .ok (.iconst (-1), 1) := by decide +kernel
theorem dX2_itemsFor_21 : decode cX2_itemsFor 21 = .ok (.ixor, 1) := by decide +kernel
theorem dX2_itemsFor_22 : decode cX2_itemsFor 22 = .ok (.iand, 1) := by decide +kernel
theorem dX2_itemsFor_23 : decode cX2_itemsFor 23 = .ok (.ireturn, 1) := by decide +kernel
theorem dX2_after_0 : decode cX2_after 0 = .ok (.iload_n 2, 1) := by decide +kernel
theorem dX2_after_1 : decode cX2_after 1 = .ok (.bipush 11, 2) := by decide +kernel
theorem dX2_after_3 : decode cX2_after 3 = .ok (.idiv, 1) := by decide +kernel
theorem dX2_after_4 : decode cX2_after 4 = .ok (.istore 4, 2) := by decide +kernel
theorem dX2_after_6 : decode cX2_after 6 = .ok (.iload_n 3, 1) := by decide +kernel
theorem dX2_after_7 : decode cX2_after 7 = .ok (.bipush 10, 2) := by decide +kernel
theorem dX2_after_9 : decode cX2_after 9 = .ok (.if_icmp .eq 11, 3) := by decide +kernel
theorem dX2_after_12 : decode cX2_after 12 = .ok (.iload 4, 2) := by decide +kernel
theorem dX2_after_14 : decode cX2_after 14 = .ok (.iconst 1, 1) := by decide +kernel
theorem dX2_after_15 : decode cX2_after 15 = .ok (.iload_n 3, 1) := by decide +kernel
theorem dX2_after_16 : decode cX2_after 16 = .ok (.ishl, 1) := by decide +kernel
theorem dX2_after_17 : decode cX2_after 17 = .ok (.ior, 1) := by decide +kernel
theorem dX2_after_18 : decode cX2_after 18 = .ok (.istore 4, 2) := by decide +kernel
theorem dX2_after_20 : decode cX2_after 20 = .ok (.iload 4, 2) := by decide +kernel
theorem dX2_after_22 : decode cX2_after 22 = .ok (.bipush 11, 2) := by decide +kernel
theorem dX2_after_24 : decode cX2_after 24 = .ok (.imul, 1) := by decide +kernel
theorem dX2_after_25 : decode cX2_after 25 = .ok (.aload_n 0, 1) := by decide +kernel
theorem dX2_after_26 : decode cX2_after 26 = .ok (.getfield 15, 3) := by decide +kernel
theorem dX2_after_29 : decode cX2_after 29 = .ok (.iload_n 1, 1) := by decide +kernel
theorem dX2_after_30 : decode cX2_after 30 = .ok (.baload, 1) := by decide +kernel
theorem dX2_after_31 : decode cX2_after 31 = .ok (.ifCond .eq 8, 3) := by decide +kernel
theorem dX2_after_34 : decode cX2_after 34 = .ok (.bipush 10, 2) := by decide +kernel
theorem dX2_after_36 : decode cX2_after 36 = .ok (.goto 4, 3) := by decide +kernel
theorem dX2_after_39 : decode cX2_after 39 = .ok (.iload_n 3, 1) := by decide +kernel
theorem dX2_after_40 : decode cX2_after 40 = .ok (.iadd, 1) := by decide +kernel
theorem dX2_after_41 : decode cX2_after 41 = .ok (.ireturn, 1) := by decide +kernel
theorem dX2_isPlace_0 : decode cX2_isPlace 0 = .ok (.iload_n 1, 1) := by decide +kernel
theorem dX2_isPlace_1 : decode cX2_isPlace 1 = .ok (.ifCond .lt 15, 3) := by decide +kernel
theorem dX2_isPlace_4 : decode cX2_isPlace 4 = .ok (.iload_n 1, 1) := by decide +kernel
theorem dX2_isPlace_5 : decode cX2_isPlace 5 = .ok (.aload_n 0, 1) := by decide +kernel
theorem dX2_isPlace_6 : decode cX2_isPlace 6 = .ok (.getfield 65, 3) := by decide +kernel
theorem dX2_isPlace_9 : decode cX2_isPlace 9 = .ok (.if_icmp .ge 7, 3) := by decide +kernel
theorem dX2_isPlace_12 : decode cX2_isPlace 12 = .ok (.iconst 1, 1) := by decide +kernel
theorem dX2_isPlace_13 : decode cX2_isPlace 13 = .ok (.goto 4, 3) := by decide +kernel
theorem dX2_isPlace_16 : decode cX2_isPlace 16 = .ok (.iconst 0, 1) := by decide +kernel
theorem dX2_isPlace_17 : decode cX2_isPlace 17 = .ok (.ireturn, 1) := by decide +kernel
theorem dX2_lowest_0 : decode cX2_lowest 0 = .ok (.iconst 0, 1) := by decide +kernel
theorem dX2_lowest_1 : decode cX2_lowest 1 = .ok (.istore_n 1, 1) := by decide +kernel
theorem dX2_lowest_2 : decode cX2_lowest 2 = .ok (.iload_n 1, 1) := by decide +kernel
theorem dX2_lowest_3 : decode cX2_lowest 3 = .ok (.bipush 11, 2) := by decide +kernel
theorem dX2_lowest_5 : decode cX2_lowest 5 = .ok (.if_icmp .ge 19, 3) := by decide +kernel
theorem dX2_lowest_8 : decode cX2_lowest 8 = .ok (.iload_n 0, 1) := by decide +kernel
theorem dX2_lowest_9 : decode cX2_lowest 9 = .ok (.iload_n 1, 1) := by decide +kernel
theorem dX2_lowest_10 : decode cX2_lowest 10 = .ok (.invokestatic 92, 3) := by decide +kernel
theorem dX2_lowest_13 : decode cX2_lowest 13 = .ok (.ifCond .eq 5, 3) := by decide +kernel
theorem dX2_lowest_16 : decode cX2_lowest 16 = .ok (.iload_n 1, 1) := by decide +kernel
theorem dX2_lowest_17 : decode cX2_lowest 17 = .ok (.ireturn, 1) := by decide +kernel
theorem dX2_lowest_18 : decode cX2_lowest 18 = .ok (.iinc 1 1, 3) := by decide +kernel
theorem dX2_lowest_21 : decode cX2_lowest 21 = .ok (.goto (-19), 3) := by decide +kernel
theorem dX2_lowest_24 : decode cX2_lowest 24 = .ok (.iconst (-1), 1) := by decide +kernel
theorem dX2_lowest_25 : decode cX2_lowest 25 = .ok (.ireturn, 1) := by decide +kernel
