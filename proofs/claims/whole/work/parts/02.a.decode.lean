theorem dX0_init_0 : decode cX0_init 0 = .ok (.aload_n 0, 1) := by decide +kernel
theorem dX0_init_1 : decode cX0_init 1 = .ok (.invokespecial 3, 3) := by decide +kernel
theorem dX0_init_4 : decode cX0_init 4 = .ok (.aload_n 0, 1) := by decide +kernel
theorem dX0_init_5 : decode cX0_init 5 = .ok (.iconst 4, 1) := by decide +kernel
theorem dX0_init_6 : decode cX0_init 6 = .ok (.newarray .int, 2) := by decide +kernel
theorem dX0_init_8 : decode cX0_init 8 = .ok (.putfield 9, 3) := by decide +kernel
theorem dX0_init_11 : decode cX0_init 11 = .ok (.aload_n 0, 1) := by decide +kernel
theorem dX0_init_12 : decode cX0_init 12 = .ok (.iconst 4, 1) := by decide +kernel
theorem dX0_init_13 : decode cX0_init 13 = .ok (.newarray .int, 2) := by decide +kernel
theorem dX0_init_15 : decode cX0_init 15 = .ok (.putfield 15, 3) := by decide +kernel
theorem dX0_init_18 : decode cX0_init 18 = .ok (.aload_n 0, 1) := by decide +kernel
theorem dX0_init_19 : decode cX0_init 19 = .ok (.iconst 4, 1) := by decide +kernel
theorem dX0_init_20 : decode cX0_init 20 = .ok (.newarray .int, 2) := by decide +kernel
theorem dX0_init_22 : decode cX0_init 22 = .ok (.putfield 18, 3) := by decide +kernel
theorem dX0_init_25 : decode cX0_init 25 = .ok (.aload_n 0, 1) := by decide +kernel
theorem dX0_init_26 : decode cX0_init 26 = .ok (.iconst 4, 1) := by decide +kernel
theorem dX0_init_27 : decode cX0_init 27 = .ok (.newarray .int, 2) := by decide +kernel
theorem dX0_init_29 : decode cX0_init 29 = .ok (.putfield 21, 3) := by decide +kernel
theorem dX0_init_32 : decode cX0_init 32 = .ok (.aload_n 0, 1) := by decide +kernel
theorem dX0_init_33 : decode cX0_init 33 = .ok (.bipush 8, 2) := by decide +kernel
theorem dX0_init_35 : decode cX0_init 35 = .ok (.newarray .int, 2) := by decide +kernel
theorem dX0_init_37 : decode cX0_init 37 = .ok (.putfield 24, 3) := by decide +kernel
theorem dX0_init_40 : decode cX0_init 40 = .ok (.aload_n 0, 1) := by decide +kernel
theorem dX0_init_41 : decode cX0_init 41 = .ok (.iconst 4, 1) := by decide +kernel
theorem dX0_init_42 : decode cX0_init 42 = .ok (.newarray .int, 2) := by decide +kernel
theorem dX0_init_44 : decode cX0_init 44 = .ok (.putfield 27, 3) := by decide +kernel
theorem dX0_init_47 : decode cX0_init 47 = .ok (.return_, 1) := by decide +kernel
theorem dX0_number_0 : decode cX0_number 0 = .ok (.aload_n 0, 1) := by decide +kernel
theorem dX0_number_1 : decode cX0_number 1 = .ok (.getfield 30, 3) := by decide +kernel
theorem dX0_number_4 : decode cX0_number 4 = .ok (.ireturn, 1) := by decide +kernel
theorem dX0_placeNumber_0 : decode cX0_placeNumber 0 = .ok (.aload_n 0, 1) := by decide +kernel
theorem dX0_placeNumber_1 : decode cX0_placeNumber 1 = .ok (.getfield 34, 3) := by decide +kernel
theorem dX0_placeNumber_4 : decode cX0_placeNumber 4 = .ok (.ireturn, 1) := by decide +kernel
theorem dX0_has_0 : decode cX0_has 0 = .ok (.iload_n 1, 1) := by decide +kernel
theorem dX0_has_1 : decode cX0_has 1 = .ok (.ifCond .lt 15, 3) := by decide +kernel
theorem dX0_has_4 : decode cX0_has 4 = .ok (.iload_n 1, 1) := by decide +kernel
theorem dX0_has_5 : decode cX0_has 5 = .ok (.aload_n 0, 1) := by decide +kernel
theorem dX0_has_6 : decode cX0_has 6 = .ok (.getfield 30, 3) := by decide +kernel
theorem dX0_has_9 : decode cX0_has 9 = .ok (.if_icmp .ge 7, 3) := by decide +kernel
theorem dX0_has_12 : decode cX0_has 12 = .ok (.iconst 1, 1) := by decide +kernel
theorem dX0_has_13 : decode cX0_has 13 = .ok (.goto 4, 3) := by decide +kernel
theorem dX0_has_16 : decode cX0_has 16 = .ok (.iconst 0, 1) := by decide +kernel
theorem dX0_has_17 : decode cX0_has 17 = .ok (.ireturn, 1) := by decide +kernel
theorem dX0_hasPlace_0 : decode cX0_hasPlace 0 = .ok (.iload_n 1, 1) := by decide +kernel
theorem dX0_hasPlace_1 : decode cX0_hasPlace 1 = .ok (.ifCond .lt 15, 3) := by decide +kernel
theorem dX0_hasPlace_4 : decode cX0_hasPlace 4 = .ok (.iload_n 1, 1) := by decide +kernel
theorem dX0_hasPlace_5 : decode cX0_hasPlace 5 = .ok (.aload_n 0, 1) := by decide +kernel
theorem dX0_hasPlace_6 : decode cX0_hasPlace 6 = .ok (.getfield 34, 3) := by decide +kernel
theorem dX0_hasPlace_9 : decode cX0_hasPlace 9 = .ok (.if_icmp .ge 7, 3) := by decide +kernel
theorem dX0_hasPlace_12 : decode cX0_hasPlace 12 = .ok (.iconst 1, 1) := by decide +kernel
theorem dX0_hasPlace_13 : decode cX0_hasPlace 13 = .ok (.goto 4, 3) := by decide +kernel
theorem dX0_hasPlace_16 : decode cX0_hasPlace 16 = .ok (.iconst 0, 1) := by decide +kernel
theorem dX0_hasPlace_17 : decode cX0_hasPlace 17 = .ok (.ireturn, 1) := by decide +kernel
theorem dX0_canTakeOne_0 : decode cX0_canTakeOne 0 = .ok (.aload_n 0, 1) := by decide +kernel
theorem dX0_canTakeOne_1 : decode cX0_canTakeOne 1 = .ok (.getfield 30, 3) := by decide +kernel
theorem dX0_canTakeOne_4 : decode cX0_canTakeOne 4 = .ok (.iconst 4, 1) := by decide +kernel
theorem dX0_canTakeOne_5 : decode cX0_canTakeOne 5 = .ok (.if_icmp .ge 18, 3) := by decide +kernel
theorem dX0_canTakeOne_8 : decode cX0_canTakeOne 8 = .ok (.aload_n 0, 1) := by decide +kernel
theorem dX0_canTakeOne_9 : decode cX0_canTakeOne 9 = .ok (.getfield 34, 3) := by decide +kernel
theorem dX0_canTakeOne_12 : decode cX0_canTakeOne 12 = .ok (.iload_n 1, 1) := by decide +kernel
theorem dX0_canTakeOne_13 : decode cX0_canTakeOne 13 = .ok (.iadd, 1) := by decide +kernel
theorem dX0_canTakeOne_14 : decode cX0_canTakeOne 14 = .ok (.bipush 8, 2) := by decide +kernel
theorem dX0_canTakeOne_16 : decode cX0_canTakeOne 16 = .ok (.if_icmp .gt 7, 3) := by decide +kernel
theorem dX0_canTakeOne_19 : decode cX0_canTakeOne 19 = .ok (.iconst 1, 1) := by decide +kernel
theorem dX0_canTakeOne_20 : decode cX0_canTakeOne 20 = .ok (.goto 4, 3) := by decide +kernel
theorem dX0_canTakeOne_23 : decode cX0_canTakeOne 23 = .ok (.iconst 0, 1) := by decide +kernel
theorem dX0_canTakeOne_24 : decode cX0_canTakeOne 24 = .ok (.ireturn, 1) := by decide +kernel
theorem dX0_take_0 : decode cX0_take 0 = .ok (.aload_n 0, 1) := by decide +kernel
theorem dX0_take_1 : decode cX0_take 1 = .ok (.iload_n 1, 1) := by decide +kernel
theorem dX0_take_2 : decode cX0_take 2 = .ok (.invokevirtual 37, 3) := by decide +kernel
theorem dX0_take_5 : decode cX0_take 5 = .ok (.ifCond .ne 5, 3) := by decide +kernel
theorem dX0_take_8 : decode cX0_take 8 = .ok (.iconst (-1), 1) := by decide +kernel
theorem dX0_take_9 : decode cX0_take 9 = .ok (.ireturn, 1) := by decide +kernel
theorem dX0_take_10 : decode cX0_take 10 = .ok (.aload_n 0, 1) := by decide +kernel
theorem dX0_take_11 : decode cX0_take 11 = .ok (.getfield 9, 3) := by decide +kernel
theorem dX0_take_14 : decode cX0_take 14 = .ok (.aload_n 0, 1) := by decide +kernel
theorem dX0_take_15 : decode cX0_take 15 = .ok (.getfield 30, 3) := by decide +kernel
theorem dX0_take_18 : decode cX0_take 18 = .ok (.aload_n 0, 1) := by decide +kernel
theorem dX0_take_19 : decode cX0_take 19 = .ok (.getfield 34, 3) := by decide +kernel
theorem dX0_take_22 : decode cX0_take 22 = .ok (.iastore, 1) := by decide +kernel
theorem dX0_take_23 : decode cX0_take 23 = .ok (.aload_n 0, 1) := by decide +kernel
theorem dX0_take_24 : decode cX0_take 24 = .ok (.getfield 15, 3) := by decide +kernel
theorem dX0_take_27 : decode cX0_take 27 = .ok (.aload_n 0, 1) := by decide +kernel
theorem dX0_take_28 : decode cX0_take 28 = .ok (.getfield 30, 3) := by decide +kernel
theorem dX0_take_31 : decode cX0_take 31 = .ok (.iload_n 1, 1) := by decide +kernel
theorem dX0_take_32 : decode cX0_take 32 = .ok (.iastore, 1) := by decide +kernel
theorem dX0_take_33 : decode cX0_take 33 = .ok (.aload_n 0, 1) := by decide +kernel
theorem dX0_take_34 : decode cX0_take 34 = .ok (.getfield 18, 3) := by decide +kernel
theorem dX0_take_37 : decode cX0_take 37 = .ok (.aload_n 0, 1) := by decide +kernel
theorem dX0_take_38 : decode cX0_take 38 = .ok (.getfield 30, 3) := by decide +kernel
theorem dX0_take_41 : decode cX0_take 41 = .ok (.iload_n 2, 1) := by decide +kernel
theorem dX0_take_42 : decode cX0_take 42 = .ok (.iastore, 1) := by decide +kernel
theorem dX0_take_43 : decode cX0_take 43 = .ok (.aload_n 0, 1) := by decide +kernel
theorem dX0_take_44 : decode cX0_take 44 = .ok (.getfield 21, 3) := by decide +kernel
theorem dX0_take_47 : decode cX0_take 47 = .ok (.aload_n 0, 1) := by decide +kernel
theorem dX0_take_48 : decode cX0_take 48 = .ok (.getfield 30, 3) := by decide +kernel
theorem dX0_take_51 : decode cX0_take 51 = .ok (.iload_n 3, 1) := by decide +kernel
theorem dX0_take_52 : decode cX0_take 52 = .ok (.iastore, 1) := by decide +kernel
theorem dX0_take_53 : decode cX0_take 53 = .ok (.iconst 0, 1) := by decide +kernel
theorem dX0_take_54 : decode cX0_take 54 = .ok (.istore 4, 2) := by decide +kernel
theorem dX0_take_56 : decode cX0_take 56 = .ok (.iload 4, 2) := by decide +kernel
theorem dX0_take_58 : decode cX0_take 58 = .ok (.iload_n 1, 1) := by decide +kernel
theorem dX0_take_59 : decode cX0_take 59 = .ok (.if_icmp .ge 25, 3) := by decide +kernel
theorem dX0_take_62 : decode cX0_take 62 = .ok (.aload_n 0, 1) := by decide +kernel
theorem dX0_take_63 : decode cX0_take 63 = .ok (.getfield 24, 3) := by decide +kernel
theorem dX0_take_66 : decode cX0_take 66 = .ok (.aload_n 0, 1) := by decide +kernel
theorem dX0_take_67 : decode cX0_take 67 = .ok (.getfield 34, 3) := by decide +kernel
theorem dX0_take_70 : decode cX0_take 70 = .ok (.iload 4, 2) := by decide +kernel
theorem dX0_take_72 : decode cX0_take 72 = .ok (.iadd, 1) := by decide +kernel
theorem dX0_take_73 : decode cX0_take 73 = .ok (.aload_n 0, 1) := by decide +kernel
theorem dX0_take_74 : decode cX0_take 74 = .ok (.getfield 30, 3) := by decide +kernel
theorem dX0_take_77 : decode cX0_take 77 = .ok (.iastore, 1) := by decide +kernel
theorem dX0_take_78 : decode cX0_take 78 = .ok (.iinc 4 1, 3) := by decide +kernel
theorem dX0_take_81 : decode cX0_take 81 = .ok (.goto (-25), 3) := by decide +kernel
theorem dX0_take_84 : decode cX0_take 84 = .ok (.aload_n 0, 1) := by decide +kernel
theorem dX0_take_85 : decode cX0_take 85 = .ok (.dup, 1) := by decide +kernel
theorem dX0_take_86 : decode cX0_take 86 = .ok (.getfield 34, 3) := by decide +kernel
theorem dX0_take_89 : decode cX0_take 89 = .ok (.iload_n 1, 1) := by decide +kernel
theorem dX0_take_90 : decode cX0_take 90 = .ok (.iadd, 1) := by decide +kernel
theorem dX0_take_91 : decode cX0_take 91 = .ok (.putfield 34, 3) := by decide +kernel
theorem dX0_take_94 : decode cX0_take 94 = .ok (.aload_n 0, 1) := by decide +kernel
theorem dX0_take_95 : decode cX0_take 95 = .ok (.dup, 1) := by decide +kernel
theorem dX0_take_96 : decode cX0_take 96 = .ok (.getfield 30, 3) := by decide +kernel
theorem dX0_take_99 : decode cX0_take 99 = .ok (.iconst 1, 1) := by decide +kernel
theorem dX0_take_100 : decode cX0_take 100 = .ok (.iadd, 1) := by decide +kernel
theorem dX0_take_101 : decode cX0_take 101 = .ok (.putfield 30, 3) := by decide +kernel
theorem dX0_take_104 : decode cX0_take 104 = .ok (.aload_n 0, 1) := by decide +kernel
theorem dX0_take_105 : decode cX0_take 105 = .ok (.getfield 30, 3) := by decide +kernel
theorem dX0_take_108 : decode cX0_take 108 = .ok (.iconst 1, 1) := by decide +kernel
theorem dX0_take_109 : decode cX0_take 109 = .ok (.isub, 1) := by decide +kernel
theorem dX0_take_110 : decode cX0_take 110 = .ok (.ireturn, 1) := by decide +kernel
theorem dX0_columnOf_0 : decode cX0_columnOf 0 = .ok (.aload_n 0, 1) := by decide +kernel
theorem dX0_columnOf_1 : decode cX0_columnOf 1 = .ok (.iload_n 1, 1) := by decide +kernel
theorem dX0_columnOf_2 : decode cX0_columnOf 2 = .ok (.invokevirtual 41, 3) := by decide +kernel
theorem dX0_columnOf_5 : decode cX0_columnOf 5 = .ok (.ifCond .eq 12, 3) := by decide +kernel
theorem dX0_columnOf_8 : decode cX0_columnOf 8 = .ok (.aload_n 0, 1) := by decide +kernel
theorem dX0_columnOf_9 : decode cX0_columnOf 9 = .ok (.getfield 24, 3) := by decide +kernel
theorem dX0_columnOf_12 : decode cX0_columnOf 12 = .ok (.iload_n 1, 1) := by decide +kernel
theorem dX0_columnOf_13 : decode cX0_columnOf 13 = .ok (.iaload, 1) := by decide +kernel
theorem dX0_columnOf_14 : decode cX0_columnOf 14 = .ok (.goto 4, 3) := by decide +kernel
theorem dX0_columnOf_17 : decode cX0_columnOf 17 = .ok (.iconst (-1), 1) := by decide +kernel
theorem dX0_columnOf_18 : decode cX0_columnOf 18 = .ok (.ireturn, 1) := by decide +kernel
theorem dX0_startOf_0 : decode cX0_startOf 0 = .ok (.aload_n 0, 1) := by decide +kernel
theorem dX0_startOf_1 : decode cX0_startOf 1 = .ok (.iload_n 1, 1) := by decide +kernel
theorem dX0_startOf_2 : decode cX0_startOf 2 = .ok (.invokevirtual 44, 3) := by decide +kernel
theorem dX0_startOf_5 : decode cX0_startOf 5 = .ok (.ifCond .eq 12, 3) := by decide +kernel
theorem dX0_startOf_8 : decode cX0_startOf 8 = .ok (.aload_n 0, 1) := by decide +kernel
theorem dX0_startOf_9 : decode cX0_startOf 9 = .ok (.getfield 9, 3) := by decide +kernel
theorem dX0_startOf_12 : decode cX0_startOf 12 = .ok (.iload_n 1, 1) := by decide +kernel
theorem dX0_startOf_13 : decode cX0_startOf 13 = .ok (.iaload, 1) := by decide +kernel
theorem dX0_startOf_14 : decode cX0_startOf 14 = .ok (.goto 4, 3) := by decide +kernel
theorem dX0_startOf_17 : decode cX0_startOf 17 = .ok (.iconst 0, 1) := by decide +kernel
theorem dX0_startOf_18 : decode cX0_startOf 18 = .ok (.ireturn, 1) := by decide +kernel
theorem dX0_endOf_0 : decode cX0_endOf 0 = .ok (.aload_n 0, 1) := by decide +kernel
theorem dX0_endOf_1 : decode cX0_endOf 1 = .ok (.iload_n 1, 1) := by decide +kernel
theorem dX0_endOf_2 : decode cX0_endOf 2 = .ok (.invokevirtual 44, 3) := by decide +kernel
theorem dX0_endOf_5 : decode cX0_endOf 5 = .ok (.ifCond .eq 19, 3) := by decide +kernel
theorem dX0_endOf_8 : decode cX0_endOf 8 = .ok (.aload_n 0, 1) := by decide +kernel
theorem dX0_endOf_9 : decode cX0_endOf 9 = .ok (.getfield 9, 3) := by decide +kernel
theorem dX0_endOf_12 : decode cX0_endOf 12 = .ok (.iload_n 1, 1) := by decide +kernel
theorem dX0_endOf_13 : decode cX0_endOf 13 = .ok (.iaload, 1) := by decide +kernel
theorem dX0_endOf_14 : decode cX0_endOf 14 = .ok (.aload_n 0, 1) := by decide +kernel
theorem dX0_endOf_15 : decode cX0_endOf 15 = .ok (.getfield 15, 3) := by decide +kernel
theorem dX0_endOf_18 : decode cX0_endOf 18 = .ok (.iload_n 1, 1) := by decide +kernel
theorem dX0_endOf_19 : decode cX0_endOf 19 = .ok (.iaload, 1) := by decide +kernel
theorem dX0_endOf_20 : decode cX0_endOf 20 = .ok (.iadd, 1) := by decide +kernel
theorem dX0_endOf_21 : decode cX0_endOf 21 = .ok (.goto 4, 3) := by decide +kernel
theorem dX0_endOf_24 : decode cX0_endOf 24 = .ok (.iconst 0, 1) := by decide +kernel
theorem dX0_endOf_25 : decode cX0_endOf 25 = .ok (.ireturn, 1) := by decide +kernel
theorem dX0_footOf_0 : decode cX0_footOf 0 = .ok (.aload_n 0, 1) := by decide +kernel
theorem dX0_footOf_1 : decode cX0_footOf 1 = .ok (.iload_n 1, 1) := by decide +kernel
theorem dX0_footOf_2 : decode cX0_footOf 2 = .ok (.invokevirtual 44, 3) := by decide +kernel
theorem dX0_footOf_5 : decode cX0_footOf 5 = .ok (.ifCond .eq 12, 3) := by decide +kernel
theorem dX0_footOf_8 : decode cX0_footOf 8 = .ok (.aload_n 0, 1) := by decide +kernel
theorem dX0_footOf_9 : decode cX0_footOf 9 = .ok (.getfield 18, 3) := by decide +kernel
theorem dX0_footOf_12 : decode cX0_footOf 12 = .ok (.iload_n 1, 1) := by decide +kernel
theorem dX0_footOf_13 : decode cX0_footOf 13 = .ok (.iaload, 1) := by decide +kernel
theorem dX0_footOf_14 : decode cX0_footOf 14 = .ok (.goto 4, 3) := by decide +kernel
theorem dX0_footOf_17 : decode cX0_footOf 17 = .ok (.iconst 0, 1) := by decide +kernel
theorem dX0_footOf_18 : decode cX0_footOf 18 = .ok (.ireturn, 1) := by decide +kernel
theorem dX0_headOf_0 : decode cX0_headOf 0 = .ok (.aload_n 0, 1) := by decide +kernel
theorem dX0_headOf_1 : decode cX0_headOf 1 = .ok (.iload_n 1, 1) := by decide +kernel
theorem dX0_headOf_2 : decode cX0_headOf 2 = .ok (.invokevirtual 44, 3) := by decide +kernel
theorem dX0_headOf_5 : decode cX0_headOf 5 = .ok (.ifCond .eq 12, 3) := by decide +kernel
theorem dX0_headOf_8 : decode cX0_headOf 8 = .ok (.aload_n 0, 1) := by decide +kernel
theorem dX0_headOf_9 : decode cX0_headOf 9 = .ok (.getfield 21, 3) := by decide +kernel
theorem dX0_headOf_12 : decode cX0_headOf 12 = .ok (.iload_n 1, 1) := by decide +kernel
theorem dX0_headOf_13 : decode cX0_headOf 13 = .ok (.iaload, 1) := by decide +kernel
theorem dX0_headOf_14 : decode cX0_headOf 14 = .ok (.goto 4, 3) := by decide +kernel
theorem dX0_headOf_17 : decode cX0_headOf 17 = .ok (.iconst 0, 1) := by decide +kernel
theorem dX0_headOf_18 : decode cX0_headOf 18 = .ok (.ireturn, 1) := by decide +kernel
theorem dX0_isFoot_0 : decode cX0_isFoot 0 = .ok (.iload_n 1, 1) := by decide +kernel
theorem dX0_isFoot_1 : decode cX0_isFoot 1 = .ok (.aload_n 0, 1) := by decide +kernel
theorem dX0_isFoot_2 : decode cX0_isFoot 2 = .ok (.aload_n 0, 1) := by decide +kernel
theorem dX0_isFoot_3 : decode cX0_isFoot 3 = .ok (.iload_n 1, 1) := by decide +kernel
theorem dX0_isFoot_4 : decode cX0_isFoot 4 = .ok (.invokevirtual 47, 3) := by decide +kernel
theorem dX0_isFoot_7 : decode cX0_isFoot 7 = .ok (.invokevirtual 51, 3) := by decide +kernel
theorem dX0_isFoot_10 : decode cX0_isFoot 10 = .ok (.if_icmp .ne 7, 3) := by decide +kernel
theorem dX0_isFoot_13 : decode cX0_isFoot 13 = .ok (.iconst 1, 1) := by decide +kernel
theorem dX0_isFoot_14 : decode cX0_isFoot 14 = .ok (.goto 4, 3) := by decide +kernel
theorem dX0_isFoot_17 : decode cX0_isFoot 17 = .ok (.iconst 0, 1) := by decide +kernel
theorem dX0_isFoot_18 : decode cX0_isFoot 18 = .ok (.ireturn, 1) := by decide +kernel
theorem dX0_isHead_0 : decode cX0_isHead 0 = .ok (.iload_n 1, 1) := by decide +kernel
theorem dX0_isHead_1 : decode cX0_isHead 1 = .ok (.iconst 1, 1) := by decide +kernel
theorem dX0_isHead_2 : decode cX0_isHead 2 = .ok (.iadd, 1) := by decide +kernel
theorem dX0_isHead_3 : decode cX0_isHead 3 = .ok (.aload_n 0, 1) := by decide +kernel
theorem dX0_isHead_4 : decode cX0_isHead 4 = .ok (.aload_n 0, 1) := by decide +kernel
theorem dX0_isHead_5 : decode cX0_isHead 5 = .ok (.iload_n 1, 1) := by decide +kernel
theorem dX0_isHead_6 : decode cX0_isHead 6 = .ok (.invokevirtual 47, 3) := by decide +kernel
theorem dX0_isHead_9 : decode cX0_isHead 9 = .ok (.invokevirtual 54, 3) := by decide +kernel
theorem dX0_isHead_12 : decode cX0_isHead 12 = .ok (.if_icmp .ne 7, 3) := by decide +kernel
theorem dX0_isHead_15 : decode cX0_isHead 15 = .ok (.iconst 1, 1) := by decide +kernel
theorem dX0_isHead_16 : decode cX0_isHead 16 = .ok (.goto 4, 3) := by decide +kernel
theorem dX0_isHead_19 : decode cX0_isHead 19 = .ok (.iconst 0, 1) := by decide +kernel
theorem dX0_isHead_20 : decode cX0_isHead 20 = .ok (.ireturn, 1) := by decide +kernel
theorem dX0_placeOfStone_0 : decode cX0_placeOfStone 0 = .ok (.iconst 0, 1) := by decide +kernel
theorem dX0_placeOfStone_1 : decode cX0_placeOfStone 1 = .ok (.istore_n 3, 1) := by decide +kernel
theorem dX0_placeOfStone_2 : decode cX0_placeOfStone 2 = .ok (.iload_n 3, 1) := by decide +kernel
theorem dX0_placeOfStone_3 : decode cX0_placeOfStone 3 = .ok (.aload_n 0, 1) := by decide +kernel
theorem dX0_placeOfStone_4 : decode cX0_placeOfStone 4 = .ok (.getfield 30, 3) := by decide +kernel
theorem dX0_placeOfStone_7 : decode cX0_placeOfStone 7 = .ok (.if_icmp .ge 16, 3) := by decide +kernel
theorem dX0_placeOfStone_10 : decode cX0_placeOfStone 10 = .ok (.aload_n 0, 1) := by decide +kernel
theorem dX0_placeOfStone_11 : decode cX0_placeOfStone 11 = .ok (.getfield 27, 3) := by decide +kernel
theorem dX0_placeOfStone_14 : decode cX0_placeOfStone 14 = .ok (.iload_n 3, 1) := by decide +kernel
theorem dX0_placeOfStone_15 : decode cX0_placeOfStone 15 = .ok (.iconst 0, 1) := by decide +kernel
theorem dX0_placeOfStone_16 : decode cX0_placeOfStone 16 = .ok (.iastore, 1) := by decide +kernel
theorem dX0_placeOfStone_17 : decode cX0_placeOfStone 17 = .ok (.iinc 3 1, 3) := by decide +kernel
theorem dX0_placeOfStone_20 : decode cX0_placeOfStone 20 = .ok (.goto (-18), 3) := by decide +kernel
theorem dX0_placeOfStone_23 : decode cX0_placeOfStone 23 = .ok (.iconst (-1), 1) := by decide +kernel
theorem dX0_placeOfStone_24 : decode cX0_placeOfStone 24 = .ok (.istore_n 3, 1) := by decide +kernel
theorem dX0_placeOfStone_25 : decode cX0_placeOfStone 25 = .ok (.iconst 0, 1) := by decide +kernel
theorem dX0_placeOfStone_26 : decode cX0_placeOfStone 26 = .ok (.istore 4, 2) := by decide +kernel
theorem dX0_placeOfStone_28 : decode cX0_placeOfStone 28 = .ok (.iload 4, 2) := by decide +kernel
theorem dX0_placeOfStone_30 : decode cX0_placeOfStone 30 = .ok (.iload_n 1, 1) := by decide +kernel
theorem dX0_placeOfStone_31 : decode cX0_placeOfStone 31 = .ok (.if_icmp .gt 60, 3) := by decide +kernel
theorem dX0_placeOfStone_34 : decode cX0_placeOfStone 34 = .ok (.iload 4, 2) := by decide +kernel
theorem dX0_placeOfStone_36 : decode cX0_placeOfStone 36 = .ok (.aload_n 0, 1) := by decide +kernel
theorem dX0_placeOfStone_37 : decode cX0_placeOfStone 37 = .ok (.getfield 34, 3) := by decide +kernel
theorem dX0_placeOfStone_40 : decode cX0_placeOfStone 40 = .ok (.if_icmp .ge 51, 3) := by decide +kernel
theorem dX0_placeOfStone_43 : decode cX0_placeOfStone 43 = .ok (.aload_n 0, 1) := by decide +kernel
theorem dX0_placeOfStone_44 : decode cX0_placeOfStone 44 = .ok (.iload_n 2, 1) := by decide +kernel
theorem dX0_placeOfStone_45 : decode cX0_placeOfStone 45 = .ok (.invokevirtual 57, 3) := by decide +kernel
theorem dX0_placeOfStone_48 : decode cX0_placeOfStone 48 = .ok (.istore 5, 2) := by decide +kernel
theorem dX0_placeOfStone_50 : decode cX0_placeOfStone 50 = .ok (.iload 5, 2) := by decide +kernel
theorem dX0_placeOfStone_52 : decode cX0_placeOfStone 52 = .ok (.iconst (-1), 1) := by decide +kernel
theorem dX0_placeOfStone_53 : decode cX0_placeOfStone 53 = .ok (.if_icmp .ne 5, 3) := by decide +kernel
theorem dX0_placeOfStone_56 : decode cX0_placeOfStone 56 = .ok (.iconst (-1), 1) := by decide +kernel
theorem dX0_placeOfStone_57 : decode cX0_placeOfStone 57 = .ok (.ireturn, 1) := by decide +kernel
theorem dX0_placeOfStone_58 : decode cX0_placeOfStone 58 = .ok (.aload_n 0, 1) := by decide +kernel
theorem dX0_placeOfStone_59 : decode cX0_placeOfStone 59 = .ok (.getfield 9, 3) := by decide +kernel
theorem dX0_placeOfStone_62 : decode cX0_placeOfStone 62 = .ok (.iload 5, 2) := by decide +kernel
theorem dX0_placeOfStone_64 : decode cX0_placeOfStone 64 = .ok (.iaload, 1) := by decide +kernel
theorem dX0_placeOfStone_65 : decode cX0_placeOfStone 65 = .ok (.aload_n 0, 1) := by decide +kernel
theorem dX0_placeOfStone_66 : decode cX0_placeOfStone 66 = .ok (.getfield 27, 3) := by decide +kernel
theorem dX0_placeOfStone_69 : decode cX0_placeOfStone 69 = .ok (.iload 5, 2) := by decide +kernel
theorem dX0_placeOfStone_71 : decode cX0_placeOfStone 71 = .ok (.iaload, 1) := by decide +kernel
theorem dX0_placeOfStone_72 : decode cX0_placeOfStone 72 = .ok (.iadd, 1) := by decide +kernel
theorem dX0_placeOfStone_73 : decode cX0_placeOfStone 73 = .ok (.istore_n 3, 1) := by decide +kernel
theorem dX0_placeOfStone_74 : decode cX0_placeOfStone 74 = .ok (.aload_n 0, 1) := by decide +kernel
theorem dX0_placeOfStone_75 : decode cX0_placeOfStone 75 = .ok (.getfield 27, 3) := by decide +kernel
theorem dX0_placeOfStone_78 : decode cX0_placeOfStone 78 = .ok (.iload 5, 2) := by decide +kernel
theorem dX0_placeOfStone_80 : decode cX0_placeOfStone 80 = .ok (.dup2, 1) := by decide +kernel
theorem dX0_placeOfStone_81 : decode cX0_placeOfStone 81 = .ok (.iaload, 1) := by decide +kernel
theorem dX0_placeOfStone_82 : decode cX0_placeOfStone 82 = .ok (.iconst 1, 1) := by decide +kernel
theorem dX0_placeOfStone_83 : decode cX0_placeOfStone 83 = .ok (.iadd, 1) := by decide +kernel
theorem dX0_placeOfStone_84 : decode cX0_placeOfStone 84 = .ok (.iastore, 1) := by decide +kernel
theorem dX0_placeOfStone_85 : decode cX0_placeOfStone 85 = .ok (.iinc 4 1, 3) := by decide +kernel
theorem dX0_placeOfStone_88 : decode cX0_placeOfStone 88 = .ok (.goto (-60), 3) := by decide +kernel
theorem dX0_placeOfStone_91 : decode cX0_placeOfStone 91 = .ok (.iload_n 3, 1) := by decide +kernel
theorem dX0_placeOfStone_92 : decode cX0_placeOfStone 92 = .ok (.ireturn, 1) := by decide +kernel
theorem dX0_nextColumn_0 : decode cX0_nextColumn 0 = .ok (.iconst 0, 1) := by decide +kernel
theorem dX0_nextColumn_1 : decode cX0_nextColumn 1 = .ok (.istore_n 2, 1) := by decide +kernel
theorem dX0_nextColumn_2 : decode cX0_nextColumn 2 = .ok (.iload_n 2, 1) := by decide +kernel
theorem dX0_nextColumn_3 : decode cX0_nextColumn 3 = .ok (.aload_n 0, 1) := by decide +kernel
theorem dX0_nextColumn_4 : decode cX0_nextColumn 4 = .ok (.getfield 30, 3) := by decide +kernel
theorem dX0_nextColumn_7 : decode cX0_nextColumn 7 = .ok (.if_icmp .ge 52, 3) := by decide +kernel
theorem dX0_nextColumn_10 : decode cX0_nextColumn 10 = .ok (.aload_n 0, 1) := by decide +kernel
theorem dX0_nextColumn_11 : decode cX0_nextColumn 11 = .ok (.getfield 27, 3) := by decide +kernel
theorem dX0_nextColumn_14 : decode cX0_nextColumn 14 = .ok (.iload_n 2, 1) := by decide +kernel
theorem dX0_nextColumn_15 : decode cX0_nextColumn 15 = .ok (.iaload, 1) := by decide +kernel
theorem dX0_nextColumn_16 : decode cX0_nextColumn 16 = .ok (.iconst 1, 1) := by decide +kernel
theorem dX0_nextColumn_17 : decode cX0_nextColumn 17 = .ok (.iadd, 1) := by decide +kernel
theorem dX0_nextColumn_18 : decode cX0_nextColumn 18 = .ok (.iload_n 1, 1) := by decide +kernel
theorem dX0_nextColumn_19 : decode cX0_nextColumn 19 = .ok (.isub, 1) := by decide +kernel
theorem dX0_nextColumn_20 : decode cX0_nextColumn 20 = .ok (.istore_n 3, 1) := by decide +kernel
theorem dX0_nextColumn_21 : decode cX0_nextColumn 21 = .ok (.aload_n 0, 1) := by decide +kernel
theorem dX0_nextColumn_22 : decode cX0_nextColumn 22 = .ok (.iload_n 2, 1) := by decide +kernel
theorem dX0_nextColumn_23 : decode cX0_nextColumn 23 = .ok (.invokevirtual 60, 3) := by decide +kernel
theorem dX0_nextColumn_26 : decode cX0_nextColumn 26 = .ok (.ifCond .ne 27, 3) := by decide +kernel
theorem dX0_nextColumn_29 : decode cX0_nextColumn 29 = .ok (.aload_n 0, 1) := by decide +kernel
theorem dX0_nextColumn_30 : decode cX0_nextColumn 30 = .ok (.iload_n 2, 1) := by decide +kernel
theorem dX0_nextColumn_31 : decode cX0_nextColumn 31 = .ok (.iconst 1, 1) := by decide +kernel
theorem dX0_nextColumn_32 : decode cX0_nextColumn 32 = .ok (.isub, 1) := by decide +kernel
theorem dX0_nextColumn_33 : decode cX0_nextColumn 33 = .ok (.iload_n 3, 1) := by decide +kernel
theorem dX0_nextColumn_34 : decode cX0_nextColumn 34 = .ok (.invokevirtual 63, 3) := by decide +kernel
theorem dX0_nextColumn_37 : decode cX0_nextColumn 37 = .ok (.ifCond .eq 16, 3) := by decide +kernel
theorem dX0_nextColumn_40 : decode cX0_nextColumn 40 = .ok (.aload_n 0, 1) := by decide +kernel
theorem dX0_nextColumn_41 : decode cX0_nextColumn 41 = .ok (.iload_n 2, 1) := by decide +kernel
theorem dX0_nextColumn_42 : decode cX0_nextColumn 42 = .ok (.iconst 1, 1) := by decide +kernel
theorem dX0_nextColumn_43 : decode cX0_nextColumn 43 = .ok (.iadd, 1) := by decide +kernel
theorem dX0_nextColumn_44 : decode cX0_nextColumn 44 = .ok (.iload_n 3, 1) := by decide +kernel
theorem dX0_nextColumn_45 : decode cX0_nextColumn 45 = .ok (.invokevirtual 63, 3) := by decide +kernel
theorem dX0_nextColumn_48 : decode cX0_nextColumn 48 = .ok (.ifCond .eq 5, 3) := by decide +kernel
theorem dX0_nextColumn_51 : decode cX0_nextColumn 51 = .ok (.iload_n 2, 1) := by decide +kernel
theorem dX0_nextColumn_52 : decode cX0_nextColumn 52 = .ok (.ireturn, 1) := by decide +kernel
theorem dX0_nextColumn_53 : decode cX0_nextColumn 53 = .ok (.iinc 2 1, 3) := by decide +kernel
theorem dX0_nextColumn_56 : decode cX0_nextColumn 56 = .ok (.goto (-54), 3) := by decide +kernel
theorem dX0_nextColumn_59 : decode cX0_nextColumn 59 = .ok (.iconst (-1), 1) := by decide +kernel
theorem dX0_nextColumn_60 : decode cX0_nextColumn 60 = .ok (.ireturn, 1) := by decide +kernel
theorem dX0_isFull_0 : decode cX0_isFull 0 = .ok (.aload_n 0, 1) := by decide +kernel
theorem dX0_isFull_1 : decode cX0_isFull 1 = .ok (.getfield 27, 3) := by decide +kernel
theorem dX0_isFull_4 : decode cX0_isFull 4 = .ok (.iload_n 1, 1) := by decide +kernel
theorem dX0_isFull_5 : decode cX0_isFull 5 = .ok (.iaload, 1) := by decide +kernel
theorem dX0_isFull_6 : decode cX0_isFull 6 = .ok (.aload_n 0, 1) := by decide +kernel
theorem dX0_isFull_7 : decode cX0_isFull 7 = .ok (.getfield 15, 3) := by decide +kernel
theorem dX0_isFull_10 : decode cX0_isFull 10 = .ok (.iload_n 1, 1) := by decide +kernel
theorem dX0_isFull_11 : decode cX0_isFull 11 = .ok (.iaload, 1) := by decide +kernel
theorem dX0_isFull_12 : decode cX0_isFull 12 = .ok (.if_icmp .lt 7, 3) := by decide +kernel
theorem dX0_isFull_15 : decode cX0_isFull 15 = .ok (.iconst 1, 1) := by decide +kernel
theorem dX0_isFull_16 : decode cX0_isFull 16 = .ok (.goto 4, 3) := by decide +kernel
theorem dX0_isFull_19 : decode cX0_isFull 19 = .ok (.iconst 0, 1) := by decide +kernel
theorem dX0_isFull_20 : decode cX0_isFull 20 = .ok (.ireturn, 1) := by decide +kernel
theorem dX0_allowsNext_0 : decode cX0_allowsNext 0 = .ok (.aload_n 0, 1) := by decide +kernel
theorem dX0_allowsNext_1 : decode cX0_allowsNext 1 = .ok (.iload_n 1, 1) := by decide +kernel
theorem dX0_allowsNext_2 : decode cX0_allowsNext 2 = .ok (.invokevirtual 44, 3) := by decide +kernel
theorem dX0_allowsNext_5 : decode cX0_allowsNext 5 = .ok (.ifCond .eq 21, 3) := by decide +kernel
theorem dX0_allowsNext_8 : decode cX0_allowsNext 8 = .ok (.aload_n 0, 1) := by decide +kernel
theorem dX0_allowsNext_9 : decode cX0_allowsNext 9 = .ok (.iload_n 1, 1) := by decide +kernel
theorem dX0_allowsNext_10 : decode cX0_allowsNext 10 = .ok (.invokevirtual 60, 3) := by decide +kernel
theorem dX0_allowsNext_13 : decode cX0_allowsNext 13 = .ok (.ifCond .ne 13, 3) := by decide +kernel
theorem dX0_allowsNext_16 : decode cX0_allowsNext 16 = .ok (.aload_n 0, 1) := by decide +kernel
theorem dX0_allowsNext_17 : decode cX0_allowsNext 17 = .ok (.getfield 27, 3) := by decide +kernel
theorem dX0_allowsNext_20 : decode cX0_allowsNext 20 = .ok (.iload_n 1, 1) := by decide +kernel
theorem dX0_allowsNext_21 : decode cX0_allowsNext 21 = .ok (.iaload, 1) := by decide +kernel
theorem dX0_allowsNext_22 : decode cX0_allowsNext 22 = .ok (.iload_n 2, 1) := by decide +kernel
theorem dX0_allowsNext_23 : decode cX0_allowsNext 23 = .ok (.if_icmp .lt 7, 3) := by decide +kernel
theorem dX0_allowsNext_26 : decode cX0_allowsNext 26 = .ok (.iconst 1, 1) := by decide +kernel
theorem dX0_allowsNext_27 : decode cX0_allowsNext 27 = .ok (.goto 4, 3) := by decide +kernel
theorem dX0_allowsNext_30 : decode cX0_allowsNext 30 = .ok (.iconst 0, 1) := by decide +kernel
theorem dX0_allowsNext_31 : decode cX0_allowsNext 31 = .ok (.ireturn, 1) := by decide +kernel
theorem dX1_init_0 : decode cX1_init 0 = .ok (.aload_n 0, 1) := by decide +kernel
theorem dX1_init_1 : decode cX1_init 1 = .ok (.invokespecial 3, 3) := by decide +kernel
theorem dX1_init_4 : decode cX1_init 4 = .ok (.aload_n 0, 1) := by decide +kernel
theorem dX1_init_5 : decode cX1_init 5 = .ok (.bipush 10, 2) := by decide +kernel
theorem dX1_init_7 : decode cX1_init 7 = .ok (.bipush 9, 2) := by decide +kernel
theorem dX1_init_9 : decode cX1_init 9 = .ok (.multianewarray 11 2, 4) := by decide +kernel
theorem dX1_init_13 : decode cX1_init 13 = .ok (.putfield 13, 3) := by decide +kernel
theorem dX1_init_16 : decode cX1_init 16 = .ok (.aload_n 0, 1) := by decide +kernel
theorem dX1_init_17 : decode cX1_init 17 = .ok (.bipush 9, 2) := by decide +kernel
theorem dX1_init_19 : decode cX1_init 19 = .ok (.newarray .int, 2) := by decide +kernel
theorem dX1_init_21 : decode cX1_init 21 = .ok (.putfield 16, 3) := by decide +kernel
theorem dX1_init_24 : decode cX1_init 24 = .ok (.return_, 1) := by decide +kernel
theorem dX1_number_0 : decode cX1_number 0 = .ok (.aload_n 0, 1) := by decide +kernel
theorem dX1_number_1 : decode cX1_number 1 = .ok (.getfield 20, 3) := by decide +kernel
theorem dX1_number_4 : decode cX1_number 4 = .ok (.ireturn, 1) := by decide +kernel
theorem dX1_has_0 : decode cX1_has 0 = .ok (.iload_n 1, 1) := by decide +kernel
theorem dX1_has_1 : decode cX1_has 1 = .ok (.ifCond .lt 15, 3) := by decide +kernel
theorem dX1_has_4 : decode cX1_has 4 = .ok (.iload_n 1, 1) := by decide +kernel
theorem dX1_has_5 : decode cX1_has 5 = .ok (.aload_n 0, 1) := by decide +kernel
theorem dX1_has_6 : decode cX1_has 6 = .ok (.getfield 20, 3) := by decide +kernel
theorem dX1_has_9 : decode cX1_has 9 = .ok (.if_icmp .ge 7, 3) := by decide +kernel
theorem dX1_has_12 : decode cX1_has 12 = .ok (.iconst 1, 1) := by decide +kernel
theorem dX1_has_13 : decode cX1_has 13 = .ok (.goto 4, 3) := by decide +kernel
theorem dX1_has_16 : decode cX1_has 16 = .ok (.iconst 0, 1) := by decide +kernel
theorem dX1_has_17 : decode cX1_has 17 = .ok (.ireturn, 1) := by decide +kernel
theorem dX1_fact_0 : decode cX1_fact 0 = .ok (.aload_n 0, 1) := by decide +kernel
theorem dX1_fact_1 : decode cX1_fact 1 = .ok (.iload_n 1, 1) := by decide +kernel
theorem dX1_fact_2 : decode cX1_fact 2 = .ok (.invokevirtual 24, 3) := by decide +kernel
theorem dX1_fact_5 : decode cX1_fact 5 = .ok (.ifCond .eq 13, 3) := by decide +kernel
theorem dX1_fact_8 : decode cX1_fact 8 = .ok (.iload_n 2, 1) := by decide +kernel
theorem dX1_fact_9 : decode cX1_fact 9 = .ok (.ifCond .lt 9, 3) := by decide +kernel
theorem dX1_fact_12 : decode cX1_fact 12 = .ok (.iload_n 2, 1) := by decide +kernel
theorem dX1_fact_13 : decode cX1_fact 13 = .ok (.bipush 9, 2) := by decide +kernel
theorem dX1_fact_15 : decode cX1_fact 15 = .ok (.if_icmp .lt 5, 3) := by decide +kernel
theorem dX1_fact_18 : decode cX1_fact 18 = .ok (.iconst 0, 1) := by decide +kernel
theorem dX1_fact_19 : decode cX1_fact 19 = .ok (.ireturn, 1) := by decide +kernel
theorem dX1_fact_20 : decode cX1_fact 20 = .ok (.aload_n 0, 1) := by decide +kernel
theorem dX1_fact_21 : decode cX1_fact 21 = .ok (.getfield 13, 3) := by decide +kernel
theorem dX1_fact_24 : decode cX1_fact 24 = .ok (.iload_n 1, 1) := by decide +kernel
theorem dX1_fact_25 : decode cX1_fact 25 = .ok (.aaload, 1) := by decide +kernel
theorem dX1_fact_26 : decode cX1_fact 26 = .ok (.iload_n 2, 1) := by decide +kernel
theorem dX1_fact_27 : decode cX1_fact 27 = .ok (.iaload, 1) := by decide +kernel
theorem dX1_fact_28 : decode cX1_fact 28 = .ok (.ireturn, 1) := by decide +kernel
theorem dX1_keepMeasured_0 : decode cX1_keepMeasured 0 = .ok (.aload_n 0, 1) := by decide +kernel
theorem dX1_keepMeasured_1 : decode cX1_keepMeasured 1 = .ok (.getfield 16, 3) := by decide +kernel
theorem dX1_keepMeasured_4 : decode cX1_keepMeasured 4 = .ok (.iconst 0, 1) := by decide +kernel
theorem dX1_keepMeasured_5 : decode cX1_keepMeasured 5 = .ok (.iload_n 1, 1) := by decide +kernel
theorem dX1_keepMeasured_6 : decode cX1_keepMeasured 6 = .ok (.iastore, 1) := by decide +kernel
theorem dX1_keepMeasured_7 : decode cX1_keepMeasured 7 = .ok (.aload_n 0, 1) := by decide +kernel
theorem dX1_keepMeasured_8 : decode cX1_keepMeasured 8 = .ok (.getfield 16, 3) := by decide +kernel
theorem dX1_keepMeasured_11 : decode cX1_keepMeasured 11 = .ok (.iconst 1, 1) := by decide +kernel
theorem dX1_keepMeasured_12 : decode cX1_keepMeasured 12 = .ok (.iload_n 2, 1) := by decide +kernel
theorem dX1_keepMeasured_13 : decode cX1_keepMeasured 13 = .ok (.iastore, 1) := by decide +kernel
theorem dX1_keepMeasured_14 : decode cX1_keepMeasured 14 = .ok (.aload_n 0, 1) := by decide +kernel
theorem dX1_keepMeasured_15 : decode cX1_keepMeasured 15 = .ok (.getfield 16, 3) := by decide +kernel
theorem dX1_keepMeasured_18 : decode cX1_keepMeasured 18 = .ok (.iconst 2, 1) := by decide +kernel
theorem dX1_keepMeasured_19 : decode cX1_keepMeasured 19 = .ok (.iload_n 3, 1) := by decide +kernel
theorem dX1_keepMeasured_20 : decode cX1_keepMeasured 20 = .ok (.iastore, 1) := by decide +kernel
theorem dX1_keepMeasured_21 : decode cX1_keepMeasured 21 = .ok (.aload_n 0, 1) := by decide +kernel
theorem dX1_keepMeasured_22 : decode cX1_keepMeasured 22 = .ok (.getfield 16, 3) := by decide +kernel
theorem dX1_keepMeasured_25 : decode cX1_keepMeasured 25 = .ok (.iconst 3, 1) := by decide +kernel
theorem dX1_keepMeasured_26 : decode cX1_keepMeasured 26 = .ok (.iload 4, 2) := by decide +kernel
theorem dX1_keepMeasured_28 : decode cX1_keepMeasured 28 = .ok (.iastore, 1) := by decide +kernel
theorem dX1_keepMeasured_29 : decode cX1_keepMeasured 29 = .ok (.aload_n 0, 1) := by decide +kernel
theorem dX1_keepMeasured_30 : decode cX1_keepMeasured 30 = .ok (.iconst 1, 1) := by decide +kernel
theorem dX1_keepMeasured_31 : decode cX1_keepMeasured 31 = .ok (.putfield 28, 3) := by decide +kernel
theorem dX1_keepMeasured_34 : decode cX1_keepMeasured 34 = .ok (.return_, 1) := by decide +kernel
theorem dX1_canTakeOne_0 : decode cX1_canTakeOne 0 = .ok (.aload_n 0, 1) := by decide +kernel
theorem dX1_canTakeOne_1 : decode cX1_canTakeOne 1 = .ok (.getfield 28, 3) := by decide +kernel
theorem dX1_canTakeOne_4 : decode cX1_canTakeOne 4 = .ok (.ifCond .eq 16, 3) := by decide +kernel
theorem dX1_canTakeOne_7 : decode cX1_canTakeOne 7 = .ok (.aload_n 0, 1) := by decide +kernel
theorem dX1_canTakeOne_8 : decode cX1_canTakeOne 8 = .ok (.getfield 20, 3) := by decide +kernel
theorem dX1_canTakeOne_11 : decode cX1_canTakeOne 11 = .ok (.bipush 10, 2) := by decide +kernel
theorem dX1_canTakeOne_13 : decode cX1_canTakeOne 13 = .ok (.if_icmp .ge 7, 3) := by decide +kernel
theorem dX1_canTakeOne_16 : decode cX1_canTakeOne 16 = .ok (.iconst 1, 1) := by decide +kernel
theorem dX1_canTakeOne_17 : decode cX1_canTakeOne 17 = .ok (.goto 4, 3) := by decide +kernel
theorem dX1_canTakeOne_20 : decode cX1_canTakeOne 20 = .ok (.iconst 0, 1) := by decide +kernel
theorem dX1_canTakeOne_21 : decode cX1_canTakeOne 21 = .ok (.ireturn, 1) := by decide +kernel
theorem dX1_take_0 : decode cX1_take 0 = .ok (.aload_n 0, 1) := by decide +kernel
theorem dX1_take_1 : decode cX1_take 1 = .ok (.invokevirtual 32, 3) := by decide +kernel
theorem dX1_take_4 : decode cX1_take 4 = .ok (.ifCond .ne 5, 3) := by decide +kernel
theorem dX1_take_7 : decode cX1_take 7 = .ok (.iconst (-1), 1) := by decide +kernel
theorem dX1_take_8 : decode cX1_take 8 = .ok (.ireturn, 1) := by decide +kernel
theorem dX1_take_9 : decode cX1_take 9 = .ok (.aload_n 0, 1) := by decide +kernel
theorem dX1_take_10 : decode cX1_take 10 = .ok (.getfield 16, 3) := by decide +kernel
theorem dX1_take_13 : decode cX1_take 13 = .ok (.iconst 4, 1) := by decide +kernel
theorem dX1_take_14 : decode cX1_take 14 = .ok (.iload_n 1, 1) := by decide +kernel
theorem dX1_take_15 : decode cX1_take 15 = .ok (.iastore, 1) := by decide +kernel
theorem dX1_take_16 : decode cX1_take 16 = .ok (.aload_n 0, 1) := by decide +kernel
theorem dX1_take_17 : decode cX1_take 17 = .ok (.getfield 16, 3) := by decide +kernel
theorem dX1_take_20 : decode cX1_take 20 = .ok (.iconst 5, 1) := by decide +kernel
theorem dX1_take_21 : decode cX1_take 21 = .ok (.iload_n 2, 1) := by decide +kernel
theorem dX1_take_22 : decode cX1_take 22 = .ok (.iastore, 1) := by decide +kernel
theorem dX1_take_23 : decode cX1_take 23 = .ok (.aload_n 0, 1) := by decide +kernel
theorem dX1_take_24 : decode cX1_take 24 = .ok (.getfield 16, 3) := by decide +kernel
theorem dX1_take_27 : decode cX1_take 27 = .ok (.bipush 6, 2) := by decide +kernel
theorem dX1_take_29 : decode cX1_take 29 = .ok (.iload_n 3, 1) := by decide +kernel
theorem dX1_take_30 : decode cX1_take 30 = .ok (.iastore, 1) := by decide +kernel
theorem dX1_take_31 : decode cX1_take 31 = .ok (.aload_n 0, 1) := by decide +kernel
theorem dX1_take_32 : decode cX1_take 32 = .ok (.getfield 16, 3) := by decide +kernel
theorem dX1_take_35 : decode cX1_take 35 = .ok (.bipush 7, 2) := by decide +kernel
theorem dX1_take_37 : decode cX1_take 37 = .ok (.iload 4, 2) := by decide +kernel
theorem dX1_take_39 : decode cX1_take 39 = .ok (.iastore, 1) := by decide +kernel
theorem dX1_take_40 : decode cX1_take 40 = .ok (.aload_n 0, 1) := by decide +kernel
theorem dX1_take_41 : decode cX1_take 41 = .ok (.getfield 16, 3) := by decide +kernel
theorem dX1_take_44 : decode cX1_take 44 = .ok (.bipush 8, 2) := by decide +kernel
theorem dX1_take_46 : decode cX1_take 46 = .ok (.iload 5, 2) := by decide +kernel
theorem dX1_take_48 : decode cX1_take 48 = .ok (.iastore, 1) := by decide +kernel
theorem dX1_take_49 : decode cX1_take 49 = .ok (.aload_n 0, 1) := by decide +kernel
theorem dX1_take_50 : decode cX1_take 50 = .ok (.getfield 16, 3) := by decide +kernel
theorem dX1_take_53 : decode cX1_take 53 = .ok (.iconst 0, 1) := by decide +kernel
theorem dX1_take_54 : decode cX1_take 54 = .ok (.aload_n 0, 1) := by decide +kernel
theorem dX1_take_55 : decode cX1_take 55 = .ok (.getfield 13, 3) := by decide +kernel
theorem dX1_take_58 : decode cX1_take 58 = .ok (.aload_n 0, 1) := by decide +kernel
theorem dX1_take_59 : decode cX1_take 59 = .ok (.getfield 20, 3) := by decide +kernel
theorem dX1_take_62 : decode cX1_take 62 = .ok (.aaload, 1) := by decide +kernel
theorem dX1_take_63 : decode cX1_take 63 = .ok (.iconst 0, 1) := by decide +kernel
theorem dX1_take_64 : decode cX1_take 64 = .ok (.bipush 9, 2) := by decide +kernel
theorem dX1_take_66 : decode cX1_take 66 = .ok (.invokestatic 36, 3) := by decide +kernel
theorem dX1_take_69 : decode cX1_take 69 = .ok (.aload_n 0, 1) := by decide +kernel
theorem dX1_take_70 : decode cX1_take 70 = .ok (.iconst 0, 1) := by decide +kernel
theorem dX1_take_71 : decode cX1_take 71 = .ok (.putfield 28, 3) := by decide +kernel
theorem dX1_take_74 : decode cX1_take 74 = .ok (.aload_n 0, 1) := by decide +kernel
theorem dX1_take_75 : decode cX1_take 75 = .ok (.dup, 1) := by decide +kernel
theorem dX1_take_76 : decode cX1_take 76 = .ok (.getfield 20, 3) := by decide +kernel
theorem dX1_take_79 : decode cX1_take 79 = .ok (.iconst 1, 1) := by decide +kernel
theorem dX1_take_80 : decode cX1_take 80 = .ok (.iadd, 1) := by decide +kernel
theorem dX1_take_81 : decode cX1_take 81 = .ok (.putfield 20, 3) := by decide +kernel
theorem dX1_take_84 : decode cX1_take 84 = .ok (.aload_n 0, 1) := by decide +kernel
theorem dX1_take_85 : decode cX1_take 85 = .ok (.getfield 20, 3) := by decide +kernel
theorem dX1_take_88 : decode cX1_take 88 = .ok (.iconst 1, 1) := by decide +kernel
theorem dX1_take_89 : decode cX1_take 89 = .ok (.isub, 1) := by decide +kernel
theorem dX1_take_90 : decode cX1_take 90 = .ok (.ireturn, 1) := by decide +kernel
theorem dX1_turnOn_0 : decode cX1_turnOn 0 = .ok (.aload_n 0, 1) := by decide +kernel
theorem dX1_turnOn_1 : decode cX1_turnOn 1 = .ok (.iload_n 1, 1) := by decide +kernel
theorem dX1_turnOn_2 : decode cX1_turnOn 2 = .ok (.invokevirtual 24, 3) := by decide +kernel
theorem dX1_turnOn_5 : decode cX1_turnOn 5 = .ok (.ifCond .eq 16, 3) := by decide +kernel
theorem dX1_turnOn_8 : decode cX1_turnOn 8 = .ok (.aload_n 0, 1) := by decide +kernel
theorem dX1_turnOn_9 : decode cX1_turnOn 9 = .ok (.iload_n 2, 1) := by decide +kernel
theorem dX1_turnOn_10 : decode cX1_turnOn 10 = .ok (.invokevirtual 24, 3) := by decide +kernel
theorem dX1_turnOn_13 : decode cX1_turnOn 13 = .ok (.ifCond .eq 8, 3) := by decide +kernel
theorem dX1_turnOn_16 : decode cX1_turnOn 16 = .ok (.iload_n 1, 1) := by decide +kernel
theorem dX1_turnOn_17 : decode cX1_turnOn 17 = .ok (.iload_n 2, 1) := by decide +kernel
theorem dX1_turnOn_18 : decode cX1_turnOn 18 = .ok (.if_icmp .ne 5, 3) := by decide +kernel
theorem dX1_turnOn_21 : decode cX1_turnOn 21 = .ok (.iconst (-1), 1) := by decide +kernel
theorem dX1_turnOn_22 : decode cX1_turnOn 22 = .ok (.ireturn, 1) := by decide +kernel
theorem dX1_turnOn_23 : decode cX1_turnOn 23 = .ok (.aload_n 0, 1) := by decide +kernel
theorem dX1_turnOn_24 : decode cX1_turnOn 24 = .ok (.getfield 13, 3) := by decide +kernel
theorem dX1_turnOn_27 : decode cX1_turnOn 27 = .ok (.iload_n 1, 1) := by decide +kernel
theorem dX1_turnOn_28 : decode cX1_turnOn 28 = .ok (.aaload, 1) := by decide +kernel
theorem dX1_turnOn_29 : decode cX1_turnOn 29 = .ok (.astore 4, 2) := by decide +kernel
theorem dX1_turnOn_31 : decode cX1_turnOn 31 = .ok (.aload_n 0, 1) := by decide +kernel
theorem dX1_turnOn_32 : decode cX1_turnOn 32 = .ok (.getfield 13, 3) := by decide +kernel
theorem dX1_turnOn_35 : decode cX1_turnOn 35 = .ok (.iload_n 2, 1) := by decide +kernel
theorem dX1_turnOn_36 : decode cX1_turnOn 36 = .ok (.aaload, 1) := by decide +kernel
theorem dX1_turnOn_37 : decode cX1_turnOn 37 = .ok (.astore 5, 2) := by decide +kernel
theorem dX1_turnOn_39 : decode cX1_turnOn 39 = .ok (.aload 4, 2) := by decide +kernel
theorem dX1_turnOn_41 : decode cX1_turnOn 41 = .ok (.iconst 2, 1) := by decide +kernel
theorem dX1_turnOn_42 : decode cX1_turnOn 42 = .ok (.iaload, 1) := by decide +kernel
theorem dX1_turnOn_43 : decode cX1_turnOn 43 = .ok (.aload 5, 2) := by decide +kernel
theorem dX1_turnOn_45 : decode cX1_turnOn 45 = .ok (.iconst 2, 1) := by decide +kernel
theorem dX1_turnOn_46 : decode cX1_turnOn 46 = .ok (.iaload, 1) := by decide +kernel
theorem dX1_turnOn_47 : decode cX1_turnOn 47 = .ok (.iadd, 1) := by decide +kernel
theorem dX1_turnOn_48 : decode cX1_turnOn 48 = .ok (.iload_n 3, 1) := by decide +kernel
theorem dX1_turnOn_49 : decode cX1_turnOn 49 = .ok (.iadd, 1) := by decide +kernel
theorem dX1_turnOn_50 : decode cX1_turnOn 50 = .ok (.istore 6, 2) := by decide +kernel
theorem dX1_turnOn_52 : decode cX1_turnOn 52 = .ok (.aload 4, 2) := by decide +kernel
theorem dX1_turnOn_54 : decode cX1_turnOn 54 = .ok (.iconst 0, 1) := by decide +kernel
theorem dX1_turnOn_55 : decode cX1_turnOn 55 = .ok (.iaload, 1) := by decide +kernel
theorem dX1_turnOn_56 : decode cX1_turnOn 56 = .ok (.aload 5, 2) := by decide +kernel
theorem dX1_turnOn_58 : decode cX1_turnOn 58 = .ok (.iconst 1, 1) := by decide +kernel
theorem dX1_turnOn_59 : decode cX1_turnOn 59 = .ok (.iaload, 1) := by decide +kernel
theorem dX1_turnOn_60 : decode cX1_turnOn 60 = .ok (.isub, 1) := by decide +kernel
theorem dX1_turnOn_61 : decode cX1_turnOn 61 = .ok (.invokestatic 42, 3) := by decide +kernel
theorem dX1_turnOn_64 : decode cX1_turnOn 64 = .ok (.iload 6, 2) := by decide +kernel
theorem dX1_turnOn_66 : decode cX1_turnOn 66 = .ok (.if_icmp .gt 17, 3) := by decide +kernel
theorem dX1_turnOn_69 : decode cX1_turnOn 69 = .ok (.aload 4, 2) := by decide +kernel
theorem dX1_turnOn_71 : decode cX1_turnOn 71 = .ok (.iconst 4, 1) := by decide +kernel
theorem dX1_turnOn_72 : decode cX1_turnOn 72 = .ok (.iaload, 1) := by decide +kernel
theorem dX1_turnOn_73 : decode cX1_turnOn 73 = .ok (.aload 5, 2) := by decide +kernel
theorem dX1_turnOn_75 : decode cX1_turnOn 75 = .ok (.iconst 4, 1) := by decide +kernel
theorem dX1_turnOn_76 : decode cX1_turnOn 76 = .ok (.iaload, 1) := by decide +kernel
theorem dX1_turnOn_77 : decode cX1_turnOn 77 = .ok (.invokestatic 48, 3) := by decide +kernel
theorem dX1_turnOn_80 : decode cX1_turnOn 80 = .ok (.ifCond .ne 5, 3) := by decide +kernel
theorem dX1_turnOn_83 : decode cX1_turnOn 83 = .ok (.iconst (-1), 1) := by decide +kernel
theorem dX1_turnOn_84 : decode cX1_turnOn 84 = .ok (.ireturn, 1) := by decide +kernel
theorem dX1_turnOn_85 : decode cX1_turnOn 85 = .ok (.aload 4, 2) := by decide +kernel
theorem dX1_turnOn_87 : decode cX1_turnOn 87 = .ok (.iconst 5, 1) := by decide +kernel
theorem dX1_turnOn_88 : decode cX1_turnOn 88 = .ok (.iaload, 1) := by decide +kernel
theorem dX1_turnOn_89 : decode cX1_turnOn 89 = .ok (.aload 5, 2) := by decide +kernel
theorem dX1_turnOn_91 : decode cX1_turnOn 91 = .ok (.bipush 6, 2) := by decide +kernel
theorem dX1_turnOn_93 : decode cX1_turnOn 93 = .ok (.iaload, 1) := by decide +kernel
theorem dX1_turnOn_94 : decode cX1_turnOn 94 = .ok (.invokestatic 52, 3) := by decide +kernel
theorem dX1_turnOn_97 : decode cX1_turnOn 97 = .ok (.ireturn, 1) := by decide +kernel
theorem dX1_lyingOn_0 : decode cX1_lyingOn 0 = .ok (.iconst 0, 1) := by decide +kernel
theorem dX1_lyingOn_1 : decode cX1_lyingOn 1 = .ok (.istore_n 3, 1) := by decide +kernel
theorem dX1_lyingOn_2 : decode cX1_lyingOn 2 = .ok (.iconst 0, 1) := by decide +kernel
theorem dX1_lyingOn_3 : decode cX1_lyingOn 3 = .ok (.istore 4, 2) := by decide +kernel
theorem dX1_lyingOn_5 : decode cX1_lyingOn 5 = .ok (.iload 4, 2) := by decide +kernel
theorem dX1_lyingOn_7 : decode cX1_lyingOn 7 = .ok (.aload_n 0, 1) := by decide +kernel
theorem dX1_lyingOn_8 : decode cX1_lyingOn 8 = .ok (.getfield 20, 3) := by decide +kernel
theorem dX1_lyingOn_11 : decode cX1_lyingOn 11 = .ok (.if_icmp .ge 28, 3) := by decide +kernel
theorem dX1_lyingOn_14 : decode cX1_lyingOn 14 = .ok (.aload_n 0, 1) := by decide +kernel
theorem dX1_lyingOn_15 : decode cX1_lyingOn 15 = .ok (.iload 4, 2) := by decide +kernel
theorem dX1_lyingOn_17 : decode cX1_lyingOn 17 = .ok (.iload_n 1, 1) := by decide +kernel
theorem dX1_lyingOn_18 : decode cX1_lyingOn 18 = .ok (.iload_n 2, 1) := by decide +kernel
theorem dX1_lyingOn_19 : decode cX1_lyingOn 19 = .ok (.invokevirtual 56, 3) := by decide +kernel
theorem dX1_lyingOn_22 : decode cX1_lyingOn 22 = .ok (.iconst (-1), 1) := by decide +kernel
theorem dX1_lyingOn_23 : decode cX1_lyingOn 23 = .ok (.if_icmp .eq 10, 3) := by decide +kernel
theorem dX1_lyingOn_26 : decode cX1_lyingOn 26 = .ok (.iload_n 3, 1) := by decide +kernel
theorem dX1_lyingOn_27 : decode cX1_lyingOn 27 = .ok (.iconst 1, 1) := by decide +kernel
theorem dX1_lyingOn_28 : decode cX1_lyingOn 28 = .ok (.iload 4, 2) := by decide +kernel
theorem dX1_lyingOn_30 : decode cX1_lyingOn 30 = .ok (.ishl, 1) := by decide +kernel
theorem dX1_lyingOn_31 : decode cX1_lyingOn 31 = .ok (.ior, 1) := by decide +kernel
theorem dX1_lyingOn_32 : decode cX1_lyingOn 32 = .ok (.istore_n 3, 1) := by decide +kernel
theorem dX1_lyingOn_33 : decode cX1_lyingOn 33 = .ok (.iinc 4 1, 3) := by decide +kernel
theorem dX1_lyingOn_36 : decode cX1_lyingOn 36 = .ok (.goto (-31), 3) := by decide +kernel
theorem dX1_lyingOn_39 : decode cX1_lyingOn 39 = .ok (.iload_n 3, 1) := by decide +kernel
theorem dX1_lyingOn_40 : decode cX1_lyingOn 40 = .ok (.ireturn, 1) := by decide +kernel
theorem dX1_pairsLying_0 : decode cX1_pairsLying 0 = .ok (.iconst 0, 1) := by decide +kernel
theorem dX1_pairsLying_1 : decode cX1_pairsLying 1 = .ok (.istore_n 2, 1) := by decide +kernel
theorem dX1_pairsLying_2 : decode cX1_pairsLying 2 = .ok (.iconst 0, 1) := by decide +kernel
theorem dX1_pairsLying_3 : decode cX1_pairsLying 3 = .ok (.istore_n 3, 1) := by decide +kernel
theorem dX1_pairsLying_4 : decode cX1_pairsLying 4 = .ok (.iload_n 3, 1) := by decide +kernel
theorem dX1_pairsLying_5 : decode cX1_pairsLying 5 = .ok (.aload_n 0, 1) := by decide +kernel
theorem dX1_pairsLying_6 : decode cX1_pairsLying 6 = .ok (.getfield 20, 3) := by decide +kernel
theorem dX1_pairsLying_9 : decode cX1_pairsLying 9 = .ok (.if_icmp .ge 21, 3) := by decide +kernel
theorem dX1_pairsLying_12 : decode cX1_pairsLying 12 = .ok (.iload_n 2, 1) := by decide +kernel
theorem dX1_pairsLying_13 : decode cX1_pairsLying 13 = .ok (.aload_n 0, 1) := by decide +kernel
theorem dX1_pairsLying_14 : decode cX1_pairsLying 14 = .ok (.iload_n 3, 1) := by decide +kernel
theorem dX1_pairsLying_15 : decode cX1_pairsLying 15 = .ok (.iload_n 1, 1) := by decide +kernel
theorem dX1_pairsLying_16 : decode cX1_pairsLying 16 = .ok (.invokevirtual 60, 3) := by decide +kernel
theorem dX1_pairsLying_19 : decode cX1_pairsLying 19 = .ok (.invokestatic 63, 3) := by decide +kernel
theorem dX1_pairsLying_22 : decode cX1_pairsLying 22 = .ok (.iadd, 1) := by decide +kernel
theorem dX1_pairsLying_23 : decode cX1_pairsLying 23 = .ok (.istore_n 2, 1) := by decide +kernel
theorem dX1_pairsLying_24 : decode cX1_pairsLying 24 = .ok (.iinc 3 1, 3) := by decide +kernel
theorem dX1_pairsLying_27 : decode cX1_pairsLying 27 = .ok (.goto (-23), 3) := by decide +kernel
theorem dX1_pairsLying_30 : decode cX1_pairsLying 30 = .ok (.iload_n 2, 1) := by decide +kernel
theorem dX1_pairsLying_31 : decode cX1_pairsLying 31 = .ok (.ireturn, 1) := by decide +kernel
theorem dX1_meanHeight_0 : decode cX1_meanHeight 0 = .ok (.iconst 0, 1) := by decide +kernel
theorem dX1_meanHeight_1 : decode cX1_meanHeight 1 = .ok (.istore_n 1, 1) := by decide +kernel
theorem dX1_meanHeight_2 : decode cX1_meanHeight 2 = .ok (.iconst 0, 1) := by decide +kernel
theorem dX1_meanHeight_3 : decode cX1_meanHeight 3 = .ok (.istore_n 2, 1) := by decide +kernel
theorem dX1_meanHeight_4 : decode cX1_meanHeight 4 = .ok (.iload_n 2, 1) := by decide +kernel
theorem dX1_meanHeight_5 : decode cX1_meanHeight 5 = .ok (.aload_n 0, 1) := by decide +kernel
theorem dX1_meanHeight_6 : decode cX1_meanHeight 6 = .ok (.getfield 20, 3) := by decide +kernel
theorem dX1_meanHeight_9 : decode cX1_meanHeight 9 = .ok (.if_icmp .ge 20, 3) := by decide +kernel
theorem dX1_meanHeight_12 : decode cX1_meanHeight 12 = .ok (.iload_n 1, 1) := by decide +kernel
theorem dX1_meanHeight_13 : decode cX1_meanHeight 13 = .ok (.aload_n 0, 1) := by decide +kernel
theorem dX1_meanHeight_14 : decode cX1_meanHeight 14 = .ok (.getfield 13, 3) := by decide +kernel
theorem dX1_meanHeight_17 : decode cX1_meanHeight 17 = .ok (.iload_n 2, 1) := by decide +kernel
theorem dX1_meanHeight_18 : decode cX1_meanHeight 18 = .ok (.aaload, 1) := by decide +kernel
theorem dX1_meanHeight_19 : decode cX1_meanHeight 19 = .ok (.iconst 3, 1) := by decide +kernel
theorem dX1_meanHeight_20 : decode cX1_meanHeight 20 = .ok (.iaload, 1) := by decide +kernel
theorem dX1_meanHeight_21 : decode cX1_meanHeight 21 = .ok (.iadd, 1) := by decide +kernel
theorem dX1_meanHeight_22 : decode cX1_meanHeight 22 = .ok (.istore_n 1, 1) := by decide +kernel
theorem dX1_meanHeight_23 : decode cX1_meanHeight 23 = .ok (.iinc 2 1, 3) := by decide +kernel
theorem dX1_meanHeight_26 : decode cX1_meanHeight 26 = .ok (.goto (-22), 3) := by decide +kernel
theorem dX1_meanHeight_29 : decode cX1_meanHeight 29 = .ok (.aload_n 0, 1) := by decide +kernel
theorem dX1_meanHeight_30 : decode cX1_meanHeight 30 = .ok (.getfield 20, 3) := by decide +kernel
theorem dX1_meanHeight_33 : decode cX1_meanHeight 33 = .ok (.ifCond .ne 7, 3) := by decide +kernel
theorem dX1_meanHeight_36 : decode cX1_meanHeight 36 = .ok (.iconst 0, 1) := by decide +kernel
theorem dX1_meanHeight_37 : decode cX1_meanHeight 37 = .ok (.goto 9, 3) := by decide +kernel
theorem dX1_meanHeight_40 : decode cX1_meanHeight 40 = .ok (.iload_n 1, 1) := by decide +kernel
theorem dX1_meanHeight_41 : decode cX1_meanHeight 41 = .ok (.aload_n 0, 1) := by decide +kernel
theorem dX1_meanHeight_42 : decode cX1_meanHeight 42 = .ok (.getfield 20, 3) := by decide +kernel
theorem dX1_meanHeight_45 : decode cX1_meanHeight 45 = .ok (.idiv, 1) := by decide +kernel
theorem dX1_meanHeight_46 : decode cX1_meanHeight 46 = .ok (.ireturn, 1) := by decide +kernel
theorem dX1_areAlike_0 : decode cX1_areAlike 0 = .ok (.iload_n 0, 1) := by decide +kernel
theorem dX1_areAlike_1 : decode cX1_areAlike 1 = .ok (.ifCond .eq 12, 3) := by decide +kernel
theorem dX1_areAlike_4 : decode cX1_areAlike 4 = .ok (.iload_n 1, 1) := by decide +kernel
theorem dX1_areAlike_5 : decode cX1_areAlike 5 = .ok (.ifCond .eq 8, 3) := by decide +kernel
theorem dX1_areAlike_8 : decode cX1_areAlike 8 = .ok (.iload_n 0, 1) := by decide +kernel
theorem dX1_areAlike_9 : decode cX1_areAlike 9 = .ok (.iload_n 1, 1) := by decide +kernel
theorem dX1_areAlike_10 : decode cX1_areAlike 10 = .ok (.if_icmp .ne 7, 3) := by decide +kernel
theorem dX1_areAlike_13 : decode cX1_areAlike 13 = .ok (.iconst 1, 1) := by decide +kernel
theorem dX1_areAlike_14 : decode cX1_areAlike 14 = .ok (.goto 4, 3) := by decide +kernel
theorem dX1_areAlike_17 : decode cX1_areAlike 17 = .ok (.iconst 0, 1) := by decide +kernel
theorem dX1_areAlike_18 : decode cX1_areAlike 18 = .ok (.ireturn, 1) := by decide +kernel
theorem dX1_leastTurn_0 : decode cX1_leastTurn 0 = .ok (.iload_n 0, 1) := by decide +kernel
theorem dX1_leastTurn_1 : decode cX1_leastTurn 1 = .ok (.ifCond .eq 7, 3) := by decide +kernel
theorem dX1_leastTurn_4 : decode cX1_leastTurn 4 = .ok (.iload_n 1, 1) := by decide +kernel
theorem dX1_leastTurn_5 : decode cX1_leastTurn 5 = .ok (.ifCond .ne 5, 3) := by decide +kernel
theorem dX1_leastTurn_8 : decode cX1_leastTurn 8 = .ok (.iconst 0, 1) := by decide +kernel
theorem dX1_leastTurn_9 : decode cX1_leastTurn 9 = .ok (.ireturn, 1) := by decide +kernel
theorem dX1_leastTurn_10 : decode cX1_leastTurn 10 = .ok (.iconst 0, 1) := by decide +kernel
theorem dX1_leastTurn_11 : decode cX1_leastTurn 11 = .ok (.istore_n 2, 1) := by decide +kernel
theorem dX1_leastTurn_12 : decode cX1_leastTurn 12 = .ok (.iload_n 2, 1) := by decide +kernel
theorem dX1_leastTurn_13 : decode cX1_leastTurn 13 = .ok (.bipush 16, 2) := by decide +kernel
theorem dX1_leastTurn_15 : decode cX1_leastTurn 15 = .ok (.if_icmp .ge 20, 3) := by decide +kernel
theorem dX1_leastTurn_18 : decode cX1_leastTurn 18 = .ok (.iload_n 0, 1) := by decide +kernel
theorem dX1_leastTurn_19 : decode cX1_leastTurn 19 = .ok (.iload_n 2, 1) := by decide +kernel
theorem dX1_leastTurn_20 : decode cX1_leastTurn 20 = .ok (.invokestatic 68, 3) := by decide +kernel
theorem dX1_leastTurn_23 : decode cX1_leastTurn 23 = .ok (.iload_n 1, 1) := by decide +kernel
theorem dX1_leastTurn_24 : decode cX1_leastTurn 24 = .ok (.if_icmp .ne 5, 3) := by decide +kernel
theorem dX1_leastTurn_27 : decode cX1_leastTurn 27 = .ok (.iload_n 2, 1) := by decide +kernel
theorem dX1_leastTurn_28 : decode cX1_leastTurn 28 = .ok (.ireturn, 1) := by decide +kernel
theorem dX1_leastTurn_29 : decode cX1_leastTurn 29 = .ok (.iinc 2 1, 3) := by decide +kernel
theorem dX1_leastTurn_32 : decode cX1_leastTurn 32 = .ok (.goto (-20), 3) := by decide +kernel
theorem dX1_leastTurn_35 : decode cX1_leastTurn 35 = .ok (.iconst (-1), 1) := by decide +kernel
theorem dX1_leastTurn_36 : decode cX1_leastTurn 36 = .ok (.ireturn, 1) := by decide +kernel
theorem dX1_turned_0 : decode cX1_turned 0 = .ok (.iload_n 0, 1) := by decide +kernel
theorem dX1_turned_1 : decode cX1_turned 1 = .ok (.iload_n 1, 1) := by decide +kernel
theorem dX1_turned_2 : decode cX1_turned 2 = .ok (.ishl, 1) := by decide +kernel
theorem dX1_turned_3 : decode cX1_turned 3 = .ok (.istore_n 2, 1) := by decide +kernel
theorem dX1_turned_4 : decode cX1_turned 4 = .ok (.iload_n 2, 1) := by decide +kernel
theorem dX1_turned_5 : decode cX1_turned 5 = .ok (.iload_n 2, 1) := by decide +kernel
theorem dX1_turned_6 : decode cX1_turned 6 = .ok (.bipush 16, 2) := by decide +kernel
theorem dX1_turned_8 : decode cX1_turned 8 = .ok (.ishr, 1) := by decide +kernel
theorem dX1_turned_9 : decode cX1_turned 9 = .ok (.ior, 1) := by decide +kernel
theorem dX1_turned_10 : decode cX1_turned 10 = .ok (.ldc 71, 2) := by decide +kernel
theorem dX1_turned_12 : decode cX1_turned 12 = .ok (.iand, 1) := by decide +kernel
theorem dX1_turned_13 : decode cX1_turned 13 = .ok (.ireturn, 1) := by decide +kernel
theorem dX3_init_0 : decode cX3_init 0 = .ok (.aload_n 0, 1) := by decide +kernel
theorem dX3_init_1 : decode cX3_init 1 = .ok (.invokespecial 3, 3) := by decide +kernel
theorem dX3_init_4 : decode cX3_init 4 = .ok (.aload_n 0, 1) := by decide +kernel
theorem dX3_init_5 : decode cX3_init 5 = .ok (.bipush 8, 2) := by decide +kernel
theorem dX3_init_7 : decode cX3_init 7 = .ok (.newarray .int, 2) := by decide +kernel
theorem dX3_init_9 : decode cX3_init 9 = .ok (.putfield 9, 3) := by decide +kernel
theorem dX3_init_12 : decode cX3_init 12 = .ok (.aload_n 0, 1) := by decide +kernel
theorem dX3_init_13 : decode cX3_init 13 = .ok (.bipush 8, 2) := by decide +kernel
theorem dX3_init_15 : decode cX3_init 15 = .ok (.newarray .int, 2) := by decide +kernel
theorem dX3_init_17 : decode cX3_init 17 = .ok (.putfield 15, 3) := by decide +kernel
theorem dX3_init_20 : decode cX3_init 20 = .ok (.iconst 0, 1) := by decide +kernel
theorem dX3_init_21 : decode cX3_init 21 = .ok (.istore_n 1, 1) := by decide +kernel
theorem dX3_init_22 : decode cX3_init 22 = .ok (.iload_n 1, 1) := by decide +kernel
theorem dX3_init_23 : decode cX3_init 23 = .ok (.bipush 8, 2) := by decide +kernel
theorem dX3_init_25 : decode cX3_init 25 = .ok (.if_icmp .ge 16, 3) := by decide +kernel
theorem dX3_init_28 : decode cX3_init 28 = .ok (.aload_n 0, 1) := by decide +kernel
theorem dX3_init_29 : decode cX3_init 29 = .ok (.getfield 9, 3) := by decide +kernel
theorem dX3_init_32 : decode cX3_init 32 = .ok (.iload_n 1, 1) := by decide +kernel
theorem dX3_init_33 : decode cX3_init 33 = .ok (.iconst (-1), 1) := by decide +kernel
theorem dX3_init_34 : decode cX3_init 34 = .ok (.iastore, 1) := by decide +kernel
theorem dX3_init_35 : decode cX3_init 35 = .ok (.iinc 1 1, 3) := by decide +kernel
theorem dX3_init_38 : decode cX3_init 38 = .ok (.goto (-16), 3) := by decide +kernel
theorem dX3_init_41 : decode cX3_init 41 = .ok (.return_, 1) := by decide +kernel
theorem dX3_tell_0 : decode cX3_tell 0 = .ok (.iload_n 1, 1) := by decide +kernel
theorem dX3_tell_1 : decode cX3_tell 1 = .ok (.invokestatic 18, 3) := by decide +kernel
theorem dX3_tell_4 : decode cX3_tell 4 = .ok (.ifCond .eq 10, 3) := by decide +kernel
theorem dX3_tell_7 : decode cX3_tell 7 = .ok (.aload_n 0, 1) := by decide +kernel
theorem dX3_tell_8 : decode cX3_tell 8 = .ok (.getfield 9, 3) := by decide +kernel
theorem dX3_tell_11 : decode cX3_tell 11 = .ok (.iload_n 1, 1) := by decide +kernel
theorem dX3_tell_12 : decode cX3_tell 12 = .ok (.iload_n 2, 1) := by decide +kernel
theorem dX3_tell_13 : decode cX3_tell 13 = .ok (.iastore, 1) := by decide +kernel
theorem dX3_tell_14 : decode cX3_tell 14 = .ok (.return_, 1) := by decide +kernel
theorem dX3_toldOf_0 : decode cX3_toldOf 0 = .ok (.iload_n 1, 1) := by decide +kernel
theorem dX3_toldOf_1 : decode cX3_toldOf 1 = .ok (.invokestatic 18, 3) := by decide +kernel
theorem dX3_toldOf_4 : decode cX3_toldOf 4 = .ok (.ifCond .eq 12, 3) := by decide +kernel
theorem dX3_toldOf_7 : decode cX3_toldOf 7 = .ok (.aload_n 0, 1) := by decide +kernel
theorem dX3_toldOf_8 : decode cX3_toldOf 8 = .ok (.getfield 9, 3) := by decide +kernel
theorem dX3_toldOf_11 : decode cX3_toldOf 11 = .ok (.iload_n 1, 1) := by decide +kernel
theorem dX3_toldOf_12 : decode cX3_toldOf 12 = .ok (.iaload, 1) := by decide +kernel
theorem dX3_toldOf_13 : decode cX3_toldOf 13 = .ok (.goto 4, 3) := by decide +kernel
theorem dX3_toldOf_16 : decode cX3_toldOf 16 = .ok (.iconst (-1), 1) := by decide +kernel
theorem dX3_toldOf_17 : decode cX3_toldOf 17 = .ok (.ireturn, 1) := by decide +kernel
theorem dX3_toldNumber_0 : decode cX3_toldNumber 0 = .ok (.iconst 0, 1) := by decide +kernel
theorem dX3_toldNumber_1 : decode cX3_toldNumber 1 = .ok (.istore_n 1, 1) := by decide +kernel
theorem dX3_toldNumber_2 : decode cX3_toldNumber 2 = .ok (.iconst 0, 1) := by decide +kernel
theorem dX3_toldNumber_3 : decode cX3_toldNumber 3 = .ok (.istore_n 2, 1) := by decide +kernel
theorem dX3_toldNumber_4 : decode cX3_toldNumber 4 = .ok (.iload_n 2, 1) := by decide +kernel
theorem dX3_toldNumber_5 : decode cX3_toldNumber 5 = .ok (.bipush 8, 2) := by decide +kernel
theorem dX3_toldNumber_7 : decode cX3_toldNumber 7 = .ok (.if_icmp .ge 22, 3) := by decide +kernel
theorem dX3_toldNumber_10 : decode cX3_toldNumber 10 = .ok (.aload_n 0, 1) := by decide +kernel
theorem dX3_toldNumber_11 : decode cX3_toldNumber 11 = .ok (.getfield 9, 3) := by decide +kernel
theorem dX3_toldNumber_14 : decode cX3_toldNumber 14 = .ok (.iload_n 2, 1) := by decide +kernel
theorem dX3_toldNumber_15 : decode cX3_toldNumber 15 = .ok (.iaload, 1) := by decide +kernel
theorem dX3_toldNumber_16 : decode cX3_toldNumber 16 = .ok (.iconst (-1), 1) := by decide +kernel
theorem dX3_toldNumber_17 : decode cX3_toldNumber 17 = .ok (.if_icmp .eq 6, 3) := by decide +kernel
theorem dX3_toldNumber_20 : decode cX3_toldNumber 20 = .ok (.iinc 1 1, 3) := by decide +kernel
theorem dX3_toldNumber_23 : decode cX3_toldNumber 23 = .ok (.iinc 2 1, 3) := by decide +kernel
theorem dX3_toldNumber_26 : decode cX3_toldNumber 26 = .ok (.goto (-22), 3) := by decide +kernel
theorem dX3_toldNumber_29 : decode cX3_toldNumber 29 = .ok (.iload_n 1, 1) := by decide +kernel
theorem dX3_toldNumber_30 : decode cX3_toldNumber 30 = .ok (.ireturn, 1) := by decide +kernel
theorem dX3_bar_0 : decode cX3_bar 0 = .ok (.iload_n 1, 1) := by decide +kernel
theorem dX3_bar_1 : decode cX3_bar 1 = .ok (.invokestatic 18, 3) := by decide +kernel
theorem dX3_bar_4 : decode cX3_bar 4 = .ok (.ifCond .eq 38, 3) := by decide +kernel
theorem dX3_bar_7 : decode cX3_bar 7 = .ok (.aload_n 0, 1) := by decide +kernel
theorem dX3_bar_8 : decode cX3_bar 8 = .ok (.getfield 15, 3) := by decide +kernel
theorem dX3_bar_11 : decode cX3_bar 11 = .ok (.iload_n 1, 1) := by decide +kernel
theorem dX3_bar_12 : decode cX3_bar 12 = .ok (.iaload, 1) := by decide +kernel
theorem dX3_bar_13 : decode cX3_bar 13 = .ok (.iconst 1, 1) := by decide +kernel
theorem dX3_bar_14 : decode cX3_bar 14 = .ok (.iload_n 2, 1) := by decide +kernel
theorem dX3_bar_15 : decode cX3_bar 15 = .ok (.ishl, 1) := by decide +kernel
theorem dX3_bar_16 : decode cX3_bar 16 = .ok (.iconst (-1), 1) := by decide +kernel
theorem dX3_bar_17 : decode cX3_bar 17 = .ok (.ixor, 1) := by decide +kernel
theorem dX3_bar_18 : decode cX3_bar 18 = .ok (.iand, 1) := by decide +kernel
theorem dX3_bar_19 : decode cX3_bar 19 = .ok (.istore 4, 2) := by decide +kernel
theorem dX3_bar_21 : decode cX3_bar 21 = .ok (.aload_n 0, 1) := by decide +kernel
theorem dX3_bar_22 : decode cX3_bar 22 = .ok (.getfield 15, 3) := by decide +kernel
theorem dX3_bar_25 : decode cX3_bar 25 = .ok (.iload_n 1, 1) := by decide +kernel
theorem dX3_bar_26 : decode cX3_bar 26 = .ok (.iload_n 3, 1) := by decide +kernel
theorem dX3_bar_27 : decode cX3_bar 27 = .ok (.ifCond .eq 12, 3) := by decide +kernel
theorem dX3_bar_30 : decode cX3_bar 30 = .ok (.iload 4, 2) := by decide +kernel
theorem dX3_bar_32 : decode cX3_bar 32 = .ok (.iconst 1, 1) := by decide +kernel
theorem dX3_bar_33 : decode cX3_bar 33 = .ok (.iload_n 2, 1) := by decide +kernel
theorem dX3_bar_34 : decode cX3_bar 34 = .ok (.ishl, 1) := by decide +kernel
theorem dX3_bar_35 : decode cX3_bar 35 = .ok (.ior, 1) := by decide +kernel
theorem dX3_bar_36 : decode cX3_bar 36 = .ok (.goto 5, 3) := by decide +kernel
theorem dX3_bar_39 : decode cX3_bar 39 = .ok (.iload 4, 2) := by decide +kernel
theorem dX3_bar_41 : decode cX3_bar 41 = .ok (.iastore, 1) := by decide +kernel
theorem dX3_bar_42 : decode cX3_bar 42 = .ok (.return_, 1) := by decide +kernel
theorem dX3_isBarred_0 : decode cX3_isBarred 0 = .ok (.iload_n 1, 1) := by decide +kernel
theorem dX3_isBarred_1 : decode cX3_isBarred 1 = .ok (.invokestatic 18, 3) := by decide +kernel
theorem dX3_isBarred_4 : decode cX3_isBarred 4 = .ok (.ifCond .eq 20, 3) := by decide +kernel
theorem dX3_isBarred_7 : decode cX3_isBarred 7 = .ok (.aload_n 0, 1) := by decide +kernel
theorem dX3_isBarred_8 : decode cX3_isBarred 8 = .ok (.getfield 15, 3) := by decide +kernel
theorem dX3_isBarred_11 : decode cX3_isBarred 11 = .ok (.iload_n 1, 1) := by decide +kernel
theorem dX3_isBarred_12 : decode cX3_isBarred 12 = .ok (.iaload, 1) := by decide +kernel
theorem dX3_isBarred_13 : decode cX3_isBarred 13 = .ok (.iload_n 2, 1) := by decide +kernel
theorem dX3_isBarred_14 : decode cX3_isBarred 14 = .ok (.invokestatic 22, 3) := by decide +kernel
theorem dX3_isBarred_17 : decode cX3_isBarred 17 = .ok (.ifCond .eq 7, 3) := by decide +kernel
theorem dX3_isBarred_20 : decode cX3_isBarred 20 = .ok (.iconst 1, 1) := by decide +kernel
theorem dX3_isBarred_21 : decode cX3_isBarred 21 = .ok (.goto 4, 3) := by decide +kernel
theorem dX3_isBarred_24 : decode cX3_isBarred 24 = .ok (.iconst 0, 1) := by decide +kernel
theorem dX3_isBarred_25 : decode cX3_isBarred 25 = .ok (.ireturn, 1) := by decide +kernel
theorem dX3_isRow_0 : decode cX3_isRow 0 = .ok (.iload_n 0, 1) := by decide +kernel
theorem dX3_isRow_1 : decode cX3_isRow 1 = .ok (.ifCond .lt 13, 3) := by decide +kernel
theorem dX3_isRow_4 : decode cX3_isRow 4 = .ok (.iload_n 0, 1) := by decide +kernel
theorem dX3_isRow_5 : decode cX3_isRow 5 = .ok (.bipush 8, 2) := by decide +kernel
theorem dX3_isRow_7 : decode cX3_isRow 7 = .ok (.if_icmp .ge 7, 3) := by decide +kernel
theorem dX3_isRow_10 : decode cX3_isRow 10 = .ok (.iconst 1, 1) := by decide +kernel
theorem dX3_isRow_11 : decode cX3_isRow 11 = .ok (.goto 4, 3) := by decide +kernel
theorem dX3_isRow_14 : decode cX3_isRow 14 = .ok (.iconst 0, 1) := by decide +kernel
theorem dX3_isRow_15 : decode cX3_isRow 15 = .ok (.ireturn, 1) := by decide +kernel
theorem dJ6_bitCount_0f7a4_0 : decode cJ6_bitCount_0f7a4 0 = .ok (.iload_n 0, 1) := by decide +kernel
theorem dJ6_bitCount_0f7a4_1 : decode cJ6_bitCount_0f7a4 1 = .ok (.iload_n 0, 1) := by decide +kernel
theorem dJ6_bitCount_0f7a4_2 : decode cJ6_bitCount_0f7a4 2 = .ok (.iconst 1, 1) := by decide +kernel
theorem dJ6_bitCount_0f7a4_3 : decode cJ6_bitCount_0f7a4 3 = .ok (.iushr, 1) := by decide +kernel
theorem dJ6_bitCount_0f7a4_4 : decode cJ6_bitCount_0f7a4 4 = .ok (.ldc_w 265, 3) := by decide +kernel
theorem dJ6_bitCount_0f7a4_7 : decode cJ6_bitCount_0f7a4 7 = .ok (.iand, 1) := by decide +kernel
theorem dJ6_bitCount_0f7a4_8 : decode cJ6_bitCount_0f7a4 8 = .ok (.isub, 1) := by decide +kernel
theorem dJ6_bitCount_0f7a4_9 : decode cJ6_bitCount_0f7a4 9 = .ok (.istore_n 0, 1) := by decide +kernel
theorem dJ6_bitCount_0f7a4_10 : decode cJ6_bitCount_0f7a4 10 = .ok (.iload_n 0, 1) := by decide +kernel
theorem dJ6_bitCount_0f7a4_11 : decode cJ6_bitCount_0f7a4 11 = .ok (.ldc_w 266, 3) := by decide +kernel
theorem dJ6_bitCount_0f7a4_14 : decode cJ6_bitCount_0f7a4 14 = .ok (.iand, 1) := by decide +kernel
theorem dJ6_bitCount_0f7a4_15 : decode cJ6_bitCount_0f7a4 15 = .ok (.iload_n 0, 1) := by decide +kernel
theorem dJ6_bitCount_0f7a4_16 : decode cJ6_bitCount_0f7a4 16 = .ok (.iconst 2, 1) := by decide +kernel
theorem dJ6_bitCount_0f7a4_17 : decode cJ6_bitCount_0f7a4 17 = .ok (.iushr, 1) := by decide +kernel
theorem dJ6_bitCount_0f7a4_18 : decode cJ6_bitCount_0f7a4 18 = .ok (.ldc_w 266, 3) := by decide +kernel
theorem dJ6_bitCount_0f7a4_21 : decode cJ6_bitCount_0f7a4 21 = .ok (.iand, 1) := by decide +kernel
theorem dJ6_bitCount_0f7a4_22 : decode cJ6_bitCount_0f7a4 22 = .ok (.iadd, 1) := by decide +kernel
theorem dJ6_bitCount_0f7a4_23 : decode cJ6_bitCount_0f7a4 23 = .ok (.istore_n 0, 1) := by decide +kernel
theorem dJ6_bitCount_0f7a4_24 : decode cJ6_bitCount_0f7a4 24 = .ok (.iload_n 0, 1) := by decide +kernel
theorem dJ6_bitCount_0f7a4_25 : decode cJ6_bitCount_0f7a4 25 = .ok (.iload_n 0, 1) := by decide +kernel
theorem dJ6_bitCount_0f7a4_26 : decode cJ6_bitCount_0f7a4 26 = .ok (.iconst 4, 1) := by decide +kernel
theorem dJ6_bitCount_0f7a4_27 : decode cJ6_bitCount_0f7a4 27 = .ok (.iushr, 1) := by decide +kernel
theorem dJ6_bitCount_0f7a4_28 : decode cJ6_bitCount_0f7a4 28 = .ok (.iadd, 1) := by decide +kernel
theorem dJ6_bitCount_0f7a4_29 : decode cJ6_bitCount_0f7a4 29 = .ok (.ldc_w 267, 3) := by decide +kernel
theorem dJ6_bitCount_0f7a4_32 : decode cJ6_bitCount_0f7a4 32 = .ok (.iand, 1) := by decide +kernel
theorem dJ6_bitCount_0f7a4_33 : decode cJ6_bitCount_0f7a4 33 = .ok (.istore_n 0, 1) := by decide +kernel
theorem dJ6_bitCount_0f7a4_34 : decode cJ6_bitCount_0f7a4 34 = .ok (.iload_n 0, 1) := by decide +kernel
theorem dJ6_bitCount_0f7a4_35 : decode cJ6_bitCount_0f7a4 35 = .ok (.iload_n 0, 1) := by decide +kernel
theorem dJ6_bitCount_0f7a4_36 : decode cJ6_bitCount_0f7a4 36 = .ok (.bipush 8, 2) := by decide +kernel
theorem dJ6_bitCount_0f7a4_38 : decode cJ6_bitCount_0f7a4 38 = .ok (.iushr, 1) := by decide +kernel
theorem dJ6_bitCount_0f7a4_39 : decode cJ6_bitCount_0f7a4 39 = .ok (.iadd, 1) := by decide +kernel
theorem dJ6_bitCount_0f7a4_40 : decode cJ6_bitCount_0f7a4 40 = .ok (.istore_n 0, 1) := by decide +kernel
theorem dJ6_bitCount_0f7a4_41 : decode cJ6_bitCount_0f7a4 41 = .ok (.iload_n 0, 1) := by decide +kernel
theorem dJ6_bitCount_0f7a4_42 : decode cJ6_bitCount_0f7a4 42 = .ok (.iload_n 0, 1) := by decide +kernel
theorem dJ6_bitCount_0f7a4_43 : decode cJ6_bitCount_0f7a4 43 = .ok (.bipush 16, 2) := by decide +kernel
theorem dJ6_bitCount_0f7a4_45 : decode cJ6_bitCount_0f7a4 45 = .ok (.iushr, 1) := by decide +kernel
theorem dJ6_bitCount_0f7a4_46 : decode cJ6_bitCount_0f7a4 46 = .ok (.iadd, 1) := by decide +kernel
theorem dJ6_bitCount_0f7a4_47 : decode cJ6_bitCount_0f7a4 47 = .ok (.istore_n 0, 1) := by decide +kernel
theorem dJ6_bitCount_0f7a4_48 : decode cJ6_bitCount_0f7a4 48 = .ok (.iload_n 0, 1) := by decide +kernel
theorem dJ6_bitCount_0f7a4_49 : decode cJ6_bitCount_0f7a4 49 = .ok (.bipush 63, 2) := by decide +kernel
theorem dJ6_bitCount_0f7a4_51 : decode cJ6_bitCount_0f7a4 51 = .ok (.iand, 1) := by decide +kernel
theorem dJ6_bitCount_0f7a4_52 : decode cJ6_bitCount_0f7a4 52 = .ok (.ireturn, 1) := by decide +kernel
theorem dJ9_abs_0f7a4_0 : decode cJ9_abs_0f7a4 0 = .ok (.iload_n 0, 1) := by decide +kernel
theorem dJ9_abs_0f7a4_1 : decode cJ9_abs_0f7a4 1 = .ok (.ifCond .ge 8, 3) := by decide +kernel
theorem dJ9_abs_0f7a4_4 : decode cJ9_abs_0f7a4 4 = .ok (.iload_n 0, 1) := by decide +kernel
theorem dJ9_abs_0f7a4_5 : decode cJ9_abs_0f7a4 5 = .ok (.ineg, 1) := by decide +kernel
theorem dJ9_abs_0f7a4_6 : decode cJ9_abs_0f7a4 6 = .ok (.goto 4, 3) := by decide +kernel
theorem dJ9_abs_0f7a4_9 : decode cJ9_abs_0f7a4 9 = .ok (.iload_n 0, 1) := by decide +kernel
theorem dJ9_abs_0f7a4_10 : decode cJ9_abs_0f7a4 10 = .ok (.ireturn, 1) := by decide +kernel
theorem dJ9_max_7cf53_0 : decode cJ9_max_7cf53 0 = .ok (.iload_n 0, 1) := by decide +kernel
theorem dJ9_max_7cf53_1 : decode cJ9_max_7cf53 1 = .ok (.iload_n 1, 1) := by decide +kernel
theorem dJ9_max_7cf53_2 : decode cJ9_max_7cf53 2 = .ok (.if_icmp .lt 7, 3) := by decide +kernel
theorem dJ9_max_7cf53_5 : decode cJ9_max_7cf53 5 = .ok (.iload_n 0, 1) := by decide +kernel
theorem dJ9_max_7cf53_6 : decode cJ9_max_7cf53 6 = .ok (.goto 4, 3) := by decide +kernel
theorem dJ9_max_7cf53_9 : decode cJ9_max_7cf53 9 = .ok (.iload_n 1, 1) := by decide +kernel
theorem dJ9_max_7cf53_10 : decode cJ9_max_7cf53 10 = .ok (.ireturn, 1) := by decide +kernel
theorem dJ9_min_7cf53_0 : decode cJ9_min_7cf53 0 = .ok (.iload_n 0, 1) := by decide +kernel
theorem dJ9_min_7cf53_1 : decode cJ9_min_7cf53 1 = .ok (.iload_n 1, 1) := by decide +kernel
theorem dJ9_min_7cf53_2 : decode cJ9_min_7cf53 2 = .ok (.if_icmp .gt 7, 3) := by decide +kernel
theorem dJ9_min_7cf53_5 : decode cJ9_min_7cf53 5 = .ok (.iload_n 0, 1) := by decide +kernel
theorem dJ9_min_7cf53_6 : decode cJ9_min_7cf53 6 = .ok (.goto 4, 3) := by decide +kernel
theorem dJ9_min_7cf53_9 : decode cJ9_min_7cf53 9 = .ok (.iload_n 1, 1) := by decide +kernel
theorem dJ9_min_7cf53_10 : decode cJ9_min_7cf53 10 = .ok (.ireturn, 1) := by decide +kernel
