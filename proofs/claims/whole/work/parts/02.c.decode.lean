theorem dX4_init_0 : decode cX4_init 0 = .ok (.aload_n 0, 1) := by decide +kernel
theorem dX4_init_1 : decode cX4_init 1 = .ok (.invokespecial 1, 3) := by decide +kernel
theorem dX4_init_4 : decode cX4_init 4 = .ok (.aload_n 0, 1) := by decide +kernel
theorem dX4_init_5 : decode cX4_init 5 = .ok (.new 7, 3) := by decide +kernel
theorem dX4_init_8 : decode cX4_init 8 = .ok (.dup, 1) := by decide +kernel
theorem dX4_init_9 : decode cX4_init 9 = .ok (.invokespecial 9, 3) := by decide +kernel
theorem dX4_init_12 : decode cX4_init 12 = .ok (.putfield 10, 3) := by decide +kernel
theorem dX4_init_15 : decode cX4_init 15 = .ok (.aload_n 0, 1) := by decide +kernel
theorem dX4_init_16 : decode cX4_init 16 = .ok (.new 16, 3) := by decide +kernel
theorem dX4_init_19 : decode cX4_init 19 = .ok (.dup, 1) := by decide +kernel
theorem dX4_init_20 : decode cX4_init 20 = .ok (.invokespecial 18, 3) := by decide +kernel
theorem dX4_init_23 : decode cX4_init 23 = .ok (.putfield 19, 3) := by decide +kernel
theorem dX4_init_26 : decode cX4_init 26 = .ok (.aload_n 0, 1) := by decide +kernel
theorem dX4_init_27 : decode cX4_init 27 = .ok (.new 23, 3) := by decide +kernel
theorem dX4_init_30 : decode cX4_init 30 = .ok (.dup, 1) := by decide +kernel
theorem dX4_init_31 : decode cX4_init 31 = .ok (.invokespecial 25, 3) := by decide +kernel
theorem dX4_init_34 : decode cX4_init 34 = .ok (.putfield 26, 3) := by decide +kernel
theorem dX4_init_37 : decode cX4_init 37 = .ok (.aload_n 0, 1) := by decide +kernel
theorem dX4_init_38 : decode cX4_init 38 = .ok (.new 30, 3) := by decide +kernel
theorem dX4_init_41 : decode cX4_init 41 = .ok (.dup, 1) := by decide +kernel
theorem dX4_init_42 : decode cX4_init 42 = .ok (.invokespecial 32, 3) := by decide +kernel
theorem dX4_init_45 : decode cX4_init 45 = .ok (.putfield 33, 3) := by decide +kernel
theorem dX4_init_48 : decode cX4_init 48 = .ok (.aload_n 0, 1) := by decide +kernel
theorem dX4_init_49 : decode cX4_init 49 = .ok (.iconst 5, 1) := by decide +kernel
theorem dX4_init_50 : decode cX4_init 50 = .ok (.putfield 37, 3) := by decide +kernel
theorem dX4_init_53 : decode cX4_init 53 = .ok (.aload_n 0, 1) := by decide +kernel
theorem dX4_init_54 : decode cX4_init 54 = .ok (.sipush 500, 3) := by decide +kernel
theorem dX4_init_57 : decode cX4_init 57 = .ok (.putfield 41, 3) := by decide +kernel
theorem dX4_init_60 : decode cX4_init 60 = .ok (.aload_n 0, 1) := by decide +kernel
theorem dX4_init_61 : decode cX4_init 61 = .ok (.iconst 1, 1) := by decide +kernel
theorem dX4_init_62 : decode cX4_init 62 = .ok (.putfield 44, 3) := by decide +kernel
theorem dX4_init_65 : decode cX4_init 65 = .ok (.aload_n 0, 1) := by decide +kernel
theorem dX4_init_66 : decode cX4_init 66 = .ok (.iconst 1, 1) := by decide +kernel
theorem dX4_init_67 : decode cX4_init 67 = .ok (.putfield 47, 3) := by decide +kernel
theorem dX4_init_70 : decode cX4_init 70 = .ok (.return_, 1) := by decide +kernel
theorem dX4_measure_0 : decode cX4_measure 0 = .ok (.iload_n 1, 1) := by decide +kernel
theorem dX4_measure_1 : decode cX4_measure 1 = .ok (.invokestatic 51, 3) := by decide +kernel
theorem dX4_measure_4 : decode cX4_measure 4 = .ok (.ifCond .eq 32, 3) := by decide +kernel
theorem dX4_measure_7 : decode cX4_measure 7 = .ok (.iload_n 2, 1) := by decide +kernel
theorem dX4_measure_8 : decode cX4_measure 8 = .ok (.invokestatic 51, 3) := by decide +kernel
theorem dX4_measure_11 : decode cX4_measure 11 = .ok (.ifCond .eq 25, 3) := by decide +kernel
theorem dX4_measure_14 : decode cX4_measure 14 = .ok (.iload_n 3, 1) := by decide +kernel
theorem dX4_measure_15 : decode cX4_measure 15 = .ok (.iconst 0, 1) := by decide +kernel
theorem dX4_measure_16 : decode cX4_measure 16 = .ok (.bipush 50, 2) := by decide +kernel
theorem dX4_measure_18 : decode cX4_measure 18 = .ok (.invokestatic 55, 3) := by decide +kernel
theorem dX4_measure_21 : decode cX4_measure 21 = .ok (.ifCond .eq 15, 3) := by decide +kernel
theorem dX4_measure_24 : decode cX4_measure 24 = .ok (.iload 4, 2) := by decide +kernel
theorem dX4_measure_26 : decode cX4_measure 26 = .ok (.iconst 1, 1) := by decide +kernel
theorem dX4_measure_27 : decode cX4_measure 27 = .ok (.sipush 2000, 3) := by decide +kernel
theorem dX4_measure_30 : decode cX4_measure 30 = .ok (.invokestatic 55, 3) := by decide +kernel
theorem dX4_measure_33 : decode cX4_measure 33 = .ok (.ifCond .ne 5, 3) := by decide +kernel
theorem dX4_measure_36 : decode cX4_measure 36 = .ok (.iconst 0, 1) := by decide +kernel
theorem dX4_measure_37 : decode cX4_measure 37 = .ok (.ireturn, 1) := by decide +kernel
theorem dX4_measure_38 : decode cX4_measure 38 = .ok (.aload_n 0, 1) := by decide +kernel
theorem dX4_measure_39 : decode cX4_measure 39 = .ok (.getfield 10, 3) := by decide +kernel
theorem dX4_measure_42 : decode cX4_measure 42 = .ok (.iload_n 1, 1) := by decide +kernel
theorem dX4_measure_43 : decode cX4_measure 43 = .ok (.iload_n 2, 1) := by decide +kernel
theorem dX4_measure_44 : decode cX4_measure 44 = .ok (.iload_n 3, 1) := by decide +kernel
theorem dX4_measure_45 : decode cX4_measure 45 = .ok (.iload 4, 2) := by decide +kernel
theorem dX4_measure_47 : decode cX4_measure 47 = .ok (.invokevirtual 59, 3) := by decide +kernel
theorem dX4_measure_50 : decode cX4_measure 50 = .ok (.iconst 1, 1) := by decide +kernel
theorem dX4_measure_51 : decode cX4_measure 51 = .ok (.ireturn, 1) := by decide +kernel
theorem dX4_drum_0 : decode cX4_drum 0 = .ok (.iload_n 1, 1) := by decide +kernel
theorem dX4_drum_1 : decode cX4_drum 1 = .ok (.iconst 0, 1) := by decide +kernel
theorem dX4_drum_2 : decode cX4_drum 2 = .ok (.bipush 40, 2) := by decide +kernel
theorem dX4_drum_4 : decode cX4_drum 4 = .ok (.invokestatic 55, 3) := by decide +kernel
theorem dX4_drum_7 : decode cX4_drum 7 = .ok (.ifCond .eq 50, 3) := by decide +kernel
theorem dX4_drum_10 : decode cX4_drum 10 = .ok (.iload_n 2, 1) := by decide +kernel
theorem dX4_drum_11 : decode cX4_drum 11 = .ok (.invokestatic 63, 3) := by decide +kernel
theorem dX4_drum_14 : decode cX4_drum 14 = .ok (.ifCond .eq 43, 3) := by decide +kernel
theorem dX4_drum_17 : decode cX4_drum 17 = .ok (.iload_n 3, 1) := by decide +kernel
theorem dX4_drum_18 : decode cX4_drum 18 = .ok (.invokestatic 63, 3) := by decide +kernel
theorem dX4_drum_21 : decode cX4_drum 21 = .ok (.ifCond .eq 36, 3) := by decide +kernel
theorem dX4_drum_24 : decode cX4_drum 24 = .ok (.iload 4, 2) := by decide +kernel
theorem dX4_drum_26 : decode cX4_drum 26 = .ok (.iconst 1, 1) := by decide +kernel
theorem dX4_drum_27 : decode cX4_drum 27 = .ok (.sipush 10000, 3) := by decide +kernel
theorem dX4_drum_30 : decode cX4_drum 30 = .ok (.invokestatic 55, 3) := by decide +kernel
theorem dX4_drum_33 : decode cX4_drum 33 = .ok (.ifCond .eq 24, 3) := by decide +kernel
theorem dX4_drum_36 : decode cX4_drum 36 = .ok (.iload 5, 2) := by decide +kernel
theorem dX4_drum_38 : decode cX4_drum 38 = .ok (.iconst 0, 1) := by decide +kernel
theorem dX4_drum_39 : decode cX4_drum 39 = .ok (.ldc 66, 2) := by decide +kernel
theorem dX4_drum_41 : decode cX4_drum 41 = .ok (.invokestatic 55, 3) := by decide +kernel
theorem dX4_drum_44 : decode cX4_drum 44 = .ok (.ifCond .eq 13, 3) := by decide +kernel
theorem dX4_drum_47 : decode cX4_drum 47 = .ok (.aload_n 0, 1) := by decide +kernel
theorem dX4_drum_48 : decode cX4_drum 48 = .ok (.getfield 10, 3) := by decide +kernel
theorem dX4_drum_51 : decode cX4_drum 51 = .ok (.invokevirtual 67, 3) := by decide +kernel
theorem dX4_drum_54 : decode cX4_drum 54 = .ok (.ifCond .ne 5, 3) := by decide +kernel
theorem dX4_drum_57 : decode cX4_drum 57 = .ok (.iconst (-1), 1) := by decide +kernel
theorem dX4_drum_58 : decode cX4_drum 58 = .ok (.ireturn, 1) := by decide +kernel
theorem dX4_drum_59 : decode cX4_drum 59 = .ok (.aload_n 0, 1) := by decide +kernel
theorem dX4_drum_60 : decode cX4_drum 60 = .ok (.iconst 1, 1) := by decide +kernel
theorem dX4_drum_61 : decode cX4_drum 61 = .ok (.putfield 47, 3) := by decide +kernel
theorem dX4_drum_64 : decode cX4_drum 64 = .ok (.aload_n 0, 1) := by decide +kernel
theorem dX4_drum_65 : decode cX4_drum 65 = .ok (.getfield 10, 3) := by decide +kernel
theorem dX4_drum_68 : decode cX4_drum 68 = .ok (.iload_n 1, 1) := by decide +kernel
theorem dX4_drum_69 : decode cX4_drum 69 = .ok (.iload_n 2, 1) := by decide +kernel
theorem dX4_drum_70 : decode cX4_drum 70 = .ok (.iload_n 3, 1) := by decide +kernel
theorem dX4_drum_71 : decode cX4_drum 71 = .ok (.iload 4, 2) := by decide +kernel
theorem dX4_drum_73 : decode cX4_drum 73 = .ok (.iload 5, 2) := by decide +kernel
theorem dX4_drum_75 : decode cX4_drum 75 = .ok (.invokevirtual 71, 3) := by decide +kernel
theorem dX4_drum_78 : decode cX4_drum 78 = .ok (.ireturn, 1) := by decide +kernel
theorem dX4_set_0 : decode cX4_set 0 = .ok (.iload_n 1, 1) := by decide +kernel
theorem dX4_set_1 : decode cX4_set 1 = .ok (.iconst 0, 1) := by decide +kernel
theorem dX4_set_2 : decode cX4_set 2 = .ok (.bipush 50, 2) := by decide +kernel
theorem dX4_set_4 : decode cX4_set 4 = .ok (.invokestatic 55, 3) := by decide +kernel
theorem dX4_set_7 : decode cX4_set 7 = .ok (.ifCond .eq 23, 3) := by decide +kernel
theorem dX4_set_10 : decode cX4_set 10 = .ok (.iload_n 2, 1) := by decide +kernel
theorem dX4_set_11 : decode cX4_set 11 = .ok (.iconst 1, 1) := by decide +kernel
theorem dX4_set_12 : decode cX4_set 12 = .ok (.sipush 10000, 3) := by decide +kernel
theorem dX4_set_15 : decode cX4_set 15 = .ok (.invokestatic 55, 3) := by decide +kernel
theorem dX4_set_18 : decode cX4_set 18 = .ok (.ifCond .eq 12, 3) := by decide +kernel
theorem dX4_set_21 : decode cX4_set 21 = .ok (.iload_n 3, 1) := by decide +kernel
theorem dX4_set_22 : decode cX4_set 22 = .ok (.iconst 1, 1) := by decide +kernel
theorem dX4_set_23 : decode cX4_set 23 = .ok (.iconst 5, 1) := by decide +kernel
theorem dX4_set_24 : decode cX4_set 24 = .ok (.invokestatic 55, 3) := by decide +kernel
theorem dX4_set_27 : decode cX4_set 27 = .ok (.ifCond .ne 5, 3) := by decide +kernel
theorem dX4_set_30 : decode cX4_set 30 = .ok (.iconst 0, 1) := by decide +kernel
theorem dX4_set_31 : decode cX4_set 31 = .ok (.ireturn, 1) := by decide +kernel
theorem dX4_set_32 : decode cX4_set 32 = .ok (.iload_n 1, 1) := by decide +kernel
theorem dX4_set_33 : decode cX4_set 33 = .ok (.aload_n 0, 1) := by decide +kernel
theorem dX4_set_34 : decode cX4_set 34 = .ok (.getfield 37, 3) := by decide +kernel
theorem dX4_set_37 : decode cX4_set 37 = .ok (.if_icmp .eq 8, 3) := by decide +kernel
theorem dX4_set_40 : decode cX4_set 40 = .ok (.aload_n 0, 1) := by decide +kernel
theorem dX4_set_41 : decode cX4_set 41 = .ok (.iconst 1, 1) := by decide +kernel
theorem dX4_set_42 : decode cX4_set 42 = .ok (.putfield 47, 3) := by decide +kernel
theorem dX4_set_45 : decode cX4_set 45 = .ok (.aload_n 0, 1) := by decide +kernel
theorem dX4_set_46 : decode cX4_set 46 = .ok (.iload_n 1, 1) := by decide +kernel
theorem dX4_set_47 : decode cX4_set 47 = .ok (.putfield 37, 3) := by decide +kernel
theorem dX4_set_50 : decode cX4_set 50 = .ok (.aload_n 0, 1) := by decide +kernel
theorem dX4_set_51 : decode cX4_set 51 = .ok (.iload_n 2, 1) := by decide +kernel
theorem dX4_set_52 : decode cX4_set 52 = .ok (.putfield 41, 3) := by decide +kernel
theorem dX4_set_55 : decode cX4_set 55 = .ok (.aload_n 0, 1) := by decide +kernel
theorem dX4_set_56 : decode cX4_set 56 = .ok (.iload_n 3, 1) := by decide +kernel
theorem dX4_set_57 : decode cX4_set 57 = .ok (.putfield 44, 3) := by decide +kernel
theorem dX4_set_60 : decode cX4_set 60 = .ok (.iconst 1, 1) := by decide +kernel
theorem dX4_set_61 : decode cX4_set 61 = .ok (.ireturn, 1) := by decide +kernel
theorem dX4_column_0 : decode cX4_column 0 = .ok (.iload_n 1, 1) := by decide +kernel
theorem dX4_column_1 : decode cX4_column 1 = .ok (.iconst 1, 1) := by decide +kernel
theorem dX4_column_2 : decode cX4_column 2 = .ok (.iconst 5, 1) := by decide +kernel
theorem dX4_column_3 : decode cX4_column 3 = .ok (.invokestatic 55, 3) := by decide +kernel
theorem dX4_column_6 : decode cX4_column 6 = .ok (.ifCond .eq 28, 3) := by decide +kernel
theorem dX4_column_9 : decode cX4_column 9 = .ok (.iload_n 2, 1) := by decide +kernel
theorem dX4_column_10 : decode cX4_column 10 = .ok (.invokestatic 75, 3) := by decide +kernel
theorem dX4_column_13 : decode cX4_column 13 = .ok (.ifCond .eq 21, 3) := by decide +kernel
theorem dX4_column_16 : decode cX4_column 16 = .ok (.iload_n 3, 1) := by decide +kernel
theorem dX4_column_17 : decode cX4_column 17 = .ok (.invokestatic 75, 3) := by decide +kernel
theorem dX4_column_20 : decode cX4_column 20 = .ok (.ifCond .eq 14, 3) := by decide +kernel
theorem dX4_column_23 : decode cX4_column 23 = .ok (.aload_n 0, 1) := by decide +kernel
theorem dX4_column_24 : decode cX4_column 24 = .ok (.getfield 19, 3) := by decide +kernel
theorem dX4_column_27 : decode cX4_column 27 = .ok (.iload_n 1, 1) := by decide +kernel
theorem dX4_column_28 : decode cX4_column 28 = .ok (.invokevirtual 78, 3) := by decide +kernel
theorem dX4_column_31 : decode cX4_column 31 = .ok (.ifCond .ne 5, 3) := by decide +kernel
theorem dX4_column_34 : decode cX4_column 34 = .ok (.iconst (-1), 1) := by decide +kernel
theorem dX4_column_35 : decode cX4_column 35 = .ok (.ireturn, 1) := by decide +kernel
theorem dX4_column_36 : decode cX4_column 36 = .ok (.aload_n 0, 1) := by decide +kernel
theorem dX4_column_37 : decode cX4_column 37 = .ok (.iconst 1, 1) := by decide +kernel
theorem dX4_column_38 : decode cX4_column 38 = .ok (.putfield 47, 3) := by decide +kernel
theorem dX4_column_41 : decode cX4_column 41 = .ok (.aload_n 0, 1) := by decide +kernel
theorem dX4_column_42 : decode cX4_column 42 = .ok (.getfield 19, 3) := by decide +kernel
theorem dX4_column_45 : decode cX4_column 45 = .ok (.iload_n 1, 1) := by decide +kernel
theorem dX4_column_46 : decode cX4_column 46 = .ok (.iload_n 2, 1) := by decide +kernel
theorem dX4_column_47 : decode cX4_column 47 = .ok (.iload_n 3, 1) := by decide +kernel
theorem dX4_column_48 : decode cX4_column 48 = .ok (.invokevirtual 80, 3) := by decide +kernel
theorem dX4_column_51 : decode cX4_column 51 = .ok (.ireturn, 1) := by decide +kernel
theorem dX4_turn_0 : decode cX4_turn 0 = .ok (.aload_n 0, 1) := by decide +kernel
theorem dX4_turn_1 : decode cX4_turn 1 = .ok (.getfield 10, 3) := by decide +kernel
theorem dX4_turn_4 : decode cX4_turn 4 = .ok (.iload_n 1, 1) := by decide +kernel
theorem dX4_turn_5 : decode cX4_turn 5 = .ok (.iload_n 2, 1) := by decide +kernel
theorem dX4_turn_6 : decode cX4_turn 6 = .ok (.aload_n 0, 1) := by decide +kernel
theorem dX4_turn_7 : decode cX4_turn 7 = .ok (.getfield 37, 3) := by decide +kernel
theorem dX4_turn_10 : decode cX4_turn 10 = .ok (.invokevirtual 83, 3) := by decide +kernel
theorem dX4_turn_13 : decode cX4_turn 13 = .ok (.ireturn, 1) := by decide +kernel
theorem dX4_fits_0 : decode cX4_fits 0 = .ok (.aload_n 0, 1) := by decide +kernel
theorem dX4_fits_1 : decode cX4_fits 1 = .ok (.getfield 10, 3) := by decide +kernel
theorem dX4_fits_4 : decode cX4_fits 4 = .ok (.iload_n 1, 1) := by decide +kernel
theorem dX4_fits_5 : decode cX4_fits 5 = .ok (.invokevirtual 86, 3) := by decide +kernel
theorem dX4_fits_8 : decode cX4_fits 8 = .ok (.ifCond .eq 14, 3) := by decide +kernel
theorem dX4_fits_11 : decode cX4_fits 11 = .ok (.aload_n 0, 1) := by decide +kernel
theorem dX4_fits_12 : decode cX4_fits 12 = .ok (.getfield 19, 3) := by decide +kernel
theorem dX4_fits_15 : decode cX4_fits 15 = .ok (.iload_n 2, 1) := by decide +kernel
theorem dX4_fits_16 : decode cX4_fits 16 = .ok (.invokevirtual 89, 3) := by decide +kernel
theorem dX4_fits_19 : decode cX4_fits 19 = .ok (.ifCond .ne 5, 3) := by decide +kernel
theorem dX4_fits_22 : decode cX4_fits 22 = .ok (.iconst (-1), 1) := by decide +kernel
theorem dX4_fits_23 : decode cX4_fits 23 = .ok (.ireturn, 1) := by decide +kernel
theorem dX4_fits_24 : decode cX4_fits 24 = .ok (.iconst 0, 1) := by decide +kernel
theorem dX4_fits_25 : decode cX4_fits 25 = .ok (.istore_n 3, 1) := by decide +kernel
theorem dX4_fits_26 : decode cX4_fits 26 = .ok (.aload_n 0, 1) := by decide +kernel
theorem dX4_fits_27 : decode cX4_fits 27 = .ok (.iload_n 1, 1) := by decide +kernel
theorem dX4_fits_28 : decode cX4_fits 28 = .ok (.iload_n 2, 1) := by decide +kernel
theorem dX4_fits_29 : decode cX4_fits 29 = .ok (.invokevirtual 90, 3) := by decide +kernel
theorem dX4_fits_32 : decode cX4_fits 32 = .ok (.ifCond .eq 7, 3) := by decide +kernel
theorem dX4_fits_35 : decode cX4_fits 35 = .ok (.iload_n 3, 1) := by decide +kernel
theorem dX4_fits_36 : decode cX4_fits 36 = .ok (.iconst 1, 1) := by decide +kernel
theorem dX4_fits_37 : decode cX4_fits 37 = .ok (.ior, 1) := by decide +kernel
theorem dX4_fits_38 : decode cX4_fits 38 = .ok (.istore_n 3, 1) := by decide +kernel
theorem dX4_fits_39 : decode cX4_fits 39 = .ok (.aload_n 0, 1) := by decide +kernel
theorem dX4_fits_40 : decode cX4_fits 40 = .ok (.iload_n 1, 1) := by decide +kernel
theorem dX4_fits_41 : decode cX4_fits 41 = .ok (.iload_n 2, 1) := by decide +kernel
theorem dX4_fits_42 : decode cX4_fits 42 = .ok (.invokevirtual 94, 3) := by decide +kernel
theorem dX4_fits_45 : decode cX4_fits 45 = .ok (.ifCond .eq 7, 3) := by decide +kernel
theorem dX4_fits_48 : decode cX4_fits 48 = .ok (.iload_n 3, 1) := by decide +kernel
theorem dX4_fits_49 : decode cX4_fits 49 = .ok (.iconst 2, 1) := by decide +kernel
theorem dX4_fits_50 : decode cX4_fits 50 = .ok (.ior, 1) := by decide +kernel
theorem dX4_fits_51 : decode cX4_fits 51 = .ok (.istore_n 3, 1) := by decide +kernel
theorem dX4_fits_52 : decode cX4_fits 52 = .ok (.iload_n 3, 1) := by decide +kernel
theorem dX4_fits_53 : decode cX4_fits 53 = .ok (.ireturn, 1) := by decide +kernel
theorem dX4_hand_0 : decode cX4_hand 0 = .ok (.aload_n 0, 1) := by decide +kernel
theorem dX4_hand_1 : decode cX4_hand 1 = .ok (.getfield 19, 3) := by decide +kernel
theorem dX4_hand_4 : decode cX4_hand 4 = .ok (.iload_n 1, 1) := by decide +kernel
theorem dX4_hand_5 : decode cX4_hand 5 = .ok (.invokevirtual 97, 3) := by decide +kernel
theorem dX4_hand_8 : decode cX4_hand 8 = .ok (.ifCond .eq 25, 3) := by decide +kernel
theorem dX4_hand_11 : decode cX4_hand 11 = .ok (.iload_n 2, 1) := by decide +kernel
theorem dX4_hand_12 : decode cX4_hand 12 = .ok (.iconst (-1), 1) := by decide +kernel
theorem dX4_hand_13 : decode cX4_hand 13 = .ok (.if_icmp .eq 22, 3) := by decide +kernel
theorem dX4_hand_16 : decode cX4_hand 16 = .ok (.iload_n 2, 1) := by decide +kernel
theorem dX4_hand_17 : decode cX4_hand 17 = .ok (.bipush 10, 2) := by decide +kernel
theorem dX4_hand_19 : decode cX4_hand 19 = .ok (.if_icmp .eq 16, 3) := by decide +kernel
theorem dX4_hand_22 : decode cX4_hand 22 = .ok (.aload_n 0, 1) := by decide +kernel
theorem dX4_hand_23 : decode cX4_hand 23 = .ok (.getfield 10, 3) := by decide +kernel
theorem dX4_hand_26 : decode cX4_hand 26 = .ok (.iload_n 2, 1) := by decide +kernel
theorem dX4_hand_27 : decode cX4_hand 27 = .ok (.invokevirtual 86, 3) := by decide +kernel
theorem dX4_hand_30 : decode cX4_hand 30 = .ok (.ifCond .ne 5, 3) := by decide +kernel
theorem dX4_hand_33 : decode cX4_hand 33 = .ok (.iconst 0, 1) := by decide +kernel
theorem dX4_hand_34 : decode cX4_hand 34 = .ok (.ireturn, 1) := by decide +kernel
theorem dX4_hand_35 : decode cX4_hand 35 = .ok (.iload_n 2, 1) := by decide +kernel
theorem dX4_hand_36 : decode cX4_hand 36 = .ok (.aload_n 0, 1) := by decide +kernel
theorem dX4_hand_37 : decode cX4_hand 37 = .ok (.getfield 26, 3) := by decide +kernel
theorem dX4_hand_40 : decode cX4_hand 40 = .ok (.iload_n 1, 1) := by decide +kernel
theorem dX4_hand_41 : decode cX4_hand 41 = .ok (.invokevirtual 100, 3) := by decide +kernel
theorem dX4_hand_44 : decode cX4_hand 44 = .ok (.if_icmp .eq 8, 3) := by decide +kernel
theorem dX4_hand_47 : decode cX4_hand 47 = .ok (.aload_n 0, 1) := by decide +kernel
theorem dX4_hand_48 : decode cX4_hand 48 = .ok (.iconst 1, 1) := by decide +kernel
theorem dX4_hand_49 : decode cX4_hand 49 = .ok (.putfield 47, 3) := by decide +kernel
theorem dX4_hand_52 : decode cX4_hand 52 = .ok (.aload_n 0, 1) := by decide +kernel
theorem dX4_hand_53 : decode cX4_hand 53 = .ok (.getfield 26, 3) := by decide +kernel
theorem dX4_hand_56 : decode cX4_hand 56 = .ok (.iload_n 1, 1) := by decide +kernel
theorem dX4_hand_57 : decode cX4_hand 57 = .ok (.iload_n 2, 1) := by decide +kernel
theorem dX4_hand_58 : decode cX4_hand 58 = .ok (.invokevirtual 104, 3) := by decide +kernel
theorem dX4_hand_61 : decode cX4_hand 61 = .ok (.iconst 1, 1) := by decide +kernel
theorem dX4_hand_62 : decode cX4_hand 62 = .ok (.ireturn, 1) := by decide +kernel
theorem dX4_not_0 : decode cX4_not 0 = .ok (.aload_n 0, 1) := by decide +kernel
theorem dX4_not_1 : decode cX4_not 1 = .ok (.getfield 19, 3) := by decide +kernel
theorem dX4_not_4 : decode cX4_not 4 = .ok (.iload_n 1, 1) := by decide +kernel
theorem dX4_not_5 : decode cX4_not 5 = .ok (.invokevirtual 97, 3) := by decide +kernel
theorem dX4_not_8 : decode cX4_not 8 = .ok (.ifCond .eq 27, 3) := by decide +kernel
theorem dX4_not_11 : decode cX4_not 11 = .ok (.aload_n 0, 1) := by decide +kernel
theorem dX4_not_12 : decode cX4_not 12 = .ok (.getfield 10, 3) := by decide +kernel
theorem dX4_not_15 : decode cX4_not 15 = .ok (.iload_n 2, 1) := by decide +kernel
theorem dX4_not_16 : decode cX4_not 16 = .ok (.invokevirtual 86, 3) := by decide +kernel
theorem dX4_not_19 : decode cX4_not 19 = .ok (.ifCond .eq 16, 3) := by decide +kernel
theorem dX4_not_22 : decode cX4_not 22 = .ok (.aload_n 0, 1) := by decide +kernel
theorem dX4_not_23 : decode cX4_not 23 = .ok (.getfield 26, 3) := by decide +kernel
theorem dX4_not_26 : decode cX4_not 26 = .ok (.iload_n 1, 1) := by decide +kernel
theorem dX4_not_27 : decode cX4_not 27 = .ok (.iload_n 2, 1) := by decide +kernel
theorem dX4_not_28 : decode cX4_not 28 = .ok (.invokevirtual 108, 3) := by decide +kernel
theorem dX4_not_31 : decode cX4_not 31 = .ok (.iload_n 3, 1) := by decide +kernel
theorem dX4_not_32 : decode cX4_not 32 = .ok (.if_icmp .ne 5, 3) := by decide +kernel
theorem dX4_not_35 : decode cX4_not 35 = .ok (.iconst 0, 1) := by decide +kernel
theorem dX4_not_36 : decode cX4_not 36 = .ok (.ireturn, 1) := by decide +kernel
theorem dX4_not_37 : decode cX4_not 37 = .ok (.aload_n 0, 1) := by decide +kernel
theorem dX4_not_38 : decode cX4_not 38 = .ok (.getfield 26, 3) := by decide +kernel
theorem dX4_not_41 : decode cX4_not 41 = .ok (.iload_n 1, 1) := by decide +kernel
theorem dX4_not_42 : decode cX4_not 42 = .ok (.iload_n 2, 1) := by decide +kernel
theorem dX4_not_43 : decode cX4_not 43 = .ok (.iload_n 3, 1) := by decide +kernel
theorem dX4_not_44 : decode cX4_not 44 = .ok (.invokevirtual 111, 3) := by decide +kernel
theorem dX4_not_47 : decode cX4_not 47 = .ok (.aload_n 0, 1) := by decide +kernel
theorem dX4_not_48 : decode cX4_not 48 = .ok (.iconst 1, 1) := by decide +kernel
theorem dX4_not_49 : decode cX4_not 49 = .ok (.putfield 47, 3) := by decide +kernel
theorem dX4_not_52 : decode cX4_not 52 = .ok (.iconst 1, 1) := by decide +kernel
theorem dX4_not_53 : decode cX4_not 53 = .ok (.ireturn, 1) := by decide +kernel
theorem dX4_least_0 : decode cX4_least 0 = .ok (.aload_n 0, 1) := by decide +kernel
theorem dX4_least_1 : decode cX4_least 1 = .ok (.invokevirtual 115, 3) := by decide +kernel
theorem dX4_least_4 : decode cX4_least 4 = .ok (.aload_n 0, 1) := by decide +kernel
theorem dX4_least_5 : decode cX4_least 5 = .ok (.getfield 33, 3) := by decide +kernel
theorem dX4_least_8 : decode cX4_least 8 = .ok (.invokevirtual 118, 3) := by decide +kernel
theorem dX4_least_11 : decode cX4_least 11 = .ok (.ireturn, 1) := by decide +kernel
theorem dX4_ways_0 : decode cX4_ways 0 = .ok (.aload_n 0, 1) := by decide +kernel
theorem dX4_ways_1 : decode cX4_ways 1 = .ok (.invokevirtual 115, 3) := by decide +kernel
theorem dX4_ways_4 : decode cX4_ways 4 = .ok (.aload_n 0, 1) := by decide +kernel
theorem dX4_ways_5 : decode cX4_ways 5 = .ok (.getfield 33, 3) := by decide +kernel
theorem dX4_ways_8 : decode cX4_ways 8 = .ok (.invokevirtual 122, 3) := by decide +kernel
theorem dX4_ways_11 : decode cX4_ways 11 = .ok (.lreturn, 1) := by decide +kernel
theorem dX4_first_0 : decode cX4_first 0 = .ok (.aload_n 0, 1) := by decide +kernel
theorem dX4_first_1 : decode cX4_first 1 = .ok (.getfield 19, 3) := by decide +kernel
theorem dX4_first_4 : decode cX4_first 4 = .ok (.iload_n 1, 1) := by decide +kernel
theorem dX4_first_5 : decode cX4_first 5 = .ok (.invokevirtual 97, 3) := by decide +kernel
theorem dX4_first_8 : decode cX4_first 8 = .ok (.ifCond .ne 5, 3) := by decide +kernel
theorem dX4_first_11 : decode cX4_first 11 = .ok (.iconst (-1), 1) := by decide +kernel
theorem dX4_first_12 : decode cX4_first 12 = .ok (.ireturn, 1) := by decide +kernel
theorem dX4_first_13 : decode cX4_first 13 = .ok (.aload_n 0, 1) := by decide +kernel
theorem dX4_first_14 : decode cX4_first 14 = .ok (.invokevirtual 115, 3) := by decide +kernel
theorem dX4_first_17 : decode cX4_first 17 = .ok (.aload_n 0, 1) := by decide +kernel
theorem dX4_first_18 : decode cX4_first 18 = .ok (.getfield 33, 3) := by decide +kernel
theorem dX4_first_21 : decode cX4_first 21 = .ok (.iload_n 1, 1) := by decide +kernel
theorem dX4_first_22 : decode cX4_first 22 = .ok (.invokevirtual 126, 3) := by decide +kernel
theorem dX4_first_25 : decode cX4_first 25 = .ok (.ireturn, 1) := by decide +kernel
theorem dX4_sure_0 : decode cX4_sure 0 = .ok (.aload_n 0, 1) := by decide +kernel
theorem dX4_sure_1 : decode cX4_sure 1 = .ok (.getfield 10, 3) := by decide +kernel
theorem dX4_sure_4 : decode cX4_sure 4 = .ok (.iload_n 1, 1) := by decide +kernel
theorem dX4_sure_5 : decode cX4_sure 5 = .ok (.invokevirtual 86, 3) := by decide +kernel
theorem dX4_sure_8 : decode cX4_sure 8 = .ok (.ifCond .ne 5, 3) := by decide +kernel
theorem dX4_sure_11 : decode cX4_sure 11 = .ok (.iconst (-1), 1) := by decide +kernel
theorem dX4_sure_12 : decode cX4_sure 12 = .ok (.ireturn, 1) := by decide +kernel
theorem dX4_sure_13 : decode cX4_sure 13 = .ok (.aload_n 0, 1) := by decide +kernel
theorem dX4_sure_14 : decode cX4_sure 14 = .ok (.invokevirtual 115, 3) := by decide +kernel
theorem dX4_sure_17 : decode cX4_sure 17 = .ok (.iconst 0, 1) := by decide +kernel
theorem dX4_sure_18 : decode cX4_sure 18 = .ok (.istore_n 2, 1) := by decide +kernel
theorem dX4_sure_19 : decode cX4_sure 19 = .ok (.iload_n 2, 1) := by decide +kernel
theorem dX4_sure_20 : decode cX4_sure 20 = .ok (.aload_n 0, 1) := by decide +kernel
theorem dX4_sure_21 : decode cX4_sure 21 = .ok (.getfield 19, 3) := by decide +kernel
theorem dX4_sure_24 : decode cX4_sure 24 = .ok (.invokevirtual 129, 3) := by decide +kernel
theorem dX4_sure_27 : decode cX4_sure 27 = .ok (.if_icmp .ge 25, 3) := by decide +kernel
theorem dX4_sure_30 : decode cX4_sure 30 = .ok (.aload_n 0, 1) := by decide +kernel
theorem dX4_sure_31 : decode cX4_sure 31 = .ok (.getfield 33, 3) := by decide +kernel
theorem dX4_sure_34 : decode cX4_sure 34 = .ok (.iload_n 2, 1) := by decide +kernel
theorem dX4_sure_35 : decode cX4_sure 35 = .ok (.invokevirtual 132, 3) := by decide +kernel
theorem dX4_sure_38 : decode cX4_sure 38 = .ok (.iconst 1, 1) := by decide +kernel
theorem dX4_sure_39 : decode cX4_sure 39 = .ok (.iload_n 1, 1) := by decide +kernel
theorem dX4_sure_40 : decode cX4_sure 40 = .ok (.ishl, 1) := by decide +kernel
theorem dX4_sure_41 : decode cX4_sure 41 = .ok (.if_icmp .ne 5, 3) := by decide +kernel
theorem dX4_sure_44 : decode cX4_sure 44 = .ok (.iload_n 2, 1) := by decide +kernel
theorem dX4_sure_45 : decode cX4_sure 45 = .ok (.ireturn, 1) := by decide +kernel
theorem dX4_sure_46 : decode cX4_sure 46 = .ok (.iinc 2 1, 3) := by decide +kernel
theorem dX4_sure_49 : decode cX4_sure 49 = .ok (.goto (-30), 3) := by decide +kernel
theorem dX4_sure_52 : decode cX4_sure 52 = .ok (.iconst (-1), 1) := by decide +kernel
theorem dX4_sure_53 : decode cX4_sure 53 = .ok (.ireturn, 1) := by decide +kernel
theorem dX4_open_0 : decode cX4_open 0 = .ok (.aload_n 0, 1) := by decide +kernel
theorem dX4_open_1 : decode cX4_open 1 = .ok (.getfield 10, 3) := by decide +kernel
theorem dX4_open_4 : decode cX4_open 4 = .ok (.iload_n 1, 1) := by decide +kernel
theorem dX4_open_5 : decode cX4_open 5 = .ok (.invokevirtual 86, 3) := by decide +kernel
theorem dX4_open_8 : decode cX4_open 8 = .ok (.ifCond .ne 5, 3) := by decide +kernel
theorem dX4_open_11 : decode cX4_open 11 = .ok (.iconst 0, 1) := by decide +kernel
theorem dX4_open_12 : decode cX4_open 12 = .ok (.ireturn, 1) := by decide +kernel
theorem dX4_open_13 : decode cX4_open 13 = .ok (.aload_n 0, 1) := by decide +kernel
theorem dX4_open_14 : decode cX4_open 14 = .ok (.invokevirtual 115, 3) := by decide +kernel
theorem dX4_open_17 : decode cX4_open 17 = .ok (.iconst 0, 1) := by decide +kernel
theorem dX4_open_18 : decode cX4_open 18 = .ok (.istore_n 2, 1) := by decide +kernel
theorem dX4_open_19 : decode cX4_open 19 = .ok (.iconst 0, 1) := by decide +kernel
theorem dX4_open_20 : decode cX4_open 20 = .ok (.istore_n 3, 1) := by decide +kernel
theorem dX4_open_21 : decode cX4_open 21 = .ok (.iload_n 3, 1) := by decide +kernel
theorem dX4_open_22 : decode cX4_open 22 = .ok (.aload_n 0, 1) := by decide +kernel
theorem dX4_open_23 : decode cX4_open 23 = .ok (.getfield 19, 3) := by decide +kernel
theorem dX4_open_26 : decode cX4_open 26 = .ok (.invokevirtual 129, 3) := by decide +kernel
theorem dX4_open_29 : decode cX4_open 29 = .ok (.if_icmp .ge 30, 3) := by decide +kernel
theorem dX4_open_32 : decode cX4_open 32 = .ok (.aload_n 0, 1) := by decide +kernel
theorem dX4_open_33 : decode cX4_open 33 = .ok (.getfield 33, 3) := by decide +kernel
theorem dX4_open_36 : decode cX4_open 36 = .ok (.iload_n 3, 1) := by decide +kernel
theorem dX4_open_37 : decode cX4_open 37 = .ok (.invokevirtual 132, 3) := by decide +kernel
theorem dX4_open_40 : decode cX4_open 40 = .ok (.iload_n 1, 1) := by decide +kernel
theorem dX4_open_41 : decode cX4_open 41 = .ok (.invokestatic 135, 3) := by decide +kernel
theorem dX4_open_44 : decode cX4_open 44 = .ok (.ifCond .eq 9, 3) := by decide +kernel
theorem dX4_open_47 : decode cX4_open 47 = .ok (.iload_n 2, 1) := by decide +kernel
theorem dX4_open_48 : decode cX4_open 48 = .ok (.iconst 1, 1) := by decide +kernel
theorem dX4_open_49 : decode cX4_open 49 = .ok (.iload_n 3, 1) := by decide +kernel
theorem dX4_open_50 : decode cX4_open 50 = .ok (.ishl, 1) := by decide +kernel
theorem dX4_open_51 : decode cX4_open 51 = .ok (.ior, 1) := by decide +kernel
theorem dX4_open_52 : decode cX4_open 52 = .ok (.istore_n 2, 1) := by decide +kernel
theorem dX4_open_53 : decode cX4_open 53 = .ok (.iinc 3 1, 3) := by decide +kernel
theorem dX4_open_56 : decode cX4_open 56 = .ok (.goto (-35), 3) := by decide +kernel
theorem dX4_open_59 : decode cX4_open 59 = .ok (.iload_n 2, 1) := by decide +kernel
theorem dX4_open_60 : decode cX4_open 60 = .ok (.ireturn, 1) := by decide +kernel
theorem dX4_bears_0 : decode cX4_bears 0 = .ok (.aload_n 0, 1) := by decide +kernel
theorem dX4_bears_1 : decode cX4_bears 1 = .ok (.getfield 10, 3) := by decide +kernel
theorem dX4_bears_4 : decode cX4_bears 4 = .ok (.iload_n 1, 1) := by decide +kernel
theorem dX4_bears_5 : decode cX4_bears 5 = .ok (.invokevirtual 86, 3) := by decide +kernel
theorem dX4_bears_8 : decode cX4_bears 8 = .ok (.ifCond .ne 5, 3) := by decide +kernel
theorem dX4_bears_11 : decode cX4_bears 11 = .ok (.iconst (-1), 1) := by decide +kernel
theorem dX4_bears_12 : decode cX4_bears 12 = .ok (.ireturn, 1) := by decide +kernel
theorem dX4_bears_13 : decode cX4_bears 13 = .ok (.aload_n 0, 1) := by decide +kernel
theorem dX4_bears_14 : decode cX4_bears 14 = .ok (.invokevirtual 115, 3) := by decide +kernel
theorem dX4_bears_17 : decode cX4_bears 17 = .ok (.iconst 0, 1) := by decide +kernel
theorem dX4_bears_18 : decode cX4_bears 18 = .ok (.istore_n 2, 1) := by decide +kernel
theorem dX4_bears_19 : decode cX4_bears 19 = .ok (.iload_n 2, 1) := by decide +kernel
theorem dX4_bears_20 : decode cX4_bears 20 = .ok (.aload_n 0, 1) := by decide +kernel
theorem dX4_bears_21 : decode cX4_bears 21 = .ok (.getfield 19, 3) := by decide +kernel
theorem dX4_bears_24 : decode cX4_bears 24 = .ok (.invokevirtual 129, 3) := by decide +kernel
theorem dX4_bears_27 : decode cX4_bears 27 = .ok (.if_icmp .ge 27, 3) := by decide +kernel
theorem dX4_bears_30 : decode cX4_bears 30 = .ok (.aload_n 0, 1) := by decide +kernel
theorem dX4_bears_31 : decode cX4_bears 31 = .ok (.getfield 33, 3) := by decide +kernel
theorem dX4_bears_34 : decode cX4_bears 34 = .ok (.iload_n 2, 1) := by decide +kernel
theorem dX4_bears_35 : decode cX4_bears 35 = .ok (.invokevirtual 126, 3) := by decide +kernel
theorem dX4_bears_38 : decode cX4_bears 38 = .ok (.iload_n 1, 1) := by decide +kernel
theorem dX4_bears_39 : decode cX4_bears 39 = .ok (.if_icmp .ne 9, 3) := by decide +kernel
theorem dX4_bears_42 : decode cX4_bears 42 = .ok (.aload_n 0, 1) := by decide +kernel
theorem dX4_bears_43 : decode cX4_bears 43 = .ok (.iload_n 2, 1) := by decide +kernel
theorem dX4_bears_44 : decode cX4_bears 44 = .ok (.invokevirtual 138, 3) := by decide +kernel
theorem dX4_bears_47 : decode cX4_bears 47 = .ok (.ireturn, 1) := by decide +kernel
theorem dX4_bears_48 : decode cX4_bears 48 = .ok (.iinc 2 1, 3) := by decide +kernel
theorem dX4_bears_51 : decode cX4_bears 51 = .ok (.goto (-32), 3) := by decide +kernel
theorem dX4_bears_54 : decode cX4_bears 54 = .ok (.iconst (-1), 1) := by decide +kernel
theorem dX4_bears_55 : decode cX4_bears 55 = .ok (.ireturn, 1) := by decide +kernel
theorem dX4_cracked_0 : decode cX4_cracked 0 = .ok (.aload_n 0, 1) := by decide +kernel
theorem dX4_cracked_1 : decode cX4_cracked 1 = .ok (.invokevirtual 115, 3) := by decide +kernel
theorem dX4_cracked_4 : decode cX4_cracked 4 = .ok (.iconst 0, 1) := by decide +kernel
theorem dX4_cracked_5 : decode cX4_cracked 5 = .ok (.istore_n 1, 1) := by decide +kernel
theorem dX4_cracked_6 : decode cX4_cracked 6 = .ok (.iconst 0, 1) := by decide +kernel
theorem dX4_cracked_7 : decode cX4_cracked 7 = .ok (.istore_n 2, 1) := by decide +kernel
theorem dX4_cracked_8 : decode cX4_cracked 8 = .ok (.iload_n 2, 1) := by decide +kernel
theorem dX4_cracked_9 : decode cX4_cracked 9 = .ok (.aload_n 0, 1) := by decide +kernel
theorem dX4_cracked_10 : decode cX4_cracked 10 = .ok (.getfield 19, 3) := by decide +kernel
theorem dX4_cracked_13 : decode cX4_cracked 13 = .ok (.invokevirtual 129, 3) := by decide +kernel
theorem dX4_cracked_16 : decode cX4_cracked 16 = .ok (.if_icmp .ge 53, 3) := by decide +kernel
theorem dX4_cracked_19 : decode cX4_cracked 19 = .ok (.aload_n 0, 1) := by decide +kernel
theorem dX4_cracked_20 : decode cX4_cracked 20 = .ok (.getfield 33, 3) := by decide +kernel
theorem dX4_cracked_23 : decode cX4_cracked 23 = .ok (.iload_n 2, 1) := by decide +kernel
theorem dX4_cracked_24 : decode cX4_cracked 24 = .ok (.invokevirtual 126, 3) := by decide +kernel
theorem dX4_cracked_27 : decode cX4_cracked 27 = .ok (.istore_n 3, 1) := by decide +kernel
theorem dX4_cracked_28 : decode cX4_cracked 28 = .ok (.aload_n 0, 1) := by decide +kernel
theorem dX4_cracked_29 : decode cX4_cracked 29 = .ok (.getfield 10, 3) := by decide +kernel
theorem dX4_cracked_32 : decode cX4_cracked 32 = .ok (.iload_n 3, 1) := by decide +kernel
theorem dX4_cracked_33 : decode cX4_cracked 33 = .ok (.invokevirtual 86, 3) := by decide +kernel
theorem dX4_cracked_36 : decode cX4_cracked 36 = .ok (.ifCond .eq 27, 3) := by decide +kernel
theorem dX4_cracked_39 : decode cX4_cracked 39 = .ok (.aload_n 0, 1) := by decide +kernel
theorem dX4_cracked_40 : decode cX4_cracked 40 = .ok (.iload_n 2, 1) := by decide +kernel
theorem dX4_cracked_41 : decode cX4_cracked 41 = .ok (.invokevirtual 138, 3) := by decide +kernel
theorem dX4_cracked_44 : decode cX4_cracked 44 = .ok (.aload_n 0, 1) := by decide +kernel
theorem dX4_cracked_45 : decode cX4_cracked 45 = .ok (.getfield 10, 3) := by decide +kernel
theorem dX4_cracked_48 : decode cX4_cracked 48 = .ok (.iload_n 3, 1) := by decide +kernel
theorem dX4_cracked_49 : decode cX4_cracked 49 = .ok (.bipush 8, 2) := by decide +kernel
theorem dX4_cracked_51 : decode cX4_cracked 51 = .ok (.invokevirtual 141, 3) := by decide +kernel
theorem dX4_cracked_54 : decode cX4_cracked 54 = .ok (.if_icmp .le 9, 3) := by decide +kernel
theorem dX4_cracked_57 : decode cX4_cracked 57 = .ok (.iload_n 1, 1) := by decide +kernel
theorem dX4_cracked_58 : decode cX4_cracked 58 = .ok (.iconst 1, 1) := by decide +kernel
theorem dX4_cracked_59 : decode cX4_cracked 59 = .ok (.iload_n 3, 1) := by decide +kernel
theorem dX4_cracked_60 : decode cX4_cracked 60 = .ok (.ishl, 1) := by decide +kernel
theorem dX4_cracked_61 : decode cX4_cracked 61 = .ok (.ior, 1) := by decide +kernel
theorem dX4_cracked_62 : decode cX4_cracked 62 = .ok (.istore_n 1, 1) := by decide +kernel
theorem dX4_cracked_63 : decode cX4_cracked 63 = .ok (.iinc 2 1, 3) := by decide +kernel
theorem dX4_cracked_66 : decode cX4_cracked 66 = .ok (.goto (-58), 3) := by decide +kernel
theorem dX4_cracked_69 : decode cX4_cracked 69 = .ok (.iload_n 1, 1) := by decide +kernel
theorem dX4_cracked_70 : decode cX4_cracked 70 = .ok (.ireturn, 1) := by decide +kernel
theorem dX4_setting_0 : decode cX4_setting 0 = .ok (.aload_n 0, 1) := by decide +kernel
theorem dX4_setting_1 : decode cX4_setting 1 = .ok (.invokevirtual 115, 3) := by decide +kernel
theorem dX4_setting_4 : decode cX4_setting 4 = .ok (.iload_n 1, 1) := by decide +kernel
theorem dX4_setting_5 : decode cX4_setting 5 = .ok (.ifCond .lt 24, 3) := by decide +kernel
theorem dX4_setting_8 : decode cX4_setting 8 = .ok (.iload_n 1, 1) := by decide +kernel
theorem dX4_setting_9 : decode cX4_setting 9 = .ok (.aload_n 0, 1) := by decide +kernel
theorem dX4_setting_10 : decode cX4_setting 10 = .ok (.getfield 19, 3) := by decide +kernel
theorem dX4_setting_13 : decode cX4_setting 13 = .ok (.invokevirtual 129, 3) := by decide +kernel
theorem dX4_setting_16 : decode cX4_setting 16 = .ok (.if_icmp .ge 13, 3) := by decide +kernel
theorem dX4_setting_19 : decode cX4_setting 19 = .ok (.aload_n 0, 1) := by decide +kernel
theorem dX4_setting_20 : decode cX4_setting 20 = .ok (.getfield 33, 3) := by decide +kernel
theorem dX4_setting_23 : decode cX4_setting 23 = .ok (.invokevirtual 145, 3) := by decide +kernel
theorem dX4_setting_26 : decode cX4_setting 26 = .ok (.ifCond .ne 5, 3) := by decide +kernel
theorem dX4_setting_29 : decode cX4_setting 29 = .ok (.iconst (-1), 1) := by decide +kernel
theorem dX4_setting_30 : decode cX4_setting 30 = .ok (.ireturn, 1) := by decide +kernel
theorem dX4_setting_31 : decode cX4_setting 31 = .ok (.aload_n 0, 1) := by decide +kernel
theorem dX4_setting_32 : decode cX4_setting 32 = .ok (.getfield 19, 3) := by decide +kernel
theorem dX4_setting_35 : decode cX4_setting 35 = .ok (.iload_n 1, 1) := by decide +kernel
theorem dX4_setting_36 : decode cX4_setting 36 = .ok (.aload_n 0, 1) := by decide +kernel
theorem dX4_setting_37 : decode cX4_setting 37 = .ok (.getfield 44, 3) := by decide +kernel
theorem dX4_setting_40 : decode cX4_setting 40 = .ok (.invokevirtual 148, 3) := by decide +kernel
theorem dX4_setting_43 : decode cX4_setting 43 = .ok (.ireturn, 1) := by decide +kernel
theorem dX4_tall_0 : decode cX4_tall 0 = .ok (.aload_n 0, 1) := by decide +kernel
theorem dX4_tall_1 : decode cX4_tall 1 = .ok (.invokevirtual 115, 3) := by decide +kernel
theorem dX4_tall_4 : decode cX4_tall 4 = .ok (.aload_n 0, 1) := by decide +kernel
theorem dX4_tall_5 : decode cX4_tall 5 = .ok (.getfield 19, 3) := by decide +kernel
theorem dX4_tall_8 : decode cX4_tall 8 = .ok (.iload_n 1, 1) := by decide +kernel
theorem dX4_tall_9 : decode cX4_tall 9 = .ok (.invokevirtual 89, 3) := by decide +kernel
theorem dX4_tall_12 : decode cX4_tall 12 = .ok (.ifCond .eq 13, 3) := by decide +kernel
theorem dX4_tall_15 : decode cX4_tall 15 = .ok (.aload_n 0, 1) := by decide +kernel
theorem dX4_tall_16 : decode cX4_tall 16 = .ok (.getfield 33, 3) := by decide +kernel
theorem dX4_tall_19 : decode cX4_tall 19 = .ok (.invokevirtual 145, 3) := by decide +kernel
theorem dX4_tall_22 : decode cX4_tall 22 = .ok (.ifCond .ne 5, 3) := by decide +kernel
theorem dX4_tall_25 : decode cX4_tall 25 = .ok (.iconst (-1), 1) := by decide +kernel
theorem dX4_tall_26 : decode cX4_tall 26 = .ok (.ireturn, 1) := by decide +kernel
theorem dX4_tall_27 : decode cX4_tall 27 = .ok (.iconst 0, 1) := by decide +kernel
theorem dX4_tall_28 : decode cX4_tall 28 = .ok (.istore_n 2, 1) := by decide +kernel
theorem dX4_tall_29 : decode cX4_tall 29 = .ok (.aload_n 0, 1) := by decide +kernel
theorem dX4_tall_30 : decode cX4_tall 30 = .ok (.getfield 19, 3) := by decide +kernel
theorem dX4_tall_33 : decode cX4_tall 33 = .ok (.iload_n 1, 1) := by decide +kernel
theorem dX4_tall_34 : decode cX4_tall 34 = .ok (.invokevirtual 151, 3) := by decide +kernel
theorem dX4_tall_37 : decode cX4_tall 37 = .ok (.istore_n 3, 1) := by decide +kernel
theorem dX4_tall_38 : decode cX4_tall 38 = .ok (.aload_n 0, 1) := by decide +kernel
theorem dX4_tall_39 : decode cX4_tall 39 = .ok (.getfield 19, 3) := by decide +kernel
theorem dX4_tall_42 : decode cX4_tall 42 = .ok (.iload_n 1, 1) := by decide +kernel
theorem dX4_tall_43 : decode cX4_tall 43 = .ok (.invokevirtual 154, 3) := by decide +kernel
theorem dX4_tall_46 : decode cX4_tall 46 = .ok (.istore 4, 2) := by decide +kernel
theorem dX4_tall_48 : decode cX4_tall 48 = .ok (.iload 4, 2) := by decide +kernel
theorem dX4_tall_50 : decode cX4_tall 50 = .ok (.iload_n 3, 1) := by decide +kernel
theorem dX4_tall_51 : decode cX4_tall 51 = .ok (.if_icmp .ge 25, 3) := by decide +kernel
theorem dX4_tall_54 : decode cX4_tall 54 = .ok (.iload_n 2, 1) := by decide +kernel
theorem dX4_tall_55 : decode cX4_tall 55 = .ok (.aload_n 0, 1) := by decide +kernel
theorem dX4_tall_56 : decode cX4_tall 56 = .ok (.aload_n 0, 1) := by decide +kernel
theorem dX4_tall_57 : decode cX4_tall 57 = .ok (.getfield 33, 3) := by decide +kernel
theorem dX4_tall_60 : decode cX4_tall 60 = .ok (.iload 4, 2) := by decide +kernel
theorem dX4_tall_62 : decode cX4_tall 62 = .ok (.invokevirtual 126, 3) := by decide +kernel
theorem dX4_tall_65 : decode cX4_tall 65 = .ok (.invokevirtual 157, 3) := by decide +kernel
theorem dX4_tall_68 : decode cX4_tall 68 = .ok (.iadd, 1) := by decide +kernel
theorem dX4_tall_69 : decode cX4_tall 69 = .ok (.istore_n 2, 1) := by decide +kernel
theorem dX4_tall_70 : decode cX4_tall 70 = .ok (.iinc 4 1, 3) := by decide +kernel
theorem dX4_tall_73 : decode cX4_tall 73 = .ok (.goto (-25), 3) := by decide +kernel
theorem dX4_tall_76 : decode cX4_tall 76 = .ok (.iload_n 2, 1) := by decide +kernel
theorem dX4_tall_77 : decode cX4_tall 77 = .ok (.ireturn, 1) := by decide +kernel
theorem dX4_told_0 : decode cX4_told 0 = .ok (.aload_n 0, 1) := by decide +kernel
theorem dX4_told_1 : decode cX4_told 1 = .ok (.getfield 10, 3) := by decide +kernel
theorem dX4_told_4 : decode cX4_told 4 = .ok (.iload_n 1, 1) := by decide +kernel
theorem dX4_told_5 : decode cX4_told 5 = .ok (.invokevirtual 86, 3) := by decide +kernel
theorem dX4_told_8 : decode cX4_told 8 = .ok (.ifCond .eq 13, 3) := by decide +kernel
theorem dX4_told_11 : decode cX4_told 11 = .ok (.iload_n 2, 1) := by decide +kernel
theorem dX4_told_12 : decode cX4_told 12 = .ok (.iconst 0, 1) := by decide +kernel
theorem dX4_told_13 : decode cX4_told 13 = .ok (.bipush 8, 2) := by decide +kernel
theorem dX4_told_15 : decode cX4_told 15 = .ok (.invokestatic 55, 3) := by decide +kernel
theorem dX4_told_18 : decode cX4_told 18 = .ok (.ifCond .ne 11, 3) := by decide +kernel
theorem dX4_told_21 : decode cX4_told 21 = .ok (.new 160, 3) := by decide +kernel
theorem dX4_told_24 : decode cX4_told 24 = .ok (.dup, 1) := by decide +kernel
theorem dX4_told_25 : decode cX4_told 25 = .ok (.invokespecial 162, 3) := by decide +kernel
theorem dX4_told_28 : decode cX4_told 28 = .ok (.athrow, 1) := by decide +kernel
theorem dX4_told_29 : decode cX4_told 29 = .ok (.aload_n 0, 1) := by decide +kernel
theorem dX4_told_30 : decode cX4_told 30 = .ok (.getfield 10, 3) := by decide +kernel
theorem dX4_told_33 : decode cX4_told 33 = .ok (.iload_n 1, 1) := by decide +kernel
theorem dX4_told_34 : decode cX4_told 34 = .ok (.iload_n 2, 1) := by decide +kernel
theorem dX4_told_35 : decode cX4_told 35 = .ok (.invokevirtual 141, 3) := by decide +kernel
theorem dX4_told_38 : decode cX4_told 38 = .ok (.ireturn, 1) := by decide +kernel
theorem dX4_place_0 : decode cX4_place 0 = .ok (.aload_n 0, 1) := by decide +kernel
theorem dX4_place_1 : decode cX4_place 1 = .ok (.getfield 19, 3) := by decide +kernel
theorem dX4_place_4 : decode cX4_place 4 = .ok (.iload_n 1, 1) := by decide +kernel
theorem dX4_place_5 : decode cX4_place 5 = .ok (.invokevirtual 97, 3) := by decide +kernel
theorem dX4_place_8 : decode cX4_place 8 = .ok (.ifCond .ne 5, 3) := by decide +kernel
theorem dX4_place_11 : decode cX4_place 11 = .ok (.iconst (-1), 1) := by decide +kernel
theorem dX4_place_12 : decode cX4_place 12 = .ok (.ireturn, 1) := by decide +kernel
theorem dX4_place_13 : decode cX4_place 13 = .ok (.iload_n 2, 1) := by decide +kernel
theorem dX4_place_14 : decode cX4_place 14 = .ok (.tableswitch 62 0 2 #[26, 35, 53], 26) := by decide +kernel
theorem dX4_place_40 : decode cX4_place 40 = .ok (.aload_n 0, 1) := by decide +kernel
theorem dX4_place_41 : decode cX4_place 41 = .ok (.getfield 19, 3) := by decide +kernel
theorem dX4_place_44 : decode cX4_place 44 = .ok (.iload_n 1, 1) := by decide +kernel
theorem dX4_place_45 : decode cX4_place 45 = .ok (.invokevirtual 163, 3) := by decide +kernel
theorem dX4_place_48 : decode cX4_place 48 = .ok (.ireturn, 1) := by decide +kernel
theorem dX4_place_49 : decode cX4_place 49 = .ok (.iload_n 1, 1) := by decide +kernel
theorem dX4_place_50 : decode cX4_place 50 = .ok (.aload_n 0, 1) := by decide +kernel
theorem dX4_place_51 : decode cX4_place 51 = .ok (.getfield 19, 3) := by decide +kernel
theorem dX4_place_54 : decode cX4_place 54 = .ok (.aload_n 0, 1) := by decide +kernel
theorem dX4_place_55 : decode cX4_place 55 = .ok (.getfield 19, 3) := by decide +kernel
theorem dX4_place_58 : decode cX4_place 58 = .ok (.iload_n 1, 1) := by decide +kernel
theorem dX4_place_59 : decode cX4_place 59 = .ok (.invokevirtual 163, 3) := by decide +kernel
theorem dX4_place_62 : decode cX4_place 62 = .ok (.invokevirtual 154, 3) := by decide +kernel
theorem dX4_place_65 : decode cX4_place 65 = .ok (.isub, 1) := by decide +kernel
theorem dX4_place_66 : decode cX4_place 66 = .ok (.ireturn, 1) := by decide +kernel
theorem dX4_place_67 : decode cX4_place 67 = .ok (.aload_n 0, 1) := by decide +kernel
theorem dX4_place_68 : decode cX4_place 68 = .ok (.getfield 26, 3) := by decide +kernel
theorem dX4_place_71 : decode cX4_place 71 = .ok (.iload_n 1, 1) := by decide +kernel
theorem dX4_place_72 : decode cX4_place 72 = .ok (.invokevirtual 100, 3) := by decide +kernel
theorem dX4_place_75 : decode cX4_place 75 = .ok (.ireturn, 1) := by decide +kernel
theorem dX4_place_76 : decode cX4_place 76 = .ok (.iconst (-1), 1) := by decide +kernel
theorem dX4_place_77 : decode cX4_place 77 = .ok (.ireturn, 1) := by decide +kernel
theorem dX4_count_0 : decode cX4_count 0 = .ok (.iload_n 1, 1) := by decide +kernel
theorem dX4_count_1 : decode cX4_count 1 = .ok (.tableswitch 79 0 4 #[35, 43, 51, 59, 71], 35) := by decide +kernel
theorem dX4_count_36 : decode cX4_count 36 = .ok (.aload_n 0, 1) := by decide +kernel
theorem dX4_count_37 : decode cX4_count 37 = .ok (.getfield 10, 3) := by decide +kernel
theorem dX4_count_40 : decode cX4_count 40 = .ok (.invokevirtual 166, 3) := by decide +kernel
theorem dX4_count_43 : decode cX4_count 43 = .ok (.ireturn, 1) := by decide +kernel
theorem dX4_count_44 : decode cX4_count 44 = .ok (.aload_n 0, 1) := by decide +kernel
theorem dX4_count_45 : decode cX4_count 45 = .ok (.getfield 19, 3) := by decide +kernel
theorem dX4_count_48 : decode cX4_count 48 = .ok (.invokevirtual 169, 3) := by decide +kernel
theorem dX4_count_51 : decode cX4_count 51 = .ok (.ireturn, 1) := by decide +kernel
theorem dX4_count_52 : decode cX4_count 52 = .ok (.aload_n 0, 1) := by decide +kernel
theorem dX4_count_53 : decode cX4_count 53 = .ok (.getfield 19, 3) := by decide +kernel
theorem dX4_count_56 : decode cX4_count 56 = .ok (.invokevirtual 129, 3) := by decide +kernel
theorem dX4_count_59 : decode cX4_count 59 = .ok (.ireturn, 1) := by decide +kernel
theorem dX4_count_60 : decode cX4_count 60 = .ok (.aload_n 0, 1) := by decide +kernel
theorem dX4_count_61 : decode cX4_count 61 = .ok (.getfield 10, 3) := by decide +kernel
theorem dX4_count_64 : decode cX4_count 64 = .ok (.aload_n 0, 1) := by decide +kernel
theorem dX4_count_65 : decode cX4_count 65 = .ok (.getfield 37, 3) := by decide +kernel
theorem dX4_count_68 : decode cX4_count 68 = .ok (.invokevirtual 170, 3) := by decide +kernel
theorem dX4_count_71 : decode cX4_count 71 = .ok (.ireturn, 1) := by decide +kernel
theorem dX4_count_72 : decode cX4_count 72 = .ok (.aload_n 0, 1) := by decide +kernel
theorem dX4_count_73 : decode cX4_count 73 = .ok (.getfield 26, 3) := by decide +kernel
theorem dX4_count_76 : decode cX4_count 76 = .ok (.invokevirtual 173, 3) := by decide +kernel
theorem dX4_count_79 : decode cX4_count 79 = .ok (.ireturn, 1) := by decide +kernel
theorem dX4_count_80 : decode cX4_count 80 = .ok (.iconst (-1), 1) := by decide +kernel
theorem dX4_count_81 : decode cX4_count 81 = .ok (.ireturn, 1) := by decide +kernel
theorem dX4_isWithin_0 : decode cX4_isWithin 0 = .ok (.iload_n 0, 1) := by decide +kernel
theorem dX4_isWithin_1 : decode cX4_isWithin 1 = .ok (.iload_n 1, 1) := by decide +kernel
theorem dX4_isWithin_2 : decode cX4_isWithin 2 = .ok (.if_icmp .lt 12, 3) := by decide +kernel
theorem dX4_isWithin_5 : decode cX4_isWithin 5 = .ok (.iload_n 0, 1) := by decide +kernel
theorem dX4_isWithin_6 : decode cX4_isWithin 6 = .ok (.iload_n 2, 1) := by decide +kernel
theorem dX4_isWithin_7 : decode cX4_isWithin 7 = .ok (.if_icmp .gt 7, 3) := by decide +kernel
theorem dX4_isWithin_10 : decode cX4_isWithin 10 = .ok (.iconst 1, 1) := by decide +kernel
theorem dX4_isWithin_11 : decode cX4_isWithin 11 = .ok (.goto 4, 3) := by decide +kernel
theorem dX4_isWithin_14 : decode cX4_isWithin 14 = .ok (.iconst 0, 1) := by decide +kernel
theorem dX4_isWithin_15 : decode cX4_isWithin 15 = .ok (.ireturn, 1) := by decide +kernel
theorem dX4_isWidth_0 : decode cX4_isWidth 0 = .ok (.iload_n 0, 1) := by decide +kernel
theorem dX4_isWidth_1 : decode cX4_isWidth 1 = .ok (.bipush 100, 2) := by decide +kernel
theorem dX4_isWidth_3 : decode cX4_isWidth 3 = .ok (.sipush 3000, 3) := by decide +kernel
theorem dX4_isWidth_6 : decode cX4_isWidth 6 = .ok (.invokestatic 55, 3) := by decide +kernel
theorem dX4_isWidth_9 : decode cX4_isWidth 9 = .ok (.ireturn, 1) := by decide +kernel
theorem dX4_isWidthOrUntold_0 : decode cX4_isWidthOrUntold 0 = .ok (.iload_n 0, 1) := by decide +kernel
theorem dX4_isWidthOrUntold_1 : decode cX4_isWidthOrUntold 1 = .ok (.ifCond .eq 10, 3) := by decide +kernel
theorem dX4_isWidthOrUntold_4 : decode cX4_isWidthOrUntold 4 = .ok (.iload_n 0, 1) := by decide +kernel
theorem dX4_isWidthOrUntold_5 : decode cX4_isWidthOrUntold 5 = .ok (.invokestatic 51, 3) := by decide +kernel
theorem dX4_isWidthOrUntold_8 : decode cX4_isWidthOrUntold 8 = .ok (.ifCond .eq 7, 3) := by decide +kernel
theorem dX4_isWidthOrUntold_11 : decode cX4_isWidthOrUntold 11 = .ok (.iconst 1, 1) := by decide +kernel
theorem dX4_isWidthOrUntold_12 : decode cX4_isWidthOrUntold 12 = .ok (.goto 4, 3) := by decide +kernel
theorem dX4_isWidthOrUntold_15 : decode cX4_isWidthOrUntold 15 = .ok (.iconst 0, 1) := by decide +kernel
theorem dX4_isWidthOrUntold_16 : decode cX4_isWidthOrUntold 16 = .ok (.ireturn, 1) := by decide +kernel
theorem dX4_isHoles_0 : decode cX4_isHoles 0 = .ok (.iload_n 0, 1) := by decide +kernel
theorem dX4_isHoles_1 : decode cX4_isHoles 1 = .ok (.iconst 0, 1) := by decide +kernel
theorem dX4_isHoles_2 : decode cX4_isHoles 2 = .ok (.ldc 176, 2) := by decide +kernel
theorem dX4_isHoles_4 : decode cX4_isHoles 4 = .ok (.invokestatic 55, 3) := by decide +kernel
theorem dX4_isHoles_7 : decode cX4_isHoles 7 = .ok (.ireturn, 1) := by decide +kernel
theorem dX4_hasBit_0 : decode cX4_hasBit 0 = .ok (.iload_n 0, 1) := by decide +kernel
theorem dX4_hasBit_1 : decode cX4_hasBit 1 = .ok (.iload_n 1, 1) := by decide +kernel
theorem dX4_hasBit_2 : decode cX4_hasBit 2 = .ok (.ishr, 1) := by decide +kernel
theorem dX4_hasBit_3 : decode cX4_hasBit 3 = .ok (.iconst 1, 1) := by decide +kernel
theorem dX4_hasBit_4 : decode cX4_hasBit 4 = .ok (.iand, 1) := by decide +kernel
theorem dX4_hasBit_5 : decode cX4_hasBit 5 = .ok (.ifCond .eq 7, 3) := by decide +kernel
theorem dX4_hasBit_8 : decode cX4_hasBit 8 = .ok (.iconst 1, 1) := by decide +kernel
theorem dX4_hasBit_9 : decode cX4_hasBit 9 = .ok (.goto 4, 3) := by decide +kernel
theorem dX4_hasBit_12 : decode cX4_hasBit 12 = .ok (.iconst 0, 1) := by decide +kernel
theorem dX4_hasBit_13 : decode cX4_hasBit 13 = .ok (.ireturn, 1) := by decide +kernel
theorem dX4_fitsFoot_0 : decode cX4_fitsFoot 0 = .ok (.aload_n 0, 1) := by decide +kernel
theorem dX4_fitsFoot_1 : decode cX4_fitsFoot 1 = .ok (.iload_n 1, 1) := by decide +kernel
theorem dX4_fitsFoot_2 : decode cX4_fitsFoot 2 = .ok (.aload_n 0, 1) := by decide +kernel
theorem dX4_fitsFoot_3 : decode cX4_fitsFoot 3 = .ok (.getfield 10, 3) := by decide +kernel
theorem dX4_fitsFoot_6 : decode cX4_fitsFoot 6 = .ok (.iload_n 1, 1) := by decide +kernel
theorem dX4_fitsFoot_7 : decode cX4_fitsFoot 7 = .ok (.iconst 0, 1) := by decide +kernel
theorem dX4_fitsFoot_8 : decode cX4_fitsFoot 8 = .ok (.invokevirtual 141, 3) := by decide +kernel
theorem dX4_fitsFoot_11 : decode cX4_fitsFoot 11 = .ok (.aload_n 0, 1) := by decide +kernel
theorem dX4_fitsFoot_12 : decode cX4_fitsFoot 12 = .ok (.getfield 19, 3) := by decide +kernel
theorem dX4_fitsFoot_15 : decode cX4_fitsFoot 15 = .ok (.iload_n 2, 1) := by decide +kernel
theorem dX4_fitsFoot_16 : decode cX4_fitsFoot 16 = .ok (.invokevirtual 177, 3) := by decide +kernel
theorem dX4_fitsFoot_19 : decode cX4_fitsFoot 19 = .ok (.invokevirtual 180, 3) := by decide +kernel
theorem dX4_fitsFoot_22 : decode cX4_fitsFoot 22 = .ok (.ireturn, 1) := by decide +kernel
theorem dX4_fitsHead_0 : decode cX4_fitsHead 0 = .ok (.aload_n 0, 1) := by decide +kernel
theorem dX4_fitsHead_1 : decode cX4_fitsHead 1 = .ok (.iload_n 1, 1) := by decide +kernel
theorem dX4_fitsHead_2 : decode cX4_fitsHead 2 = .ok (.aload_n 0, 1) := by decide +kernel
theorem dX4_fitsHead_3 : decode cX4_fitsHead 3 = .ok (.getfield 10, 3) := by decide +kernel
theorem dX4_fitsHead_6 : decode cX4_fitsHead 6 = .ok (.iload_n 1, 1) := by decide +kernel
theorem dX4_fitsHead_7 : decode cX4_fitsHead 7 = .ok (.iconst 1, 1) := by decide +kernel
theorem dX4_fitsHead_8 : decode cX4_fitsHead 8 = .ok (.invokevirtual 141, 3) := by decide +kernel
theorem dX4_fitsHead_11 : decode cX4_fitsHead 11 = .ok (.aload_n 0, 1) := by decide +kernel
theorem dX4_fitsHead_12 : decode cX4_fitsHead 12 = .ok (.getfield 19, 3) := by decide +kernel
theorem dX4_fitsHead_15 : decode cX4_fitsHead 15 = .ok (.iload_n 2, 1) := by decide +kernel
theorem dX4_fitsHead_16 : decode cX4_fitsHead 16 = .ok (.invokevirtual 183, 3) := by decide +kernel
theorem dX4_fitsHead_19 : decode cX4_fitsHead 19 = .ok (.invokevirtual 180, 3) := by decide +kernel
theorem dX4_fitsHead_22 : decode cX4_fitsHead 22 = .ok (.ireturn, 1) := by decide +kernel
theorem dX4_agrees_0 : decode cX4_agrees 0 = .ok (.iload_n 3, 1) := by decide +kernel
theorem dX4_agrees_1 : decode cX4_agrees 1 = .ok (.ifCond .eq 26, 3) := by decide +kernel
theorem dX4_agrees_4 : decode cX4_agrees 4 = .ok (.iload_n 2, 1) := by decide +kernel
theorem dX4_agrees_5 : decode cX4_agrees 5 = .ok (.iload_n 3, 1) := by decide +kernel
theorem dX4_agrees_6 : decode cX4_agrees 6 = .ok (.isub, 1) := by decide +kernel
theorem dX4_agrees_7 : decode cX4_agrees 7 = .ok (.invokestatic 186, 3) := by decide +kernel
theorem dX4_agrees_10 : decode cX4_agrees 10 = .ok (.aload_n 0, 1) := by decide +kernel
theorem dX4_agrees_11 : decode cX4_agrees 11 = .ok (.getfield 10, 3) := by decide +kernel
theorem dX4_agrees_14 : decode cX4_agrees 14 = .ok (.iload_n 1, 1) := by decide +kernel
theorem dX4_agrees_15 : decode cX4_agrees 15 = .ok (.iconst 2, 1) := by decide +kernel
theorem dX4_agrees_16 : decode cX4_agrees 16 = .ok (.invokevirtual 141, 3) := by decide +kernel
theorem dX4_agrees_19 : decode cX4_agrees 19 = .ok (.aload_n 0, 1) := by decide +kernel
theorem dX4_agrees_20 : decode cX4_agrees 20 = .ok (.getfield 37, 3) := by decide +kernel
theorem dX4_agrees_23 : decode cX4_agrees 23 = .ok (.iadd, 1) := by decide +kernel
theorem dX4_agrees_24 : decode cX4_agrees 24 = .ok (.if_icmp .gt 7, 3) := by decide +kernel
theorem dX4_agrees_27 : decode cX4_agrees 27 = .ok (.iconst 1, 1) := by decide +kernel
theorem dX4_agrees_28 : decode cX4_agrees 28 = .ok (.goto 4, 3) := by decide +kernel
theorem dX4_agrees_31 : decode cX4_agrees 31 = .ok (.iconst 0, 1) := by decide +kernel
theorem dX4_agrees_32 : decode cX4_agrees 32 = .ok (.ireturn, 1) := by decide +kernel
theorem dX4_loadOver_0 : decode cX4_loadOver 0 = .ok (.iconst 0, 1) := by decide +kernel
theorem dX4_loadOver_1 : decode cX4_loadOver 1 = .ok (.istore_n 2, 1) := by decide +kernel
theorem dX4_loadOver_2 : decode cX4_loadOver 2 = .ok (.aload_n 0, 1) := by decide +kernel
theorem dX4_loadOver_3 : decode cX4_loadOver 3 = .ok (.getfield 19, 3) := by decide +kernel
theorem dX4_loadOver_6 : decode cX4_loadOver 6 = .ok (.aload_n 0, 1) := by decide +kernel
theorem dX4_loadOver_7 : decode cX4_loadOver 7 = .ok (.getfield 19, 3) := by decide +kernel
theorem dX4_loadOver_10 : decode cX4_loadOver 10 = .ok (.iload_n 1, 1) := by decide +kernel
theorem dX4_loadOver_11 : decode cX4_loadOver 11 = .ok (.invokevirtual 163, 3) := by decide +kernel
theorem dX4_loadOver_14 : decode cX4_loadOver 14 = .ok (.invokevirtual 151, 3) := by decide +kernel
theorem dX4_loadOver_17 : decode cX4_loadOver 17 = .ok (.istore_n 3, 1) := by decide +kernel
theorem dX4_loadOver_18 : decode cX4_loadOver 18 = .ok (.iload_n 1, 1) := by decide +kernel
theorem dX4_loadOver_19 : decode cX4_loadOver 19 = .ok (.iconst 1, 1) := by decide +kernel
theorem dX4_loadOver_20 : decode cX4_loadOver 20 = .ok (.iadd, 1) := by decide +kernel
theorem dX4_loadOver_21 : decode cX4_loadOver 21 = .ok (.istore 4, 2) := by decide +kernel
theorem dX4_loadOver_23 : decode cX4_loadOver 23 = .ok (.iload 4, 2) := by decide +kernel
theorem dX4_loadOver_25 : decode cX4_loadOver 25 = .ok (.iload_n 3, 1) := by decide +kernel
theorem dX4_loadOver_26 : decode cX4_loadOver 26 = .ok (.if_icmp .ge 48, 3) := by decide +kernel
theorem dX4_loadOver_29 : decode cX4_loadOver 29 = .ok (.aload_n 0, 1) := by decide +kernel
theorem dX4_loadOver_30 : decode cX4_loadOver 30 = .ok (.getfield 33, 3) := by decide +kernel
theorem dX4_loadOver_33 : decode cX4_loadOver 33 = .ok (.iload 4, 2) := by decide +kernel
theorem dX4_loadOver_35 : decode cX4_loadOver 35 = .ok (.invokevirtual 126, 3) := by decide +kernel
theorem dX4_loadOver_38 : decode cX4_loadOver 38 = .ok (.istore 5, 2) := by decide +kernel
theorem dX4_loadOver_40 : decode cX4_loadOver 40 = .ok (.iload_n 2, 1) := by decide +kernel
theorem dX4_loadOver_41 : decode cX4_loadOver 41 = .ok (.iload 5, 2) := by decide +kernel
theorem dX4_loadOver_43 : decode cX4_loadOver 43 = .ok (.bipush 10, 2) := by decide +kernel
theorem dX4_loadOver_45 : decode cX4_loadOver 45 = .ok (.if_icmp .ne 10, 3) := by decide +kernel
theorem dX4_loadOver_48 : decode cX4_loadOver 48 = .ok (.aload_n 0, 1) := by decide +kernel
theorem dX4_loadOver_49 : decode cX4_loadOver 49 = .ok (.getfield 41, 3) := by decide +kernel
theorem dX4_loadOver_52 : decode cX4_loadOver 52 = .ok (.goto 14, 3) := by decide +kernel
theorem dX4_loadOver_55 : decode cX4_loadOver 55 = .ok (.aload_n 0, 1) := by decide +kernel
theorem dX4_loadOver_56 : decode cX4_loadOver 56 = .ok (.getfield 10, 3) := by decide +kernel
theorem dX4_loadOver_59 : decode cX4_loadOver 59 = .ok (.iload 5, 2) := by decide +kernel
theorem dX4_loadOver_61 : decode cX4_loadOver 61 = .ok (.bipush 7, 2) := by decide +kernel
theorem dX4_loadOver_63 : decode cX4_loadOver 63 = .ok (.invokevirtual 141, 3) := by decide +kernel
theorem dX4_loadOver_66 : decode cX4_loadOver 66 = .ok (.iadd, 1) := by decide +kernel
theorem dX4_loadOver_67 : decode cX4_loadOver 67 = .ok (.istore_n 2, 1) := by decide +kernel
theorem dX4_loadOver_68 : decode cX4_loadOver 68 = .ok (.iinc 4 1, 3) := by decide +kernel
theorem dX4_loadOver_71 : decode cX4_loadOver 71 = .ok (.goto (-48), 3) := by decide +kernel
theorem dX4_loadOver_74 : decode cX4_loadOver 74 = .ok (.iload_n 2, 1) := by decide +kernel
theorem dX4_loadOver_75 : decode cX4_loadOver 75 = .ok (.ireturn, 1) := by decide +kernel
theorem dX4_heightOf_0 : decode cX4_heightOf 0 = .ok (.iload_n 1, 1) := by decide +kernel
theorem dX4_heightOf_1 : decode cX4_heightOf 1 = .ok (.bipush 10, 2) := by decide +kernel
theorem dX4_heightOf_3 : decode cX4_heightOf 3 = .ok (.if_icmp .ne 13, 3) := by decide +kernel
theorem dX4_heightOf_6 : decode cX4_heightOf 6 = .ok (.aload_n 0, 1) := by decide +kernel
theorem dX4_heightOf_7 : decode cX4_heightOf 7 = .ok (.getfield 10, 3) := by decide +kernel
theorem dX4_heightOf_10 : decode cX4_heightOf 10 = .ok (.invokevirtual 191, 3) := by decide +kernel
theorem dX4_heightOf_13 : decode cX4_heightOf 13 = .ok (.goto 12, 3) := by decide +kernel
theorem dX4_heightOf_16 : decode cX4_heightOf 16 = .ok (.aload_n 0, 1) := by decide +kernel
theorem dX4_heightOf_17 : decode cX4_heightOf 17 = .ok (.getfield 10, 3) := by decide +kernel
theorem dX4_heightOf_20 : decode cX4_heightOf 20 = .ok (.iload_n 1, 1) := by decide +kernel
theorem dX4_heightOf_21 : decode cX4_heightOf 21 = .ok (.iconst 3, 1) := by decide +kernel
theorem dX4_heightOf_22 : decode cX4_heightOf 22 = .ok (.invokevirtual 141, 3) := by decide +kernel
theorem dX4_heightOf_25 : decode cX4_heightOf 25 = .ok (.ireturn, 1) := by decide +kernel
theorem dX4_drawPaper_0 : decode cX4_drawPaper 0 = .ok (.aload_n 0, 1) := by decide +kernel
theorem dX4_drawPaper_1 : decode cX4_drawPaper 1 = .ok (.getfield 47, 3) := by decide +kernel
theorem dX4_drawPaper_4 : decode cX4_drawPaper 4 = .ok (.ifCond .ne 4, 3) := by decide +kernel
theorem dX4_drawPaper_7 : decode cX4_drawPaper 7 = .ok (.return_, 1) := by decide +kernel
theorem dX4_drawPaper_8 : decode cX4_drawPaper 8 = .ok (.aload_n 0, 1) := by decide +kernel
theorem dX4_drawPaper_9 : decode cX4_drawPaper 9 = .ok (.getfield 33, 3) := by decide +kernel
theorem dX4_drawPaper_12 : decode cX4_drawPaper 12 = .ok (.aload_n 0, 1) := by decide +kernel
theorem dX4_drawPaper_13 : decode cX4_drawPaper 13 = .ok (.getfield 19, 3) := by decide +kernel
theorem dX4_drawPaper_16 : decode cX4_drawPaper 16 = .ok (.invokevirtual 129, 3) := by decide +kernel
theorem dX4_drawPaper_19 : decode cX4_drawPaper 19 = .ok (.invokevirtual 194, 3) := by decide +kernel
theorem dX4_drawPaper_22 : decode cX4_drawPaper 22 = .ok (.iconst 0, 1) := by decide +kernel
theorem dX4_drawPaper_23 : decode cX4_drawPaper 23 = .ok (.istore_n 1, 1) := by decide +kernel
theorem dX4_drawPaper_24 : decode cX4_drawPaper 24 = .ok (.iload_n 1, 1) := by decide +kernel
theorem dX4_drawPaper_25 : decode cX4_drawPaper 25 = .ok (.aload_n 0, 1) := by decide +kernel
theorem dX4_drawPaper_26 : decode cX4_drawPaper 26 = .ok (.getfield 10, 3) := by decide +kernel
theorem dX4_drawPaper_29 : decode cX4_drawPaper 29 = .ok (.invokevirtual 166, 3) := by decide +kernel
theorem dX4_drawPaper_32 : decode cX4_drawPaper 32 = .ok (.if_icmp .ge 29, 3) := by decide +kernel
theorem dX4_drawPaper_35 : decode cX4_drawPaper 35 = .ok (.aload_n 0, 1) := by decide +kernel
theorem dX4_drawPaper_36 : decode cX4_drawPaper 36 = .ok (.getfield 33, 3) := by decide +kernel
theorem dX4_drawPaper_39 : decode cX4_drawPaper 39 = .ok (.iload_n 1, 1) := by decide +kernel
theorem dX4_drawPaper_40 : decode cX4_drawPaper 40 = .ok (.aload_n 0, 1) := by decide +kernel
theorem dX4_drawPaper_41 : decode cX4_drawPaper 41 = .ok (.getfield 10, 3) := by decide +kernel
theorem dX4_drawPaper_44 : decode cX4_drawPaper 44 = .ok (.iload_n 1, 1) := by decide +kernel
theorem dX4_drawPaper_45 : decode cX4_drawPaper 45 = .ok (.aload_n 0, 1) := by decide +kernel
theorem dX4_drawPaper_46 : decode cX4_drawPaper 46 = .ok (.getfield 37, 3) := by decide +kernel
theorem dX4_drawPaper_49 : decode cX4_drawPaper 49 = .ok (.invokevirtual 198, 3) := by decide +kernel
theorem dX4_drawPaper_52 : decode cX4_drawPaper 52 = .ok (.invokevirtual 201, 3) := by decide +kernel
theorem dX4_drawPaper_55 : decode cX4_drawPaper 55 = .ok (.iinc 1 1, 3) := by decide +kernel
theorem dX4_drawPaper_58 : decode cX4_drawPaper 58 = .ok (.goto (-34), 3) := by decide +kernel
theorem dX4_drawPaper_61 : decode cX4_drawPaper 61 = .ok (.iconst 0, 1) := by decide +kernel
theorem dX4_drawPaper_62 : decode cX4_drawPaper 62 = .ok (.istore_n 1, 1) := by decide +kernel
theorem dX4_drawPaper_63 : decode cX4_drawPaper 63 = .ok (.iload_n 1, 1) := by decide +kernel
theorem dX4_drawPaper_64 : decode cX4_drawPaper 64 = .ok (.aload_n 0, 1) := by decide +kernel
theorem dX4_drawPaper_65 : decode cX4_drawPaper 65 = .ok (.getfield 19, 3) := by decide +kernel
theorem dX4_drawPaper_68 : decode cX4_drawPaper 68 = .ok (.invokevirtual 129, 3) := by decide +kernel
theorem dX4_drawPaper_71 : decode cX4_drawPaper 71 = .ok (.if_icmp .ge 30, 3) := by decide +kernel
theorem dX4_drawPaper_74 : decode cX4_drawPaper 74 = .ok (.aload_n 0, 1) := by decide +kernel
theorem dX4_drawPaper_75 : decode cX4_drawPaper 75 = .ok (.getfield 33, 3) := by decide +kernel
theorem dX4_drawPaper_78 : decode cX4_drawPaper 78 = .ok (.iload_n 1, 1) := by decide +kernel
theorem dX4_drawPaper_79 : decode cX4_drawPaper 79 = .ok (.aload_n 0, 1) := by decide +kernel
theorem dX4_drawPaper_80 : decode cX4_drawPaper 80 = .ok (.iload_n 1, 1) := by decide +kernel
theorem dX4_drawPaper_81 : decode cX4_drawPaper 81 = .ok (.invokevirtual 204, 3) := by decide +kernel
theorem dX4_drawPaper_84 : decode cX4_drawPaper 84 = .ok (.aload_n 0, 1) := by decide +kernel
theorem dX4_drawPaper_85 : decode cX4_drawPaper 85 = .ok (.getfield 19, 3) := by decide +kernel
theorem dX4_drawPaper_88 : decode cX4_drawPaper 88 = .ok (.iload_n 1, 1) := by decide +kernel
theorem dX4_drawPaper_89 : decode cX4_drawPaper 89 = .ok (.invokevirtual 207, 3) := by decide +kernel
theorem dX4_drawPaper_92 : decode cX4_drawPaper 92 = .ok (.invokevirtual 210, 3) := by decide +kernel
theorem dX4_drawPaper_95 : decode cX4_drawPaper 95 = .ok (.iinc 1 1, 3) := by decide +kernel
theorem dX4_drawPaper_98 : decode cX4_drawPaper 98 = .ok (.goto (-35), 3) := by decide +kernel
theorem dX4_drawPaper_101 : decode cX4_drawPaper 101 = .ok (.aload_n 0, 1) := by decide +kernel
theorem dX4_drawPaper_102 : decode cX4_drawPaper 102 = .ok (.getfield 33, 3) := by decide +kernel
theorem dX4_drawPaper_105 : decode cX4_drawPaper 105 = .ok (.invokevirtual 213, 3) := by decide +kernel
theorem dX4_drawPaper_108 : decode cX4_drawPaper 108 = .ok (.aload_n 0, 1) := by decide +kernel
theorem dX4_drawPaper_109 : decode cX4_drawPaper 109 = .ok (.iconst 0, 1) := by decide +kernel
theorem dX4_drawPaper_110 : decode cX4_drawPaper 110 = .ok (.putfield 47, 3) := by decide +kernel
theorem dX4_drawPaper_113 : decode cX4_drawPaper 113 = .ok (.return_, 1) := by decide +kernel
theorem dX4_itemsAllowedAt_0 : decode cX4_itemsAllowedAt 0 = .ok (.aload_n 0, 1) := by decide +kernel
theorem dX4_itemsAllowedAt_1 : decode cX4_itemsAllowedAt 1 = .ok (.getfield 19, 3) := by decide +kernel
theorem dX4_itemsAllowedAt_4 : decode cX4_itemsAllowedAt 4 = .ok (.iload_n 1, 1) := by decide +kernel
theorem dX4_itemsAllowedAt_5 : decode cX4_itemsAllowedAt 5 = .ok (.invokevirtual 163, 3) := by decide +kernel
theorem dX4_itemsAllowedAt_8 : decode cX4_itemsAllowedAt 8 = .ok (.istore_n 2, 1) := by decide +kernel
theorem dX4_itemsAllowedAt_9 : decode cX4_itemsAllowedAt 9 = .ok (.sipush 1024, 3) := by decide +kernel
theorem dX4_itemsAllowedAt_12 : decode cX4_itemsAllowedAt 12 = .ok (.istore_n 3, 1) := by decide +kernel
theorem dX4_itemsAllowedAt_13 : decode cX4_itemsAllowedAt 13 = .ok (.iconst 0, 1) := by decide +kernel
theorem dX4_itemsAllowedAt_14 : decode cX4_itemsAllowedAt 14 = .ok (.istore 4, 2) := by decide +kernel
theorem dX4_itemsAllowedAt_16 : decode cX4_itemsAllowedAt 16 = .ok (.iload 4, 2) := by decide +kernel
theorem dX4_itemsAllowedAt_18 : decode cX4_itemsAllowedAt 18 = .ok (.aload_n 0, 1) := by decide +kernel
theorem dX4_itemsAllowedAt_19 : decode cX4_itemsAllowedAt 19 = .ok (.getfield 10, 3) := by decide +kernel
theorem dX4_itemsAllowedAt_22 : decode cX4_itemsAllowedAt 22 = .ok (.invokevirtual 166, 3) := by decide +kernel
theorem dX4_itemsAllowedAt_25 : decode cX4_itemsAllowedAt 25 = .ok (.if_icmp .ge 71, 3) := by decide +kernel
theorem dX4_itemsAllowedAt_28 : decode cX4_itemsAllowedAt 28 = .ok (.aload_n 0, 1) := by decide +kernel
theorem dX4_itemsAllowedAt_29 : decode cX4_itemsAllowedAt 29 = .ok (.getfield 26, 3) := by decide +kernel
theorem dX4_itemsAllowedAt_32 : decode cX4_itemsAllowedAt 32 = .ok (.iload_n 1, 1) := by decide +kernel
theorem dX4_itemsAllowedAt_33 : decode cX4_itemsAllowedAt 33 = .ok (.iload 4, 2) := by decide +kernel
theorem dX4_itemsAllowedAt_35 : decode cX4_itemsAllowedAt 35 = .ok (.invokevirtual 108, 3) := by decide +kernel
theorem dX4_itemsAllowedAt_38 : decode cX4_itemsAllowedAt 38 = .ok (.ifCond .ne 52, 3) := by decide +kernel
theorem dX4_itemsAllowedAt_41 : decode cX4_itemsAllowedAt 41 = .ok (.aload_n 0, 1) := by decide +kernel
theorem dX4_itemsAllowedAt_42 : decode cX4_itemsAllowedAt 42 = .ok (.getfield 19, 3) := by decide +kernel
theorem dX4_itemsAllowedAt_45 : decode cX4_itemsAllowedAt 45 = .ok (.iload_n 1, 1) := by decide +kernel
theorem dX4_itemsAllowedAt_46 : decode cX4_itemsAllowedAt 46 = .ok (.invokevirtual 216, 3) := by decide +kernel
theorem dX4_itemsAllowedAt_49 : decode cX4_itemsAllowedAt 49 = .ok (.ifCond .eq 13, 3) := by decide +kernel
theorem dX4_itemsAllowedAt_52 : decode cX4_itemsAllowedAt 52 = .ok (.aload_n 0, 1) := by decide +kernel
theorem dX4_itemsAllowedAt_53 : decode cX4_itemsAllowedAt 53 = .ok (.iload 4, 2) := by decide +kernel
theorem dX4_itemsAllowedAt_55 : decode cX4_itemsAllowedAt 55 = .ok (.iload_n 2, 1) := by decide +kernel
theorem dX4_itemsAllowedAt_56 : decode cX4_itemsAllowedAt 56 = .ok (.invokevirtual 90, 3) := by decide +kernel
theorem dX4_itemsAllowedAt_59 : decode cX4_itemsAllowedAt 59 = .ok (.ifCond .eq 31, 3) := by decide +kernel
theorem dX4_itemsAllowedAt_62 : decode cX4_itemsAllowedAt 62 = .ok (.aload_n 0, 1) := by decide +kernel
theorem dX4_itemsAllowedAt_63 : decode cX4_itemsAllowedAt 63 = .ok (.getfield 19, 3) := by decide +kernel
theorem dX4_itemsAllowedAt_66 : decode cX4_itemsAllowedAt 66 = .ok (.iload_n 1, 1) := by decide +kernel
theorem dX4_itemsAllowedAt_67 : decode cX4_itemsAllowedAt 67 = .ok (.invokevirtual 207, 3) := by decide +kernel
theorem dX4_itemsAllowedAt_70 : decode cX4_itemsAllowedAt 70 = .ok (.ifCond .eq 13, 3) := by decide +kernel
theorem dX4_itemsAllowedAt_73 : decode cX4_itemsAllowedAt 73 = .ok (.aload_n 0, 1) := by decide +kernel
theorem dX4_itemsAllowedAt_74 : decode cX4_itemsAllowedAt 74 = .ok (.iload 4, 2) := by decide +kernel
theorem dX4_itemsAllowedAt_76 : decode cX4_itemsAllowedAt 76 = .ok (.iload_n 2, 1) := by decide +kernel
theorem dX4_itemsAllowedAt_77 : decode cX4_itemsAllowedAt 77 = .ok (.invokevirtual 94, 3) := by decide +kernel
theorem dX4_itemsAllowedAt_80 : decode cX4_itemsAllowedAt 80 = .ok (.ifCond .eq 10, 3) := by decide +kernel
theorem dX4_itemsAllowedAt_83 : decode cX4_itemsAllowedAt 83 = .ok (.iload_n 3, 1) := by decide +kernel
theorem dX4_itemsAllowedAt_84 : decode cX4_itemsAllowedAt 84 = .ok (.iconst 1, 1) := by decide +kernel
theorem dX4_itemsAllowedAt_85 : decode cX4_itemsAllowedAt 85 = .ok (.iload 4, 2) := by decide +kernel
theorem dX4_itemsAllowedAt_87 : decode cX4_itemsAllowedAt 87 = .ok (.ishl, 1) := by decide +kernel
theorem dX4_itemsAllowedAt_88 : decode cX4_itemsAllowedAt 88 = .ok (.ior, 1) := by decide +kernel
theorem dX4_itemsAllowedAt_89 : decode cX4_itemsAllowedAt 89 = .ok (.istore_n 3, 1) := by decide +kernel
theorem dX4_itemsAllowedAt_90 : decode cX4_itemsAllowedAt 90 = .ok (.iinc 4 1, 3) := by decide +kernel
theorem dX4_itemsAllowedAt_93 : decode cX4_itemsAllowedAt 93 = .ok (.goto (-77), 3) := by decide +kernel
theorem dX4_itemsAllowedAt_96 : decode cX4_itemsAllowedAt 96 = .ok (.aload_n 0, 1) := by decide +kernel
theorem dX4_itemsAllowedAt_97 : decode cX4_itemsAllowedAt 97 = .ok (.getfield 26, 3) := by decide +kernel
theorem dX4_itemsAllowedAt_100 : decode cX4_itemsAllowedAt 100 = .ok (.iload_n 1, 1) := by decide +kernel
theorem dX4_itemsAllowedAt_101 : decode cX4_itemsAllowedAt 101 = .ok (.invokevirtual 100, 3) := by decide +kernel
theorem dX4_itemsAllowedAt_104 : decode cX4_itemsAllowedAt 104 = .ok (.istore 4, 2) := by decide +kernel
theorem dX4_itemsAllowedAt_106 : decode cX4_itemsAllowedAt 106 = .ok (.iload 4, 2) := by decide +kernel
theorem dX4_itemsAllowedAt_108 : decode cX4_itemsAllowedAt 108 = .ok (.iconst (-1), 1) := by decide +kernel
theorem dX4_itemsAllowedAt_109 : decode cX4_itemsAllowedAt 109 = .ok (.if_icmp .ne 7, 3) := by decide +kernel
theorem dX4_itemsAllowedAt_112 : decode cX4_itemsAllowedAt 112 = .ok (.iload_n 3, 1) := by decide +kernel
theorem dX4_itemsAllowedAt_113 : decode cX4_itemsAllowedAt 113 = .ok (.goto 9, 3) := by decide +kernel
theorem dX4_itemsAllowedAt_116 : decode cX4_itemsAllowedAt 116 = .ok (.iload_n 3, 1) := by decide +kernel
theorem dX4_itemsAllowedAt_117 : decode cX4_itemsAllowedAt 117 = .ok (.iconst 1, 1) := by decide +kernel
theorem dX4_itemsAllowedAt_118 : decode cX4_itemsAllowedAt 118 = .ok (.iload 4, 2) := by decide +kernel
theorem dX4_itemsAllowedAt_120 : decode cX4_itemsAllowedAt 120 = .ok (.ishl, 1) := by decide +kernel
theorem dX4_itemsAllowedAt_121 : decode cX4_itemsAllowedAt 121 = .ok (.iand, 1) := by decide +kernel
theorem dX4_itemsAllowedAt_122 : decode cX4_itemsAllowedAt 122 = .ok (.ireturn, 1) := by decide +kernel
