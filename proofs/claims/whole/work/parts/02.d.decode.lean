theorem dX5_init_0 : decode cX5_init 0 = .ok (.aload_n 0, 1) := by decide +kernel
theorem dX5_init_1 : decode cX5_init 1 = .ok (.invokespecial 3, 3) := by decide +kernel
theorem dX5_init_4 : decode cX5_init 4 = .ok (.aload_n 0, 1) := by decide +kernel
theorem dX5_init_5 : decode cX5_init 5 = .ok (.iconst 5, 1) := by decide +kernel
theorem dX5_init_6 : decode cX5_init 6 = .ok (.putfield 9, 3) := by decide +kernel
theorem dX5_init_9 : decode cX5_init 9 = .ok (.aload_n 0, 1) := by decide +kernel
theorem dX5_init_10 : decode cX5_init 10 = .ok (.sipush 500, 3) := by decide +kernel
theorem dX5_init_13 : decode cX5_init 13 = .ok (.putfield 13, 3) := by decide +kernel
theorem dX5_init_16 : decode cX5_init 16 = .ok (.aload_n 0, 1) := by decide +kernel
theorem dX5_init_17 : decode cX5_init 17 = .ok (.iconst 1, 1) := by decide +kernel
theorem dX5_init_18 : decode cX5_init 18 = .ok (.putfield 16, 3) := by decide +kernel
theorem dX5_init_21 : decode cX5_init 21 = .ok (.aload_n 0, 1) := by decide +kernel
theorem dX5_init_22 : decode cX5_init 22 = .ok (.iconst 4, 1) := by decide +kernel
theorem dX5_init_23 : decode cX5_init 23 = .ok (.newarray .int, 2) := by decide +kernel
theorem dX5_init_25 : decode cX5_init 25 = .ok (.putfield 19, 3) := by decide +kernel
theorem dX5_init_28 : decode cX5_init 28 = .ok (.aload_n 0, 1) := by decide +kernel
theorem dX5_init_29 : decode cX5_init 29 = .ok (.bipush 10, 2) := by decide +kernel
theorem dX5_init_31 : decode cX5_init 31 = .ok (.newarray .int, 2) := by decide +kernel
theorem dX5_init_33 : decode cX5_init 33 = .ok (.putfield 23, 3) := by decide +kernel
theorem dX5_init_36 : decode cX5_init 36 = .ok (.aload_n 0, 1) := by decide +kernel
theorem dX5_init_37 : decode cX5_init 37 = .ok (.bipush 10, 2) := by decide +kernel
theorem dX5_init_39 : decode cX5_init 39 = .ok (.newarray .int, 2) := by decide +kernel
theorem dX5_init_41 : decode cX5_init 41 = .ok (.putfield 26, 3) := by decide +kernel
theorem dX5_init_44 : decode cX5_init 44 = .ok (.aload_n 0, 1) := by decide +kernel
theorem dX5_init_45 : decode cX5_init 45 = .ok (.bipush 10, 2) := by decide +kernel
theorem dX5_init_47 : decode cX5_init 47 = .ok (.newarray .int, 2) := by decide +kernel
theorem dX5_init_49 : decode cX5_init 49 = .ok (.putfield 29, 3) := by decide +kernel
theorem dX5_init_52 : decode cX5_init 52 = .ok (.aload_n 0, 1) := by decide +kernel
theorem dX5_init_53 : decode cX5_init 53 = .ok (.bipush 10, 2) := by decide +kernel
theorem dX5_init_55 : decode cX5_init 55 = .ok (.newarray .int, 2) := by decide +kernel
theorem dX5_init_57 : decode cX5_init 57 = .ok (.putfield 32, 3) := by decide +kernel
theorem dX5_init_60 : decode cX5_init 60 = .ok (.aload_n 0, 1) := by decide +kernel
theorem dX5_init_61 : decode cX5_init 61 = .ok (.bipush 10, 2) := by decide +kernel
theorem dX5_init_63 : decode cX5_init 63 = .ok (.newarray .int, 2) := by decide +kernel
theorem dX5_init_65 : decode cX5_init 65 = .ok (.putfield 35, 3) := by decide +kernel
theorem dX5_init_68 : decode cX5_init 68 = .ok (.aload_n 0, 1) := by decide +kernel
theorem dX5_init_69 : decode cX5_init 69 = .ok (.bipush 10, 2) := by decide +kernel
theorem dX5_init_71 : decode cX5_init 71 = .ok (.newarray .int, 2) := by decide +kernel
theorem dX5_init_73 : decode cX5_init 73 = .ok (.putfield 38, 3) := by decide +kernel
theorem dX5_init_76 : decode cX5_init 76 = .ok (.aload_n 0, 1) := by decide +kernel
theorem dX5_init_77 : decode cX5_init 77 = .ok (.bipush 10, 2) := by decide +kernel
theorem dX5_init_79 : decode cX5_init 79 = .ok (.newarray .int, 2) := by decide +kernel
theorem dX5_init_81 : decode cX5_init 81 = .ok (.putfield 41, 3) := by decide +kernel
theorem dX5_init_84 : decode cX5_init 84 = .ok (.aload_n 0, 1) := by decide +kernel
theorem dX5_init_85 : decode cX5_init 85 = .ok (.bipush 10, 2) := by decide +kernel
theorem dX5_init_87 : decode cX5_init 87 = .ok (.newarray .int, 2) := by decide +kernel
theorem dX5_init_89 : decode cX5_init 89 = .ok (.putfield 44, 3) := by decide +kernel
theorem dX5_init_92 : decode cX5_init 92 = .ok (.aload_n 0, 1) := by decide +kernel
theorem dX5_init_93 : decode cX5_init 93 = .ok (.bipush 10, 2) := by decide +kernel
theorem dX5_init_95 : decode cX5_init 95 = .ok (.newarray .int, 2) := by decide +kernel
theorem dX5_init_97 : decode cX5_init 97 = .ok (.putfield 47, 3) := by decide +kernel
theorem dX5_init_100 : decode cX5_init 100 = .ok (.aload_n 0, 1) := by decide +kernel
theorem dX5_init_101 : decode cX5_init 101 = .ok (.iconst 4, 1) := by decide +kernel
theorem dX5_init_102 : decode cX5_init 102 = .ok (.newarray .int, 2) := by decide +kernel
theorem dX5_init_104 : decode cX5_init 104 = .ok (.putfield 50, 3) := by decide +kernel
theorem dX5_init_107 : decode cX5_init 107 = .ok (.aload_n 0, 1) := by decide +kernel
theorem dX5_init_108 : decode cX5_init 108 = .ok (.iconst 4, 1) := by decide +kernel
theorem dX5_init_109 : decode cX5_init 109 = .ok (.newarray .int, 2) := by decide +kernel
theorem dX5_init_111 : decode cX5_init 111 = .ok (.putfield 53, 3) := by decide +kernel
theorem dX5_init_114 : decode cX5_init 114 = .ok (.aload_n 0, 1) := by decide +kernel
theorem dX5_init_115 : decode cX5_init 115 = .ok (.iconst 4, 1) := by decide +kernel
theorem dX5_init_116 : decode cX5_init 116 = .ok (.newarray .int, 2) := by decide +kernel
theorem dX5_init_118 : decode cX5_init 118 = .ok (.putfield 56, 3) := by decide +kernel
theorem dX5_init_121 : decode cX5_init 121 = .ok (.aload_n 0, 1) := by decide +kernel
theorem dX5_init_122 : decode cX5_init 122 = .ok (.iconst 4, 1) := by decide +kernel
theorem dX5_init_123 : decode cX5_init 123 = .ok (.newarray .int, 2) := by decide +kernel
theorem dX5_init_125 : decode cX5_init 125 = .ok (.putfield 59, 3) := by decide +kernel
theorem dX5_init_128 : decode cX5_init 128 = .ok (.aload_n 0, 1) := by decide +kernel
theorem dX5_init_129 : decode cX5_init 129 = .ok (.bipush 8, 2) := by decide +kernel
theorem dX5_init_131 : decode cX5_init 131 = .ok (.newarray .int, 2) := by decide +kernel
theorem dX5_init_133 : decode cX5_init 133 = .ok (.putfield 62, 3) := by decide +kernel
theorem dX5_init_136 : decode cX5_init 136 = .ok (.aload_n 0, 1) := by decide +kernel
theorem dX5_init_137 : decode cX5_init 137 = .ok (.bipush 8, 2) := by decide +kernel
theorem dX5_init_139 : decode cX5_init 139 = .ok (.newarray .int, 2) := by decide +kernel
theorem dX5_init_141 : decode cX5_init 141 = .ok (.putfield 65, 3) := by decide +kernel
theorem dX5_init_144 : decode cX5_init 144 = .ok (.aload_n 0, 1) := by decide +kernel
theorem dX5_init_145 : decode cX5_init 145 = .ok (.bipush 80, 2) := by decide +kernel
theorem dX5_init_147 : decode cX5_init 147 = .ok (.newarray .boolean, 2) := by decide +kernel
theorem dX5_init_149 : decode cX5_init 149 = .ok (.putfield 68, 3) := by decide +kernel
theorem dX5_init_152 : decode cX5_init 152 = .ok (.aload_n 0, 1) := by decide +kernel
theorem dX5_init_153 : decode cX5_init 153 = .ok (.ldc 72, 2) := by decide +kernel
theorem dX5_init_155 : decode cX5_init 155 = .ok (.newarray .int, 2) := by decide +kernel
theorem dX5_init_157 : decode cX5_init 157 = .ok (.putfield 73, 3) := by decide +kernel
theorem dX5_init_160 : decode cX5_init 160 = .ok (.aload_n 0, 1) := by decide +kernel
theorem dX5_init_161 : decode cX5_init 161 = .ok (.ldc 72, 2) := by decide +kernel
theorem dX5_init_163 : decode cX5_init 163 = .ok (.newarray .long, 2) := by decide +kernel
theorem dX5_init_165 : decode cX5_init 165 = .ok (.putfield 76, 3) := by decide +kernel
theorem dX5_init_168 : decode cX5_init 168 = .ok (.aload_n 0, 1) := by decide +kernel
theorem dX5_init_169 : decode cX5_init 169 = .ok (.ldc 72, 2) := by decide +kernel
theorem dX5_init_171 : decode cX5_init 171 = .ok (.newarray .long, 2) := by decide +kernel
theorem dX5_init_173 : decode cX5_init 173 = .ok (.putfield 80, 3) := by decide +kernel
theorem dX5_init_176 : decode cX5_init 176 = .ok (.aload_n 0, 1) := by decide +kernel
theorem dX5_init_177 : decode cX5_init 177 = .ok (.bipush 88, 2) := by decide +kernel
theorem dX5_init_179 : decode cX5_init 179 = .ok (.newarray .long, 2) := by decide +kernel
theorem dX5_init_181 : decode cX5_init 181 = .ok (.putfield 83, 3) := by decide +kernel
theorem dX5_init_184 : decode cX5_init 184 = .ok (.aload_n 0, 1) := by decide +kernel
theorem dX5_init_185 : decode cX5_init 185 = .ok (.bipush 8, 2) := by decide +kernel
theorem dX5_init_187 : decode cX5_init 187 = .ok (.newarray .int, 2) := by decide +kernel
theorem dX5_init_189 : decode cX5_init 189 = .ok (.putfield 86, 3) := by decide +kernel
theorem dX5_init_192 : decode cX5_init 192 = .ok (.aload_n 0, 1) := by decide +kernel
theorem dX5_init_193 : decode cX5_init 193 = .ok (.iconst 4, 1) := by decide +kernel
theorem dX5_init_194 : decode cX5_init 194 = .ok (.newarray .int, 2) := by decide +kernel
theorem dX5_init_196 : decode cX5_init 196 = .ok (.putfield 89, 3) := by decide +kernel
theorem dX5_init_199 : decode cX5_init 199 = .ok (.return_, 1) := by decide +kernel
theorem dX5_thrown_0 : decode cX5_thrown 0 = .ok (.aload_n 0, 1) := by decide +kernel
theorem dX5_thrown_1 : decode cX5_thrown 1 = .ok (.getfield 92, 3) := by decide +kernel
theorem dX5_thrown_4 : decode cX5_thrown 4 = .ok (.ireturn, 1) := by decide +kernel
theorem dX5_isIn_0 : decode cX5_isIn 0 = .ok (.iload_n 0, 1) := by decide +kernel
theorem dX5_isIn_1 : decode cX5_isIn 1 = .ok (.iload_n 1, 1) := by decide +kernel
theorem dX5_isIn_2 : decode cX5_isIn 2 = .ok (.if_icmp .lt 12, 3) := by decide +kernel
theorem dX5_isIn_5 : decode cX5_isIn 5 = .ok (.iload_n 0, 1) := by decide +kernel
theorem dX5_isIn_6 : decode cX5_isIn 6 = .ok (.iload_n 2, 1) := by decide +kernel
theorem dX5_isIn_7 : decode cX5_isIn 7 = .ok (.if_icmp .gt 7, 3) := by decide +kernel
theorem dX5_isIn_10 : decode cX5_isIn 10 = .ok (.iconst 1, 1) := by decide +kernel
theorem dX5_isIn_11 : decode cX5_isIn 11 = .ok (.goto 4, 3) := by decide +kernel
theorem dX5_isIn_14 : decode cX5_isIn 14 = .ok (.iconst 0, 1) := by decide +kernel
theorem dX5_isIn_15 : decode cX5_isIn 15 = .ok (.ireturn, 1) := by decide +kernel
theorem dX5_isWidth_0 : decode cX5_isWidth 0 = .ok (.iload_n 0, 1) := by decide +kernel
theorem dX5_isWidth_1 : decode cX5_isWidth 1 = .ok (.bipush 100, 2) := by decide +kernel
theorem dX5_isWidth_3 : decode cX5_isWidth 3 = .ok (.sipush 3000, 3) := by decide +kernel
theorem dX5_isWidth_6 : decode cX5_isWidth 6 = .ok (.invokestatic 95, 3) := by decide +kernel
theorem dX5_isWidth_9 : decode cX5_isWidth 9 = .ok (.ireturn, 1) := by decide +kernel
theorem dX5_isDrum_0 : decode cX5_isDrum 0 = .ok (.iload_n 1, 1) := by decide +kernel
theorem dX5_isDrum_1 : decode cX5_isDrum 1 = .ok (.ifCond .lt 15, 3) := by decide +kernel
theorem dX5_isDrum_4 : decode cX5_isDrum 4 = .ok (.iload_n 1, 1) := by decide +kernel
theorem dX5_isDrum_5 : decode cX5_isDrum 5 = .ok (.aload_n 0, 1) := by decide +kernel
theorem dX5_isDrum_6 : decode cX5_isDrum 6 = .ok (.getfield 99, 3) := by decide +kernel
theorem dX5_isDrum_9 : decode cX5_isDrum 9 = .ok (.if_icmp .ge 7, 3) := by decide +kernel
theorem dX5_isDrum_12 : decode cX5_isDrum 12 = .ok (.iconst 1, 1) := by decide +kernel
theorem dX5_isDrum_13 : decode cX5_isDrum 13 = .ok (.goto 4, 3) := by decide +kernel
theorem dX5_isDrum_16 : decode cX5_isDrum 16 = .ok (.iconst 0, 1) := by decide +kernel
theorem dX5_isDrum_17 : decode cX5_isDrum 17 = .ok (.ireturn, 1) := by decide +kernel
theorem dX5_isColumn_0 : decode cX5_isColumn 0 = .ok (.iload_n 1, 1) := by decide +kernel
theorem dX5_isColumn_1 : decode cX5_isColumn 1 = .ok (.ifCond .lt 15, 3) := by decide +kernel
theorem dX5_isColumn_4 : decode cX5_isColumn 4 = .ok (.iload_n 1, 1) := by decide +kernel
theorem dX5_isColumn_5 : decode cX5_isColumn 5 = .ok (.aload_n 0, 1) := by decide +kernel
theorem dX5_isColumn_6 : decode cX5_isColumn 6 = .ok (.getfield 102, 3) := by decide +kernel
theorem dX5_isColumn_9 : decode cX5_isColumn 9 = .ok (.if_icmp .ge 7, 3) := by decide +kernel
theorem dX5_isColumn_12 : decode cX5_isColumn 12 = .ok (.iconst 1, 1) := by decide +kernel
theorem dX5_isColumn_13 : decode cX5_isColumn 13 = .ok (.goto 4, 3) := by decide +kernel
theorem dX5_isColumn_16 : decode cX5_isColumn 16 = .ok (.iconst 0, 1) := by decide +kernel
theorem dX5_isColumn_17 : decode cX5_isColumn 17 = .ok (.ireturn, 1) := by decide +kernel
theorem dX5_isPlace_0 : decode cX5_isPlace 0 = .ok (.iload_n 1, 1) := by decide +kernel
theorem dX5_isPlace_1 : decode cX5_isPlace 1 = .ok (.ifCond .lt 15, 3) := by decide +kernel
theorem dX5_isPlace_4 : decode cX5_isPlace 4 = .ok (.iload_n 1, 1) := by decide +kernel
theorem dX5_isPlace_5 : decode cX5_isPlace 5 = .ok (.aload_n 0, 1) := by decide +kernel
theorem dX5_isPlace_6 : decode cX5_isPlace 6 = .ok (.getfield 105, 3) := by decide +kernel
theorem dX5_isPlace_9 : decode cX5_isPlace 9 = .ok (.if_icmp .ge 7, 3) := by decide +kernel
theorem dX5_isPlace_12 : decode cX5_isPlace 12 = .ok (.iconst 1, 1) := by decide +kernel
theorem dX5_isPlace_13 : decode cX5_isPlace 13 = .ok (.goto 4, 3) := by decide +kernel
theorem dX5_isPlace_16 : decode cX5_isPlace 16 = .ok (.iconst 0, 1) := by decide +kernel
theorem dX5_isPlace_17 : decode cX5_isPlace 17 = .ok (.ireturn, 1) := by decide +kernel
theorem dX5_measure_0 : decode cX5_measure 0 = .ok (.aload_n 0, 1) := by decide +kernel
theorem dX5_measure_1 : decode cX5_measure 1 = .ok (.iconst 0, 1) := by decide +kernel
theorem dX5_measure_2 : decode cX5_measure 2 = .ok (.putfield 92, 3) := by decide +kernel
theorem dX5_measure_5 : decode cX5_measure 5 = .ok (.iload_n 1, 1) := by decide +kernel
theorem dX5_measure_6 : decode cX5_measure 6 = .ok (.invokestatic 108, 3) := by decide +kernel
theorem dX5_measure_9 : decode cX5_measure 9 = .ok (.ifCond .eq 32, 3) := by decide +kernel
theorem dX5_measure_12 : decode cX5_measure 12 = .ok (.iload_n 2, 1) := by decide +kernel
theorem dX5_measure_13 : decode cX5_measure 13 = .ok (.invokestatic 108, 3) := by decide +kernel
theorem dX5_measure_16 : decode cX5_measure 16 = .ok (.ifCond .eq 25, 3) := by decide +kernel
theorem dX5_measure_19 : decode cX5_measure 19 = .ok (.iload_n 3, 1) := by decide +kernel
theorem dX5_measure_20 : decode cX5_measure 20 = .ok (.iconst 0, 1) := by decide +kernel
theorem dX5_measure_21 : decode cX5_measure 21 = .ok (.bipush 50, 2) := by decide +kernel
theorem dX5_measure_23 : decode cX5_measure 23 = .ok (.invokestatic 95, 3) := by decide +kernel
theorem dX5_measure_26 : decode cX5_measure 26 = .ok (.ifCond .eq 15, 3) := by decide +kernel
theorem dX5_measure_29 : decode cX5_measure 29 = .ok (.iload 4, 2) := by decide +kernel
theorem dX5_measure_31 : decode cX5_measure 31 = .ok (.iconst 1, 1) := by decide +kernel
theorem dX5_measure_32 : decode cX5_measure 32 = .ok (.sipush 2000, 3) := by decide +kernel
theorem dX5_measure_35 : decode cX5_measure 35 = .ok (.invokestatic 95, 3) := by decide +kernel
theorem dX5_measure_38 : decode cX5_measure 38 = .ok (.ifCond .ne 5, 3) := by decide +kernel
theorem dX5_measure_41 : decode cX5_measure 41 = .ok (.iconst 0, 1) := by decide +kernel
theorem dX5_measure_42 : decode cX5_measure 42 = .ok (.ireturn, 1) := by decide +kernel
theorem dX5_measure_43 : decode cX5_measure 43 = .ok (.aload_n 0, 1) := by decide +kernel
theorem dX5_measure_44 : decode cX5_measure 44 = .ok (.getfield 19, 3) := by decide +kernel
theorem dX5_measure_47 : decode cX5_measure 47 = .ok (.iconst 0, 1) := by decide +kernel
theorem dX5_measure_48 : decode cX5_measure 48 = .ok (.iload_n 1, 1) := by decide +kernel
theorem dX5_measure_49 : decode cX5_measure 49 = .ok (.iastore, 1) := by decide +kernel
theorem dX5_measure_50 : decode cX5_measure 50 = .ok (.aload_n 0, 1) := by decide +kernel
theorem dX5_measure_51 : decode cX5_measure 51 = .ok (.getfield 19, 3) := by decide +kernel
theorem dX5_measure_54 : decode cX5_measure 54 = .ok (.iconst 1, 1) := by decide +kernel
theorem dX5_measure_55 : decode cX5_measure 55 = .ok (.iload_n 2, 1) := by decide +kernel
theorem dX5_measure_56 : decode cX5_measure 56 = .ok (.iastore, 1) := by decide +kernel
theorem dX5_measure_57 : decode cX5_measure 57 = .ok (.aload_n 0, 1) := by decide +kernel
theorem dX5_measure_58 : decode cX5_measure 58 = .ok (.getfield 19, 3) := by decide +kernel
theorem dX5_measure_61 : decode cX5_measure 61 = .ok (.iconst 2, 1) := by decide +kernel
theorem dX5_measure_62 : decode cX5_measure 62 = .ok (.iload_n 3, 1) := by decide +kernel
theorem dX5_measure_63 : decode cX5_measure 63 = .ok (.iastore, 1) := by decide +kernel
theorem dX5_measure_64 : decode cX5_measure 64 = .ok (.aload_n 0, 1) := by decide +kernel
theorem dX5_measure_65 : decode cX5_measure 65 = .ok (.getfield 19, 3) := by decide +kernel
theorem dX5_measure_68 : decode cX5_measure 68 = .ok (.iconst 3, 1) := by decide +kernel
theorem dX5_measure_69 : decode cX5_measure 69 = .ok (.iload 4, 2) := by decide +kernel
theorem dX5_measure_71 : decode cX5_measure 71 = .ok (.iastore, 1) := by decide +kernel
theorem dX5_measure_72 : decode cX5_measure 72 = .ok (.aload_n 0, 1) := by decide +kernel
theorem dX5_measure_73 : decode cX5_measure 73 = .ok (.iconst 1, 1) := by decide +kernel
theorem dX5_measure_74 : decode cX5_measure 74 = .ok (.putfield 112, 3) := by decide +kernel
theorem dX5_measure_77 : decode cX5_measure 77 = .ok (.iconst 1, 1) := by decide +kernel
theorem dX5_measure_78 : decode cX5_measure 78 = .ok (.ireturn, 1) := by decide +kernel
theorem dX5_drum_0 : decode cX5_drum 0 = .ok (.aload_n 0, 1) := by decide +kernel
theorem dX5_drum_1 : decode cX5_drum 1 = .ok (.iconst 0, 1) := by decide +kernel
theorem dX5_drum_2 : decode cX5_drum 2 = .ok (.putfield 92, 3) := by decide +kernel
theorem dX5_drum_5 : decode cX5_drum 5 = .ok (.aload_n 0, 1) := by decide +kernel
theorem dX5_drum_6 : decode cX5_drum 6 = .ok (.getfield 112, 3) := by decide +kernel
theorem dX5_drum_9 : decode cX5_drum 9 = .ok (.ifCond .eq 65, 3) := by decide +kernel
theorem dX5_drum_12 : decode cX5_drum 12 = .ok (.aload_n 0, 1) := by decide +kernel
theorem dX5_drum_13 : decode cX5_drum 13 = .ok (.getfield 99, 3) := by decide +kernel
theorem dX5_drum_16 : decode cX5_drum 16 = .ok (.bipush 10, 2) := by decide +kernel
theorem dX5_drum_18 : decode cX5_drum 18 = .ok (.if_icmp .eq 56, 3) := by decide +kernel
theorem dX5_drum_21 : decode cX5_drum 21 = .ok (.iload_n 1, 1) := by decide +kernel
theorem dX5_drum_22 : decode cX5_drum 22 = .ok (.iconst 0, 1) := by decide +kernel
theorem dX5_drum_23 : decode cX5_drum 23 = .ok (.bipush 40, 2) := by decide +kernel
theorem dX5_drum_25 : decode cX5_drum 25 = .ok (.invokestatic 95, 3) := by decide +kernel
theorem dX5_drum_28 : decode cX5_drum 28 = .ok (.ifCond .eq 46, 3) := by decide +kernel
theorem dX5_drum_31 : decode cX5_drum 31 = .ok (.iload_n 2, 1) := by decide +kernel
theorem dX5_drum_32 : decode cX5_drum 32 = .ok (.iconst 0, 1) := by decide +kernel
theorem dX5_drum_33 : decode cX5_drum 33 = .ok (.ldc 116, 2) := by decide +kernel
theorem dX5_drum_35 : decode cX5_drum 35 = .ok (.invokestatic 95, 3) := by decide +kernel
theorem dX5_drum_38 : decode cX5_drum 38 = .ok (.ifCond .eq 36, 3) := by decide +kernel
theorem dX5_drum_41 : decode cX5_drum 41 = .ok (.iload_n 3, 1) := by decide +kernel
theorem dX5_drum_42 : decode cX5_drum 42 = .ok (.iconst 0, 1) := by decide +kernel
theorem dX5_drum_43 : decode cX5_drum 43 = .ok (.ldc 116, 2) := by decide +kernel
theorem dX5_drum_45 : decode cX5_drum 45 = .ok (.invokestatic 95, 3) := by decide +kernel
theorem dX5_drum_48 : decode cX5_drum 48 = .ok (.ifCond .eq 26, 3) := by decide +kernel
theorem dX5_drum_51 : decode cX5_drum 51 = .ok (.iload 4, 2) := by decide +kernel
theorem dX5_drum_53 : decode cX5_drum 53 = .ok (.iconst 1, 1) := by decide +kernel
theorem dX5_drum_54 : decode cX5_drum 54 = .ok (.sipush 10000, 3) := by decide +kernel
theorem dX5_drum_57 : decode cX5_drum 57 = .ok (.invokestatic 95, 3) := by decide +kernel
theorem dX5_drum_60 : decode cX5_drum 60 = .ok (.ifCond .eq 14, 3) := by decide +kernel
theorem dX5_drum_63 : decode cX5_drum 63 = .ok (.iload 5, 2) := by decide +kernel
theorem dX5_drum_65 : decode cX5_drum 65 = .ok (.iconst 0, 1) := by decide +kernel
theorem dX5_drum_66 : decode cX5_drum 66 = .ok (.ldc 117, 2) := by decide +kernel
theorem dX5_drum_68 : decode cX5_drum 68 = .ok (.invokestatic 95, 3) := by decide +kernel
theorem dX5_drum_71 : decode cX5_drum 71 = .ok (.ifCond .ne 5, 3) := by decide +kernel
theorem dX5_drum_74 : decode cX5_drum 74 = .ok (.iconst (-1), 1) := by decide +kernel
theorem dX5_drum_75 : decode cX5_drum 75 = .ok (.ireturn, 1) := by decide +kernel
theorem dX5_drum_76 : decode cX5_drum 76 = .ok (.aload_n 0, 1) := by decide +kernel
theorem dX5_drum_77 : decode cX5_drum 77 = .ok (.getfield 23, 3) := by decide +kernel
theorem dX5_drum_80 : decode cX5_drum 80 = .ok (.aload_n 0, 1) := by decide +kernel
theorem dX5_drum_81 : decode cX5_drum 81 = .ok (.getfield 99, 3) := by decide +kernel
theorem dX5_drum_84 : decode cX5_drum 84 = .ok (.aload_n 0, 1) := by decide +kernel
theorem dX5_drum_85 : decode cX5_drum 85 = .ok (.getfield 19, 3) := by decide +kernel
theorem dX5_drum_88 : decode cX5_drum 88 = .ok (.iconst 0, 1) := by decide +kernel
theorem dX5_drum_89 : decode cX5_drum 89 = .ok (.iaload, 1) := by decide +kernel
theorem dX5_drum_90 : decode cX5_drum 90 = .ok (.iastore, 1) := by decide +kernel
theorem dX5_drum_91 : decode cX5_drum 91 = .ok (.aload_n 0, 1) := by decide +kernel
theorem dX5_drum_92 : decode cX5_drum 92 = .ok (.getfield 26, 3) := by decide +kernel
theorem dX5_drum_95 : decode cX5_drum 95 = .ok (.aload_n 0, 1) := by decide +kernel
theorem dX5_drum_96 : decode cX5_drum 96 = .ok (.getfield 99, 3) := by decide +kernel
theorem dX5_drum_99 : decode cX5_drum 99 = .ok (.aload_n 0, 1) := by decide +kernel
theorem dX5_drum_100 : decode cX5_drum 100 = .ok (.getfield 19, 3) := by decide +kernel
theorem dX5_drum_103 : decode cX5_drum 103 = .ok (.iconst 1, 1) := by decide +kernel
theorem dX5_drum_104 : decode cX5_drum 104 = .ok (.iaload, 1) := by decide +kernel
theorem dX5_drum_105 : decode cX5_drum 105 = .ok (.iastore, 1) := by decide +kernel
theorem dX5_drum_106 : decode cX5_drum 106 = .ok (.aload_n 0, 1) := by decide +kernel
theorem dX5_drum_107 : decode cX5_drum 107 = .ok (.getfield 29, 3) := by decide +kernel
theorem dX5_drum_110 : decode cX5_drum 110 = .ok (.aload_n 0, 1) := by decide +kernel
theorem dX5_drum_111 : decode cX5_drum 111 = .ok (.getfield 99, 3) := by decide +kernel
theorem dX5_drum_114 : decode cX5_drum 114 = .ok (.aload_n 0, 1) := by decide +kernel
theorem dX5_drum_115 : decode cX5_drum 115 = .ok (.getfield 19, 3) := by decide +kernel
theorem dX5_drum_118 : decode cX5_drum 118 = .ok (.iconst 2, 1) := by decide +kernel
theorem dX5_drum_119 : decode cX5_drum 119 = .ok (.iaload, 1) := by decide +kernel
theorem dX5_drum_120 : decode cX5_drum 120 = .ok (.iastore, 1) := by decide +kernel
theorem dX5_drum_121 : decode cX5_drum 121 = .ok (.aload_n 0, 1) := by decide +kernel
theorem dX5_drum_122 : decode cX5_drum 122 = .ok (.getfield 32, 3) := by decide +kernel
theorem dX5_drum_125 : decode cX5_drum 125 = .ok (.aload_n 0, 1) := by decide +kernel
theorem dX5_drum_126 : decode cX5_drum 126 = .ok (.getfield 99, 3) := by decide +kernel
theorem dX5_drum_129 : decode cX5_drum 129 = .ok (.aload_n 0, 1) := by decide +kernel
theorem dX5_drum_130 : decode cX5_drum 130 = .ok (.getfield 19, 3) := by decide +kernel
theorem dX5_drum_133 : decode cX5_drum 133 = .ok (.iconst 3, 1) := by decide +kernel
theorem dX5_drum_134 : decode cX5_drum 134 = .ok (.iaload, 1) := by decide +kernel
theorem dX5_drum_135 : decode cX5_drum 135 = .ok (.iastore, 1) := by decide +kernel
theorem dX5_drum_136 : decode cX5_drum 136 = .ok (.aload_n 0, 1) := by decide +kernel
theorem dX5_drum_137 : decode cX5_drum 137 = .ok (.getfield 35, 3) := by decide +kernel
theorem dX5_drum_140 : decode cX5_drum 140 = .ok (.aload_n 0, 1) := by decide +kernel
theorem dX5_drum_141 : decode cX5_drum 141 = .ok (.getfield 99, 3) := by decide +kernel
theorem dX5_drum_144 : decode cX5_drum 144 = .ok (.iload_n 1, 1) := by decide +kernel
theorem dX5_drum_145 : decode cX5_drum 145 = .ok (.iastore, 1) := by decide +kernel
theorem dX5_drum_146 : decode cX5_drum 146 = .ok (.aload_n 0, 1) := by decide +kernel
theorem dX5_drum_147 : decode cX5_drum 147 = .ok (.getfield 38, 3) := by decide +kernel
theorem dX5_drum_150 : decode cX5_drum 150 = .ok (.aload_n 0, 1) := by decide +kernel
theorem dX5_drum_151 : decode cX5_drum 151 = .ok (.getfield 99, 3) := by decide +kernel
theorem dX5_drum_154 : decode cX5_drum 154 = .ok (.iload_n 2, 1) := by decide +kernel
theorem dX5_drum_155 : decode cX5_drum 155 = .ok (.iastore, 1) := by decide +kernel
theorem dX5_drum_156 : decode cX5_drum 156 = .ok (.aload_n 0, 1) := by decide +kernel
theorem dX5_drum_157 : decode cX5_drum 157 = .ok (.getfield 41, 3) := by decide +kernel
theorem dX5_drum_160 : decode cX5_drum 160 = .ok (.aload_n 0, 1) := by decide +kernel
theorem dX5_drum_161 : decode cX5_drum 161 = .ok (.getfield 99, 3) := by decide +kernel
theorem dX5_drum_164 : decode cX5_drum 164 = .ok (.iload_n 3, 1) := by decide +kernel
theorem dX5_drum_165 : decode cX5_drum 165 = .ok (.iastore, 1) := by decide +kernel
theorem dX5_drum_166 : decode cX5_drum 166 = .ok (.aload_n 0, 1) := by decide +kernel
theorem dX5_drum_167 : decode cX5_drum 167 = .ok (.getfield 44, 3) := by decide +kernel
theorem dX5_drum_170 : decode cX5_drum 170 = .ok (.aload_n 0, 1) := by decide +kernel
theorem dX5_drum_171 : decode cX5_drum 171 = .ok (.getfield 99, 3) := by decide +kernel
theorem dX5_drum_174 : decode cX5_drum 174 = .ok (.iload 4, 2) := by decide +kernel
theorem dX5_drum_176 : decode cX5_drum 176 = .ok (.iastore, 1) := by decide +kernel
theorem dX5_drum_177 : decode cX5_drum 177 = .ok (.aload_n 0, 1) := by decide +kernel
theorem dX5_drum_178 : decode cX5_drum 178 = .ok (.getfield 47, 3) := by decide +kernel
theorem dX5_drum_181 : decode cX5_drum 181 = .ok (.aload_n 0, 1) := by decide +kernel
theorem dX5_drum_182 : decode cX5_drum 182 = .ok (.getfield 99, 3) := by decide +kernel
theorem dX5_drum_185 : decode cX5_drum 185 = .ok (.iload 5, 2) := by decide +kernel
theorem dX5_drum_187 : decode cX5_drum 187 = .ok (.iastore, 1) := by decide +kernel
theorem dX5_drum_188 : decode cX5_drum 188 = .ok (.aload_n 0, 1) := by decide +kernel
theorem dX5_drum_189 : decode cX5_drum 189 = .ok (.dup, 1) := by decide +kernel
theorem dX5_drum_190 : decode cX5_drum 190 = .ok (.getfield 99, 3) := by decide +kernel
theorem dX5_drum_193 : decode cX5_drum 193 = .ok (.iconst 1, 1) := by decide +kernel
theorem dX5_drum_194 : decode cX5_drum 194 = .ok (.iadd, 1) := by decide +kernel
theorem dX5_drum_195 : decode cX5_drum 195 = .ok (.putfield 99, 3) := by decide +kernel
theorem dX5_drum_198 : decode cX5_drum 198 = .ok (.aload_n 0, 1) := by decide +kernel
theorem dX5_drum_199 : decode cX5_drum 199 = .ok (.iconst 0, 1) := by decide +kernel
theorem dX5_drum_200 : decode cX5_drum 200 = .ok (.putfield 112, 3) := by decide +kernel
theorem dX5_drum_203 : decode cX5_drum 203 = .ok (.aload_n 0, 1) := by decide +kernel
theorem dX5_drum_204 : decode cX5_drum 204 = .ok (.getfield 99, 3) := by decide +kernel
theorem dX5_drum_207 : decode cX5_drum 207 = .ok (.iconst 1, 1) := by decide +kernel
theorem dX5_drum_208 : decode cX5_drum 208 = .ok (.isub, 1) := by decide +kernel
theorem dX5_drum_209 : decode cX5_drum 209 = .ok (.ireturn, 1) := by decide +kernel
theorem dX5_set_0 : decode cX5_set 0 = .ok (.aload_n 0, 1) := by decide +kernel
theorem dX5_set_1 : decode cX5_set 1 = .ok (.iconst 0, 1) := by decide +kernel
theorem dX5_set_2 : decode cX5_set 2 = .ok (.putfield 92, 3) := by decide +kernel
theorem dX5_set_5 : decode cX5_set 5 = .ok (.iload_n 1, 1) := by decide +kernel
theorem dX5_set_6 : decode cX5_set 6 = .ok (.iconst 0, 1) := by decide +kernel
theorem dX5_set_7 : decode cX5_set 7 = .ok (.bipush 50, 2) := by decide +kernel
theorem dX5_set_9 : decode cX5_set 9 = .ok (.invokestatic 95, 3) := by decide +kernel
theorem dX5_set_12 : decode cX5_set 12 = .ok (.ifCond .eq 23, 3) := by decide +kernel
theorem dX5_set_15 : decode cX5_set 15 = .ok (.iload_n 2, 1) := by decide +kernel
theorem dX5_set_16 : decode cX5_set 16 = .ok (.iconst 1, 1) := by decide +kernel
theorem dX5_set_17 : decode cX5_set 17 = .ok (.sipush 10000, 3) := by decide +kernel
theorem dX5_set_20 : decode cX5_set 20 = .ok (.invokestatic 95, 3) := by decide +kernel
theorem dX5_set_23 : decode cX5_set 23 = .ok (.ifCond .eq 12, 3) := by decide +kernel
theorem dX5_set_26 : decode cX5_set 26 = .ok (.iload_n 3, 1) := by decide +kernel
theorem dX5_set_27 : decode cX5_set 27 = .ok (.iconst 1, 1) := by decide +kernel
theorem dX5_set_28 : decode cX5_set 28 = .ok (.iconst 5, 1) := by decide +kernel
theorem dX5_set_29 : decode cX5_set 29 = .ok (.invokestatic 95, 3) := by decide +kernel
theorem dX5_set_32 : decode cX5_set 32 = .ok (.ifCond .ne 5, 3) := by decide +kernel
theorem dX5_set_35 : decode cX5_set 35 = .ok (.iconst 0, 1) := by decide +kernel
theorem dX5_set_36 : decode cX5_set 36 = .ok (.ireturn, 1) := by decide +kernel
theorem dX5_set_37 : decode cX5_set 37 = .ok (.aload_n 0, 1) := by decide +kernel
theorem dX5_set_38 : decode cX5_set 38 = .ok (.iload_n 1, 1) := by decide +kernel
theorem dX5_set_39 : decode cX5_set 39 = .ok (.putfield 9, 3) := by decide +kernel
theorem dX5_set_42 : decode cX5_set 42 = .ok (.aload_n 0, 1) := by decide +kernel
theorem dX5_set_43 : decode cX5_set 43 = .ok (.iload_n 2, 1) := by decide +kernel
theorem dX5_set_44 : decode cX5_set 44 = .ok (.putfield 13, 3) := by decide +kernel
theorem dX5_set_47 : decode cX5_set 47 = .ok (.aload_n 0, 1) := by decide +kernel
theorem dX5_set_48 : decode cX5_set 48 = .ok (.iload_n 3, 1) := by decide +kernel
theorem dX5_set_49 : decode cX5_set 49 = .ok (.putfield 16, 3) := by decide +kernel
theorem dX5_set_52 : decode cX5_set 52 = .ok (.iconst 1, 1) := by decide +kernel
theorem dX5_set_53 : decode cX5_set 53 = .ok (.ireturn, 1) := by decide +kernel
theorem dX5_column_0 : decode cX5_column 0 = .ok (.aload_n 0, 1) := by decide +kernel
theorem dX5_column_1 : decode cX5_column 1 = .ok (.iconst 0, 1) := by decide +kernel
theorem dX5_column_2 : decode cX5_column 2 = .ok (.putfield 92, 3) := by decide +kernel
theorem dX5_column_5 : decode cX5_column 5 = .ok (.aload_n 0, 1) := by decide +kernel
theorem dX5_column_6 : decode cX5_column 6 = .ok (.getfield 102, 3) := by decide +kernel
theorem dX5_column_9 : decode cX5_column 9 = .ok (.iconst 4, 1) := by decide +kernel
theorem dX5_column_10 : decode cX5_column 10 = .ok (.if_icmp .eq 45, 3) := by decide +kernel
theorem dX5_column_13 : decode cX5_column 13 = .ok (.iload_n 1, 1) := by decide +kernel
theorem dX5_column_14 : decode cX5_column 14 = .ok (.iconst 1, 1) := by decide +kernel
theorem dX5_column_15 : decode cX5_column 15 = .ok (.iconst 5, 1) := by decide +kernel
theorem dX5_column_16 : decode cX5_column 16 = .ok (.invokestatic 95, 3) := by decide +kernel
theorem dX5_column_19 : decode cX5_column 19 = .ok (.ifCond .eq 36, 3) := by decide +kernel
theorem dX5_column_22 : decode cX5_column 22 = .ok (.aload_n 0, 1) := by decide +kernel
theorem dX5_column_23 : decode cX5_column 23 = .ok (.getfield 105, 3) := by decide +kernel
theorem dX5_column_26 : decode cX5_column 26 = .ok (.iload_n 1, 1) := by decide +kernel
theorem dX5_column_27 : decode cX5_column 27 = .ok (.iadd, 1) := by decide +kernel
theorem dX5_column_28 : decode cX5_column 28 = .ok (.bipush 8, 2) := by decide +kernel
theorem dX5_column_30 : decode cX5_column 30 = .ok (.if_icmp .gt 25, 3) := by decide +kernel
theorem dX5_column_33 : decode cX5_column 33 = .ok (.iload_n 2, 1) := by decide +kernel
theorem dX5_column_34 : decode cX5_column 34 = .ok (.ifCond .eq 10, 3) := by decide +kernel
theorem dX5_column_37 : decode cX5_column 37 = .ok (.iload_n 2, 1) := by decide +kernel
theorem dX5_column_38 : decode cX5_column 38 = .ok (.invokestatic 108, 3) := by decide +kernel
theorem dX5_column_41 : decode cX5_column 41 = .ok (.ifCond .eq 14, 3) := by decide +kernel
theorem dX5_column_44 : decode cX5_column 44 = .ok (.iload_n 3, 1) := by decide +kernel
theorem dX5_column_45 : decode cX5_column 45 = .ok (.ifCond .eq 12, 3) := by decide +kernel
theorem dX5_column_48 : decode cX5_column 48 = .ok (.iload_n 3, 1) := by decide +kernel
theorem dX5_column_49 : decode cX5_column 49 = .ok (.invokestatic 108, 3) := by decide +kernel
theorem dX5_column_52 : decode cX5_column 52 = .ok (.ifCond .ne 5, 3) := by decide +kernel
theorem dX5_column_55 : decode cX5_column 55 = .ok (.iconst (-1), 1) := by decide +kernel
theorem dX5_column_56 : decode cX5_column 56 = .ok (.ireturn, 1) := by decide +kernel
theorem dX5_column_57 : decode cX5_column 57 = .ok (.aload_n 0, 1) := by decide +kernel
theorem dX5_column_58 : decode cX5_column 58 = .ok (.getfield 50, 3) := by decide +kernel
theorem dX5_column_61 : decode cX5_column 61 = .ok (.aload_n 0, 1) := by decide +kernel
theorem dX5_column_62 : decode cX5_column 62 = .ok (.getfield 102, 3) := by decide +kernel
theorem dX5_column_65 : decode cX5_column 65 = .ok (.iload_n 2, 1) := by decide +kernel
theorem dX5_column_66 : decode cX5_column 66 = .ok (.iastore, 1) := by decide +kernel
theorem dX5_column_67 : decode cX5_column 67 = .ok (.aload_n 0, 1) := by decide +kernel
theorem dX5_column_68 : decode cX5_column 68 = .ok (.getfield 53, 3) := by decide +kernel
theorem dX5_column_71 : decode cX5_column 71 = .ok (.aload_n 0, 1) := by decide +kernel
theorem dX5_column_72 : decode cX5_column 72 = .ok (.getfield 102, 3) := by decide +kernel
theorem dX5_column_75 : decode cX5_column 75 = .ok (.iload_n 3, 1) := by decide +kernel
theorem dX5_column_76 : decode cX5_column 76 = .ok (.iastore, 1) := by decide +kernel
theorem dX5_column_77 : decode cX5_column 77 = .ok (.aload_n 0, 1) := by decide +kernel
theorem dX5_column_78 : decode cX5_column 78 = .ok (.getfield 56, 3) := by decide +kernel
theorem dX5_column_81 : decode cX5_column 81 = .ok (.aload_n 0, 1) := by decide +kernel
theorem dX5_column_82 : decode cX5_column 82 = .ok (.getfield 102, 3) := by decide +kernel
theorem dX5_column_85 : decode cX5_column 85 = .ok (.aload_n 0, 1) := by decide +kernel
theorem dX5_column_86 : decode cX5_column 86 = .ok (.getfield 105, 3) := by decide +kernel
theorem dX5_column_89 : decode cX5_column 89 = .ok (.iastore, 1) := by decide +kernel
theorem dX5_column_90 : decode cX5_column 90 = .ok (.aload_n 0, 1) := by decide +kernel
theorem dX5_column_91 : decode cX5_column 91 = .ok (.getfield 59, 3) := by decide +kernel
theorem dX5_column_94 : decode cX5_column 94 = .ok (.aload_n 0, 1) := by decide +kernel
theorem dX5_column_95 : decode cX5_column 95 = .ok (.getfield 102, 3) := by decide +kernel
theorem dX5_column_98 : decode cX5_column 98 = .ok (.iload_n 1, 1) := by decide +kernel
theorem dX5_column_99 : decode cX5_column 99 = .ok (.iastore, 1) := by decide +kernel
theorem dX5_column_100 : decode cX5_column 100 = .ok (.iconst 0, 1) := by decide +kernel
theorem dX5_column_101 : decode cX5_column 101 = .ok (.istore 4, 2) := by decide +kernel
theorem dX5_column_103 : decode cX5_column 103 = .ok (.iload 4, 2) := by decide +kernel
theorem dX5_column_105 : decode cX5_column 105 = .ok (.iload_n 1, 1) := by decide +kernel
theorem dX5_column_106 : decode cX5_column 106 = .ok (.if_icmp .ge 38, 3) := by decide +kernel
theorem dX5_column_109 : decode cX5_column 109 = .ok (.aload_n 0, 1) := by decide +kernel
theorem dX5_column_110 : decode cX5_column 110 = .ok (.getfield 62, 3) := by decide +kernel
theorem dX5_column_113 : decode cX5_column 113 = .ok (.aload_n 0, 1) := by decide +kernel
theorem dX5_column_114 : decode cX5_column 114 = .ok (.getfield 105, 3) := by decide +kernel
theorem dX5_column_117 : decode cX5_column 117 = .ok (.iload 4, 2) := by decide +kernel
theorem dX5_column_119 : decode cX5_column 119 = .ok (.iadd, 1) := by decide +kernel
theorem dX5_column_120 : decode cX5_column 120 = .ok (.aload_n 0, 1) := by decide +kernel
theorem dX5_column_121 : decode cX5_column 121 = .ok (.getfield 102, 3) := by decide +kernel
theorem dX5_column_124 : decode cX5_column 124 = .ok (.iastore, 1) := by decide +kernel
theorem dX5_column_125 : decode cX5_column 125 = .ok (.aload_n 0, 1) := by decide +kernel
theorem dX5_column_126 : decode cX5_column 126 = .ok (.getfield 65, 3) := by decide +kernel
theorem dX5_column_129 : decode cX5_column 129 = .ok (.aload_n 0, 1) := by decide +kernel
theorem dX5_column_130 : decode cX5_column 130 = .ok (.getfield 105, 3) := by decide +kernel
theorem dX5_column_133 : decode cX5_column 133 = .ok (.iload 4, 2) := by decide +kernel
theorem dX5_column_135 : decode cX5_column 135 = .ok (.iadd, 1) := by decide +kernel
theorem dX5_column_136 : decode cX5_column 136 = .ok (.iconst (-1), 1) := by decide +kernel
theorem dX5_column_137 : decode cX5_column 137 = .ok (.iastore, 1) := by decide +kernel
theorem dX5_column_138 : decode cX5_column 138 = .ok (.iinc 4 1, 3) := by decide +kernel
theorem dX5_column_141 : decode cX5_column 141 = .ok (.goto (-38), 3) := by decide +kernel
theorem dX5_column_144 : decode cX5_column 144 = .ok (.aload_n 0, 1) := by decide +kernel
theorem dX5_column_145 : decode cX5_column 145 = .ok (.dup, 1) := by decide +kernel
theorem dX5_column_146 : decode cX5_column 146 = .ok (.getfield 105, 3) := by decide +kernel
theorem dX5_column_149 : decode cX5_column 149 = .ok (.iload_n 1, 1) := by decide +kernel
theorem dX5_column_150 : decode cX5_column 150 = .ok (.iadd, 1) := by decide +kernel
theorem dX5_column_151 : decode cX5_column 151 = .ok (.putfield 105, 3) := by decide +kernel
theorem dX5_column_154 : decode cX5_column 154 = .ok (.aload_n 0, 1) := by decide +kernel
theorem dX5_column_155 : decode cX5_column 155 = .ok (.dup, 1) := by decide +kernel
theorem dX5_column_156 : decode cX5_column 156 = .ok (.getfield 102, 3) := by decide +kernel
theorem dX5_column_159 : decode cX5_column 159 = .ok (.iconst 1, 1) := by decide +kernel
theorem dX5_column_160 : decode cX5_column 160 = .ok (.iadd, 1) := by decide +kernel
theorem dX5_column_161 : decode cX5_column 161 = .ok (.putfield 102, 3) := by decide +kernel
theorem dX5_column_164 : decode cX5_column 164 = .ok (.aload_n 0, 1) := by decide +kernel
theorem dX5_column_165 : decode cX5_column 165 = .ok (.getfield 102, 3) := by decide +kernel
theorem dX5_column_168 : decode cX5_column 168 = .ok (.iconst 1, 1) := by decide +kernel
theorem dX5_column_169 : decode cX5_column 169 = .ok (.isub, 1) := by decide +kernel
theorem dX5_column_170 : decode cX5_column 170 = .ok (.ireturn, 1) := by decide +kernel
theorem dX5_turnOf_0 : decode cX5_turnOf 0 = .ok (.aload_n 0, 1) := by decide +kernel
theorem dX5_turnOf_1 : decode cX5_turnOf 1 = .ok (.getfield 23, 3) := by decide +kernel
theorem dX5_turnOf_4 : decode cX5_turnOf 4 = .ok (.iload_n 1, 1) := by decide +kernel
theorem dX5_turnOf_5 : decode cX5_turnOf 5 = .ok (.iaload, 1) := by decide +kernel
theorem dX5_turnOf_6 : decode cX5_turnOf 6 = .ok (.aload_n 0, 1) := by decide +kernel
theorem dX5_turnOf_7 : decode cX5_turnOf 7 = .ok (.getfield 26, 3) := by decide +kernel
theorem dX5_turnOf_10 : decode cX5_turnOf 10 = .ok (.iload_n 2, 1) := by decide +kernel
theorem dX5_turnOf_11 : decode cX5_turnOf 11 = .ok (.iaload, 1) := by decide +kernel
theorem dX5_turnOf_12 : decode cX5_turnOf 12 = .ok (.isub, 1) := by decide +kernel
theorem dX5_turnOf_13 : decode cX5_turnOf 13 = .ok (.invokestatic 118, 3) := by decide +kernel
theorem dX5_turnOf_16 : decode cX5_turnOf 16 = .ok (.aload_n 0, 1) := by decide +kernel
theorem dX5_turnOf_17 : decode cX5_turnOf 17 = .ok (.getfield 29, 3) := by decide +kernel
theorem dX5_turnOf_20 : decode cX5_turnOf 20 = .ok (.iload_n 1, 1) := by decide +kernel
theorem dX5_turnOf_21 : decode cX5_turnOf 21 = .ok (.iaload, 1) := by decide +kernel
theorem dX5_turnOf_22 : decode cX5_turnOf 22 = .ok (.aload_n 0, 1) := by decide +kernel
theorem dX5_turnOf_23 : decode cX5_turnOf 23 = .ok (.getfield 29, 3) := by decide +kernel
theorem dX5_turnOf_26 : decode cX5_turnOf 26 = .ok (.iload_n 2, 1) := by decide +kernel
theorem dX5_turnOf_27 : decode cX5_turnOf 27 = .ok (.iaload, 1) := by decide +kernel
theorem dX5_turnOf_28 : decode cX5_turnOf 28 = .ok (.iadd, 1) := by decide +kernel
theorem dX5_turnOf_29 : decode cX5_turnOf 29 = .ok (.aload_n 0, 1) := by decide +kernel
theorem dX5_turnOf_30 : decode cX5_turnOf 30 = .ok (.getfield 9, 3) := by decide +kernel
theorem dX5_turnOf_33 : decode cX5_turnOf 33 = .ok (.iadd, 1) := by decide +kernel
theorem dX5_turnOf_34 : decode cX5_turnOf 34 = .ok (.if_icmp .le 5, 3) := by decide +kernel
theorem dX5_turnOf_37 : decode cX5_turnOf 37 = .ok (.iconst (-1), 1) := by decide +kernel
theorem dX5_turnOf_38 : decode cX5_turnOf 38 = .ok (.ireturn, 1) := by decide +kernel
theorem dX5_turnOf_39 : decode cX5_turnOf 39 = .ok (.aload_n 0, 1) := by decide +kernel
theorem dX5_turnOf_40 : decode cX5_turnOf 40 = .ok (.getfield 35, 3) := by decide +kernel
theorem dX5_turnOf_43 : decode cX5_turnOf 43 = .ok (.iload_n 1, 1) := by decide +kernel
theorem dX5_turnOf_44 : decode cX5_turnOf 44 = .ok (.iaload, 1) := by decide +kernel
theorem dX5_turnOf_45 : decode cX5_turnOf 45 = .ok (.ifCond .eq 29, 3) := by decide +kernel
theorem dX5_turnOf_48 : decode cX5_turnOf 48 = .ok (.aload_n 0, 1) := by decide +kernel
theorem dX5_turnOf_49 : decode cX5_turnOf 49 = .ok (.getfield 35, 3) := by decide +kernel
theorem dX5_turnOf_52 : decode cX5_turnOf 52 = .ok (.iload_n 2, 1) := by decide +kernel
theorem dX5_turnOf_53 : decode cX5_turnOf 53 = .ok (.iaload, 1) := by decide +kernel
theorem dX5_turnOf_54 : decode cX5_turnOf 54 = .ok (.ifCond .eq 20, 3) := by decide +kernel
theorem dX5_turnOf_57 : decode cX5_turnOf 57 = .ok (.aload_n 0, 1) := by decide +kernel
theorem dX5_turnOf_58 : decode cX5_turnOf 58 = .ok (.getfield 35, 3) := by decide +kernel
theorem dX5_turnOf_61 : decode cX5_turnOf 61 = .ok (.iload_n 1, 1) := by decide +kernel
theorem dX5_turnOf_62 : decode cX5_turnOf 62 = .ok (.iaload, 1) := by decide +kernel
theorem dX5_turnOf_63 : decode cX5_turnOf 63 = .ok (.aload_n 0, 1) := by decide +kernel
theorem dX5_turnOf_64 : decode cX5_turnOf 64 = .ok (.getfield 35, 3) := by decide +kernel
theorem dX5_turnOf_67 : decode cX5_turnOf 67 = .ok (.iload_n 2, 1) := by decide +kernel
theorem dX5_turnOf_68 : decode cX5_turnOf 68 = .ok (.iaload, 1) := by decide +kernel
theorem dX5_turnOf_69 : decode cX5_turnOf 69 = .ok (.if_icmp .eq 5, 3) := by decide +kernel
theorem dX5_turnOf_72 : decode cX5_turnOf 72 = .ok (.iconst (-1), 1) := by decide +kernel
theorem dX5_turnOf_73 : decode cX5_turnOf 73 = .ok (.ireturn, 1) := by decide +kernel
theorem dX5_turnOf_74 : decode cX5_turnOf 74 = .ok (.aload_n 0, 1) := by decide +kernel
theorem dX5_turnOf_75 : decode cX5_turnOf 75 = .ok (.getfield 38, 3) := by decide +kernel
theorem dX5_turnOf_78 : decode cX5_turnOf 78 = .ok (.iload_n 1, 1) := by decide +kernel
theorem dX5_turnOf_79 : decode cX5_turnOf 79 = .ok (.iaload, 1) := by decide +kernel
theorem dX5_turnOf_80 : decode cX5_turnOf 80 = .ok (.ifCond .eq 12, 3) := by decide +kernel
theorem dX5_turnOf_83 : decode cX5_turnOf 83 = .ok (.aload_n 0, 1) := by decide +kernel
theorem dX5_turnOf_84 : decode cX5_turnOf 84 = .ok (.getfield 41, 3) := by decide +kernel
theorem dX5_turnOf_87 : decode cX5_turnOf 87 = .ok (.iload_n 2, 1) := by decide +kernel
theorem dX5_turnOf_88 : decode cX5_turnOf 88 = .ok (.iaload, 1) := by decide +kernel
theorem dX5_turnOf_89 : decode cX5_turnOf 89 = .ok (.ifCond .ne 5, 3) := by decide +kernel
theorem dX5_turnOf_92 : decode cX5_turnOf 92 = .ok (.iconst 0, 1) := by decide +kernel
theorem dX5_turnOf_93 : decode cX5_turnOf 93 = .ok (.ireturn, 1) := by decide +kernel
theorem dX5_turnOf_94 : decode cX5_turnOf 94 = .ok (.iconst 0, 1) := by decide +kernel
theorem dX5_turnOf_95 : decode cX5_turnOf 95 = .ok (.istore_n 3, 1) := by decide +kernel
theorem dX5_turnOf_96 : decode cX5_turnOf 96 = .ok (.iload_n 3, 1) := by decide +kernel
theorem dX5_turnOf_97 : decode cX5_turnOf 97 = .ok (.bipush 16, 2) := by decide +kernel
theorem dX5_turnOf_99 : decode cX5_turnOf 99 = .ok (.if_icmp .ge 47, 3) := by decide +kernel
theorem dX5_turnOf_102 : decode cX5_turnOf 102 = .ok (.aload_n 0, 1) := by decide +kernel
theorem dX5_turnOf_103 : decode cX5_turnOf 103 = .ok (.getfield 38, 3) := by decide +kernel
theorem dX5_turnOf_106 : decode cX5_turnOf 106 = .ok (.iload_n 1, 1) := by decide +kernel
theorem dX5_turnOf_107 : decode cX5_turnOf 107 = .ok (.iaload, 1) := by decide +kernel
theorem dX5_turnOf_108 : decode cX5_turnOf 108 = .ok (.iload_n 3, 1) := by decide +kernel
theorem dX5_turnOf_109 : decode cX5_turnOf 109 = .ok (.ishl, 1) := by decide +kernel
theorem dX5_turnOf_110 : decode cX5_turnOf 110 = .ok (.aload_n 0, 1) := by decide +kernel
theorem dX5_turnOf_111 : decode cX5_turnOf 111 = .ok (.getfield 38, 3) := by decide +kernel
theorem dX5_turnOf_114 : decode cX5_turnOf 114 = .ok (.iload_n 1, 1) := by decide +kernel
theorem dX5_turnOf_115 : decode cX5_turnOf 115 = .ok (.iaload, 1) := by decide +kernel
theorem dX5_turnOf_116 : decode cX5_turnOf 116 = .ok (.bipush 16, 2) := by decide +kernel
theorem dX5_turnOf_118 : decode cX5_turnOf 118 = .ok (.iload_n 3, 1) := by decide +kernel
theorem dX5_turnOf_119 : decode cX5_turnOf 119 = .ok (.isub, 1) := by decide +kernel
theorem dX5_turnOf_120 : decode cX5_turnOf 120 = .ok (.ishr, 1) := by decide +kernel
theorem dX5_turnOf_121 : decode cX5_turnOf 121 = .ok (.ior, 1) := by decide +kernel
theorem dX5_turnOf_122 : decode cX5_turnOf 122 = .ok (.ldc 116, 2) := by decide +kernel
theorem dX5_turnOf_124 : decode cX5_turnOf 124 = .ok (.iand, 1) := by decide +kernel
theorem dX5_turnOf_125 : decode cX5_turnOf 125 = .ok (.istore 4, 2) := by decide +kernel
theorem dX5_turnOf_127 : decode cX5_turnOf 127 = .ok (.iload 4, 2) := by decide +kernel
theorem dX5_turnOf_129 : decode cX5_turnOf 129 = .ok (.aload_n 0, 1) := by decide +kernel
theorem dX5_turnOf_130 : decode cX5_turnOf 130 = .ok (.getfield 41, 3) := by decide +kernel
theorem dX5_turnOf_133 : decode cX5_turnOf 133 = .ok (.iload_n 2, 1) := by decide +kernel
theorem dX5_turnOf_134 : decode cX5_turnOf 134 = .ok (.iaload, 1) := by decide +kernel
theorem dX5_turnOf_135 : decode cX5_turnOf 135 = .ok (.if_icmp .ne 5, 3) := by decide +kernel
theorem dX5_turnOf_138 : decode cX5_turnOf 138 = .ok (.iload_n 3, 1) := by decide +kernel
theorem dX5_turnOf_139 : decode cX5_turnOf 139 = .ok (.ireturn, 1) := by decide +kernel
theorem dX5_turnOf_140 : decode cX5_turnOf 140 = .ok (.iinc 3 1, 3) := by decide +kernel
theorem dX5_turnOf_143 : decode cX5_turnOf 143 = .ok (.goto (-47), 3) := by decide +kernel
theorem dX5_turnOf_146 : decode cX5_turnOf 146 = .ok (.iconst (-1), 1) := by decide +kernel
theorem dX5_turnOf_147 : decode cX5_turnOf 147 = .ok (.ireturn, 1) := by decide +kernel
theorem dX5_turn_0 : decode cX5_turn 0 = .ok (.aload_n 0, 1) := by decide +kernel
theorem dX5_turn_1 : decode cX5_turn 1 = .ok (.iconst 0, 1) := by decide +kernel
theorem dX5_turn_2 : decode cX5_turn 2 = .ok (.putfield 92, 3) := by decide +kernel
theorem dX5_turn_5 : decode cX5_turn 5 = .ok (.aload_n 0, 1) := by decide +kernel
theorem dX5_turn_6 : decode cX5_turn 6 = .ok (.iload_n 1, 1) := by decide +kernel
theorem dX5_turn_7 : decode cX5_turn 7 = .ok (.invokevirtual 124, 3) := by decide +kernel
theorem dX5_turn_10 : decode cX5_turn 10 = .ok (.ifCond .eq 25, 3) := by decide +kernel
theorem dX5_turn_13 : decode cX5_turn 13 = .ok (.aload_n 0, 1) := by decide +kernel
theorem dX5_turn_14 : decode cX5_turn 14 = .ok (.iload_n 2, 1) := by decide +kernel
theorem dX5_turn_15 : decode cX5_turn 15 = .ok (.invokevirtual 124, 3) := by decide +kernel
theorem dX5_turn_18 : decode cX5_turn 18 = .ok (.ifCond .eq 17, 3) := by decide +kernel
theorem dX5_turn_21 : decode cX5_turn 21 = .ok (.iload_n 1, 1) := by decide +kernel
theorem dX5_turn_22 : decode cX5_turn 22 = .ok (.iload_n 2, 1) := by decide +kernel
theorem dX5_turn_23 : decode cX5_turn 23 = .ok (.if_icmp .eq 12, 3) := by decide +kernel
theorem dX5_turn_26 : decode cX5_turn 26 = .ok (.aload_n 0, 1) := by decide +kernel
theorem dX5_turn_27 : decode cX5_turn 27 = .ok (.iload_n 1, 1) := by decide +kernel
theorem dX5_turn_28 : decode cX5_turn 28 = .ok (.iload_n 2, 1) := by decide +kernel
theorem dX5_turn_29 : decode cX5_turn 29 = .ok (.invokevirtual 127, 3) := by decide +kernel
theorem dX5_turn_32 : decode cX5_turn 32 = .ok (.goto 4, 3) := by decide +kernel
theorem dX5_turn_35 : decode cX5_turn 35 = .ok (.iconst (-1), 1) := by decide +kernel
theorem dX5_turn_36 : decode cX5_turn 36 = .ok (.ireturn, 1) := by decide +kernel
theorem dX5_fitsFoot_0 : decode cX5_fitsFoot 0 = .ok (.aload_n 0, 1) := by decide +kernel
theorem dX5_fitsFoot_1 : decode cX5_fitsFoot 1 = .ok (.getfield 50, 3) := by decide +kernel
theorem dX5_fitsFoot_4 : decode cX5_fitsFoot 4 = .ok (.iload_n 2, 1) := by decide +kernel
theorem dX5_fitsFoot_5 : decode cX5_fitsFoot 5 = .ok (.iaload, 1) := by decide +kernel
theorem dX5_fitsFoot_6 : decode cX5_fitsFoot 6 = .ok (.ifCond .eq 33, 3) := by decide +kernel
theorem dX5_fitsFoot_9 : decode cX5_fitsFoot 9 = .ok (.aload_n 0, 1) := by decide +kernel
theorem dX5_fitsFoot_10 : decode cX5_fitsFoot 10 = .ok (.getfield 23, 3) := by decide +kernel
theorem dX5_fitsFoot_13 : decode cX5_fitsFoot 13 = .ok (.iload_n 1, 1) := by decide +kernel
theorem dX5_fitsFoot_14 : decode cX5_fitsFoot 14 = .ok (.iaload, 1) := by decide +kernel
theorem dX5_fitsFoot_15 : decode cX5_fitsFoot 15 = .ok (.aload_n 0, 1) := by decide +kernel
theorem dX5_fitsFoot_16 : decode cX5_fitsFoot 16 = .ok (.getfield 50, 3) := by decide +kernel
theorem dX5_fitsFoot_19 : decode cX5_fitsFoot 19 = .ok (.iload_n 2, 1) := by decide +kernel
theorem dX5_fitsFoot_20 : decode cX5_fitsFoot 20 = .ok (.iaload, 1) := by decide +kernel
theorem dX5_fitsFoot_21 : decode cX5_fitsFoot 21 = .ok (.isub, 1) := by decide +kernel
theorem dX5_fitsFoot_22 : decode cX5_fitsFoot 22 = .ok (.invokestatic 118, 3) := by decide +kernel
theorem dX5_fitsFoot_25 : decode cX5_fitsFoot 25 = .ok (.aload_n 0, 1) := by decide +kernel
theorem dX5_fitsFoot_26 : decode cX5_fitsFoot 26 = .ok (.getfield 29, 3) := by decide +kernel
theorem dX5_fitsFoot_29 : decode cX5_fitsFoot 29 = .ok (.iload_n 1, 1) := by decide +kernel
theorem dX5_fitsFoot_30 : decode cX5_fitsFoot 30 = .ok (.iaload, 1) := by decide +kernel
theorem dX5_fitsFoot_31 : decode cX5_fitsFoot 31 = .ok (.aload_n 0, 1) := by decide +kernel
theorem dX5_fitsFoot_32 : decode cX5_fitsFoot 32 = .ok (.getfield 9, 3) := by decide +kernel
theorem dX5_fitsFoot_35 : decode cX5_fitsFoot 35 = .ok (.iadd, 1) := by decide +kernel
theorem dX5_fitsFoot_36 : decode cX5_fitsFoot 36 = .ok (.if_icmp .gt 7, 3) := by decide +kernel
theorem dX5_fitsFoot_39 : decode cX5_fitsFoot 39 = .ok (.iconst 1, 1) := by decide +kernel
theorem dX5_fitsFoot_40 : decode cX5_fitsFoot 40 = .ok (.goto 4, 3) := by decide +kernel
theorem dX5_fitsFoot_43 : decode cX5_fitsFoot 43 = .ok (.iconst 0, 1) := by decide +kernel
theorem dX5_fitsFoot_44 : decode cX5_fitsFoot 44 = .ok (.ireturn, 1) := by decide +kernel
theorem dX5_fitsHead_0 : decode cX5_fitsHead 0 = .ok (.aload_n 0, 1) := by decide +kernel
theorem dX5_fitsHead_1 : decode cX5_fitsHead 1 = .ok (.getfield 53, 3) := by decide +kernel
theorem dX5_fitsHead_4 : decode cX5_fitsHead 4 = .ok (.iload_n 2, 1) := by decide +kernel
theorem dX5_fitsHead_5 : decode cX5_fitsHead 5 = .ok (.iaload, 1) := by decide +kernel
theorem dX5_fitsHead_6 : decode cX5_fitsHead 6 = .ok (.ifCond .eq 33, 3) := by decide +kernel
theorem dX5_fitsHead_9 : decode cX5_fitsHead 9 = .ok (.aload_n 0, 1) := by decide +kernel
theorem dX5_fitsHead_10 : decode cX5_fitsHead 10 = .ok (.getfield 26, 3) := by decide +kernel
theorem dX5_fitsHead_13 : decode cX5_fitsHead 13 = .ok (.iload_n 1, 1) := by decide +kernel
theorem dX5_fitsHead_14 : decode cX5_fitsHead 14 = .ok (.iaload, 1) := by decide +kernel
theorem dX5_fitsHead_15 : decode cX5_fitsHead 15 = .ok (.aload_n 0, 1) := by decide +kernel
theorem dX5_fitsHead_16 : decode cX5_fitsHead 16 = .ok (.getfield 53, 3) := by decide +kernel
theorem dX5_fitsHead_19 : decode cX5_fitsHead 19 = .ok (.iload_n 2, 1) := by decide +kernel
theorem dX5_fitsHead_20 : decode cX5_fitsHead 20 = .ok (.iaload, 1) := by decide +kernel
theorem dX5_fitsHead_21 : decode cX5_fitsHead 21 = .ok (.isub, 1) := by decide +kernel
theorem dX5_fitsHead_22 : decode cX5_fitsHead 22 = .ok (.invokestatic 118, 3) := by decide +kernel
theorem dX5_fitsHead_25 : decode cX5_fitsHead 25 = .ok (.aload_n 0, 1) := by decide +kernel
theorem dX5_fitsHead_26 : decode cX5_fitsHead 26 = .ok (.getfield 29, 3) := by decide +kernel
theorem dX5_fitsHead_29 : decode cX5_fitsHead 29 = .ok (.iload_n 1, 1) := by decide +kernel
theorem dX5_fitsHead_30 : decode cX5_fitsHead 30 = .ok (.iaload, 1) := by decide +kernel
theorem dX5_fitsHead_31 : decode cX5_fitsHead 31 = .ok (.aload_n 0, 1) := by decide +kernel
theorem dX5_fitsHead_32 : decode cX5_fitsHead 32 = .ok (.getfield 9, 3) := by decide +kernel
theorem dX5_fitsHead_35 : decode cX5_fitsHead 35 = .ok (.iadd, 1) := by decide +kernel
theorem dX5_fitsHead_36 : decode cX5_fitsHead 36 = .ok (.if_icmp .gt 7, 3) := by decide +kernel
theorem dX5_fitsHead_39 : decode cX5_fitsHead 39 = .ok (.iconst 1, 1) := by decide +kernel
theorem dX5_fitsHead_40 : decode cX5_fitsHead 40 = .ok (.goto 4, 3) := by decide +kernel
theorem dX5_fitsHead_43 : decode cX5_fitsHead 43 = .ok (.iconst 0, 1) := by decide +kernel
theorem dX5_fitsHead_44 : decode cX5_fitsHead 44 = .ok (.ireturn, 1) := by decide +kernel
theorem dX5_fits_0 : decode cX5_fits 0 = .ok (.aload_n 0, 1) := by decide +kernel
theorem dX5_fits_1 : decode cX5_fits 1 = .ok (.iconst 0, 1) := by decide +kernel
theorem dX5_fits_2 : decode cX5_fits 2 = .ok (.putfield 92, 3) := by decide +kernel
theorem dX5_fits_5 : decode cX5_fits 5 = .ok (.aload_n 0, 1) := by decide +kernel
theorem dX5_fits_6 : decode cX5_fits 6 = .ok (.iload_n 1, 1) := by decide +kernel
theorem dX5_fits_7 : decode cX5_fits 7 = .ok (.invokevirtual 124, 3) := by decide +kernel
theorem dX5_fits_10 : decode cX5_fits 10 = .ok (.ifCond .eq 11, 3) := by decide +kernel
theorem dX5_fits_13 : decode cX5_fits 13 = .ok (.aload_n 0, 1) := by decide +kernel
theorem dX5_fits_14 : decode cX5_fits 14 = .ok (.iload_n 2, 1) := by decide +kernel
theorem dX5_fits_15 : decode cX5_fits 15 = .ok (.invokevirtual 131, 3) := by decide +kernel
theorem dX5_fits_18 : decode cX5_fits 18 = .ok (.ifCond .ne 5, 3) := by decide +kernel
theorem dX5_fits_21 : decode cX5_fits 21 = .ok (.iconst (-1), 1) := by decide +kernel
theorem dX5_fits_22 : decode cX5_fits 22 = .ok (.ireturn, 1) := by decide +kernel
theorem dX5_fits_23 : decode cX5_fits 23 = .ok (.aload_n 0, 1) := by decide +kernel
theorem dX5_fits_24 : decode cX5_fits 24 = .ok (.iload_n 1, 1) := by decide +kernel
theorem dX5_fits_25 : decode cX5_fits 25 = .ok (.iload_n 2, 1) := by decide +kernel
theorem dX5_fits_26 : decode cX5_fits 26 = .ok (.invokevirtual 134, 3) := by decide +kernel
theorem dX5_fits_29 : decode cX5_fits 29 = .ok (.ifCond .eq 7, 3) := by decide +kernel
theorem dX5_fits_32 : decode cX5_fits 32 = .ok (.iconst 1, 1) := by decide +kernel
theorem dX5_fits_33 : decode cX5_fits 33 = .ok (.goto 4, 3) := by decide +kernel
theorem dX5_fits_36 : decode cX5_fits 36 = .ok (.iconst 0, 1) := by decide +kernel
theorem dX5_fits_37 : decode cX5_fits 37 = .ok (.aload_n 0, 1) := by decide +kernel
theorem dX5_fits_38 : decode cX5_fits 38 = .ok (.iload_n 1, 1) := by decide +kernel
theorem dX5_fits_39 : decode cX5_fits 39 = .ok (.iload_n 2, 1) := by decide +kernel
theorem dX5_fits_40 : decode cX5_fits 40 = .ok (.invokevirtual 138, 3) := by decide +kernel
theorem dX5_fits_43 : decode cX5_fits 43 = .ok (.ifCond .eq 7, 3) := by decide +kernel
theorem dX5_fits_46 : decode cX5_fits 46 = .ok (.iconst 2, 1) := by decide +kernel
theorem dX5_fits_47 : decode cX5_fits 47 = .ok (.goto 4, 3) := by decide +kernel
theorem dX5_fits_50 : decode cX5_fits 50 = .ok (.iconst 0, 1) := by decide +kernel
theorem dX5_fits_51 : decode cX5_fits 51 = .ok (.iadd, 1) := by decide +kernel
theorem dX5_fits_52 : decode cX5_fits 52 = .ok (.ireturn, 1) := by decide +kernel
theorem dX5_hand_0 : decode cX5_hand 0 = .ok (.aload_n 0, 1) := by decide +kernel
theorem dX5_hand_1 : decode cX5_hand 1 = .ok (.iconst 0, 1) := by decide +kernel
theorem dX5_hand_2 : decode cX5_hand 2 = .ok (.putfield 92, 3) := by decide +kernel
theorem dX5_hand_5 : decode cX5_hand 5 = .ok (.aload_n 0, 1) := by decide +kernel
theorem dX5_hand_6 : decode cX5_hand 6 = .ok (.iload_n 1, 1) := by decide +kernel
theorem dX5_hand_7 : decode cX5_hand 7 = .ok (.invokevirtual 141, 3) := by decide +kernel
theorem dX5_hand_10 : decode cX5_hand 10 = .ok (.ifCond .eq 22, 3) := by decide +kernel
theorem dX5_hand_13 : decode cX5_hand 13 = .ok (.iload_n 2, 1) := by decide +kernel
theorem dX5_hand_14 : decode cX5_hand 14 = .ok (.iconst (-1), 1) := by decide +kernel
theorem dX5_hand_15 : decode cX5_hand 15 = .ok (.if_icmp .eq 19, 3) := by decide +kernel
theorem dX5_hand_18 : decode cX5_hand 18 = .ok (.iload_n 2, 1) := by decide +kernel
theorem dX5_hand_19 : decode cX5_hand 19 = .ok (.bipush 10, 2) := by decide +kernel
theorem dX5_hand_21 : decode cX5_hand 21 = .ok (.if_icmp .eq 13, 3) := by decide +kernel
theorem dX5_hand_24 : decode cX5_hand 24 = .ok (.aload_n 0, 1) := by decide +kernel
theorem dX5_hand_25 : decode cX5_hand 25 = .ok (.iload_n 2, 1) := by decide +kernel
theorem dX5_hand_26 : decode cX5_hand 26 = .ok (.invokevirtual 124, 3) := by decide +kernel
theorem dX5_hand_29 : decode cX5_hand 29 = .ok (.ifCond .ne 5, 3) := by decide +kernel
theorem dX5_hand_32 : decode cX5_hand 32 = .ok (.iconst 0, 1) := by decide +kernel
theorem dX5_hand_33 : decode cX5_hand 33 = .ok (.ireturn, 1) := by decide +kernel
theorem dX5_hand_34 : decode cX5_hand 34 = .ok (.aload_n 0, 1) := by decide +kernel
theorem dX5_hand_35 : decode cX5_hand 35 = .ok (.getfield 65, 3) := by decide +kernel
theorem dX5_hand_38 : decode cX5_hand 38 = .ok (.iload_n 1, 1) := by decide +kernel
theorem dX5_hand_39 : decode cX5_hand 39 = .ok (.iload_n 2, 1) := by decide +kernel
theorem dX5_hand_40 : decode cX5_hand 40 = .ok (.iastore, 1) := by decide +kernel
theorem dX5_hand_41 : decode cX5_hand 41 = .ok (.iconst 1, 1) := by decide +kernel
theorem dX5_hand_42 : decode cX5_hand 42 = .ok (.ireturn, 1) := by decide +kernel
theorem dX5_not_0 : decode cX5_not 0 = .ok (.aload_n 0, 1) := by decide +kernel
theorem dX5_not_1 : decode cX5_not 1 = .ok (.iconst 0, 1) := by decide +kernel
theorem dX5_not_2 : decode cX5_not 2 = .ok (.putfield 92, 3) := by decide +kernel
theorem dX5_not_5 : decode cX5_not 5 = .ok (.aload_n 0, 1) := by decide +kernel
theorem dX5_not_6 : decode cX5_not 6 = .ok (.iload_n 1, 1) := by decide +kernel
theorem dX5_not_7 : decode cX5_not 7 = .ok (.invokevirtual 141, 3) := by decide +kernel
theorem dX5_not_10 : decode cX5_not 10 = .ok (.ifCond .eq 26, 3) := by decide +kernel
theorem dX5_not_13 : decode cX5_not 13 = .ok (.aload_n 0, 1) := by decide +kernel
theorem dX5_not_14 : decode cX5_not 14 = .ok (.iload_n 2, 1) := by decide +kernel
theorem dX5_not_15 : decode cX5_not 15 = .ok (.invokevirtual 124, 3) := by decide +kernel
theorem dX5_not_18 : decode cX5_not 18 = .ok (.ifCond .eq 18, 3) := by decide +kernel
theorem dX5_not_21 : decode cX5_not 21 = .ok (.aload_n 0, 1) := by decide +kernel
theorem dX5_not_22 : decode cX5_not 22 = .ok (.getfield 68, 3) := by decide +kernel
theorem dX5_not_25 : decode cX5_not 25 = .ok (.bipush 10, 2) := by decide +kernel
theorem dX5_not_27 : decode cX5_not 27 = .ok (.iload_n 1, 1) := by decide +kernel
theorem dX5_not_28 : decode cX5_not 28 = .ok (.imul, 1) := by decide +kernel
theorem dX5_not_29 : decode cX5_not 29 = .ok (.iload_n 2, 1) := by decide +kernel
theorem dX5_not_30 : decode cX5_not 30 = .ok (.iadd, 1) := by decide +kernel
theorem dX5_not_31 : decode cX5_not 31 = .ok (.baload, 1) := by decide +kernel
theorem dX5_not_32 : decode cX5_not 32 = .ok (.iload_n 3, 1) := by decide +kernel
theorem dX5_not_33 : decode cX5_not 33 = .ok (.if_icmp .ne 5, 3) := by decide +kernel
theorem dX5_not_36 : decode cX5_not 36 = .ok (.iconst 0, 1) := by decide +kernel
theorem dX5_not_37 : decode cX5_not 37 = .ok (.ireturn, 1) := by decide +kernel
theorem dX5_not_38 : decode cX5_not 38 = .ok (.aload_n 0, 1) := by decide +kernel
theorem dX5_not_39 : decode cX5_not 39 = .ok (.getfield 68, 3) := by decide +kernel
theorem dX5_not_42 : decode cX5_not 42 = .ok (.bipush 10, 2) := by decide +kernel
theorem dX5_not_44 : decode cX5_not 44 = .ok (.iload_n 1, 1) := by decide +kernel
theorem dX5_not_45 : decode cX5_not 45 = .ok (.imul, 1) := by decide +kernel
theorem dX5_not_46 : decode cX5_not 46 = .ok (.iload_n 2, 1) := by decide +kernel
theorem dX5_not_47 : decode cX5_not 47 = .ok (.iadd, 1) := by decide +kernel
theorem dX5_not_48 : decode cX5_not 48 = .ok (.iload_n 3, 1) := by decide +kernel
theorem dX5_not_49 : decode cX5_not 49 = .ok (.bastore, 1) := by decide +kernel
theorem dX5_not_50 : decode cX5_not 50 = .ok (.iconst 1, 1) := by decide +kernel
theorem dX5_not_51 : decode cX5_not 51 = .ok (.ireturn, 1) := by decide +kernel
theorem dX5_index_0 : decode cX5_index 0 = .ok (.sipush 1024, 3) := by decide +kernel
theorem dX5_index_3 : decode cX5_index 3 = .ok (.iload_n 0, 1) := by decide +kernel
theorem dX5_index_4 : decode cX5_index 4 = .ok (.imul, 1) := by decide +kernel
theorem dX5_index_5 : decode cX5_index 5 = .ok (.iload_n 1, 1) := by decide +kernel
theorem dX5_index_6 : decode cX5_index 6 = .ok (.iadd, 1) := by decide +kernel
theorem dX5_index_7 : decode cX5_index 7 = .ok (.bipush 11, 2) := by decide +kernel
theorem dX5_index_9 : decode cX5_index 9 = .ok (.imul, 1) := by decide +kernel
theorem dX5_index_10 : decode cX5_index 10 = .ok (.iload_n 2, 1) := by decide +kernel
theorem dX5_index_11 : decode cX5_index 11 = .ok (.iadd, 1) := by decide +kernel
theorem dX5_index_12 : decode cX5_index 12 = .ok (.ireturn, 1) := by decide +kernel
theorem dX5_may_0 : decode cX5_may 0 = .ok (.aload_n 0, 1) := by decide +kernel
theorem dX5_may_1 : decode cX5_may 1 = .ok (.getfield 65, 3) := by decide +kernel
theorem dX5_may_4 : decode cX5_may 4 = .ok (.iload_n 1, 1) := by decide +kernel
theorem dX5_may_5 : decode cX5_may 5 = .ok (.iaload, 1) := by decide +kernel
theorem dX5_may_6 : decode cX5_may 6 = .ok (.iconst (-1), 1) := by decide +kernel
theorem dX5_may_7 : decode cX5_may 7 = .ok (.if_icmp .eq 15, 3) := by decide +kernel
theorem dX5_may_10 : decode cX5_may 10 = .ok (.aload_n 0, 1) := by decide +kernel
theorem dX5_may_11 : decode cX5_may 11 = .ok (.getfield 65, 3) := by decide +kernel
theorem dX5_may_14 : decode cX5_may 14 = .ok (.iload_n 1, 1) := by decide +kernel
theorem dX5_may_15 : decode cX5_may 15 = .ok (.iaload, 1) := by decide +kernel
theorem dX5_may_16 : decode cX5_may 16 = .ok (.iload_n 2, 1) := by decide +kernel
theorem dX5_may_17 : decode cX5_may 17 = .ok (.if_icmp .eq 5, 3) := by decide +kernel
theorem dX5_may_20 : decode cX5_may 20 = .ok (.iconst 0, 1) := by decide +kernel
theorem dX5_may_21 : decode cX5_may 21 = .ok (.ireturn, 1) := by decide +kernel
theorem dX5_may_22 : decode cX5_may 22 = .ok (.iload_n 2, 1) := by decide +kernel
theorem dX5_may_23 : decode cX5_may 23 = .ok (.bipush 10, 2) := by decide +kernel
theorem dX5_may_25 : decode cX5_may 25 = .ok (.if_icmp .ne 5, 3) := by decide +kernel
theorem dX5_may_28 : decode cX5_may 28 = .ok (.iconst 1, 1) := by decide +kernel
theorem dX5_may_29 : decode cX5_may 29 = .ok (.ireturn, 1) := by decide +kernel
theorem dX5_may_30 : decode cX5_may 30 = .ok (.aload_n 0, 1) := by decide +kernel
theorem dX5_may_31 : decode cX5_may 31 = .ok (.getfield 62, 3) := by decide +kernel
theorem dX5_may_34 : decode cX5_may 34 = .ok (.iload_n 1, 1) := by decide +kernel
theorem dX5_may_35 : decode cX5_may 35 = .ok (.iaload, 1) := by decide +kernel
theorem dX5_may_36 : decode cX5_may 36 = .ok (.istore 5, 2) := by decide +kernel
theorem dX5_may_38 : decode cX5_may 38 = .ok (.iload_n 1, 1) := by decide +kernel
theorem dX5_may_39 : decode cX5_may 39 = .ok (.aload_n 0, 1) := by decide +kernel
theorem dX5_may_40 : decode cX5_may 40 = .ok (.getfield 56, 3) := by decide +kernel
theorem dX5_may_43 : decode cX5_may 43 = .ok (.iload 5, 2) := by decide +kernel
theorem dX5_may_45 : decode cX5_may 45 = .ok (.iaload, 1) := by decide +kernel
theorem dX5_may_46 : decode cX5_may 46 = .ok (.if_icmp .ne 7, 3) := by decide +kernel
theorem dX5_may_49 : decode cX5_may 49 = .ok (.iconst 1, 1) := by decide +kernel
theorem dX5_may_50 : decode cX5_may 50 = .ok (.goto 4, 3) := by decide +kernel
theorem dX5_may_53 : decode cX5_may 53 = .ok (.iconst 0, 1) := by decide +kernel
theorem dX5_may_54 : decode cX5_may 54 = .ok (.istore 6, 2) := by decide +kernel
theorem dX5_may_56 : decode cX5_may 56 = .ok (.iload_n 1, 1) := by decide +kernel
theorem dX5_may_57 : decode cX5_may 57 = .ok (.aload_n 0, 1) := by decide +kernel
theorem dX5_may_58 : decode cX5_may 58 = .ok (.getfield 56, 3) := by decide +kernel
theorem dX5_may_61 : decode cX5_may 61 = .ok (.iload 5, 2) := by decide +kernel
theorem dX5_may_63 : decode cX5_may 63 = .ok (.iaload, 1) := by decide +kernel
theorem dX5_may_64 : decode cX5_may 64 = .ok (.aload_n 0, 1) := by decide +kernel
theorem dX5_may_65 : decode cX5_may 65 = .ok (.getfield 59, 3) := by decide +kernel
theorem dX5_may_68 : decode cX5_may 68 = .ok (.iload 5, 2) := by decide +kernel
theorem dX5_may_70 : decode cX5_may 70 = .ok (.iaload, 1) := by decide +kernel
theorem dX5_may_71 : decode cX5_may 71 = .ok (.iadd, 1) := by decide +kernel
theorem dX5_may_72 : decode cX5_may 72 = .ok (.iconst 1, 1) := by decide +kernel
theorem dX5_may_73 : decode cX5_may 73 = .ok (.isub, 1) := by decide +kernel
theorem dX5_may_74 : decode cX5_may 74 = .ok (.if_icmp .ne 7, 3) := by decide +kernel
theorem dX5_may_77 : decode cX5_may 77 = .ok (.iconst 1, 1) := by decide +kernel
theorem dX5_may_78 : decode cX5_may 78 = .ok (.goto 4, 3) := by decide +kernel
theorem dX5_may_81 : decode cX5_may 81 = .ok (.iconst 0, 1) := by decide +kernel
theorem dX5_may_82 : decode cX5_may 82 = .ok (.istore 7, 2) := by decide +kernel
theorem dX5_may_84 : decode cX5_may 84 = .ok (.iload_n 3, 1) := by decide +kernel
theorem dX5_may_85 : decode cX5_may 85 = .ok (.iload_n 2, 1) := by decide +kernel
theorem dX5_may_86 : decode cX5_may 86 = .ok (.ishr, 1) := by decide +kernel
theorem dX5_may_87 : decode cX5_may 87 = .ok (.iconst 1, 1) := by decide +kernel
theorem dX5_may_88 : decode cX5_may 88 = .ok (.iand, 1) := by decide +kernel
theorem dX5_may_89 : decode cX5_may 89 = .ok (.iconst 1, 1) := by decide +kernel
theorem dX5_may_90 : decode cX5_may 90 = .ok (.if_icmp .eq 47, 3) := by decide +kernel
theorem dX5_may_93 : decode cX5_may 93 = .ok (.aload_n 0, 1) := by decide +kernel
theorem dX5_may_94 : decode cX5_may 94 = .ok (.getfield 68, 3) := by decide +kernel
theorem dX5_may_97 : decode cX5_may 97 = .ok (.bipush 10, 2) := by decide +kernel
theorem dX5_may_99 : decode cX5_may 99 = .ok (.iload_n 1, 1) := by decide +kernel
theorem dX5_may_100 : decode cX5_may 100 = .ok (.imul, 1) := by decide +kernel
theorem dX5_may_101 : decode cX5_may 101 = .ok (.iload_n 2, 1) := by decide +kernel
theorem dX5_may_102 : decode cX5_may 102 = .ok (.iadd, 1) := by decide +kernel
theorem dX5_may_103 : decode cX5_may 103 = .ok (.baload, 1) := by decide +kernel
theorem dX5_may_104 : decode cX5_may 104 = .ok (.ifCond .ne 33, 3) := by decide +kernel
theorem dX5_may_107 : decode cX5_may 107 = .ok (.iload 6, 2) := by decide +kernel
theorem dX5_may_109 : decode cX5_may 109 = .ok (.ifCond .eq 13, 3) := by decide +kernel
theorem dX5_may_112 : decode cX5_may 112 = .ok (.aload_n 0, 1) := by decide +kernel
theorem dX5_may_113 : decode cX5_may 113 = .ok (.iload_n 2, 1) := by decide +kernel
theorem dX5_may_114 : decode cX5_may 114 = .ok (.iload 5, 2) := by decide +kernel
theorem dX5_may_116 : decode cX5_may 116 = .ok (.invokevirtual 134, 3) := by decide +kernel
theorem dX5_may_119 : decode cX5_may 119 = .ok (.ifCond .eq 18, 3) := by decide +kernel
theorem dX5_may_122 : decode cX5_may 122 = .ok (.iload 7, 2) := by decide +kernel
theorem dX5_may_124 : decode cX5_may 124 = .ok (.ifCond .eq 15, 3) := by decide +kernel
theorem dX5_may_127 : decode cX5_may 127 = .ok (.aload_n 0, 1) := by decide +kernel
theorem dX5_may_128 : decode cX5_may 128 = .ok (.iload_n 2, 1) := by decide +kernel
theorem dX5_may_129 : decode cX5_may 129 = .ok (.iload 5, 2) := by decide +kernel
theorem dX5_may_131 : decode cX5_may 131 = .ok (.invokevirtual 138, 3) := by decide +kernel
theorem dX5_may_134 : decode cX5_may 134 = .ok (.ifCond .ne 5, 3) := by decide +kernel
theorem dX5_may_137 : decode cX5_may 137 = .ok (.iconst 0, 1) := by decide +kernel
theorem dX5_may_138 : decode cX5_may 138 = .ok (.ireturn, 1) := by decide +kernel
theorem dX5_may_139 : decode cX5_may 139 = .ok (.iload 6, 2) := by decide +kernel
theorem dX5_may_141 : decode cX5_may 141 = .ok (.ifCond .ne 21, 3) := by decide +kernel
theorem dX5_may_144 : decode cX5_may 144 = .ok (.iload 4, 2) := by decide +kernel
theorem dX5_may_146 : decode cX5_may 146 = .ok (.bipush 10, 2) := by decide +kernel
theorem dX5_may_148 : decode cX5_may 148 = .ok (.if_icmp .eq 14, 3) := by decide +kernel
theorem dX5_may_151 : decode cX5_may 151 = .ok (.aload_n 0, 1) := by decide +kernel
theorem dX5_may_152 : decode cX5_may 152 = .ok (.iload_n 2, 1) := by decide +kernel
theorem dX5_may_153 : decode cX5_may 153 = .ok (.iload 4, 2) := by decide +kernel
theorem dX5_may_155 : decode cX5_may 155 = .ok (.invokevirtual 127, 3) := by decide +kernel
theorem dX5_may_158 : decode cX5_may 158 = .ok (.iconst (-1), 1) := by decide +kernel
theorem dX5_may_159 : decode cX5_may 159 = .ok (.if_icmp .eq 7, 3) := by decide +kernel
theorem dX5_may_162 : decode cX5_may 162 = .ok (.iconst 1, 1) := by decide +kernel
theorem dX5_may_163 : decode cX5_may 163 = .ok (.goto 4, 3) := by decide +kernel
theorem dX5_may_166 : decode cX5_may 166 = .ok (.iconst 0, 1) := by decide +kernel
theorem dX5_may_167 : decode cX5_may 167 = .ok (.ireturn, 1) := by decide +kernel
theorem dX5_behind_0 : decode cX5_behind 0 = .ok (.iload_n 1, 1) := by decide +kernel
theorem dX5_behind_1 : decode cX5_behind 1 = .ok (.iconst 1, 1) := by decide +kernel
theorem dX5_behind_2 : decode cX5_behind 2 = .ok (.iadd, 1) := by decide +kernel
theorem dX5_behind_3 : decode cX5_behind 3 = .ok (.iload_n 2, 1) := by decide +kernel
theorem dX5_behind_4 : decode cX5_behind 4 = .ok (.bipush 10, 2) := by decide +kernel
theorem dX5_behind_6 : decode cX5_behind 6 = .ok (.if_icmp .ne 7, 3) := by decide +kernel
theorem dX5_behind_9 : decode cX5_behind 9 = .ok (.iload_n 3, 1) := by decide +kernel
theorem dX5_behind_10 : decode cX5_behind 10 = .ok (.goto 8, 3) := by decide +kernel
theorem dX5_behind_13 : decode cX5_behind 13 = .ok (.iload_n 3, 1) := by decide +kernel
theorem dX5_behind_14 : decode cX5_behind 14 = .ok (.iconst 1, 1) := by decide +kernel
theorem dX5_behind_15 : decode cX5_behind 15 = .ok (.iload_n 2, 1) := by decide +kernel
theorem dX5_behind_16 : decode cX5_behind 16 = .ok (.ishl, 1) := by decide +kernel
theorem dX5_behind_17 : decode cX5_behind 17 = .ok (.ior, 1) := by decide +kernel
theorem dX5_behind_18 : decode cX5_behind 18 = .ok (.iload_n 2, 1) := by decide +kernel
theorem dX5_behind_19 : decode cX5_behind 19 = .ok (.invokestatic 144, 3) := by decide +kernel
theorem dX5_behind_22 : decode cX5_behind 22 = .ok (.ireturn, 1) := by decide +kernel
theorem dX5_find_0 : decode cX5_find 0 = .ok (.aload_n 0, 1) := by decide +kernel
theorem dX5_find_1 : decode cX5_find 1 = .ok (.iconst 0, 1) := by decide +kernel
theorem dX5_find_2 : decode cX5_find 2 = .ok (.putfield 92, 3) := by decide +kernel
theorem dX5_find_5 : decode cX5_find 5 = .ok (.aload_n 0, 1) := by decide +kernel
theorem dX5_find_6 : decode cX5_find 6 = .ok (.getfield 105, 3) := by decide +kernel
theorem dX5_find_9 : decode cX5_find 9 = .ok (.istore_n 1, 1) := by decide +kernel
theorem dX5_find_10 : decode cX5_find 10 = .ok (.iload_n 1, 1) := by decide +kernel
theorem dX5_find_11 : decode cX5_find 11 = .ok (.ifCond .lt 292, 3) := by decide +kernel
theorem dX5_find_14 : decode cX5_find 14 = .ok (.iconst 0, 1) := by decide +kernel
theorem dX5_find_15 : decode cX5_find 15 = .ok (.istore_n 2, 1) := by decide +kernel
theorem dX5_find_16 : decode cX5_find 16 = .ok (.iload_n 2, 1) := by decide +kernel
theorem dX5_find_17 : decode cX5_find 17 = .ok (.iconst 1, 1) := by decide +kernel
theorem dX5_find_18 : decode cX5_find 18 = .ok (.aload_n 0, 1) := by decide +kernel
theorem dX5_find_19 : decode cX5_find 19 = .ok (.getfield 99, 3) := by decide +kernel
theorem dX5_find_22 : decode cX5_find 22 = .ok (.ishl, 1) := by decide +kernel
theorem dX5_find_23 : decode cX5_find 23 = .ok (.if_icmp .ge 274, 3) := by decide +kernel
theorem dX5_find_26 : decode cX5_find 26 = .ok (.iconst 0, 1) := by decide +kernel
theorem dX5_find_27 : decode cX5_find 27 = .ok (.istore_n 3, 1) := by decide +kernel
theorem dX5_find_28 : decode cX5_find 28 = .ok (.iload_n 3, 1) := by decide +kernel
theorem dX5_find_29 : decode cX5_find 29 = .ok (.bipush 10, 2) := by decide +kernel
theorem dX5_find_31 : decode cX5_find 31 = .ok (.if_icmp .gt 260, 3) := by decide +kernel
theorem dX5_find_34 : decode cX5_find 34 = .ok (.iload_n 1, 1) := by decide +kernel
theorem dX5_find_35 : decode cX5_find 35 = .ok (.iload_n 2, 1) := by decide +kernel
theorem dX5_find_36 : decode cX5_find 36 = .ok (.iload_n 3, 1) := by decide +kernel
theorem dX5_find_37 : decode cX5_find 37 = .ok (.invokestatic 144, 3) := by decide +kernel
theorem dX5_find_40 : decode cX5_find 40 = .ok (.istore 4, 2) := by decide +kernel
theorem dX5_find_42 : decode cX5_find 42 = .ok (.aload_n 0, 1) := by decide +kernel
theorem dX5_find_43 : decode cX5_find 43 = .ok (.getfield 80, 3) := by decide +kernel
theorem dX5_find_46 : decode cX5_find 46 = .ok (.iload 4, 2) := by decide +kernel
theorem dX5_find_48 : decode cX5_find 48 = .ok (.lconst 0, 1) := by decide +kernel
theorem dX5_find_49 : decode cX5_find 49 = .ok (.lastore, 1) := by decide +kernel
theorem dX5_find_50 : decode cX5_find 50 = .ok (.aload_n 0, 1) := by decide +kernel
theorem dX5_find_51 : decode cX5_find 51 = .ok (.getfield 73, 3) := by decide +kernel
theorem dX5_find_54 : decode cX5_find 54 = .ok (.iload 4, 2) := by decide +kernel
theorem dX5_find_56 : decode cX5_find 56 = .ok (.iload_n 1, 1) := by decide +kernel
theorem dX5_find_57 : decode cX5_find 57 = .ok (.aload_n 0, 1) := by decide +kernel
theorem dX5_find_58 : decode cX5_find 58 = .ok (.getfield 105, 3) := by decide +kernel
theorem dX5_find_61 : decode cX5_find 61 = .ok (.if_icmp .ne 7, 3) := by decide +kernel
theorem dX5_find_64 : decode cX5_find 64 = .ok (.iconst 0, 1) := by decide +kernel
theorem dX5_find_65 : decode cX5_find 65 = .ok (.goto 6, 3) := by decide +kernel
theorem dX5_find_68 : decode cX5_find 68 = .ok (.sipush 1000, 3) := by decide +kernel
theorem dX5_find_71 : decode cX5_find 71 = .ok (.iastore, 1) := by decide +kernel
theorem dX5_find_72 : decode cX5_find 72 = .ok (.aload_n 0, 1) := by decide +kernel
theorem dX5_find_73 : decode cX5_find 73 = .ok (.getfield 76, 3) := by decide +kernel
theorem dX5_find_76 : decode cX5_find 76 = .ok (.iload 4, 2) := by decide +kernel
theorem dX5_find_78 : decode cX5_find 78 = .ok (.iload_n 1, 1) := by decide +kernel
theorem dX5_find_79 : decode cX5_find 79 = .ok (.aload_n 0, 1) := by decide +kernel
theorem dX5_find_80 : decode cX5_find 80 = .ok (.getfield 105, 3) := by decide +kernel
theorem dX5_find_83 : decode cX5_find 83 = .ok (.if_icmp .ne 7, 3) := by decide +kernel
theorem dX5_find_86 : decode cX5_find 86 = .ok (.lconst 1, 1) := by decide +kernel
theorem dX5_find_87 : decode cX5_find 87 = .ok (.goto 4, 3) := by decide +kernel
theorem dX5_find_90 : decode cX5_find 90 = .ok (.lconst 0, 1) := by decide +kernel
theorem dX5_find_91 : decode cX5_find 91 = .ok (.lastore, 1) := by decide +kernel
theorem dX5_find_92 : decode cX5_find 92 = .ok (.iload_n 1, 1) := by decide +kernel
theorem dX5_find_93 : decode cX5_find 93 = .ok (.aload_n 0, 1) := by decide +kernel
theorem dX5_find_94 : decode cX5_find 94 = .ok (.getfield 105, 3) := by decide +kernel
theorem dX5_find_97 : decode cX5_find 97 = .ok (.if_icmp .eq 188, 3) := by decide +kernel
theorem dX5_find_100 : decode cX5_find 100 = .ok (.iload_n 3, 1) := by decide +kernel
theorem dX5_find_101 : decode cX5_find 101 = .ok (.bipush 10, 2) := by decide +kernel
theorem dX5_find_103 : decode cX5_find 103 = .ok (.if_icmp .eq 22, 3) := by decide +kernel
theorem dX5_find_106 : decode cX5_find 106 = .ok (.iload_n 3, 1) := by decide +kernel
theorem dX5_find_107 : decode cX5_find 107 = .ok (.aload_n 0, 1) := by decide +kernel
theorem dX5_find_108 : decode cX5_find 108 = .ok (.getfield 99, 3) := by decide +kernel
theorem dX5_find_111 : decode cX5_find 111 = .ok (.if_icmp .ge 174, 3) := by decide +kernel
theorem dX5_find_114 : decode cX5_find 114 = .ok (.iload_n 2, 1) := by decide +kernel
theorem dX5_find_115 : decode cX5_find 115 = .ok (.iload_n 3, 1) := by decide +kernel
theorem dX5_find_116 : decode cX5_find 116 = .ok (.ishr, 1) := by decide +kernel
theorem dX5_find_117 : decode cX5_find 117 = .ok (.iconst 1, 1) := by decide +kernel
theorem dX5_find_118 : decode cX5_find 118 = .ok (.iand, 1) := by decide +kernel
theorem dX5_find_119 : decode cX5_find 119 = .ok (.ifCond .ne 6, 3) := by decide +kernel
theorem dX5_find_122 : decode cX5_find 122 = .ok (.goto 163, 3) := by decide +kernel
theorem dX5_find_125 : decode cX5_find 125 = .ok (.iconst 0, 1) := by decide +kernel
theorem dX5_find_126 : decode cX5_find 126 = .ok (.istore 5, 2) := by decide +kernel
theorem dX5_find_128 : decode cX5_find 128 = .ok (.iload 5, 2) := by decide +kernel
theorem dX5_find_130 : decode cX5_find 130 = .ok (.bipush 10, 2) := by decide +kernel
theorem dX5_find_132 : decode cX5_find 132 = .ok (.if_icmp .gt 153, 3) := by decide +kernel
theorem dX5_find_135 : decode cX5_find 135 = .ok (.iload 5, 2) := by decide +kernel
theorem dX5_find_137 : decode cX5_find 137 = .ok (.bipush 10, 2) := by decide +kernel
theorem dX5_find_139 : decode cX5_find 139 = .ok (.if_icmp .eq 12, 3) := by decide +kernel
theorem dX5_find_142 : decode cX5_find 142 = .ok (.iload 5, 2) := by decide +kernel
theorem dX5_find_144 : decode cX5_find 144 = .ok (.aload_n 0, 1) := by decide +kernel
theorem dX5_find_145 : decode cX5_find 145 = .ok (.getfield 99, 3) := by decide +kernel
theorem dX5_find_148 : decode cX5_find 148 = .ok (.if_icmp .ge 131, 3) := by decide +kernel
theorem dX5_find_151 : decode cX5_find 151 = .ok (.aload_n 0, 1) := by decide +kernel
theorem dX5_find_152 : decode cX5_find 152 = .ok (.iload_n 1, 1) := by decide +kernel
theorem dX5_find_153 : decode cX5_find 153 = .ok (.iload 5, 2) := by decide +kernel
theorem dX5_find_155 : decode cX5_find 155 = .ok (.iload_n 2, 1) := by decide +kernel
theorem dX5_find_156 : decode cX5_find 156 = .ok (.iload_n 3, 1) := by decide +kernel
theorem dX5_find_157 : decode cX5_find 157 = .ok (.invokevirtual 148, 3) := by decide +kernel
theorem dX5_find_160 : decode cX5_find 160 = .ok (.ifCond .ne 6, 3) := by decide +kernel
theorem dX5_find_163 : decode cX5_find 163 = .ok (.goto 116, 3) := by decide +kernel
theorem dX5_find_166 : decode cX5_find 166 = .ok (.aload_n 0, 1) := by decide +kernel
theorem dX5_find_167 : decode cX5_find 167 = .ok (.iload_n 1, 1) := by decide +kernel
theorem dX5_find_168 : decode cX5_find 168 = .ok (.iload 5, 2) := by decide +kernel
theorem dX5_find_170 : decode cX5_find 170 = .ok (.iload_n 2, 1) := by decide +kernel
theorem dX5_find_171 : decode cX5_find 171 = .ok (.invokevirtual 152, 3) := by decide +kernel
theorem dX5_find_174 : decode cX5_find 174 = .ok (.istore 6, 2) := by decide +kernel
theorem dX5_find_176 : decode cX5_find 176 = .ok (.aload_n 0, 1) := by decide +kernel
theorem dX5_find_177 : decode cX5_find 177 = .ok (.getfield 73, 3) := by decide +kernel
theorem dX5_find_180 : decode cX5_find 180 = .ok (.iload 6, 2) := by decide +kernel
theorem dX5_find_182 : decode cX5_find 182 = .ok (.iaload, 1) := by decide +kernel
theorem dX5_find_183 : decode cX5_find 183 = .ok (.iload 5, 2) := by decide +kernel
theorem dX5_find_185 : decode cX5_find 185 = .ok (.bipush 10, 2) := by decide +kernel
theorem dX5_find_187 : decode cX5_find 187 = .ok (.if_icmp .ne 7, 3) := by decide +kernel
theorem dX5_find_190 : decode cX5_find 190 = .ok (.iconst 1, 1) := by decide +kernel
theorem dX5_find_191 : decode cX5_find 191 = .ok (.goto 4, 3) := by decide +kernel
theorem dX5_find_194 : decode cX5_find 194 = .ok (.iconst 0, 1) := by decide +kernel
theorem dX5_find_195 : decode cX5_find 195 = .ok (.iadd, 1) := by decide +kernel
theorem dX5_find_196 : decode cX5_find 196 = .ok (.istore 7, 2) := by decide +kernel
theorem dX5_find_198 : decode cX5_find 198 = .ok (.iload 7, 2) := by decide +kernel
theorem dX5_find_200 : decode cX5_find 200 = .ok (.aload_n 0, 1) := by decide +kernel
theorem dX5_find_201 : decode cX5_find 201 = .ok (.getfield 73, 3) := by decide +kernel
theorem dX5_find_204 : decode cX5_find 204 = .ok (.iload 4, 2) := by decide +kernel
theorem dX5_find_206 : decode cX5_find 206 = .ok (.iaload, 1) := by decide +kernel
theorem dX5_find_207 : decode cX5_find 207 = .ok (.if_icmp .gt 72, 3) := by decide +kernel
theorem dX5_find_210 : decode cX5_find 210 = .ok (.aload_n 0, 1) := by decide +kernel
theorem dX5_find_211 : decode cX5_find 211 = .ok (.getfield 73, 3) := by decide +kernel
theorem dX5_find_214 : decode cX5_find 214 = .ok (.iload 6, 2) := by decide +kernel
theorem dX5_find_216 : decode cX5_find 216 = .ok (.iaload, 1) := by decide +kernel
theorem dX5_find_217 : decode cX5_find 217 = .ok (.sipush 1000, 3) := by decide +kernel
theorem dX5_find_220 : decode cX5_find 220 = .ok (.if_icmp .ne 6, 3) := by decide +kernel
theorem dX5_find_223 : decode cX5_find 223 = .ok (.goto 56, 3) := by decide +kernel
theorem dX5_find_226 : decode cX5_find 226 = .ok (.aload_n 0, 1) := by decide +kernel
theorem dX5_find_227 : decode cX5_find 227 = .ok (.getfield 76, 3) := by decide +kernel
theorem dX5_find_230 : decode cX5_find 230 = .ok (.iload 4, 2) := by decide +kernel
theorem dX5_find_232 : decode cX5_find 232 = .ok (.iload 7, 2) := by decide +kernel
theorem dX5_find_234 : decode cX5_find 234 = .ok (.aload_n 0, 1) := by decide +kernel
theorem dX5_find_235 : decode cX5_find 235 = .ok (.getfield 73, 3) := by decide +kernel
theorem dX5_find_238 : decode cX5_find 238 = .ok (.iload 4, 2) := by decide +kernel
theorem dX5_find_240 : decode cX5_find 240 = .ok (.iaload, 1) := by decide +kernel
theorem dX5_find_241 : decode cX5_find 241 = .ok (.if_icmp .ge 13, 3) := by decide +kernel
theorem dX5_find_244 : decode cX5_find 244 = .ok (.aload_n 0, 1) := by decide +kernel
theorem dX5_find_245 : decode cX5_find 245 = .ok (.getfield 76, 3) := by decide +kernel
theorem dX5_find_248 : decode cX5_find 248 = .ok (.iload 6, 2) := by decide +kernel
theorem dX5_find_250 : decode cX5_find 250 = .ok (.laload, 1) := by decide +kernel
theorem dX5_find_251 : decode cX5_find 251 = .ok (.goto 18, 3) := by decide +kernel
theorem dX5_find_254 : decode cX5_find 254 = .ok (.aload_n 0, 1) := by decide +kernel
theorem dX5_find_255 : decode cX5_find 255 = .ok (.getfield 76, 3) := by decide +kernel
theorem dX5_find_258 : decode cX5_find 258 = .ok (.iload 4, 2) := by decide +kernel
theorem dX5_find_260 : decode cX5_find 260 = .ok (.laload, 1) := by decide +kernel
theorem dX5_find_261 : decode cX5_find 261 = .ok (.aload_n 0, 1) := by decide +kernel
theorem dX5_find_262 : decode cX5_find 262 = .ok (.getfield 76, 3) := by decide +kernel
theorem dX5_find_265 : decode cX5_find 265 = .ok (.iload 6, 2) := by decide +kernel
theorem dX5_find_267 : decode cX5_find 267 = .ok (.laload, 1) := by decide +kernel
theorem dX5_find_268 : decode cX5_find 268 = .ok (.ladd, 1) := by decide +kernel
theorem dX5_find_269 : decode cX5_find 269 = .ok (.lastore, 1) := by decide +kernel
theorem dX5_find_270 : decode cX5_find 270 = .ok (.aload_n 0, 1) := by decide +kernel
theorem dX5_find_271 : decode cX5_find 271 = .ok (.getfield 73, 3) := by decide +kernel
theorem dX5_find_274 : decode cX5_find 274 = .ok (.iload 4, 2) := by decide +kernel
theorem dX5_find_276 : decode cX5_find 276 = .ok (.iload 7, 2) := by decide +kernel
theorem dX5_find_278 : decode cX5_find 278 = .ok (.iastore, 1) := by decide +kernel
theorem dX5_find_279 : decode cX5_find 279 = .ok (.iinc 5 1, 3) := by decide +kernel
theorem dX5_find_282 : decode cX5_find 282 = .ok (.goto (-154), 3) := by decide +kernel
theorem dX5_find_285 : decode cX5_find 285 = .ok (.iinc 3 1, 3) := by decide +kernel
theorem dX5_find_288 : decode cX5_find 288 = .ok (.goto (-260), 3) := by decide +kernel
theorem dX5_find_291 : decode cX5_find 291 = .ok (.iinc 2 1, 3) := by decide +kernel
theorem dX5_find_294 : decode cX5_find 294 = .ok (.goto (-278), 3) := by decide +kernel
theorem dX5_find_297 : decode cX5_find 297 = .ok (.iinc 1 (-1), 3) := by decide +kernel
theorem dX5_find_300 : decode cX5_find 300 = .ok (.goto (-290), 3) := by decide +kernel
theorem dX5_find_303 : decode cX5_find 303 = .ok (.iconst 0, 1) := by decide +kernel
theorem dX5_find_304 : decode cX5_find 304 = .ok (.iconst 0, 1) := by decide +kernel
theorem dX5_find_305 : decode cX5_find 305 = .ok (.bipush 10, 2) := by decide +kernel
theorem dX5_find_307 : decode cX5_find 307 = .ok (.invokestatic 144, 3) := by decide +kernel
theorem dX5_find_310 : decode cX5_find 310 = .ok (.istore_n 1, 1) := by decide +kernel
theorem dX5_find_311 : decode cX5_find 311 = .ok (.aload_n 0, 1) := by decide +kernel
theorem dX5_find_312 : decode cX5_find 312 = .ok (.getfield 73, 3) := by decide +kernel
theorem dX5_find_315 : decode cX5_find 315 = .ok (.iload_n 1, 1) := by decide +kernel
theorem dX5_find_316 : decode cX5_find 316 = .ok (.iaload, 1) := by decide +kernel
theorem dX5_find_317 : decode cX5_find 317 = .ok (.sipush 1000, 3) := by decide +kernel
theorem dX5_find_320 : decode cX5_find 320 = .ok (.if_icmp .lt 5, 3) := by decide +kernel
theorem dX5_find_323 : decode cX5_find 323 = .ok (.iconst 0, 1) := by decide +kernel
theorem dX5_find_324 : decode cX5_find 324 = .ok (.ireturn, 1) := by decide +kernel
theorem dX5_find_325 : decode cX5_find 325 = .ok (.iload_n 1, 1) := by decide +kernel
theorem dX5_find_326 : decode cX5_find 326 = .ok (.istore_n 2, 1) := by decide +kernel
theorem dX5_find_327 : decode cX5_find 327 = .ok (.iconst 0, 1) := by decide +kernel
theorem dX5_find_328 : decode cX5_find 328 = .ok (.istore_n 3, 1) := by decide +kernel
theorem dX5_find_329 : decode cX5_find 329 = .ok (.bipush 10, 2) := by decide +kernel
theorem dX5_find_331 : decode cX5_find 331 = .ok (.istore 4, 2) := by decide +kernel
theorem dX5_find_333 : decode cX5_find 333 = .ok (.iconst 0, 1) := by decide +kernel
theorem dX5_find_334 : decode cX5_find 334 = .ok (.istore 5, 2) := by decide +kernel
theorem dX5_find_336 : decode cX5_find 336 = .ok (.iload 5, 2) := by decide +kernel
theorem dX5_find_338 : decode cX5_find 338 = .ok (.aload_n 0, 1) := by decide +kernel
theorem dX5_find_339 : decode cX5_find 339 = .ok (.getfield 105, 3) := by decide +kernel
theorem dX5_find_342 : decode cX5_find 342 = .ok (.if_icmp .ge 59, 3) := by decide +kernel
theorem dX5_find_345 : decode cX5_find 345 = .ok (.iconst 0, 1) := by decide +kernel
theorem dX5_find_346 : decode cX5_find 346 = .ok (.istore 6, 2) := by decide +kernel
theorem dX5_find_348 : decode cX5_find 348 = .ok (.aload_n 0, 1) := by decide +kernel
theorem dX5_find_349 : decode cX5_find 349 = .ok (.iload 5, 2) := by decide +kernel
theorem dX5_find_351 : decode cX5_find 351 = .ok (.iload 6, 2) := by decide +kernel
theorem dX5_find_353 : decode cX5_find 353 = .ok (.iload_n 3, 1) := by decide +kernel
theorem dX5_find_354 : decode cX5_find 354 = .ok (.iload 4, 2) := by decide +kernel
theorem dX5_find_356 : decode cX5_find 356 = .ok (.invokevirtual 155, 3) := by decide +kernel
theorem dX5_find_359 : decode cX5_find 359 = .ok (.ifCond .ne 9, 3) := by decide +kernel
theorem dX5_find_362 : decode cX5_find 362 = .ok (.iinc 6 1, 3) := by decide +kernel
theorem dX5_find_365 : decode cX5_find 365 = .ok (.goto (-17), 3) := by decide +kernel
theorem dX5_find_368 : decode cX5_find 368 = .ok (.aload_n 0, 1) := by decide +kernel
theorem dX5_find_369 : decode cX5_find 369 = .ok (.getfield 86, 3) := by decide +kernel
theorem dX5_find_372 : decode cX5_find 372 = .ok (.iload 5, 2) := by decide +kernel
theorem dX5_find_374 : decode cX5_find 374 = .ok (.iload 6, 2) := by decide +kernel
theorem dX5_find_376 : decode cX5_find 376 = .ok (.iastore, 1) := by decide +kernel
theorem dX5_find_377 : decode cX5_find 377 = .ok (.iload 6, 2) := by decide +kernel
theorem dX5_find_379 : decode cX5_find 379 = .ok (.bipush 10, 2) := by decide +kernel
theorem dX5_find_381 : decode cX5_find 381 = .ok (.if_icmp .eq 10, 3) := by decide +kernel
theorem dX5_find_384 : decode cX5_find 384 = .ok (.iload_n 3, 1) := by decide +kernel
theorem dX5_find_385 : decode cX5_find 385 = .ok (.iconst 1, 1) := by decide +kernel
theorem dX5_find_386 : decode cX5_find 386 = .ok (.iload 6, 2) := by decide +kernel
theorem dX5_find_388 : decode cX5_find 388 = .ok (.ishl, 1) := by decide +kernel
theorem dX5_find_389 : decode cX5_find 389 = .ok (.ior, 1) := by decide +kernel
theorem dX5_find_390 : decode cX5_find 390 = .ok (.istore_n 3, 1) := by decide +kernel
theorem dX5_find_391 : decode cX5_find 391 = .ok (.iload 6, 2) := by decide +kernel
theorem dX5_find_393 : decode cX5_find 393 = .ok (.istore 4, 2) := by decide +kernel
theorem dX5_find_395 : decode cX5_find 395 = .ok (.iinc 5 1, 3) := by decide +kernel
theorem dX5_find_398 : decode cX5_find 398 = .ok (.goto (-62), 3) := by decide +kernel
theorem dX5_find_401 : decode cX5_find 401 = .ok (.iconst 1, 1) := by decide +kernel
theorem dX5_find_402 : decode cX5_find 402 = .ok (.ireturn, 1) := by decide +kernel
theorem dX5_isBest_0 : decode cX5_isBest 0 = .ok (.iload_n 2, 1) := by decide +kernel
theorem dX5_isBest_1 : decode cX5_isBest 1 = .ok (.bipush 10, 2) := by decide +kernel
theorem dX5_isBest_3 : decode cX5_isBest 3 = .ok (.if_icmp .eq 11, 3) := by decide +kernel
theorem dX5_isBest_6 : decode cX5_isBest 6 = .ok (.iload_n 2, 1) := by decide +kernel
theorem dX5_isBest_7 : decode cX5_isBest 7 = .ok (.aload_n 0, 1) := by decide +kernel
theorem dX5_isBest_8 : decode cX5_isBest 8 = .ok (.getfield 99, 3) := by decide +kernel
theorem dX5_isBest_11 : decode cX5_isBest 11 = .ok (.if_icmp .ge 15, 3) := by decide +kernel
theorem dX5_isBest_14 : decode cX5_isBest 14 = .ok (.aload_n 0, 1) := by decide +kernel
theorem dX5_isBest_15 : decode cX5_isBest 15 = .ok (.iload_n 1, 1) := by decide +kernel
theorem dX5_isBest_16 : decode cX5_isBest 16 = .ok (.iload_n 2, 1) := by decide +kernel
theorem dX5_isBest_17 : decode cX5_isBest 17 = .ok (.iload_n 3, 1) := by decide +kernel
theorem dX5_isBest_18 : decode cX5_isBest 18 = .ok (.iload 4, 2) := by decide +kernel
theorem dX5_isBest_20 : decode cX5_isBest 20 = .ok (.invokevirtual 148, 3) := by decide +kernel
theorem dX5_isBest_23 : decode cX5_isBest 23 = .ok (.ifCond .ne 5, 3) := by decide +kernel
theorem dX5_isBest_26 : decode cX5_isBest 26 = .ok (.iconst 0, 1) := by decide +kernel
theorem dX5_isBest_27 : decode cX5_isBest 27 = .ok (.ireturn, 1) := by decide +kernel
theorem dX5_isBest_28 : decode cX5_isBest 28 = .ok (.aload_n 0, 1) := by decide +kernel
theorem dX5_isBest_29 : decode cX5_isBest 29 = .ok (.getfield 73, 3) := by decide +kernel
theorem dX5_isBest_32 : decode cX5_isBest 32 = .ok (.aload_n 0, 1) := by decide +kernel
theorem dX5_isBest_33 : decode cX5_isBest 33 = .ok (.iload_n 1, 1) := by decide +kernel
theorem dX5_isBest_34 : decode cX5_isBest 34 = .ok (.iload_n 2, 1) := by decide +kernel
theorem dX5_isBest_35 : decode cX5_isBest 35 = .ok (.iload_n 3, 1) := by decide +kernel
theorem dX5_isBest_36 : decode cX5_isBest 36 = .ok (.invokevirtual 152, 3) := by decide +kernel
theorem dX5_isBest_39 : decode cX5_isBest 39 = .ok (.iaload, 1) := by decide +kernel
theorem dX5_isBest_40 : decode cX5_isBest 40 = .ok (.istore 5, 2) := by decide +kernel
theorem dX5_isBest_42 : decode cX5_isBest 42 = .ok (.iload 5, 2) := by decide +kernel
theorem dX5_isBest_44 : decode cX5_isBest 44 = .ok (.sipush 1000, 3) := by decide +kernel
theorem dX5_isBest_47 : decode cX5_isBest 47 = .ok (.if_icmp .eq 36, 3) := by decide +kernel
theorem dX5_isBest_50 : decode cX5_isBest 50 = .ok (.iload 5, 2) := by decide +kernel
theorem dX5_isBest_52 : decode cX5_isBest 52 = .ok (.iload_n 2, 1) := by decide +kernel
theorem dX5_isBest_53 : decode cX5_isBest 53 = .ok (.bipush 10, 2) := by decide +kernel
theorem dX5_isBest_55 : decode cX5_isBest 55 = .ok (.if_icmp .ne 7, 3) := by decide +kernel
theorem dX5_isBest_58 : decode cX5_isBest 58 = .ok (.iconst 1, 1) := by decide +kernel
theorem dX5_isBest_59 : decode cX5_isBest 59 = .ok (.goto 4, 3) := by decide +kernel
theorem dX5_isBest_62 : decode cX5_isBest 62 = .ok (.iconst 0, 1) := by decide +kernel
theorem dX5_isBest_63 : decode cX5_isBest 63 = .ok (.iadd, 1) := by decide +kernel
theorem dX5_isBest_64 : decode cX5_isBest 64 = .ok (.aload_n 0, 1) := by decide +kernel
theorem dX5_isBest_65 : decode cX5_isBest 65 = .ok (.getfield 73, 3) := by decide +kernel
theorem dX5_isBest_68 : decode cX5_isBest 68 = .ok (.iload_n 1, 1) := by decide +kernel
theorem dX5_isBest_69 : decode cX5_isBest 69 = .ok (.iload_n 3, 1) := by decide +kernel
theorem dX5_isBest_70 : decode cX5_isBest 70 = .ok (.iload 4, 2) := by decide +kernel
theorem dX5_isBest_72 : decode cX5_isBest 72 = .ok (.invokestatic 144, 3) := by decide +kernel
theorem dX5_isBest_75 : decode cX5_isBest 75 = .ok (.iaload, 1) := by decide +kernel
theorem dX5_isBest_76 : decode cX5_isBest 76 = .ok (.if_icmp .ne 7, 3) := by decide +kernel
theorem dX5_isBest_79 : decode cX5_isBest 79 = .ok (.iconst 1, 1) := by decide +kernel
theorem dX5_isBest_80 : decode cX5_isBest 80 = .ok (.goto 4, 3) := by decide +kernel
theorem dX5_isBest_83 : decode cX5_isBest 83 = .ok (.iconst 0, 1) := by decide +kernel
theorem dX5_isBest_84 : decode cX5_isBest 84 = .ok (.ireturn, 1) := by decide +kernel
theorem dX5_use_0 : decode cX5_use 0 = .ok (.iconst 0, 1) := by decide +kernel
theorem dX5_use_1 : decode cX5_use 1 = .ok (.istore_n 1, 1) := by decide +kernel
theorem dX5_use_2 : decode cX5_use 2 = .ok (.iload_n 1, 1) := by decide +kernel
theorem dX5_use_3 : decode cX5_use 3 = .ok (.bipush 88, 2) := by decide +kernel
theorem dX5_use_5 : decode cX5_use 5 = .ok (.if_icmp .ge 16, 3) := by decide +kernel
theorem dX5_use_8 : decode cX5_use 8 = .ok (.aload_n 0, 1) := by decide +kernel
theorem dX5_use_9 : decode cX5_use 9 = .ok (.getfield 83, 3) := by decide +kernel
theorem dX5_use_12 : decode cX5_use 12 = .ok (.iload_n 1, 1) := by decide +kernel
theorem dX5_use_13 : decode cX5_use 13 = .ok (.lconst 0, 1) := by decide +kernel
theorem dX5_use_14 : decode cX5_use 14 = .ok (.lastore, 1) := by decide +kernel
theorem dX5_use_15 : decode cX5_use 15 = .ok (.iinc 1 1, 3) := by decide +kernel
theorem dX5_use_18 : decode cX5_use 18 = .ok (.goto (-16), 3) := by decide +kernel
theorem dX5_use_21 : decode cX5_use 21 = .ok (.aload_n 0, 1) := by decide +kernel
theorem dX5_use_22 : decode cX5_use 22 = .ok (.getfield 80, 3) := by decide +kernel
theorem dX5_use_25 : decode cX5_use 25 = .ok (.iconst 0, 1) := by decide +kernel
theorem dX5_use_26 : decode cX5_use 26 = .ok (.iconst 0, 1) := by decide +kernel
theorem dX5_use_27 : decode cX5_use 27 = .ok (.bipush 10, 2) := by decide +kernel
theorem dX5_use_29 : decode cX5_use 29 = .ok (.invokestatic 144, 3) := by decide +kernel
theorem dX5_use_32 : decode cX5_use 32 = .ok (.lconst 1, 1) := by decide +kernel
theorem dX5_use_33 : decode cX5_use 33 = .ok (.lastore, 1) := by decide +kernel
theorem dX5_use_34 : decode cX5_use 34 = .ok (.iconst 0, 1) := by decide +kernel
theorem dX5_use_35 : decode cX5_use 35 = .ok (.istore_n 1, 1) := by decide +kernel
theorem dX5_use_36 : decode cX5_use 36 = .ok (.iload_n 1, 1) := by decide +kernel
theorem dX5_use_37 : decode cX5_use 37 = .ok (.aload_n 0, 1) := by decide +kernel
theorem dX5_use_38 : decode cX5_use 38 = .ok (.getfield 105, 3) := by decide +kernel
theorem dX5_use_41 : decode cX5_use 41 = .ok (.if_icmp .ge 141, 3) := by decide +kernel
theorem dX5_use_44 : decode cX5_use 44 = .ok (.iconst 0, 1) := by decide +kernel
theorem dX5_use_45 : decode cX5_use 45 = .ok (.istore_n 2, 1) := by decide +kernel
theorem dX5_use_46 : decode cX5_use 46 = .ok (.iload_n 2, 1) := by decide +kernel
theorem dX5_use_47 : decode cX5_use 47 = .ok (.iconst 1, 1) := by decide +kernel
theorem dX5_use_48 : decode cX5_use 48 = .ok (.aload_n 0, 1) := by decide +kernel
theorem dX5_use_49 : decode cX5_use 49 = .ok (.getfield 99, 3) := by decide +kernel
theorem dX5_use_52 : decode cX5_use 52 = .ok (.ishl, 1) := by decide +kernel
theorem dX5_use_53 : decode cX5_use 53 = .ok (.if_icmp .ge 123, 3) := by decide +kernel
theorem dX5_use_56 : decode cX5_use 56 = .ok (.iconst 0, 1) := by decide +kernel
theorem dX5_use_57 : decode cX5_use 57 = .ok (.istore_n 3, 1) := by decide +kernel
theorem dX5_use_58 : decode cX5_use 58 = .ok (.iload_n 3, 1) := by decide +kernel
theorem dX5_use_59 : decode cX5_use 59 = .ok (.bipush 10, 2) := by decide +kernel
theorem dX5_use_61 : decode cX5_use 61 = .ok (.if_icmp .gt 109, 3) := by decide +kernel
theorem dX5_use_64 : decode cX5_use 64 = .ok (.aload_n 0, 1) := by decide +kernel
theorem dX5_use_65 : decode cX5_use 65 = .ok (.getfield 80, 3) := by decide +kernel
theorem dX5_use_68 : decode cX5_use 68 = .ok (.iload_n 1, 1) := by decide +kernel
theorem dX5_use_69 : decode cX5_use 69 = .ok (.iload_n 2, 1) := by decide +kernel
theorem dX5_use_70 : decode cX5_use 70 = .ok (.iload_n 3, 1) := by decide +kernel
theorem dX5_use_71 : decode cX5_use 71 = .ok (.invokestatic 144, 3) := by decide +kernel
theorem dX5_use_74 : decode cX5_use 74 = .ok (.laload, 1) := by decide +kernel
theorem dX5_use_75 : decode cX5_use 75 = .ok (.lstore 4, 2) := by decide +kernel
theorem dX5_use_77 : decode cX5_use 77 = .ok (.iconst 0, 1) := by decide +kernel
theorem dX5_use_78 : decode cX5_use 78 = .ok (.istore 6, 2) := by decide +kernel
theorem dX5_use_80 : decode cX5_use 80 = .ok (.iload 6, 2) := by decide +kernel
theorem dX5_use_82 : decode cX5_use 82 = .ok (.bipush 10, 2) := by decide +kernel
theorem dX5_use_84 : decode cX5_use 84 = .ok (.if_icmp .gt 80, 3) := by decide +kernel
theorem dX5_use_87 : decode cX5_use 87 = .ok (.lload 4, 2) := by decide +kernel
theorem dX5_use_89 : decode cX5_use 89 = .ok (.lconst 0, 1) := by decide +kernel
theorem dX5_use_90 : decode cX5_use 90 = .ok (.lcmp, 1) := by decide +kernel
theorem dX5_use_91 : decode cX5_use 91 = .ok (.ifCond .le 73, 3) := by decide +kernel
theorem dX5_use_94 : decode cX5_use 94 = .ok (.aload_n 0, 1) := by decide +kernel
theorem dX5_use_95 : decode cX5_use 95 = .ok (.iload_n 1, 1) := by decide +kernel
theorem dX5_use_96 : decode cX5_use 96 = .ok (.iload 6, 2) := by decide +kernel
theorem dX5_use_98 : decode cX5_use 98 = .ok (.iload_n 2, 1) := by decide +kernel
theorem dX5_use_99 : decode cX5_use 99 = .ok (.iload_n 3, 1) := by decide +kernel
theorem dX5_use_100 : decode cX5_use 100 = .ok (.invokevirtual 155, 3) := by decide +kernel
theorem dX5_use_103 : decode cX5_use 103 = .ok (.ifCond .ne 6, 3) := by decide +kernel
theorem dX5_use_106 : decode cX5_use 106 = .ok (.goto 52, 3) := by decide +kernel
theorem dX5_use_109 : decode cX5_use 109 = .ok (.aload_n 0, 1) := by decide +kernel
theorem dX5_use_110 : decode cX5_use 110 = .ok (.getfield 80, 3) := by decide +kernel
theorem dX5_use_113 : decode cX5_use 113 = .ok (.aload_n 0, 1) := by decide +kernel
theorem dX5_use_114 : decode cX5_use 114 = .ok (.iload_n 1, 1) := by decide +kernel
theorem dX5_use_115 : decode cX5_use 115 = .ok (.iload 6, 2) := by decide +kernel
theorem dX5_use_117 : decode cX5_use 117 = .ok (.iload_n 2, 1) := by decide +kernel
theorem dX5_use_118 : decode cX5_use 118 = .ok (.invokevirtual 152, 3) := by decide +kernel
theorem dX5_use_121 : decode cX5_use 121 = .ok (.dup2, 1) := by decide +kernel
theorem dX5_use_122 : decode cX5_use 122 = .ok (.laload, 1) := by decide +kernel
theorem dX5_use_123 : decode cX5_use 123 = .ok (.lload 4, 2) := by decide +kernel
theorem dX5_use_125 : decode cX5_use 125 = .ok (.ladd, 1) := by decide +kernel
theorem dX5_use_126 : decode cX5_use 126 = .ok (.lastore, 1) := by decide +kernel
theorem dX5_use_127 : decode cX5_use 127 = .ok (.aload_n 0, 1) := by decide +kernel
theorem dX5_use_128 : decode cX5_use 128 = .ok (.getfield 83, 3) := by decide +kernel
theorem dX5_use_131 : decode cX5_use 131 = .ok (.bipush 11, 2) := by decide +kernel
theorem dX5_use_133 : decode cX5_use 133 = .ok (.iload_n 1, 1) := by decide +kernel
theorem dX5_use_134 : decode cX5_use 134 = .ok (.imul, 1) := by decide +kernel
theorem dX5_use_135 : decode cX5_use 135 = .ok (.iload 6, 2) := by decide +kernel
theorem dX5_use_137 : decode cX5_use 137 = .ok (.iadd, 1) := by decide +kernel
theorem dX5_use_138 : decode cX5_use 138 = .ok (.dup2, 1) := by decide +kernel
theorem dX5_use_139 : decode cX5_use 139 = .ok (.laload, 1) := by decide +kernel
theorem dX5_use_140 : decode cX5_use 140 = .ok (.lload 4, 2) := by decide +kernel
theorem dX5_use_142 : decode cX5_use 142 = .ok (.aload_n 0, 1) := by decide +kernel
theorem dX5_use_143 : decode cX5_use 143 = .ok (.getfield 76, 3) := by decide +kernel
theorem dX5_use_146 : decode cX5_use 146 = .ok (.aload_n 0, 1) := by decide +kernel
theorem dX5_use_147 : decode cX5_use 147 = .ok (.iload_n 1, 1) := by decide +kernel
theorem dX5_use_148 : decode cX5_use 148 = .ok (.iload 6, 2) := by decide +kernel
theorem dX5_use_150 : decode cX5_use 150 = .ok (.iload_n 2, 1) := by decide +kernel
theorem dX5_use_151 : decode cX5_use 151 = .ok (.invokevirtual 152, 3) := by decide +kernel
theorem dX5_use_154 : decode cX5_use 154 = .ok (.laload, 1) := by decide +kernel
theorem dX5_use_155 : decode cX5_use 155 = .ok (.lmul, 1) := by decide +kernel
theorem dX5_use_156 : decode cX5_use 156 = .ok (.ladd, 1) := by decide +kernel
theorem dX5_use_157 : decode cX5_use 157 = .ok (.lastore, 1) := by decide +kernel
theorem dX5_use_158 : decode cX5_use 158 = .ok (.iinc 6 1, 3) := by decide +kernel
theorem dX5_use_161 : decode cX5_use 161 = .ok (.goto (-81), 3) := by decide +kernel
theorem dX5_use_164 : decode cX5_use 164 = .ok (.iinc 3 1, 3) := by decide +kernel
theorem dX5_use_167 : decode cX5_use 167 = .ok (.goto (-109), 3) := by decide +kernel
theorem dX5_use_170 : decode cX5_use 170 = .ok (.iinc 2 1, 3) := by decide +kernel
theorem dX5_use_173 : decode cX5_use 173 = .ok (.goto (-127), 3) := by decide +kernel
theorem dX5_use_176 : decode cX5_use 176 = .ok (.iinc 1 1, 3) := by decide +kernel
theorem dX5_use_179 : decode cX5_use 179 = .ok (.goto (-143), 3) := by decide +kernel
theorem dX5_use_182 : decode cX5_use 182 = .ok (.return_, 1) := by decide +kernel
theorem dX5_least_0 : decode cX5_least 0 = .ok (.aload_n 0, 1) := by decide +kernel
theorem dX5_least_1 : decode cX5_least 1 = .ok (.invokevirtual 158, 3) := by decide +kernel
theorem dX5_least_4 : decode cX5_least 4 = .ok (.ifCond .eq 18, 3) := by decide +kernel
theorem dX5_least_7 : decode cX5_least 7 = .ok (.aload_n 0, 1) := by decide +kernel
theorem dX5_least_8 : decode cX5_least 8 = .ok (.getfield 73, 3) := by decide +kernel
theorem dX5_least_11 : decode cX5_least 11 = .ok (.iconst 0, 1) := by decide +kernel
theorem dX5_least_12 : decode cX5_least 12 = .ok (.iconst 0, 1) := by decide +kernel
theorem dX5_least_13 : decode cX5_least 13 = .ok (.bipush 10, 2) := by decide +kernel
theorem dX5_least_15 : decode cX5_least 15 = .ok (.invokestatic 144, 3) := by decide +kernel
theorem dX5_least_18 : decode cX5_least 18 = .ok (.iaload, 1) := by decide +kernel
theorem dX5_least_19 : decode cX5_least 19 = .ok (.goto 4, 3) := by decide +kernel
theorem dX5_least_22 : decode cX5_least 22 = .ok (.iconst (-1), 1) := by decide +kernel
theorem dX5_least_23 : decode cX5_least 23 = .ok (.ireturn, 1) := by decide +kernel
theorem dX5_ways_0 : decode cX5_ways 0 = .ok (.aload_n 0, 1) := by decide +kernel
theorem dX5_ways_1 : decode cX5_ways 1 = .ok (.invokevirtual 158, 3) := by decide +kernel
theorem dX5_ways_4 : decode cX5_ways 4 = .ok (.ifCond .eq 18, 3) := by decide +kernel
theorem dX5_ways_7 : decode cX5_ways 7 = .ok (.aload_n 0, 1) := by decide +kernel
theorem dX5_ways_8 : decode cX5_ways 8 = .ok (.getfield 76, 3) := by decide +kernel
theorem dX5_ways_11 : decode cX5_ways 11 = .ok (.iconst 0, 1) := by decide +kernel
theorem dX5_ways_12 : decode cX5_ways 12 = .ok (.iconst 0, 1) := by decide +kernel
theorem dX5_ways_13 : decode cX5_ways 13 = .ok (.bipush 10, 2) := by decide +kernel
theorem dX5_ways_15 : decode cX5_ways 15 = .ok (.invokestatic 144, 3) := by decide +kernel
theorem dX5_ways_18 : decode cX5_ways 18 = .ok (.laload, 1) := by decide +kernel
theorem dX5_ways_19 : decode cX5_ways 19 = .ok (.goto 4, 3) := by decide +kernel
theorem dX5_ways_22 : decode cX5_ways 22 = .ok (.lconst 0, 1) := by decide +kernel
theorem dX5_ways_23 : decode cX5_ways 23 = .ok (.lreturn, 1) := by decide +kernel
theorem dX5_first_0 : decode cX5_first 0 = .ok (.aload_n 0, 1) := by decide +kernel
theorem dX5_first_1 : decode cX5_first 1 = .ok (.invokevirtual 158, 3) := by decide +kernel
theorem dX5_first_4 : decode cX5_first 4 = .ok (.ifCond .eq 20, 3) := by decide +kernel
theorem dX5_first_7 : decode cX5_first 7 = .ok (.aload_n 0, 1) := by decide +kernel
theorem dX5_first_8 : decode cX5_first 8 = .ok (.iload_n 1, 1) := by decide +kernel
theorem dX5_first_9 : decode cX5_first 9 = .ok (.invokevirtual 141, 3) := by decide +kernel
theorem dX5_first_12 : decode cX5_first 12 = .ok (.ifCond .eq 12, 3) := by decide +kernel
theorem dX5_first_15 : decode cX5_first 15 = .ok (.aload_n 0, 1) := by decide +kernel
theorem dX5_first_16 : decode cX5_first 16 = .ok (.getfield 86, 3) := by decide +kernel
theorem dX5_first_19 : decode cX5_first 19 = .ok (.iload_n 1, 1) := by decide +kernel
theorem dX5_first_20 : decode cX5_first 20 = .ok (.iaload, 1) := by decide +kernel
theorem dX5_first_21 : decode cX5_first 21 = .ok (.goto 4, 3) := by decide +kernel
theorem dX5_first_24 : decode cX5_first 24 = .ok (.iconst (-1), 1) := by decide +kernel
theorem dX5_first_25 : decode cX5_first 25 = .ok (.ireturn, 1) := by decide +kernel
theorem dX5_sure_0 : decode cX5_sure 0 = .ok (.aload_n 0, 1) := by decide +kernel
theorem dX5_sure_1 : decode cX5_sure 1 = .ok (.invokevirtual 158, 3) := by decide +kernel
theorem dX5_sure_4 : decode cX5_sure 4 = .ok (.ifCond .eq 11, 3) := by decide +kernel
theorem dX5_sure_7 : decode cX5_sure 7 = .ok (.aload_n 0, 1) := by decide +kernel
theorem dX5_sure_8 : decode cX5_sure 8 = .ok (.iload_n 1, 1) := by decide +kernel
theorem dX5_sure_9 : decode cX5_sure 9 = .ok (.invokevirtual 124, 3) := by decide +kernel
theorem dX5_sure_12 : decode cX5_sure 12 = .ok (.ifCond .ne 5, 3) := by decide +kernel
theorem dX5_sure_15 : decode cX5_sure 15 = .ok (.iconst (-1), 1) := by decide +kernel
theorem dX5_sure_16 : decode cX5_sure 16 = .ok (.ireturn, 1) := by decide +kernel
theorem dX5_sure_17 : decode cX5_sure 17 = .ok (.aload_n 0, 1) := by decide +kernel
theorem dX5_sure_18 : decode cX5_sure 18 = .ok (.invokevirtual 162, 3) := by decide +kernel
theorem dX5_sure_21 : decode cX5_sure 21 = .ok (.iconst 0, 1) := by decide +kernel
theorem dX5_sure_22 : decode cX5_sure 22 = .ok (.istore_n 2, 1) := by decide +kernel
theorem dX5_sure_23 : decode cX5_sure 23 = .ok (.iload_n 2, 1) := by decide +kernel
theorem dX5_sure_24 : decode cX5_sure 24 = .ok (.aload_n 0, 1) := by decide +kernel
theorem dX5_sure_25 : decode cX5_sure 25 = .ok (.getfield 105, 3) := by decide +kernel
theorem dX5_sure_28 : decode cX5_sure 28 = .ok (.if_icmp .ge 38, 3) := by decide +kernel
theorem dX5_sure_31 : decode cX5_sure 31 = .ok (.aload_n 0, 1) := by decide +kernel
theorem dX5_sure_32 : decode cX5_sure 32 = .ok (.getfield 83, 3) := by decide +kernel
theorem dX5_sure_35 : decode cX5_sure 35 = .ok (.bipush 11, 2) := by decide +kernel
theorem dX5_sure_37 : decode cX5_sure 37 = .ok (.iload_n 2, 1) := by decide +kernel
theorem dX5_sure_38 : decode cX5_sure 38 = .ok (.imul, 1) := by decide +kernel
theorem dX5_sure_39 : decode cX5_sure 39 = .ok (.iload_n 1, 1) := by decide +kernel
theorem dX5_sure_40 : decode cX5_sure 40 = .ok (.iadd, 1) := by decide +kernel
theorem dX5_sure_41 : decode cX5_sure 41 = .ok (.laload, 1) := by decide +kernel
theorem dX5_sure_42 : decode cX5_sure 42 = .ok (.aload_n 0, 1) := by decide +kernel
theorem dX5_sure_43 : decode cX5_sure 43 = .ok (.getfield 76, 3) := by decide +kernel
theorem dX5_sure_46 : decode cX5_sure 46 = .ok (.iconst 0, 1) := by decide +kernel
theorem dX5_sure_47 : decode cX5_sure 47 = .ok (.iconst 0, 1) := by decide +kernel
theorem dX5_sure_48 : decode cX5_sure 48 = .ok (.bipush 10, 2) := by decide +kernel
theorem dX5_sure_50 : decode cX5_sure 50 = .ok (.invokestatic 144, 3) := by decide +kernel
theorem dX5_sure_53 : decode cX5_sure 53 = .ok (.laload, 1) := by decide +kernel
theorem dX5_sure_54 : decode cX5_sure 54 = .ok (.lcmp, 1) := by decide +kernel
theorem dX5_sure_55 : decode cX5_sure 55 = .ok (.ifCond .ne 5, 3) := by decide +kernel
theorem dX5_sure_58 : decode cX5_sure 58 = .ok (.iload_n 2, 1) := by decide +kernel
theorem dX5_sure_59 : decode cX5_sure 59 = .ok (.ireturn, 1) := by decide +kernel
theorem dX5_sure_60 : decode cX5_sure 60 = .ok (.iinc 2 1, 3) := by decide +kernel
theorem dX5_sure_63 : decode cX5_sure 63 = .ok (.goto (-40), 3) := by decide +kernel
theorem dX5_sure_66 : decode cX5_sure 66 = .ok (.iconst (-1), 1) := by decide +kernel
theorem dX5_sure_67 : decode cX5_sure 67 = .ok (.ireturn, 1) := by decide +kernel
theorem dX5_open_0 : decode cX5_open 0 = .ok (.aload_n 0, 1) := by decide +kernel
theorem dX5_open_1 : decode cX5_open 1 = .ok (.invokevirtual 158, 3) := by decide +kernel
theorem dX5_open_4 : decode cX5_open 4 = .ok (.ifCond .eq 11, 3) := by decide +kernel
theorem dX5_open_7 : decode cX5_open 7 = .ok (.aload_n 0, 1) := by decide +kernel
theorem dX5_open_8 : decode cX5_open 8 = .ok (.iload_n 1, 1) := by decide +kernel
theorem dX5_open_9 : decode cX5_open 9 = .ok (.invokevirtual 124, 3) := by decide +kernel
theorem dX5_open_12 : decode cX5_open 12 = .ok (.ifCond .ne 5, 3) := by decide +kernel
theorem dX5_open_15 : decode cX5_open 15 = .ok (.iconst 0, 1) := by decide +kernel
theorem dX5_open_16 : decode cX5_open 16 = .ok (.ireturn, 1) := by decide +kernel
theorem dX5_open_17 : decode cX5_open 17 = .ok (.aload_n 0, 1) := by decide +kernel
theorem dX5_open_18 : decode cX5_open 18 = .ok (.invokevirtual 162, 3) := by decide +kernel
theorem dX5_open_21 : decode cX5_open 21 = .ok (.iconst 0, 1) := by decide +kernel
theorem dX5_open_22 : decode cX5_open 22 = .ok (.istore_n 2, 1) := by decide +kernel
theorem dX5_open_23 : decode cX5_open 23 = .ok (.iconst 0, 1) := by decide +kernel
theorem dX5_open_24 : decode cX5_open 24 = .ok (.istore_n 3, 1) := by decide +kernel
theorem dX5_open_25 : decode cX5_open 25 = .ok (.iload_n 3, 1) := by decide +kernel
theorem dX5_open_26 : decode cX5_open 26 = .ok (.aload_n 0, 1) := by decide +kernel
theorem dX5_open_27 : decode cX5_open 27 = .ok (.getfield 105, 3) := by decide +kernel
theorem dX5_open_30 : decode cX5_open 30 = .ok (.if_icmp .ge 35, 3) := by decide +kernel
theorem dX5_open_33 : decode cX5_open 33 = .ok (.iload_n 2, 1) := by decide +kernel
theorem dX5_open_34 : decode cX5_open 34 = .ok (.aload_n 0, 1) := by decide +kernel
theorem dX5_open_35 : decode cX5_open 35 = .ok (.getfield 83, 3) := by decide +kernel
theorem dX5_open_38 : decode cX5_open 38 = .ok (.bipush 11, 2) := by decide +kernel
theorem dX5_open_40 : decode cX5_open 40 = .ok (.iload_n 3, 1) := by decide +kernel
theorem dX5_open_41 : decode cX5_open 41 = .ok (.imul, 1) := by decide +kernel
theorem dX5_open_42 : decode cX5_open 42 = .ok (.iload_n 1, 1) := by decide +kernel
theorem dX5_open_43 : decode cX5_open 43 = .ok (.iadd, 1) := by decide +kernel
theorem dX5_open_44 : decode cX5_open 44 = .ok (.laload, 1) := by decide +kernel
theorem dX5_open_45 : decode cX5_open 45 = .ok (.lconst 0, 1) := by decide +kernel
theorem dX5_open_46 : decode cX5_open 46 = .ok (.lcmp, 1) := by decide +kernel
theorem dX5_open_47 : decode cX5_open 47 = .ok (.ifCond .le 9, 3) := by decide +kernel
theorem dX5_open_50 : decode cX5_open 50 = .ok (.iconst 1, 1) := by decide +kernel
theorem dX5_open_51 : decode cX5_open 51 = .ok (.iload_n 3, 1) := by decide +kernel
theorem dX5_open_52 : decode cX5_open 52 = .ok (.ishl, 1) := by decide +kernel
theorem dX5_open_53 : decode cX5_open 53 = .ok (.goto 4, 3) := by decide +kernel
theorem dX5_open_56 : decode cX5_open 56 = .ok (.iconst 0, 1) := by decide +kernel
theorem dX5_open_57 : decode cX5_open 57 = .ok (.ior, 1) := by decide +kernel
theorem dX5_open_58 : decode cX5_open 58 = .ok (.istore_n 2, 1) := by decide +kernel
theorem dX5_open_59 : decode cX5_open 59 = .ok (.iinc 3 1, 3) := by decide +kernel
theorem dX5_open_62 : decode cX5_open 62 = .ok (.goto (-37), 3) := by decide +kernel
theorem dX5_open_65 : decode cX5_open 65 = .ok (.iload_n 2, 1) := by decide +kernel
theorem dX5_open_66 : decode cX5_open 66 = .ok (.ireturn, 1) := by decide +kernel
theorem dX5_borne_0 : decode cX5_borne 0 = .ok (.iconst 0, 1) := by decide +kernel
theorem dX5_borne_1 : decode cX5_borne 1 = .ok (.istore_n 2, 1) := by decide +kernel
theorem dX5_borne_2 : decode cX5_borne 2 = .ok (.iload_n 2, 1) := by decide +kernel
theorem dX5_borne_3 : decode cX5_borne 3 = .ok (.aload_n 0, 1) := by decide +kernel
theorem dX5_borne_4 : decode cX5_borne 4 = .ok (.getfield 105, 3) := by decide +kernel
theorem dX5_borne_7 : decode cX5_borne 7 = .ok (.if_icmp .ge 96, 3) := by decide +kernel
theorem dX5_borne_10 : decode cX5_borne 10 = .ok (.aload_n 0, 1) := by decide +kernel
theorem dX5_borne_11 : decode cX5_borne 11 = .ok (.getfield 86, 3) := by decide +kernel
theorem dX5_borne_14 : decode cX5_borne 14 = .ok (.iload_n 2, 1) := by decide +kernel
theorem dX5_borne_15 : decode cX5_borne 15 = .ok (.iaload, 1) := by decide +kernel
theorem dX5_borne_16 : decode cX5_borne 16 = .ok (.iload_n 1, 1) := by decide +kernel
theorem dX5_borne_17 : decode cX5_borne 17 = .ok (.if_icmp .eq 6, 3) := by decide +kernel
theorem dX5_borne_20 : decode cX5_borne 20 = .ok (.goto 77, 3) := by decide +kernel
theorem dX5_borne_23 : decode cX5_borne 23 = .ok (.iconst 0, 1) := by decide +kernel
theorem dX5_borne_24 : decode cX5_borne 24 = .ok (.istore_n 3, 1) := by decide +kernel
theorem dX5_borne_25 : decode cX5_borne 25 = .ok (.iload_n 2, 1) := by decide +kernel
theorem dX5_borne_26 : decode cX5_borne 26 = .ok (.iconst 1, 1) := by decide +kernel
theorem dX5_borne_27 : decode cX5_borne 27 = .ok (.iadd, 1) := by decide +kernel
theorem dX5_borne_28 : decode cX5_borne 28 = .ok (.istore 4, 2) := by decide +kernel
theorem dX5_borne_30 : decode cX5_borne 30 = .ok (.iload 4, 2) := by decide +kernel
theorem dX5_borne_32 : decode cX5_borne 32 = .ok (.aload_n 0, 1) := by decide +kernel
theorem dX5_borne_33 : decode cX5_borne 33 = .ok (.getfield 105, 3) := by decide +kernel
theorem dX5_borne_36 : decode cX5_borne 36 = .ok (.if_icmp .ge 59, 3) := by decide +kernel
theorem dX5_borne_39 : decode cX5_borne 39 = .ok (.aload_n 0, 1) := by decide +kernel
theorem dX5_borne_40 : decode cX5_borne 40 = .ok (.getfield 62, 3) := by decide +kernel
theorem dX5_borne_43 : decode cX5_borne 43 = .ok (.iload 4, 2) := by decide +kernel
theorem dX5_borne_45 : decode cX5_borne 45 = .ok (.iaload, 1) := by decide +kernel
theorem dX5_borne_46 : decode cX5_borne 46 = .ok (.aload_n 0, 1) := by decide +kernel
theorem dX5_borne_47 : decode cX5_borne 47 = .ok (.getfield 62, 3) := by decide +kernel
theorem dX5_borne_50 : decode cX5_borne 50 = .ok (.iload_n 2, 1) := by decide +kernel
theorem dX5_borne_51 : decode cX5_borne 51 = .ok (.iaload, 1) := by decide +kernel
theorem dX5_borne_52 : decode cX5_borne 52 = .ok (.if_icmp .ne 37, 3) := by decide +kernel
theorem dX5_borne_55 : decode cX5_borne 55 = .ok (.iload_n 3, 1) := by decide +kernel
theorem dX5_borne_56 : decode cX5_borne 56 = .ok (.aload_n 0, 1) := by decide +kernel
theorem dX5_borne_57 : decode cX5_borne 57 = .ok (.getfield 86, 3) := by decide +kernel
theorem dX5_borne_60 : decode cX5_borne 60 = .ok (.iload 4, 2) := by decide +kernel
theorem dX5_borne_62 : decode cX5_borne 62 = .ok (.iaload, 1) := by decide +kernel
theorem dX5_borne_63 : decode cX5_borne 63 = .ok (.bipush 10, 2) := by decide +kernel
theorem dX5_borne_65 : decode cX5_borne 65 = .ok (.if_icmp .ne 10, 3) := by decide +kernel
theorem dX5_borne_68 : decode cX5_borne 68 = .ok (.aload_n 0, 1) := by decide +kernel
theorem dX5_borne_69 : decode cX5_borne 69 = .ok (.getfield 13, 3) := by decide +kernel
theorem dX5_borne_72 : decode cX5_borne 72 = .ok (.goto 15, 3) := by decide +kernel
theorem dX5_borne_75 : decode cX5_borne 75 = .ok (.aload_n 0, 1) := by decide +kernel
theorem dX5_borne_76 : decode cX5_borne 76 = .ok (.getfield 44, 3) := by decide +kernel
theorem dX5_borne_79 : decode cX5_borne 79 = .ok (.aload_n 0, 1) := by decide +kernel
theorem dX5_borne_80 : decode cX5_borne 80 = .ok (.getfield 86, 3) := by decide +kernel
theorem dX5_borne_83 : decode cX5_borne 83 = .ok (.iload 4, 2) := by decide +kernel
theorem dX5_borne_85 : decode cX5_borne 85 = .ok (.iaload, 1) := by decide +kernel
theorem dX5_borne_86 : decode cX5_borne 86 = .ok (.iaload, 1) := by decide +kernel
theorem dX5_borne_87 : decode cX5_borne 87 = .ok (.iadd, 1) := by decide +kernel
theorem dX5_borne_88 : decode cX5_borne 88 = .ok (.istore_n 3, 1) := by decide +kernel
theorem dX5_borne_89 : decode cX5_borne 89 = .ok (.iinc 4 1, 3) := by decide +kernel
theorem dX5_borne_92 : decode cX5_borne 92 = .ok (.goto (-62), 3) := by decide +kernel
theorem dX5_borne_95 : decode cX5_borne 95 = .ok (.iload_n 3, 1) := by decide +kernel
theorem dX5_borne_96 : decode cX5_borne 96 = .ok (.ireturn, 1) := by decide +kernel
theorem dX5_borne_97 : decode cX5_borne 97 = .ok (.iinc 2 1, 3) := by decide +kernel
theorem dX5_borne_100 : decode cX5_borne 100 = .ok (.goto (-98), 3) := by decide +kernel
theorem dX5_borne_103 : decode cX5_borne 103 = .ok (.iconst (-1), 1) := by decide +kernel
theorem dX5_borne_104 : decode cX5_borne 104 = .ok (.ireturn, 1) := by decide +kernel
theorem dX5_bears_0 : decode cX5_bears 0 = .ok (.aload_n 0, 1) := by decide +kernel
theorem dX5_bears_1 : decode cX5_bears 1 = .ok (.invokevirtual 158, 3) := by decide +kernel
theorem dX5_bears_4 : decode cX5_bears 4 = .ok (.ifCond .eq 19, 3) := by decide +kernel
theorem dX5_bears_7 : decode cX5_bears 7 = .ok (.aload_n 0, 1) := by decide +kernel
theorem dX5_bears_8 : decode cX5_bears 8 = .ok (.iload_n 1, 1) := by decide +kernel
theorem dX5_bears_9 : decode cX5_bears 9 = .ok (.invokevirtual 124, 3) := by decide +kernel
theorem dX5_bears_12 : decode cX5_bears 12 = .ok (.ifCond .eq 11, 3) := by decide +kernel
theorem dX5_bears_15 : decode cX5_bears 15 = .ok (.aload_n 0, 1) := by decide +kernel
theorem dX5_bears_16 : decode cX5_bears 16 = .ok (.iload_n 1, 1) := by decide +kernel
theorem dX5_bears_17 : decode cX5_bears 17 = .ok (.invokevirtual 165, 3) := by decide +kernel
theorem dX5_bears_20 : decode cX5_bears 20 = .ok (.goto 4, 3) := by decide +kernel
theorem dX5_bears_23 : decode cX5_bears 23 = .ok (.iconst (-1), 1) := by decide +kernel
theorem dX5_bears_24 : decode cX5_bears 24 = .ok (.ireturn, 1) := by decide +kernel
theorem dX5_cracked_0 : decode cX5_cracked 0 = .ok (.aload_n 0, 1) := by decide +kernel
theorem dX5_cracked_1 : decode cX5_cracked 1 = .ok (.invokevirtual 158, 3) := by decide +kernel
theorem dX5_cracked_4 : decode cX5_cracked 4 = .ok (.ifCond .ne 5, 3) := by decide +kernel
theorem dX5_cracked_7 : decode cX5_cracked 7 = .ok (.iconst 0, 1) := by decide +kernel
theorem dX5_cracked_8 : decode cX5_cracked 8 = .ok (.ireturn, 1) := by decide +kernel
theorem dX5_cracked_9 : decode cX5_cracked 9 = .ok (.iconst 0, 1) := by decide +kernel
theorem dX5_cracked_10 : decode cX5_cracked 10 = .ok (.istore_n 1, 1) := by decide +kernel
theorem dX5_cracked_11 : decode cX5_cracked 11 = .ok (.iconst 0, 1) := by decide +kernel
theorem dX5_cracked_12 : decode cX5_cracked 12 = .ok (.istore_n 2, 1) := by decide +kernel
theorem dX5_cracked_13 : decode cX5_cracked 13 = .ok (.iload_n 2, 1) := by decide +kernel
theorem dX5_cracked_14 : decode cX5_cracked 14 = .ok (.aload_n 0, 1) := by decide +kernel
theorem dX5_cracked_15 : decode cX5_cracked 15 = .ok (.getfield 99, 3) := by decide +kernel
theorem dX5_cracked_18 : decode cX5_cracked 18 = .ok (.if_icmp .ge 33, 3) := by decide +kernel
theorem dX5_cracked_21 : decode cX5_cracked 21 = .ok (.iload_n 1, 1) := by decide +kernel
theorem dX5_cracked_22 : decode cX5_cracked 22 = .ok (.aload_n 0, 1) := by decide +kernel
theorem dX5_cracked_23 : decode cX5_cracked 23 = .ok (.iload_n 2, 1) := by decide +kernel
theorem dX5_cracked_24 : decode cX5_cracked 24 = .ok (.invokevirtual 165, 3) := by decide +kernel
theorem dX5_cracked_27 : decode cX5_cracked 27 = .ok (.aload_n 0, 1) := by decide +kernel
theorem dX5_cracked_28 : decode cX5_cracked 28 = .ok (.getfield 47, 3) := by decide +kernel
theorem dX5_cracked_31 : decode cX5_cracked 31 = .ok (.iload_n 2, 1) := by decide +kernel
theorem dX5_cracked_32 : decode cX5_cracked 32 = .ok (.iaload, 1) := by decide +kernel
theorem dX5_cracked_33 : decode cX5_cracked 33 = .ok (.if_icmp .le 9, 3) := by decide +kernel
theorem dX5_cracked_36 : decode cX5_cracked 36 = .ok (.iconst 1, 1) := by decide +kernel
theorem dX5_cracked_37 : decode cX5_cracked 37 = .ok (.iload_n 2, 1) := by decide +kernel
theorem dX5_cracked_38 : decode cX5_cracked 38 = .ok (.ishl, 1) := by decide +kernel
theorem dX5_cracked_39 : decode cX5_cracked 39 = .ok (.goto 4, 3) := by decide +kernel
theorem dX5_cracked_42 : decode cX5_cracked 42 = .ok (.iconst 0, 1) := by decide +kernel
theorem dX5_cracked_43 : decode cX5_cracked 43 = .ok (.ior, 1) := by decide +kernel
theorem dX5_cracked_44 : decode cX5_cracked 44 = .ok (.istore_n 1, 1) := by decide +kernel
theorem dX5_cracked_45 : decode cX5_cracked 45 = .ok (.iinc 2 1, 3) := by decide +kernel
theorem dX5_cracked_48 : decode cX5_cracked 48 = .ok (.goto (-35), 3) := by decide +kernel
theorem dX5_cracked_51 : decode cX5_cracked 51 = .ok (.iload_n 1, 1) := by decide +kernel
theorem dX5_cracked_52 : decode cX5_cracked 52 = .ok (.ireturn, 1) := by decide +kernel
theorem dX5_isFull_0 : decode cX5_isFull 0 = .ok (.aload_n 0, 1) := by decide +kernel
theorem dX5_isFull_1 : decode cX5_isFull 1 = .ok (.getfield 89, 3) := by decide +kernel
theorem dX5_isFull_4 : decode cX5_isFull 4 = .ok (.iload_n 1, 1) := by decide +kernel
theorem dX5_isFull_5 : decode cX5_isFull 5 = .ok (.iaload, 1) := by decide +kernel
theorem dX5_isFull_6 : decode cX5_isFull 6 = .ok (.aload_n 0, 1) := by decide +kernel
theorem dX5_isFull_7 : decode cX5_isFull 7 = .ok (.getfield 59, 3) := by decide +kernel
theorem dX5_isFull_10 : decode cX5_isFull 10 = .ok (.iload_n 1, 1) := by decide +kernel
theorem dX5_isFull_11 : decode cX5_isFull 11 = .ok (.iaload, 1) := by decide +kernel
theorem dX5_isFull_12 : decode cX5_isFull 12 = .ok (.if_icmp .ne 7, 3) := by decide +kernel
theorem dX5_isFull_15 : decode cX5_isFull 15 = .ok (.iconst 1, 1) := by decide +kernel
theorem dX5_isFull_16 : decode cX5_isFull 16 = .ok (.goto 4, 3) := by decide +kernel
theorem dX5_isFull_19 : decode cX5_isFull 19 = .ok (.iconst 0, 1) := by decide +kernel
theorem dX5_isFull_20 : decode cX5_isFull 20 = .ok (.ireturn, 1) := by decide +kernel
theorem dX5_isLevel_0 : decode cX5_isLevel 0 = .ok (.aload_n 0, 1) := by decide +kernel
theorem dX5_isLevel_1 : decode cX5_isLevel 1 = .ok (.iload_n 1, 1) := by decide +kernel
theorem dX5_isLevel_2 : decode cX5_isLevel 2 = .ok (.invokevirtual 168, 3) := by decide +kernel
theorem dX5_isLevel_5 : decode cX5_isLevel 5 = .ok (.ifCond .eq 5, 3) := by decide +kernel
theorem dX5_isLevel_8 : decode cX5_isLevel 8 = .ok (.iconst 0, 1) := by decide +kernel
theorem dX5_isLevel_9 : decode cX5_isLevel 9 = .ok (.ireturn, 1) := by decide +kernel
theorem dX5_isLevel_10 : decode cX5_isLevel 10 = .ok (.iload_n 1, 1) := by decide +kernel
theorem dX5_isLevel_11 : decode cX5_isLevel 11 = .ok (.iconst 1, 1) := by decide +kernel
theorem dX5_isLevel_12 : decode cX5_isLevel 12 = .ok (.isub, 1) := by decide +kernel
theorem dX5_isLevel_13 : decode cX5_isLevel 13 = .ok (.istore_n 2, 1) := by decide +kernel
theorem dX5_isLevel_14 : decode cX5_isLevel 14 = .ok (.iload_n 2, 1) := by decide +kernel
theorem dX5_isLevel_15 : decode cX5_isLevel 15 = .ok (.iload_n 1, 1) := by decide +kernel
theorem dX5_isLevel_16 : decode cX5_isLevel 16 = .ok (.iconst 1, 1) := by decide +kernel
theorem dX5_isLevel_17 : decode cX5_isLevel 17 = .ok (.iadd, 1) := by decide +kernel
theorem dX5_isLevel_18 : decode cX5_isLevel 18 = .ok (.if_icmp .gt 49, 3) := by decide +kernel
theorem dX5_isLevel_21 : decode cX5_isLevel 21 = .ok (.aload_n 0, 1) := by decide +kernel
theorem dX5_isLevel_22 : decode cX5_isLevel 22 = .ok (.iload_n 2, 1) := by decide +kernel
theorem dX5_isLevel_23 : decode cX5_isLevel 23 = .ok (.invokevirtual 131, 3) := by decide +kernel
theorem dX5_isLevel_26 : decode cX5_isLevel 26 = .ok (.ifCond .eq 35, 3) := by decide +kernel
theorem dX5_isLevel_29 : decode cX5_isLevel 29 = .ok (.aload_n 0, 1) := by decide +kernel
theorem dX5_isLevel_30 : decode cX5_isLevel 30 = .ok (.iload_n 2, 1) := by decide +kernel
theorem dX5_isLevel_31 : decode cX5_isLevel 31 = .ok (.invokevirtual 168, 3) := by decide +kernel
theorem dX5_isLevel_34 : decode cX5_isLevel 34 = .ok (.ifCond .ne 27, 3) := by decide +kernel
theorem dX5_isLevel_37 : decode cX5_isLevel 37 = .ok (.aload_n 0, 1) := by decide +kernel
theorem dX5_isLevel_38 : decode cX5_isLevel 38 = .ok (.getfield 89, 3) := by decide +kernel
theorem dX5_isLevel_41 : decode cX5_isLevel 41 = .ok (.iload_n 1, 1) := by decide +kernel
theorem dX5_isLevel_42 : decode cX5_isLevel 42 = .ok (.iaload, 1) := by decide +kernel
theorem dX5_isLevel_43 : decode cX5_isLevel 43 = .ok (.iconst 1, 1) := by decide +kernel
theorem dX5_isLevel_44 : decode cX5_isLevel 44 = .ok (.iadd, 1) := by decide +kernel
theorem dX5_isLevel_45 : decode cX5_isLevel 45 = .ok (.aload_n 0, 1) := by decide +kernel
theorem dX5_isLevel_46 : decode cX5_isLevel 46 = .ok (.getfield 89, 3) := by decide +kernel
theorem dX5_isLevel_49 : decode cX5_isLevel 49 = .ok (.iload_n 2, 1) := by decide +kernel
theorem dX5_isLevel_50 : decode cX5_isLevel 50 = .ok (.iaload, 1) := by decide +kernel
theorem dX5_isLevel_51 : decode cX5_isLevel 51 = .ok (.isub, 1) := by decide +kernel
theorem dX5_isLevel_52 : decode cX5_isLevel 52 = .ok (.aload_n 0, 1) := by decide +kernel
theorem dX5_isLevel_53 : decode cX5_isLevel 53 = .ok (.getfield 16, 3) := by decide +kernel
theorem dX5_isLevel_56 : decode cX5_isLevel 56 = .ok (.if_icmp .le 5, 3) := by decide +kernel
theorem dX5_isLevel_59 : decode cX5_isLevel 59 = .ok (.iconst 0, 1) := by decide +kernel
theorem dX5_isLevel_60 : decode cX5_isLevel 60 = .ok (.ireturn, 1) := by decide +kernel
theorem dX5_isLevel_61 : decode cX5_isLevel 61 = .ok (.iinc 2 2, 3) := by decide +kernel
theorem dX5_isLevel_64 : decode cX5_isLevel 64 = .ok (.goto (-50), 3) := by decide +kernel
theorem dX5_isLevel_67 : decode cX5_isLevel 67 = .ok (.iconst 1, 1) := by decide +kernel
theorem dX5_isLevel_68 : decode cX5_isLevel 68 = .ok (.ireturn, 1) := by decide +kernel
theorem dX5_setting_0 : decode cX5_setting 0 = .ok (.aload_n 0, 1) := by decide +kernel
theorem dX5_setting_1 : decode cX5_setting 1 = .ok (.invokevirtual 158, 3) := by decide +kernel
theorem dX5_setting_4 : decode cX5_setting 4 = .ok (.ifCond .eq 15, 3) := by decide +kernel
theorem dX5_setting_7 : decode cX5_setting 7 = .ok (.iload_n 1, 1) := by decide +kernel
theorem dX5_setting_8 : decode cX5_setting 8 = .ok (.ifCond .lt 11, 3) := by decide +kernel
theorem dX5_setting_11 : decode cX5_setting 11 = .ok (.iload_n 1, 1) := by decide +kernel
theorem dX5_setting_12 : decode cX5_setting 12 = .ok (.aload_n 0, 1) := by decide +kernel
theorem dX5_setting_13 : decode cX5_setting 13 = .ok (.getfield 105, 3) := by decide +kernel
theorem dX5_setting_16 : decode cX5_setting 16 = .ok (.if_icmp .lt 5, 3) := by decide +kernel
theorem dX5_setting_19 : decode cX5_setting 19 = .ok (.iconst (-1), 1) := by decide +kernel
theorem dX5_setting_20 : decode cX5_setting 20 = .ok (.ireturn, 1) := by decide +kernel
theorem dX5_setting_21 : decode cX5_setting 21 = .ok (.iconst 0, 1) := by decide +kernel
theorem dX5_setting_22 : decode cX5_setting 22 = .ok (.istore_n 2, 1) := by decide +kernel
theorem dX5_setting_23 : decode cX5_setting 23 = .ok (.iload_n 2, 1) := by decide +kernel
theorem dX5_setting_24 : decode cX5_setting 24 = .ok (.aload_n 0, 1) := by decide +kernel
theorem dX5_setting_25 : decode cX5_setting 25 = .ok (.getfield 102, 3) := by decide +kernel
theorem dX5_setting_28 : decode cX5_setting 28 = .ok (.if_icmp .ge 16, 3) := by decide +kernel
theorem dX5_setting_31 : decode cX5_setting 31 = .ok (.aload_n 0, 1) := by decide +kernel
theorem dX5_setting_32 : decode cX5_setting 32 = .ok (.getfield 89, 3) := by decide +kernel
theorem dX5_setting_35 : decode cX5_setting 35 = .ok (.iload_n 2, 1) := by decide +kernel
theorem dX5_setting_36 : decode cX5_setting 36 = .ok (.iconst 0, 1) := by decide +kernel
theorem dX5_setting_37 : decode cX5_setting 37 = .ok (.iastore, 1) := by decide +kernel
theorem dX5_setting_38 : decode cX5_setting 38 = .ok (.iinc 2 1, 3) := by decide +kernel
theorem dX5_setting_41 : decode cX5_setting 41 = .ok (.goto (-18), 3) := by decide +kernel
theorem dX5_setting_44 : decode cX5_setting 44 = .ok (.iconst (-1), 1) := by decide +kernel
theorem dX5_setting_45 : decode cX5_setting 45 = .ok (.istore_n 2, 1) := by decide +kernel
theorem dX5_setting_46 : decode cX5_setting 46 = .ok (.iconst 0, 1) := by decide +kernel
theorem dX5_setting_47 : decode cX5_setting 47 = .ok (.istore_n 3, 1) := by decide +kernel
theorem dX5_setting_48 : decode cX5_setting 48 = .ok (.iload_n 3, 1) := by decide +kernel
theorem dX5_setting_49 : decode cX5_setting 49 = .ok (.iload_n 1, 1) := by decide +kernel
theorem dX5_setting_50 : decode cX5_setting 50 = .ok (.if_icmp .gt 176, 3) := by decide +kernel
theorem dX5_setting_53 : decode cX5_setting 53 = .ok (.iconst (-1), 1) := by decide +kernel
theorem dX5_setting_54 : decode cX5_setting 54 = .ok (.istore 4, 2) := by decide +kernel
theorem dX5_setting_56 : decode cX5_setting 56 = .ok (.aload_n 0, 1) := by decide +kernel
theorem dX5_setting_57 : decode cX5_setting 57 = .ok (.getfield 102, 3) := by decide +kernel
theorem dX5_setting_60 : decode cX5_setting 60 = .ok (.iconst 1, 1) := by decide +kernel
theorem dX5_setting_61 : decode cX5_setting 61 = .ok (.isub, 1) := by decide +kernel
theorem dX5_setting_62 : decode cX5_setting 62 = .ok (.istore 5, 2) := by decide +kernel
theorem dX5_setting_64 : decode cX5_setting 64 = .ok (.iload 5, 2) := by decide +kernel
theorem dX5_setting_66 : decode cX5_setting 66 = .ok (.ifCond .lt 22, 3) := by decide +kernel
theorem dX5_setting_69 : decode cX5_setting 69 = .ok (.aload_n 0, 1) := by decide +kernel
theorem dX5_setting_70 : decode cX5_setting 70 = .ok (.iload 5, 2) := by decide +kernel
theorem dX5_setting_72 : decode cX5_setting 72 = .ok (.invokevirtual 171, 3) := by decide +kernel
theorem dX5_setting_75 : decode cX5_setting 75 = .ok (.ifCond .eq 7, 3) := by decide +kernel
theorem dX5_setting_78 : decode cX5_setting 78 = .ok (.iload 5, 2) := by decide +kernel
theorem dX5_setting_80 : decode cX5_setting 80 = .ok (.istore 4, 2) := by decide +kernel
theorem dX5_setting_82 : decode cX5_setting 82 = .ok (.iinc 5 (-1), 3) := by decide +kernel
theorem dX5_setting_85 : decode cX5_setting 85 = .ok (.goto (-21), 3) := by decide +kernel
theorem dX5_setting_88 : decode cX5_setting 88 = .ok (.iconst 0, 1) := by decide +kernel
theorem dX5_setting_89 : decode cX5_setting 89 = .ok (.istore 5, 2) := by decide +kernel
theorem dX5_setting_91 : decode cX5_setting 91 = .ok (.iload 5, 2) := by decide +kernel
theorem dX5_setting_93 : decode cX5_setting 93 = .ok (.aload_n 0, 1) := by decide +kernel
theorem dX5_setting_94 : decode cX5_setting 94 = .ok (.getfield 102, 3) := by decide +kernel
theorem dX5_setting_97 : decode cX5_setting 97 = .ok (.if_icmp .ge 96, 3) := by decide +kernel
theorem dX5_setting_100 : decode cX5_setting 100 = .ok (.iload 4, 2) := by decide +kernel
theorem dX5_setting_102 : decode cX5_setting 102 = .ok (.iconst (-1), 1) := by decide +kernel
theorem dX5_setting_103 : decode cX5_setting 103 = .ok (.if_icmp .ne 90, 3) := by decide +kernel
theorem dX5_setting_106 : decode cX5_setting 106 = .ok (.aload_n 0, 1) := by decide +kernel
theorem dX5_setting_107 : decode cX5_setting 107 = .ok (.iload 5, 2) := by decide +kernel
theorem dX5_setting_109 : decode cX5_setting 109 = .ok (.invokevirtual 168, 3) := by decide +kernel
theorem dX5_setting_112 : decode cX5_setting 112 = .ok (.ifCond .ne 7, 3) := by decide +kernel
theorem dX5_setting_115 : decode cX5_setting 115 = .ok (.iconst 1, 1) := by decide +kernel
theorem dX5_setting_116 : decode cX5_setting 116 = .ok (.goto 4, 3) := by decide +kernel
theorem dX5_setting_119 : decode cX5_setting 119 = .ok (.iconst 0, 1) := by decide +kernel
theorem dX5_setting_120 : decode cX5_setting 120 = .ok (.istore 6, 2) := by decide +kernel
theorem dX5_setting_122 : decode cX5_setting 122 = .ok (.iconst 0, 1) := by decide +kernel
theorem dX5_setting_123 : decode cX5_setting 123 = .ok (.istore 7, 2) := by decide +kernel
theorem dX5_setting_125 : decode cX5_setting 125 = .ok (.iload 7, 2) := by decide +kernel
theorem dX5_setting_127 : decode cX5_setting 127 = .ok (.aload_n 0, 1) := by decide +kernel
theorem dX5_setting_128 : decode cX5_setting 128 = .ok (.getfield 102, 3) := by decide +kernel
theorem dX5_setting_131 : decode cX5_setting 131 = .ok (.if_icmp .ge 47, 3) := by decide +kernel
theorem dX5_setting_134 : decode cX5_setting 134 = .ok (.iload 6, 2) := by decide +kernel
theorem dX5_setting_136 : decode cX5_setting 136 = .ok (.ifCond .eq 33, 3) := by decide +kernel
theorem dX5_setting_139 : decode cX5_setting 139 = .ok (.aload_n 0, 1) := by decide +kernel
theorem dX5_setting_140 : decode cX5_setting 140 = .ok (.iload 7, 2) := by decide +kernel
theorem dX5_setting_142 : decode cX5_setting 142 = .ok (.invokevirtual 168, 3) := by decide +kernel
theorem dX5_setting_145 : decode cX5_setting 145 = .ok (.ifCond .ne 20, 3) := by decide +kernel
theorem dX5_setting_148 : decode cX5_setting 148 = .ok (.aload_n 0, 1) := by decide +kernel
theorem dX5_setting_149 : decode cX5_setting 149 = .ok (.getfield 89, 3) := by decide +kernel
theorem dX5_setting_152 : decode cX5_setting 152 = .ok (.iload 5, 2) := by decide +kernel
theorem dX5_setting_154 : decode cX5_setting 154 = .ok (.iaload, 1) := by decide +kernel
theorem dX5_setting_155 : decode cX5_setting 155 = .ok (.aload_n 0, 1) := by decide +kernel
theorem dX5_setting_156 : decode cX5_setting 156 = .ok (.getfield 89, 3) := by decide +kernel
theorem dX5_setting_159 : decode cX5_setting 159 = .ok (.iload 7, 2) := by decide +kernel
theorem dX5_setting_161 : decode cX5_setting 161 = .ok (.iaload, 1) := by decide +kernel
theorem dX5_setting_162 : decode cX5_setting 162 = .ok (.if_icmp .gt 7, 3) := by decide +kernel
theorem dX5_setting_165 : decode cX5_setting 165 = .ok (.iconst 1, 1) := by decide +kernel
theorem dX5_setting_166 : decode cX5_setting 166 = .ok (.goto 4, 3) := by decide +kernel
theorem dX5_setting_169 : decode cX5_setting 169 = .ok (.iconst 0, 1) := by decide +kernel
theorem dX5_setting_170 : decode cX5_setting 170 = .ok (.istore 6, 2) := by decide +kernel
theorem dX5_setting_172 : decode cX5_setting 172 = .ok (.iinc 7 1, 3) := by decide +kernel
theorem dX5_setting_175 : decode cX5_setting 175 = .ok (.goto (-50), 3) := by decide +kernel
theorem dX5_setting_178 : decode cX5_setting 178 = .ok (.iload 6, 2) := by decide +kernel
theorem dX5_setting_180 : decode cX5_setting 180 = .ok (.ifCond .eq 7, 3) := by decide +kernel
theorem dX5_setting_183 : decode cX5_setting 183 = .ok (.iload 5, 2) := by decide +kernel
theorem dX5_setting_185 : decode cX5_setting 185 = .ok (.istore 4, 2) := by decide +kernel
theorem dX5_setting_187 : decode cX5_setting 187 = .ok (.iinc 5 1, 3) := by decide +kernel
theorem dX5_setting_190 : decode cX5_setting 190 = .ok (.goto (-99), 3) := by decide +kernel
theorem dX5_setting_193 : decode cX5_setting 193 = .ok (.aload_n 0, 1) := by decide +kernel
theorem dX5_setting_194 : decode cX5_setting 194 = .ok (.getfield 56, 3) := by decide +kernel
theorem dX5_setting_197 : decode cX5_setting 197 = .ok (.iload 4, 2) := by decide +kernel
theorem dX5_setting_199 : decode cX5_setting 199 = .ok (.iaload, 1) := by decide +kernel
theorem dX5_setting_200 : decode cX5_setting 200 = .ok (.aload_n 0, 1) := by decide +kernel
theorem dX5_setting_201 : decode cX5_setting 201 = .ok (.getfield 89, 3) := by decide +kernel
theorem dX5_setting_204 : decode cX5_setting 204 = .ok (.iload 4, 2) := by decide +kernel
theorem dX5_setting_206 : decode cX5_setting 206 = .ok (.iaload, 1) := by decide +kernel
theorem dX5_setting_207 : decode cX5_setting 207 = .ok (.iadd, 1) := by decide +kernel
theorem dX5_setting_208 : decode cX5_setting 208 = .ok (.istore_n 2, 1) := by decide +kernel
theorem dX5_setting_209 : decode cX5_setting 209 = .ok (.aload_n 0, 1) := by decide +kernel
theorem dX5_setting_210 : decode cX5_setting 210 = .ok (.getfield 89, 3) := by decide +kernel
theorem dX5_setting_213 : decode cX5_setting 213 = .ok (.iload 4, 2) := by decide +kernel
theorem dX5_setting_215 : decode cX5_setting 215 = .ok (.dup2, 1) := by decide +kernel
theorem dX5_setting_216 : decode cX5_setting 216 = .ok (.iaload, 1) := by decide +kernel
theorem dX5_setting_217 : decode cX5_setting 217 = .ok (.iconst 1, 1) := by decide +kernel
theorem dX5_setting_218 : decode cX5_setting 218 = .ok (.iadd, 1) := by decide +kernel
theorem dX5_setting_219 : decode cX5_setting 219 = .ok (.iastore, 1) := by decide +kernel
theorem dX5_setting_220 : decode cX5_setting 220 = .ok (.iinc 3 1, 3) := by decide +kernel
theorem dX5_setting_223 : decode cX5_setting 223 = .ok (.goto (-175), 3) := by decide +kernel
theorem dX5_setting_226 : decode cX5_setting 226 = .ok (.iload_n 2, 1) := by decide +kernel
theorem dX5_setting_227 : decode cX5_setting 227 = .ok (.ireturn, 1) := by decide +kernel
theorem dX5_tall_0 : decode cX5_tall 0 = .ok (.aload_n 0, 1) := by decide +kernel
theorem dX5_tall_1 : decode cX5_tall 1 = .ok (.invokevirtual 158, 3) := by decide +kernel
theorem dX5_tall_4 : decode cX5_tall 4 = .ok (.ifCond .eq 11, 3) := by decide +kernel
theorem dX5_tall_7 : decode cX5_tall 7 = .ok (.aload_n 0, 1) := by decide +kernel
theorem dX5_tall_8 : decode cX5_tall 8 = .ok (.iload_n 1, 1) := by decide +kernel
theorem dX5_tall_9 : decode cX5_tall 9 = .ok (.invokevirtual 131, 3) := by decide +kernel
theorem dX5_tall_12 : decode cX5_tall 12 = .ok (.ifCond .ne 5, 3) := by decide +kernel
theorem dX5_tall_15 : decode cX5_tall 15 = .ok (.iconst (-1), 1) := by decide +kernel
theorem dX5_tall_16 : decode cX5_tall 16 = .ok (.ireturn, 1) := by decide +kernel
theorem dX5_tall_17 : decode cX5_tall 17 = .ok (.iconst 0, 1) := by decide +kernel
theorem dX5_tall_18 : decode cX5_tall 18 = .ok (.istore_n 2, 1) := by decide +kernel
theorem dX5_tall_19 : decode cX5_tall 19 = .ok (.iconst 0, 1) := by decide +kernel
theorem dX5_tall_20 : decode cX5_tall 20 = .ok (.istore_n 3, 1) := by decide +kernel
theorem dX5_tall_21 : decode cX5_tall 21 = .ok (.iload_n 3, 1) := by decide +kernel
theorem dX5_tall_22 : decode cX5_tall 22 = .ok (.aload_n 0, 1) := by decide +kernel
theorem dX5_tall_23 : decode cX5_tall 23 = .ok (.getfield 99, 3) := by decide +kernel
theorem dX5_tall_26 : decode cX5_tall 26 = .ok (.if_icmp .ge 18, 3) := by decide +kernel
theorem dX5_tall_29 : decode cX5_tall 29 = .ok (.iload_n 2, 1) := by decide +kernel
theorem dX5_tall_30 : decode cX5_tall 30 = .ok (.aload_n 0, 1) := by decide +kernel
theorem dX5_tall_31 : decode cX5_tall 31 = .ok (.getfield 32, 3) := by decide +kernel
theorem dX5_tall_34 : decode cX5_tall 34 = .ok (.iload_n 3, 1) := by decide +kernel
theorem dX5_tall_35 : decode cX5_tall 35 = .ok (.iaload, 1) := by decide +kernel
theorem dX5_tall_36 : decode cX5_tall 36 = .ok (.iadd, 1) := by decide +kernel
theorem dX5_tall_37 : decode cX5_tall 37 = .ok (.istore_n 2, 1) := by decide +kernel
theorem dX5_tall_38 : decode cX5_tall 38 = .ok (.iinc 3 1, 3) := by decide +kernel
theorem dX5_tall_41 : decode cX5_tall 41 = .ok (.goto (-20), 3) := by decide +kernel
theorem dX5_tall_44 : decode cX5_tall 44 = .ok (.aload_n 0, 1) := by decide +kernel
theorem dX5_tall_45 : decode cX5_tall 45 = .ok (.getfield 99, 3) := by decide +kernel
theorem dX5_tall_48 : decode cX5_tall 48 = .ok (.ifCond .ne 7, 3) := by decide +kernel
theorem dX5_tall_51 : decode cX5_tall 51 = .ok (.iconst 0, 1) := by decide +kernel
theorem dX5_tall_52 : decode cX5_tall 52 = .ok (.goto 9, 3) := by decide +kernel
theorem dX5_tall_55 : decode cX5_tall 55 = .ok (.iload_n 2, 1) := by decide +kernel
theorem dX5_tall_56 : decode cX5_tall 56 = .ok (.aload_n 0, 1) := by decide +kernel
theorem dX5_tall_57 : decode cX5_tall 57 = .ok (.getfield 99, 3) := by decide +kernel
theorem dX5_tall_60 : decode cX5_tall 60 = .ok (.idiv, 1) := by decide +kernel
theorem dX5_tall_61 : decode cX5_tall 61 = .ok (.istore_n 3, 1) := by decide +kernel
theorem dX5_tall_62 : decode cX5_tall 62 = .ok (.iconst 0, 1) := by decide +kernel
theorem dX5_tall_63 : decode cX5_tall 63 = .ok (.istore 4, 2) := by decide +kernel
theorem dX5_tall_65 : decode cX5_tall 65 = .ok (.iconst 0, 1) := by decide +kernel
theorem dX5_tall_66 : decode cX5_tall 66 = .ok (.istore 5, 2) := by decide +kernel
theorem dX5_tall_68 : decode cX5_tall 68 = .ok (.iload 5, 2) := by decide +kernel
theorem dX5_tall_70 : decode cX5_tall 70 = .ok (.aload_n 0, 1) := by decide +kernel
theorem dX5_tall_71 : decode cX5_tall 71 = .ok (.getfield 105, 3) := by decide +kernel
theorem dX5_tall_74 : decode cX5_tall 74 = .ok (.if_icmp .ge 53, 3) := by decide +kernel
theorem dX5_tall_77 : decode cX5_tall 77 = .ok (.aload_n 0, 1) := by decide +kernel
theorem dX5_tall_78 : decode cX5_tall 78 = .ok (.getfield 62, 3) := by decide +kernel
theorem dX5_tall_81 : decode cX5_tall 81 = .ok (.iload 5, 2) := by decide +kernel
theorem dX5_tall_83 : decode cX5_tall 83 = .ok (.iaload, 1) := by decide +kernel
theorem dX5_tall_84 : decode cX5_tall 84 = .ok (.iload_n 1, 1) := by decide +kernel
theorem dX5_tall_85 : decode cX5_tall 85 = .ok (.if_icmp .ne 36, 3) := by decide +kernel
theorem dX5_tall_88 : decode cX5_tall 88 = .ok (.iload 4, 2) := by decide +kernel
theorem dX5_tall_90 : decode cX5_tall 90 = .ok (.aload_n 0, 1) := by decide +kernel
theorem dX5_tall_91 : decode cX5_tall 91 = .ok (.getfield 86, 3) := by decide +kernel
theorem dX5_tall_94 : decode cX5_tall 94 = .ok (.iload 5, 2) := by decide +kernel
theorem dX5_tall_96 : decode cX5_tall 96 = .ok (.iaload, 1) := by decide +kernel
theorem dX5_tall_97 : decode cX5_tall 97 = .ok (.bipush 10, 2) := by decide +kernel
theorem dX5_tall_99 : decode cX5_tall 99 = .ok (.if_icmp .ne 7, 3) := by decide +kernel
theorem dX5_tall_102 : decode cX5_tall 102 = .ok (.iload_n 3, 1) := by decide +kernel
theorem dX5_tall_103 : decode cX5_tall 103 = .ok (.goto 15, 3) := by decide +kernel
theorem dX5_tall_106 : decode cX5_tall 106 = .ok (.aload_n 0, 1) := by decide +kernel
theorem dX5_tall_107 : decode cX5_tall 107 = .ok (.getfield 32, 3) := by decide +kernel
theorem dX5_tall_110 : decode cX5_tall 110 = .ok (.aload_n 0, 1) := by decide +kernel
theorem dX5_tall_111 : decode cX5_tall 111 = .ok (.getfield 86, 3) := by decide +kernel
theorem dX5_tall_114 : decode cX5_tall 114 = .ok (.iload 5, 2) := by decide +kernel
theorem dX5_tall_116 : decode cX5_tall 116 = .ok (.iaload, 1) := by decide +kernel
theorem dX5_tall_117 : decode cX5_tall 117 = .ok (.iaload, 1) := by decide +kernel
theorem dX5_tall_118 : decode cX5_tall 118 = .ok (.iadd, 1) := by decide +kernel
theorem dX5_tall_119 : decode cX5_tall 119 = .ok (.istore 4, 2) := by decide +kernel
theorem dX5_tall_121 : decode cX5_tall 121 = .ok (.iinc 5 1, 3) := by decide +kernel
theorem dX5_tall_124 : decode cX5_tall 124 = .ok (.goto (-56), 3) := by decide +kernel
theorem dX5_tall_127 : decode cX5_tall 127 = .ok (.iload 4, 2) := by decide +kernel
theorem dX5_tall_129 : decode cX5_tall 129 = .ok (.ireturn, 1) := by decide +kernel
theorem dX5_told_0 : decode cX5_told 0 = .ok (.aload_n 0, 1) := by decide +kernel
theorem dX5_told_1 : decode cX5_told 1 = .ok (.aload_n 0, 1) := by decide +kernel
theorem dX5_told_2 : decode cX5_told 2 = .ok (.iload_n 1, 1) := by decide +kernel
theorem dX5_told_3 : decode cX5_told 3 = .ok (.invokevirtual 124, 3) := by decide +kernel
theorem dX5_told_6 : decode cX5_told 6 = .ok (.ifCond .eq 17, 3) := by decide +kernel
theorem dX5_told_9 : decode cX5_told 9 = .ok (.iload_n 2, 1) := by decide +kernel
theorem dX5_told_10 : decode cX5_told 10 = .ok (.iconst 0, 1) := by decide +kernel
theorem dX5_told_11 : decode cX5_told 11 = .ok (.bipush 8, 2) := by decide +kernel
theorem dX5_told_13 : decode cX5_told 13 = .ok (.invokestatic 95, 3) := by decide +kernel
theorem dX5_told_16 : decode cX5_told 16 = .ok (.ifCond .eq 7, 3) := by decide +kernel
theorem dX5_told_19 : decode cX5_told 19 = .ok (.iconst 0, 1) := by decide +kernel
theorem dX5_told_20 : decode cX5_told 20 = .ok (.goto 4, 3) := by decide +kernel
theorem dX5_told_23 : decode cX5_told 23 = .ok (.iconst 1, 1) := by decide +kernel
theorem dX5_told_24 : decode cX5_told 24 = .ok (.putfield 92, 3) := by decide +kernel
theorem dX5_told_27 : decode cX5_told 27 = .ok (.aload_n 0, 1) := by decide +kernel
theorem dX5_told_28 : decode cX5_told 28 = .ok (.getfield 92, 3) := by decide +kernel
theorem dX5_told_31 : decode cX5_told 31 = .ok (.ifCond .le 5, 3) := by decide +kernel
theorem dX5_told_34 : decode cX5_told 34 = .ok (.iconst 0, 1) := by decide +kernel
theorem dX5_told_35 : decode cX5_told 35 = .ok (.ireturn, 1) := by decide +kernel
theorem dX5_told_36 : decode cX5_told 36 = .ok (.iload_n 2, 1) := by decide +kernel
theorem dX5_told_37 : decode cX5_told 37 = .ok (.tableswitch 103 0 7 #[47, 54, 61, 68, 75, 82, 89, 96], 47) := by decide +kernel
theorem dX5_told_84 : decode cX5_told 84 = .ok (.aload_n 0, 1) := by decide +kernel
theorem dX5_told_85 : decode cX5_told 85 = .ok (.getfield 23, 3) := by decide +kernel
theorem dX5_told_88 : decode cX5_told 88 = .ok (.iload_n 1, 1) := by decide +kernel
theorem dX5_told_89 : decode cX5_told 89 = .ok (.iaload, 1) := by decide +kernel
theorem dX5_told_90 : decode cX5_told 90 = .ok (.ireturn, 1) := by decide +kernel
theorem dX5_told_91 : decode cX5_told 91 = .ok (.aload_n 0, 1) := by decide +kernel
theorem dX5_told_92 : decode cX5_told 92 = .ok (.getfield 26, 3) := by decide +kernel
theorem dX5_told_95 : decode cX5_told 95 = .ok (.iload_n 1, 1) := by decide +kernel
theorem dX5_told_96 : decode cX5_told 96 = .ok (.iaload, 1) := by decide +kernel
theorem dX5_told_97 : decode cX5_told 97 = .ok (.ireturn, 1) := by decide +kernel
theorem dX5_told_98 : decode cX5_told 98 = .ok (.aload_n 0, 1) := by decide +kernel
theorem dX5_told_99 : decode cX5_told 99 = .ok (.getfield 29, 3) := by decide +kernel
theorem dX5_told_102 : decode cX5_told 102 = .ok (.iload_n 1, 1) := by decide +kernel
theorem dX5_told_103 : decode cX5_told 103 = .ok (.iaload, 1) := by decide +kernel
theorem dX5_told_104 : decode cX5_told 104 = .ok (.ireturn, 1) := by decide +kernel
theorem dX5_told_105 : decode cX5_told 105 = .ok (.aload_n 0, 1) := by decide +kernel
theorem dX5_told_106 : decode cX5_told 106 = .ok (.getfield 32, 3) := by decide +kernel
theorem dX5_told_109 : decode cX5_told 109 = .ok (.iload_n 1, 1) := by decide +kernel
theorem dX5_told_110 : decode cX5_told 110 = .ok (.iaload, 1) := by decide +kernel
theorem dX5_told_111 : decode cX5_told 111 = .ok (.ireturn, 1) := by decide +kernel
theorem dX5_told_112 : decode cX5_told 112 = .ok (.aload_n 0, 1) := by decide +kernel
theorem dX5_told_113 : decode cX5_told 113 = .ok (.getfield 35, 3) := by decide +kernel
theorem dX5_told_116 : decode cX5_told 116 = .ok (.iload_n 1, 1) := by decide +kernel
theorem dX5_told_117 : decode cX5_told 117 = .ok (.iaload, 1) := by decide +kernel
theorem dX5_told_118 : decode cX5_told 118 = .ok (.ireturn, 1) := by decide +kernel
theorem dX5_told_119 : decode cX5_told 119 = .ok (.aload_n 0, 1) := by decide +kernel
theorem dX5_told_120 : decode cX5_told 120 = .ok (.getfield 38, 3) := by decide +kernel
theorem dX5_told_123 : decode cX5_told 123 = .ok (.iload_n 1, 1) := by decide +kernel
theorem dX5_told_124 : decode cX5_told 124 = .ok (.iaload, 1) := by decide +kernel
theorem dX5_told_125 : decode cX5_told 125 = .ok (.ireturn, 1) := by decide +kernel
theorem dX5_told_126 : decode cX5_told 126 = .ok (.aload_n 0, 1) := by decide +kernel
theorem dX5_told_127 : decode cX5_told 127 = .ok (.getfield 41, 3) := by decide +kernel
theorem dX5_told_130 : decode cX5_told 130 = .ok (.iload_n 1, 1) := by decide +kernel
theorem dX5_told_131 : decode cX5_told 131 = .ok (.iaload, 1) := by decide +kernel
theorem dX5_told_132 : decode cX5_told 132 = .ok (.ireturn, 1) := by decide +kernel
theorem dX5_told_133 : decode cX5_told 133 = .ok (.aload_n 0, 1) := by decide +kernel
theorem dX5_told_134 : decode cX5_told 134 = .ok (.getfield 44, 3) := by decide +kernel
theorem dX5_told_137 : decode cX5_told 137 = .ok (.iload_n 1, 1) := by decide +kernel
theorem dX5_told_138 : decode cX5_told 138 = .ok (.iaload, 1) := by decide +kernel
theorem dX5_told_139 : decode cX5_told 139 = .ok (.ireturn, 1) := by decide +kernel
theorem dX5_told_140 : decode cX5_told 140 = .ok (.aload_n 0, 1) := by decide +kernel
theorem dX5_told_141 : decode cX5_told 141 = .ok (.getfield 47, 3) := by decide +kernel
theorem dX5_told_144 : decode cX5_told 144 = .ok (.iload_n 1, 1) := by decide +kernel
theorem dX5_told_145 : decode cX5_told 145 = .ok (.iaload, 1) := by decide +kernel
theorem dX5_told_146 : decode cX5_told 146 = .ok (.ireturn, 1) := by decide +kernel
theorem dX5_place_0 : decode cX5_place 0 = .ok (.aload_n 0, 1) := by decide +kernel
theorem dX5_place_1 : decode cX5_place 1 = .ok (.iconst 0, 1) := by decide +kernel
theorem dX5_place_2 : decode cX5_place 2 = .ok (.putfield 92, 3) := by decide +kernel
theorem dX5_place_5 : decode cX5_place 5 = .ok (.aload_n 0, 1) := by decide +kernel
theorem dX5_place_6 : decode cX5_place 6 = .ok (.iload_n 1, 1) := by decide +kernel
theorem dX5_place_7 : decode cX5_place 7 = .ok (.invokevirtual 141, 3) := by decide +kernel
theorem dX5_place_10 : decode cX5_place 10 = .ok (.ifCond .ne 5, 3) := by decide +kernel
theorem dX5_place_13 : decode cX5_place 13 = .ok (.iconst (-1), 1) := by decide +kernel
theorem dX5_place_14 : decode cX5_place 14 = .ok (.ireturn, 1) := by decide +kernel
theorem dX5_place_15 : decode cX5_place 15 = .ok (.iload_n 2, 1) := by decide +kernel
theorem dX5_place_16 : decode cX5_place 16 = .ok (.ifCond .ne 12, 3) := by decide +kernel
theorem dX5_place_19 : decode cX5_place 19 = .ok (.aload_n 0, 1) := by decide +kernel
theorem dX5_place_20 : decode cX5_place 20 = .ok (.getfield 62, 3) := by decide +kernel
theorem dX5_place_23 : decode cX5_place 23 = .ok (.iload_n 1, 1) := by decide +kernel
theorem dX5_place_24 : decode cX5_place 24 = .ok (.iaload, 1) := by decide +kernel
theorem dX5_place_25 : decode cX5_place 25 = .ok (.goto 39, 3) := by decide +kernel
theorem dX5_place_28 : decode cX5_place 28 = .ok (.iload_n 2, 1) := by decide +kernel
theorem dX5_place_29 : decode cX5_place 29 = .ok (.iconst 1, 1) := by decide +kernel
theorem dX5_place_30 : decode cX5_place 30 = .ok (.if_icmp .ne 19, 3) := by decide +kernel
theorem dX5_place_33 : decode cX5_place 33 = .ok (.iload_n 1, 1) := by decide +kernel
theorem dX5_place_34 : decode cX5_place 34 = .ok (.aload_n 0, 1) := by decide +kernel
theorem dX5_place_35 : decode cX5_place 35 = .ok (.getfield 56, 3) := by decide +kernel
theorem dX5_place_38 : decode cX5_place 38 = .ok (.aload_n 0, 1) := by decide +kernel
theorem dX5_place_39 : decode cX5_place 39 = .ok (.getfield 62, 3) := by decide +kernel
theorem dX5_place_42 : decode cX5_place 42 = .ok (.iload_n 1, 1) := by decide +kernel
theorem dX5_place_43 : decode cX5_place 43 = .ok (.iaload, 1) := by decide +kernel
theorem dX5_place_44 : decode cX5_place 44 = .ok (.iaload, 1) := by decide +kernel
theorem dX5_place_45 : decode cX5_place 45 = .ok (.isub, 1) := by decide +kernel
theorem dX5_place_46 : decode cX5_place 46 = .ok (.goto 18, 3) := by decide +kernel
theorem dX5_place_49 : decode cX5_place 49 = .ok (.iload_n 2, 1) := by decide +kernel
theorem dX5_place_50 : decode cX5_place 50 = .ok (.iconst 2, 1) := by decide +kernel
theorem dX5_place_51 : decode cX5_place 51 = .ok (.if_icmp .ne 12, 3) := by decide +kernel
theorem dX5_place_54 : decode cX5_place 54 = .ok (.aload_n 0, 1) := by decide +kernel
theorem dX5_place_55 : decode cX5_place 55 = .ok (.getfield 65, 3) := by decide +kernel
theorem dX5_place_58 : decode cX5_place 58 = .ok (.iload_n 1, 1) := by decide +kernel
theorem dX5_place_59 : decode cX5_place 59 = .ok (.iaload, 1) := by decide +kernel
theorem dX5_place_60 : decode cX5_place 60 = .ok (.goto 4, 3) := by decide +kernel
theorem dX5_place_63 : decode cX5_place 63 = .ok (.iconst (-1), 1) := by decide +kernel
theorem dX5_place_64 : decode cX5_place 64 = .ok (.ireturn, 1) := by decide +kernel
theorem dX5_count_0 : decode cX5_count 0 = .ok (.aload_n 0, 1) := by decide +kernel
theorem dX5_count_1 : decode cX5_count 1 = .ok (.iconst 0, 1) := by decide +kernel
theorem dX5_count_2 : decode cX5_count 2 = .ok (.putfield 92, 3) := by decide +kernel
theorem dX5_count_5 : decode cX5_count 5 = .ok (.iconst 0, 1) := by decide +kernel
theorem dX5_count_6 : decode cX5_count 6 = .ok (.istore_n 2, 1) := by decide +kernel
theorem dX5_count_7 : decode cX5_count 7 = .ok (.iload_n 1, 1) := by decide +kernel
theorem dX5_count_8 : decode cX5_count 8 = .ok (.tableswitch 148 0 4 #[36, 41, 46, 51, 112], 36) := by decide +kernel
theorem dX5_count_44 : decode cX5_count 44 = .ok (.aload_n 0, 1) := by decide +kernel
theorem dX5_count_45 : decode cX5_count 45 = .ok (.getfield 99, 3) := by decide +kernel
theorem dX5_count_48 : decode cX5_count 48 = .ok (.ireturn, 1) := by decide +kernel
theorem dX5_count_49 : decode cX5_count 49 = .ok (.aload_n 0, 1) := by decide +kernel
theorem dX5_count_50 : decode cX5_count 50 = .ok (.getfield 102, 3) := by decide +kernel
theorem dX5_count_53 : decode cX5_count 53 = .ok (.ireturn, 1) := by decide +kernel
theorem dX5_count_54 : decode cX5_count 54 = .ok (.aload_n 0, 1) := by decide +kernel
theorem dX5_count_55 : decode cX5_count 55 = .ok (.getfield 105, 3) := by decide +kernel
theorem dX5_count_58 : decode cX5_count 58 = .ok (.ireturn, 1) := by decide +kernel
theorem dX5_count_59 : decode cX5_count 59 = .ok (.iconst 0, 1) := by decide +kernel
theorem dX5_count_60 : decode cX5_count 60 = .ok (.istore_n 3, 1) := by decide +kernel
theorem dX5_count_61 : decode cX5_count 61 = .ok (.iload_n 3, 1) := by decide +kernel
theorem dX5_count_62 : decode cX5_count 62 = .ok (.aload_n 0, 1) := by decide +kernel
theorem dX5_count_63 : decode cX5_count 63 = .ok (.getfield 99, 3) := by decide +kernel
theorem dX5_count_66 : decode cX5_count 66 = .ok (.if_icmp .ge 52, 3) := by decide +kernel
theorem dX5_count_69 : decode cX5_count 69 = .ok (.iconst 0, 1) := by decide +kernel
theorem dX5_count_70 : decode cX5_count 70 = .ok (.istore 4, 2) := by decide +kernel
theorem dX5_count_72 : decode cX5_count 72 = .ok (.iload 4, 2) := by decide +kernel
theorem dX5_count_74 : decode cX5_count 74 = .ok (.aload_n 0, 1) := by decide +kernel
theorem dX5_count_75 : decode cX5_count 75 = .ok (.getfield 99, 3) := by decide +kernel
theorem dX5_count_78 : decode cX5_count 78 = .ok (.if_icmp .ge 34, 3) := by decide +kernel
theorem dX5_count_81 : decode cX5_count 81 = .ok (.iload_n 2, 1) := by decide +kernel
theorem dX5_count_82 : decode cX5_count 82 = .ok (.iload_n 3, 1) := by decide +kernel
theorem dX5_count_83 : decode cX5_count 83 = .ok (.iload 4, 2) := by decide +kernel
theorem dX5_count_85 : decode cX5_count 85 = .ok (.if_icmp .eq 18, 3) := by decide +kernel
theorem dX5_count_88 : decode cX5_count 88 = .ok (.aload_n 0, 1) := by decide +kernel
theorem dX5_count_89 : decode cX5_count 89 = .ok (.iload_n 3, 1) := by decide +kernel
theorem dX5_count_90 : decode cX5_count 90 = .ok (.iload 4, 2) := by decide +kernel
theorem dX5_count_92 : decode cX5_count 92 = .ok (.invokevirtual 127, 3) := by decide +kernel
theorem dX5_count_95 : decode cX5_count 95 = .ok (.iconst (-1), 1) := by decide +kernel
theorem dX5_count_96 : decode cX5_count 96 = .ok (.if_icmp .eq 7, 3) := by decide +kernel
theorem dX5_count_99 : decode cX5_count 99 = .ok (.iconst 1, 1) := by decide +kernel
theorem dX5_count_100 : decode cX5_count 100 = .ok (.goto 4, 3) := by decide +kernel
theorem dX5_count_103 : decode cX5_count 103 = .ok (.iconst 0, 1) := by decide +kernel
theorem dX5_count_104 : decode cX5_count 104 = .ok (.iadd, 1) := by decide +kernel
theorem dX5_count_105 : decode cX5_count 105 = .ok (.istore_n 2, 1) := by decide +kernel
theorem dX5_count_106 : decode cX5_count 106 = .ok (.iinc 4 1, 3) := by decide +kernel
theorem dX5_count_109 : decode cX5_count 109 = .ok (.goto (-37), 3) := by decide +kernel
theorem dX5_count_112 : decode cX5_count 112 = .ok (.iinc 3 1, 3) := by decide +kernel
theorem dX5_count_115 : decode cX5_count 115 = .ok (.goto (-54), 3) := by decide +kernel
theorem dX5_count_118 : decode cX5_count 118 = .ok (.iload_n 2, 1) := by decide +kernel
theorem dX5_count_119 : decode cX5_count 119 = .ok (.ireturn, 1) := by decide +kernel
theorem dX5_count_120 : decode cX5_count 120 = .ok (.iconst 0, 1) := by decide +kernel
theorem dX5_count_121 : decode cX5_count 121 = .ok (.istore_n 3, 1) := by decide +kernel
theorem dX5_count_122 : decode cX5_count 122 = .ok (.iload_n 3, 1) := by decide +kernel
theorem dX5_count_123 : decode cX5_count 123 = .ok (.aload_n 0, 1) := by decide +kernel
theorem dX5_count_124 : decode cX5_count 124 = .ok (.getfield 105, 3) := by decide +kernel
theorem dX5_count_127 : decode cX5_count 127 = .ok (.if_icmp .ge 27, 3) := by decide +kernel
theorem dX5_count_130 : decode cX5_count 130 = .ok (.iload_n 2, 1) := by decide +kernel
theorem dX5_count_131 : decode cX5_count 131 = .ok (.aload_n 0, 1) := by decide +kernel
theorem dX5_count_132 : decode cX5_count 132 = .ok (.getfield 65, 3) := by decide +kernel
theorem dX5_count_135 : decode cX5_count 135 = .ok (.iload_n 3, 1) := by decide +kernel
theorem dX5_count_136 : decode cX5_count 136 = .ok (.iaload, 1) := by decide +kernel
theorem dX5_count_137 : decode cX5_count 137 = .ok (.iconst (-1), 1) := by decide +kernel
theorem dX5_count_138 : decode cX5_count 138 = .ok (.if_icmp .eq 7, 3) := by decide +kernel
theorem dX5_count_141 : decode cX5_count 141 = .ok (.iconst 1, 1) := by decide +kernel
theorem dX5_count_142 : decode cX5_count 142 = .ok (.goto 4, 3) := by decide +kernel
theorem dX5_count_145 : decode cX5_count 145 = .ok (.iconst 0, 1) := by decide +kernel
theorem dX5_count_146 : decode cX5_count 146 = .ok (.iadd, 1) := by decide +kernel
theorem dX5_count_147 : decode cX5_count 147 = .ok (.istore_n 2, 1) := by decide +kernel
theorem dX5_count_148 : decode cX5_count 148 = .ok (.iinc 3 1, 3) := by decide +kernel
theorem dX5_count_151 : decode cX5_count 151 = .ok (.goto (-29), 3) := by decide +kernel
theorem dX5_count_154 : decode cX5_count 154 = .ok (.iload_n 2, 1) := by decide +kernel
theorem dX5_count_155 : decode cX5_count 155 = .ok (.ireturn, 1) := by decide +kernel
theorem dX5_count_156 : decode cX5_count 156 = .ok (.iconst (-1), 1) := by decide +kernel
theorem dX5_count_157 : decode cX5_count 157 = .ok (.ireturn, 1) := by decide +kernel
