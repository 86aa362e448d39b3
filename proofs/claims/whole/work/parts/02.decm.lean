theorem dX12_init_0 : decode cX12_init 0 = .ok (.aload_n 0, 1) := by decide +kernel
theorem dX12_init_1 : decode cX12_init 1 = .ok (.invokespecial 1, 3) := by decide +kernel
theorem dX12_init_4 : decode cX12_init 4 = .ok (.aload_n 0, 1) := by decide +kernel
theorem dX12_init_5 : decode cX12_init 5 = .ok (.iconst 4, 1) := by decide +kernel
theorem dX12_init_6 : decode cX12_init 6 = .ok (.newarray .int, 2) := by decide +kernel
theorem dX12_init_8 : decode cX12_init 8 = .ok (.putfield 7, 3) := by decide +kernel
theorem dX12_init_11 : decode cX12_init 11 = .ok (.aload_n 0, 1) := by decide +kernel
theorem dX12_init_12 : decode cX12_init 12 = .ok (.iconst 4, 1) := by decide +kernel
theorem dX12_init_13 : decode cX12_init 13 = .ok (.newarray .int, 2) := by decide +kernel
theorem dX12_init_15 : decode cX12_init 15 = .ok (.putfield 13, 3) := by decide +kernel
theorem dX12_init_18 : decode cX12_init 18 = .ok (.aload_n 0, 1) := by decide +kernel
theorem dX12_init_19 : decode cX12_init 19 = .ok (.sipush 240, 3) := by decide +kernel
theorem dX12_init_22 : decode cX12_init 22 = .ok (.newarray .int, 2) := by decide +kernel
theorem dX12_init_24 : decode cX12_init 24 = .ok (.putfield 16, 3) := by decide +kernel
theorem dX12_init_27 : decode cX12_init 27 = .ok (.aload_n 0, 1) := by decide +kernel
theorem dX12_init_28 : decode cX12_init 28 = .ok (.bipush 60, 2) := by decide +kernel
theorem dX12_init_30 : decode cX12_init 30 = .ok (.newarray .int, 2) := by decide +kernel
theorem dX12_init_32 : decode cX12_init 32 = .ok (.putfield 19, 3) := by decide +kernel
theorem dX12_init_35 : decode cX12_init 35 = .ok (.aload_n 0, 1) := by decide +kernel
theorem dX12_init_36 : decode cX12_init 36 = .ok (.sipush 180, 3) := by decide +kernel
theorem dX12_init_39 : decode cX12_init 39 = .ok (.newarray .int, 2) := by decide +kernel
theorem dX12_init_41 : decode cX12_init 41 = .ok (.putfield 22, 3) := by decide +kernel
theorem dX12_init_44 : decode cX12_init 44 = .ok (.aload_n 0, 1) := by decide +kernel
theorem dX12_init_45 : decode cX12_init 45 = .ok (.iconst 3, 1) := by decide +kernel
theorem dX12_init_46 : decode cX12_init 46 = .ok (.newarray .int, 2) := by decide +kernel
theorem dX12_init_48 : decode cX12_init 48 = .ok (.putfield 25, 3) := by decide +kernel
theorem dX12_init_51 : decode cX12_init 51 = .ok (.aload_n 0, 1) := by decide +kernel
theorem dX12_init_52 : decode cX12_init 52 = .ok (.iconst 3, 1) := by decide +kernel
theorem dX12_init_53 : decode cX12_init 53 = .ok (.newarray .int, 2) := by decide +kernel
theorem dX12_init_55 : decode cX12_init 55 = .ok (.putfield 28, 3) := by decide +kernel
theorem dX12_init_58 : decode cX12_init 58 = .ok (.aload_n 0, 1) := by decide +kernel
theorem dX12_init_59 : decode cX12_init 59 = .ok (.bipush 40, 2) := by decide +kernel
theorem dX12_init_61 : decode cX12_init 61 = .ok (.newarray .int, 2) := by decide +kernel
theorem dX12_init_63 : decode cX12_init 63 = .ok (.putfield 31, 3) := by decide +kernel
theorem dX12_init_66 : decode cX12_init 66 = .ok (.aload_n 0, 1) := by decide +kernel
theorem dX12_init_67 : decode cX12_init 67 = .ok (.bipush 18, 2) := by decide +kernel
theorem dX12_init_69 : decode cX12_init 69 = .ok (.newarray .int, 2) := by decide +kernel
theorem dX12_init_71 : decode cX12_init 71 = .ok (.putfield 34, 3) := by decide +kernel
theorem dX12_init_74 : decode cX12_init 74 = .ok (.aload_n 0, 1) := by decide +kernel
theorem dX12_init_75 : decode cX12_init 75 = .ok (.bipush 64, 2) := by decide +kernel
theorem dX12_init_77 : decode cX12_init 77 = .ok (.newarray .int, 2) := by decide +kernel
theorem dX12_init_79 : decode cX12_init 79 = .ok (.putfield 37, 3) := by decide +kernel
theorem dX12_init_82 : decode cX12_init 82 = .ok (.aload_n 0, 1) := by decide +kernel
theorem dX12_init_83 : decode cX12_init 83 = .ok (.bipush 24, 2) := by decide +kernel
theorem dX12_init_85 : decode cX12_init 85 = .ok (.newarray .int, 2) := by decide +kernel
theorem dX12_init_87 : decode cX12_init 87 = .ok (.putfield 40, 3) := by decide +kernel
theorem dX12_init_90 : decode cX12_init 90 = .ok (.aload_n 0, 1) := by decide +kernel
theorem dX12_init_91 : decode cX12_init 91 = .ok (.bipush 42, 2) := by decide +kernel
theorem dX12_init_93 : decode cX12_init 93 = .ok (.newarray .int, 2) := by decide +kernel
theorem dX12_init_95 : decode cX12_init 95 = .ok (.putfield 43, 3) := by decide +kernel
theorem dX12_init_98 : decode cX12_init 98 = .ok (.aload_n 0, 1) := by decide +kernel
theorem dX12_init_99 : decode cX12_init 99 = .ok (.bipush 8, 2) := by decide +kernel
theorem dX12_init_101 : decode cX12_init 101 = .ok (.newarray .int, 2) := by decide +kernel
theorem dX12_init_103 : decode cX12_init 103 = .ok (.putfield 46, 3) := by decide +kernel
theorem dX12_init_106 : decode cX12_init 106 = .ok (.aload_n 0, 1) := by decide +kernel
theorem dX12_init_107 : decode cX12_init 107 = .ok (.bipush 24, 2) := by decide +kernel
theorem dX12_init_109 : decode cX12_init 109 = .ok (.newarray .int, 2) := by decide +kernel
theorem dX12_init_111 : decode cX12_init 111 = .ok (.putfield 49, 3) := by decide +kernel
theorem dX12_init_114 : decode cX12_init 114 = .ok (.aload_n 0, 1) := by decide +kernel
theorem dX12_init_115 : decode cX12_init 115 = .ok (.bipush 9, 2) := by decide +kernel
theorem dX12_init_117 : decode cX12_init 117 = .ok (.newarray .int, 2) := by decide +kernel
theorem dX12_init_119 : decode cX12_init 119 = .ok (.putfield 52, 3) := by decide +kernel
theorem dX12_init_122 : decode cX12_init 122 = .ok (.iconst 0, 1) := by decide +kernel
theorem dX12_init_123 : decode cX12_init 123 = .ok (.istore_n 1, 1) := by decide +kernel
theorem dX12_init_124 : decode cX12_init 124 = .ok (.iload_n 1, 1) := by decide +kernel
theorem dX12_init_125 : decode cX12_init 125 = .ok (.iconst 4, 1) := by decide +kernel
theorem dX12_init_126 : decode cX12_init 126 = .ok (.if_icmp .ge 16, 3) := by decide +kernel
theorem dX12_init_129 : decode cX12_init 129 = .ok (.aload_n 0, 1) := by decide +kernel
theorem dX12_init_130 : decode cX12_init 130 = .ok (.getfield 7, 3) := by decide +kernel
theorem dX12_init_133 : decode cX12_init 133 = .ok (.iload_n 1, 1) := by decide +kernel
theorem dX12_init_134 : decode cX12_init 134 = .ok (.iconst (-1), 1) := by decide +kernel
theorem dX12_init_135 : decode cX12_init 135 = .ok (.iastore, 1) := by decide +kernel
theorem dX12_init_136 : decode cX12_init 136 = .ok (.iinc 1 1, 3) := by decide +kernel
theorem dX12_init_139 : decode cX12_init 139 = .ok (.goto (-15), 3) := by decide +kernel
theorem dX12_init_142 : decode cX12_init 142 = .ok (.iconst 0, 1) := by decide +kernel
theorem dX12_init_143 : decode cX12_init 143 = .ok (.istore_n 1, 1) := by decide +kernel
theorem dX12_init_144 : decode cX12_init 144 = .ok (.iload_n 1, 1) := by decide +kernel
theorem dX12_init_145 : decode cX12_init 145 = .ok (.bipush 42, 2) := by decide +kernel
theorem dX12_init_147 : decode cX12_init 147 = .ok (.if_icmp .ge 16, 3) := by decide +kernel
theorem dX12_init_150 : decode cX12_init 150 = .ok (.aload_n 0, 1) := by decide +kernel
theorem dX12_init_151 : decode cX12_init 151 = .ok (.getfield 43, 3) := by decide +kernel
theorem dX12_init_154 : decode cX12_init 154 = .ok (.iload_n 1, 1) := by decide +kernel
theorem dX12_init_155 : decode cX12_init 155 = .ok (.iconst 1, 1) := by decide +kernel
theorem dX12_init_156 : decode cX12_init 156 = .ok (.iastore, 1) := by decide +kernel
theorem dX12_init_157 : decode cX12_init 157 = .ok (.iinc 1 1, 3) := by decide +kernel
theorem dX12_init_160 : decode cX12_init 160 = .ok (.goto (-16), 3) := by decide +kernel
theorem dX12_init_163 : decode cX12_init 163 = .ok (.return_, 1) := by decide +kernel
theorem dX12_in_0 : decode cX12_in 0 = .ok (.lload_n 0, 1) := by decide +kernel
theorem dX12_in_1 : decode cX12_in 1 = .ok (.lload_n 2, 1) := by decide +kernel
theorem dX12_in_2 : decode cX12_in 2 = .ok (.lcmp, 1) := by decide +kernel
theorem dX12_in_3 : decode cX12_in 3 = .ok (.ifCond .lt 14, 3) := by decide +kernel
theorem dX12_in_6 : decode cX12_in 6 = .ok (.lload_n 0, 1) := by decide +kernel
theorem dX12_in_7 : decode cX12_in 7 = .ok (.lload 4, 2) := by decide +kernel
theorem dX12_in_9 : decode cX12_in 9 = .ok (.lcmp, 1) := by decide +kernel
theorem dX12_in_10 : decode cX12_in 10 = .ok (.ifCond .gt 7, 3) := by decide +kernel
theorem dX12_in_13 : decode cX12_in 13 = .ok (.iconst 1, 1) := by decide +kernel
theorem dX12_in_14 : decode cX12_in 14 = .ok (.goto 4, 3) := by decide +kernel
theorem dX12_in_17 : decode cX12_in 17 = .ok (.iconst 0, 1) := by decide +kernel
theorem dX12_in_18 : decode cX12_in 18 = .ok (.ireturn, 1) := by decide +kernel
theorem dX12_no_0 : decode cX12_no 0 = .ok (.ldc2_w 55, 3) := by decide +kernel
theorem dX12_no_3 : decode cX12_no 3 = .ok (.iload_n 0, 1) := by decide +kernel
theorem dX12_no_4 : decode cX12_no 4 = .ok (.i2l, 1) := by decide +kernel
theorem dX12_no_5 : decode cX12_no 5 = .ok (.lsub, 1) := by decide +kernel
theorem dX12_no_6 : decode cX12_no 6 = .ok (.lreturn, 1) := by decide +kernel
theorem dX12_isTwo_0 : decode cX12_isTwo 0 = .ok (.iload_n 0, 1) := by decide +kernel
theorem dX12_isTwo_1 : decode cX12_isTwo 1 = .ok (.i2l, 1) := by decide +kernel
theorem dX12_isTwo_2 : decode cX12_isTwo 2 = .ok (.lconst 0, 1) := by decide +kernel
theorem dX12_isTwo_3 : decode cX12_isTwo 3 = .ok (.lconst 1, 1) := by decide +kernel
theorem dX12_isTwo_4 : decode cX12_isTwo 4 = .ok (.invokestatic 57, 3) := by decide +kernel
theorem dX12_isTwo_7 : decode cX12_isTwo 7 = .ok (.ireturn, 1) := by decide +kernel
theorem dX12_isIn_0 : decode cX12_isIn 0 = .ok (.iload_n 0, 1) := by decide +kernel
theorem dX12_isIn_1 : decode cX12_isIn 1 = .ok (.iload_n 1, 1) := by decide +kernel
theorem dX12_isIn_2 : decode cX12_isIn 2 = .ok (.ishr, 1) := by decide +kernel
theorem dX12_isIn_3 : decode cX12_isIn 3 = .ok (.iconst 1, 1) := by decide +kernel
theorem dX12_isIn_4 : decode cX12_isIn 4 = .ok (.iand, 1) := by decide +kernel
theorem dX12_isIn_5 : decode cX12_isIn 5 = .ok (.iconst 1, 1) := by decide +kernel
theorem dX12_isIn_6 : decode cX12_isIn 6 = .ok (.if_icmp .ne 7, 3) := by decide +kernel
theorem dX12_isIn_9 : decode cX12_isIn 9 = .ok (.iconst 1, 1) := by decide +kernel
theorem dX12_isIn_10 : decode cX12_isIn 10 = .ok (.goto 4, 3) := by decide +kernel
theorem dX12_isIn_13 : decode cX12_isIn 13 = .ok (.iconst 0, 1) := by decide +kernel
theorem dX12_isIn_14 : decode cX12_isIn 14 = .ok (.ireturn, 1) := by decide +kernel
theorem dX12_ones_0 : decode cX12_ones 0 = .ok (.iconst 0, 1) := by decide +kernel
theorem dX12_ones_1 : decode cX12_ones 1 = .ok (.istore_n 1, 1) := by decide +kernel
theorem dX12_ones_2 : decode cX12_ones 2 = .ok (.iload_n 0, 1) := by decide +kernel
theorem dX12_ones_3 : decode cX12_ones 3 = .ok (.istore_n 2, 1) := by decide +kernel
theorem dX12_ones_4 : decode cX12_ones 4 = .ok (.iload_n 2, 1) := by decide +kernel
theorem dX12_ones_5 : decode cX12_ones 5 = .ok (.ifCond .eq 15, 3) := by decide +kernel
theorem dX12_ones_8 : decode cX12_ones 8 = .ok (.iinc 1 1, 3) := by decide +kernel
theorem dX12_ones_11 : decode cX12_ones 11 = .ok (.iload_n 2, 1) := by decide +kernel
theorem dX12_ones_12 : decode cX12_ones 12 = .ok (.iload_n 2, 1) := by decide +kernel
theorem dX12_ones_13 : decode cX12_ones 13 = .ok (.iconst 1, 1) := by decide +kernel
theorem dX12_ones_14 : decode cX12_ones 14 = .ok (.isub, 1) := by decide +kernel
theorem dX12_ones_15 : decode cX12_ones 15 = .ok (.iand, 1) := by decide +kernel
theorem dX12_ones_16 : decode cX12_ones 16 = .ok (.istore_n 2, 1) := by decide +kernel
theorem dX12_ones_17 : decode cX12_ones 17 = .ok (.goto (-13), 3) := by decide +kernel
theorem dX12_ones_20 : decode cX12_ones 20 = .ok (.iload_n 1, 1) := by decide +kernel
theorem dX12_ones_21 : decode cX12_ones 21 = .ok (.ireturn, 1) := by decide +kernel
theorem dX12_lesser_0 : decode cX12_lesser 0 = .ok (.iload_n 0, 1) := by decide +kernel
theorem dX12_lesser_1 : decode cX12_lesser 1 = .ok (.iload_n 1, 1) := by decide +kernel
theorem dX12_lesser_2 : decode cX12_lesser 2 = .ok (.if_icmp .ge 7, 3) := by decide +kernel
theorem dX12_lesser_5 : decode cX12_lesser 5 = .ok (.iload_n 0, 1) := by decide +kernel
theorem dX12_lesser_6 : decode cX12_lesser 6 = .ok (.goto 4, 3) := by decide +kernel
theorem dX12_lesser_9 : decode cX12_lesser 9 = .ok (.iload_n 1, 1) := by decide +kernel
theorem dX12_lesser_10 : decode cX12_lesser 10 = .ok (.ireturn, 1) := by decide +kernel
theorem dX12_fraction_0 : decode cX12_fraction 0 = .ok (.lload_n 0, 1) := by decide +kernel
theorem dX12_fraction_1 : decode cX12_fraction 1 = .ok (.lstore 5, 2) := by decide +kernel
theorem dX12_fraction_3 : decode cX12_fraction 3 = .ok (.lload_n 2, 1) := by decide +kernel
theorem dX12_fraction_4 : decode cX12_fraction 4 = .ok (.lstore 7, 2) := by decide +kernel
theorem dX12_fraction_6 : decode cX12_fraction 6 = .ok (.lload 7, 2) := by decide +kernel
theorem dX12_fraction_8 : decode cX12_fraction 8 = .ok (.lconst 0, 1) := by decide +kernel
theorem dX12_fraction_9 : decode cX12_fraction 9 = .ok (.lcmp, 1) := by decide +kernel
theorem dX12_fraction_10 : decode cX12_fraction 10 = .ok (.ifCond .eq 21, 3) := by decide +kernel
theorem dX12_fraction_13 : decode cX12_fraction 13 = .ok (.lload 5, 2) := by decide +kernel
theorem dX12_fraction_15 : decode cX12_fraction 15 = .ok (.lload 7, 2) := by decide +kernel
theorem dX12_fraction_17 : decode cX12_fraction 17 = .ok (.lrem, 1) := by decide +kernel
theorem dX12_fraction_18 : decode cX12_fraction 18 = .ok (.lstore 9, 2) := by decide +kernel
theorem dX12_fraction_20 : decode cX12_fraction 20 = .ok (.lload 7, 2) := by decide +kernel
theorem dX12_fraction_22 : decode cX12_fraction 22 = .ok (.lstore 5, 2) := by decide +kernel
theorem dX12_fraction_24 : decode cX12_fraction 24 = .ok (.lload 9, 2) := by decide +kernel
theorem dX12_fraction_26 : decode cX12_fraction 26 = .ok (.lstore 7, 2) := by decide +kernel
theorem dX12_fraction_28 : decode cX12_fraction 28 = .ok (.goto (-22), 3) := by decide +kernel
theorem dX12_fraction_31 : decode cX12_fraction 31 = .ok (.iload 4, 2) := by decide +kernel
theorem dX12_fraction_33 : decode cX12_fraction 33 = .ok (.ifCond .ne 7, 3) := by decide +kernel
theorem dX12_fraction_36 : decode cX12_fraction 36 = .ok (.lload_n 0, 1) := by decide +kernel
theorem dX12_fraction_37 : decode cX12_fraction 37 = .ok (.goto 4, 3) := by decide +kernel
theorem dX12_fraction_40 : decode cX12_fraction 40 = .ok (.lload_n 2, 1) := by decide +kernel
theorem dX12_fraction_41 : decode cX12_fraction 41 = .ok (.lload 5, 2) := by decide +kernel
theorem dX12_fraction_43 : decode cX12_fraction 43 = .ok (.ldiv, 1) := by decide +kernel
theorem dX12_fraction_44 : decode cX12_fraction 44 = .ok (.lreturn, 1) := by decide +kernel
theorem dX12_finds_0 : decode cX12_finds 0 = .ok (.aload_n 0, 1) := by decide +kernel
theorem dX12_finds_1 : decode cX12_finds 1 = .ok (.iload_n 1, 1) := by decide +kernel
theorem dX12_finds_2 : decode cX12_finds 2 = .ok (.putfield 61, 3) := by decide +kernel
theorem dX12_finds_5 : decode cX12_finds 5 = .ok (.bipush (-10), 2) := by decide +kernel
theorem dX12_finds_7 : decode cX12_finds 7 = .ok (.iload_n 1, 1) := by decide +kernel
theorem dX12_finds_8 : decode cX12_finds 8 = .ok (.isub, 1) := by decide +kernel
theorem dX12_finds_9 : decode cX12_finds 9 = .ok (.ireturn, 1) := by decide +kernel
theorem dX12_isSheet_0 : decode cX12_isSheet 0 = .ok (.iload_n 0, 1) := by decide +kernel
theorem dX12_isSheet_1 : decode cX12_isSheet 1 = .ok (.i2l, 1) := by decide +kernel
theorem dX12_isSheet_2 : decode cX12_isSheet 2 = .ok (.lconst 0, 1) := by decide +kernel
theorem dX12_isSheet_3 : decode cX12_isSheet 3 = .ok (.ldc2_w 65, 3) := by decide +kernel
theorem dX12_isSheet_6 : decode cX12_isSheet 6 = .ok (.invokestatic 57, 3) := by decide +kernel
theorem dX12_isSheet_9 : decode cX12_isSheet 9 = .ok (.ireturn, 1) := by decide +kernel
theorem dX12_sheet_0 : decode cX12_sheet 0 = .ok (.iload_n 1, 1) := by decide +kernel
theorem dX12_sheet_1 : decode cX12_sheet 1 = .ok (.invokestatic 67, 3) := by decide +kernel
theorem dX12_sheet_4 : decode cX12_sheet 4 = .ok (.ifCond .eq 21, 3) := by decide +kernel
theorem dX12_sheet_7 : decode cX12_sheet 7 = .ok (.iload_n 2, 1) := by decide +kernel
theorem dX12_sheet_8 : decode cX12_sheet 8 = .ok (.i2l, 1) := by decide +kernel
theorem dX12_sheet_9 : decode cX12_sheet 9 = .ok (.lconst 0, 1) := by decide +kernel
theorem dX12_sheet_10 : decode cX12_sheet 10 = .ok (.ldc2_w 71, 3) := by decide +kernel
theorem dX12_sheet_13 : decode cX12_sheet 13 = .ok (.invokestatic 57, 3) := by decide +kernel
theorem dX12_sheet_16 : decode cX12_sheet 16 = .ok (.ifCond .eq 9, 3) := by decide +kernel
theorem dX12_sheet_19 : decode cX12_sheet 19 = .ok (.iload_n 3, 1) := by decide +kernel
theorem dX12_sheet_20 : decode cX12_sheet 20 = .ok (.bipush 60, 2) := by decide +kernel
theorem dX12_sheet_22 : decode cX12_sheet 22 = .ok (.if_icmp .le 6, 3) := by decide +kernel
theorem dX12_sheet_25 : decode cX12_sheet 25 = .ok (.bipush (-2), 2) := by decide +kernel
theorem dX12_sheet_27 : decode cX12_sheet 27 = .ok (.ireturn, 1) := by decide +kernel
theorem dX12_sheet_28 : decode cX12_sheet 28 = .ok (.iload_n 3, 1) := by decide +kernel
theorem dX12_sheet_29 : decode cX12_sheet 29 = .ok (.ifCond .ge 9, 3) := by decide +kernel
theorem dX12_sheet_32 : decode cX12_sheet 32 = .ok (.aload_n 0, 1) := by decide +kernel
theorem dX12_sheet_33 : decode cX12_sheet 33 = .ok (.iconst 5, 1) := by decide +kernel
theorem dX12_sheet_34 : decode cX12_sheet 34 = .ok (.invokevirtual 73, 3) := by decide +kernel
theorem dX12_sheet_37 : decode cX12_sheet 37 = .ok (.ireturn, 1) := by decide +kernel
theorem dX12_sheet_38 : decode cX12_sheet 38 = .ok (.aload_n 0, 1) := by decide +kernel
theorem dX12_sheet_39 : decode cX12_sheet 39 = .ok (.getfield 7, 3) := by decide +kernel
theorem dX12_sheet_42 : decode cX12_sheet 42 = .ok (.iload_n 1, 1) := by decide +kernel
theorem dX12_sheet_43 : decode cX12_sheet 43 = .ok (.iload_n 2, 1) := by decide +kernel
theorem dX12_sheet_44 : decode cX12_sheet 44 = .ok (.iastore, 1) := by decide +kernel
theorem dX12_sheet_45 : decode cX12_sheet 45 = .ok (.aload_n 0, 1) := by decide +kernel
theorem dX12_sheet_46 : decode cX12_sheet 46 = .ok (.getfield 13, 3) := by decide +kernel
theorem dX12_sheet_49 : decode cX12_sheet 49 = .ok (.iload_n 1, 1) := by decide +kernel
theorem dX12_sheet_50 : decode cX12_sheet 50 = .ok (.iload_n 3, 1) := by decide +kernel
theorem dX12_sheet_51 : decode cX12_sheet 51 = .ok (.iastore, 1) := by decide +kernel
theorem dX12_sheet_52 : decode cX12_sheet 52 = .ok (.iconst 0, 1) := by decide +kernel
theorem dX12_sheet_53 : decode cX12_sheet 53 = .ok (.istore 4, 2) := by decide +kernel
theorem dX12_sheet_55 : decode cX12_sheet 55 = .ok (.iload 4, 2) := by decide +kernel
theorem dX12_sheet_57 : decode cX12_sheet 57 = .ok (.iload_n 3, 1) := by decide +kernel
theorem dX12_sheet_58 : decode cX12_sheet 58 = .ok (.if_icmp .ge 22, 3) := by decide +kernel
theorem dX12_sheet_61 : decode cX12_sheet 61 = .ok (.aload_n 0, 1) := by decide +kernel
theorem dX12_sheet_62 : decode cX12_sheet 62 = .ok (.getfield 16, 3) := by decide +kernel
theorem dX12_sheet_65 : decode cX12_sheet 65 = .ok (.bipush 60, 2) := by decide +kernel
theorem dX12_sheet_67 : decode cX12_sheet 67 = .ok (.iload_n 1, 1) := by decide +kernel
theorem dX12_sheet_68 : decode cX12_sheet 68 = .ok (.imul, 1) := by decide +kernel
theorem dX12_sheet_69 : decode cX12_sheet 69 = .ok (.iload 4, 2) := by decide +kernel
theorem dX12_sheet_71 : decode cX12_sheet 71 = .ok (.iadd, 1) := by decide +kernel
theorem dX12_sheet_72 : decode cX12_sheet 72 = .ok (.iconst 0, 1) := by decide +kernel
theorem dX12_sheet_73 : decode cX12_sheet 73 = .ok (.iastore, 1) := by decide +kernel
theorem dX12_sheet_74 : decode cX12_sheet 74 = .ok (.iinc 4 1, 3) := by decide +kernel
theorem dX12_sheet_77 : decode cX12_sheet 77 = .ok (.goto (-22), 3) := by decide +kernel
theorem dX12_sheet_80 : decode cX12_sheet 80 = .ok (.iload_n 3, 1) := by decide +kernel
theorem dX12_sheet_81 : decode cX12_sheet 81 = .ok (.ireturn, 1) := by decide +kernel
theorem dX12_lose_0 : decode cX12_lose 0 = .ok (.iload_n 1, 1) := by decide +kernel
theorem dX12_lose_1 : decode cX12_lose 1 = .ok (.invokestatic 67, 3) := by decide +kernel
theorem dX12_lose_4 : decode cX12_lose 4 = .ok (.ifCond .ne 6, 3) := by decide +kernel
theorem dX12_lose_7 : decode cX12_lose 7 = .ok (.bipush (-2), 2) := by decide +kernel
theorem dX12_lose_9 : decode cX12_lose 9 = .ok (.ireturn, 1) := by decide +kernel
theorem dX12_lose_10 : decode cX12_lose 10 = .ok (.aload_n 0, 1) := by decide +kernel
theorem dX12_lose_11 : decode cX12_lose 11 = .ok (.getfield 7, 3) := by decide +kernel
theorem dX12_lose_14 : decode cX12_lose 14 = .ok (.iload_n 1, 1) := by decide +kernel
theorem dX12_lose_15 : decode cX12_lose 15 = .ok (.iaload, 1) := by decide +kernel
theorem dX12_lose_16 : decode cX12_lose 16 = .ok (.ifCond .ge 9, 3) := by decide +kernel
theorem dX12_lose_19 : decode cX12_lose 19 = .ok (.aload_n 0, 1) := by decide +kernel
theorem dX12_lose_20 : decode cX12_lose 20 = .ok (.iconst 1, 1) := by decide +kernel
theorem dX12_lose_21 : decode cX12_lose 21 = .ok (.invokevirtual 73, 3) := by decide +kernel
theorem dX12_lose_24 : decode cX12_lose 24 = .ok (.ireturn, 1) := by decide +kernel
theorem dX12_lose_25 : decode cX12_lose 25 = .ok (.aload_n 0, 1) := by decide +kernel
theorem dX12_lose_26 : decode cX12_lose 26 = .ok (.getfield 7, 3) := by decide +kernel
theorem dX12_lose_29 : decode cX12_lose 29 = .ok (.iload_n 1, 1) := by decide +kernel
theorem dX12_lose_30 : decode cX12_lose 30 = .ok (.iconst (-1), 1) := by decide +kernel
theorem dX12_lose_31 : decode cX12_lose 31 = .ok (.iastore, 1) := by decide +kernel
theorem dX12_lose_32 : decode cX12_lose 32 = .ok (.aload_n 0, 1) := by decide +kernel
theorem dX12_lose_33 : decode cX12_lose 33 = .ok (.getfield 13, 3) := by decide +kernel
theorem dX12_lose_36 : decode cX12_lose 36 = .ok (.iload_n 1, 1) := by decide +kernel
theorem dX12_lose_37 : decode cX12_lose 37 = .ok (.iaload, 1) := by decide +kernel
theorem dX12_lose_38 : decode cX12_lose 38 = .ok (.ireturn, 1) := by decide +kernel
theorem dX12_lacks_0 : decode cX12_lacks 0 = .ok (.aload_n 0, 1) := by decide +kernel
theorem dX12_lacks_1 : decode cX12_lacks 1 = .ok (.getfield 7, 3) := by decide +kernel
theorem dX12_lacks_4 : decode cX12_lacks 4 = .ok (.iload_n 1, 1) := by decide +kernel
theorem dX12_lacks_5 : decode cX12_lacks 5 = .ok (.iaload, 1) := by decide +kernel
theorem dX12_lacks_6 : decode cX12_lacks 6 = .ok (.ifCond .ge 9, 3) := by decide +kernel
theorem dX12_lacks_9 : decode cX12_lacks 9 = .ok (.aload_n 0, 1) := by decide +kernel
theorem dX12_lacks_10 : decode cX12_lacks 10 = .ok (.iconst 1, 1) := by decide +kernel
theorem dX12_lacks_11 : decode cX12_lacks 11 = .ok (.invokevirtual 73, 3) := by decide +kernel
theorem dX12_lacks_14 : decode cX12_lacks 14 = .ok (.ireturn, 1) := by decide +kernel
theorem dX12_lacks_15 : decode cX12_lacks 15 = .ok (.aload_n 0, 1) := by decide +kernel
theorem dX12_lacks_16 : decode cX12_lacks 16 = .ok (.getfield 7, 3) := by decide +kernel
theorem dX12_lacks_19 : decode cX12_lacks 19 = .ok (.iload_n 1, 1) := by decide +kernel
theorem dX12_lacks_20 : decode cX12_lacks 20 = .ok (.iaload, 1) := by decide +kernel
theorem dX12_lacks_21 : decode cX12_lacks 21 = .ok (.iload_n 2, 1) := by decide +kernel
theorem dX12_lacks_22 : decode cX12_lacks 22 = .ok (.if_icmp .eq 9, 3) := by decide +kernel
theorem dX12_lacks_25 : decode cX12_lacks 25 = .ok (.aload_n 0, 1) := by decide +kernel
theorem dX12_lacks_26 : decode cX12_lacks 26 = .ok (.iconst 3, 1) := by decide +kernel
theorem dX12_lacks_27 : decode cX12_lacks 27 = .ok (.invokevirtual 73, 3) := by decide +kernel
theorem dX12_lacks_30 : decode cX12_lacks 30 = .ok (.ireturn, 1) := by decide +kernel
theorem dX12_lacks_31 : decode cX12_lacks 31 = .ok (.iload_n 3, 1) := by decide +kernel
theorem dX12_lacks_32 : decode cX12_lacks 32 = .ok (.i2l, 1) := by decide +kernel
theorem dX12_lacks_33 : decode cX12_lacks 33 = .ok (.lconst 0, 1) := by decide +kernel
theorem dX12_lacks_34 : decode cX12_lacks 34 = .ok (.aload_n 0, 1) := by decide +kernel
theorem dX12_lacks_35 : decode cX12_lacks 35 = .ok (.getfield 13, 3) := by decide +kernel
theorem dX12_lacks_38 : decode cX12_lacks 38 = .ok (.iload_n 1, 1) := by decide +kernel
theorem dX12_lacks_39 : decode cX12_lacks 39 = .ok (.iaload, 1) := by decide +kernel
theorem dX12_lacks_40 : decode cX12_lacks 40 = .ok (.iconst 1, 1) := by decide +kernel
theorem dX12_lacks_41 : decode cX12_lacks 41 = .ok (.isub, 1) := by decide +kernel
theorem dX12_lacks_42 : decode cX12_lacks 42 = .ok (.i2l, 1) := by decide +kernel
theorem dX12_lacks_43 : decode cX12_lacks 43 = .ok (.invokestatic 57, 3) := by decide +kernel
theorem dX12_lacks_46 : decode cX12_lacks 46 = .ok (.ifCond .eq 7, 3) := by decide +kernel
theorem dX12_lacks_49 : decode cX12_lacks 49 = .ok (.iconst 0, 1) := by decide +kernel
theorem dX12_lacks_50 : decode cX12_lacks 50 = .ok (.goto 8, 3) := by decide +kernel
theorem dX12_lacks_53 : decode cX12_lacks 53 = .ok (.aload_n 0, 1) := by decide +kernel
theorem dX12_lacks_54 : decode cX12_lacks 54 = .ok (.iconst 2, 1) := by decide +kernel
theorem dX12_lacks_55 : decode cX12_lacks 55 = .ok (.invokevirtual 73, 3) := by decide +kernel
theorem dX12_lacks_58 : decode cX12_lacks 58 = .ok (.ireturn, 1) := by decide +kernel
theorem dX12_cut_0 : decode cX12_cut 0 = .ok (.iload_n 0, 1) := by decide +kernel
theorem dX12_cut_1 : decode cX12_cut 1 = .ok (.ifCond .ne 8, 3) := by decide +kernel
theorem dX12_cut_4 : decode cX12_cut 4 = .ok (.iload_n 1, 1) := by decide +kernel
theorem dX12_cut_5 : decode cX12_cut 5 = .ok (.i2b, 1) := by decide +kernel
theorem dX12_cut_6 : decode cX12_cut 6 = .ok (.goto 14, 3) := by decide +kernel
theorem dX12_cut_9 : decode cX12_cut 9 = .ok (.iload_n 0, 1) := by decide +kernel
theorem dX12_cut_10 : decode cX12_cut 10 = .ok (.iconst 1, 1) := by decide +kernel
theorem dX12_cut_11 : decode cX12_cut 11 = .ok (.if_icmp .ne 8, 3) := by decide +kernel
theorem dX12_cut_14 : decode cX12_cut 14 = .ok (.iload_n 1, 1) := by decide +kernel
theorem dX12_cut_15 : decode cX12_cut 15 = .ok (.i2s, 1) := by decide +kernel
theorem dX12_cut_16 : decode cX12_cut 16 = .ok (.goto 4, 3) := by decide +kernel
theorem dX12_cut_19 : decode cX12_cut 19 = .ok (.iload_n 1, 1) := by decide +kernel
theorem dX12_cut_20 : decode cX12_cut 20 = .ok (.ireturn, 1) := by decide +kernel
theorem dX12_lay_0 : decode cX12_lay 0 = .ok (.iload_n 1, 1) := by decide +kernel
theorem dX12_lay_1 : decode cX12_lay 1 = .ok (.invokestatic 67, 3) := by decide +kernel
theorem dX12_lay_4 : decode cX12_lay 4 = .ok (.ifCond .eq 15, 3) := by decide +kernel
theorem dX12_lay_7 : decode cX12_lay 7 = .ok (.iload_n 2, 1) := by decide +kernel
theorem dX12_lay_8 : decode cX12_lay 8 = .ok (.i2l, 1) := by decide +kernel
theorem dX12_lay_9 : decode cX12_lay 9 = .ok (.lconst 0, 1) := by decide +kernel
theorem dX12_lay_10 : decode cX12_lay 10 = .ok (.ldc2_w 71, 3) := by decide +kernel
theorem dX12_lay_13 : decode cX12_lay 13 = .ok (.invokestatic 57, 3) := by decide +kernel
theorem dX12_lay_16 : decode cX12_lay 16 = .ok (.ifCond .ne 6, 3) := by decide +kernel
theorem dX12_lay_19 : decode cX12_lay 19 = .ok (.bipush (-2), 2) := by decide +kernel
theorem dX12_lay_21 : decode cX12_lay 21 = .ok (.ireturn, 1) := by decide +kernel
theorem dX12_lay_22 : decode cX12_lay 22 = .ok (.aload_n 0, 1) := by decide +kernel
theorem dX12_lay_23 : decode cX12_lay 23 = .ok (.iload_n 1, 1) := by decide +kernel
theorem dX12_lay_24 : decode cX12_lay 24 = .ok (.iload_n 2, 1) := by decide +kernel
theorem dX12_lay_25 : decode cX12_lay 25 = .ok (.iload_n 3, 1) := by decide +kernel
theorem dX12_lay_26 : decode cX12_lay 26 = .ok (.invokevirtual 77, 3) := by decide +kernel
theorem dX12_lay_29 : decode cX12_lay 29 = .ok (.istore 5, 2) := by decide +kernel
theorem dX12_lay_31 : decode cX12_lay 31 = .ok (.iload 5, 2) := by decide +kernel
theorem dX12_lay_33 : decode cX12_lay 33 = .ok (.ifCond .eq 6, 3) := by decide +kernel
theorem dX12_lay_36 : decode cX12_lay 36 = .ok (.iload 5, 2) := by decide +kernel
theorem dX12_lay_38 : decode cX12_lay 38 = .ok (.ireturn, 1) := by decide +kernel
theorem dX12_lay_39 : decode cX12_lay 39 = .ok (.aload_n 0, 1) := by decide +kernel
theorem dX12_lay_40 : decode cX12_lay 40 = .ok (.getfield 16, 3) := by decide +kernel
theorem dX12_lay_43 : decode cX12_lay 43 = .ok (.bipush 60, 2) := by decide +kernel
theorem dX12_lay_45 : decode cX12_lay 45 = .ok (.iload_n 1, 1) := by decide +kernel
theorem dX12_lay_46 : decode cX12_lay 46 = .ok (.imul, 1) := by decide +kernel
theorem dX12_lay_47 : decode cX12_lay 47 = .ok (.iload_n 3, 1) := by decide +kernel
theorem dX12_lay_48 : decode cX12_lay 48 = .ok (.iadd, 1) := by decide +kernel
theorem dX12_lay_49 : decode cX12_lay 49 = .ok (.iload_n 2, 1) := by decide +kernel
theorem dX12_lay_50 : decode cX12_lay 50 = .ok (.iload 4, 2) := by decide +kernel
theorem dX12_lay_52 : decode cX12_lay 52 = .ok (.invokestatic 81, 3) := by decide +kernel
theorem dX12_lay_55 : decode cX12_lay 55 = .ok (.iastore, 1) := by decide +kernel
theorem dX12_lay_56 : decode cX12_lay 56 = .ok (.iconst 1, 1) := by decide +kernel
theorem dX12_lay_57 : decode cX12_lay 57 = .ok (.ireturn, 1) := by decide +kernel
theorem dX12_get_0 : decode cX12_get 0 = .ok (.iload_n 1, 1) := by decide +kernel
theorem dX12_get_1 : decode cX12_get 1 = .ok (.invokestatic 67, 3) := by decide +kernel
theorem dX12_get_4 : decode cX12_get 4 = .ok (.ifCond .eq 25, 3) := by decide +kernel
theorem dX12_get_7 : decode cX12_get 7 = .ok (.iload_n 2, 1) := by decide +kernel
theorem dX12_get_8 : decode cX12_get 8 = .ok (.i2l, 1) := by decide +kernel
theorem dX12_get_9 : decode cX12_get 9 = .ok (.lconst 0, 1) := by decide +kernel
theorem dX12_get_10 : decode cX12_get 10 = .ok (.ldc2_w 71, 3) := by decide +kernel
theorem dX12_get_13 : decode cX12_get 13 = .ok (.invokestatic 57, 3) := by decide +kernel
theorem dX12_get_16 : decode cX12_get 16 = .ok (.ifCond .eq 13, 3) := by decide +kernel
theorem dX12_get_19 : decode cX12_get 19 = .ok (.aload_n 0, 1) := by decide +kernel
theorem dX12_get_20 : decode cX12_get 20 = .ok (.iload_n 1, 1) := by decide +kernel
theorem dX12_get_21 : decode cX12_get 21 = .ok (.iload_n 2, 1) := by decide +kernel
theorem dX12_get_22 : decode cX12_get 22 = .ok (.iload_n 3, 1) := by decide +kernel
theorem dX12_get_23 : decode cX12_get 23 = .ok (.invokevirtual 77, 3) := by decide +kernel
theorem dX12_get_26 : decode cX12_get 26 = .ok (.ifCond .eq 6, 3) := by decide +kernel
theorem dX12_get_29 : decode cX12_get 29 = .ok (.ldc 85, 2) := by decide +kernel
theorem dX12_get_31 : decode cX12_get 31 = .ok (.ireturn, 1) := by decide +kernel
theorem dX12_get_32 : decode cX12_get 32 = .ok (.aload_n 0, 1) := by decide +kernel
theorem dX12_get_33 : decode cX12_get 33 = .ok (.getfield 16, 3) := by decide +kernel
theorem dX12_get_36 : decode cX12_get 36 = .ok (.bipush 60, 2) := by decide +kernel
theorem dX12_get_38 : decode cX12_get 38 = .ok (.iload_n 1, 1) := by decide +kernel
theorem dX12_get_39 : decode cX12_get 39 = .ok (.imul, 1) := by decide +kernel
theorem dX12_get_40 : decode cX12_get 40 = .ok (.iload_n 3, 1) := by decide +kernel
theorem dX12_get_41 : decode cX12_get 41 = .ok (.iadd, 1) := by decide +kernel
theorem dX12_get_42 : decode cX12_get 42 = .ok (.iaload, 1) := by decide +kernel
theorem dX12_get_43 : decode cX12_get 43 = .ok (.ireturn, 1) := by decide +kernel
theorem dX12_copy_0 : decode cX12_copy 0 = .ok (.iload_n 1, 1) := by decide +kernel
theorem dX12_copy_1 : decode cX12_copy 1 = .ok (.invokestatic 67, 3) := by decide +kernel
theorem dX12_copy_4 : decode cX12_copy 4 = .ok (.ifCond .eq 10, 3) := by decide +kernel
theorem dX12_copy_7 : decode cX12_copy 7 = .ok (.iload_n 3, 1) := by decide +kernel
theorem dX12_copy_8 : decode cX12_copy 8 = .ok (.invokestatic 67, 3) := by decide +kernel
theorem dX12_copy_11 : decode cX12_copy 11 = .ok (.ifCond .ne 6, 3) := by decide +kernel
theorem dX12_copy_14 : decode cX12_copy 14 = .ok (.bipush (-2), 2) := by decide +kernel
theorem dX12_copy_16 : decode cX12_copy 16 = .ok (.ireturn, 1) := by decide +kernel
theorem dX12_copy_17 : decode cX12_copy 17 = .ok (.aload_n 0, 1) := by decide +kernel
theorem dX12_copy_18 : decode cX12_copy 18 = .ok (.getfield 7, 3) := by decide +kernel
theorem dX12_copy_21 : decode cX12_copy 21 = .ok (.iload_n 1, 1) := by decide +kernel
theorem dX12_copy_22 : decode cX12_copy 22 = .ok (.iaload, 1) := by decide +kernel
theorem dX12_copy_23 : decode cX12_copy 23 = .ok (.ifCond .lt 12, 3) := by decide +kernel
theorem dX12_copy_26 : decode cX12_copy 26 = .ok (.aload_n 0, 1) := by decide +kernel
theorem dX12_copy_27 : decode cX12_copy 27 = .ok (.getfield 7, 3) := by decide +kernel
theorem dX12_copy_30 : decode cX12_copy 30 = .ok (.iload_n 3, 1) := by decide +kernel
theorem dX12_copy_31 : decode cX12_copy 31 = .ok (.iaload, 1) := by decide +kernel
theorem dX12_copy_32 : decode cX12_copy 32 = .ok (.ifCond .ge 9, 3) := by decide +kernel
theorem dX12_copy_35 : decode cX12_copy 35 = .ok (.aload_n 0, 1) := by decide +kernel
theorem dX12_copy_36 : decode cX12_copy 36 = .ok (.iconst 1, 1) := by decide +kernel
theorem dX12_copy_37 : decode cX12_copy 37 = .ok (.invokevirtual 73, 3) := by decide +kernel
theorem dX12_copy_40 : decode cX12_copy 40 = .ok (.ireturn, 1) := by decide +kernel
theorem dX12_copy_41 : decode cX12_copy 41 = .ok (.aload_n 0, 1) := by decide +kernel
theorem dX12_copy_42 : decode cX12_copy 42 = .ok (.getfield 7, 3) := by decide +kernel
theorem dX12_copy_45 : decode cX12_copy 45 = .ok (.iload_n 1, 1) := by decide +kernel
theorem dX12_copy_46 : decode cX12_copy 46 = .ok (.iaload, 1) := by decide +kernel
theorem dX12_copy_47 : decode cX12_copy 47 = .ok (.aload_n 0, 1) := by decide +kernel
theorem dX12_copy_48 : decode cX12_copy 48 = .ok (.getfield 7, 3) := by decide +kernel
theorem dX12_copy_51 : decode cX12_copy 51 = .ok (.iload_n 3, 1) := by decide +kernel
theorem dX12_copy_52 : decode cX12_copy 52 = .ok (.iaload, 1) := by decide +kernel
theorem dX12_copy_53 : decode cX12_copy 53 = .ok (.if_icmp .eq 9, 3) := by decide +kernel
theorem dX12_copy_56 : decode cX12_copy 56 = .ok (.aload_n 0, 1) := by decide +kernel
theorem dX12_copy_57 : decode cX12_copy 57 = .ok (.iconst 4, 1) := by decide +kernel
theorem dX12_copy_58 : decode cX12_copy 58 = .ok (.invokevirtual 73, 3) := by decide +kernel
theorem dX12_copy_61 : decode cX12_copy 61 = .ok (.ireturn, 1) := by decide +kernel
theorem dX12_copy_62 : decode cX12_copy 62 = .ok (.iload_n 2, 1) := by decide +kernel
theorem dX12_copy_63 : decode cX12_copy 63 = .ok (.ifCond .lt 48, 3) := by decide +kernel
theorem dX12_copy_66 : decode cX12_copy 66 = .ok (.iload 4, 2) := by decide +kernel
theorem dX12_copy_68 : decode cX12_copy 68 = .ok (.ifCond .lt 43, 3) := by decide +kernel
theorem dX12_copy_71 : decode cX12_copy 71 = .ok (.iload 5, 2) := by decide +kernel
theorem dX12_copy_73 : decode cX12_copy 73 = .ok (.ifCond .lt 38, 3) := by decide +kernel
theorem dX12_copy_76 : decode cX12_copy 76 = .ok (.iload_n 2, 1) := by decide +kernel
theorem dX12_copy_77 : decode cX12_copy 77 = .ok (.i2l, 1) := by decide +kernel
theorem dX12_copy_78 : decode cX12_copy 78 = .ok (.iload 5, 2) := by decide +kernel
theorem dX12_copy_80 : decode cX12_copy 80 = .ok (.i2l, 1) := by decide +kernel
theorem dX12_copy_81 : decode cX12_copy 81 = .ok (.ladd, 1) := by decide +kernel
theorem dX12_copy_82 : decode cX12_copy 82 = .ok (.aload_n 0, 1) := by decide +kernel
theorem dX12_copy_83 : decode cX12_copy 83 = .ok (.getfield 13, 3) := by decide +kernel
theorem dX12_copy_86 : decode cX12_copy 86 = .ok (.iload_n 1, 1) := by decide +kernel
theorem dX12_copy_87 : decode cX12_copy 87 = .ok (.iaload, 1) := by decide +kernel
theorem dX12_copy_88 : decode cX12_copy 88 = .ok (.i2l, 1) := by decide +kernel
theorem dX12_copy_89 : decode cX12_copy 89 = .ok (.lcmp, 1) := by decide +kernel
theorem dX12_copy_90 : decode cX12_copy 90 = .ok (.ifCond .gt 21, 3) := by decide +kernel
theorem dX12_copy_93 : decode cX12_copy 93 = .ok (.iload 4, 2) := by decide +kernel
theorem dX12_copy_95 : decode cX12_copy 95 = .ok (.i2l, 1) := by decide +kernel
theorem dX12_copy_96 : decode cX12_copy 96 = .ok (.iload 5, 2) := by decide +kernel
theorem dX12_copy_98 : decode cX12_copy 98 = .ok (.i2l, 1) := by decide +kernel
theorem dX12_copy_99 : decode cX12_copy 99 = .ok (.ladd, 1) := by decide +kernel
theorem dX12_copy_100 : decode cX12_copy 100 = .ok (.aload_n 0, 1) := by decide +kernel
theorem dX12_copy_101 : decode cX12_copy 101 = .ok (.getfield 13, 3) := by decide +kernel
theorem dX12_copy_104 : decode cX12_copy 104 = .ok (.iload_n 3, 1) := by decide +kernel
theorem dX12_copy_105 : decode cX12_copy 105 = .ok (.iaload, 1) := by decide +kernel
theorem dX12_copy_106 : decode cX12_copy 106 = .ok (.i2l, 1) := by decide +kernel
theorem dX12_copy_107 : decode cX12_copy 107 = .ok (.lcmp, 1) := by decide +kernel
theorem dX12_copy_108 : decode cX12_copy 108 = .ok (.ifCond .le 9, 3) := by decide +kernel
theorem dX12_copy_111 : decode cX12_copy 111 = .ok (.aload_n 0, 1) := by decide +kernel
theorem dX12_copy_112 : decode cX12_copy 112 = .ok (.iconst 2, 1) := by decide +kernel
theorem dX12_copy_113 : decode cX12_copy 113 = .ok (.invokevirtual 73, 3) := by decide +kernel
theorem dX12_copy_116 : decode cX12_copy 116 = .ok (.ireturn, 1) := by decide +kernel
theorem dX12_copy_117 : decode cX12_copy 117 = .ok (.iconst 0, 1) := by decide +kernel
theorem dX12_copy_118 : decode cX12_copy 118 = .ok (.istore 6, 2) := by decide +kernel
theorem dX12_copy_120 : decode cX12_copy 120 = .ok (.iload 6, 2) := by decide +kernel
theorem dX12_copy_122 : decode cX12_copy 122 = .ok (.iload 5, 2) := by decide +kernel
theorem dX12_copy_124 : decode cX12_copy 124 = .ok (.if_icmp .ge 30, 3) := by decide +kernel
theorem dX12_copy_127 : decode cX12_copy 127 = .ok (.aload_n 0, 1) := by decide +kernel
theorem dX12_copy_128 : decode cX12_copy 128 = .ok (.getfield 19, 3) := by decide +kernel
theorem dX12_copy_131 : decode cX12_copy 131 = .ok (.iload 6, 2) := by decide +kernel
theorem dX12_copy_133 : decode cX12_copy 133 = .ok (.aload_n 0, 1) := by decide +kernel
theorem dX12_copy_134 : decode cX12_copy 134 = .ok (.getfield 16, 3) := by decide +kernel
theorem dX12_copy_137 : decode cX12_copy 137 = .ok (.bipush 60, 2) := by decide +kernel
theorem dX12_copy_139 : decode cX12_copy 139 = .ok (.iload_n 1, 1) := by decide +kernel
theorem dX12_copy_140 : decode cX12_copy 140 = .ok (.imul, 1) := by decide +kernel
theorem dX12_copy_141 : decode cX12_copy 141 = .ok (.iload_n 2, 1) := by decide +kernel
theorem dX12_copy_142 : decode cX12_copy 142 = .ok (.iadd, 1) := by decide +kernel
theorem dX12_copy_143 : decode cX12_copy 143 = .ok (.iload 6, 2) := by decide +kernel
theorem dX12_copy_145 : decode cX12_copy 145 = .ok (.iadd, 1) := by decide +kernel
theorem dX12_copy_146 : decode cX12_copy 146 = .ok (.iaload, 1) := by decide +kernel
theorem dX12_copy_147 : decode cX12_copy 147 = .ok (.iastore, 1) := by decide +kernel
theorem dX12_copy_148 : decode cX12_copy 148 = .ok (.iinc 6 1, 3) := by decide +kernel
theorem dX12_copy_151 : decode cX12_copy 151 = .ok (.goto (-31), 3) := by decide +kernel
theorem dX12_copy_154 : decode cX12_copy 154 = .ok (.iconst 0, 1) := by decide +kernel
theorem dX12_copy_155 : decode cX12_copy 155 = .ok (.istore 6, 2) := by decide +kernel
theorem dX12_copy_157 : decode cX12_copy 157 = .ok (.iload 6, 2) := by decide +kernel
theorem dX12_copy_159 : decode cX12_copy 159 = .ok (.iload 5, 2) := by decide +kernel
theorem dX12_copy_161 : decode cX12_copy 161 = .ok (.if_icmp .ge 31, 3) := by decide +kernel
theorem dX12_copy_164 : decode cX12_copy 164 = .ok (.aload_n 0, 1) := by decide +kernel
theorem dX12_copy_165 : decode cX12_copy 165 = .ok (.getfield 16, 3) := by decide +kernel
theorem dX12_copy_168 : decode cX12_copy 168 = .ok (.bipush 60, 2) := by decide +kernel
theorem dX12_copy_170 : decode cX12_copy 170 = .ok (.iload_n 3, 1) := by decide +kernel
theorem dX12_copy_171 : decode cX12_copy 171 = .ok (.imul, 1) := by decide +kernel
theorem dX12_copy_172 : decode cX12_copy 172 = .ok (.iload 4, 2) := by decide +kernel
theorem dX12_copy_174 : decode cX12_copy 174 = .ok (.iadd, 1) := by decide +kernel
theorem dX12_copy_175 : decode cX12_copy 175 = .ok (.iload 6, 2) := by decide +kernel
theorem dX12_copy_177 : decode cX12_copy 177 = .ok (.iadd, 1) := by decide +kernel
theorem dX12_copy_178 : decode cX12_copy 178 = .ok (.aload_n 0, 1) := by decide +kernel
theorem dX12_copy_179 : decode cX12_copy 179 = .ok (.getfield 19, 3) := by decide +kernel
theorem dX12_copy_182 : decode cX12_copy 182 = .ok (.iload 6, 2) := by decide +kernel
theorem dX12_copy_184 : decode cX12_copy 184 = .ok (.iaload, 1) := by decide +kernel
theorem dX12_copy_185 : decode cX12_copy 185 = .ok (.iastore, 1) := by decide +kernel
theorem dX12_copy_186 : decode cX12_copy 186 = .ok (.iinc 6 1, 3) := by decide +kernel
theorem dX12_copy_189 : decode cX12_copy 189 = .ok (.goto (-32), 3) := by decide +kernel
theorem dX12_copy_192 : decode cX12_copy 192 = .ok (.iconst 1, 1) := by decide +kernel
theorem dX12_copy_193 : decode cX12_copy 193 = .ok (.ireturn, 1) := by decide +kernel
theorem dX12_isText_0 : decode cX12_isText 0 = .ok (.iload_n 0, 1) := by decide +kernel
theorem dX12_isText_1 : decode cX12_isText 1 = .ok (.i2l, 1) := by decide +kernel
theorem dX12_isText_2 : decode cX12_isText 2 = .ok (.lconst 0, 1) := by decide +kernel
theorem dX12_isText_3 : decode cX12_isText 3 = .ok (.ldc2_w 71, 3) := by decide +kernel
theorem dX12_isText_6 : decode cX12_isText 6 = .ok (.invokestatic 57, 3) := by decide +kernel
theorem dX12_isText_9 : decode cX12_isText 9 = .ok (.ireturn, 1) := by decide +kernel
theorem dX12_type_0 : decode cX12_type 0 = .ok (.iload_n 1, 1) := by decide +kernel
theorem dX12_type_1 : decode cX12_type 1 = .ok (.invokestatic 86, 3) := by decide +kernel
theorem dX12_type_4 : decode cX12_type 4 = .ok (.ifCond .eq 15, 3) := by decide +kernel
theorem dX12_type_7 : decode cX12_type 7 = .ok (.iload_n 2, 1) := by decide +kernel
theorem dX12_type_8 : decode cX12_type 8 = .ok (.i2l, 1) := by decide +kernel
theorem dX12_type_9 : decode cX12_type 9 = .ok (.lconst 0, 1) := by decide +kernel
theorem dX12_type_10 : decode cX12_type 10 = .ok (.ldc2_w 89, 3) := by decide +kernel
theorem dX12_type_13 : decode cX12_type 13 = .ok (.invokestatic 57, 3) := by decide +kernel
theorem dX12_type_16 : decode cX12_type 16 = .ok (.ifCond .ne 6, 3) := by decide +kernel
theorem dX12_type_19 : decode cX12_type 19 = .ok (.bipush (-2), 2) := by decide +kernel
theorem dX12_type_21 : decode cX12_type 21 = .ok (.ireturn, 1) := by decide +kernel
theorem dX12_type_22 : decode cX12_type 22 = .ok (.aload_n 0, 1) := by decide +kernel
theorem dX12_type_23 : decode cX12_type 23 = .ok (.getfield 25, 3) := by decide +kernel
theorem dX12_type_26 : decode cX12_type 26 = .ok (.iload_n 1, 1) := by decide +kernel
theorem dX12_type_27 : decode cX12_type 27 = .ok (.iaload, 1) := by decide +kernel
theorem dX12_type_28 : decode cX12_type 28 = .ok (.iload_n 1, 1) := by decide +kernel
theorem dX12_type_29 : decode cX12_type 29 = .ok (.ifCond .ne 8, 3) := by decide +kernel
theorem dX12_type_32 : decode cX12_type 32 = .ok (.bipush 47, 2) := by decide +kernel
theorem dX12_type_34 : decode cX12_type 34 = .ok (.goto 15, 3) := by decide +kernel
theorem dX12_type_37 : decode cX12_type 37 = .ok (.iload_n 1, 1) := by decide +kernel
theorem dX12_type_38 : decode cX12_type 38 = .ok (.iconst 1, 1) := by decide +kernel
theorem dX12_type_39 : decode cX12_type 39 = .ok (.if_icmp .ne 8, 3) := by decide +kernel
theorem dX12_type_42 : decode cX12_type 42 = .ok (.bipush 23, 2) := by decide +kernel
theorem dX12_type_44 : decode cX12_type 44 = .ok (.goto 5, 3) := by decide +kernel
theorem dX12_type_47 : decode cX12_type 47 = .ok (.bipush 59, 2) := by decide +kernel
theorem dX12_type_49 : decode cX12_type 49 = .ok (.if_icmp .ne 6, 3) := by decide +kernel
theorem dX12_type_52 : decode cX12_type 52 = .ok (.bipush (-4), 2) := by decide +kernel
theorem dX12_type_54 : decode cX12_type 54 = .ok (.ireturn, 1) := by decide +kernel
theorem dX12_type_55 : decode cX12_type 55 = .ok (.aload_n 0, 1) := by decide +kernel
theorem dX12_type_56 : decode cX12_type 56 = .ok (.getfield 22, 3) := by decide +kernel
theorem dX12_type_59 : decode cX12_type 59 = .ok (.bipush 60, 2) := by decide +kernel
theorem dX12_type_61 : decode cX12_type 61 = .ok (.iload_n 1, 1) := by decide +kernel
theorem dX12_type_62 : decode cX12_type 62 = .ok (.imul, 1) := by decide +kernel
theorem dX12_type_63 : decode cX12_type 63 = .ok (.aload_n 0, 1) := by decide +kernel
theorem dX12_type_64 : decode cX12_type 64 = .ok (.getfield 25, 3) := by decide +kernel
theorem dX12_type_67 : decode cX12_type 67 = .ok (.iload_n 1, 1) := by decide +kernel
theorem dX12_type_68 : decode cX12_type 68 = .ok (.iaload, 1) := by decide +kernel
theorem dX12_type_69 : decode cX12_type 69 = .ok (.iadd, 1) := by decide +kernel
theorem dX12_type_70 : decode cX12_type 70 = .ok (.iload_n 2, 1) := by decide +kernel
theorem dX12_type_71 : decode cX12_type 71 = .ok (.iastore, 1) := by decide +kernel
theorem dX12_type_72 : decode cX12_type 72 = .ok (.aload_n 0, 1) := by decide +kernel
theorem dX12_type_73 : decode cX12_type 73 = .ok (.getfield 25, 3) := by decide +kernel
theorem dX12_type_76 : decode cX12_type 76 = .ok (.iload_n 1, 1) := by decide +kernel
theorem dX12_type_77 : decode cX12_type 77 = .ok (.dup2, 1) := by decide +kernel
theorem dX12_type_78 : decode cX12_type 78 = .ok (.iaload, 1) := by decide +kernel
theorem dX12_type_79 : decode cX12_type 79 = .ok (.iconst 1, 1) := by decide +kernel
theorem dX12_type_80 : decode cX12_type 80 = .ok (.iadd, 1) := by decide +kernel
theorem dX12_type_81 : decode cX12_type 81 = .ok (.iastore, 1) := by decide +kernel
theorem dX12_type_82 : decode cX12_type 82 = .ok (.aload_n 0, 1) := by decide +kernel
theorem dX12_type_83 : decode cX12_type 83 = .ok (.getfield 25, 3) := by decide +kernel
theorem dX12_type_86 : decode cX12_type 86 = .ok (.iload_n 1, 1) := by decide +kernel
theorem dX12_type_87 : decode cX12_type 87 = .ok (.iaload, 1) := by decide +kernel
theorem dX12_type_88 : decode cX12_type 88 = .ok (.ireturn, 1) := by decide +kernel
theorem dX12_wipe_0 : decode cX12_wipe 0 = .ok (.iload_n 1, 1) := by decide +kernel
theorem dX12_wipe_1 : decode cX12_wipe 1 = .ok (.invokestatic 86, 3) := by decide +kernel
theorem dX12_wipe_4 : decode cX12_wipe 4 = .ok (.ifCond .ne 6, 3) := by decide +kernel
theorem dX12_wipe_7 : decode cX12_wipe 7 = .ok (.bipush (-2), 2) := by decide +kernel
theorem dX12_wipe_9 : decode cX12_wipe 9 = .ok (.ireturn, 1) := by decide +kernel
theorem dX12_wipe_10 : decode cX12_wipe 10 = .ok (.aload_n 0, 1) := by decide +kernel
theorem dX12_wipe_11 : decode cX12_wipe 11 = .ok (.getfield 25, 3) := by decide +kernel
theorem dX12_wipe_14 : decode cX12_wipe 14 = .ok (.iload_n 1, 1) := by decide +kernel
theorem dX12_wipe_15 : decode cX12_wipe 15 = .ok (.iaload, 1) := by decide +kernel
theorem dX12_wipe_16 : decode cX12_wipe 16 = .ok (.istore_n 2, 1) := by decide +kernel
theorem dX12_wipe_17 : decode cX12_wipe 17 = .ok (.aload_n 0, 1) := by decide +kernel
theorem dX12_wipe_18 : decode cX12_wipe 18 = .ok (.getfield 25, 3) := by decide +kernel
theorem dX12_wipe_21 : decode cX12_wipe 21 = .ok (.iload_n 1, 1) := by decide +kernel
theorem dX12_wipe_22 : decode cX12_wipe 22 = .ok (.iconst 0, 1) := by decide +kernel
theorem dX12_wipe_23 : decode cX12_wipe 23 = .ok (.iastore, 1) := by decide +kernel
theorem dX12_wipe_24 : decode cX12_wipe 24 = .ok (.iload_n 2, 1) := by decide +kernel
theorem dX12_wipe_25 : decode cX12_wipe 25 = .ok (.ireturn, 1) := by decide +kernel
theorem dX12_undo_0 : decode cX12_undo 0 = .ok (.iload_n 1, 1) := by decide +kernel
theorem dX12_undo_1 : decode cX12_undo 1 = .ok (.invokestatic 86, 3) := by decide +kernel
theorem dX12_undo_4 : decode cX12_undo 4 = .ok (.ifCond .ne 6, 3) := by decide +kernel
theorem dX12_undo_7 : decode cX12_undo 7 = .ok (.bipush (-2), 2) := by decide +kernel
theorem dX12_undo_9 : decode cX12_undo 9 = .ok (.ireturn, 1) := by decide +kernel
theorem dX12_undo_10 : decode cX12_undo 10 = .ok (.aload_n 0, 1) := by decide +kernel
theorem dX12_undo_11 : decode cX12_undo 11 = .ok (.getfield 25, 3) := by decide +kernel
theorem dX12_undo_14 : decode cX12_undo 14 = .ok (.iload_n 1, 1) := by decide +kernel
theorem dX12_undo_15 : decode cX12_undo 15 = .ok (.iaload, 1) := by decide +kernel
theorem dX12_undo_16 : decode cX12_undo 16 = .ok (.ifCond .ne 6, 3) := by decide +kernel
theorem dX12_undo_19 : decode cX12_undo 19 = .ok (.bipush (-3), 2) := by decide +kernel
theorem dX12_undo_21 : decode cX12_undo 21 = .ok (.ireturn, 1) := by decide +kernel
theorem dX12_undo_22 : decode cX12_undo 22 = .ok (.aload_n 0, 1) := by decide +kernel
theorem dX12_undo_23 : decode cX12_undo 23 = .ok (.getfield 25, 3) := by decide +kernel
theorem dX12_undo_26 : decode cX12_undo 26 = .ok (.iload_n 1, 1) := by decide +kernel
theorem dX12_undo_27 : decode cX12_undo 27 = .ok (.dup2, 1) := by decide +kernel
theorem dX12_undo_28 : decode cX12_undo 28 = .ok (.iaload, 1) := by decide +kernel
theorem dX12_undo_29 : decode cX12_undo 29 = .ok (.iconst 1, 1) := by decide +kernel
theorem dX12_undo_30 : decode cX12_undo 30 = .ok (.isub, 1) := by decide +kernel
theorem dX12_undo_31 : decode cX12_undo 31 = .ok (.iastore, 1) := by decide +kernel
theorem dX12_undo_32 : decode cX12_undo 32 = .ok (.aload_n 0, 1) := by decide +kernel
theorem dX12_undo_33 : decode cX12_undo 33 = .ok (.getfield 25, 3) := by decide +kernel
theorem dX12_undo_36 : decode cX12_undo 36 = .ok (.iload_n 1, 1) := by decide +kernel
theorem dX12_undo_37 : decode cX12_undo 37 = .ok (.iaload, 1) := by decide +kernel
theorem dX12_undo_38 : decode cX12_undo 38 = .ok (.ireturn, 1) := by decide +kernel
theorem dX12_here_0 : decode cX12_here 0 = .ok (.aload_n 0, 1) := by decide +kernel
theorem dX12_here_1 : decode cX12_here 1 = .ok (.getfield 91, 3) := by decide +kernel
theorem dX12_here_4 : decode cX12_here 4 = .ok (.aload_n 0, 1) := by decide +kernel
theorem dX12_here_5 : decode cX12_here 5 = .ok (.getfield 25, 3) := by decide +kernel
theorem dX12_here_8 : decode cX12_here 8 = .ok (.iload_n 1, 1) := by decide +kernel
theorem dX12_here_9 : decode cX12_here 9 = .ok (.iaload, 1) := by decide +kernel
theorem dX12_here_10 : decode cX12_here 10 = .ok (.if_icmp .ge 20, 3) := by decide +kernel
theorem dX12_here_13 : decode cX12_here 13 = .ok (.aload_n 0, 1) := by decide +kernel
theorem dX12_here_14 : decode cX12_here 14 = .ok (.getfield 22, 3) := by decide +kernel
theorem dX12_here_17 : decode cX12_here 17 = .ok (.bipush 60, 2) := by decide +kernel
theorem dX12_here_19 : decode cX12_here 19 = .ok (.iload_n 1, 1) := by decide +kernel
theorem dX12_here_20 : decode cX12_here 20 = .ok (.imul, 1) := by decide +kernel
theorem dX12_here_21 : decode cX12_here 21 = .ok (.aload_n 0, 1) := by decide +kernel
theorem dX12_here_22 : decode cX12_here 22 = .ok (.getfield 91, 3) := by decide +kernel
theorem dX12_here_25 : decode cX12_here 25 = .ok (.iadd, 1) := by decide +kernel
theorem dX12_here_26 : decode cX12_here 26 = .ok (.iaload, 1) := by decide +kernel
theorem dX12_here_27 : decode cX12_here 27 = .ok (.goto 4, 3) := by decide +kernel
theorem dX12_here_30 : decode cX12_here 30 = .ok (.iconst (-1), 1) := by decide +kernel
theorem dX12_here_31 : decode cX12_here 31 = .ok (.ireturn, 1) := by decide +kernel
theorem dX12_within_0 : decode cX12_within 0 = .ok (.iload_n 0, 1) := by decide +kernel
theorem dX12_within_1 : decode cX12_within 1 = .ok (.i2l, 1) := by decide +kernel
theorem dX12_within_2 : decode cX12_within 2 = .ok (.iload_n 1, 1) := by decide +kernel
theorem dX12_within_3 : decode cX12_within 3 = .ok (.i2l, 1) := by decide +kernel
theorem dX12_within_4 : decode cX12_within 4 = .ok (.iload_n 2, 1) := by decide +kernel
theorem dX12_within_5 : decode cX12_within 5 = .ok (.i2l, 1) := by decide +kernel
theorem dX12_within_6 : decode cX12_within 6 = .ok (.invokestatic 57, 3) := by decide +kernel
theorem dX12_within_9 : decode cX12_within 9 = .ok (.ifCond .eq 9, 3) := by decide +kernel
theorem dX12_within_12 : decode cX12_within 12 = .ok (.iload_n 0, 1) := by decide +kernel
theorem dX12_within_13 : decode cX12_within 13 = .ok (.iload_n 1, 1) := by decide +kernel
theorem dX12_within_14 : decode cX12_within 14 = .ok (.isub, 1) := by decide +kernel
theorem dX12_within_15 : decode cX12_within 15 = .ok (.goto 4, 3) := by decide +kernel
theorem dX12_within_18 : decode cX12_within 18 = .ok (.iconst (-1), 1) := by decide +kernel
theorem dX12_within_19 : decode cX12_within 19 = .ok (.ireturn, 1) := by decide +kernel
theorem dX12_orWrong_0 : decode cX12_orWrong 0 = .ok (.iload_n 0, 1) := by decide +kernel
theorem dX12_orWrong_1 : decode cX12_orWrong 1 = .ok (.iconst (-1), 1) := by decide +kernel
theorem dX12_orWrong_2 : decode cX12_orWrong 2 = .ok (.if_icmp .ne 8, 3) := by decide +kernel
theorem dX12_orWrong_5 : decode cX12_orWrong 5 = .ok (.bipush (-9), 2) := by decide +kernel
theorem dX12_orWrong_7 : decode cX12_orWrong 7 = .ok (.goto 4, 3) := by decide +kernel
theorem dX12_orWrong_10 : decode cX12_orWrong 10 = .ok (.iload_n 0, 1) := by decide +kernel
theorem dX12_orWrong_11 : decode cX12_orWrong 11 = .ok (.ireturn, 1) := by decide +kernel
theorem dX12_tellsHabit_0 : decode cX12_tellsHabit 0 = .ok (.iload_n 0, 1) := by decide +kernel
theorem dX12_tellsHabit_1 : decode cX12_tellsHabit 1 = .ok (.tableswitch 99 0 3 #[31, 43, 65, 77], 31) := by decide +kernel
theorem dX12_tellsHabit_32 : decode cX12_tellsHabit 32 = .ok (.iload_n 1, 1) := by decide +kernel
theorem dX12_tellsHabit_33 : decode cX12_tellsHabit 33 = .ok (.bipush 97, 2) := by decide +kernel
theorem dX12_tellsHabit_35 : decode cX12_tellsHabit 35 = .ok (.bipush 120, 2) := by decide +kernel
theorem dX12_tellsHabit_37 : decode cX12_tellsHabit 37 = .ok (.invokestatic 94, 3) := by decide +kernel
theorem dX12_tellsHabit_40 : decode cX12_tellsHabit 40 = .ok (.invokestatic 97, 3) := by decide +kernel
theorem dX12_tellsHabit_43 : decode cX12_tellsHabit 43 = .ok (.ireturn, 1) := by decide +kernel
theorem dX12_tellsHabit_44 : decode cX12_tellsHabit 44 = .ok (.iload_n 1, 1) := by decide +kernel
theorem dX12_tellsHabit_45 : decode cX12_tellsHabit 45 = .ok (.bipush 49, 2) := by decide +kernel
theorem dX12_tellsHabit_47 : decode cX12_tellsHabit 47 = .ok (.bipush 57, 2) := by decide +kernel
theorem dX12_tellsHabit_49 : decode cX12_tellsHabit 49 = .ok (.invokestatic 94, 3) := by decide +kernel
theorem dX12_tellsHabit_52 : decode cX12_tellsHabit 52 = .ok (.iconst (-1), 1) := by decide +kernel
theorem dX12_tellsHabit_53 : decode cX12_tellsHabit 53 = .ok (.if_icmp .ne 8, 3) := by decide +kernel
theorem dX12_tellsHabit_56 : decode cX12_tellsHabit 56 = .ok (.bipush (-9), 2) := by decide +kernel
theorem dX12_tellsHabit_58 : decode cX12_tellsHabit 58 = .ok (.goto 7, 3) := by decide +kernel
theorem dX12_tellsHabit_61 : decode cX12_tellsHabit 61 = .ok (.iload_n 1, 1) := by decide +kernel
theorem dX12_tellsHabit_62 : decode cX12_tellsHabit 62 = .ok (.bipush 48, 2) := by decide +kernel
theorem dX12_tellsHabit_64 : decode cX12_tellsHabit 64 = .ok (.isub, 1) := by decide +kernel
theorem dX12_tellsHabit_65 : decode cX12_tellsHabit 65 = .ok (.ireturn, 1) := by decide +kernel
theorem dX12_tellsHabit_66 : decode cX12_tellsHabit 66 = .ok (.iload_n 1, 1) := by decide +kernel
theorem dX12_tellsHabit_67 : decode cX12_tellsHabit 67 = .ok (.bipush 48, 2) := by decide +kernel
theorem dX12_tellsHabit_69 : decode cX12_tellsHabit 69 = .ok (.bipush 57, 2) := by decide +kernel
theorem dX12_tellsHabit_71 : decode cX12_tellsHabit 71 = .ok (.invokestatic 94, 3) := by decide +kernel
theorem dX12_tellsHabit_74 : decode cX12_tellsHabit 74 = .ok (.invokestatic 97, 3) := by decide +kernel
theorem dX12_tellsHabit_77 : decode cX12_tellsHabit 77 = .ok (.ireturn, 1) := by decide +kernel
theorem dX12_tellsHabit_78 : decode cX12_tellsHabit 78 = .ok (.iload_n 1, 1) := by decide +kernel
theorem dX12_tellsHabit_79 : decode cX12_tellsHabit 79 = .ok (.bipush 46, 2) := by decide +kernel
theorem dX12_tellsHabit_81 : decode cX12_tellsHabit 81 = .ok (.if_icmp .ne 7, 3) := by decide +kernel
theorem dX12_tellsHabit_84 : decode cX12_tellsHabit 84 = .ok (.iconst (-1), 1) := by decide +kernel
theorem dX12_tellsHabit_85 : decode cX12_tellsHabit 85 = .ok (.goto 14, 3) := by decide +kernel
theorem dX12_tellsHabit_88 : decode cX12_tellsHabit 88 = .ok (.iload_n 1, 1) := by decide +kernel
theorem dX12_tellsHabit_89 : decode cX12_tellsHabit 89 = .ok (.bipush 48, 2) := by decide +kernel
theorem dX12_tellsHabit_91 : decode cX12_tellsHabit 91 = .ok (.bipush 55, 2) := by decide +kernel
theorem dX12_tellsHabit_93 : decode cX12_tellsHabit 93 = .ok (.invokestatic 94, 3) := by decide +kernel
theorem dX12_tellsHabit_96 : decode cX12_tellsHabit 96 = .ok (.invokestatic 97, 3) := by decide +kernel
theorem dX12_tellsHabit_99 : decode cX12_tellsHabit 99 = .ok (.ireturn, 1) := by decide +kernel
theorem dX12_tellsHabit_100 : decode cX12_tellsHabit 100 = .ok (.iload_n 1, 1) := by decide +kernel
theorem dX12_tellsHabit_101 : decode cX12_tellsHabit 101 = .ok (.bipush 33, 2) := by decide +kernel
theorem dX12_tellsHabit_103 : decode cX12_tellsHabit 103 = .ok (.if_icmp .ne 7, 3) := by decide +kernel
theorem dX12_tellsHabit_106 : decode cX12_tellsHabit 106 = .ok (.iconst 1, 1) := by decide +kernel
theorem dX12_tellsHabit_107 : decode cX12_tellsHabit 107 = .ok (.goto 15, 3) := by decide +kernel
theorem dX12_tellsHabit_110 : decode cX12_tellsHabit 110 = .ok (.iload_n 1, 1) := by decide +kernel
theorem dX12_tellsHabit_111 : decode cX12_tellsHabit 111 = .ok (.bipush 46, 2) := by decide +kernel
theorem dX12_tellsHabit_113 : decode cX12_tellsHabit 113 = .ok (.if_icmp .ne 7, 3) := by decide +kernel
theorem dX12_tellsHabit_116 : decode cX12_tellsHabit 116 = .ok (.iconst 0, 1) := by decide +kernel
theorem dX12_tellsHabit_117 : decode cX12_tellsHabit 117 = .ok (.goto 5, 3) := by decide +kernel
theorem dX12_tellsHabit_120 : decode cX12_tellsHabit 120 = .ok (.bipush (-9), 2) := by decide +kernel
theorem dX12_tellsHabit_122 : decode cX12_tellsHabit 122 = .ok (.ireturn, 1) := by decide +kernel
theorem dX12_tellsHeir_0 : decode cX12_tellsHeir 0 = .ok (.iload_n 0, 1) := by decide +kernel
theorem dX12_tellsHeir_1 : decode cX12_tellsHeir 1 = .ok (.ifCond .le 17, 3) := by decide +kernel
theorem dX12_tellsHeir_4 : decode cX12_tellsHeir 4 = .ok (.iload_n 1, 1) := by decide +kernel
theorem dX12_tellsHeir_5 : decode cX12_tellsHeir 5 = .ok (.bipush 97, 2) := by decide +kernel
theorem dX12_tellsHeir_7 : decode cX12_tellsHeir 7 = .ok (.bipush 120, 2) := by decide +kernel
theorem dX12_tellsHeir_9 : decode cX12_tellsHeir 9 = .ok (.invokestatic 94, 3) := by decide +kernel
theorem dX12_tellsHeir_12 : decode cX12_tellsHeir 12 = .ok (.invokestatic 97, 3) := by decide +kernel
theorem dX12_tellsHeir_15 : decode cX12_tellsHeir 15 = .ok (.goto 24, 3) := by decide +kernel
theorem dX12_tellsHeir_18 : decode cX12_tellsHeir 18 = .ok (.iload_n 1, 1) := by decide +kernel
theorem dX12_tellsHeir_19 : decode cX12_tellsHeir 19 = .ok (.bipush 49, 2) := by decide +kernel
theorem dX12_tellsHeir_21 : decode cX12_tellsHeir 21 = .ok (.bipush 56, 2) := by decide +kernel
theorem dX12_tellsHeir_23 : decode cX12_tellsHeir 23 = .ok (.invokestatic 94, 3) := by decide +kernel
theorem dX12_tellsHeir_26 : decode cX12_tellsHeir 26 = .ok (.iconst (-1), 1) := by decide +kernel
theorem dX12_tellsHeir_27 : decode cX12_tellsHeir 27 = .ok (.if_icmp .ne 8, 3) := by decide +kernel
theorem dX12_tellsHeir_30 : decode cX12_tellsHeir 30 = .ok (.bipush (-9), 2) := by decide +kernel
theorem dX12_tellsHeir_32 : decode cX12_tellsHeir 32 = .ok (.goto 7, 3) := by decide +kernel
theorem dX12_tellsHeir_35 : decode cX12_tellsHeir 35 = .ok (.iload_n 1, 1) := by decide +kernel
theorem dX12_tellsHeir_36 : decode cX12_tellsHeir 36 = .ok (.bipush 48, 2) := by decide +kernel
theorem dX12_tellsHeir_38 : decode cX12_tellsHeir 38 = .ok (.isub, 1) := by decide +kernel
theorem dX12_tellsHeir_39 : decode cX12_tellsHeir 39 = .ok (.ireturn, 1) := by decide +kernel
theorem dX12_tellsClause_0 : decode cX12_tellsClause 0 = .ok (.iload_n 0, 1) := by decide +kernel
theorem dX12_tellsClause_1 : decode cX12_tellsClause 1 = .ok (.lookupswitch 62 #[(1, 27), (2, 50)], 27) := by decide +kernel
theorem dX12_tellsClause_28 : decode cX12_tellsClause 28 = .ok (.iload_n 1, 1) := by decide +kernel
theorem dX12_tellsClause_29 : decode cX12_tellsClause 29 = .ok (.bipush 43, 2) := by decide +kernel
theorem dX12_tellsClause_31 : decode cX12_tellsClause 31 = .ok (.if_icmp .ne 7, 3) := by decide +kernel
theorem dX12_tellsClause_34 : decode cX12_tellsClause 34 = .ok (.iconst 1, 1) := by decide +kernel
theorem dX12_tellsClause_35 : decode cX12_tellsClause 35 = .ok (.goto 15, 3) := by decide +kernel
theorem dX12_tellsClause_38 : decode cX12_tellsClause 38 = .ok (.iload_n 1, 1) := by decide +kernel
theorem dX12_tellsClause_39 : decode cX12_tellsClause 39 = .ok (.bipush 45, 2) := by decide +kernel
theorem dX12_tellsClause_41 : decode cX12_tellsClause 41 = .ok (.if_icmp .ne 7, 3) := by decide +kernel
theorem dX12_tellsClause_44 : decode cX12_tellsClause 44 = .ok (.iconst 0, 1) := by decide +kernel
theorem dX12_tellsClause_45 : decode cX12_tellsClause 45 = .ok (.goto 5, 3) := by decide +kernel
theorem dX12_tellsClause_48 : decode cX12_tellsClause 48 = .ok (.bipush (-9), 2) := by decide +kernel
theorem dX12_tellsClause_50 : decode cX12_tellsClause 50 = .ok (.ireturn, 1) := by decide +kernel
theorem dX12_tellsClause_51 : decode cX12_tellsClause 51 = .ok (.iload_n 1, 1) := by decide +kernel
theorem dX12_tellsClause_52 : decode cX12_tellsClause 52 = .ok (.bipush 48, 2) := by decide +kernel
theorem dX12_tellsClause_54 : decode cX12_tellsClause 54 = .ok (.bipush 53, 2) := by decide +kernel
theorem dX12_tellsClause_56 : decode cX12_tellsClause 56 = .ok (.invokestatic 94, 3) := by decide +kernel
theorem dX12_tellsClause_59 : decode cX12_tellsClause 59 = .ok (.invokestatic 97, 3) := by decide +kernel
theorem dX12_tellsClause_62 : decode cX12_tellsClause 62 = .ok (.ireturn, 1) := by decide +kernel
theorem dX12_tellsClause_63 : decode cX12_tellsClause 63 = .ok (.iload_n 1, 1) := by decide +kernel
theorem dX12_tellsClause_64 : decode cX12_tellsClause 64 = .ok (.bipush 48, 2) := by decide +kernel
theorem dX12_tellsClause_66 : decode cX12_tellsClause 66 = .ok (.bipush 55, 2) := by decide +kernel
theorem dX12_tellsClause_68 : decode cX12_tellsClause 68 = .ok (.invokestatic 94, 3) := by decide +kernel
theorem dX12_tellsClause_71 : decode cX12_tellsClause 71 = .ok (.invokestatic 97, 3) := by decide +kernel
theorem dX12_tellsClause_74 : decode cX12_tellsClause 74 = .ok (.ireturn, 1) := by decide +kernel
theorem dX12_put_0 : decode cX12_put 0 = .ok (.aload_n 0, 1) := by decide +kernel
theorem dX12_put_1 : decode cX12_put 1 = .ok (.iload_n 1, 1) := by decide +kernel
theorem dX12_put_2 : decode cX12_put 2 = .ok (.invokevirtual 100, 3) := by decide +kernel
theorem dX12_put_5 : decode cX12_put 5 = .ok (.istore_n 3, 1) := by decide +kernel
theorem dX12_put_6 : decode cX12_put 6 = .ok (.iload_n 1, 1) := by decide +kernel
theorem dX12_put_7 : decode cX12_put 7 = .ok (.ifCond .ne 11, 3) := by decide +kernel
theorem dX12_put_10 : decode cX12_put 10 = .ok (.iload_n 2, 1) := by decide +kernel
theorem dX12_put_11 : decode cX12_put 11 = .ok (.iload_n 3, 1) := by decide +kernel
theorem dX12_put_12 : decode cX12_put 12 = .ok (.invokestatic 103, 3) := by decide +kernel
theorem dX12_put_15 : decode cX12_put 15 = .ok (.goto 21, 3) := by decide +kernel
theorem dX12_put_18 : decode cX12_put 18 = .ok (.iload_n 1, 1) := by decide +kernel
theorem dX12_put_19 : decode cX12_put 19 = .ok (.iconst 1, 1) := by decide +kernel
theorem dX12_put_20 : decode cX12_put 20 = .ok (.if_icmp .ne 11, 3) := by decide +kernel
theorem dX12_put_23 : decode cX12_put 23 = .ok (.iload_n 2, 1) := by decide +kernel
theorem dX12_put_24 : decode cX12_put 24 = .ok (.iload_n 3, 1) := by decide +kernel
theorem dX12_put_25 : decode cX12_put 25 = .ok (.invokestatic 106, 3) := by decide +kernel
theorem dX12_put_28 : decode cX12_put 28 = .ok (.goto 8, 3) := by decide +kernel
theorem dX12_put_31 : decode cX12_put 31 = .ok (.iload_n 2, 1) := by decide +kernel
theorem dX12_put_32 : decode cX12_put 32 = .ok (.iload_n 3, 1) := by decide +kernel
theorem dX12_put_33 : decode cX12_put 33 = .ok (.invokestatic 109, 3) := by decide +kernel
theorem dX12_put_36 : decode cX12_put 36 = .ok (.istore 4, 2) := by decide +kernel
theorem dX12_put_38 : decode cX12_put 38 = .ok (.iload 4, 2) := by decide +kernel
theorem dX12_put_40 : decode cX12_put 40 = .ok (.bipush (-9), 2) := by decide +kernel
theorem dX12_put_42 : decode cX12_put 42 = .ok (.if_icmp .ne 6, 3) := by decide +kernel
theorem dX12_put_45 : decode cX12_put 45 = .ok (.bipush (-9), 2) := by decide +kernel
theorem dX12_put_47 : decode cX12_put 47 = .ok (.ireturn, 1) := by decide +kernel
theorem dX12_put_48 : decode cX12_put 48 = .ok (.iload_n 1, 1) := by decide +kernel
theorem dX12_put_49 : decode cX12_put 49 = .ok (.ifCond .ne 23, 3) := by decide +kernel
theorem dX12_put_52 : decode cX12_put 52 = .ok (.aload_n 0, 1) := by decide +kernel
theorem dX12_put_53 : decode cX12_put 53 = .ok (.getfield 31, 3) := by decide +kernel
theorem dX12_put_56 : decode cX12_put 56 = .ok (.iconst 5, 1) := by decide +kernel
theorem dX12_put_57 : decode cX12_put 57 = .ok (.aload_n 0, 1) := by decide +kernel
theorem dX12_put_58 : decode cX12_put 58 = .ok (.getfield 28, 3) := by decide +kernel
theorem dX12_put_61 : decode cX12_put 61 = .ok (.iconst 0, 1) := by decide +kernel
theorem dX12_put_62 : decode cX12_put 62 = .ok (.iaload, 1) := by decide +kernel
theorem dX12_put_63 : decode cX12_put 63 = .ok (.imul, 1) := by decide +kernel
theorem dX12_put_64 : decode cX12_put 64 = .ok (.iload_n 2, 1) := by decide +kernel
theorem dX12_put_65 : decode cX12_put 65 = .ok (.iadd, 1) := by decide +kernel
theorem dX12_put_66 : decode cX12_put 66 = .ok (.iload 4, 2) := by decide +kernel
theorem dX12_put_68 : decode cX12_put 68 = .ok (.iastore, 1) := by decide +kernel
theorem dX12_put_69 : decode cX12_put 69 = .ok (.goto 45, 3) := by decide +kernel
theorem dX12_put_72 : decode cX12_put 72 = .ok (.iload_n 1, 1) := by decide +kernel
theorem dX12_put_73 : decode cX12_put 73 = .ok (.iconst 1, 1) := by decide +kernel
theorem dX12_put_74 : decode cX12_put 74 = .ok (.if_icmp .ne 23, 3) := by decide +kernel
theorem dX12_put_77 : decode cX12_put 77 = .ok (.aload_n 0, 1) := by decide +kernel
theorem dX12_put_78 : decode cX12_put 78 = .ok (.getfield 34, 3) := by decide +kernel
theorem dX12_put_81 : decode cX12_put 81 = .ok (.iconst 3, 1) := by decide +kernel
theorem dX12_put_82 : decode cX12_put 82 = .ok (.aload_n 0, 1) := by decide +kernel
theorem dX12_put_83 : decode cX12_put 83 = .ok (.getfield 28, 3) := by decide +kernel
theorem dX12_put_86 : decode cX12_put 86 = .ok (.iconst 1, 1) := by decide +kernel
theorem dX12_put_87 : decode cX12_put 87 = .ok (.iaload, 1) := by decide +kernel
theorem dX12_put_88 : decode cX12_put 88 = .ok (.imul, 1) := by decide +kernel
theorem dX12_put_89 : decode cX12_put 89 = .ok (.iload_n 2, 1) := by decide +kernel
theorem dX12_put_90 : decode cX12_put 90 = .ok (.iadd, 1) := by decide +kernel
theorem dX12_put_91 : decode cX12_put 91 = .ok (.iload 4, 2) := by decide +kernel
theorem dX12_put_93 : decode cX12_put 93 = .ok (.iastore, 1) := by decide +kernel
theorem dX12_put_94 : decode cX12_put 94 = .ok (.goto 20, 3) := by decide +kernel
theorem dX12_put_97 : decode cX12_put 97 = .ok (.aload_n 0, 1) := by decide +kernel
theorem dX12_put_98 : decode cX12_put 98 = .ok (.getfield 37, 3) := by decide +kernel
theorem dX12_put_101 : decode cX12_put 101 = .ok (.iconst 4, 1) := by decide +kernel
theorem dX12_put_102 : decode cX12_put 102 = .ok (.aload_n 0, 1) := by decide +kernel
theorem dX12_put_103 : decode cX12_put 103 = .ok (.getfield 28, 3) := by decide +kernel
theorem dX12_put_106 : decode cX12_put 106 = .ok (.iconst 2, 1) := by decide +kernel
theorem dX12_put_107 : decode cX12_put 107 = .ok (.iaload, 1) := by decide +kernel
theorem dX12_put_108 : decode cX12_put 108 = .ok (.imul, 1) := by decide +kernel
theorem dX12_put_109 : decode cX12_put 109 = .ok (.iload_n 2, 1) := by decide +kernel
theorem dX12_put_110 : decode cX12_put 110 = .ok (.iadd, 1) := by decide +kernel
theorem dX12_put_111 : decode cX12_put 111 = .ok (.iload 4, 2) := by decide +kernel
theorem dX12_put_113 : decode cX12_put 113 = .ok (.iastore, 1) := by decide +kernel
theorem dX12_put_114 : decode cX12_put 114 = .ok (.aload_n 0, 1) := by decide +kernel
theorem dX12_put_115 : decode cX12_put 115 = .ok (.dup, 1) := by decide +kernel
theorem dX12_put_116 : decode cX12_put 116 = .ok (.getfield 91, 3) := by decide +kernel
theorem dX12_put_119 : decode cX12_put 119 = .ok (.iconst 1, 1) := by decide +kernel
theorem dX12_put_120 : decode cX12_put 120 = .ok (.iadd, 1) := by decide +kernel
theorem dX12_put_121 : decode cX12_put 121 = .ok (.putfield 91, 3) := by decide +kernel
theorem dX12_put_124 : decode cX12_put 124 = .ok (.iload 4, 2) := by decide +kernel
theorem dX12_put_126 : decode cX12_put 126 = .ok (.ireturn, 1) := by decide +kernel
theorem dX12_readsThing_0 : decode cX12_readsThing 0 = .ok (.iload_n 1, 1) := by decide +kernel
theorem dX12_readsThing_1 : decode cX12_readsThing 1 = .ok (.iconst 2, 1) := by decide +kernel
theorem dX12_readsThing_2 : decode cX12_readsThing 2 = .ok (.if_icmp .ge 25, 3) := by decide +kernel
theorem dX12_readsThing_5 : decode cX12_readsThing 5 = .ok (.aload_n 0, 1) := by decide +kernel
theorem dX12_readsThing_6 : decode cX12_readsThing 6 = .ok (.getfield 28, 3) := by decide +kernel
theorem dX12_readsThing_9 : decode cX12_readsThing 9 = .ok (.iload_n 1, 1) := by decide +kernel
theorem dX12_readsThing_10 : decode cX12_readsThing 10 = .ok (.iaload, 1) := by decide +kernel
theorem dX12_readsThing_11 : decode cX12_readsThing 11 = .ok (.iload_n 1, 1) := by decide +kernel
theorem dX12_readsThing_12 : decode cX12_readsThing 12 = .ok (.ifCond .ne 8, 3) := by decide +kernel
theorem dX12_readsThing_15 : decode cX12_readsThing 15 = .ok (.bipush 8, 2) := by decide +kernel
theorem dX12_readsThing_17 : decode cX12_readsThing 17 = .ok (.goto 5, 3) := by decide +kernel
theorem dX12_readsThing_20 : decode cX12_readsThing 20 = .ok (.bipush 6, 2) := by decide +kernel
theorem dX12_readsThing_22 : decode cX12_readsThing 22 = .ok (.if_icmp .ne 5, 3) := by decide +kernel
theorem dX12_readsThing_25 : decode cX12_readsThing 25 = .ok (.iconst 0, 1) := by decide +kernel
theorem dX12_readsThing_26 : decode cX12_readsThing 26 = .ok (.ireturn, 1) := by decide +kernel
theorem dX12_readsThing_27 : decode cX12_readsThing 27 = .ok (.iload_n 1, 1) := by decide +kernel
theorem dX12_readsThing_28 : decode cX12_readsThing 28 = .ok (.ifCond .ne 7, 3) := by decide +kernel
theorem dX12_readsThing_31 : decode cX12_readsThing 31 = .ok (.iconst 5, 1) := by decide +kernel
theorem dX12_readsThing_32 : decode cX12_readsThing 32 = .ok (.goto 4, 3) := by decide +kernel
theorem dX12_readsThing_35 : decode cX12_readsThing 35 = .ok (.iconst 3, 1) := by decide +kernel
theorem dX12_readsThing_36 : decode cX12_readsThing 36 = .ok (.istore_n 2, 1) := by decide +kernel
theorem dX12_readsThing_37 : decode cX12_readsThing 37 = .ok (.iconst 1, 1) := by decide +kernel
theorem dX12_readsThing_38 : decode cX12_readsThing 38 = .ok (.istore_n 3, 1) := by decide +kernel
theorem dX12_readsThing_39 : decode cX12_readsThing 39 = .ok (.iconst 0, 1) := by decide +kernel
theorem dX12_readsThing_40 : decode cX12_readsThing 40 = .ok (.istore 4, 2) := by decide +kernel
theorem dX12_readsThing_42 : decode cX12_readsThing 42 = .ok (.iload 4, 2) := by decide +kernel
theorem dX12_readsThing_44 : decode cX12_readsThing 44 = .ok (.iload_n 2, 1) := by decide +kernel
theorem dX12_readsThing_45 : decode cX12_readsThing 45 = .ok (.if_icmp .ge 31, 3) := by decide +kernel
theorem dX12_readsThing_48 : decode cX12_readsThing 48 = .ok (.iload_n 3, 1) := by decide +kernel
theorem dX12_readsThing_49 : decode cX12_readsThing 49 = .ok (.ifCond .eq 27, 3) := by decide +kernel
theorem dX12_readsThing_52 : decode cX12_readsThing 52 = .ok (.aload_n 0, 1) := by decide +kernel
theorem dX12_readsThing_53 : decode cX12_readsThing 53 = .ok (.iload_n 1, 1) := by decide +kernel
theorem dX12_readsThing_54 : decode cX12_readsThing 54 = .ok (.iload 4, 2) := by decide +kernel
theorem dX12_readsThing_56 : decode cX12_readsThing 56 = .ok (.invokevirtual 112, 3) := by decide +kernel
theorem dX12_readsThing_59 : decode cX12_readsThing 59 = .ok (.bipush (-9), 2) := by decide +kernel
theorem dX12_readsThing_61 : decode cX12_readsThing 61 = .ok (.if_icmp .eq 7, 3) := by decide +kernel
theorem dX12_readsThing_64 : decode cX12_readsThing 64 = .ok (.iconst 1, 1) := by decide +kernel
theorem dX12_readsThing_65 : decode cX12_readsThing 65 = .ok (.goto 4, 3) := by decide +kernel
theorem dX12_readsThing_68 : decode cX12_readsThing 68 = .ok (.iconst 0, 1) := by decide +kernel
theorem dX12_readsThing_69 : decode cX12_readsThing 69 = .ok (.istore_n 3, 1) := by decide +kernel
theorem dX12_readsThing_70 : decode cX12_readsThing 70 = .ok (.iinc 4 1, 3) := by decide +kernel
theorem dX12_readsThing_73 : decode cX12_readsThing 73 = .ok (.goto (-31), 3) := by decide +kernel
theorem dX12_readsThing_76 : decode cX12_readsThing 76 = .ok (.iload_n 3, 1) := by decide +kernel
theorem dX12_readsThing_77 : decode cX12_readsThing 77 = .ok (.ifCond .eq 61, 3) := by decide +kernel
theorem dX12_readsThing_80 : decode cX12_readsThing 80 = .ok (.iload_n 1, 1) := by decide +kernel
theorem dX12_readsThing_81 : decode cX12_readsThing 81 = .ok (.iconst 2, 1) := by decide +kernel
theorem dX12_readsThing_82 : decode cX12_readsThing 82 = .ok (.if_icmp .ne 56, 3) := by decide +kernel
theorem dX12_readsThing_85 : decode cX12_readsThing 85 = .ok (.aload_n 0, 1) := by decide +kernel
theorem dX12_readsThing_86 : decode cX12_readsThing 86 = .ok (.getfield 37, 3) := by decide +kernel
theorem dX12_readsThing_89 : decode cX12_readsThing 89 = .ok (.iconst 4, 1) := by decide +kernel
theorem dX12_readsThing_90 : decode cX12_readsThing 90 = .ok (.aload_n 0, 1) := by decide +kernel
theorem dX12_readsThing_91 : decode cX12_readsThing 91 = .ok (.getfield 28, 3) := by decide +kernel
theorem dX12_readsThing_94 : decode cX12_readsThing 94 = .ok (.iconst 2, 1) := by decide +kernel
theorem dX12_readsThing_95 : decode cX12_readsThing 95 = .ok (.iaload, 1) := by decide +kernel
theorem dX12_readsThing_96 : decode cX12_readsThing 96 = .ok (.imul, 1) := by decide +kernel
theorem dX12_readsThing_97 : decode cX12_readsThing 97 = .ok (.iconst 3, 1) := by decide +kernel
theorem dX12_readsThing_98 : decode cX12_readsThing 98 = .ok (.iadd, 1) := by decide +kernel
theorem dX12_readsThing_99 : decode cX12_readsThing 99 = .ok (.iconst (-1), 1) := by decide +kernel
theorem dX12_readsThing_100 : decode cX12_readsThing 100 = .ok (.iastore, 1) := by decide +kernel
theorem dX12_readsThing_101 : decode cX12_readsThing 101 = .ok (.aload_n 0, 1) := by decide +kernel
theorem dX12_readsThing_102 : decode cX12_readsThing 102 = .ok (.iconst 2, 1) := by decide +kernel
theorem dX12_readsThing_103 : decode cX12_readsThing 103 = .ok (.invokevirtual 100, 3) := by decide +kernel
theorem dX12_readsThing_106 : decode cX12_readsThing 106 = .ok (.bipush 63, 2) := by decide +kernel
theorem dX12_readsThing_108 : decode cX12_readsThing 108 = .ok (.if_icmp .ne 30, 3) := by decide +kernel
theorem dX12_readsThing_111 : decode cX12_readsThing 111 = .ok (.aload_n 0, 1) := by decide +kernel
theorem dX12_readsThing_112 : decode cX12_readsThing 112 = .ok (.dup, 1) := by decide +kernel
theorem dX12_readsThing_113 : decode cX12_readsThing 113 = .ok (.getfield 91, 3) := by decide +kernel
theorem dX12_readsThing_116 : decode cX12_readsThing 116 = .ok (.iconst 1, 1) := by decide +kernel
theorem dX12_readsThing_117 : decode cX12_readsThing 117 = .ok (.iadd, 1) := by decide +kernel
theorem dX12_readsThing_118 : decode cX12_readsThing 118 = .ok (.putfield 91, 3) := by decide +kernel
theorem dX12_readsThing_121 : decode cX12_readsThing 121 = .ok (.aload_n 0, 1) := by decide +kernel
theorem dX12_readsThing_122 : decode cX12_readsThing 122 = .ok (.iconst 2, 1) := by decide +kernel
theorem dX12_readsThing_123 : decode cX12_readsThing 123 = .ok (.iconst 3, 1) := by decide +kernel
theorem dX12_readsThing_124 : decode cX12_readsThing 124 = .ok (.invokevirtual 112, 3) := by decide +kernel
theorem dX12_readsThing_127 : decode cX12_readsThing 127 = .ok (.bipush (-9), 2) := by decide +kernel
theorem dX12_readsThing_129 : decode cX12_readsThing 129 = .ok (.if_icmp .eq 7, 3) := by decide +kernel
theorem dX12_readsThing_132 : decode cX12_readsThing 132 = .ok (.iconst 1, 1) := by decide +kernel
theorem dX12_readsThing_133 : decode cX12_readsThing 133 = .ok (.goto 4, 3) := by decide +kernel
theorem dX12_readsThing_136 : decode cX12_readsThing 136 = .ok (.iconst 0, 1) := by decide +kernel
theorem dX12_readsThing_137 : decode cX12_readsThing 137 = .ok (.istore_n 3, 1) := by decide +kernel
theorem dX12_readsThing_138 : decode cX12_readsThing 138 = .ok (.aload_n 0, 1) := by decide +kernel
theorem dX12_readsThing_139 : decode cX12_readsThing 139 = .ok (.getfield 28, 3) := by decide +kernel
theorem dX12_readsThing_142 : decode cX12_readsThing 142 = .ok (.iload_n 1, 1) := by decide +kernel
theorem dX12_readsThing_143 : decode cX12_readsThing 143 = .ok (.dup2, 1) := by decide +kernel
theorem dX12_readsThing_144 : decode cX12_readsThing 144 = .ok (.iaload, 1) := by decide +kernel
theorem dX12_readsThing_145 : decode cX12_readsThing 145 = .ok (.iload_n 3, 1) := by decide +kernel
theorem dX12_readsThing_146 : decode cX12_readsThing 146 = .ok (.ifCond .eq 7, 3) := by decide +kernel
theorem dX12_readsThing_149 : decode cX12_readsThing 149 = .ok (.iconst 1, 1) := by decide +kernel
theorem dX12_readsThing_150 : decode cX12_readsThing 150 = .ok (.goto 4, 3) := by decide +kernel
theorem dX12_readsThing_153 : decode cX12_readsThing 153 = .ok (.iconst 0, 1) := by decide +kernel
theorem dX12_readsThing_154 : decode cX12_readsThing 154 = .ok (.iadd, 1) := by decide +kernel
theorem dX12_readsThing_155 : decode cX12_readsThing 155 = .ok (.iastore, 1) := by decide +kernel
theorem dX12_readsThing_156 : decode cX12_readsThing 156 = .ok (.iload_n 3, 1) := by decide +kernel
theorem dX12_readsThing_157 : decode cX12_readsThing 157 = .ok (.ireturn, 1) := by decide +kernel
theorem dX12_readsText_0 : decode cX12_readsText 0 = .ok (.aload_n 0, 1) := by decide +kernel
theorem dX12_readsText_1 : decode cX12_readsText 1 = .ok (.iconst 0, 1) := by decide +kernel
theorem dX12_readsText_2 : decode cX12_readsText 2 = .ok (.putfield 91, 3) := by decide +kernel
theorem dX12_readsText_5 : decode cX12_readsText 5 = .ok (.aload_n 0, 1) := by decide +kernel
theorem dX12_readsText_6 : decode cX12_readsText 6 = .ok (.getfield 28, 3) := by decide +kernel
theorem dX12_readsText_9 : decode cX12_readsText 9 = .ok (.iload_n 1, 1) := by decide +kernel
theorem dX12_readsText_10 : decode cX12_readsText 10 = .ok (.iconst 0, 1) := by decide +kernel
theorem dX12_readsText_11 : decode cX12_readsText 11 = .ok (.iastore, 1) := by decide +kernel
theorem dX12_readsText_12 : decode cX12_readsText 12 = .ok (.aload_n 0, 1) := by decide +kernel
theorem dX12_readsText_13 : decode cX12_readsText 13 = .ok (.getfield 25, 3) := by decide +kernel
theorem dX12_readsText_16 : decode cX12_readsText 16 = .ok (.iload_n 1, 1) := by decide +kernel
theorem dX12_readsText_17 : decode cX12_readsText 17 = .ok (.iaload, 1) := by decide +kernel
theorem dX12_readsText_18 : decode cX12_readsText 18 = .ok (.ifCond .le 7, 3) := by decide +kernel
theorem dX12_readsText_21 : decode cX12_readsText 21 = .ok (.iconst 1, 1) := by decide +kernel
theorem dX12_readsText_22 : decode cX12_readsText 22 = .ok (.goto 4, 3) := by decide +kernel
theorem dX12_readsText_25 : decode cX12_readsText 25 = .ok (.iconst 0, 1) := by decide +kernel
theorem dX12_readsText_26 : decode cX12_readsText 26 = .ok (.istore_n 2, 1) := by decide +kernel
theorem dX12_readsText_27 : decode cX12_readsText 27 = .ok (.iload_n 2, 1) := by decide +kernel
theorem dX12_readsText_28 : decode cX12_readsText 28 = .ok (.ifCond .eq 83, 3) := by decide +kernel
theorem dX12_readsText_31 : decode cX12_readsText 31 = .ok (.aload_n 0, 1) := by decide +kernel
theorem dX12_readsText_32 : decode cX12_readsText 32 = .ok (.iload_n 1, 1) := by decide +kernel
theorem dX12_readsText_33 : decode cX12_readsText 33 = .ok (.invokevirtual 115, 3) := by decide +kernel
theorem dX12_readsText_36 : decode cX12_readsText 36 = .ok (.istore_n 3, 1) := by decide +kernel
theorem dX12_readsText_37 : decode cX12_readsText 37 = .ok (.iload_n 3, 1) := by decide +kernel
theorem dX12_readsText_38 : decode cX12_readsText 38 = .ok (.ifCond .eq 20, 3) := by decide +kernel
theorem dX12_readsText_41 : decode cX12_readsText 41 = .ok (.aload_n 0, 1) := by decide +kernel
theorem dX12_readsText_42 : decode cX12_readsText 42 = .ok (.getfield 91, 3) := by decide +kernel
theorem dX12_readsText_45 : decode cX12_readsText 45 = .ok (.aload_n 0, 1) := by decide +kernel
theorem dX12_readsText_46 : decode cX12_readsText 46 = .ok (.getfield 25, 3) := by decide +kernel
theorem dX12_readsText_49 : decode cX12_readsText 49 = .ok (.iload_n 1, 1) := by decide +kernel
theorem dX12_readsText_50 : decode cX12_readsText 50 = .ok (.iaload, 1) := by decide +kernel
theorem dX12_readsText_51 : decode cX12_readsText 51 = .ok (.if_icmp .ge 7, 3) := by decide +kernel
theorem dX12_readsText_54 : decode cX12_readsText 54 = .ok (.iconst 1, 1) := by decide +kernel
theorem dX12_readsText_55 : decode cX12_readsText 55 = .ok (.goto 4, 3) := by decide +kernel
theorem dX12_readsText_58 : decode cX12_readsText 58 = .ok (.iconst 0, 1) := by decide +kernel
theorem dX12_readsText_59 : decode cX12_readsText 59 = .ok (.istore_n 2, 1) := by decide +kernel
theorem dX12_readsText_60 : decode cX12_readsText 60 = .ok (.iload_n 3, 1) := by decide +kernel
theorem dX12_readsText_61 : decode cX12_readsText 61 = .ok (.ifCond .eq 17, 3) := by decide +kernel
theorem dX12_readsText_64 : decode cX12_readsText 64 = .ok (.iload_n 2, 1) := by decide +kernel
theorem dX12_readsText_65 : decode cX12_readsText 65 = .ok (.ifCond .eq 25, 3) := by decide +kernel
theorem dX12_readsText_68 : decode cX12_readsText 68 = .ok (.aload_n 0, 1) := by decide +kernel
theorem dX12_readsText_69 : decode cX12_readsText 69 = .ok (.iload_n 1, 1) := by decide +kernel
theorem dX12_readsText_70 : decode cX12_readsText 70 = .ok (.invokevirtual 100, 3) := by decide +kernel
theorem dX12_readsText_73 : decode cX12_readsText 73 = .ok (.bipush 59, 2) := by decide +kernel
theorem dX12_readsText_75 : decode cX12_readsText 75 = .ok (.if_icmp .eq 15, 3) := by decide +kernel
theorem dX12_readsText_78 : decode cX12_readsText 78 = .ok (.aload_n 0, 1) := by decide +kernel
theorem dX12_readsText_79 : decode cX12_readsText 79 = .ok (.getfield 28, 3) := by decide +kernel
theorem dX12_readsText_82 : decode cX12_readsText 82 = .ok (.iload_n 1, 1) := by decide +kernel
theorem dX12_readsText_83 : decode cX12_readsText 83 = .ok (.iconst 0, 1) := by decide +kernel
theorem dX12_readsText_84 : decode cX12_readsText 84 = .ok (.iastore, 1) := by decide +kernel
theorem dX12_readsText_85 : decode cX12_readsText 85 = .ok (.aload_n 0, 1) := by decide +kernel
theorem dX12_readsText_86 : decode cX12_readsText 86 = .ok (.getfield 91, 3) := by decide +kernel
theorem dX12_readsText_89 : decode cX12_readsText 89 = .ok (.ireturn, 1) := by decide +kernel
theorem dX12_readsText_90 : decode cX12_readsText 90 = .ok (.aload_n 0, 1) := by decide +kernel
theorem dX12_readsText_91 : decode cX12_readsText 91 = .ok (.dup, 1) := by decide +kernel
theorem dX12_readsText_92 : decode cX12_readsText 92 = .ok (.getfield 91, 3) := by decide +kernel
theorem dX12_readsText_95 : decode cX12_readsText 95 = .ok (.iload_n 2, 1) := by decide +kernel
theorem dX12_readsText_96 : decode cX12_readsText 96 = .ok (.ifCond .eq 7, 3) := by decide +kernel
theorem dX12_readsText_99 : decode cX12_readsText 99 = .ok (.iconst 1, 1) := by decide +kernel
theorem dX12_readsText_100 : decode cX12_readsText 100 = .ok (.goto 4, 3) := by decide +kernel
theorem dX12_readsText_103 : decode cX12_readsText 103 = .ok (.iconst 0, 1) := by decide +kernel
theorem dX12_readsText_104 : decode cX12_readsText 104 = .ok (.iadd, 1) := by decide +kernel
theorem dX12_readsText_105 : decode cX12_readsText 105 = .ok (.putfield 91, 3) := by decide +kernel
theorem dX12_readsText_108 : decode cX12_readsText 108 = .ok (.goto (-81), 3) := by decide +kernel
theorem dX12_readsText_111 : decode cX12_readsText 111 = .ok (.iconst (-1), 1) := by decide +kernel
theorem dX12_readsText_112 : decode cX12_readsText 112 = .ok (.ireturn, 1) := by decide +kernel
theorem dX12_reads_0 : decode cX12_reads 0 = .ok (.iconst 0, 1) := by decide +kernel
theorem dX12_reads_1 : decode cX12_reads 1 = .ok (.istore_n 1, 1) := by decide +kernel
theorem dX12_reads_2 : decode cX12_reads 2 = .ok (.iload_n 1, 1) := by decide +kernel
theorem dX12_reads_3 : decode cX12_reads 3 = .ok (.iconst 3, 1) := by decide +kernel
theorem dX12_reads_4 : decode cX12_reads 4 = .ok (.if_icmp .ge 15, 3) := by decide +kernel
theorem dX12_reads_7 : decode cX12_reads 7 = .ok (.aload_n 0, 1) := by decide +kernel
theorem dX12_reads_8 : decode cX12_reads 8 = .ok (.iload_n 1, 1) := by decide +kernel
theorem dX12_reads_9 : decode cX12_reads 9 = .ok (.invokevirtual 118, 3) := by decide +kernel
theorem dX12_reads_12 : decode cX12_reads 12 = .ok (.pop, 1) := by decide +kernel
theorem dX12_reads_13 : decode cX12_reads 13 = .ok (.iinc 1 1, 3) := by decide +kernel
theorem dX12_reads_16 : decode cX12_reads 16 = .ok (.goto (-14), 3) := by decide +kernel
theorem dX12_reads_19 : decode cX12_reads 19 = .ok (.return_, 1) := by decide +kernel
theorem dX12_fault_0 : decode cX12_fault 0 = .ok (.iload_n 1, 1) := by decide +kernel
theorem dX12_fault_1 : decode cX12_fault 1 = .ok (.invokestatic 86, 3) := by decide +kernel
theorem dX12_fault_4 : decode cX12_fault 4 = .ok (.ifCond .eq 11, 3) := by decide +kernel
theorem dX12_fault_7 : decode cX12_fault 7 = .ok (.aload_n 0, 1) := by decide +kernel
theorem dX12_fault_8 : decode cX12_fault 8 = .ok (.iload_n 1, 1) := by decide +kernel
theorem dX12_fault_9 : decode cX12_fault 9 = .ok (.invokevirtual 118, 3) := by decide +kernel
theorem dX12_fault_12 : decode cX12_fault 12 = .ok (.goto 5, 3) := by decide +kernel
theorem dX12_fault_15 : decode cX12_fault 15 = .ok (.bipush (-2), 2) := by decide +kernel
theorem dX12_fault_17 : decode cX12_fault 17 = .ok (.ireturn, 1) := by decide +kernel
theorem dX12_isHabit_0 : decode cX12_isHabit 0 = .ok (.iload_n 1, 1) := by decide +kernel
theorem dX12_isHabit_1 : decode cX12_isHabit 1 = .ok (.i2l, 1) := by decide +kernel
theorem dX12_isHabit_2 : decode cX12_isHabit 2 = .ok (.lconst 0, 1) := by decide +kernel
theorem dX12_isHabit_3 : decode cX12_isHabit 3 = .ok (.aload_n 0, 1) := by decide +kernel
theorem dX12_isHabit_4 : decode cX12_isHabit 4 = .ok (.getfield 28, 3) := by decide +kernel
theorem dX12_isHabit_7 : decode cX12_isHabit 7 = .ok (.iconst 0, 1) := by decide +kernel
theorem dX12_isHabit_8 : decode cX12_isHabit 8 = .ok (.iaload, 1) := by decide +kernel
theorem dX12_isHabit_9 : decode cX12_isHabit 9 = .ok (.iconst 1, 1) := by decide +kernel
theorem dX12_isHabit_10 : decode cX12_isHabit 10 = .ok (.isub, 1) := by decide +kernel
theorem dX12_isHabit_11 : decode cX12_isHabit 11 = .ok (.i2l, 1) := by decide +kernel
theorem dX12_isHabit_12 : decode cX12_isHabit 12 = .ok (.invokestatic 57, 3) := by decide +kernel
theorem dX12_isHabit_15 : decode cX12_isHabit 15 = .ok (.ireturn, 1) := by decide +kernel
theorem dX12_isHeir_0 : decode cX12_isHeir 0 = .ok (.iload_n 1, 1) := by decide +kernel
theorem dX12_isHeir_1 : decode cX12_isHeir 1 = .ok (.i2l, 1) := by decide +kernel
theorem dX12_isHeir_2 : decode cX12_isHeir 2 = .ok (.lconst 0, 1) := by decide +kernel
theorem dX12_isHeir_3 : decode cX12_isHeir 3 = .ok (.aload_n 0, 1) := by decide +kernel
theorem dX12_isHeir_4 : decode cX12_isHeir 4 = .ok (.getfield 28, 3) := by decide +kernel
theorem dX12_isHeir_7 : decode cX12_isHeir 7 = .ok (.iconst 1, 1) := by decide +kernel
theorem dX12_isHeir_8 : decode cX12_isHeir 8 = .ok (.iaload, 1) := by decide +kernel
theorem dX12_isHeir_9 : decode cX12_isHeir 9 = .ok (.iconst 1, 1) := by decide +kernel
theorem dX12_isHeir_10 : decode cX12_isHeir 10 = .ok (.isub, 1) := by decide +kernel
theorem dX12_isHeir_11 : decode cX12_isHeir 11 = .ok (.i2l, 1) := by decide +kernel
theorem dX12_isHeir_12 : decode cX12_isHeir 12 = .ok (.invokestatic 57, 3) := by decide +kernel
theorem dX12_isHeir_15 : decode cX12_isHeir 15 = .ok (.ireturn, 1) := by decide +kernel
theorem dX12_isAnyone_0 : decode cX12_isAnyone 0 = .ok (.iload_n 0, 1) := by decide +kernel
theorem dX12_isAnyone_1 : decode cX12_isAnyone 1 = .ok (.i2l, 1) := by decide +kernel
theorem dX12_isAnyone_2 : decode cX12_isAnyone 2 = .ok (.lconst 0, 1) := by decide +kernel
theorem dX12_isAnyone_3 : decode cX12_isAnyone 3 = .ok (.ldc2_w 121, 3) := by decide +kernel
theorem dX12_isAnyone_6 : decode cX12_isAnyone 6 = .ok (.invokestatic 57, 3) := by decide +kernel
theorem dX12_isAnyone_9 : decode cX12_isAnyone 9 = .ok (.ireturn, 1) := by decide +kernel
theorem dX12_isHour_0 : decode cX12_isHour 0 = .ok (.iload_n 0, 1) := by decide +kernel
theorem dX12_isHour_1 : decode cX12_isHour 1 = .ok (.i2l, 1) := by decide +kernel
theorem dX12_isHour_2 : decode cX12_isHour 2 = .ok (.lconst 0, 1) := by decide +kernel
theorem dX12_isHour_3 : decode cX12_isHour 3 = .ok (.ldc2_w 123, 3) := by decide +kernel
theorem dX12_isHour_6 : decode cX12_isHour 6 = .ok (.invokestatic 57, 3) := by decide +kernel
theorem dX12_isHour_9 : decode cX12_isHour 9 = .ok (.ireturn, 1) := by decide +kernel
theorem dX12_habit_0 : decode cX12_habit 0 = .ok (.aload_n 0, 1) := by decide +kernel
theorem dX12_habit_1 : decode cX12_habit 1 = .ok (.invokevirtual 125, 3) := by decide +kernel
theorem dX12_habit_4 : decode cX12_habit 4 = .ok (.aload_n 0, 1) := by decide +kernel
theorem dX12_habit_5 : decode cX12_habit 5 = .ok (.iload_n 1, 1) := by decide +kernel
theorem dX12_habit_6 : decode cX12_habit 6 = .ok (.invokevirtual 128, 3) := by decide +kernel
theorem dX12_habit_9 : decode cX12_habit 9 = .ok (.ifCond .eq 28, 3) := by decide +kernel
theorem dX12_habit_12 : decode cX12_habit 12 = .ok (.iload_n 2, 1) := by decide +kernel
theorem dX12_habit_13 : decode cX12_habit 13 = .ok (.i2l, 1) := by decide +kernel
theorem dX12_habit_14 : decode cX12_habit 14 = .ok (.lconst 0, 1) := by decide +kernel
theorem dX12_habit_15 : decode cX12_habit 15 = .ok (.ldc2_w 131, 3) := by decide +kernel
theorem dX12_habit_18 : decode cX12_habit 18 = .ok (.invokestatic 57, 3) := by decide +kernel
theorem dX12_habit_21 : decode cX12_habit 21 = .ok (.ifCond .eq 16, 3) := by decide +kernel
theorem dX12_habit_24 : decode cX12_habit 24 = .ok (.aload_n 0, 1) := by decide +kernel
theorem dX12_habit_25 : decode cX12_habit 25 = .ok (.getfield 31, 3) := by decide +kernel
theorem dX12_habit_28 : decode cX12_habit 28 = .ok (.iconst 5, 1) := by decide +kernel
theorem dX12_habit_29 : decode cX12_habit 29 = .ok (.iload_n 1, 1) := by decide +kernel
theorem dX12_habit_30 : decode cX12_habit 30 = .ok (.imul, 1) := by decide +kernel
theorem dX12_habit_31 : decode cX12_habit 31 = .ok (.iload_n 2, 1) := by decide +kernel
theorem dX12_habit_32 : decode cX12_habit 32 = .ok (.iadd, 1) := by decide +kernel
theorem dX12_habit_33 : decode cX12_habit 33 = .ok (.iaload, 1) := by decide +kernel
theorem dX12_habit_34 : decode cX12_habit 34 = .ok (.goto 5, 3) := by decide +kernel
theorem dX12_habit_37 : decode cX12_habit 37 = .ok (.bipush (-2), 2) := by decide +kernel
theorem dX12_habit_39 : decode cX12_habit 39 = .ok (.ireturn, 1) := by decide +kernel
theorem dX12_heir_0 : decode cX12_heir 0 = .ok (.aload_n 0, 1) := by decide +kernel
theorem dX12_heir_1 : decode cX12_heir 1 = .ok (.invokevirtual 125, 3) := by decide +kernel
theorem dX12_heir_4 : decode cX12_heir 4 = .ok (.aload_n 0, 1) := by decide +kernel
theorem dX12_heir_5 : decode cX12_heir 5 = .ok (.iload_n 1, 1) := by decide +kernel
theorem dX12_heir_6 : decode cX12_heir 6 = .ok (.invokevirtual 133, 3) := by decide +kernel
theorem dX12_heir_9 : decode cX12_heir 9 = .ok (.ifCond .eq 28, 3) := by decide +kernel
theorem dX12_heir_12 : decode cX12_heir 12 = .ok (.iload_n 2, 1) := by decide +kernel
theorem dX12_heir_13 : decode cX12_heir 13 = .ok (.i2l, 1) := by decide +kernel
theorem dX12_heir_14 : decode cX12_heir 14 = .ok (.lconst 0, 1) := by decide +kernel
theorem dX12_heir_15 : decode cX12_heir 15 = .ok (.ldc2_w 71, 3) := by decide +kernel
theorem dX12_heir_18 : decode cX12_heir 18 = .ok (.invokestatic 57, 3) := by decide +kernel
theorem dX12_heir_21 : decode cX12_heir 21 = .ok (.ifCond .eq 16, 3) := by decide +kernel
theorem dX12_heir_24 : decode cX12_heir 24 = .ok (.aload_n 0, 1) := by decide +kernel
theorem dX12_heir_25 : decode cX12_heir 25 = .ok (.getfield 34, 3) := by decide +kernel
theorem dX12_heir_28 : decode cX12_heir 28 = .ok (.iconst 3, 1) := by decide +kernel
theorem dX12_heir_29 : decode cX12_heir 29 = .ok (.iload_n 1, 1) := by decide +kernel
theorem dX12_heir_30 : decode cX12_heir 30 = .ok (.imul, 1) := by decide +kernel
theorem dX12_heir_31 : decode cX12_heir 31 = .ok (.iload_n 2, 1) := by decide +kernel
theorem dX12_heir_32 : decode cX12_heir 32 = .ok (.iadd, 1) := by decide +kernel
theorem dX12_heir_33 : decode cX12_heir 33 = .ok (.iaload, 1) := by decide +kernel
theorem dX12_heir_34 : decode cX12_heir 34 = .ok (.goto 5, 3) := by decide +kernel
theorem dX12_heir_37 : decode cX12_heir 37 = .ok (.bipush (-2), 2) := by decide +kernel
theorem dX12_heir_39 : decode cX12_heir 39 = .ok (.ireturn, 1) := by decide +kernel
theorem dX12_clause_0 : decode cX12_clause 0 = .ok (.aload_n 0, 1) := by decide +kernel
theorem dX12_clause_1 : decode cX12_clause 1 = .ok (.invokevirtual 125, 3) := by decide +kernel
theorem dX12_clause_4 : decode cX12_clause 4 = .ok (.iload_n 1, 1) := by decide +kernel
theorem dX12_clause_5 : decode cX12_clause 5 = .ok (.i2l, 1) := by decide +kernel
theorem dX12_clause_6 : decode cX12_clause 6 = .ok (.lconst 0, 1) := by decide +kernel
theorem dX12_clause_7 : decode cX12_clause 7 = .ok (.aload_n 0, 1) := by decide +kernel
theorem dX12_clause_8 : decode cX12_clause 8 = .ok (.getfield 28, 3) := by decide +kernel
theorem dX12_clause_11 : decode cX12_clause 11 = .ok (.iconst 2, 1) := by decide +kernel
theorem dX12_clause_12 : decode cX12_clause 12 = .ok (.iaload, 1) := by decide +kernel
theorem dX12_clause_13 : decode cX12_clause 13 = .ok (.iconst 1, 1) := by decide +kernel
theorem dX12_clause_14 : decode cX12_clause 14 = .ok (.isub, 1) := by decide +kernel
theorem dX12_clause_15 : decode cX12_clause 15 = .ok (.i2l, 1) := by decide +kernel
theorem dX12_clause_16 : decode cX12_clause 16 = .ok (.invokestatic 57, 3) := by decide +kernel
theorem dX12_clause_19 : decode cX12_clause 19 = .ok (.ifCond .eq 28, 3) := by decide +kernel
theorem dX12_clause_22 : decode cX12_clause 22 = .ok (.iload_n 2, 1) := by decide +kernel
theorem dX12_clause_23 : decode cX12_clause 23 = .ok (.i2l, 1) := by decide +kernel
theorem dX12_clause_24 : decode cX12_clause 24 = .ok (.lconst 0, 1) := by decide +kernel
theorem dX12_clause_25 : decode cX12_clause 25 = .ok (.ldc2_w 65, 3) := by decide +kernel
theorem dX12_clause_28 : decode cX12_clause 28 = .ok (.invokestatic 57, 3) := by decide +kernel
theorem dX12_clause_31 : decode cX12_clause 31 = .ok (.ifCond .eq 16, 3) := by decide +kernel
theorem dX12_clause_34 : decode cX12_clause 34 = .ok (.aload_n 0, 1) := by decide +kernel
theorem dX12_clause_35 : decode cX12_clause 35 = .ok (.getfield 37, 3) := by decide +kernel
theorem dX12_clause_38 : decode cX12_clause 38 = .ok (.iconst 4, 1) := by decide +kernel
theorem dX12_clause_39 : decode cX12_clause 39 = .ok (.iload_n 1, 1) := by decide +kernel
theorem dX12_clause_40 : decode cX12_clause 40 = .ok (.imul, 1) := by decide +kernel
theorem dX12_clause_41 : decode cX12_clause 41 = .ok (.iload_n 2, 1) := by decide +kernel
theorem dX12_clause_42 : decode cX12_clause 42 = .ok (.iadd, 1) := by decide +kernel
theorem dX12_clause_43 : decode cX12_clause 43 = .ok (.iaload, 1) := by decide +kernel
theorem dX12_clause_44 : decode cX12_clause 44 = .ok (.goto 5, 3) := by decide +kernel
theorem dX12_clause_47 : decode cX12_clause 47 = .ok (.bipush (-2), 2) := by decide +kernel
theorem dX12_clause_49 : decode cX12_clause 49 = .ok (.ireturn, 1) := by decide +kernel
theorem dX12_refuse_0 : decode cX12_refuse 0 = .ok (.iload_n 1, 1) := by decide +kernel
theorem dX12_refuse_1 : decode cX12_refuse 1 = .ok (.invokestatic 136, 3) := by decide +kernel
theorem dX12_refuse_4 : decode cX12_refuse 4 = .ok (.ifCond .eq 15, 3) := by decide +kernel
theorem dX12_refuse_7 : decode cX12_refuse 7 = .ok (.iload_n 2, 1) := by decide +kernel
theorem dX12_refuse_8 : decode cX12_refuse 8 = .ok (.i2l, 1) := by decide +kernel
theorem dX12_refuse_9 : decode cX12_refuse 9 = .ok (.lconst 0, 1) := by decide +kernel
theorem dX12_refuse_10 : decode cX12_refuse 10 = .ok (.ldc2_w 139, 3) := by decide +kernel
theorem dX12_refuse_13 : decode cX12_refuse 13 = .ok (.invokestatic 57, 3) := by decide +kernel
theorem dX12_refuse_16 : decode cX12_refuse 16 = .ok (.ifCond .ne 6, 3) := by decide +kernel
theorem dX12_refuse_19 : decode cX12_refuse 19 = .ok (.bipush (-2), 2) := by decide +kernel
theorem dX12_refuse_21 : decode cX12_refuse 21 = .ok (.ireturn, 1) := by decide +kernel
theorem dX12_refuse_22 : decode cX12_refuse 22 = .ok (.aload_n 0, 1) := by decide +kernel
theorem dX12_refuse_23 : decode cX12_refuse 23 = .ok (.getfield 141, 3) := by decide +kernel
theorem dX12_refuse_26 : decode cX12_refuse 26 = .ok (.bipush 12, 2) := by decide +kernel
theorem dX12_refuse_28 : decode cX12_refuse 28 = .ok (.if_icmp .ne 6, 3) := by decide +kernel
theorem dX12_refuse_31 : decode cX12_refuse 31 = .ok (.bipush (-4), 2) := by decide +kernel
theorem dX12_refuse_33 : decode cX12_refuse 33 = .ok (.ireturn, 1) := by decide +kernel
theorem dX12_refuse_34 : decode cX12_refuse 34 = .ok (.aload_n 0, 1) := by decide +kernel
theorem dX12_refuse_35 : decode cX12_refuse 35 = .ok (.getfield 40, 3) := by decide +kernel
theorem dX12_refuse_38 : decode cX12_refuse 38 = .ok (.iconst 2, 1) := by decide +kernel
theorem dX12_refuse_39 : decode cX12_refuse 39 = .ok (.aload_n 0, 1) := by decide +kernel
theorem dX12_refuse_40 : decode cX12_refuse 40 = .ok (.getfield 141, 3) := by decide +kernel
theorem dX12_refuse_43 : decode cX12_refuse 43 = .ok (.imul, 1) := by decide +kernel
theorem dX12_refuse_44 : decode cX12_refuse 44 = .ok (.iload_n 1, 1) := by decide +kernel
theorem dX12_refuse_45 : decode cX12_refuse 45 = .ok (.iastore, 1) := by decide +kernel
theorem dX12_refuse_46 : decode cX12_refuse 46 = .ok (.aload_n 0, 1) := by decide +kernel
theorem dX12_refuse_47 : decode cX12_refuse 47 = .ok (.getfield 40, 3) := by decide +kernel
theorem dX12_refuse_50 : decode cX12_refuse 50 = .ok (.iconst 2, 1) := by decide +kernel
theorem dX12_refuse_51 : decode cX12_refuse 51 = .ok (.aload_n 0, 1) := by decide +kernel
theorem dX12_refuse_52 : decode cX12_refuse 52 = .ok (.getfield 141, 3) := by decide +kernel
theorem dX12_refuse_55 : decode cX12_refuse 55 = .ok (.imul, 1) := by decide +kernel
theorem dX12_refuse_56 : decode cX12_refuse 56 = .ok (.iconst 1, 1) := by decide +kernel
theorem dX12_refuse_57 : decode cX12_refuse 57 = .ok (.iadd, 1) := by decide +kernel
theorem dX12_refuse_58 : decode cX12_refuse 58 = .ok (.iload_n 2, 1) := by decide +kernel
theorem dX12_refuse_59 : decode cX12_refuse 59 = .ok (.iastore, 1) := by decide +kernel
theorem dX12_refuse_60 : decode cX12_refuse 60 = .ok (.aload_n 0, 1) := by decide +kernel
theorem dX12_refuse_61 : decode cX12_refuse 61 = .ok (.dup, 1) := by decide +kernel
theorem dX12_refuse_62 : decode cX12_refuse 62 = .ok (.getfield 141, 3) := by decide +kernel
theorem dX12_refuse_65 : decode cX12_refuse 65 = .ok (.iconst 1, 1) := by decide +kernel
theorem dX12_refuse_66 : decode cX12_refuse 66 = .ok (.iadd, 1) := by decide +kernel
theorem dX12_refuse_67 : decode cX12_refuse 67 = .ok (.putfield 141, 3) := by decide +kernel
theorem dX12_refuse_70 : decode cX12_refuse 70 = .ok (.aload_n 0, 1) := by decide +kernel
theorem dX12_refuse_71 : decode cX12_refuse 71 = .ok (.getfield 141, 3) := by decide +kernel
theorem dX12_refuse_74 : decode cX12_refuse 74 = .ok (.ireturn, 1) := by decide +kernel
theorem dX12_back_0 : decode cX12_back 0 = .ok (.aload_n 0, 1) := by decide +kernel
theorem dX12_back_1 : decode cX12_back 1 = .ok (.getfield 141, 3) := by decide +kernel
theorem dX12_back_4 : decode cX12_back 4 = .ok (.ifCond .ne 6, 3) := by decide +kernel
theorem dX12_back_7 : decode cX12_back 7 = .ok (.bipush (-3), 2) := by decide +kernel
theorem dX12_back_9 : decode cX12_back 9 = .ok (.ireturn, 1) := by decide +kernel
theorem dX12_back_10 : decode cX12_back 10 = .ok (.aload_n 0, 1) := by decide +kernel
theorem dX12_back_11 : decode cX12_back 11 = .ok (.dup, 1) := by decide +kernel
theorem dX12_back_12 : decode cX12_back 12 = .ok (.getfield 141, 3) := by decide +kernel
theorem dX12_back_15 : decode cX12_back 15 = .ok (.iconst 1, 1) := by decide +kernel
theorem dX12_back_16 : decode cX12_back 16 = .ok (.isub, 1) := by decide +kernel
theorem dX12_back_17 : decode cX12_back 17 = .ok (.putfield 141, 3) := by decide +kernel
theorem dX12_back_20 : decode cX12_back 20 = .ok (.aload_n 0, 1) := by decide +kernel
theorem dX12_back_21 : decode cX12_back 21 = .ok (.getfield 141, 3) := by decide +kernel
theorem dX12_back_24 : decode cX12_back 24 = .ok (.ireturn, 1) := by decide +kernel
theorem dX12_value_0 : decode cX12_value 0 = .ok (.iload_n 1, 1) := by decide +kernel
theorem dX12_value_1 : decode cX12_value 1 = .ok (.invokestatic 136, 3) := by decide +kernel
theorem dX12_value_4 : decode cX12_value 4 = .ok (.ifCond .eq 27, 3) := by decide +kernel
theorem dX12_value_7 : decode cX12_value 7 = .ok (.iload_n 2, 1) := by decide +kernel
theorem dX12_value_8 : decode cX12_value 8 = .ok (.i2l, 1) := by decide +kernel
theorem dX12_value_9 : decode cX12_value 9 = .ok (.lconst 0, 1) := by decide +kernel
theorem dX12_value_10 : decode cX12_value 10 = .ok (.ldc2_w 144, 3) := by decide +kernel
theorem dX12_value_13 : decode cX12_value 13 = .ok (.invokestatic 57, 3) := by decide +kernel
theorem dX12_value_16 : decode cX12_value 16 = .ok (.ifCond .eq 15, 3) := by decide +kernel
theorem dX12_value_19 : decode cX12_value 19 = .ok (.iload_n 3, 1) := by decide +kernel
theorem dX12_value_20 : decode cX12_value 20 = .ok (.i2l, 1) := by decide +kernel
theorem dX12_value_21 : decode cX12_value 21 = .ok (.lconst 0, 1) := by decide +kernel
theorem dX12_value_22 : decode cX12_value 22 = .ok (.ldc2_w 146, 3) := by decide +kernel
theorem dX12_value_25 : decode cX12_value 25 = .ok (.invokestatic 57, 3) := by decide +kernel
theorem dX12_value_28 : decode cX12_value 28 = .ok (.ifCond .ne 6, 3) := by decide +kernel
theorem dX12_value_31 : decode cX12_value 31 = .ok (.bipush (-2), 2) := by decide +kernel
theorem dX12_value_33 : decode cX12_value 33 = .ok (.ireturn, 1) := by decide +kernel
theorem dX12_value_34 : decode cX12_value 34 = .ok (.aload_n 0, 1) := by decide +kernel
theorem dX12_value_35 : decode cX12_value 35 = .ok (.getfield 43, 3) := by decide +kernel
theorem dX12_value_38 : decode cX12_value 38 = .ok (.bipush 7, 2) := by decide +kernel
theorem dX12_value_40 : decode cX12_value 40 = .ok (.iload_n 1, 1) := by decide +kernel
theorem dX12_value_41 : decode cX12_value 41 = .ok (.imul, 1) := by decide +kernel
theorem dX12_value_42 : decode cX12_value 42 = .ok (.iload_n 2, 1) := by decide +kernel
theorem dX12_value_43 : decode cX12_value 43 = .ok (.iadd, 1) := by decide +kernel
theorem dX12_value_44 : decode cX12_value 44 = .ok (.iaload, 1) := by decide +kernel
theorem dX12_value_45 : decode cX12_value 45 = .ok (.istore 4, 2) := by decide +kernel
theorem dX12_value_47 : decode cX12_value 47 = .ok (.aload_n 0, 1) := by decide +kernel
theorem dX12_value_48 : decode cX12_value 48 = .ok (.getfield 43, 3) := by decide +kernel
theorem dX12_value_51 : decode cX12_value 51 = .ok (.bipush 7, 2) := by decide +kernel
theorem dX12_value_53 : decode cX12_value 53 = .ok (.iload_n 1, 1) := by decide +kernel
theorem dX12_value_54 : decode cX12_value 54 = .ok (.imul, 1) := by decide +kernel
theorem dX12_value_55 : decode cX12_value 55 = .ok (.iload_n 2, 1) := by decide +kernel
theorem dX12_value_56 : decode cX12_value 56 = .ok (.iadd, 1) := by decide +kernel
theorem dX12_value_57 : decode cX12_value 57 = .ok (.iload_n 3, 1) := by decide +kernel
theorem dX12_value_58 : decode cX12_value 58 = .ok (.iastore, 1) := by decide +kernel
theorem dX12_value_59 : decode cX12_value 59 = .ok (.iload 4, 2) := by decide +kernel
theorem dX12_value_61 : decode cX12_value 61 = .ok (.ireturn, 1) := by decide +kernel
theorem dX12_refuses_0 : decode cX12_refuses 0 = .ok (.iload_n 1, 1) := by decide +kernel
theorem dX12_refuses_1 : decode cX12_refuses 1 = .ok (.aload_n 0, 1) := by decide +kernel
theorem dX12_refuses_2 : decode cX12_refuses 2 = .ok (.getfield 148, 3) := by decide +kernel
theorem dX12_refuses_5 : decode cX12_refuses 5 = .ok (.if_icmp .ne 18, 3) := by decide +kernel
theorem dX12_refuses_8 : decode cX12_refuses 8 = .ok (.aload_n 0, 1) := by decide +kernel
theorem dX12_refuses_9 : decode cX12_refuses 9 = .ok (.getfield 151, 3) := by decide +kernel
theorem dX12_refuses_12 : decode cX12_refuses 12 = .ok (.iload_n 2, 1) := by decide +kernel
theorem dX12_refuses_13 : decode cX12_refuses 13 = .ok (.invokestatic 154, 3) := by decide +kernel
theorem dX12_refuses_16 : decode cX12_refuses 16 = .ok (.ifCond .eq 7, 3) := by decide +kernel
theorem dX12_refuses_19 : decode cX12_refuses 19 = .ok (.iconst 1, 1) := by decide +kernel
theorem dX12_refuses_20 : decode cX12_refuses 20 = .ok (.goto 4, 3) := by decide +kernel
theorem dX12_refuses_23 : decode cX12_refuses 23 = .ok (.iconst 0, 1) := by decide +kernel
theorem dX12_refuses_24 : decode cX12_refuses 24 = .ok (.istore_n 3, 1) := by decide +kernel
theorem dX12_refuses_25 : decode cX12_refuses 25 = .ok (.iconst 0, 1) := by decide +kernel
theorem dX12_refuses_26 : decode cX12_refuses 26 = .ok (.istore 4, 2) := by decide +kernel
theorem dX12_refuses_28 : decode cX12_refuses 28 = .ok (.iload 4, 2) := by decide +kernel
theorem dX12_refuses_30 : decode cX12_refuses 30 = .ok (.aload_n 0, 1) := by decide +kernel
theorem dX12_refuses_31 : decode cX12_refuses 31 = .ok (.getfield 141, 3) := by decide +kernel
theorem dX12_refuses_34 : decode cX12_refuses 34 = .ok (.if_icmp .ge 47, 3) := by decide +kernel
theorem dX12_refuses_37 : decode cX12_refuses 37 = .ok (.iload_n 3, 1) := by decide +kernel
theorem dX12_refuses_38 : decode cX12_refuses 38 = .ok (.ifCond .ne 31, 3) := by decide +kernel
theorem dX12_refuses_41 : decode cX12_refuses 41 = .ok (.aload_n 0, 1) := by decide +kernel
theorem dX12_refuses_42 : decode cX12_refuses 42 = .ok (.getfield 40, 3) := by decide +kernel
theorem dX12_refuses_45 : decode cX12_refuses 45 = .ok (.iconst 2, 1) := by decide +kernel
theorem dX12_refuses_46 : decode cX12_refuses 46 = .ok (.iload 4, 2) := by decide +kernel
theorem dX12_refuses_48 : decode cX12_refuses 48 = .ok (.imul, 1) := by decide +kernel
theorem dX12_refuses_49 : decode cX12_refuses 49 = .ok (.iaload, 1) := by decide +kernel
theorem dX12_refuses_50 : decode cX12_refuses 50 = .ok (.iload_n 1, 1) := by decide +kernel
theorem dX12_refuses_51 : decode cX12_refuses 51 = .ok (.if_icmp .ne 22, 3) := by decide +kernel
theorem dX12_refuses_54 : decode cX12_refuses 54 = .ok (.aload_n 0, 1) := by decide +kernel
theorem dX12_refuses_55 : decode cX12_refuses 55 = .ok (.getfield 40, 3) := by decide +kernel
theorem dX12_refuses_58 : decode cX12_refuses 58 = .ok (.iconst 2, 1) := by decide +kernel
theorem dX12_refuses_59 : decode cX12_refuses 59 = .ok (.iload 4, 2) := by decide +kernel
theorem dX12_refuses_61 : decode cX12_refuses 61 = .ok (.imul, 1) := by decide +kernel
theorem dX12_refuses_62 : decode cX12_refuses 62 = .ok (.iconst 1, 1) := by decide +kernel
theorem dX12_refuses_63 : decode cX12_refuses 63 = .ok (.iadd, 1) := by decide +kernel
theorem dX12_refuses_64 : decode cX12_refuses 64 = .ok (.iaload, 1) := by decide +kernel
theorem dX12_refuses_65 : decode cX12_refuses 65 = .ok (.iload_n 2, 1) := by decide +kernel
theorem dX12_refuses_66 : decode cX12_refuses 66 = .ok (.if_icmp .ne 7, 3) := by decide +kernel
theorem dX12_refuses_69 : decode cX12_refuses 69 = .ok (.iconst 1, 1) := by decide +kernel
theorem dX12_refuses_70 : decode cX12_refuses 70 = .ok (.goto 4, 3) := by decide +kernel
theorem dX12_refuses_73 : decode cX12_refuses 73 = .ok (.iconst 0, 1) := by decide +kernel
theorem dX12_refuses_74 : decode cX12_refuses 74 = .ok (.istore_n 3, 1) := by decide +kernel
theorem dX12_refuses_75 : decode cX12_refuses 75 = .ok (.iinc 4 1, 3) := by decide +kernel
theorem dX12_refuses_78 : decode cX12_refuses 78 = .ok (.goto (-50), 3) := by decide +kernel
theorem dX12_refuses_81 : decode cX12_refuses 81 = .ok (.iload_n 3, 1) := by decide +kernel
theorem dX12_refuses_82 : decode cX12_refuses 82 = .ok (.ireturn, 1) := by decide +kernel
theorem dX12_comes_0 : decode cX12_comes 0 = .ok (.aload_n 0, 1) := by decide +kernel
theorem dX12_comes_1 : decode cX12_comes 1 = .ok (.getfield 46, 3) := by decide +kernel
theorem dX12_comes_4 : decode cX12_comes 4 = .ok (.iload_n 1, 1) := by decide +kernel
theorem dX12_comes_5 : decode cX12_comes 5 = .ok (.iaload, 1) := by decide +kernel
theorem dX12_comes_6 : decode cX12_comes 6 = .ok (.istore 4, 2) := by decide +kernel
theorem dX12_comes_8 : decode cX12_comes 8 = .ok (.iload_n 2, 1) := by decide +kernel
theorem dX12_comes_9 : decode cX12_comes 9 = .ok (.iconst 1, 1) := by decide +kernel
theorem dX12_comes_10 : decode cX12_comes 10 = .ok (.if_icmp .ne 27, 3) := by decide +kernel
theorem dX12_comes_13 : decode cX12_comes 13 = .ok (.aload_n 0, 1) := by decide +kernel
theorem dX12_comes_14 : decode cX12_comes 14 = .ok (.getfield 46, 3) := by decide +kernel
theorem dX12_comes_17 : decode cX12_comes 17 = .ok (.iload_n 1, 1) := by decide +kernel
theorem dX12_comes_18 : decode cX12_comes 18 = .ok (.aload_n 0, 1) := by decide +kernel
theorem dX12_comes_19 : decode cX12_comes 19 = .ok (.iload_n 3, 1) := by decide +kernel
theorem dX12_comes_20 : decode cX12_comes 20 = .ok (.iload_n 1, 1) := by decide +kernel
theorem dX12_comes_21 : decode cX12_comes 21 = .ok (.invokevirtual 158, 3) := by decide +kernel
theorem dX12_comes_24 : decode cX12_comes 24 = .ok (.ifCond .eq 8, 3) := by decide +kernel
theorem dX12_comes_27 : decode cX12_comes 27 = .ok (.iload 4, 2) := by decide +kernel
theorem dX12_comes_29 : decode cX12_comes 29 = .ok (.goto 4, 3) := by decide +kernel
theorem dX12_comes_32 : decode cX12_comes 32 = .ok (.iload_n 3, 1) := by decide +kernel
theorem dX12_comes_33 : decode cX12_comes 33 = .ok (.iastore, 1) := by decide +kernel
theorem dX12_comes_34 : decode cX12_comes 34 = .ok (.goto 21, 3) := by decide +kernel
theorem dX12_comes_37 : decode cX12_comes 37 = .ok (.aload_n 0, 1) := by decide +kernel
theorem dX12_comes_38 : decode cX12_comes 38 = .ok (.getfield 46, 3) := by decide +kernel
theorem dX12_comes_41 : decode cX12_comes 41 = .ok (.iload_n 1, 1) := by decide +kernel
theorem dX12_comes_42 : decode cX12_comes 42 = .ok (.iload 4, 2) := by decide +kernel
theorem dX12_comes_44 : decode cX12_comes 44 = .ok (.iload_n 3, 1) := by decide +kernel
theorem dX12_comes_45 : decode cX12_comes 45 = .ok (.if_icmp .ne 7, 3) := by decide +kernel
theorem dX12_comes_48 : decode cX12_comes 48 = .ok (.iconst (-1), 1) := by decide +kernel
theorem dX12_comes_49 : decode cX12_comes 49 = .ok (.goto 5, 3) := by decide +kernel
theorem dX12_comes_52 : decode cX12_comes 52 = .ok (.iload 4, 2) := by decide +kernel
theorem dX12_comes_54 : decode cX12_comes 54 = .ok (.iastore, 1) := by decide +kernel
theorem dX12_comes_55 : decode cX12_comes 55 = .ok (.aload_n 0, 1) := by decide +kernel
theorem dX12_comes_56 : decode cX12_comes 56 = .ok (.getfield 46, 3) := by decide +kernel
theorem dX12_comes_59 : decode cX12_comes 59 = .ok (.iload_n 1, 1) := by decide +kernel
theorem dX12_comes_60 : decode cX12_comes 60 = .ok (.iaload, 1) := by decide +kernel
theorem dX12_comes_61 : decode cX12_comes 61 = .ok (.iload 4, 2) := by decide +kernel
theorem dX12_comes_63 : decode cX12_comes 63 = .ok (.if_icmp .eq 7, 3) := by decide +kernel
theorem dX12_comes_66 : decode cX12_comes 66 = .ok (.iconst 1, 1) := by decide +kernel
theorem dX12_comes_67 : decode cX12_comes 67 = .ok (.goto 4, 3) := by decide +kernel
theorem dX12_comes_70 : decode cX12_comes 70 = .ok (.iconst 0, 1) := by decide +kernel
theorem dX12_comes_71 : decode cX12_comes 71 = .ok (.ireturn, 1) := by decide +kernel
theorem dX12_readsWill_0 : decode cX12_readsWill 0 = .ok (.iconst 0, 1) := by decide +kernel
theorem dX12_readsWill_1 : decode cX12_readsWill 1 = .ok (.istore_n 1, 1) := by decide +kernel
theorem dX12_readsWill_2 : decode cX12_readsWill 2 = .ok (.iload_n 1, 1) := by decide +kernel
theorem dX12_readsWill_3 : decode cX12_readsWill 3 = .ok (.bipush 8, 2) := by decide +kernel
theorem dX12_readsWill_5 : decode cX12_readsWill 5 = .ok (.if_icmp .ge 16, 3) := by decide +kernel
theorem dX12_readsWill_8 : decode cX12_readsWill 8 = .ok (.aload_n 0, 1) := by decide +kernel
theorem dX12_readsWill_9 : decode cX12_readsWill 9 = .ok (.getfield 46, 3) := by decide +kernel
theorem dX12_readsWill_12 : decode cX12_readsWill 12 = .ok (.iload_n 1, 1) := by decide +kernel
theorem dX12_readsWill_13 : decode cX12_readsWill 13 = .ok (.iconst (-1), 1) := by decide +kernel
theorem dX12_readsWill_14 : decode cX12_readsWill 14 = .ok (.iastore, 1) := by decide +kernel
theorem dX12_readsWill_15 : decode cX12_readsWill 15 = .ok (.iinc 1 1, 3) := by decide +kernel
theorem dX12_readsWill_18 : decode cX12_readsWill 18 = .ok (.goto (-16), 3) := by decide +kernel
theorem dX12_readsWill_21 : decode cX12_readsWill 21 = .ok (.aload_n 0, 1) := by decide +kernel
theorem dX12_readsWill_22 : decode cX12_readsWill 22 = .ok (.iconst 0, 1) := by decide +kernel
theorem dX12_readsWill_23 : decode cX12_readsWill 23 = .ok (.putfield 161, 3) := by decide +kernel
theorem dX12_readsWill_26 : decode cX12_readsWill 26 = .ok (.iconst 0, 1) := by decide +kernel
theorem dX12_readsWill_27 : decode cX12_readsWill 27 = .ok (.istore_n 1, 1) := by decide +kernel
theorem dX12_readsWill_28 : decode cX12_readsWill 28 = .ok (.iload_n 1, 1) := by decide +kernel
theorem dX12_readsWill_29 : decode cX12_readsWill 29 = .ok (.aload_n 0, 1) := by decide +kernel
theorem dX12_readsWill_30 : decode cX12_readsWill 30 = .ok (.getfield 28, 3) := by decide +kernel
theorem dX12_readsWill_33 : decode cX12_readsWill 33 = .ok (.iconst 2, 1) := by decide +kernel
theorem dX12_readsWill_34 : decode cX12_readsWill 34 = .ok (.iaload, 1) := by decide +kernel
theorem dX12_readsWill_35 : decode cX12_readsWill 35 = .ok (.if_icmp .ge 121, 3) := by decide +kernel
theorem dX12_readsWill_38 : decode cX12_readsWill 38 = .ok (.aload_n 0, 1) := by decide +kernel
theorem dX12_readsWill_39 : decode cX12_readsWill 39 = .ok (.getfield 37, 3) := by decide +kernel
theorem dX12_readsWill_42 : decode cX12_readsWill 42 = .ok (.iconst 4, 1) := by decide +kernel
theorem dX12_readsWill_43 : decode cX12_readsWill 43 = .ok (.iload_n 1, 1) := by decide +kernel
theorem dX12_readsWill_44 : decode cX12_readsWill 44 = .ok (.imul, 1) := by decide +kernel
theorem dX12_readsWill_45 : decode cX12_readsWill 45 = .ok (.iaload, 1) := by decide +kernel
theorem dX12_readsWill_46 : decode cX12_readsWill 46 = .ok (.istore_n 2, 1) := by decide +kernel
theorem dX12_readsWill_47 : decode cX12_readsWill 47 = .ok (.aload_n 0, 1) := by decide +kernel
theorem dX12_readsWill_48 : decode cX12_readsWill 48 = .ok (.getfield 37, 3) := by decide +kernel
theorem dX12_readsWill_51 : decode cX12_readsWill 51 = .ok (.iconst 4, 1) := by decide +kernel
theorem dX12_readsWill_52 : decode cX12_readsWill 52 = .ok (.iload_n 1, 1) := by decide +kernel
theorem dX12_readsWill_53 : decode cX12_readsWill 53 = .ok (.imul, 1) := by decide +kernel
theorem dX12_readsWill_54 : decode cX12_readsWill 54 = .ok (.iconst 2, 1) := by decide +kernel
theorem dX12_readsWill_55 : decode cX12_readsWill 55 = .ok (.iadd, 1) := by decide +kernel
theorem dX12_readsWill_56 : decode cX12_readsWill 56 = .ok (.iaload, 1) := by decide +kernel
theorem dX12_readsWill_57 : decode cX12_readsWill 57 = .ok (.istore_n 3, 1) := by decide +kernel
theorem dX12_readsWill_58 : decode cX12_readsWill 58 = .ok (.aload_n 0, 1) := by decide +kernel
theorem dX12_readsWill_59 : decode cX12_readsWill 59 = .ok (.getfield 37, 3) := by decide +kernel
theorem dX12_readsWill_62 : decode cX12_readsWill 62 = .ok (.iconst 4, 1) := by decide +kernel
theorem dX12_readsWill_63 : decode cX12_readsWill 63 = .ok (.iload_n 1, 1) := by decide +kernel
theorem dX12_readsWill_64 : decode cX12_readsWill 64 = .ok (.imul, 1) := by decide +kernel
theorem dX12_readsWill_65 : decode cX12_readsWill 65 = .ok (.iconst 3, 1) := by decide +kernel
theorem dX12_readsWill_66 : decode cX12_readsWill 66 = .ok (.iadd, 1) := by decide +kernel
theorem dX12_readsWill_67 : decode cX12_readsWill 67 = .ok (.iaload, 1) := by decide +kernel
theorem dX12_readsWill_68 : decode cX12_readsWill 68 = .ok (.istore 4, 2) := by decide +kernel
theorem dX12_readsWill_70 : decode cX12_readsWill 70 = .ok (.aload_n 0, 1) := by decide +kernel
theorem dX12_readsWill_71 : decode cX12_readsWill 71 = .ok (.iload_n 2, 1) := by decide +kernel
theorem dX12_readsWill_72 : decode cX12_readsWill 72 = .ok (.invokevirtual 128, 3) := by decide +kernel
theorem dX12_readsWill_75 : decode cX12_readsWill 75 = .ok (.ifCond .eq 32, 3) := by decide +kernel
theorem dX12_readsWill_78 : decode cX12_readsWill 78 = .ok (.aload_n 0, 1) := by decide +kernel
theorem dX12_readsWill_79 : decode cX12_readsWill 79 = .ok (.iload_n 3, 1) := by decide +kernel
theorem dX12_readsWill_80 : decode cX12_readsWill 80 = .ok (.invokevirtual 133, 3) := by decide +kernel
theorem dX12_readsWill_83 : decode cX12_readsWill 83 = .ok (.ifCond .eq 24, 3) := by decide +kernel
theorem dX12_readsWill_86 : decode cX12_readsWill 86 = .ok (.iload 4, 2) := by decide +kernel
theorem dX12_readsWill_88 : decode cX12_readsWill 88 = .ok (.iconst (-1), 1) := by decide +kernel
theorem dX12_readsWill_89 : decode cX12_readsWill 89 = .ok (.if_icmp .eq 14, 3) := by decide +kernel
theorem dX12_readsWill_92 : decode cX12_readsWill 92 = .ok (.aload_n 0, 1) := by decide +kernel
theorem dX12_readsWill_93 : decode cX12_readsWill 93 = .ok (.getfield 46, 3) := by decide +kernel
theorem dX12_readsWill_96 : decode cX12_readsWill 96 = .ok (.iload 4, 2) := by decide +kernel
theorem dX12_readsWill_98 : decode cX12_readsWill 98 = .ok (.iaload, 1) := by decide +kernel
theorem dX12_readsWill_99 : decode cX12_readsWill 99 = .ok (.iconst (-1), 1) := by decide +kernel
theorem dX12_readsWill_100 : decode cX12_readsWill 100 = .ok (.if_icmp .eq 7, 3) := by decide +kernel
theorem dX12_readsWill_103 : decode cX12_readsWill 103 = .ok (.iconst 1, 1) := by decide +kernel
theorem dX12_readsWill_104 : decode cX12_readsWill 104 = .ok (.goto 4, 3) := by decide +kernel
theorem dX12_readsWill_107 : decode cX12_readsWill 107 = .ok (.iconst 0, 1) := by decide +kernel
theorem dX12_readsWill_108 : decode cX12_readsWill 108 = .ok (.istore 5, 2) := by decide +kernel
theorem dX12_readsWill_110 : decode cX12_readsWill 110 = .ok (.aload_n 0, 1) := by decide +kernel
theorem dX12_readsWill_111 : decode cX12_readsWill 111 = .ok (.dup, 1) := by decide +kernel
theorem dX12_readsWill_112 : decode cX12_readsWill 112 = .ok (.getfield 161, 3) := by decide +kernel
theorem dX12_readsWill_115 : decode cX12_readsWill 115 = .ok (.iload 5, 2) := by decide +kernel
theorem dX12_readsWill_117 : decode cX12_readsWill 117 = .ok (.ifCond .eq 28, 3) := by decide +kernel
theorem dX12_readsWill_120 : decode cX12_readsWill 120 = .ok (.aload_n 0, 1) := by decide +kernel
theorem dX12_readsWill_121 : decode cX12_readsWill 121 = .ok (.iload_n 2, 1) := by decide +kernel
theorem dX12_readsWill_122 : decode cX12_readsWill 122 = .ok (.aload_n 0, 1) := by decide +kernel
theorem dX12_readsWill_123 : decode cX12_readsWill 123 = .ok (.getfield 37, 3) := by decide +kernel
theorem dX12_readsWill_126 : decode cX12_readsWill 126 = .ok (.iconst 4, 1) := by decide +kernel
theorem dX12_readsWill_127 : decode cX12_readsWill 127 = .ok (.iload_n 1, 1) := by decide +kernel
theorem dX12_readsWill_128 : decode cX12_readsWill 128 = .ok (.imul, 1) := by decide +kernel
theorem dX12_readsWill_129 : decode cX12_readsWill 129 = .ok (.iconst 1, 1) := by decide +kernel
theorem dX12_readsWill_130 : decode cX12_readsWill 130 = .ok (.iadd, 1) := by decide +kernel
theorem dX12_readsWill_131 : decode cX12_readsWill 131 = .ok (.iaload, 1) := by decide +kernel
theorem dX12_readsWill_132 : decode cX12_readsWill 132 = .ok (.iload_n 3, 1) := by decide +kernel
theorem dX12_readsWill_133 : decode cX12_readsWill 133 = .ok (.invokevirtual 164, 3) := by decide +kernel
theorem dX12_readsWill_136 : decode cX12_readsWill 136 = .ok (.ifCond .eq 9, 3) := by decide +kernel
theorem dX12_readsWill_139 : decode cX12_readsWill 139 = .ok (.iconst 1, 1) := by decide +kernel
theorem dX12_readsWill_140 : decode cX12_readsWill 140 = .ok (.iload_n 1, 1) := by decide +kernel
theorem dX12_readsWill_141 : decode cX12_readsWill 141 = .ok (.ishl, 1) := by decide +kernel
theorem dX12_readsWill_142 : decode cX12_readsWill 142 = .ok (.goto 4, 3) := by decide +kernel
theorem dX12_readsWill_145 : decode cX12_readsWill 145 = .ok (.iconst 0, 1) := by decide +kernel
theorem dX12_readsWill_146 : decode cX12_readsWill 146 = .ok (.ior, 1) := by decide +kernel
theorem dX12_readsWill_147 : decode cX12_readsWill 147 = .ok (.putfield 161, 3) := by decide +kernel
theorem dX12_readsWill_150 : decode cX12_readsWill 150 = .ok (.iinc 1 1, 3) := by decide +kernel
theorem dX12_readsWill_153 : decode cX12_readsWill 153 = .ok (.goto (-125), 3) := by decide +kernel
theorem dX12_readsWill_156 : decode cX12_readsWill 156 = .ok (.return_, 1) := by decide +kernel
theorem dX12_find_0 : decode cX12_find 0 = .ok (.aload_n 0, 1) := by decide +kernel
theorem dX12_find_1 : decode cX12_find 1 = .ok (.invokevirtual 125, 3) := by decide +kernel
theorem dX12_find_4 : decode cX12_find 4 = .ok (.aload_n 0, 1) := by decide +kernel
theorem dX12_find_5 : decode cX12_find 5 = .ok (.iconst 0, 1) := by decide +kernel
theorem dX12_find_6 : decode cX12_find 6 = .ok (.putfield 151, 3) := by decide +kernel
theorem dX12_find_9 : decode cX12_find 9 = .ok (.aload_n 0, 1) := by decide +kernel
theorem dX12_find_10 : decode cX12_find 10 = .ok (.invokevirtual 168, 3) := by decide +kernel
theorem dX12_find_13 : decode cX12_find 13 = .ok (.return_, 1) := by decide +kernel
theorem dX12_with_0 : decode cX12_with 0 = .ok (.aload_n 0, 1) := by decide +kernel
theorem dX12_with_1 : decode cX12_with 1 = .ok (.invokevirtual 171, 3) := by decide +kernel
theorem dX12_with_4 : decode cX12_with 4 = .ok (.aload_n 0, 1) := by decide +kernel
theorem dX12_with_5 : decode cX12_with 5 = .ok (.iload_n 1, 1) := by decide +kernel
theorem dX12_with_6 : decode cX12_with 6 = .ok (.invokevirtual 128, 3) := by decide +kernel
theorem dX12_with_9 : decode cX12_with 9 = .ok (.ifCond .eq 12, 3) := by decide +kernel
theorem dX12_with_12 : decode cX12_with 12 = .ok (.aload_n 0, 1) := by decide +kernel
theorem dX12_with_13 : decode cX12_with 13 = .ok (.getfield 46, 3) := by decide +kernel
theorem dX12_with_16 : decode cX12_with 16 = .ok (.iload_n 1, 1) := by decide +kernel
theorem dX12_with_17 : decode cX12_with 17 = .ok (.iaload, 1) := by decide +kernel
theorem dX12_with_18 : decode cX12_with 18 = .ok (.goto 5, 3) := by decide +kernel
theorem dX12_with_21 : decode cX12_with 21 = .ok (.bipush (-2), 2) := by decide +kernel
theorem dX12_with_23 : decode cX12_with 23 = .ok (.ireturn, 1) := by decide +kernel
theorem dX12_isAt_0 : decode cX12_isAt 0 = .ok (.iload_n 2, 1) := by decide +kernel
theorem dX12_isAt_1 : decode cX12_isAt 1 = .ok (.aload_n 0, 1) := by decide +kernel
theorem dX12_isAt_2 : decode cX12_isAt 2 = .ok (.getfield 31, 3) := by decide +kernel
theorem dX12_isAt_5 : decode cX12_isAt 5 = .ok (.iconst 5, 1) := by decide +kernel
theorem dX12_isAt_6 : decode cX12_isAt 6 = .ok (.iload_n 1, 1) := by decide +kernel
theorem dX12_isAt_7 : decode cX12_isAt 7 = .ok (.imul, 1) := by decide +kernel
theorem dX12_isAt_8 : decode cX12_isAt 8 = .ok (.iaload, 1) := by decide +kernel
theorem dX12_isAt_9 : decode cX12_isAt 9 = .ok (.isub, 1) := by decide +kernel
theorem dX12_isAt_10 : decode cX12_isAt 10 = .ok (.bipush 24, 2) := by decide +kernel
theorem dX12_isAt_12 : decode cX12_isAt 12 = .ok (.iadd, 1) := by decide +kernel
theorem dX12_isAt_13 : decode cX12_isAt 13 = .ok (.bipush 24, 2) := by decide +kernel
theorem dX12_isAt_15 : decode cX12_isAt 15 = .ok (.irem, 1) := by decide +kernel
theorem dX12_isAt_16 : decode cX12_isAt 16 = .ok (.aload_n 0, 1) := by decide +kernel
theorem dX12_isAt_17 : decode cX12_isAt 17 = .ok (.getfield 31, 3) := by decide +kernel
theorem dX12_isAt_20 : decode cX12_isAt 20 = .ok (.iconst 5, 1) := by decide +kernel
theorem dX12_isAt_21 : decode cX12_isAt 21 = .ok (.iload_n 1, 1) := by decide +kernel
theorem dX12_isAt_22 : decode cX12_isAt 22 = .ok (.imul, 1) := by decide +kernel
theorem dX12_isAt_23 : decode cX12_isAt 23 = .ok (.iconst 1, 1) := by decide +kernel
theorem dX12_isAt_24 : decode cX12_isAt 24 = .ok (.iadd, 1) := by decide +kernel
theorem dX12_isAt_25 : decode cX12_isAt 25 = .ok (.iaload, 1) := by decide +kernel
theorem dX12_isAt_26 : decode cX12_isAt 26 = .ok (.if_icmp .ge 7, 3) := by decide +kernel
theorem dX12_isAt_29 : decode cX12_isAt 29 = .ok (.iconst 1, 1) := by decide +kernel
theorem dX12_isAt_30 : decode cX12_isAt 30 = .ok (.goto 4, 3) := by decide +kernel
theorem dX12_isAt_33 : decode cX12_isAt 33 = .ok (.iconst 0, 1) := by decide +kernel
theorem dX12_isAt_34 : decode cX12_isAt 34 = .ok (.ireturn, 1) := by decide +kernel
theorem dX12_isAway_0 : decode cX12_isAway 0 = .ok (.aload_n 0, 1) := by decide +kernel
theorem dX12_isAway_1 : decode cX12_isAway 1 = .ok (.getfield 34, 3) := by decide +kernel
theorem dX12_isAway_4 : decode cX12_isAway 4 = .ok (.iconst 3, 1) := by decide +kernel
theorem dX12_isAway_5 : decode cX12_isAway 5 = .ok (.iload_n 1, 1) := by decide +kernel
theorem dX12_isAway_6 : decode cX12_isAway 6 = .ok (.imul, 1) := by decide +kernel
theorem dX12_isAway_7 : decode cX12_isAway 7 = .ok (.iconst 1, 1) := by decide +kernel
theorem dX12_isAway_8 : decode cX12_isAway 8 = .ok (.iadd, 1) := by decide +kernel
theorem dX12_isAway_9 : decode cX12_isAway 9 = .ok (.iaload, 1) := by decide +kernel
theorem dX12_isAway_10 : decode cX12_isAway 10 = .ok (.istore_n 3, 1) := by decide +kernel
theorem dX12_isAway_11 : decode cX12_isAway 11 = .ok (.aload_n 0, 1) := by decide +kernel
theorem dX12_isAway_12 : decode cX12_isAway 12 = .ok (.getfield 34, 3) := by decide +kernel
theorem dX12_isAway_15 : decode cX12_isAway 15 = .ok (.iconst 3, 1) := by decide +kernel
theorem dX12_isAway_16 : decode cX12_isAway 16 = .ok (.iload_n 1, 1) := by decide +kernel
theorem dX12_isAway_17 : decode cX12_isAway 17 = .ok (.imul, 1) := by decide +kernel
theorem dX12_isAway_18 : decode cX12_isAway 18 = .ok (.iconst 2, 1) := by decide +kernel
theorem dX12_isAway_19 : decode cX12_isAway 19 = .ok (.iadd, 1) := by decide +kernel
theorem dX12_isAway_20 : decode cX12_isAway 20 = .ok (.iaload, 1) := by decide +kernel
theorem dX12_isAway_21 : decode cX12_isAway 21 = .ok (.istore 4, 2) := by decide +kernel
theorem dX12_isAway_23 : decode cX12_isAway 23 = .ok (.iload_n 3, 1) := by decide +kernel
theorem dX12_isAway_24 : decode cX12_isAway 24 = .ok (.iload 4, 2) := by decide +kernel
theorem dX12_isAway_26 : decode cX12_isAway 26 = .ok (.if_icmp .gt 22, 3) := by decide +kernel
theorem dX12_isAway_29 : decode cX12_isAway 29 = .ok (.iload_n 2, 1) := by decide +kernel
theorem dX12_isAway_30 : decode cX12_isAway 30 = .ok (.iload_n 3, 1) := by decide +kernel
theorem dX12_isAway_31 : decode cX12_isAway 31 = .ok (.if_icmp .lt 13, 3) := by decide +kernel
theorem dX12_isAway_34 : decode cX12_isAway 34 = .ok (.iload_n 2, 1) := by decide +kernel
theorem dX12_isAway_35 : decode cX12_isAway 35 = .ok (.iload 4, 2) := by decide +kernel
theorem dX12_isAway_37 : decode cX12_isAway 37 = .ok (.if_icmp .ge 7, 3) := by decide +kernel
theorem dX12_isAway_40 : decode cX12_isAway 40 = .ok (.iconst 1, 1) := by decide +kernel
theorem dX12_isAway_41 : decode cX12_isAway 41 = .ok (.goto 23, 3) := by decide +kernel
theorem dX12_isAway_44 : decode cX12_isAway 44 = .ok (.iconst 0, 1) := by decide +kernel
theorem dX12_isAway_45 : decode cX12_isAway 45 = .ok (.goto 19, 3) := by decide +kernel
theorem dX12_isAway_48 : decode cX12_isAway 48 = .ok (.iload_n 2, 1) := by decide +kernel
theorem dX12_isAway_49 : decode cX12_isAway 49 = .ok (.iload_n 3, 1) := by decide +kernel
theorem dX12_isAway_50 : decode cX12_isAway 50 = .ok (.if_icmp .ge 9, 3) := by decide +kernel
theorem dX12_isAway_53 : decode cX12_isAway 53 = .ok (.iload_n 2, 1) := by decide +kernel
theorem dX12_isAway_54 : decode cX12_isAway 54 = .ok (.iload 4, 2) := by decide +kernel
theorem dX12_isAway_56 : decode cX12_isAway 56 = .ok (.if_icmp .ge 7, 3) := by decide +kernel
theorem dX12_isAway_59 : decode cX12_isAway 59 = .ok (.iconst 1, 1) := by decide +kernel
theorem dX12_isAway_60 : decode cX12_isAway 60 = .ok (.goto 4, 3) := by decide +kernel
theorem dX12_isAway_63 : decode cX12_isAway 63 = .ok (.iconst 0, 1) := by decide +kernel
theorem dX12_isAway_64 : decode cX12_isAway 64 = .ok (.ireturn, 1) := by decide +kernel
theorem dX12_cannot_0 : decode cX12_cannot 0 = .ok (.aload_n 0, 1) := by decide +kernel
theorem dX12_cannot_1 : decode cX12_cannot 1 = .ok (.getfield 31, 3) := by decide +kernel
theorem dX12_cannot_4 : decode cX12_cannot 4 = .ok (.iconst 5, 1) := by decide +kernel
theorem dX12_cannot_5 : decode cX12_cannot 5 = .ok (.iload_n 2, 1) := by decide +kernel
theorem dX12_cannot_6 : decode cX12_cannot 6 = .ok (.imul, 1) := by decide +kernel
theorem dX12_cannot_7 : decode cX12_cannot 7 = .ok (.iconst 3, 1) := by decide +kernel
theorem dX12_cannot_8 : decode cX12_cannot 8 = .ok (.iadd, 1) := by decide +kernel
theorem dX12_cannot_9 : decode cX12_cannot 9 = .ok (.iaload, 1) := by decide +kernel
theorem dX12_cannot_10 : decode cX12_cannot 10 = .ok (.istore_n 3, 1) := by decide +kernel
theorem dX12_cannot_11 : decode cX12_cannot 11 = .ok (.iload_n 3, 1) := by decide +kernel
theorem dX12_cannot_12 : decode cX12_cannot 12 = .ok (.iconst (-1), 1) := by decide +kernel
theorem dX12_cannot_13 : decode cX12_cannot 13 = .ok (.if_icmp .eq 25, 3) := by decide +kernel
theorem dX12_cannot_16 : decode cX12_cannot 16 = .ok (.aload_n 0, 1) := by decide +kernel
theorem dX12_cannot_17 : decode cX12_cannot 17 = .ok (.iload_n 3, 1) := by decide +kernel
theorem dX12_cannot_18 : decode cX12_cannot 18 = .ok (.invokevirtual 128, 3) := by decide +kernel
theorem dX12_cannot_21 : decode cX12_cannot 21 = .ok (.ifCond .eq 13, 3) := by decide +kernel
theorem dX12_cannot_24 : decode cX12_cannot 24 = .ok (.aload_n 0, 1) := by decide +kernel
theorem dX12_cannot_25 : decode cX12_cannot 25 = .ok (.getfield 46, 3) := by decide +kernel
theorem dX12_cannot_28 : decode cX12_cannot 28 = .ok (.iload_n 3, 1) := by decide +kernel
theorem dX12_cannot_29 : decode cX12_cannot 29 = .ok (.iaload, 1) := by decide +kernel
theorem dX12_cannot_30 : decode cX12_cannot 30 = .ok (.iload_n 1, 1) := by decide +kernel
theorem dX12_cannot_31 : decode cX12_cannot 31 = .ok (.if_icmp .eq 7, 3) := by decide +kernel
theorem dX12_cannot_34 : decode cX12_cannot 34 = .ok (.iconst 1, 1) := by decide +kernel
theorem dX12_cannot_35 : decode cX12_cannot 35 = .ok (.goto 4, 3) := by decide +kernel
theorem dX12_cannot_38 : decode cX12_cannot 38 = .ok (.iconst 0, 1) := by decide +kernel
theorem dX12_cannot_39 : decode cX12_cannot 39 = .ok (.istore 4, 2) := by decide +kernel
theorem dX12_cannot_41 : decode cX12_cannot 41 = .ok (.iconst 0, 1) := by decide +kernel
theorem dX12_cannot_42 : decode cX12_cannot 42 = .ok (.istore 5, 2) := by decide +kernel
theorem dX12_cannot_44 : decode cX12_cannot 44 = .ok (.iload 5, 2) := by decide +kernel
theorem dX12_cannot_46 : decode cX12_cannot 46 = .ok (.bipush 24, 2) := by decide +kernel
theorem dX12_cannot_48 : decode cX12_cannot 48 = .ok (.if_icmp .ge 41, 3) := by decide +kernel
theorem dX12_cannot_51 : decode cX12_cannot 51 = .ok (.iload 4, 2) := by decide +kernel
theorem dX12_cannot_53 : decode cX12_cannot 53 = .ok (.ifCond .ne 36, 3) := by decide +kernel
theorem dX12_cannot_56 : decode cX12_cannot 56 = .ok (.aload_n 0, 1) := by decide +kernel
theorem dX12_cannot_57 : decode cX12_cannot 57 = .ok (.iload_n 2, 1) := by decide +kernel
theorem dX12_cannot_58 : decode cX12_cannot 58 = .ok (.iload 5, 2) := by decide +kernel
theorem dX12_cannot_60 : decode cX12_cannot 60 = .ok (.invokevirtual 174, 3) := by decide +kernel
theorem dX12_cannot_63 : decode cX12_cannot 63 = .ok (.ifCond .eq 17, 3) := by decide +kernel
theorem dX12_cannot_66 : decode cX12_cannot 66 = .ok (.aload_n 0, 1) := by decide +kernel
theorem dX12_cannot_67 : decode cX12_cannot 67 = .ok (.iload_n 1, 1) := by decide +kernel
theorem dX12_cannot_68 : decode cX12_cannot 68 = .ok (.iload 5, 2) := by decide +kernel
theorem dX12_cannot_70 : decode cX12_cannot 70 = .ok (.invokevirtual 177, 3) := by decide +kernel
theorem dX12_cannot_73 : decode cX12_cannot 73 = .ok (.ifCond .eq 7, 3) := by decide +kernel
theorem dX12_cannot_76 : decode cX12_cannot 76 = .ok (.iconst 1, 1) := by decide +kernel
theorem dX12_cannot_77 : decode cX12_cannot 77 = .ok (.goto 4, 3) := by decide +kernel
theorem dX12_cannot_80 : decode cX12_cannot 80 = .ok (.iconst 0, 1) := by decide +kernel
theorem dX12_cannot_81 : decode cX12_cannot 81 = .ok (.istore 4, 2) := by decide +kernel
theorem dX12_cannot_83 : decode cX12_cannot 83 = .ok (.iinc 5 1, 3) := by decide +kernel
theorem dX12_cannot_86 : decode cX12_cannot 86 = .ok (.goto (-42), 3) := by decide +kernel
theorem dX12_cannot_89 : decode cX12_cannot 89 = .ok (.iload 4, 2) := by decide +kernel
theorem dX12_cannot_91 : decode cX12_cannot 91 = .ok (.ireturn, 1) := by decide +kernel
theorem dX12_hasNow_0 : decode cX12_hasNow 0 = .ok (.iconst 0, 1) := by decide +kernel
theorem dX12_hasNow_1 : decode cX12_hasNow 1 = .ok (.istore_n 2, 1) := by decide +kernel
theorem dX12_hasNow_2 : decode cX12_hasNow 2 = .ok (.iconst 0, 1) := by decide +kernel
theorem dX12_hasNow_3 : decode cX12_hasNow 3 = .ok (.istore_n 3, 1) := by decide +kernel
theorem dX12_hasNow_4 : decode cX12_hasNow 4 = .ok (.iload_n 3, 1) := by decide +kernel
theorem dX12_hasNow_5 : decode cX12_hasNow 5 = .ok (.aload_n 0, 1) := by decide +kernel
theorem dX12_hasNow_6 : decode cX12_hasNow 6 = .ok (.getfield 28, 3) := by decide +kernel
theorem dX12_hasNow_9 : decode cX12_hasNow 9 = .ok (.iconst 0, 1) := by decide +kernel
theorem dX12_hasNow_10 : decode cX12_hasNow 10 = .ok (.iaload, 1) := by decide +kernel
theorem dX12_hasNow_11 : decode cX12_hasNow 11 = .ok (.if_icmp .ge 29, 3) := by decide +kernel
theorem dX12_hasNow_14 : decode cX12_hasNow 14 = .ok (.iload_n 2, 1) := by decide +kernel
theorem dX12_hasNow_15 : decode cX12_hasNow 15 = .ok (.aload_n 0, 1) := by decide +kernel
theorem dX12_hasNow_16 : decode cX12_hasNow 16 = .ok (.getfield 46, 3) := by decide +kernel
theorem dX12_hasNow_19 : decode cX12_hasNow 19 = .ok (.iload_n 3, 1) := by decide +kernel
theorem dX12_hasNow_20 : decode cX12_hasNow 20 = .ok (.iaload, 1) := by decide +kernel
theorem dX12_hasNow_21 : decode cX12_hasNow 21 = .ok (.iload_n 1, 1) := by decide +kernel
theorem dX12_hasNow_22 : decode cX12_hasNow 22 = .ok (.if_icmp .ne 9, 3) := by decide +kernel
theorem dX12_hasNow_25 : decode cX12_hasNow 25 = .ok (.iconst 1, 1) := by decide +kernel
theorem dX12_hasNow_26 : decode cX12_hasNow 26 = .ok (.iload_n 3, 1) := by decide +kernel
theorem dX12_hasNow_27 : decode cX12_hasNow 27 = .ok (.ishl, 1) := by decide +kernel
theorem dX12_hasNow_28 : decode cX12_hasNow 28 = .ok (.goto 4, 3) := by decide +kernel
theorem dX12_hasNow_31 : decode cX12_hasNow 31 = .ok (.iconst 0, 1) := by decide +kernel
theorem dX12_hasNow_32 : decode cX12_hasNow 32 = .ok (.ior, 1) := by decide +kernel
theorem dX12_hasNow_33 : decode cX12_hasNow 33 = .ok (.istore_n 2, 1) := by decide +kernel
theorem dX12_hasNow_34 : decode cX12_hasNow 34 = .ok (.iinc 3 1, 3) := by decide +kernel
theorem dX12_hasNow_37 : decode cX12_hasNow 37 = .ok (.goto (-33), 3) := by decide +kernel
theorem dX12_hasNow_40 : decode cX12_hasNow 40 = .ok (.iload_n 2, 1) := by decide +kernel
theorem dX12_hasNow_41 : decode cX12_hasNow 41 = .ok (.ireturn, 1) := by decide +kernel
theorem dX12_cannotNow_0 : decode cX12_cannotNow 0 = .ok (.iconst 0, 1) := by decide +kernel
theorem dX12_cannotNow_1 : decode cX12_cannotNow 1 = .ok (.istore_n 2, 1) := by decide +kernel
theorem dX12_cannotNow_2 : decode cX12_cannotNow 2 = .ok (.iconst 0, 1) := by decide +kernel
theorem dX12_cannotNow_3 : decode cX12_cannotNow 3 = .ok (.istore_n 3, 1) := by decide +kernel
theorem dX12_cannotNow_4 : decode cX12_cannotNow 4 = .ok (.iload_n 3, 1) := by decide +kernel
theorem dX12_cannotNow_5 : decode cX12_cannotNow 5 = .ok (.aload_n 0, 1) := by decide +kernel
theorem dX12_cannotNow_6 : decode cX12_cannotNow 6 = .ok (.getfield 28, 3) := by decide +kernel
theorem dX12_cannotNow_9 : decode cX12_cannotNow 9 = .ok (.iconst 0, 1) := by decide +kernel
theorem dX12_cannotNow_10 : decode cX12_cannotNow 10 = .ok (.iaload, 1) := by decide +kernel
theorem dX12_cannotNow_11 : decode cX12_cannotNow 11 = .ok (.if_icmp .ge 38, 3) := by decide +kernel
theorem dX12_cannotNow_14 : decode cX12_cannotNow 14 = .ok (.iload_n 2, 1) := by decide +kernel
theorem dX12_cannotNow_15 : decode cX12_cannotNow 15 = .ok (.aload_n 0, 1) := by decide +kernel
theorem dX12_cannotNow_16 : decode cX12_cannotNow 16 = .ok (.getfield 46, 3) := by decide +kernel
theorem dX12_cannotNow_19 : decode cX12_cannotNow 19 = .ok (.iload_n 3, 1) := by decide +kernel
theorem dX12_cannotNow_20 : decode cX12_cannotNow 20 = .ok (.iaload, 1) := by decide +kernel
theorem dX12_cannotNow_21 : decode cX12_cannotNow 21 = .ok (.iload_n 1, 1) := by decide +kernel
theorem dX12_cannotNow_22 : decode cX12_cannotNow 22 = .ok (.if_icmp .ne 18, 3) := by decide +kernel
theorem dX12_cannotNow_25 : decode cX12_cannotNow 25 = .ok (.aload_n 0, 1) := by decide +kernel
theorem dX12_cannotNow_26 : decode cX12_cannotNow 26 = .ok (.iload_n 1, 1) := by decide +kernel
theorem dX12_cannotNow_27 : decode cX12_cannotNow 27 = .ok (.iload_n 3, 1) := by decide +kernel
theorem dX12_cannotNow_28 : decode cX12_cannotNow 28 = .ok (.invokevirtual 180, 3) := by decide +kernel
theorem dX12_cannotNow_31 : decode cX12_cannotNow 31 = .ok (.ifCond .eq 9, 3) := by decide +kernel
theorem dX12_cannotNow_34 : decode cX12_cannotNow 34 = .ok (.iconst 1, 1) := by decide +kernel
theorem dX12_cannotNow_35 : decode cX12_cannotNow 35 = .ok (.iload_n 3, 1) := by decide +kernel
theorem dX12_cannotNow_36 : decode cX12_cannotNow 36 = .ok (.ishl, 1) := by decide +kernel
theorem dX12_cannotNow_37 : decode cX12_cannotNow 37 = .ok (.goto 4, 3) := by decide +kernel
theorem dX12_cannotNow_40 : decode cX12_cannotNow 40 = .ok (.iconst 0, 1) := by decide +kernel
theorem dX12_cannotNow_41 : decode cX12_cannotNow 41 = .ok (.ior, 1) := by decide +kernel
theorem dX12_cannotNow_42 : decode cX12_cannotNow 42 = .ok (.istore_n 2, 1) := by decide +kernel
theorem dX12_cannotNow_43 : decode cX12_cannotNow 43 = .ok (.iinc 3 1, 3) := by decide +kernel
theorem dX12_cannotNow_46 : decode cX12_cannotNow 46 = .ok (.goto (-42), 3) := by decide +kernel
theorem dX12_cannotNow_49 : decode cX12_cannotNow 49 = .ok (.iload_n 2, 1) := by decide +kernel
theorem dX12_cannotNow_50 : decode cX12_cannotNow 50 = .ok (.ireturn, 1) := by decide +kernel
theorem dX12_worthNow_0 : decode cX12_worthNow 0 = .ok (.iconst 0, 1) := by decide +kernel
theorem dX12_worthNow_1 : decode cX12_worthNow 1 = .ok (.istore_n 2, 1) := by decide +kernel
theorem dX12_worthNow_2 : decode cX12_worthNow 2 = .ok (.iconst 0, 1) := by decide +kernel
theorem dX12_worthNow_3 : decode cX12_worthNow 3 = .ok (.istore_n 3, 1) := by decide +kernel
theorem dX12_worthNow_4 : decode cX12_worthNow 4 = .ok (.iload_n 3, 1) := by decide +kernel
theorem dX12_worthNow_5 : decode cX12_worthNow 5 = .ok (.aload_n 0, 1) := by decide +kernel
theorem dX12_worthNow_6 : decode cX12_worthNow 6 = .ok (.getfield 28, 3) := by decide +kernel
theorem dX12_worthNow_9 : decode cX12_worthNow 9 = .ok (.iconst 0, 1) := by decide +kernel
theorem dX12_worthNow_10 : decode cX12_worthNow 10 = .ok (.iaload, 1) := by decide +kernel
theorem dX12_worthNow_11 : decode cX12_worthNow 11 = .ok (.if_icmp .ge 36, 3) := by decide +kernel
theorem dX12_worthNow_14 : decode cX12_worthNow 14 = .ok (.iload_n 2, 1) := by decide +kernel
theorem dX12_worthNow_15 : decode cX12_worthNow 15 = .ok (.aload_n 0, 1) := by decide +kernel
theorem dX12_worthNow_16 : decode cX12_worthNow 16 = .ok (.getfield 46, 3) := by decide +kernel
theorem dX12_worthNow_19 : decode cX12_worthNow 19 = .ok (.iload_n 3, 1) := by decide +kernel
theorem dX12_worthNow_20 : decode cX12_worthNow 20 = .ok (.iaload, 1) := by decide +kernel
theorem dX12_worthNow_21 : decode cX12_worthNow 21 = .ok (.iload_n 1, 1) := by decide +kernel
theorem dX12_worthNow_22 : decode cX12_worthNow 22 = .ok (.if_icmp .ne 16, 3) := by decide +kernel
theorem dX12_worthNow_25 : decode cX12_worthNow 25 = .ok (.aload_n 0, 1) := by decide +kernel
theorem dX12_worthNow_26 : decode cX12_worthNow 26 = .ok (.getfield 31, 3) := by decide +kernel
theorem dX12_worthNow_29 : decode cX12_worthNow 29 = .ok (.iconst 5, 1) := by decide +kernel
theorem dX12_worthNow_30 : decode cX12_worthNow 30 = .ok (.iload_n 3, 1) := by decide +kernel
theorem dX12_worthNow_31 : decode cX12_worthNow 31 = .ok (.imul, 1) := by decide +kernel
theorem dX12_worthNow_32 : decode cX12_worthNow 32 = .ok (.iconst 2, 1) := by decide +kernel
theorem dX12_worthNow_33 : decode cX12_worthNow 33 = .ok (.iadd, 1) := by decide +kernel
theorem dX12_worthNow_34 : decode cX12_worthNow 34 = .ok (.iaload, 1) := by decide +kernel
theorem dX12_worthNow_35 : decode cX12_worthNow 35 = .ok (.goto 4, 3) := by decide +kernel
theorem dX12_worthNow_38 : decode cX12_worthNow 38 = .ok (.iconst 0, 1) := by decide +kernel
theorem dX12_worthNow_39 : decode cX12_worthNow 39 = .ok (.iadd, 1) := by decide +kernel
theorem dX12_worthNow_40 : decode cX12_worthNow 40 = .ok (.istore_n 2, 1) := by decide +kernel
theorem dX12_worthNow_41 : decode cX12_worthNow 41 = .ok (.iinc 3 1, 3) := by decide +kernel
theorem dX12_worthNow_44 : decode cX12_worthNow 44 = .ok (.goto (-40), 3) := by decide +kernel
theorem dX12_worthNow_47 : decode cX12_worthNow 47 = .ok (.iload_n 2, 1) := by decide +kernel
theorem dX12_worthNow_48 : decode cX12_worthNow 48 = .ok (.ireturn, 1) := by decide +kernel
theorem dX12_atOnce_0 : decode cX12_atOnce 0 = .ok (.iconst 0, 1) := by decide +kernel
theorem dX12_atOnce_1 : decode cX12_atOnce 1 = .ok (.istore_n 3, 1) := by decide +kernel
theorem dX12_atOnce_2 : decode cX12_atOnce 2 = .ok (.iconst 0, 1) := by decide +kernel
theorem dX12_atOnce_3 : decode cX12_atOnce 3 = .ok (.istore 4, 2) := by decide +kernel
theorem dX12_atOnce_5 : decode cX12_atOnce 5 = .ok (.iload 4, 2) := by decide +kernel
theorem dX12_atOnce_7 : decode cX12_atOnce 7 = .ok (.aload_n 0, 1) := by decide +kernel
theorem dX12_atOnce_8 : decode cX12_atOnce 8 = .ok (.getfield 28, 3) := by decide +kernel
theorem dX12_atOnce_11 : decode cX12_atOnce 11 = .ok (.iconst 0, 1) := by decide +kernel
theorem dX12_atOnce_12 : decode cX12_atOnce 12 = .ok (.iaload, 1) := by decide +kernel
theorem dX12_atOnce_13 : decode cX12_atOnce 13 = .ok (.if_icmp .ge 41, 3) := by decide +kernel
theorem dX12_atOnce_16 : decode cX12_atOnce 16 = .ok (.iload_n 3, 1) := by decide +kernel
theorem dX12_atOnce_17 : decode cX12_atOnce 17 = .ok (.aload_n 0, 1) := by decide +kernel
theorem dX12_atOnce_18 : decode cX12_atOnce 18 = .ok (.getfield 46, 3) := by decide +kernel
theorem dX12_atOnce_21 : decode cX12_atOnce 21 = .ok (.iload 4, 2) := by decide +kernel
theorem dX12_atOnce_23 : decode cX12_atOnce 23 = .ok (.iaload, 1) := by decide +kernel
theorem dX12_atOnce_24 : decode cX12_atOnce 24 = .ok (.iload_n 1, 1) := by decide +kernel
theorem dX12_atOnce_25 : decode cX12_atOnce 25 = .ok (.if_icmp .ne 20, 3) := by decide +kernel
theorem dX12_atOnce_28 : decode cX12_atOnce 28 = .ok (.aload_n 0, 1) := by decide +kernel
theorem dX12_atOnce_29 : decode cX12_atOnce 29 = .ok (.iload 4, 2) := by decide +kernel
theorem dX12_atOnce_31 : decode cX12_atOnce 31 = .ok (.iload_n 2, 1) := by decide +kernel
theorem dX12_atOnce_32 : decode cX12_atOnce 32 = .ok (.invokevirtual 174, 3) := by decide +kernel
theorem dX12_atOnce_35 : decode cX12_atOnce 35 = .ok (.ifCond .eq 10, 3) := by decide +kernel
theorem dX12_atOnce_38 : decode cX12_atOnce 38 = .ok (.iconst 1, 1) := by decide +kernel
theorem dX12_atOnce_39 : decode cX12_atOnce 39 = .ok (.iload 4, 2) := by decide +kernel
theorem dX12_atOnce_41 : decode cX12_atOnce 41 = .ok (.ishl, 1) := by decide +kernel
theorem dX12_atOnce_42 : decode cX12_atOnce 42 = .ok (.goto 4, 3) := by decide +kernel
theorem dX12_atOnce_45 : decode cX12_atOnce 45 = .ok (.iconst 0, 1) := by decide +kernel
theorem dX12_atOnce_46 : decode cX12_atOnce 46 = .ok (.ior, 1) := by decide +kernel
theorem dX12_atOnce_47 : decode cX12_atOnce 47 = .ok (.istore_n 3, 1) := by decide +kernel
theorem dX12_atOnce_48 : decode cX12_atOnce 48 = .ok (.iinc 4 1, 3) := by decide +kernel
theorem dX12_atOnce_51 : decode cX12_atOnce 51 = .ok (.goto (-46), 3) := by decide +kernel
theorem dX12_atOnce_54 : decode cX12_atOnce 54 = .ok (.iload_n 3, 1) := by decide +kernel
theorem dX12_atOnce_55 : decode cX12_atOnce 55 = .ok (.ireturn, 1) := by decide +kernel
theorem dX12_lives_0 : decode cX12_lives 0 = .ok (.aload_n 0, 1) := by decide +kernel
theorem dX12_lives_1 : decode cX12_lives 1 = .ok (.iload_n 1, 1) := by decide +kernel
theorem dX12_lives_2 : decode cX12_lives 2 = .ok (.invokevirtual 183, 3) := by decide +kernel
theorem dX12_lives_5 : decode cX12_lives 5 = .ok (.invokestatic 186, 3) := by decide +kernel
theorem dX12_lives_8 : decode cX12_lives 8 = .ok (.aload_n 0, 1) := by decide +kernel
theorem dX12_lives_9 : decode cX12_lives 9 = .ok (.getfield 34, 3) := by decide +kernel
theorem dX12_lives_12 : decode cX12_lives 12 = .ok (.iconst 3, 1) := by decide +kernel
theorem dX12_lives_13 : decode cX12_lives 13 = .ok (.iload_n 1, 1) := by decide +kernel
theorem dX12_lives_14 : decode cX12_lives 14 = .ok (.imul, 1) := by decide +kernel
theorem dX12_lives_15 : decode cX12_lives 15 = .ok (.iaload, 1) := by decide +kernel
theorem dX12_lives_16 : decode cX12_lives 16 = .ok (.if_icmp .gt 15, 3) := by decide +kernel
theorem dX12_lives_19 : decode cX12_lives 19 = .ok (.aload_n 0, 1) := by decide +kernel
theorem dX12_lives_20 : decode cX12_lives 20 = .ok (.iload_n 1, 1) := by decide +kernel
theorem dX12_lives_21 : decode cX12_lives 21 = .ok (.invokevirtual 189, 3) := by decide +kernel
theorem dX12_lives_24 : decode cX12_lives 24 = .ok (.ifCond .ne 7, 3) := by decide +kernel
theorem dX12_lives_27 : decode cX12_lives 27 = .ok (.iconst 1, 1) := by decide +kernel
theorem dX12_lives_28 : decode cX12_lives 28 = .ok (.goto 4, 3) := by decide +kernel
theorem dX12_lives_31 : decode cX12_lives 31 = .ok (.iconst 0, 1) := by decide +kernel
theorem dX12_lives_32 : decode cX12_lives 32 = .ok (.istore_n 2, 1) := by decide +kernel
theorem dX12_lives_33 : decode cX12_lives 33 = .ok (.iconst 0, 1) := by decide +kernel
theorem dX12_lives_34 : decode cX12_lives 34 = .ok (.istore_n 3, 1) := by decide +kernel
theorem dX12_lives_35 : decode cX12_lives 35 = .ok (.iload_n 3, 1) := by decide +kernel
theorem dX12_lives_36 : decode cX12_lives 36 = .ok (.bipush 24, 2) := by decide +kernel
theorem dX12_lives_38 : decode cX12_lives 38 = .ok (.if_icmp .ge 32, 3) := by decide +kernel
theorem dX12_lives_41 : decode cX12_lives 41 = .ok (.iload_n 2, 1) := by decide +kernel
theorem dX12_lives_42 : decode cX12_lives 42 = .ok (.ifCond .eq 28, 3) := by decide +kernel
theorem dX12_lives_45 : decode cX12_lives 45 = .ok (.aload_n 0, 1) := by decide +kernel
theorem dX12_lives_46 : decode cX12_lives 46 = .ok (.iload_n 1, 1) := by decide +kernel
theorem dX12_lives_47 : decode cX12_lives 47 = .ok (.iload_n 3, 1) := by decide +kernel
theorem dX12_lives_48 : decode cX12_lives 48 = .ok (.invokevirtual 192, 3) := by decide +kernel
theorem dX12_lives_51 : decode cX12_lives 51 = .ok (.invokestatic 186, 3) := by decide +kernel
theorem dX12_lives_54 : decode cX12_lives 54 = .ok (.iconst 2, 1) := by decide +kernel
theorem dX12_lives_55 : decode cX12_lives 55 = .ok (.if_icmp .ge 7, 3) := by decide +kernel
theorem dX12_lives_58 : decode cX12_lives 58 = .ok (.iconst 1, 1) := by decide +kernel
theorem dX12_lives_59 : decode cX12_lives 59 = .ok (.goto 4, 3) := by decide +kernel
theorem dX12_lives_62 : decode cX12_lives 62 = .ok (.iconst 0, 1) := by decide +kernel
theorem dX12_lives_63 : decode cX12_lives 63 = .ok (.istore_n 2, 1) := by decide +kernel
theorem dX12_lives_64 : decode cX12_lives 64 = .ok (.iinc 3 1, 3) := by decide +kernel
theorem dX12_lives_67 : decode cX12_lives 67 = .ok (.goto (-32), 3) := by decide +kernel
theorem dX12_lives_70 : decode cX12_lives 70 = .ok (.iload_n 2, 1) := by decide +kernel
theorem dX12_lives_71 : decode cX12_lives 71 = .ok (.ireturn, 1) := by decide +kernel
theorem dX12_hasOf_0 : decode cX12_hasOf 0 = .ok (.iload_n 2, 1) := by decide +kernel
theorem dX12_hasOf_1 : decode cX12_hasOf 1 = .ok (.tableswitch 45 0 2 #[27, 33, 39], 27) := by decide +kernel
theorem dX12_hasOf_28 : decode cX12_hasOf 28 = .ok (.aload_n 0, 1) := by decide +kernel
theorem dX12_hasOf_29 : decode cX12_hasOf 29 = .ok (.iload_n 1, 1) := by decide +kernel
theorem dX12_hasOf_30 : decode cX12_hasOf 30 = .ok (.invokevirtual 183, 3) := by decide +kernel
theorem dX12_hasOf_33 : decode cX12_hasOf 33 = .ok (.ireturn, 1) := by decide +kernel
theorem dX12_hasOf_34 : decode cX12_hasOf 34 = .ok (.aload_n 0, 1) := by decide +kernel
theorem dX12_hasOf_35 : decode cX12_hasOf 35 = .ok (.iload_n 1, 1) := by decide +kernel
theorem dX12_hasOf_36 : decode cX12_hasOf 36 = .ok (.invokevirtual 189, 3) := by decide +kernel
theorem dX12_hasOf_39 : decode cX12_hasOf 39 = .ok (.ireturn, 1) := by decide +kernel
theorem dX12_hasOf_40 : decode cX12_hasOf 40 = .ok (.aload_n 0, 1) := by decide +kernel
theorem dX12_hasOf_41 : decode cX12_hasOf 41 = .ok (.iload_n 1, 1) := by decide +kernel
theorem dX12_hasOf_42 : decode cX12_hasOf 42 = .ok (.invokevirtual 195, 3) := by decide +kernel
theorem dX12_hasOf_45 : decode cX12_hasOf 45 = .ok (.ireturn, 1) := by decide +kernel
theorem dX12_hasOf_46 : decode cX12_hasOf 46 = .ok (.aload_n 0, 1) := by decide +kernel
theorem dX12_hasOf_47 : decode cX12_hasOf 47 = .ok (.iload_n 1, 1) := by decide +kernel
theorem dX12_hasOf_48 : decode cX12_hasOf 48 = .ok (.invokevirtual 198, 3) := by decide +kernel
theorem dX12_hasOf_51 : decode cX12_hasOf 51 = .ok (.ifCond .eq 7, 3) := by decide +kernel
theorem dX12_hasOf_54 : decode cX12_hasOf 54 = .ok (.iconst 1, 1) := by decide +kernel
theorem dX12_hasOf_55 : decode cX12_hasOf 55 = .ok (.goto 4, 3) := by decide +kernel
theorem dX12_hasOf_58 : decode cX12_hasOf 58 = .ok (.iconst 0, 1) := by decide +kernel
theorem dX12_hasOf_59 : decode cX12_hasOf 59 = .ok (.ireturn, 1) := by decide +kernel
theorem dX12_has_0 : decode cX12_has 0 = .ok (.aload_n 0, 1) := by decide +kernel
theorem dX12_has_1 : decode cX12_has 1 = .ok (.invokevirtual 171, 3) := by decide +kernel
theorem dX12_has_4 : decode cX12_has 4 = .ok (.aload_n 0, 1) := by decide +kernel
theorem dX12_has_5 : decode cX12_has 5 = .ok (.iload_n 1, 1) := by decide +kernel
theorem dX12_has_6 : decode cX12_has 6 = .ok (.invokevirtual 133, 3) := by decide +kernel
theorem dX12_has_9 : decode cX12_has 9 = .ok (.ifCond .eq 24, 3) := by decide +kernel
theorem dX12_has_12 : decode cX12_has 12 = .ok (.iload_n 2, 1) := by decide +kernel
theorem dX12_has_13 : decode cX12_has 13 = .ok (.i2l, 1) := by decide +kernel
theorem dX12_has_14 : decode cX12_has 14 = .ok (.lconst 0, 1) := by decide +kernel
theorem dX12_has_15 : decode cX12_has 15 = .ok (.ldc2_w 65, 3) := by decide +kernel
theorem dX12_has_18 : decode cX12_has 18 = .ok (.invokestatic 57, 3) := by decide +kernel
theorem dX12_has_21 : decode cX12_has 21 = .ok (.ifCond .eq 12, 3) := by decide +kernel
theorem dX12_has_24 : decode cX12_has 24 = .ok (.aload_n 0, 1) := by decide +kernel
theorem dX12_has_25 : decode cX12_has 25 = .ok (.iload_n 1, 1) := by decide +kernel
theorem dX12_has_26 : decode cX12_has 26 = .ok (.iload_n 2, 1) := by decide +kernel
theorem dX12_has_27 : decode cX12_has 27 = .ok (.invokevirtual 201, 3) := by decide +kernel
theorem dX12_has_30 : decode cX12_has 30 = .ok (.goto 5, 3) := by decide +kernel
theorem dX12_has_33 : decode cX12_has 33 = .ok (.bipush (-2), 2) := by decide +kernel
theorem dX12_has_35 : decode cX12_has 35 = .ok (.ireturn, 1) := by decide +kernel
theorem dX12_doesNow_0 : decode cX12_doesNow 0 = .ok (.iconst (-1), 1) := by decide +kernel
theorem dX12_doesNow_1 : decode cX12_doesNow 1 = .ok (.istore_n 3, 1) := by decide +kernel
theorem dX12_doesNow_2 : decode cX12_doesNow 2 = .ok (.aload_n 0, 1) := by decide +kernel
theorem dX12_doesNow_3 : decode cX12_doesNow 3 = .ok (.iload_n 1, 1) := by decide +kernel
theorem dX12_doesNow_4 : decode cX12_doesNow 4 = .ok (.iload_n 2, 1) := by decide +kernel
theorem dX12_doesNow_5 : decode cX12_doesNow 5 = .ok (.invokevirtual 192, 3) := by decide +kernel
theorem dX12_doesNow_8 : decode cX12_doesNow 8 = .ok (.istore 4, 2) := by decide +kernel
theorem dX12_doesNow_10 : decode cX12_doesNow 10 = .ok (.iconst 0, 1) := by decide +kernel
theorem dX12_doesNow_11 : decode cX12_doesNow 11 = .ok (.istore 5, 2) := by decide +kernel
theorem dX12_doesNow_13 : decode cX12_doesNow 13 = .ok (.iload 5, 2) := by decide +kernel
theorem dX12_doesNow_15 : decode cX12_doesNow 15 = .ok (.aload_n 0, 1) := by decide +kernel
theorem dX12_doesNow_16 : decode cX12_doesNow 16 = .ok (.getfield 28, 3) := by decide +kernel
theorem dX12_doesNow_19 : decode cX12_doesNow 19 = .ok (.iconst 0, 1) := by decide +kernel
theorem dX12_doesNow_20 : decode cX12_doesNow 20 = .ok (.iaload, 1) := by decide +kernel
theorem dX12_doesNow_21 : decode cX12_doesNow 21 = .ok (.if_icmp .ge 77, 3) := by decide +kernel
theorem dX12_doesNow_24 : decode cX12_doesNow 24 = .ok (.iload 4, 2) := by decide +kernel
theorem dX12_doesNow_26 : decode cX12_doesNow 26 = .ok (.iload 5, 2) := by decide +kernel
theorem dX12_doesNow_28 : decode cX12_doesNow 28 = .ok (.invokestatic 154, 3) := by decide +kernel
theorem dX12_doesNow_31 : decode cX12_doesNow 31 = .ok (.ifCond .eq 17, 3) := by decide +kernel
theorem dX12_doesNow_34 : decode cX12_doesNow 34 = .ok (.aload_n 0, 1) := by decide +kernel
theorem dX12_doesNow_35 : decode cX12_doesNow 35 = .ok (.iload_n 1, 1) := by decide +kernel
theorem dX12_doesNow_36 : decode cX12_doesNow 36 = .ok (.iload 5, 2) := by decide +kernel
theorem dX12_doesNow_38 : decode cX12_doesNow 38 = .ok (.invokevirtual 180, 3) := by decide +kernel
theorem dX12_doesNow_41 : decode cX12_doesNow 41 = .ok (.ifCond .ne 7, 3) := by decide +kernel
theorem dX12_doesNow_44 : decode cX12_doesNow 44 = .ok (.iconst 1, 1) := by decide +kernel
theorem dX12_doesNow_45 : decode cX12_doesNow 45 = .ok (.goto 4, 3) := by decide +kernel
theorem dX12_doesNow_48 : decode cX12_doesNow 48 = .ok (.iconst 0, 1) := by decide +kernel
theorem dX12_doesNow_49 : decode cX12_doesNow 49 = .ok (.istore 6, 2) := by decide +kernel
theorem dX12_doesNow_51 : decode cX12_doesNow 51 = .ok (.iload 6, 2) := by decide +kernel
theorem dX12_doesNow_53 : decode cX12_doesNow 53 = .ok (.ifCond .eq 37, 3) := by decide +kernel
theorem dX12_doesNow_56 : decode cX12_doesNow 56 = .ok (.iload_n 3, 1) := by decide +kernel
theorem dX12_doesNow_57 : decode cX12_doesNow 57 = .ok (.iconst (-1), 1) := by decide +kernel
theorem dX12_doesNow_58 : decode cX12_doesNow 58 = .ok (.if_icmp .eq 27, 3) := by decide +kernel
theorem dX12_doesNow_61 : decode cX12_doesNow 61 = .ok (.aload_n 0, 1) := by decide +kernel
theorem dX12_doesNow_62 : decode cX12_doesNow 62 = .ok (.getfield 31, 3) := by decide +kernel
theorem dX12_doesNow_65 : decode cX12_doesNow 65 = .ok (.iconst 5, 1) := by decide +kernel
theorem dX12_doesNow_66 : decode cX12_doesNow 66 = .ok (.iload 5, 2) := by decide +kernel
theorem dX12_doesNow_68 : decode cX12_doesNow 68 = .ok (.imul, 1) := by decide +kernel
theorem dX12_doesNow_69 : decode cX12_doesNow 69 = .ok (.iconst 2, 1) := by decide +kernel
theorem dX12_doesNow_70 : decode cX12_doesNow 70 = .ok (.iadd, 1) := by decide +kernel
theorem dX12_doesNow_71 : decode cX12_doesNow 71 = .ok (.iaload, 1) := by decide +kernel
theorem dX12_doesNow_72 : decode cX12_doesNow 72 = .ok (.aload_n 0, 1) := by decide +kernel
theorem dX12_doesNow_73 : decode cX12_doesNow 73 = .ok (.getfield 31, 3) := by decide +kernel
theorem dX12_doesNow_76 : decode cX12_doesNow 76 = .ok (.iconst 5, 1) := by decide +kernel
theorem dX12_doesNow_77 : decode cX12_doesNow 77 = .ok (.iload_n 3, 1) := by decide +kernel
theorem dX12_doesNow_78 : decode cX12_doesNow 78 = .ok (.imul, 1) := by decide +kernel
theorem dX12_doesNow_79 : decode cX12_doesNow 79 = .ok (.iconst 2, 1) := by decide +kernel
theorem dX12_doesNow_80 : decode cX12_doesNow 80 = .ok (.iadd, 1) := by decide +kernel
theorem dX12_doesNow_81 : decode cX12_doesNow 81 = .ok (.iaload, 1) := by decide +kernel
theorem dX12_doesNow_82 : decode cX12_doesNow 82 = .ok (.if_icmp .le 8, 3) := by decide +kernel
theorem dX12_doesNow_85 : decode cX12_doesNow 85 = .ok (.iload 5, 2) := by decide +kernel
theorem dX12_doesNow_87 : decode cX12_doesNow 87 = .ok (.goto 4, 3) := by decide +kernel
theorem dX12_doesNow_90 : decode cX12_doesNow 90 = .ok (.iload_n 3, 1) := by decide +kernel
theorem dX12_doesNow_91 : decode cX12_doesNow 91 = .ok (.istore_n 3, 1) := by decide +kernel
theorem dX12_doesNow_92 : decode cX12_doesNow 92 = .ok (.iinc 5 1, 3) := by decide +kernel
theorem dX12_doesNow_95 : decode cX12_doesNow 95 = .ok (.goto (-82), 3) := by decide +kernel
theorem dX12_doesNow_98 : decode cX12_doesNow 98 = .ok (.iload_n 3, 1) := by decide +kernel
theorem dX12_doesNow_99 : decode cX12_doesNow 99 = .ok (.ireturn, 1) := by decide +kernel
theorem dX12_does_0 : decode cX12_does 0 = .ok (.aload_n 0, 1) := by decide +kernel
theorem dX12_does_1 : decode cX12_does 1 = .ok (.invokevirtual 171, 3) := by decide +kernel
theorem dX12_does_4 : decode cX12_does 4 = .ok (.aload_n 0, 1) := by decide +kernel
theorem dX12_does_5 : decode cX12_does 5 = .ok (.iload_n 1, 1) := by decide +kernel
theorem dX12_does_6 : decode cX12_does 6 = .ok (.invokevirtual 133, 3) := by decide +kernel
theorem dX12_does_9 : decode cX12_does 9 = .ok (.ifCond .eq 19, 3) := by decide +kernel
theorem dX12_does_12 : decode cX12_does 12 = .ok (.iload_n 2, 1) := by decide +kernel
theorem dX12_does_13 : decode cX12_does 13 = .ok (.invokestatic 204, 3) := by decide +kernel
theorem dX12_does_16 : decode cX12_does 16 = .ok (.ifCond .eq 12, 3) := by decide +kernel
theorem dX12_does_19 : decode cX12_does 19 = .ok (.aload_n 0, 1) := by decide +kernel
theorem dX12_does_20 : decode cX12_does 20 = .ok (.iload_n 1, 1) := by decide +kernel
theorem dX12_does_21 : decode cX12_does 21 = .ok (.iload_n 2, 1) := by decide +kernel
theorem dX12_does_22 : decode cX12_does 22 = .ok (.invokevirtual 207, 3) := by decide +kernel
theorem dX12_does_25 : decode cX12_does 25 = .ok (.goto 5, 3) := by decide +kernel
theorem dX12_does_28 : decode cX12_does 28 = .ok (.bipush (-2), 2) := by decide +kernel
theorem dX12_does_30 : decode cX12_does 30 = .ok (.ireturn, 1) := by decide +kernel
theorem dX12_done_0 : decode cX12_done 0 = .ok (.aload_n 0, 1) := by decide +kernel
theorem dX12_done_1 : decode cX12_done 1 = .ok (.invokevirtual 171, 3) := by decide +kernel
theorem dX12_done_4 : decode cX12_done 4 = .ok (.aload_n 0, 1) := by decide +kernel
theorem dX12_done_5 : decode cX12_done 5 = .ok (.getfield 161, 3) := by decide +kernel
theorem dX12_done_8 : decode cX12_done 8 = .ok (.ireturn, 1) := by decide +kernel
theorem dX12_quarrelOf_0 : decode cX12_quarrelOf 0 = .ok (.iconst 0, 1) := by decide +kernel
theorem dX12_quarrelOf_1 : decode cX12_quarrelOf 1 = .ok (.istore_n 2, 1) := by decide +kernel
theorem dX12_quarrelOf_2 : decode cX12_quarrelOf 2 = .ok (.iload_n 2, 1) := by decide +kernel
theorem dX12_quarrelOf_3 : decode cX12_quarrelOf 3 = .ok (.bipush 24, 2) := by decide +kernel
theorem dX12_quarrelOf_5 : decode cX12_quarrelOf 5 = .ok (.if_icmp .ge 115, 3) := by decide +kernel
theorem dX12_quarrelOf_8 : decode cX12_quarrelOf 8 = .ok (.iconst 0, 1) := by decide +kernel
theorem dX12_quarrelOf_9 : decode cX12_quarrelOf 9 = .ok (.istore_n 3, 1) := by decide +kernel
theorem dX12_quarrelOf_10 : decode cX12_quarrelOf 10 = .ok (.iload_n 3, 1) := by decide +kernel
theorem dX12_quarrelOf_11 : decode cX12_quarrelOf 11 = .ok (.aload_n 0, 1) := by decide +kernel
theorem dX12_quarrelOf_12 : decode cX12_quarrelOf 12 = .ok (.getfield 28, 3) := by decide +kernel
theorem dX12_quarrelOf_15 : decode cX12_quarrelOf 15 = .ok (.iconst 1, 1) := by decide +kernel
theorem dX12_quarrelOf_16 : decode cX12_quarrelOf 16 = .ok (.iaload, 1) := by decide +kernel
theorem dX12_quarrelOf_17 : decode cX12_quarrelOf 17 = .ok (.if_icmp .ge 97, 3) := by decide +kernel
theorem dX12_quarrelOf_20 : decode cX12_quarrelOf 20 = .ok (.aload_n 0, 1) := by decide +kernel
theorem dX12_quarrelOf_21 : decode cX12_quarrelOf 21 = .ok (.iload_n 3, 1) := by decide +kernel
theorem dX12_quarrelOf_22 : decode cX12_quarrelOf 22 = .ok (.iload_n 2, 1) := by decide +kernel
theorem dX12_quarrelOf_23 : decode cX12_quarrelOf 23 = .ok (.invokevirtual 192, 3) := by decide +kernel
theorem dX12_quarrelOf_26 : decode cX12_quarrelOf 26 = .ok (.istore 4, 2) := by decide +kernel
theorem dX12_quarrelOf_28 : decode cX12_quarrelOf 28 = .ok (.iload 4, 2) := by decide +kernel
theorem dX12_quarrelOf_30 : decode cX12_quarrelOf 30 = .ok (.invokestatic 186, 3) := by decide +kernel
theorem dX12_quarrelOf_33 : decode cX12_quarrelOf 33 = .ok (.iconst 1, 1) := by decide +kernel
theorem dX12_quarrelOf_34 : decode cX12_quarrelOf 34 = .ok (.if_icmp .le 74, 3) := by decide +kernel
theorem dX12_quarrelOf_37 : decode cX12_quarrelOf 37 = .ok (.iconst 0, 1) := by decide +kernel
theorem dX12_quarrelOf_38 : decode cX12_quarrelOf 38 = .ok (.istore 5, 2) := by decide +kernel
theorem dX12_quarrelOf_40 : decode cX12_quarrelOf 40 = .ok (.iload 4, 2) := by decide +kernel
theorem dX12_quarrelOf_42 : decode cX12_quarrelOf 42 = .ok (.iload 5, 2) := by decide +kernel
theorem dX12_quarrelOf_44 : decode cX12_quarrelOf 44 = .ok (.invokestatic 154, 3) := by decide +kernel
theorem dX12_quarrelOf_47 : decode cX12_quarrelOf 47 = .ok (.ifCond .ne 9, 3) := by decide +kernel
theorem dX12_quarrelOf_50 : decode cX12_quarrelOf 50 = .ok (.iinc 5 1, 3) := by decide +kernel
theorem dX12_quarrelOf_53 : decode cX12_quarrelOf 53 = .ok (.goto (-13), 3) := by decide +kernel
theorem dX12_quarrelOf_56 : decode cX12_quarrelOf 56 = .ok (.iload 5, 2) := by decide +kernel
theorem dX12_quarrelOf_58 : decode cX12_quarrelOf 58 = .ok (.iconst 1, 1) := by decide +kernel
theorem dX12_quarrelOf_59 : decode cX12_quarrelOf 59 = .ok (.iadd, 1) := by decide +kernel
theorem dX12_quarrelOf_60 : decode cX12_quarrelOf 60 = .ok (.istore 6, 2) := by decide +kernel
theorem dX12_quarrelOf_62 : decode cX12_quarrelOf 62 = .ok (.iload 4, 2) := by decide +kernel
theorem dX12_quarrelOf_64 : decode cX12_quarrelOf 64 = .ok (.iload 6, 2) := by decide +kernel
theorem dX12_quarrelOf_66 : decode cX12_quarrelOf 66 = .ok (.invokestatic 154, 3) := by decide +kernel
theorem dX12_quarrelOf_69 : decode cX12_quarrelOf 69 = .ok (.ifCond .ne 9, 3) := by decide +kernel
theorem dX12_quarrelOf_72 : decode cX12_quarrelOf 72 = .ok (.iinc 6 1, 3) := by decide +kernel
theorem dX12_quarrelOf_75 : decode cX12_quarrelOf 75 = .ok (.goto (-13), 3) := by decide +kernel
theorem dX12_quarrelOf_78 : decode cX12_quarrelOf 78 = .ok (.iload_n 1, 1) := by decide +kernel
theorem dX12_quarrelOf_79 : decode cX12_quarrelOf 79 = .ok (.ifCond .ne 7, 3) := by decide +kernel
theorem dX12_quarrelOf_82 : decode cX12_quarrelOf 82 = .ok (.iload_n 2, 1) := by decide +kernel
theorem dX12_quarrelOf_83 : decode cX12_quarrelOf 83 = .ok (.goto 24, 3) := by decide +kernel
theorem dX12_quarrelOf_86 : decode cX12_quarrelOf 86 = .ok (.iload_n 1, 1) := by decide +kernel
theorem dX12_quarrelOf_87 : decode cX12_quarrelOf 87 = .ok (.iconst 1, 1) := by decide +kernel
theorem dX12_quarrelOf_88 : decode cX12_quarrelOf 88 = .ok (.if_icmp .ne 7, 3) := by decide +kernel
theorem dX12_quarrelOf_91 : decode cX12_quarrelOf 91 = .ok (.iload_n 3, 1) := by decide +kernel
theorem dX12_quarrelOf_92 : decode cX12_quarrelOf 92 = .ok (.goto 15, 3) := by decide +kernel
theorem dX12_quarrelOf_95 : decode cX12_quarrelOf 95 = .ok (.iload_n 1, 1) := by decide +kernel
theorem dX12_quarrelOf_96 : decode cX12_quarrelOf 96 = .ok (.iconst 2, 1) := by decide +kernel
theorem dX12_quarrelOf_97 : decode cX12_quarrelOf 97 = .ok (.if_icmp .ne 8, 3) := by decide +kernel
theorem dX12_quarrelOf_100 : decode cX12_quarrelOf 100 = .ok (.iload 5, 2) := by decide +kernel
theorem dX12_quarrelOf_102 : decode cX12_quarrelOf 102 = .ok (.goto 5, 3) := by decide +kernel
theorem dX12_quarrelOf_105 : decode cX12_quarrelOf 105 = .ok (.iload 6, 2) := by decide +kernel
theorem dX12_quarrelOf_107 : decode cX12_quarrelOf 107 = .ok (.ireturn, 1) := by decide +kernel
theorem dX12_quarrelOf_108 : decode cX12_quarrelOf 108 = .ok (.iinc 3 1, 3) := by decide +kernel
theorem dX12_quarrelOf_111 : decode cX12_quarrelOf 111 = .ok (.goto (-101), 3) := by decide +kernel
theorem dX12_quarrelOf_114 : decode cX12_quarrelOf 114 = .ok (.iinc 2 1, 3) := by decide +kernel
theorem dX12_quarrelOf_117 : decode cX12_quarrelOf 117 = .ok (.goto (-115), 3) := by decide +kernel
theorem dX12_quarrelOf_120 : decode cX12_quarrelOf 120 = .ok (.iconst (-1), 1) := by decide +kernel
theorem dX12_quarrelOf_121 : decode cX12_quarrelOf 121 = .ok (.ireturn, 1) := by decide +kernel
theorem dX12_quarrel_0 : decode cX12_quarrel 0 = .ok (.aload_n 0, 1) := by decide +kernel
theorem dX12_quarrel_1 : decode cX12_quarrel 1 = .ok (.invokevirtual 171, 3) := by decide +kernel
theorem dX12_quarrel_4 : decode cX12_quarrel 4 = .ok (.iload_n 1, 1) := by decide +kernel
theorem dX12_quarrel_5 : decode cX12_quarrel 5 = .ok (.i2l, 1) := by decide +kernel
theorem dX12_quarrel_6 : decode cX12_quarrel 6 = .ok (.lconst 0, 1) := by decide +kernel
theorem dX12_quarrel_7 : decode cX12_quarrel 7 = .ok (.ldc2_w 65, 3) := by decide +kernel
theorem dX12_quarrel_10 : decode cX12_quarrel 10 = .ok (.invokestatic 57, 3) := by decide +kernel
theorem dX12_quarrel_13 : decode cX12_quarrel 13 = .ok (.ifCond .eq 11, 3) := by decide +kernel
theorem dX12_quarrel_16 : decode cX12_quarrel 16 = .ok (.aload_n 0, 1) := by decide +kernel
theorem dX12_quarrel_17 : decode cX12_quarrel 17 = .ok (.iload_n 1, 1) := by decide +kernel
theorem dX12_quarrel_18 : decode cX12_quarrel 18 = .ok (.invokevirtual 210, 3) := by decide +kernel
theorem dX12_quarrel_21 : decode cX12_quarrel 21 = .ok (.goto 5, 3) := by decide +kernel
theorem dX12_quarrel_24 : decode cX12_quarrel 24 = .ok (.bipush (-2), 2) := by decide +kernel
theorem dX12_quarrel_26 : decode cX12_quarrel 26 = .ok (.ireturn, 1) := by decide +kernel
theorem dX12_laysOut_0 : decode cX12_laysOut 0 = .ok (.iload_n 1, 1) := by decide +kernel
theorem dX12_laysOut_1 : decode cX12_laysOut 1 = .ok (.istore 4, 2) := by decide +kernel
theorem dX12_laysOut_3 : decode cX12_laysOut 3 = .ok (.iconst 0, 1) := by decide +kernel
theorem dX12_laysOut_4 : decode cX12_laysOut 4 = .ok (.istore 5, 2) := by decide +kernel
theorem dX12_laysOut_6 : decode cX12_laysOut 6 = .ok (.iload_n 2, 1) := by decide +kernel
theorem dX12_laysOut_7 : decode cX12_laysOut 7 = .ok (.iconst 1, 1) := by decide +kernel
theorem dX12_laysOut_8 : decode cX12_laysOut 8 = .ok (.isub, 1) := by decide +kernel
theorem dX12_laysOut_9 : decode cX12_laysOut 9 = .ok (.istore 6, 2) := by decide +kernel
theorem dX12_laysOut_11 : decode cX12_laysOut 11 = .ok (.iload 6, 2) := by decide +kernel
theorem dX12_laysOut_13 : decode cX12_laysOut 13 = .ok (.ifCond .lt 73, 3) := by decide +kernel
theorem dX12_laysOut_16 : decode cX12_laysOut 16 = .ok (.iload 4, 2) := by decide +kernel
theorem dX12_laysOut_18 : decode cX12_laysOut 18 = .ok (.iload_n 3, 1) := by decide +kernel
theorem dX12_laysOut_19 : decode cX12_laysOut 19 = .ok (.irem, 1) := by decide +kernel
theorem dX12_laysOut_20 : decode cX12_laysOut 20 = .ok (.istore 7, 2) := by decide +kernel
theorem dX12_laysOut_22 : decode cX12_laysOut 22 = .ok (.iload 4, 2) := by decide +kernel
theorem dX12_laysOut_24 : decode cX12_laysOut 24 = .ok (.iload_n 3, 1) := by decide +kernel
theorem dX12_laysOut_25 : decode cX12_laysOut 25 = .ok (.idiv, 1) := by decide +kernel
theorem dX12_laysOut_26 : decode cX12_laysOut 26 = .ok (.istore 4, 2) := by decide +kernel
theorem dX12_laysOut_28 : decode cX12_laysOut 28 = .ok (.aload_n 0, 1) := by decide +kernel
theorem dX12_laysOut_29 : decode cX12_laysOut 29 = .ok (.getfield 46, 3) := by decide +kernel
theorem dX12_laysOut_32 : decode cX12_laysOut 32 = .ok (.iload 6, 2) := by decide +kernel
theorem dX12_laysOut_34 : decode cX12_laysOut 34 = .ok (.iload 7, 2) := by decide +kernel
theorem dX12_laysOut_36 : decode cX12_laysOut 36 = .ok (.iload_n 3, 1) := by decide +kernel
theorem dX12_laysOut_37 : decode cX12_laysOut 37 = .ok (.iconst 1, 1) := by decide +kernel
theorem dX12_laysOut_38 : decode cX12_laysOut 38 = .ok (.isub, 1) := by decide +kernel
theorem dX12_laysOut_39 : decode cX12_laysOut 39 = .ok (.if_icmp .ne 7, 3) := by decide +kernel
theorem dX12_laysOut_42 : decode cX12_laysOut 42 = .ok (.iconst (-1), 1) := by decide +kernel
theorem dX12_laysOut_43 : decode cX12_laysOut 43 = .ok (.goto 5, 3) := by decide +kernel
theorem dX12_laysOut_46 : decode cX12_laysOut 46 = .ok (.iload 7, 2) := by decide +kernel
theorem dX12_laysOut_48 : decode cX12_laysOut 48 = .ok (.iastore, 1) := by decide +kernel
theorem dX12_laysOut_49 : decode cX12_laysOut 49 = .ok (.iload 5, 2) := by decide +kernel
theorem dX12_laysOut_51 : decode cX12_laysOut 51 = .ok (.aload_n 0, 1) := by decide +kernel
theorem dX12_laysOut_52 : decode cX12_laysOut 52 = .ok (.getfield 46, 3) := by decide +kernel
theorem dX12_laysOut_55 : decode cX12_laysOut 55 = .ok (.iload 6, 2) := by decide +kernel
theorem dX12_laysOut_57 : decode cX12_laysOut 57 = .ok (.iaload, 1) := by decide +kernel
theorem dX12_laysOut_58 : decode cX12_laysOut 58 = .ok (.iconst (-1), 1) := by decide +kernel
theorem dX12_laysOut_59 : decode cX12_laysOut 59 = .ok (.if_icmp .ne 7, 3) := by decide +kernel
theorem dX12_laysOut_62 : decode cX12_laysOut 62 = .ok (.iconst 0, 1) := by decide +kernel
theorem dX12_laysOut_63 : decode cX12_laysOut 63 = .ok (.goto 14, 3) := by decide +kernel
theorem dX12_laysOut_66 : decode cX12_laysOut 66 = .ok (.aload_n 0, 1) := by decide +kernel
theorem dX12_laysOut_67 : decode cX12_laysOut 67 = .ok (.getfield 31, 3) := by decide +kernel
theorem dX12_laysOut_70 : decode cX12_laysOut 70 = .ok (.iconst 5, 1) := by decide +kernel
theorem dX12_laysOut_71 : decode cX12_laysOut 71 = .ok (.iload 6, 2) := by decide +kernel
theorem dX12_laysOut_73 : decode cX12_laysOut 73 = .ok (.imul, 1) := by decide +kernel
theorem dX12_laysOut_74 : decode cX12_laysOut 74 = .ok (.iconst 2, 1) := by decide +kernel
theorem dX12_laysOut_75 : decode cX12_laysOut 75 = .ok (.iadd, 1) := by decide +kernel
theorem dX12_laysOut_76 : decode cX12_laysOut 76 = .ok (.iaload, 1) := by decide +kernel
theorem dX12_laysOut_77 : decode cX12_laysOut 77 = .ok (.iadd, 1) := by decide +kernel
theorem dX12_laysOut_78 : decode cX12_laysOut 78 = .ok (.istore 5, 2) := by decide +kernel
theorem dX12_laysOut_80 : decode cX12_laysOut 80 = .ok (.iinc 6 (-1), 3) := by decide +kernel
theorem dX12_laysOut_83 : decode cX12_laysOut 83 = .ok (.goto (-72), 3) := by decide +kernel
theorem dX12_laysOut_86 : decode cX12_laysOut 86 = .ok (.iload 5, 2) := by decide +kernel
theorem dX12_laysOut_88 : decode cX12_laysOut 88 = .ok (.ireturn, 1) := by decide +kernel
theorem dX12_findBest_0 : decode cX12_findBest 0 = .ok (.aload_n 0, 1) := by decide +kernel
theorem dX12_findBest_1 : decode cX12_findBest 1 = .ok (.getfield 28, 3) := by decide +kernel
theorem dX12_findBest_4 : decode cX12_findBest 4 = .ok (.iconst 0, 1) := by decide +kernel
theorem dX12_findBest_5 : decode cX12_findBest 5 = .ok (.iaload, 1) := by decide +kernel
theorem dX12_findBest_6 : decode cX12_findBest 6 = .ok (.bipush 6, 2) := by decide +kernel
theorem dX12_findBest_8 : decode cX12_findBest 8 = .ok (.invokestatic 213, 3) := by decide +kernel
theorem dX12_findBest_11 : decode cX12_findBest 11 = .ok (.istore_n 1, 1) := by decide +kernel
theorem dX12_findBest_12 : decode cX12_findBest 12 = .ok (.aload_n 0, 1) := by decide +kernel
theorem dX12_findBest_13 : decode cX12_findBest 13 = .ok (.getfield 28, 3) := by decide +kernel
theorem dX12_findBest_16 : decode cX12_findBest 16 = .ok (.iconst 1, 1) := by decide +kernel
theorem dX12_findBest_17 : decode cX12_findBest 17 = .ok (.iaload, 1) := by decide +kernel
theorem dX12_findBest_18 : decode cX12_findBest 18 = .ok (.iconst 4, 1) := by decide +kernel
theorem dX12_findBest_19 : decode cX12_findBest 19 = .ok (.invokestatic 213, 3) := by decide +kernel
theorem dX12_findBest_22 : decode cX12_findBest 22 = .ok (.istore_n 2, 1) := by decide +kernel
theorem dX12_findBest_23 : decode cX12_findBest 23 = .ok (.iconst 1, 1) := by decide +kernel
theorem dX12_findBest_24 : decode cX12_findBest 24 = .ok (.istore_n 3, 1) := by decide +kernel
theorem dX12_findBest_25 : decode cX12_findBest 25 = .ok (.iconst 0, 1) := by decide +kernel
theorem dX12_findBest_26 : decode cX12_findBest 26 = .ok (.istore 4, 2) := by decide +kernel
theorem dX12_findBest_28 : decode cX12_findBest 28 = .ok (.iload 4, 2) := by decide +kernel
theorem dX12_findBest_30 : decode cX12_findBest 30 = .ok (.iload_n 1, 1) := by decide +kernel
theorem dX12_findBest_31 : decode cX12_findBest 31 = .ok (.if_icmp .ge 15, 3) := by decide +kernel
theorem dX12_findBest_34 : decode cX12_findBest 34 = .ok (.iload_n 3, 1) := by decide +kernel
theorem dX12_findBest_35 : decode cX12_findBest 35 = .ok (.iload_n 2, 1) := by decide +kernel
theorem dX12_findBest_36 : decode cX12_findBest 36 = .ok (.iconst 1, 1) := by decide +kernel
theorem dX12_findBest_37 : decode cX12_findBest 37 = .ok (.iadd, 1) := by decide +kernel
theorem dX12_findBest_38 : decode cX12_findBest 38 = .ok (.imul, 1) := by decide +kernel
theorem dX12_findBest_39 : decode cX12_findBest 39 = .ok (.istore_n 3, 1) := by decide +kernel
theorem dX12_findBest_40 : decode cX12_findBest 40 = .ok (.iinc 4 1, 3) := by decide +kernel
theorem dX12_findBest_43 : decode cX12_findBest 43 = .ok (.goto (-15), 3) := by decide +kernel
theorem dX12_findBest_46 : decode cX12_findBest 46 = .ok (.iconst 0, 1) := by decide +kernel
theorem dX12_findBest_47 : decode cX12_findBest 47 = .ok (.istore 4, 2) := by decide +kernel
theorem dX12_findBest_49 : decode cX12_findBest 49 = .ok (.iload 4, 2) := by decide +kernel
theorem dX12_findBest_51 : decode cX12_findBest 51 = .ok (.bipush 8, 2) := by decide +kernel
theorem dX12_findBest_53 : decode cX12_findBest 53 = .ok (.if_icmp .ge 17, 3) := by decide +kernel
theorem dX12_findBest_56 : decode cX12_findBest 56 = .ok (.aload_n 0, 1) := by decide +kernel
theorem dX12_findBest_57 : decode cX12_findBest 57 = .ok (.getfield 46, 3) := by decide +kernel
theorem dX12_findBest_60 : decode cX12_findBest 60 = .ok (.iload 4, 2) := by decide +kernel
theorem dX12_findBest_62 : decode cX12_findBest 62 = .ok (.iconst (-1), 1) := by decide +kernel
theorem dX12_findBest_63 : decode cX12_findBest 63 = .ok (.iastore, 1) := by decide +kernel
theorem dX12_findBest_64 : decode cX12_findBest 64 = .ok (.iinc 4 1, 3) := by decide +kernel
theorem dX12_findBest_67 : decode cX12_findBest 67 = .ok (.goto (-18), 3) := by decide +kernel
theorem dX12_findBest_70 : decode cX12_findBest 70 = .ok (.aload_n 0, 1) := by decide +kernel
theorem dX12_findBest_71 : decode cX12_findBest 71 = .ok (.iconst (-1), 1) := by decide +kernel
theorem dX12_findBest_72 : decode cX12_findBest 72 = .ok (.putfield 216, 3) := by decide +kernel
theorem dX12_findBest_75 : decode cX12_findBest 75 = .ok (.iconst 0, 1) := by decide +kernel
theorem dX12_findBest_76 : decode cX12_findBest 76 = .ok (.istore 4, 2) := by decide +kernel
theorem dX12_findBest_78 : decode cX12_findBest 78 = .ok (.iload 4, 2) := by decide +kernel
theorem dX12_findBest_80 : decode cX12_findBest 80 = .ok (.iload_n 3, 1) := by decide +kernel
theorem dX12_findBest_81 : decode cX12_findBest 81 = .ok (.if_icmp .ge 97, 3) := by decide +kernel
theorem dX12_findBest_84 : decode cX12_findBest 84 = .ok (.aload_n 0, 1) := by decide +kernel
theorem dX12_findBest_85 : decode cX12_findBest 85 = .ok (.iload 4, 2) := by decide +kernel
theorem dX12_findBest_87 : decode cX12_findBest 87 = .ok (.iload_n 1, 1) := by decide +kernel
theorem dX12_findBest_88 : decode cX12_findBest 88 = .ok (.iload_n 2, 1) := by decide +kernel
theorem dX12_findBest_89 : decode cX12_findBest 89 = .ok (.iconst 1, 1) := by decide +kernel
theorem dX12_findBest_90 : decode cX12_findBest 90 = .ok (.iadd, 1) := by decide +kernel
theorem dX12_findBest_91 : decode cX12_findBest 91 = .ok (.invokevirtual 219, 3) := by decide +kernel
theorem dX12_findBest_94 : decode cX12_findBest 94 = .ok (.istore 5, 2) := by decide +kernel
theorem dX12_findBest_96 : decode cX12_findBest 96 = .ok (.iload 5, 2) := by decide +kernel
theorem dX12_findBest_98 : decode cX12_findBest 98 = .ok (.aload_n 0, 1) := by decide +kernel
theorem dX12_findBest_99 : decode cX12_findBest 99 = .ok (.getfield 216, 3) := by decide +kernel
theorem dX12_findBest_102 : decode cX12_findBest 102 = .ok (.if_icmp .le 70, 3) := by decide +kernel
theorem dX12_findBest_105 : decode cX12_findBest 105 = .ok (.iconst 1, 1) := by decide +kernel
theorem dX12_findBest_106 : decode cX12_findBest 106 = .ok (.istore 6, 2) := by decide +kernel
theorem dX12_findBest_108 : decode cX12_findBest 108 = .ok (.iconst 0, 1) := by decide +kernel
theorem dX12_findBest_109 : decode cX12_findBest 109 = .ok (.istore 7, 2) := by decide +kernel
theorem dX12_findBest_111 : decode cX12_findBest 111 = .ok (.iload 7, 2) := by decide +kernel
theorem dX12_findBest_113 : decode cX12_findBest 113 = .ok (.iload_n 2, 1) := by decide +kernel
theorem dX12_findBest_114 : decode cX12_findBest 114 = .ok (.if_icmp .ge 22, 3) := by decide +kernel
theorem dX12_findBest_117 : decode cX12_findBest 117 = .ok (.iload 6, 2) := by decide +kernel
theorem dX12_findBest_119 : decode cX12_findBest 119 = .ok (.ifCond .eq 17, 3) := by decide +kernel
theorem dX12_findBest_122 : decode cX12_findBest 122 = .ok (.aload_n 0, 1) := by decide +kernel
theorem dX12_findBest_123 : decode cX12_findBest 123 = .ok (.iload 7, 2) := by decide +kernel
theorem dX12_findBest_125 : decode cX12_findBest 125 = .ok (.invokevirtual 198, 3) := by decide +kernel
theorem dX12_findBest_128 : decode cX12_findBest 128 = .ok (.istore 6, 2) := by decide +kernel
theorem dX12_findBest_130 : decode cX12_findBest 130 = .ok (.iinc 7 1, 3) := by decide +kernel
theorem dX12_findBest_133 : decode cX12_findBest 133 = .ok (.goto (-22), 3) := by decide +kernel
theorem dX12_findBest_136 : decode cX12_findBest 136 = .ok (.aload_n 0, 1) := by decide +kernel
theorem dX12_findBest_137 : decode cX12_findBest 137 = .ok (.iload 6, 2) := by decide +kernel
theorem dX12_findBest_139 : decode cX12_findBest 139 = .ok (.ifCond .eq 8, 3) := by decide +kernel
theorem dX12_findBest_142 : decode cX12_findBest 142 = .ok (.iload 4, 2) := by decide +kernel
theorem dX12_findBest_144 : decode cX12_findBest 144 = .ok (.goto 7, 3) := by decide +kernel
theorem dX12_findBest_147 : decode cX12_findBest 147 = .ok (.aload_n 0, 1) := by decide +kernel
theorem dX12_findBest_148 : decode cX12_findBest 148 = .ok (.getfield 222, 3) := by decide +kernel
theorem dX12_findBest_151 : decode cX12_findBest 151 = .ok (.putfield 222, 3) := by decide +kernel
theorem dX12_findBest_154 : decode cX12_findBest 154 = .ok (.aload_n 0, 1) := by decide +kernel
theorem dX12_findBest_155 : decode cX12_findBest 155 = .ok (.iload 6, 2) := by decide +kernel
theorem dX12_findBest_157 : decode cX12_findBest 157 = .ok (.ifCond .eq 8, 3) := by decide +kernel
theorem dX12_findBest_160 : decode cX12_findBest 160 = .ok (.iload 5, 2) := by decide +kernel
theorem dX12_findBest_162 : decode cX12_findBest 162 = .ok (.goto 7, 3) := by decide +kernel
theorem dX12_findBest_165 : decode cX12_findBest 165 = .ok (.aload_n 0, 1) := by decide +kernel
theorem dX12_findBest_166 : decode cX12_findBest 166 = .ok (.getfield 216, 3) := by decide +kernel
theorem dX12_findBest_169 : decode cX12_findBest 169 = .ok (.putfield 216, 3) := by decide +kernel
theorem dX12_findBest_172 : decode cX12_findBest 172 = .ok (.iinc 4 1, 3) := by decide +kernel
theorem dX12_findBest_175 : decode cX12_findBest 175 = .ok (.goto (-97), 3) := by decide +kernel
theorem dX12_findBest_178 : decode cX12_findBest 178 = .ok (.aload_n 0, 1) := by decide +kernel
theorem dX12_findBest_179 : decode cX12_findBest 179 = .ok (.aload_n 0, 1) := by decide +kernel
theorem dX12_findBest_180 : decode cX12_findBest 180 = .ok (.getfield 222, 3) := by decide +kernel
theorem dX12_findBest_183 : decode cX12_findBest 183 = .ok (.iload_n 1, 1) := by decide +kernel
theorem dX12_findBest_184 : decode cX12_findBest 184 = .ok (.iload_n 2, 1) := by decide +kernel
theorem dX12_findBest_185 : decode cX12_findBest 185 = .ok (.iconst 1, 1) := by decide +kernel
theorem dX12_findBest_186 : decode cX12_findBest 186 = .ok (.iadd, 1) := by decide +kernel
theorem dX12_findBest_187 : decode cX12_findBest 187 = .ok (.invokevirtual 219, 3) := by decide +kernel
theorem dX12_findBest_190 : decode cX12_findBest 190 = .ok (.pop, 1) := by decide +kernel
theorem dX12_findBest_191 : decode cX12_findBest 191 = .ok (.return_, 1) := by decide +kernel
theorem dX12_bestOf_0 : decode cX12_bestOf 0 = .ok (.aload_n 0, 1) := by decide +kernel
theorem dX12_bestOf_1 : decode cX12_bestOf 1 = .ok (.invokevirtual 225, 3) := by decide +kernel
theorem dX12_bestOf_4 : decode cX12_bestOf 4 = .ok (.iload_n 1, 1) := by decide +kernel
theorem dX12_bestOf_5 : decode cX12_bestOf 5 = .ok (.iconst (-1), 1) := by decide +kernel
theorem dX12_bestOf_6 : decode cX12_bestOf 6 = .ok (.if_icmp .ne 10, 3) := by decide +kernel
theorem dX12_bestOf_9 : decode cX12_bestOf 9 = .ok (.aload_n 0, 1) := by decide +kernel
theorem dX12_bestOf_10 : decode cX12_bestOf 10 = .ok (.getfield 216, 3) := by decide +kernel
theorem dX12_bestOf_13 : decode cX12_bestOf 13 = .ok (.goto 23, 3) := by decide +kernel
theorem dX12_bestOf_16 : decode cX12_bestOf 16 = .ok (.iload_n 1, 1) := by decide +kernel
theorem dX12_bestOf_17 : decode cX12_bestOf 17 = .ok (.aload_n 0, 1) := by decide +kernel
theorem dX12_bestOf_18 : decode cX12_bestOf 18 = .ok (.getfield 28, 3) := by decide +kernel
theorem dX12_bestOf_21 : decode cX12_bestOf 21 = .ok (.iconst 0, 1) := by decide +kernel
theorem dX12_bestOf_22 : decode cX12_bestOf 22 = .ok (.iaload, 1) := by decide +kernel
theorem dX12_bestOf_23 : decode cX12_bestOf 23 = .ok (.if_icmp .ge 12, 3) := by decide +kernel
theorem dX12_bestOf_26 : decode cX12_bestOf 26 = .ok (.aload_n 0, 1) := by decide +kernel
theorem dX12_bestOf_27 : decode cX12_bestOf 27 = .ok (.getfield 46, 3) := by decide +kernel
theorem dX12_bestOf_30 : decode cX12_bestOf 30 = .ok (.iload_n 1, 1) := by decide +kernel
theorem dX12_bestOf_31 : decode cX12_bestOf 31 = .ok (.iaload, 1) := by decide +kernel
theorem dX12_bestOf_32 : decode cX12_bestOf 32 = .ok (.goto 4, 3) := by decide +kernel
theorem dX12_bestOf_35 : decode cX12_bestOf 35 = .ok (.iconst (-1), 1) := by decide +kernel
theorem dX12_bestOf_36 : decode cX12_bestOf 36 = .ok (.ireturn, 1) := by decide +kernel
theorem dX12_best_0 : decode cX12_best 0 = .ok (.aload_n 0, 1) := by decide +kernel
theorem dX12_best_1 : decode cX12_best 1 = .ok (.invokevirtual 125, 3) := by decide +kernel
theorem dX12_best_4 : decode cX12_best 4 = .ok (.iload_n 1, 1) := by decide +kernel
theorem dX12_best_5 : decode cX12_best 5 = .ok (.i2l, 1) := by decide +kernel
theorem dX12_best_6 : decode cX12_best 6 = .ok (.ldc2_w 228, 3) := by decide +kernel
theorem dX12_best_9 : decode cX12_best 9 = .ok (.ldc2_w 121, 3) := by decide +kernel
theorem dX12_best_12 : decode cX12_best 12 = .ok (.invokestatic 57, 3) := by decide +kernel
theorem dX12_best_15 : decode cX12_best 15 = .ok (.ifCond .eq 11, 3) := by decide +kernel
theorem dX12_best_18 : decode cX12_best 18 = .ok (.aload_n 0, 1) := by decide +kernel
theorem dX12_best_19 : decode cX12_best 19 = .ok (.iload_n 1, 1) := by decide +kernel
theorem dX12_best_20 : decode cX12_best 20 = .ok (.invokevirtual 230, 3) := by decide +kernel
theorem dX12_best_23 : decode cX12_best 23 = .ok (.goto 5, 3) := by decide +kernel
theorem dX12_best_26 : decode cX12_best 26 = .ok (.bipush (-2), 2) := by decide +kernel
theorem dX12_best_28 : decode cX12_best 28 = .ok (.ireturn, 1) := by decide +kernel
theorem dX12_tells_0 : decode cX12_tells 0 = .ok (.iload_n 0, 1) := by decide +kernel
theorem dX12_tells_1 : decode cX12_tells 1 = .ok (.iconst (-1), 1) := by decide +kernel
theorem dX12_tells_2 : decode cX12_tells 2 = .ok (.if_icmp .eq 8, 3) := by decide +kernel
theorem dX12_tells_5 : decode cX12_tells 5 = .ok (.iload_n 1, 1) := by decide +kernel
theorem dX12_tells_6 : decode cX12_tells 6 = .ok (.iconst 1, 1) := by decide +kernel
theorem dX12_tells_7 : decode cX12_tells 7 = .ok (.if_icmp .ne 7, 3) := by decide +kernel
theorem dX12_tells_10 : decode cX12_tells 10 = .ok (.iload_n 0, 1) := by decide +kernel
theorem dX12_tells_11 : decode cX12_tells 11 = .ok (.goto 7, 3) := by decide +kernel
theorem dX12_tells_14 : decode cX12_tells 14 = .ok (.iload_n 0, 1) := by decide +kernel
theorem dX12_tells_15 : decode cX12_tells 15 = .ok (.invokestatic 186, 3) := by decide +kernel
theorem dX12_tells_18 : decode cX12_tells 18 = .ok (.ireturn, 1) := by decide +kernel
theorem dX12_writeOf_0 : decode cX12_writeOf 0 = .ok (.iconst (-1), 1) := by decide +kernel
theorem dX12_writeOf_1 : decode cX12_writeOf 1 = .ok (.istore_n 2, 1) := by decide +kernel
theorem dX12_writeOf_2 : decode cX12_writeOf 2 = .ok (.aload_n 0, 1) := by decide +kernel
theorem dX12_writeOf_3 : decode cX12_writeOf 3 = .ok (.iload_n 1, 1) := by decide +kernel
theorem dX12_writeOf_4 : decode cX12_writeOf 4 = .ok (.putfield 148, 3) := by decide +kernel
theorem dX12_writeOf_7 : decode cX12_writeOf 7 = .ok (.iconst 0, 1) := by decide +kernel
theorem dX12_writeOf_8 : decode cX12_writeOf 8 = .ok (.istore_n 3, 1) := by decide +kernel
theorem dX12_writeOf_9 : decode cX12_writeOf 9 = .ok (.iload_n 3, 1) := by decide +kernel
theorem dX12_writeOf_10 : decode cX12_writeOf 10 = .ok (.iconst 1, 1) := by decide +kernel
theorem dX12_writeOf_11 : decode cX12_writeOf 11 = .ok (.aload_n 0, 1) := by decide +kernel
theorem dX12_writeOf_12 : decode cX12_writeOf 12 = .ok (.getfield 28, 3) := by decide +kernel
theorem dX12_writeOf_15 : decode cX12_writeOf 15 = .ok (.iconst 0, 1) := by decide +kernel
theorem dX12_writeOf_16 : decode cX12_writeOf 16 = .ok (.iaload, 1) := by decide +kernel
theorem dX12_writeOf_17 : decode cX12_writeOf 17 = .ok (.ishl, 1) := by decide +kernel
theorem dX12_writeOf_18 : decode cX12_writeOf 18 = .ok (.if_icmp .ge 48, 3) := by decide +kernel
theorem dX12_writeOf_21 : decode cX12_writeOf 21 = .ok (.iload_n 2, 1) := by decide +kernel
theorem dX12_writeOf_22 : decode cX12_writeOf 22 = .ok (.iconst (-1), 1) := by decide +kernel
theorem dX12_writeOf_23 : decode cX12_writeOf 23 = .ok (.if_icmp .eq 14, 3) := by decide +kernel
theorem dX12_writeOf_26 : decode cX12_writeOf 26 = .ok (.iload_n 3, 1) := by decide +kernel
theorem dX12_writeOf_27 : decode cX12_writeOf 27 = .ok (.invokestatic 186, 3) := by decide +kernel
theorem dX12_writeOf_30 : decode cX12_writeOf 30 = .ok (.iload_n 2, 1) := by decide +kernel
theorem dX12_writeOf_31 : decode cX12_writeOf 31 = .ok (.invokestatic 186, 3) := by decide +kernel
theorem dX12_writeOf_34 : decode cX12_writeOf 34 = .ok (.if_icmp .ge 26, 3) := by decide +kernel
theorem dX12_writeOf_37 : decode cX12_writeOf 37 = .ok (.aload_n 0, 1) := by decide +kernel
theorem dX12_writeOf_38 : decode cX12_writeOf 38 = .ok (.iload_n 3, 1) := by decide +kernel
theorem dX12_writeOf_39 : decode cX12_writeOf 39 = .ok (.putfield 151, 3) := by decide +kernel
theorem dX12_writeOf_42 : decode cX12_writeOf 42 = .ok (.aload_n 0, 1) := by decide +kernel
theorem dX12_writeOf_43 : decode cX12_writeOf 43 = .ok (.invokevirtual 168, 3) := by decide +kernel
theorem dX12_writeOf_46 : decode cX12_writeOf 46 = .ok (.aload_n 0, 1) := by decide +kernel
theorem dX12_writeOf_47 : decode cX12_writeOf 47 = .ok (.iload_n 1, 1) := by decide +kernel
theorem dX12_writeOf_48 : decode cX12_writeOf 48 = .ok (.invokevirtual 198, 3) := by decide +kernel
theorem dX12_writeOf_51 : decode cX12_writeOf 51 = .ok (.ifCond .eq 7, 3) := by decide +kernel
theorem dX12_writeOf_54 : decode cX12_writeOf 54 = .ok (.iload_n 3, 1) := by decide +kernel
theorem dX12_writeOf_55 : decode cX12_writeOf 55 = .ok (.goto 4, 3) := by decide +kernel
theorem dX12_writeOf_58 : decode cX12_writeOf 58 = .ok (.iload_n 2, 1) := by decide +kernel
theorem dX12_writeOf_59 : decode cX12_writeOf 59 = .ok (.istore_n 2, 1) := by decide +kernel
theorem dX12_writeOf_60 : decode cX12_writeOf 60 = .ok (.iinc 3 1, 3) := by decide +kernel
theorem dX12_writeOf_63 : decode cX12_writeOf 63 = .ok (.goto (-54), 3) := by decide +kernel
theorem dX12_writeOf_66 : decode cX12_writeOf 66 = .ok (.aload_n 0, 1) := by decide +kernel
theorem dX12_writeOf_67 : decode cX12_writeOf 67 = .ok (.iconst 0, 1) := by decide +kernel
theorem dX12_writeOf_68 : decode cX12_writeOf 68 = .ok (.putfield 151, 3) := by decide +kernel
theorem dX12_writeOf_71 : decode cX12_writeOf 71 = .ok (.aload_n 0, 1) := by decide +kernel
theorem dX12_writeOf_72 : decode cX12_writeOf 72 = .ok (.invokevirtual 168, 3) := by decide +kernel
theorem dX12_writeOf_75 : decode cX12_writeOf 75 = .ok (.iload_n 2, 1) := by decide +kernel
theorem dX12_writeOf_76 : decode cX12_writeOf 76 = .ok (.ireturn, 1) := by decide +kernel
theorem dX12_write_0 : decode cX12_write 0 = .ok (.aload_n 0, 1) := by decide +kernel
theorem dX12_write_1 : decode cX12_write 1 = .ok (.invokevirtual 171, 3) := by decide +kernel
theorem dX12_write_4 : decode cX12_write 4 = .ok (.aload_n 0, 1) := by decide +kernel
theorem dX12_write_5 : decode cX12_write 5 = .ok (.iload_n 1, 1) := by decide +kernel
theorem dX12_write_6 : decode cX12_write 6 = .ok (.invokevirtual 133, 3) := by decide +kernel
theorem dX12_write_9 : decode cX12_write 9 = .ok (.ifCond .eq 22, 3) := by decide +kernel
theorem dX12_write_12 : decode cX12_write 12 = .ok (.iload_n 2, 1) := by decide +kernel
theorem dX12_write_13 : decode cX12_write 13 = .ok (.invokestatic 233, 3) := by decide +kernel
theorem dX12_write_16 : decode cX12_write 16 = .ok (.ifCond .eq 15, 3) := by decide +kernel
theorem dX12_write_19 : decode cX12_write 19 = .ok (.aload_n 0, 1) := by decide +kernel
theorem dX12_write_20 : decode cX12_write 20 = .ok (.iload_n 1, 1) := by decide +kernel
theorem dX12_write_21 : decode cX12_write 21 = .ok (.invokevirtual 236, 3) := by decide +kernel
theorem dX12_write_24 : decode cX12_write 24 = .ok (.iload_n 2, 1) := by decide +kernel
theorem dX12_write_25 : decode cX12_write 25 = .ok (.invokestatic 239, 3) := by decide +kernel
theorem dX12_write_28 : decode cX12_write 28 = .ok (.goto 5, 3) := by decide +kernel
theorem dX12_write_31 : decode cX12_write 31 = .ok (.bipush (-2), 2) := by decide +kernel
theorem dX12_write_33 : decode cX12_write 33 = .ok (.ireturn, 1) := by decide +kernel
theorem dX12_valueOf_0 : decode cX12_valueOf 0 = .ok (.iconst 0, 1) := by decide +kernel
theorem dX12_valueOf_1 : decode cX12_valueOf 1 = .ok (.istore_n 3, 1) := by decide +kernel
theorem dX12_valueOf_2 : decode cX12_valueOf 2 = .ok (.iconst 0, 1) := by decide +kernel
theorem dX12_valueOf_3 : decode cX12_valueOf 3 = .ok (.istore 4, 2) := by decide +kernel
theorem dX12_valueOf_5 : decode cX12_valueOf 5 = .ok (.iload 4, 2) := by decide +kernel
theorem dX12_valueOf_7 : decode cX12_valueOf 7 = .ok (.bipush 7, 2) := by decide +kernel
theorem dX12_valueOf_9 : decode cX12_valueOf 9 = .ok (.if_icmp .ge 37, 3) := by decide +kernel
theorem dX12_valueOf_12 : decode cX12_valueOf 12 = .ok (.iload_n 3, 1) := by decide +kernel
theorem dX12_valueOf_13 : decode cX12_valueOf 13 = .ok (.iload_n 2, 1) := by decide +kernel
theorem dX12_valueOf_14 : decode cX12_valueOf 14 = .ok (.iload 4, 2) := by decide +kernel
theorem dX12_valueOf_16 : decode cX12_valueOf 16 = .ok (.invokestatic 154, 3) := by decide +kernel
theorem dX12_valueOf_19 : decode cX12_valueOf 19 = .ok (.ifCond .eq 18, 3) := by decide +kernel
theorem dX12_valueOf_22 : decode cX12_valueOf 22 = .ok (.aload_n 0, 1) := by decide +kernel
theorem dX12_valueOf_23 : decode cX12_valueOf 23 = .ok (.getfield 43, 3) := by decide +kernel
theorem dX12_valueOf_26 : decode cX12_valueOf 26 = .ok (.bipush 7, 2) := by decide +kernel
theorem dX12_valueOf_28 : decode cX12_valueOf 28 = .ok (.iload_n 1, 1) := by decide +kernel
theorem dX12_valueOf_29 : decode cX12_valueOf 29 = .ok (.imul, 1) := by decide +kernel
theorem dX12_valueOf_30 : decode cX12_valueOf 30 = .ok (.iload 4, 2) := by decide +kernel
theorem dX12_valueOf_32 : decode cX12_valueOf 32 = .ok (.iadd, 1) := by decide +kernel
theorem dX12_valueOf_33 : decode cX12_valueOf 33 = .ok (.iaload, 1) := by decide +kernel
theorem dX12_valueOf_34 : decode cX12_valueOf 34 = .ok (.goto 4, 3) := by decide +kernel
theorem dX12_valueOf_37 : decode cX12_valueOf 37 = .ok (.iconst 0, 1) := by decide +kernel
theorem dX12_valueOf_38 : decode cX12_valueOf 38 = .ok (.iadd, 1) := by decide +kernel
theorem dX12_valueOf_39 : decode cX12_valueOf 39 = .ok (.istore_n 3, 1) := by decide +kernel
theorem dX12_valueOf_40 : decode cX12_valueOf 40 = .ok (.iinc 4 1, 3) := by decide +kernel
theorem dX12_valueOf_43 : decode cX12_valueOf 43 = .ok (.goto (-38), 3) := by decide +kernel
theorem dX12_valueOf_46 : decode cX12_valueOf 46 = .ok (.iload_n 3, 1) := by decide +kernel
theorem dX12_valueOf_47 : decode cX12_valueOf 47 = .ok (.ireturn, 1) := by decide +kernel
theorem dX12_partOf_0 : decode cX12_partOf 0 = .ok (.iconst (-1), 1) := by decide +kernel
theorem dX12_partOf_1 : decode cX12_partOf 1 = .ok (.istore 4, 2) := by decide +kernel
theorem dX12_partOf_3 : decode cX12_partOf 3 = .ok (.iconst (-1), 1) := by decide +kernel
theorem dX12_partOf_4 : decode cX12_partOf 4 = .ok (.istore 5, 2) := by decide +kernel
theorem dX12_partOf_6 : decode cX12_partOf 6 = .ok (.iconst 0, 1) := by decide +kernel
theorem dX12_partOf_7 : decode cX12_partOf 7 = .ok (.istore 6, 2) := by decide +kernel
theorem dX12_partOf_9 : decode cX12_partOf 9 = .ok (.iload 6, 2) := by decide +kernel
theorem dX12_partOf_11 : decode cX12_partOf 11 = .ok (.sipush 128, 3) := by decide +kernel
theorem dX12_partOf_14 : decode cX12_partOf 14 = .ok (.if_icmp .ge 117, 3) := by decide +kernel
theorem dX12_partOf_17 : decode cX12_partOf 17 = .ok (.aload_n 0, 1) := by decide +kernel
theorem dX12_partOf_18 : decode cX12_partOf 18 = .ok (.iload_n 1, 1) := by decide +kernel
theorem dX12_partOf_19 : decode cX12_partOf 19 = .ok (.iload 6, 2) := by decide +kernel
theorem dX12_partOf_21 : decode cX12_partOf 21 = .ok (.invokevirtual 242, 3) := by decide +kernel
theorem dX12_partOf_24 : decode cX12_partOf 24 = .ok (.istore 7, 2) := by decide +kernel
theorem dX12_partOf_26 : decode cX12_partOf 26 = .ok (.aload_n 0, 1) := by decide +kernel
theorem dX12_partOf_27 : decode cX12_partOf 27 = .ok (.iload_n 2, 1) := by decide +kernel
theorem dX12_partOf_28 : decode cX12_partOf 28 = .ok (.bipush 127, 2) := by decide +kernel
theorem dX12_partOf_30 : decode cX12_partOf 30 = .ok (.iload 6, 2) := by decide +kernel
theorem dX12_partOf_32 : decode cX12_partOf 32 = .ok (.isub, 1) := by decide +kernel
theorem dX12_partOf_33 : decode cX12_partOf 33 = .ok (.invokevirtual 242, 3) := by decide +kernel
theorem dX12_partOf_36 : decode cX12_partOf 36 = .ok (.istore 8, 2) := by decide +kernel
theorem dX12_partOf_38 : decode cX12_partOf 38 = .ok (.iload 7, 2) := by decide +kernel
theorem dX12_partOf_40 : decode cX12_partOf 40 = .ok (.aload_n 0, 1) := by decide +kernel
theorem dX12_partOf_41 : decode cX12_partOf 41 = .ok (.iload_n 1, 1) := by decide +kernel
theorem dX12_partOf_42 : decode cX12_partOf 42 = .ok (.bipush 127, 2) := by decide +kernel
theorem dX12_partOf_44 : decode cX12_partOf 44 = .ok (.iload 6, 2) := by decide +kernel
theorem dX12_partOf_46 : decode cX12_partOf 46 = .ok (.isub, 1) := by decide +kernel
theorem dX12_partOf_47 : decode cX12_partOf 47 = .ok (.invokevirtual 242, 3) := by decide +kernel
theorem dX12_partOf_50 : decode cX12_partOf 50 = .ok (.if_icmp .lt 19, 3) := by decide +kernel
theorem dX12_partOf_53 : decode cX12_partOf 53 = .ok (.iload 8, 2) := by decide +kernel
theorem dX12_partOf_55 : decode cX12_partOf 55 = .ok (.aload_n 0, 1) := by decide +kernel
theorem dX12_partOf_56 : decode cX12_partOf 56 = .ok (.iload_n 2, 1) := by decide +kernel
theorem dX12_partOf_57 : decode cX12_partOf 57 = .ok (.iload 6, 2) := by decide +kernel
theorem dX12_partOf_59 : decode cX12_partOf 59 = .ok (.invokevirtual 242, 3) := by decide +kernel
theorem dX12_partOf_62 : decode cX12_partOf 62 = .ok (.if_icmp .lt 7, 3) := by decide +kernel
theorem dX12_partOf_65 : decode cX12_partOf 65 = .ok (.iconst 1, 1) := by decide +kernel
theorem dX12_partOf_66 : decode cX12_partOf 66 = .ok (.goto 4, 3) := by decide +kernel
theorem dX12_partOf_69 : decode cX12_partOf 69 = .ok (.iconst 0, 1) := by decide +kernel
theorem dX12_partOf_70 : decode cX12_partOf 70 = .ok (.istore 9, 2) := by decide +kernel
theorem dX12_partOf_72 : decode cX12_partOf 72 = .ok (.iload 9, 2) := by decide +kernel
theorem dX12_partOf_74 : decode cX12_partOf 74 = .ok (.ifCond .eq 17, 3) := by decide +kernel
theorem dX12_partOf_77 : decode cX12_partOf 77 = .ok (.iload 7, 2) := by decide +kernel
theorem dX12_partOf_79 : decode cX12_partOf 79 = .ok (.iload 8, 2) := by decide +kernel
theorem dX12_partOf_81 : decode cX12_partOf 81 = .ok (.iadd, 1) := by decide +kernel
theorem dX12_partOf_82 : decode cX12_partOf 82 = .ok (.iload 5, 2) := by decide +kernel
theorem dX12_partOf_84 : decode cX12_partOf 84 = .ok (.if_icmp .le 7, 3) := by decide +kernel
theorem dX12_partOf_87 : decode cX12_partOf 87 = .ok (.iconst 1, 1) := by decide +kernel
theorem dX12_partOf_88 : decode cX12_partOf 88 = .ok (.goto 4, 3) := by decide +kernel
theorem dX12_partOf_91 : decode cX12_partOf 91 = .ok (.iconst 0, 1) := by decide +kernel
theorem dX12_partOf_92 : decode cX12_partOf 92 = .ok (.istore 10, 2) := by decide +kernel
theorem dX12_partOf_94 : decode cX12_partOf 94 = .ok (.iload 10, 2) := by decide +kernel
theorem dX12_partOf_96 : decode cX12_partOf 96 = .ok (.ifCond .eq 8, 3) := by decide +kernel
theorem dX12_partOf_99 : decode cX12_partOf 99 = .ok (.iload 6, 2) := by decide +kernel
theorem dX12_partOf_101 : decode cX12_partOf 101 = .ok (.goto 5, 3) := by decide +kernel
theorem dX12_partOf_104 : decode cX12_partOf 104 = .ok (.iload 4, 2) := by decide +kernel
theorem dX12_partOf_106 : decode cX12_partOf 106 = .ok (.istore 4, 2) := by decide +kernel
theorem dX12_partOf_108 : decode cX12_partOf 108 = .ok (.iload 10, 2) := by decide +kernel
theorem dX12_partOf_110 : decode cX12_partOf 110 = .ok (.ifCond .eq 11, 3) := by decide +kernel
theorem dX12_partOf_113 : decode cX12_partOf 113 = .ok (.iload 7, 2) := by decide +kernel
theorem dX12_partOf_115 : decode cX12_partOf 115 = .ok (.iload 8, 2) := by decide +kernel
theorem dX12_partOf_117 : decode cX12_partOf 117 = .ok (.iadd, 1) := by decide +kernel
theorem dX12_partOf_118 : decode cX12_partOf 118 = .ok (.goto 5, 3) := by decide +kernel
theorem dX12_partOf_121 : decode cX12_partOf 121 = .ok (.iload 5, 2) := by decide +kernel
theorem dX12_partOf_123 : decode cX12_partOf 123 = .ok (.istore 5, 2) := by decide +kernel
theorem dX12_partOf_125 : decode cX12_partOf 125 = .ok (.iinc 6 1, 3) := by decide +kernel
theorem dX12_partOf_128 : decode cX12_partOf 128 = .ok (.goto (-119), 3) := by decide +kernel
theorem dX12_partOf_131 : decode cX12_partOf 131 = .ok (.iload_n 3, 1) := by decide +kernel
theorem dX12_partOf_132 : decode cX12_partOf 132 = .ok (.ifCond .ne 8, 3) := by decide +kernel
theorem dX12_partOf_135 : decode cX12_partOf 135 = .ok (.iload 4, 2) := by decide +kernel
theorem dX12_partOf_137 : decode cX12_partOf 137 = .ok (.goto 5, 3) := by decide +kernel
theorem dX12_partOf_140 : decode cX12_partOf 140 = .ok (.iload 5, 2) := by decide +kernel
theorem dX12_partOf_142 : decode cX12_partOf 142 = .ok (.ireturn, 1) := by decide +kernel
theorem dX12_part_0 : decode cX12_part 0 = .ok (.iload_n 1, 1) := by decide +kernel
theorem dX12_part_1 : decode cX12_part 1 = .ok (.invokestatic 136, 3) := by decide +kernel
theorem dX12_part_4 : decode cX12_part 4 = .ok (.ifCond .eq 32, 3) := by decide +kernel
theorem dX12_part_7 : decode cX12_part 7 = .ok (.iload_n 2, 1) := by decide +kernel
theorem dX12_part_8 : decode cX12_part 8 = .ok (.invokestatic 136, 3) := by decide +kernel
theorem dX12_part_11 : decode cX12_part 11 = .ok (.ifCond .eq 25, 3) := by decide +kernel
theorem dX12_part_14 : decode cX12_part 14 = .ok (.iload_n 1, 1) := by decide +kernel
theorem dX12_part_15 : decode cX12_part 15 = .ok (.iload_n 2, 1) := by decide +kernel
theorem dX12_part_16 : decode cX12_part 16 = .ok (.if_icmp .eq 20, 3) := by decide +kernel
theorem dX12_part_19 : decode cX12_part 19 = .ok (.iload_n 3, 1) := by decide +kernel
theorem dX12_part_20 : decode cX12_part 20 = .ok (.invokestatic 233, 3) := by decide +kernel
theorem dX12_part_23 : decode cX12_part 23 = .ok (.ifCond .eq 13, 3) := by decide +kernel
theorem dX12_part_26 : decode cX12_part 26 = .ok (.aload_n 0, 1) := by decide +kernel
theorem dX12_part_27 : decode cX12_part 27 = .ok (.iload_n 1, 1) := by decide +kernel
theorem dX12_part_28 : decode cX12_part 28 = .ok (.iload_n 2, 1) := by decide +kernel
theorem dX12_part_29 : decode cX12_part 29 = .ok (.iload_n 3, 1) := by decide +kernel
theorem dX12_part_30 : decode cX12_part 30 = .ok (.invokevirtual 245, 3) := by decide +kernel
theorem dX12_part_33 : decode cX12_part 33 = .ok (.goto 5, 3) := by decide +kernel
theorem dX12_part_36 : decode cX12_part 36 = .ok (.bipush (-2), 2) := by decide +kernel
theorem dX12_part_38 : decode cX12_part 38 = .ok (.ireturn, 1) := by decide +kernel
theorem dX12_seen_0 : decode cX12_seen 0 = .ok (.iload_n 1, 1) := by decide +kernel
theorem dX12_seen_1 : decode cX12_seen 1 = .ok (.invokestatic 204, 3) := by decide +kernel
theorem dX12_seen_4 : decode cX12_seen 4 = .ok (.ifCond .eq 24, 3) := by decide +kernel
theorem dX12_seen_7 : decode cX12_seen 7 = .ok (.iload_n 2, 1) := by decide +kernel
theorem dX12_seen_8 : decode cX12_seen 8 = .ok (.invokestatic 136, 3) := by decide +kernel
theorem dX12_seen_11 : decode cX12_seen 11 = .ok (.ifCond .eq 17, 3) := by decide +kernel
theorem dX12_seen_14 : decode cX12_seen 14 = .ok (.iload_n 3, 1) := by decide +kernel
theorem dX12_seen_15 : decode cX12_seen 15 = .ok (.i2l, 1) := by decide +kernel
theorem dX12_seen_16 : decode cX12_seen 16 = .ok (.ldc2_w 228, 3) := by decide +kernel
theorem dX12_seen_19 : decode cX12_seen 19 = .ok (.ldc2_w 139, 3) := by decide +kernel
theorem dX12_seen_22 : decode cX12_seen 22 = .ok (.invokestatic 57, 3) := by decide +kernel
theorem dX12_seen_25 : decode cX12_seen 25 = .ok (.ifCond .ne 6, 3) := by decide +kernel
theorem dX12_seen_28 : decode cX12_seen 28 = .ok (.bipush (-2), 2) := by decide +kernel
theorem dX12_seen_30 : decode cX12_seen 30 = .ok (.ireturn, 1) := by decide +kernel
theorem dX12_seen_31 : decode cX12_seen 31 = .ok (.aload_n 0, 1) := by decide +kernel
theorem dX12_seen_32 : decode cX12_seen 32 = .ok (.getfield 248, 3) := by decide +kernel
theorem dX12_seen_35 : decode cX12_seen 35 = .ok (.bipush 8, 2) := by decide +kernel
theorem dX12_seen_37 : decode cX12_seen 37 = .ok (.if_icmp .ne 6, 3) := by decide +kernel
theorem dX12_seen_40 : decode cX12_seen 40 = .ok (.bipush (-4), 2) := by decide +kernel
theorem dX12_seen_42 : decode cX12_seen 42 = .ok (.ireturn, 1) := by decide +kernel
theorem dX12_seen_43 : decode cX12_seen 43 = .ok (.aload_n 0, 1) := by decide +kernel
theorem dX12_seen_44 : decode cX12_seen 44 = .ok (.getfield 49, 3) := by decide +kernel
theorem dX12_seen_47 : decode cX12_seen 47 = .ok (.iconst 3, 1) := by decide +kernel
theorem dX12_seen_48 : decode cX12_seen 48 = .ok (.aload_n 0, 1) := by decide +kernel
theorem dX12_seen_49 : decode cX12_seen 49 = .ok (.getfield 248, 3) := by decide +kernel
theorem dX12_seen_52 : decode cX12_seen 52 = .ok (.imul, 1) := by decide +kernel
theorem dX12_seen_53 : decode cX12_seen 53 = .ok (.iload_n 1, 1) := by decide +kernel
theorem dX12_seen_54 : decode cX12_seen 54 = .ok (.iastore, 1) := by decide +kernel
theorem dX12_seen_55 : decode cX12_seen 55 = .ok (.aload_n 0, 1) := by decide +kernel
theorem dX12_seen_56 : decode cX12_seen 56 = .ok (.getfield 49, 3) := by decide +kernel
theorem dX12_seen_59 : decode cX12_seen 59 = .ok (.iconst 3, 1) := by decide +kernel
theorem dX12_seen_60 : decode cX12_seen 60 = .ok (.aload_n 0, 1) := by decide +kernel
theorem dX12_seen_61 : decode cX12_seen 61 = .ok (.getfield 248, 3) := by decide +kernel
theorem dX12_seen_64 : decode cX12_seen 64 = .ok (.imul, 1) := by decide +kernel
theorem dX12_seen_65 : decode cX12_seen 65 = .ok (.iconst 1, 1) := by decide +kernel
theorem dX12_seen_66 : decode cX12_seen 66 = .ok (.iadd, 1) := by decide +kernel
theorem dX12_seen_67 : decode cX12_seen 67 = .ok (.iload_n 2, 1) := by decide +kernel
theorem dX12_seen_68 : decode cX12_seen 68 = .ok (.iastore, 1) := by decide +kernel
theorem dX12_seen_69 : decode cX12_seen 69 = .ok (.aload_n 0, 1) := by decide +kernel
theorem dX12_seen_70 : decode cX12_seen 70 = .ok (.getfield 49, 3) := by decide +kernel
theorem dX12_seen_73 : decode cX12_seen 73 = .ok (.iconst 3, 1) := by decide +kernel
theorem dX12_seen_74 : decode cX12_seen 74 = .ok (.aload_n 0, 1) := by decide +kernel
theorem dX12_seen_75 : decode cX12_seen 75 = .ok (.getfield 248, 3) := by decide +kernel
theorem dX12_seen_78 : decode cX12_seen 78 = .ok (.imul, 1) := by decide +kernel
theorem dX12_seen_79 : decode cX12_seen 79 = .ok (.iconst 2, 1) := by decide +kernel
theorem dX12_seen_80 : decode cX12_seen 80 = .ok (.iadd, 1) := by decide +kernel
theorem dX12_seen_81 : decode cX12_seen 81 = .ok (.iload_n 3, 1) := by decide +kernel
theorem dX12_seen_82 : decode cX12_seen 82 = .ok (.iastore, 1) := by decide +kernel
theorem dX12_seen_83 : decode cX12_seen 83 = .ok (.aload_n 0, 1) := by decide +kernel
theorem dX12_seen_84 : decode cX12_seen 84 = .ok (.dup, 1) := by decide +kernel
theorem dX12_seen_85 : decode cX12_seen 85 = .ok (.getfield 248, 3) := by decide +kernel
theorem dX12_seen_88 : decode cX12_seen 88 = .ok (.iconst 1, 1) := by decide +kernel
theorem dX12_seen_89 : decode cX12_seen 89 = .ok (.iadd, 1) := by decide +kernel
theorem dX12_seen_90 : decode cX12_seen 90 = .ok (.putfield 248, 3) := by decide +kernel
theorem dX12_seen_93 : decode cX12_seen 93 = .ok (.aload_n 0, 1) := by decide +kernel
theorem dX12_seen_94 : decode cX12_seen 94 = .ok (.getfield 248, 3) := by decide +kernel
theorem dX12_seen_97 : decode cX12_seen 97 = .ok (.ireturn, 1) := by decide +kernel
theorem dX12_forget_0 : decode cX12_forget 0 = .ok (.aload_n 0, 1) := by decide +kernel
theorem dX12_forget_1 : decode cX12_forget 1 = .ok (.getfield 248, 3) := by decide +kernel
theorem dX12_forget_4 : decode cX12_forget 4 = .ok (.istore_n 1, 1) := by decide +kernel
theorem dX12_forget_5 : decode cX12_forget 5 = .ok (.aload_n 0, 1) := by decide +kernel
theorem dX12_forget_6 : decode cX12_forget 6 = .ok (.iconst 0, 1) := by decide +kernel
theorem dX12_forget_7 : decode cX12_forget 7 = .ok (.putfield 248, 3) := by decide +kernel
theorem dX12_forget_10 : decode cX12_forget 10 = .ok (.iload_n 1, 1) := by decide +kernel
theorem dX12_forget_11 : decode cX12_forget 11 = .ok (.ireturn, 1) := by decide +kernel
theorem dX12_read_0 : decode cX12_read 0 = .ok (.iload_n 1, 1) := by decide +kernel
theorem dX12_read_1 : decode cX12_read 1 = .ok (.invokestatic 67, 3) := by decide +kernel
theorem dX12_read_4 : decode cX12_read 4 = .ok (.ifCond .ne 6, 3) := by decide +kernel
theorem dX12_read_7 : decode cX12_read 7 = .ok (.bipush (-2), 2) := by decide +kernel
theorem dX12_read_9 : decode cX12_read 9 = .ok (.ireturn, 1) := by decide +kernel
theorem dX12_read_10 : decode cX12_read 10 = .ok (.aload_n 0, 1) := by decide +kernel
theorem dX12_read_11 : decode cX12_read 11 = .ok (.getfield 7, 3) := by decide +kernel
theorem dX12_read_14 : decode cX12_read 14 = .ok (.iload_n 1, 1) := by decide +kernel
theorem dX12_read_15 : decode cX12_read 15 = .ok (.iaload, 1) := by decide +kernel
theorem dX12_read_16 : decode cX12_read 16 = .ok (.ifCond .ge 9, 3) := by decide +kernel
theorem dX12_read_19 : decode cX12_read 19 = .ok (.aload_n 0, 1) := by decide +kernel
theorem dX12_read_20 : decode cX12_read 20 = .ok (.iconst 1, 1) := by decide +kernel
theorem dX12_read_21 : decode cX12_read 21 = .ok (.invokevirtual 73, 3) := by decide +kernel
theorem dX12_read_24 : decode cX12_read 24 = .ok (.ireturn, 1) := by decide +kernel
theorem dX12_read_25 : decode cX12_read 25 = .ok (.iconst 0, 1) := by decide +kernel
theorem dX12_read_26 : decode cX12_read 26 = .ok (.istore_n 2, 1) := by decide +kernel
theorem dX12_read_27 : decode cX12_read 27 = .ok (.iconst 1, 1) := by decide +kernel
theorem dX12_read_28 : decode cX12_read 28 = .ok (.istore_n 3, 1) := by decide +kernel
theorem dX12_read_29 : decode cX12_read 29 = .ok (.iload_n 3, 1) := by decide +kernel
theorem dX12_read_30 : decode cX12_read 30 = .ok (.ifCond .eq 80, 3) := by decide +kernel
theorem dX12_read_33 : decode cX12_read 33 = .ok (.iconst 3, 1) := by decide +kernel
theorem dX12_read_34 : decode cX12_read 34 = .ok (.iload_n 2, 1) := by decide +kernel
theorem dX12_read_35 : decode cX12_read 35 = .ok (.imul, 1) := by decide +kernel
theorem dX12_read_36 : decode cX12_read 36 = .ok (.iconst 3, 1) := by decide +kernel
theorem dX12_read_37 : decode cX12_read 37 = .ok (.iadd, 1) := by decide +kernel
theorem dX12_read_38 : decode cX12_read 38 = .ok (.aload_n 0, 1) := by decide +kernel
theorem dX12_read_39 : decode cX12_read 39 = .ok (.getfield 13, 3) := by decide +kernel
theorem dX12_read_42 : decode cX12_read 42 = .ok (.iload_n 1, 1) := by decide +kernel
theorem dX12_read_43 : decode cX12_read 43 = .ok (.iaload, 1) := by decide +kernel
theorem dX12_read_44 : decode cX12_read 44 = .ok (.if_icmp .gt 66, 3) := by decide +kernel
theorem dX12_read_47 : decode cX12_read 47 = .ok (.bipush 60, 2) := by decide +kernel
theorem dX12_read_49 : decode cX12_read 49 = .ok (.iload_n 1, 1) := by decide +kernel
theorem dX12_read_50 : decode cX12_read 50 = .ok (.imul, 1) := by decide +kernel
theorem dX12_read_51 : decode cX12_read 51 = .ok (.iconst 3, 1) := by decide +kernel
theorem dX12_read_52 : decode cX12_read 52 = .ok (.iload_n 2, 1) := by decide +kernel
theorem dX12_read_53 : decode cX12_read 53 = .ok (.imul, 1) := by decide +kernel
theorem dX12_read_54 : decode cX12_read 54 = .ok (.iadd, 1) := by decide +kernel
theorem dX12_read_55 : decode cX12_read 55 = .ok (.istore 4, 2) := by decide +kernel
theorem dX12_read_57 : decode cX12_read 57 = .ok (.aload_n 0, 1) := by decide +kernel
theorem dX12_read_58 : decode cX12_read 58 = .ok (.aload_n 0, 1) := by decide +kernel
theorem dX12_read_59 : decode cX12_read 59 = .ok (.getfield 16, 3) := by decide +kernel
theorem dX12_read_62 : decode cX12_read 62 = .ok (.iload 4, 2) := by decide +kernel
theorem dX12_read_64 : decode cX12_read 64 = .ok (.iaload, 1) := by decide +kernel
theorem dX12_read_65 : decode cX12_read 65 = .ok (.aload_n 0, 1) := by decide +kernel
theorem dX12_read_66 : decode cX12_read 66 = .ok (.getfield 16, 3) := by decide +kernel
theorem dX12_read_69 : decode cX12_read 69 = .ok (.iload 4, 2) := by decide +kernel
theorem dX12_read_71 : decode cX12_read 71 = .ok (.iconst 1, 1) := by decide +kernel
theorem dX12_read_72 : decode cX12_read 72 = .ok (.iadd, 1) := by decide +kernel
theorem dX12_read_73 : decode cX12_read 73 = .ok (.iaload, 1) := by decide +kernel
theorem dX12_read_74 : decode cX12_read 74 = .ok (.aload_n 0, 1) := by decide +kernel
theorem dX12_read_75 : decode cX12_read 75 = .ok (.getfield 16, 3) := by decide +kernel
theorem dX12_read_78 : decode cX12_read 78 = .ok (.iload 4, 2) := by decide +kernel
theorem dX12_read_80 : decode cX12_read 80 = .ok (.iconst 2, 1) := by decide +kernel
theorem dX12_read_81 : decode cX12_read 81 = .ok (.iadd, 1) := by decide +kernel
theorem dX12_read_82 : decode cX12_read 82 = .ok (.iaload, 1) := by decide +kernel
theorem dX12_read_83 : decode cX12_read 83 = .ok (.invokevirtual 251, 3) := by decide +kernel
theorem dX12_read_86 : decode cX12_read 86 = .ok (.ifCond .lt 7, 3) := by decide +kernel
theorem dX12_read_89 : decode cX12_read 89 = .ok (.iconst 1, 1) := by decide +kernel
theorem dX12_read_90 : decode cX12_read 90 = .ok (.goto 4, 3) := by decide +kernel
theorem dX12_read_93 : decode cX12_read 93 = .ok (.iconst 0, 1) := by decide +kernel
theorem dX12_read_94 : decode cX12_read 94 = .ok (.istore_n 3, 1) := by decide +kernel
theorem dX12_read_95 : decode cX12_read 95 = .ok (.iload_n 2, 1) := by decide +kernel
theorem dX12_read_96 : decode cX12_read 96 = .ok (.iload_n 3, 1) := by decide +kernel
theorem dX12_read_97 : decode cX12_read 97 = .ok (.ifCond .eq 7, 3) := by decide +kernel
theorem dX12_read_100 : decode cX12_read 100 = .ok (.iconst 1, 1) := by decide +kernel
theorem dX12_read_101 : decode cX12_read 101 = .ok (.goto 4, 3) := by decide +kernel
theorem dX12_read_104 : decode cX12_read 104 = .ok (.iconst 0, 1) := by decide +kernel
theorem dX12_read_105 : decode cX12_read 105 = .ok (.iadd, 1) := by decide +kernel
theorem dX12_read_106 : decode cX12_read 106 = .ok (.istore_n 2, 1) := by decide +kernel
theorem dX12_read_107 : decode cX12_read 107 = .ok (.goto (-78), 3) := by decide +kernel
theorem dX12_read_110 : decode cX12_read 110 = .ok (.iload_n 2, 1) := by decide +kernel
theorem dX12_read_111 : decode cX12_read 111 = .ok (.ireturn, 1) := by decide +kernel
theorem dX12_isSeen_0 : decode cX12_isSeen 0 = .ok (.iconst 1, 1) := by decide +kernel
theorem dX12_isSeen_1 : decode cX12_isSeen 1 = .ok (.istore_n 1, 1) := by decide +kernel
theorem dX12_isSeen_2 : decode cX12_isSeen 2 = .ok (.iconst 0, 1) := by decide +kernel
theorem dX12_isSeen_3 : decode cX12_isSeen 3 = .ok (.istore_n 2, 1) := by decide +kernel
theorem dX12_isSeen_4 : decode cX12_isSeen 4 = .ok (.iload_n 2, 1) := by decide +kernel
theorem dX12_isSeen_5 : decode cX12_isSeen 5 = .ok (.aload_n 0, 1) := by decide +kernel
theorem dX12_isSeen_6 : decode cX12_isSeen 6 = .ok (.getfield 248, 3) := by decide +kernel
theorem dX12_isSeen_9 : decode cX12_isSeen 9 = .ok (.if_icmp .ge 72, 3) := by decide +kernel
theorem dX12_isSeen_12 : decode cX12_isSeen 12 = .ok (.iload_n 1, 1) := by decide +kernel
theorem dX12_isSeen_13 : decode cX12_isSeen 13 = .ok (.ifCond .eq 68, 3) := by decide +kernel
theorem dX12_isSeen_16 : decode cX12_isSeen 16 = .ok (.aload_n 0, 1) := by decide +kernel
theorem dX12_isSeen_17 : decode cX12_isSeen 17 = .ok (.getfield 49, 3) := by decide +kernel
theorem dX12_isSeen_20 : decode cX12_isSeen 20 = .ok (.iconst 3, 1) := by decide +kernel
theorem dX12_isSeen_21 : decode cX12_isSeen 21 = .ok (.iload_n 2, 1) := by decide +kernel
theorem dX12_isSeen_22 : decode cX12_isSeen 22 = .ok (.imul, 1) := by decide +kernel
theorem dX12_isSeen_23 : decode cX12_isSeen 23 = .ok (.iconst 1, 1) := by decide +kernel
theorem dX12_isSeen_24 : decode cX12_isSeen 24 = .ok (.iadd, 1) := by decide +kernel
theorem dX12_isSeen_25 : decode cX12_isSeen 25 = .ok (.iaload, 1) := by decide +kernel
theorem dX12_isSeen_26 : decode cX12_isSeen 26 = .ok (.istore_n 3, 1) := by decide +kernel
theorem dX12_isSeen_27 : decode cX12_isSeen 27 = .ok (.aload_n 0, 1) := by decide +kernel
theorem dX12_isSeen_28 : decode cX12_isSeen 28 = .ok (.iload_n 3, 1) := by decide +kernel
theorem dX12_isSeen_29 : decode cX12_isSeen 29 = .ok (.invokevirtual 133, 3) := by decide +kernel
theorem dX12_isSeen_32 : decode cX12_isSeen 32 = .ok (.ifCond .eq 19, 3) := by decide +kernel
theorem dX12_isSeen_35 : decode cX12_isSeen 35 = .ok (.aload_n 0, 1) := by decide +kernel
theorem dX12_isSeen_36 : decode cX12_isSeen 36 = .ok (.iload_n 3, 1) := by decide +kernel
theorem dX12_isSeen_37 : decode cX12_isSeen 37 = .ok (.aload_n 0, 1) := by decide +kernel
theorem dX12_isSeen_38 : decode cX12_isSeen 38 = .ok (.getfield 49, 3) := by decide +kernel
theorem dX12_isSeen_41 : decode cX12_isSeen 41 = .ok (.iconst 3, 1) := by decide +kernel
theorem dX12_isSeen_42 : decode cX12_isSeen 42 = .ok (.iload_n 2, 1) := by decide +kernel
theorem dX12_isSeen_43 : decode cX12_isSeen 43 = .ok (.imul, 1) := by decide +kernel
theorem dX12_isSeen_44 : decode cX12_isSeen 44 = .ok (.iaload, 1) := by decide +kernel
theorem dX12_isSeen_45 : decode cX12_isSeen 45 = .ok (.invokevirtual 207, 3) := by decide +kernel
theorem dX12_isSeen_48 : decode cX12_isSeen 48 = .ok (.goto 4, 3) := by decide +kernel
theorem dX12_isSeen_51 : decode cX12_isSeen 51 = .ok (.iconst (-1), 1) := by decide +kernel
theorem dX12_isSeen_52 : decode cX12_isSeen 52 = .ok (.istore 4, 2) := by decide +kernel
theorem dX12_isSeen_54 : decode cX12_isSeen 54 = .ok (.iload 4, 2) := by decide +kernel
theorem dX12_isSeen_56 : decode cX12_isSeen 56 = .ok (.aload_n 0, 1) := by decide +kernel
theorem dX12_isSeen_57 : decode cX12_isSeen 57 = .ok (.getfield 49, 3) := by decide +kernel
theorem dX12_isSeen_60 : decode cX12_isSeen 60 = .ok (.iconst 3, 1) := by decide +kernel
theorem dX12_isSeen_61 : decode cX12_isSeen 61 = .ok (.iload_n 2, 1) := by decide +kernel
theorem dX12_isSeen_62 : decode cX12_isSeen 62 = .ok (.imul, 1) := by decide +kernel
theorem dX12_isSeen_63 : decode cX12_isSeen 63 = .ok (.iconst 2, 1) := by decide +kernel
theorem dX12_isSeen_64 : decode cX12_isSeen 64 = .ok (.iadd, 1) := by decide +kernel
theorem dX12_isSeen_65 : decode cX12_isSeen 65 = .ok (.iaload, 1) := by decide +kernel
theorem dX12_isSeen_66 : decode cX12_isSeen 66 = .ok (.if_icmp .ne 7, 3) := by decide +kernel
theorem dX12_isSeen_69 : decode cX12_isSeen 69 = .ok (.iconst 1, 1) := by decide +kernel
theorem dX12_isSeen_70 : decode cX12_isSeen 70 = .ok (.goto 4, 3) := by decide +kernel
theorem dX12_isSeen_73 : decode cX12_isSeen 73 = .ok (.iconst 0, 1) := by decide +kernel
theorem dX12_isSeen_74 : decode cX12_isSeen 74 = .ok (.istore_n 1, 1) := by decide +kernel
theorem dX12_isSeen_75 : decode cX12_isSeen 75 = .ok (.iinc 2 1, 3) := by decide +kernel
theorem dX12_isSeen_78 : decode cX12_isSeen 78 = .ok (.goto (-74), 3) := by decide +kernel
theorem dX12_isSeen_81 : decode cX12_isSeen 81 = .ok (.iload_n 1, 1) := by decide +kernel
theorem dX12_isSeen_82 : decode cX12_isSeen 82 = .ok (.ireturn, 1) := by decide +kernel
theorem dX12_whoseOf_0 : decode cX12_whoseOf 0 = .ok (.aload_n 0, 1) := by decide +kernel
theorem dX12_whoseOf_1 : decode cX12_whoseOf 1 = .ok (.getfield 46, 3) := by decide +kernel
theorem dX12_whoseOf_4 : decode cX12_whoseOf 4 = .ok (.iload_n 1, 1) := by decide +kernel
theorem dX12_whoseOf_5 : decode cX12_whoseOf 5 = .ok (.iaload, 1) := by decide +kernel
theorem dX12_whoseOf_6 : decode cX12_whoseOf 6 = .ok (.istore_n 2, 1) := by decide +kernel
theorem dX12_whoseOf_7 : decode cX12_whoseOf 7 = .ok (.iconst 0, 1) := by decide +kernel
theorem dX12_whoseOf_8 : decode cX12_whoseOf 8 = .ok (.istore_n 3, 1) := by decide +kernel
theorem dX12_whoseOf_9 : decode cX12_whoseOf 9 = .ok (.iconst 0, 1) := by decide +kernel
theorem dX12_whoseOf_10 : decode cX12_whoseOf 10 = .ok (.istore 4, 2) := by decide +kernel
theorem dX12_whoseOf_12 : decode cX12_whoseOf 12 = .ok (.iload 4, 2) := by decide +kernel
theorem dX12_whoseOf_14 : decode cX12_whoseOf 14 = .ok (.aload_n 0, 1) := by decide +kernel
theorem dX12_whoseOf_15 : decode cX12_whoseOf 15 = .ok (.getfield 28, 3) := by decide +kernel
theorem dX12_whoseOf_18 : decode cX12_whoseOf 18 = .ok (.iconst 1, 1) := by decide +kernel
theorem dX12_whoseOf_19 : decode cX12_whoseOf 19 = .ok (.iaload, 1) := by decide +kernel
theorem dX12_whoseOf_20 : decode cX12_whoseOf 20 = .ok (.if_icmp .gt 66, 3) := by decide +kernel
theorem dX12_whoseOf_23 : decode cX12_whoseOf 23 = .ok (.aload_n 0, 1) := by decide +kernel
theorem dX12_whoseOf_24 : decode cX12_whoseOf 24 = .ok (.getfield 46, 3) := by decide +kernel
theorem dX12_whoseOf_27 : decode cX12_whoseOf 27 = .ok (.iload_n 1, 1) := by decide +kernel
theorem dX12_whoseOf_28 : decode cX12_whoseOf 28 = .ok (.iload 4, 2) := by decide +kernel
theorem dX12_whoseOf_30 : decode cX12_whoseOf 30 = .ok (.aload_n 0, 1) := by decide +kernel
theorem dX12_whoseOf_31 : decode cX12_whoseOf 31 = .ok (.getfield 28, 3) := by decide +kernel
theorem dX12_whoseOf_34 : decode cX12_whoseOf 34 = .ok (.iconst 1, 1) := by decide +kernel
theorem dX12_whoseOf_35 : decode cX12_whoseOf 35 = .ok (.iaload, 1) := by decide +kernel
theorem dX12_whoseOf_36 : decode cX12_whoseOf 36 = .ok (.if_icmp .ne 7, 3) := by decide +kernel
theorem dX12_whoseOf_39 : decode cX12_whoseOf 39 = .ok (.iconst (-1), 1) := by decide +kernel
theorem dX12_whoseOf_40 : decode cX12_whoseOf 40 = .ok (.goto 5, 3) := by decide +kernel
theorem dX12_whoseOf_43 : decode cX12_whoseOf 43 = .ok (.iload 4, 2) := by decide +kernel
theorem dX12_whoseOf_45 : decode cX12_whoseOf 45 = .ok (.iastore, 1) := by decide +kernel
theorem dX12_whoseOf_46 : decode cX12_whoseOf 46 = .ok (.iload_n 3, 1) := by decide +kernel
theorem dX12_whoseOf_47 : decode cX12_whoseOf 47 = .ok (.aload_n 0, 1) := by decide +kernel
theorem dX12_whoseOf_48 : decode cX12_whoseOf 48 = .ok (.invokevirtual 254, 3) := by decide +kernel
theorem dX12_whoseOf_51 : decode cX12_whoseOf 51 = .ok (.ifCond .eq 26, 3) := by decide +kernel
theorem dX12_whoseOf_54 : decode cX12_whoseOf 54 = .ok (.iconst 1, 1) := by decide +kernel
theorem dX12_whoseOf_55 : decode cX12_whoseOf 55 = .ok (.iload 4, 2) := by decide +kernel
theorem dX12_whoseOf_57 : decode cX12_whoseOf 57 = .ok (.aload_n 0, 1) := by decide +kernel
theorem dX12_whoseOf_58 : decode cX12_whoseOf 58 = .ok (.getfield 28, 3) := by decide +kernel
theorem dX12_whoseOf_61 : decode cX12_whoseOf 61 = .ok (.iconst 1, 1) := by decide +kernel
theorem dX12_whoseOf_62 : decode cX12_whoseOf 62 = .ok (.iaload, 1) := by decide +kernel
theorem dX12_whoseOf_63 : decode cX12_whoseOf 63 = .ok (.if_icmp .ne 8, 3) := by decide +kernel
theorem dX12_whoseOf_66 : decode cX12_whoseOf 66 = .ok (.bipush 6, 2) := by decide +kernel
theorem dX12_whoseOf_68 : decode cX12_whoseOf 68 = .ok (.goto 5, 3) := by decide +kernel
theorem dX12_whoseOf_71 : decode cX12_whoseOf 71 = .ok (.iload 4, 2) := by decide +kernel
theorem dX12_whoseOf_73 : decode cX12_whoseOf 73 = .ok (.ishl, 1) := by decide +kernel
theorem dX12_whoseOf_74 : decode cX12_whoseOf 74 = .ok (.goto 4, 3) := by decide +kernel
theorem dX12_whoseOf_77 : decode cX12_whoseOf 77 = .ok (.iconst 0, 1) := by decide +kernel
theorem dX12_whoseOf_78 : decode cX12_whoseOf 78 = .ok (.ior, 1) := by decide +kernel
theorem dX12_whoseOf_79 : decode cX12_whoseOf 79 = .ok (.istore_n 3, 1) := by decide +kernel
theorem dX12_whoseOf_80 : decode cX12_whoseOf 80 = .ok (.iinc 4 1, 3) := by decide +kernel
theorem dX12_whoseOf_83 : decode cX12_whoseOf 83 = .ok (.goto (-71), 3) := by decide +kernel
theorem dX12_whoseOf_86 : decode cX12_whoseOf 86 = .ok (.aload_n 0, 1) := by decide +kernel
theorem dX12_whoseOf_87 : decode cX12_whoseOf 87 = .ok (.getfield 46, 3) := by decide +kernel
theorem dX12_whoseOf_90 : decode cX12_whoseOf 90 = .ok (.iload_n 1, 1) := by decide +kernel
theorem dX12_whoseOf_91 : decode cX12_whoseOf 91 = .ok (.iload_n 2, 1) := by decide +kernel
theorem dX12_whoseOf_92 : decode cX12_whoseOf 92 = .ok (.iastore, 1) := by decide +kernel
theorem dX12_whoseOf_93 : decode cX12_whoseOf 93 = .ok (.iload_n 3, 1) := by decide +kernel
theorem dX12_whoseOf_94 : decode cX12_whoseOf 94 = .ok (.ireturn, 1) := by decide +kernel
theorem dX12_whose_0 : decode cX12_whose 0 = .ok (.aload_n 0, 1) := by decide +kernel
theorem dX12_whose_1 : decode cX12_whose 1 = .ok (.invokevirtual 171, 3) := by decide +kernel
theorem dX12_whose_4 : decode cX12_whose 4 = .ok (.aload_n 0, 1) := by decide +kernel
theorem dX12_whose_5 : decode cX12_whose 5 = .ok (.iload_n 1, 1) := by decide +kernel
theorem dX12_whose_6 : decode cX12_whose 6 = .ok (.invokevirtual 128, 3) := by decide +kernel
theorem dX12_whose_9 : decode cX12_whose 9 = .ok (.ifCond .eq 11, 3) := by decide +kernel
theorem dX12_whose_12 : decode cX12_whose 12 = .ok (.aload_n 0, 1) := by decide +kernel
theorem dX12_whose_13 : decode cX12_whose 13 = .ok (.iload_n 1, 1) := by decide +kernel
theorem dX12_whose_14 : decode cX12_whose 14 = .ok (.invokevirtual 258, 3) := by decide +kernel
theorem dX12_whose_17 : decode cX12_whose 17 = .ok (.goto 5, 3) := by decide +kernel
theorem dX12_whose_20 : decode cX12_whose 20 = .ok (.bipush (-2), 2) := by decide +kernel
theorem dX12_whose_22 : decode cX12_whose 22 = .ok (.ireturn, 1) := by decide +kernel
theorem dX12_mostAlike_0 : decode cX12_mostAlike 0 = .ok (.iconst 0, 1) := by decide +kernel
theorem dX12_mostAlike_1 : decode cX12_mostAlike 1 = .ok (.istore 5, 2) := by decide +kernel
theorem dX12_mostAlike_3 : decode cX12_mostAlike 3 = .ok (.iload 5, 2) := by decide +kernel
theorem dX12_mostAlike_5 : decode cX12_mostAlike 5 = .ok (.bipush 9, 2) := by decide +kernel
theorem dX12_mostAlike_7 : decode cX12_mostAlike 7 = .ok (.if_icmp .ge 17, 3) := by decide +kernel
theorem dX12_mostAlike_10 : decode cX12_mostAlike 10 = .ok (.aload_n 0, 1) := by decide +kernel
theorem dX12_mostAlike_11 : decode cX12_mostAlike 11 = .ok (.getfield 52, 3) := by decide +kernel
theorem dX12_mostAlike_14 : decode cX12_mostAlike 14 = .ok (.iload 5, 2) := by decide +kernel
theorem dX12_mostAlike_16 : decode cX12_mostAlike 16 = .ok (.iconst 0, 1) := by decide +kernel
theorem dX12_mostAlike_17 : decode cX12_mostAlike 17 = .ok (.iastore, 1) := by decide +kernel
theorem dX12_mostAlike_18 : decode cX12_mostAlike 18 = .ok (.iinc 5 1, 3) := by decide +kernel
theorem dX12_mostAlike_21 : decode cX12_mostAlike 21 = .ok (.goto (-18), 3) := by decide +kernel
theorem dX12_mostAlike_24 : decode cX12_mostAlike 24 = .ok (.iconst 0, 1) := by decide +kernel
theorem dX12_mostAlike_25 : decode cX12_mostAlike 25 = .ok (.istore 5, 2) := by decide +kernel
theorem dX12_mostAlike_27 : decode cX12_mostAlike 27 = .ok (.iconst 0, 1) := by decide +kernel
theorem dX12_mostAlike_28 : decode cX12_mostAlike 28 = .ok (.istore 6, 2) := by decide +kernel
theorem dX12_mostAlike_30 : decode cX12_mostAlike 30 = .ok (.iload 6, 2) := by decide +kernel
theorem dX12_mostAlike_32 : decode cX12_mostAlike 32 = .ok (.bipush 7, 2) := by decide +kernel
theorem dX12_mostAlike_34 : decode cX12_mostAlike 34 = .ok (.if_icmp .ge 85, 3) := by decide +kernel
theorem dX12_mostAlike_37 : decode cX12_mostAlike 37 = .ok (.iload_n 2, 1) := by decide +kernel
theorem dX12_mostAlike_38 : decode cX12_mostAlike 38 = .ok (.iload 6, 2) := by decide +kernel
theorem dX12_mostAlike_40 : decode cX12_mostAlike 40 = .ok (.invokestatic 154, 3) := by decide +kernel
theorem dX12_mostAlike_43 : decode cX12_mostAlike 43 = .ok (.ifCond .eq 70, 3) := by decide +kernel
theorem dX12_mostAlike_46 : decode cX12_mostAlike 46 = .ok (.aload_n 0, 1) := by decide +kernel
theorem dX12_mostAlike_47 : decode cX12_mostAlike 47 = .ok (.getfield 46, 3) := by decide +kernel
theorem dX12_mostAlike_50 : decode cX12_mostAlike 50 = .ok (.iload_n 1, 1) := by decide +kernel
theorem dX12_mostAlike_51 : decode cX12_mostAlike 51 = .ok (.iload 6, 2) := by decide +kernel
theorem dX12_mostAlike_53 : decode cX12_mostAlike 53 = .ok (.bipush 6, 2) := by decide +kernel
theorem dX12_mostAlike_55 : decode cX12_mostAlike 55 = .ok (.if_icmp .ne 7, 3) := by decide +kernel
theorem dX12_mostAlike_58 : decode cX12_mostAlike 58 = .ok (.iconst (-1), 1) := by decide +kernel
theorem dX12_mostAlike_59 : decode cX12_mostAlike 59 = .ok (.goto 5, 3) := by decide +kernel
theorem dX12_mostAlike_62 : decode cX12_mostAlike 62 = .ok (.iload 6, 2) := by decide +kernel
theorem dX12_mostAlike_64 : decode cX12_mostAlike 64 = .ok (.iastore, 1) := by decide +kernel
theorem dX12_mostAlike_65 : decode cX12_mostAlike 65 = .ok (.aload_n 0, 1) := by decide +kernel
theorem dX12_mostAlike_66 : decode cX12_mostAlike 66 = .ok (.iload_n 3, 1) := by decide +kernel
theorem dX12_mostAlike_67 : decode cX12_mostAlike 67 = .ok (.iload 4, 2) := by decide +kernel
theorem dX12_mostAlike_69 : decode cX12_mostAlike 69 = .ok (.invokevirtual 207, 3) := by decide +kernel
theorem dX12_mostAlike_72 : decode cX12_mostAlike 72 = .ok (.iconst 1, 1) := by decide +kernel
theorem dX12_mostAlike_73 : decode cX12_mostAlike 73 = .ok (.iadd, 1) := by decide +kernel
theorem dX12_mostAlike_74 : decode cX12_mostAlike 74 = .ok (.istore 7, 2) := by decide +kernel
theorem dX12_mostAlike_76 : decode cX12_mostAlike 76 = .ok (.aload_n 0, 1) := by decide +kernel
theorem dX12_mostAlike_77 : decode cX12_mostAlike 77 = .ok (.getfield 52, 3) := by decide +kernel
theorem dX12_mostAlike_80 : decode cX12_mostAlike 80 = .ok (.iload 7, 2) := by decide +kernel
theorem dX12_mostAlike_82 : decode cX12_mostAlike 82 = .ok (.dup2, 1) := by decide +kernel
theorem dX12_mostAlike_83 : decode cX12_mostAlike 83 = .ok (.iaload, 1) := by decide +kernel
theorem dX12_mostAlike_84 : decode cX12_mostAlike 84 = .ok (.iconst 1, 1) := by decide +kernel
theorem dX12_mostAlike_85 : decode cX12_mostAlike 85 = .ok (.iadd, 1) := by decide +kernel
theorem dX12_mostAlike_86 : decode cX12_mostAlike 86 = .ok (.iastore, 1) := by decide +kernel
theorem dX12_mostAlike_87 : decode cX12_mostAlike 87 = .ok (.aload_n 0, 1) := by decide +kernel
theorem dX12_mostAlike_88 : decode cX12_mostAlike 88 = .ok (.getfield 52, 3) := by decide +kernel
theorem dX12_mostAlike_91 : decode cX12_mostAlike 91 = .ok (.iload 7, 2) := by decide +kernel
theorem dX12_mostAlike_93 : decode cX12_mostAlike 93 = .ok (.iaload, 1) := by decide +kernel
theorem dX12_mostAlike_94 : decode cX12_mostAlike 94 = .ok (.iload 5, 2) := by decide +kernel
theorem dX12_mostAlike_96 : decode cX12_mostAlike 96 = .ok (.if_icmp .le 13, 3) := by decide +kernel
theorem dX12_mostAlike_99 : decode cX12_mostAlike 99 = .ok (.aload_n 0, 1) := by decide +kernel
theorem dX12_mostAlike_100 : decode cX12_mostAlike 100 = .ok (.getfield 52, 3) := by decide +kernel
theorem dX12_mostAlike_103 : decode cX12_mostAlike 103 = .ok (.iload 7, 2) := by decide +kernel
theorem dX12_mostAlike_105 : decode cX12_mostAlike 105 = .ok (.iaload, 1) := by decide +kernel
theorem dX12_mostAlike_106 : decode cX12_mostAlike 106 = .ok (.goto 5, 3) := by decide +kernel
theorem dX12_mostAlike_109 : decode cX12_mostAlike 109 = .ok (.iload 5, 2) := by decide +kernel
theorem dX12_mostAlike_111 : decode cX12_mostAlike 111 = .ok (.istore 5, 2) := by decide +kernel
theorem dX12_mostAlike_113 : decode cX12_mostAlike 113 = .ok (.iinc 6 1, 3) := by decide +kernel
theorem dX12_mostAlike_116 : decode cX12_mostAlike 116 = .ok (.goto (-86), 3) := by decide +kernel
theorem dX12_mostAlike_119 : decode cX12_mostAlike 119 = .ok (.iload 5, 2) := by decide +kernel
theorem dX12_mostAlike_121 : decode cX12_mostAlike 121 = .ok (.ireturn, 1) := by decide +kernel
theorem dX12_lookOf_0 : decode cX12_lookOf 0 = .ok (.aload_n 0, 1) := by decide +kernel
theorem dX12_lookOf_1 : decode cX12_lookOf 1 = .ok (.iload_n 1, 1) := by decide +kernel
theorem dX12_lookOf_2 : decode cX12_lookOf 2 = .ok (.invokevirtual 258, 3) := by decide +kernel
theorem dX12_lookOf_5 : decode cX12_lookOf 5 = .ok (.istore_n 3, 1) := by decide +kernel
theorem dX12_lookOf_6 : decode cX12_lookOf 6 = .ok (.aload_n 0, 1) := by decide +kernel
theorem dX12_lookOf_7 : decode cX12_lookOf 7 = .ok (.getfield 46, 3) := by decide +kernel
theorem dX12_lookOf_10 : decode cX12_lookOf 10 = .ok (.iload_n 1, 1) := by decide +kernel
theorem dX12_lookOf_11 : decode cX12_lookOf 11 = .ok (.iaload, 1) := by decide +kernel
theorem dX12_lookOf_12 : decode cX12_lookOf 12 = .ok (.istore 4, 2) := by decide +kernel
theorem dX12_lookOf_14 : decode cX12_lookOf 14 = .ok (.iconst 0, 1) := by decide +kernel
theorem dX12_lookOf_15 : decode cX12_lookOf 15 = .ok (.istore 5, 2) := by decide +kernel
theorem dX12_lookOf_17 : decode cX12_lookOf 17 = .ok (.aload_n 0, 1) := by decide +kernel
theorem dX12_lookOf_18 : decode cX12_lookOf 18 = .ok (.iload_n 1, 1) := by decide +kernel
theorem dX12_lookOf_19 : decode cX12_lookOf 19 = .ok (.iload_n 3, 1) := by decide +kernel
theorem dX12_lookOf_20 : decode cX12_lookOf 20 = .ok (.iload_n 2, 1) := by decide +kernel
theorem dX12_lookOf_21 : decode cX12_lookOf 21 = .ok (.iconst 0, 1) := by decide +kernel
theorem dX12_lookOf_22 : decode cX12_lookOf 22 = .ok (.invokevirtual 261, 3) := by decide +kernel
theorem dX12_lookOf_25 : decode cX12_lookOf 25 = .ok (.istore 6, 2) := by decide +kernel
theorem dX12_lookOf_27 : decode cX12_lookOf 27 = .ok (.iconst 1, 1) := by decide +kernel
theorem dX12_lookOf_28 : decode cX12_lookOf 28 = .ok (.istore 7, 2) := by decide +kernel
theorem dX12_lookOf_30 : decode cX12_lookOf 30 = .ok (.iload 7, 2) := by decide +kernel
theorem dX12_lookOf_32 : decode cX12_lookOf 32 = .ok (.bipush 24, 2) := by decide +kernel
theorem dX12_lookOf_34 : decode cX12_lookOf 34 = .ok (.if_icmp .ge 45, 3) := by decide +kernel
theorem dX12_lookOf_37 : decode cX12_lookOf 37 = .ok (.aload_n 0, 1) := by decide +kernel
theorem dX12_lookOf_38 : decode cX12_lookOf 38 = .ok (.iload_n 1, 1) := by decide +kernel
theorem dX12_lookOf_39 : decode cX12_lookOf 39 = .ok (.iload_n 3, 1) := by decide +kernel
theorem dX12_lookOf_40 : decode cX12_lookOf 40 = .ok (.iload_n 2, 1) := by decide +kernel
theorem dX12_lookOf_41 : decode cX12_lookOf 41 = .ok (.iload 7, 2) := by decide +kernel
theorem dX12_lookOf_43 : decode cX12_lookOf 43 = .ok (.invokevirtual 261, 3) := by decide +kernel
theorem dX12_lookOf_46 : decode cX12_lookOf 46 = .ok (.istore 8, 2) := by decide +kernel
theorem dX12_lookOf_48 : decode cX12_lookOf 48 = .ok (.iload 8, 2) := by decide +kernel
theorem dX12_lookOf_50 : decode cX12_lookOf 50 = .ok (.iload 6, 2) := by decide +kernel
theorem dX12_lookOf_52 : decode cX12_lookOf 52 = .ok (.if_icmp .ge 8, 3) := by decide +kernel
theorem dX12_lookOf_55 : decode cX12_lookOf 55 = .ok (.iload 7, 2) := by decide +kernel
theorem dX12_lookOf_57 : decode cX12_lookOf 57 = .ok (.goto 5, 3) := by decide +kernel
theorem dX12_lookOf_60 : decode cX12_lookOf 60 = .ok (.iload 5, 2) := by decide +kernel
theorem dX12_lookOf_62 : decode cX12_lookOf 62 = .ok (.istore 5, 2) := by decide +kernel
theorem dX12_lookOf_64 : decode cX12_lookOf 64 = .ok (.iload 8, 2) := by decide +kernel
theorem dX12_lookOf_66 : decode cX12_lookOf 66 = .ok (.iload 6, 2) := by decide +kernel
theorem dX12_lookOf_68 : decode cX12_lookOf 68 = .ok (.invokestatic 213, 3) := by decide +kernel
theorem dX12_lookOf_71 : decode cX12_lookOf 71 = .ok (.istore 6, 2) := by decide +kernel
theorem dX12_lookOf_73 : decode cX12_lookOf 73 = .ok (.iinc 7 1, 3) := by decide +kernel
theorem dX12_lookOf_76 : decode cX12_lookOf 76 = .ok (.goto (-46), 3) := by decide +kernel
theorem dX12_lookOf_79 : decode cX12_lookOf 79 = .ok (.aload_n 0, 1) := by decide +kernel
theorem dX12_lookOf_80 : decode cX12_lookOf 80 = .ok (.getfield 46, 3) := by decide +kernel
theorem dX12_lookOf_83 : decode cX12_lookOf 83 = .ok (.iload_n 1, 1) := by decide +kernel
theorem dX12_lookOf_84 : decode cX12_lookOf 84 = .ok (.iload 4, 2) := by decide +kernel
theorem dX12_lookOf_86 : decode cX12_lookOf 86 = .ok (.iastore, 1) := by decide +kernel
theorem dX12_lookOf_87 : decode cX12_lookOf 87 = .ok (.iload 5, 2) := by decide +kernel
theorem dX12_lookOf_89 : decode cX12_lookOf 89 = .ok (.ireturn, 1) := by decide +kernel
theorem dX12_look_0 : decode cX12_look 0 = .ok (.aload_n 0, 1) := by decide +kernel
theorem dX12_look_1 : decode cX12_look 1 = .ok (.invokevirtual 171, 3) := by decide +kernel
theorem dX12_look_4 : decode cX12_look 4 = .ok (.aload_n 0, 1) := by decide +kernel
theorem dX12_look_5 : decode cX12_look 5 = .ok (.iload_n 1, 1) := by decide +kernel
theorem dX12_look_6 : decode cX12_look 6 = .ok (.invokevirtual 128, 3) := by decide +kernel
theorem dX12_look_9 : decode cX12_look 9 = .ok (.ifCond .eq 20, 3) := by decide +kernel
theorem dX12_look_12 : decode cX12_look 12 = .ok (.aload_n 0, 1) := by decide +kernel
theorem dX12_look_13 : decode cX12_look 13 = .ok (.iload_n 2, 1) := by decide +kernel
theorem dX12_look_14 : decode cX12_look 14 = .ok (.invokevirtual 133, 3) := by decide +kernel
theorem dX12_look_17 : decode cX12_look 17 = .ok (.ifCond .eq 12, 3) := by decide +kernel
theorem dX12_look_20 : decode cX12_look 20 = .ok (.aload_n 0, 1) := by decide +kernel
theorem dX12_look_21 : decode cX12_look 21 = .ok (.iload_n 1, 1) := by decide +kernel
theorem dX12_look_22 : decode cX12_look 22 = .ok (.iload_n 2, 1) := by decide +kernel
theorem dX12_look_23 : decode cX12_look 23 = .ok (.invokevirtual 265, 3) := by decide +kernel
theorem dX12_look_26 : decode cX12_look 26 = .ok (.goto 5, 3) := by decide +kernel
theorem dX12_look_29 : decode cX12_look 29 = .ok (.bipush (-2), 2) := by decide +kernel
theorem dX12_look_31 : decode cX12_look 31 = .ok (.ireturn, 1) := by decide +kernel
theorem dX12_marchOf_0 : decode cX12_marchOf 0 = .ok (.iconst 0, 1) := by decide +kernel
theorem dX12_marchOf_1 : decode cX12_marchOf 1 = .ok (.istore 5, 2) := by decide +kernel
theorem dX12_marchOf_3 : decode cX12_marchOf 3 = .ok (.iconst 0, 1) := by decide +kernel
theorem dX12_marchOf_4 : decode cX12_marchOf 4 = .ok (.istore 6, 2) := by decide +kernel
theorem dX12_marchOf_6 : decode cX12_marchOf 6 = .ok (.iload 6, 2) := by decide +kernel
theorem dX12_marchOf_8 : decode cX12_marchOf 8 = .ok (.aload_n 0, 1) := by decide +kernel
theorem dX12_marchOf_9 : decode cX12_marchOf 9 = .ok (.getfield 28, 3) := by decide +kernel
theorem dX12_marchOf_12 : decode cX12_marchOf 12 = .ok (.iconst 0, 1) := by decide +kernel
theorem dX12_marchOf_13 : decode cX12_marchOf 13 = .ok (.iaload, 1) := by decide +kernel
theorem dX12_marchOf_14 : decode cX12_marchOf 14 = .ok (.if_icmp .ge 40, 3) := by decide +kernel
theorem dX12_marchOf_17 : decode cX12_marchOf 17 = .ok (.iload 5, 2) := by decide +kernel
theorem dX12_marchOf_19 : decode cX12_marchOf 19 = .ok (.aload_n 0, 1) := by decide +kernel
theorem dX12_marchOf_20 : decode cX12_marchOf 20 = .ok (.getfield 46, 3) := by decide +kernel
theorem dX12_marchOf_23 : decode cX12_marchOf 23 = .ok (.iload 6, 2) := by decide +kernel
theorem dX12_marchOf_25 : decode cX12_marchOf 25 = .ok (.iaload, 1) := by decide +kernel
theorem dX12_marchOf_26 : decode cX12_marchOf 26 = .ok (.iload_n 2, 1) := by decide +kernel
theorem dX12_marchOf_27 : decode cX12_marchOf 27 = .ok (.if_icmp .ne 17, 3) := by decide +kernel
theorem dX12_marchOf_30 : decode cX12_marchOf 30 = .ok (.aload_n 0, 1) := by decide +kernel
theorem dX12_marchOf_31 : decode cX12_marchOf 31 = .ok (.getfield 31, 3) := by decide +kernel
theorem dX12_marchOf_34 : decode cX12_marchOf 34 = .ok (.iconst 5, 1) := by decide +kernel
theorem dX12_marchOf_35 : decode cX12_marchOf 35 = .ok (.iload 6, 2) := by decide +kernel
theorem dX12_marchOf_37 : decode cX12_marchOf 37 = .ok (.imul, 1) := by decide +kernel
theorem dX12_marchOf_38 : decode cX12_marchOf 38 = .ok (.iconst 4, 1) := by decide +kernel
theorem dX12_marchOf_39 : decode cX12_marchOf 39 = .ok (.iadd, 1) := by decide +kernel
theorem dX12_marchOf_40 : decode cX12_marchOf 40 = .ok (.iaload, 1) := by decide +kernel
theorem dX12_marchOf_41 : decode cX12_marchOf 41 = .ok (.goto 4, 3) := by decide +kernel
theorem dX12_marchOf_44 : decode cX12_marchOf 44 = .ok (.iconst 0, 1) := by decide +kernel
theorem dX12_marchOf_45 : decode cX12_marchOf 45 = .ok (.iadd, 1) := by decide +kernel
theorem dX12_marchOf_46 : decode cX12_marchOf 46 = .ok (.istore 5, 2) := by decide +kernel
theorem dX12_marchOf_48 : decode cX12_marchOf 48 = .ok (.iinc 6 1, 3) := by decide +kernel
theorem dX12_marchOf_51 : decode cX12_marchOf 51 = .ok (.goto (-45), 3) := by decide +kernel
theorem dX12_marchOf_54 : decode cX12_marchOf 54 = .ok (.iload_n 3, 1) := by decide +kernel
theorem dX12_marchOf_55 : decode cX12_marchOf 55 = .ok (.iload 5, 2) := by decide +kernel
theorem dX12_marchOf_57 : decode cX12_marchOf 57 = .ok (.if_icmp .le 7, 3) := by decide +kernel
theorem dX12_marchOf_60 : decode cX12_marchOf 60 = .ok (.lconst 0, 1) := by decide +kernel
theorem dX12_marchOf_61 : decode cX12_marchOf 61 = .ok (.goto 4, 3) := by decide +kernel
theorem dX12_marchOf_64 : decode cX12_marchOf 64 = .ok (.lconst 1, 1) := by decide +kernel
theorem dX12_marchOf_65 : decode cX12_marchOf 65 = .ok (.lstore 6, 2) := by decide +kernel
theorem dX12_marchOf_67 : decode cX12_marchOf 67 = .ok (.lconst 1, 1) := by decide +kernel
theorem dX12_marchOf_68 : decode cX12_marchOf 68 = .ok (.lstore 8, 2) := by decide +kernel
theorem dX12_marchOf_70 : decode cX12_marchOf 70 = .ok (.iconst 0, 1) := by decide +kernel
theorem dX12_marchOf_71 : decode cX12_marchOf 71 = .ok (.istore 10, 2) := by decide +kernel
theorem dX12_marchOf_73 : decode cX12_marchOf 73 = .ok (.iload 10, 2) := by decide +kernel
theorem dX12_marchOf_75 : decode cX12_marchOf 75 = .ok (.iload_n 3, 1) := by decide +kernel
theorem dX12_marchOf_76 : decode cX12_marchOf 76 = .ok (.if_icmp .ge 26, 3) := by decide +kernel
theorem dX12_marchOf_79 : decode cX12_marchOf 79 = .ok (.lload 6, 2) := by decide +kernel
theorem dX12_marchOf_81 : decode cX12_marchOf 81 = .ok (.iload 5, 2) := by decide +kernel
theorem dX12_marchOf_83 : decode cX12_marchOf 83 = .ok (.iload 10, 2) := by decide +kernel
theorem dX12_marchOf_85 : decode cX12_marchOf 85 = .ok (.isub, 1) := by decide +kernel
theorem dX12_marchOf_86 : decode cX12_marchOf 86 = .ok (.i2l, 1) := by decide +kernel
theorem dX12_marchOf_87 : decode cX12_marchOf 87 = .ok (.lmul, 1) := by decide +kernel
theorem dX12_marchOf_88 : decode cX12_marchOf 88 = .ok (.iload 10, 2) := by decide +kernel
theorem dX12_marchOf_90 : decode cX12_marchOf 90 = .ok (.iconst 1, 1) := by decide +kernel
theorem dX12_marchOf_91 : decode cX12_marchOf 91 = .ok (.iadd, 1) := by decide +kernel
theorem dX12_marchOf_92 : decode cX12_marchOf 92 = .ok (.i2l, 1) := by decide +kernel
theorem dX12_marchOf_93 : decode cX12_marchOf 93 = .ok (.ldiv, 1) := by decide +kernel
theorem dX12_marchOf_94 : decode cX12_marchOf 94 = .ok (.lstore 6, 2) := by decide +kernel
theorem dX12_marchOf_96 : decode cX12_marchOf 96 = .ok (.iinc 10 1, 3) := by decide +kernel
theorem dX12_marchOf_99 : decode cX12_marchOf 99 = .ok (.goto (-26), 3) := by decide +kernel
theorem dX12_marchOf_102 : decode cX12_marchOf 102 = .ok (.iconst 0, 1) := by decide +kernel
theorem dX12_marchOf_103 : decode cX12_marchOf 103 = .ok (.istore 10, 2) := by decide +kernel
theorem dX12_marchOf_105 : decode cX12_marchOf 105 = .ok (.iload 10, 2) := by decide +kernel
theorem dX12_marchOf_107 : decode cX12_marchOf 107 = .ok (.iload 5, 2) := by decide +kernel
theorem dX12_marchOf_109 : decode cX12_marchOf 109 = .ok (.if_icmp .ge 38, 3) := by decide +kernel
theorem dX12_marchOf_112 : decode cX12_marchOf 112 = .ok (.lload 6, 2) := by decide +kernel
theorem dX12_marchOf_114 : decode cX12_marchOf 114 = .ok (.iload 10, 2) := by decide +kernel
theorem dX12_marchOf_116 : decode cX12_marchOf 116 = .ok (.iload_n 3, 1) := by decide +kernel
theorem dX12_marchOf_117 : decode cX12_marchOf 117 = .ok (.if_icmp .ge 11, 3) := by decide +kernel
theorem dX12_marchOf_120 : decode cX12_marchOf 120 = .ok (.bipush 16, 2) := by decide +kernel
theorem dX12_marchOf_122 : decode cX12_marchOf 122 = .ok (.iload_n 1, 1) := by decide +kernel
theorem dX12_marchOf_123 : decode cX12_marchOf 123 = .ok (.isub, 1) := by decide +kernel
theorem dX12_marchOf_124 : decode cX12_marchOf 124 = .ok (.i2l, 1) := by decide +kernel
theorem dX12_marchOf_125 : decode cX12_marchOf 125 = .ok (.goto 5, 3) := by decide +kernel
theorem dX12_marchOf_128 : decode cX12_marchOf 128 = .ok (.iload_n 1, 1) := by decide +kernel
theorem dX12_marchOf_129 : decode cX12_marchOf 129 = .ok (.i2l, 1) := by decide +kernel
theorem dX12_marchOf_130 : decode cX12_marchOf 130 = .ok (.lmul, 1) := by decide +kernel
theorem dX12_marchOf_131 : decode cX12_marchOf 131 = .ok (.lstore 6, 2) := by decide +kernel
theorem dX12_marchOf_133 : decode cX12_marchOf 133 = .ok (.lload 8, 2) := by decide +kernel
theorem dX12_marchOf_135 : decode cX12_marchOf 135 = .ok (.ldc2_w 268, 3) := by decide +kernel
theorem dX12_marchOf_138 : decode cX12_marchOf 138 = .ok (.lmul, 1) := by decide +kernel
theorem dX12_marchOf_139 : decode cX12_marchOf 139 = .ok (.lstore 8, 2) := by decide +kernel
theorem dX12_marchOf_141 : decode cX12_marchOf 141 = .ok (.iinc 10 1, 3) := by decide +kernel
theorem dX12_marchOf_144 : decode cX12_marchOf 144 = .ok (.goto (-39), 3) := by decide +kernel
theorem dX12_marchOf_147 : decode cX12_marchOf 147 = .ok (.lload 6, 2) := by decide +kernel
theorem dX12_marchOf_149 : decode cX12_marchOf 149 = .ok (.lload 8, 2) := by decide +kernel
theorem dX12_marchOf_151 : decode cX12_marchOf 151 = .ok (.iload 4, 2) := by decide +kernel
theorem dX12_marchOf_153 : decode cX12_marchOf 153 = .ok (.invokestatic 270, 3) := by decide +kernel
theorem dX12_marchOf_156 : decode cX12_marchOf 156 = .ok (.lreturn, 1) := by decide +kernel
theorem dX12_march_0 : decode cX12_march 0 = .ok (.aload_n 0, 1) := by decide +kernel
theorem dX12_march_1 : decode cX12_march 1 = .ok (.invokevirtual 171, 3) := by decide +kernel
theorem dX12_march_4 : decode cX12_march 4 = .ok (.iload_n 1, 1) := by decide +kernel
theorem dX12_march_5 : decode cX12_march 5 = .ok (.i2l, 1) := by decide +kernel
theorem dX12_march_6 : decode cX12_march 6 = .ok (.lconst 0, 1) := by decide +kernel
theorem dX12_march_7 : decode cX12_march 7 = .ok (.ldc2_w 268, 3) := by decide +kernel
theorem dX12_march_10 : decode cX12_march 10 = .ok (.invokestatic 57, 3) := by decide +kernel
theorem dX12_march_13 : decode cX12_march 13 = .ok (.ifCond .eq 43, 3) := by decide +kernel
theorem dX12_march_16 : decode cX12_march 16 = .ok (.aload_n 0, 1) := by decide +kernel
theorem dX12_march_17 : decode cX12_march 17 = .ok (.iload_n 2, 1) := by decide +kernel
theorem dX12_march_18 : decode cX12_march 18 = .ok (.invokevirtual 133, 3) := by decide +kernel
theorem dX12_march_21 : decode cX12_march 21 = .ok (.ifCond .eq 35, 3) := by decide +kernel
theorem dX12_march_24 : decode cX12_march 24 = .ok (.iload_n 3, 1) := by decide +kernel
theorem dX12_march_25 : decode cX12_march 25 = .ok (.i2l, 1) := by decide +kernel
theorem dX12_march_26 : decode cX12_march 26 = .ok (.lconst 0, 1) := by decide +kernel
theorem dX12_march_27 : decode cX12_march 27 = .ok (.ldc2_w 274, 3) := by decide +kernel
theorem dX12_march_30 : decode cX12_march 30 = .ok (.invokestatic 57, 3) := by decide +kernel
theorem dX12_march_33 : decode cX12_march 33 = .ok (.ifCond .eq 23, 3) := by decide +kernel
theorem dX12_march_36 : decode cX12_march 36 = .ok (.iload 4, 2) := by decide +kernel
theorem dX12_march_38 : decode cX12_march 38 = .ok (.invokestatic 233, 3) := by decide +kernel
theorem dX12_march_41 : decode cX12_march 41 = .ok (.ifCond .eq 15, 3) := by decide +kernel
theorem dX12_march_44 : decode cX12_march 44 = .ok (.aload_n 0, 1) := by decide +kernel
theorem dX12_march_45 : decode cX12_march 45 = .ok (.iload_n 1, 1) := by decide +kernel
theorem dX12_march_46 : decode cX12_march 46 = .ok (.iload_n 2, 1) := by decide +kernel
theorem dX12_march_47 : decode cX12_march 47 = .ok (.iload_n 3, 1) := by decide +kernel
theorem dX12_march_48 : decode cX12_march 48 = .ok (.iload 4, 2) := by decide +kernel
theorem dX12_march_50 : decode cX12_march 50 = .ok (.invokevirtual 276, 3) := by decide +kernel
theorem dX12_march_53 : decode cX12_march 53 = .ok (.goto 8, 3) := by decide +kernel
theorem dX12_march_56 : decode cX12_march 56 = .ok (.bipush (-2), 2) := by decide +kernel
theorem dX12_march_58 : decode cX12_march 58 = .ok (.invokestatic 280, 3) := by decide +kernel
theorem dX12_march_61 : decode cX12_march 61 = .ok (.lreturn, 1) := by decide +kernel
theorem dX12_lot_0 : decode cX12_lot 0 = .ok (.aload_n 0, 1) := by decide +kernel
theorem dX12_lot_1 : decode cX12_lot 1 = .ok (.ldc_w 284, 3) := by decide +kernel
theorem dX12_lot_4 : decode cX12_lot 4 = .ok (.aload_n 0, 1) := by decide +kernel
theorem dX12_lot_5 : decode cX12_lot 5 = .ok (.getfield 285, 3) := by decide +kernel
theorem dX12_lot_8 : decode cX12_lot 8 = .ok (.imul, 1) := by decide +kernel
theorem dX12_lot_9 : decode cX12_lot 9 = .ok (.sipush 12345, 3) := by decide +kernel
theorem dX12_lot_12 : decode cX12_lot 12 = .ok (.iadd, 1) := by decide +kernel
theorem dX12_lot_13 : decode cX12_lot 13 = .ok (.putfield 285, 3) := by decide +kernel
theorem dX12_lot_16 : decode cX12_lot 16 = .ok (.aload_n 0, 1) := by decide +kernel
theorem dX12_lot_17 : decode cX12_lot 17 = .ok (.getfield 285, 3) := by decide +kernel
theorem dX12_lot_20 : decode cX12_lot 20 = .ok (.bipush 16, 2) := by decide +kernel
theorem dX12_lot_22 : decode cX12_lot 22 = .ok (.iushr, 1) := by decide +kernel
theorem dX12_lot_23 : decode cX12_lot 23 = .ok (.iload_n 1, 1) := by decide +kernel
theorem dX12_lot_24 : decode cX12_lot 24 = .ok (.irem, 1) := by decide +kernel
theorem dX12_lot_25 : decode cX12_lot 25 = .ok (.ireturn, 1) := by decide +kernel
theorem dX12_willsOf_0 : decode cX12_willsOf 0 = .ok (.aload_n 0, 1) := by decide +kernel
theorem dX12_willsOf_1 : decode cX12_willsOf 1 = .ok (.iload_n 1, 1) := by decide +kernel
theorem dX12_willsOf_2 : decode cX12_willsOf 2 = .ok (.putfield 285, 3) := by decide +kernel
theorem dX12_willsOf_5 : decode cX12_willsOf 5 = .ok (.iconst 0, 1) := by decide +kernel
theorem dX12_willsOf_6 : decode cX12_willsOf 6 = .ok (.istore 4, 2) := by decide +kernel
theorem dX12_willsOf_8 : decode cX12_willsOf 8 = .ok (.iload 4, 2) := by decide +kernel
theorem dX12_willsOf_10 : decode cX12_willsOf 10 = .ok (.iload_n 2, 1) := by decide +kernel
theorem dX12_willsOf_11 : decode cX12_willsOf 11 = .ok (.if_icmp .ge 49, 3) := by decide +kernel
theorem dX12_willsOf_14 : decode cX12_willsOf 14 = .ok (.aload_n 0, 1) := by decide +kernel
theorem dX12_willsOf_15 : decode cX12_willsOf 15 = .ok (.aload_n 0, 1) := by decide +kernel
theorem dX12_willsOf_16 : decode cX12_willsOf 16 = .ok (.getfield 28, 3) := by decide +kernel
theorem dX12_willsOf_19 : decode cX12_willsOf 19 = .ok (.iconst 0, 1) := by decide +kernel
theorem dX12_willsOf_20 : decode cX12_willsOf 20 = .ok (.iaload, 1) := by decide +kernel
theorem dX12_willsOf_21 : decode cX12_willsOf 21 = .ok (.invokevirtual 288, 3) := by decide +kernel
theorem dX12_willsOf_24 : decode cX12_willsOf 24 = .ok (.istore 5, 2) := by decide +kernel
theorem dX12_willsOf_26 : decode cX12_willsOf 26 = .ok (.iconst 1, 1) := by decide +kernel
theorem dX12_willsOf_27 : decode cX12_willsOf 27 = .ok (.aload_n 0, 1) := by decide +kernel
theorem dX12_willsOf_28 : decode cX12_willsOf 28 = .ok (.iconst 2, 1) := by decide +kernel
theorem dX12_willsOf_29 : decode cX12_willsOf 29 = .ok (.invokevirtual 288, 3) := by decide +kernel
theorem dX12_willsOf_32 : decode cX12_willsOf 32 = .ok (.isub, 1) := by decide +kernel
theorem dX12_willsOf_33 : decode cX12_willsOf 33 = .ok (.istore 6, 2) := by decide +kernel
theorem dX12_willsOf_35 : decode cX12_willsOf 35 = .ok (.aload_n 0, 1) := by decide +kernel
theorem dX12_willsOf_36 : decode cX12_willsOf 36 = .ok (.iload 5, 2) := by decide +kernel
theorem dX12_willsOf_38 : decode cX12_willsOf 38 = .ok (.iload 6, 2) := by decide +kernel
theorem dX12_willsOf_40 : decode cX12_willsOf 40 = .ok (.aload_n 0, 1) := by decide +kernel
theorem dX12_willsOf_41 : decode cX12_willsOf 41 = .ok (.aload_n 0, 1) := by decide +kernel
theorem dX12_willsOf_42 : decode cX12_willsOf 42 = .ok (.getfield 28, 3) := by decide +kernel
theorem dX12_willsOf_45 : decode cX12_willsOf 45 = .ok (.iconst 1, 1) := by decide +kernel
theorem dX12_willsOf_46 : decode cX12_willsOf 46 = .ok (.iaload, 1) := by decide +kernel
theorem dX12_willsOf_47 : decode cX12_willsOf 47 = .ok (.invokevirtual 288, 3) := by decide +kernel
theorem dX12_willsOf_50 : decode cX12_willsOf 50 = .ok (.invokevirtual 164, 3) := by decide +kernel
theorem dX12_willsOf_53 : decode cX12_willsOf 53 = .ok (.pop, 1) := by decide +kernel
theorem dX12_willsOf_54 : decode cX12_willsOf 54 = .ok (.iinc 4 1, 3) := by decide +kernel
theorem dX12_willsOf_57 : decode cX12_willsOf 57 = .ok (.goto (-49), 3) := by decide +kernel
theorem dX12_willsOf_60 : decode cX12_willsOf 60 = .ok (.aload_n 0, 1) := by decide +kernel
theorem dX12_willsOf_61 : decode cX12_willsOf 61 = .ok (.iload_n 3, 1) := by decide +kernel
theorem dX12_willsOf_62 : decode cX12_willsOf 62 = .ok (.invokevirtual 195, 3) := by decide +kernel
theorem dX12_willsOf_65 : decode cX12_willsOf 65 = .ok (.istore 4, 2) := by decide +kernel
theorem dX12_willsOf_67 : decode cX12_willsOf 67 = .ok (.aload_n 0, 1) := by decide +kernel
theorem dX12_willsOf_68 : decode cX12_willsOf 68 = .ok (.invokevirtual 168, 3) := by decide +kernel
theorem dX12_willsOf_71 : decode cX12_willsOf 71 = .ok (.iload 4, 2) := by decide +kernel
theorem dX12_willsOf_73 : decode cX12_willsOf 73 = .ok (.ireturn, 1) := by decide +kernel
theorem dX12_wills_0 : decode cX12_wills 0 = .ok (.aload_n 0, 1) := by decide +kernel
theorem dX12_wills_1 : decode cX12_wills 1 = .ok (.invokevirtual 171, 3) := by decide +kernel
theorem dX12_wills_4 : decode cX12_wills 4 = .ok (.iload_n 2, 1) := by decide +kernel
theorem dX12_wills_5 : decode cX12_wills 5 = .ok (.i2l, 1) := by decide +kernel
theorem dX12_wills_6 : decode cX12_wills 6 = .ok (.lconst 1, 1) := by decide +kernel
theorem dX12_wills_7 : decode cX12_wills 7 = .ok (.ldc2_w 291, 3) := by decide +kernel
theorem dX12_wills_10 : decode cX12_wills 10 = .ok (.invokestatic 57, 3) := by decide +kernel
theorem dX12_wills_13 : decode cX12_wills 13 = .ok (.ifCond .eq 30, 3) := by decide +kernel
theorem dX12_wills_16 : decode cX12_wills 16 = .ok (.aload_n 0, 1) := by decide +kernel
theorem dX12_wills_17 : decode cX12_wills 17 = .ok (.iload_n 3, 1) := by decide +kernel
theorem dX12_wills_18 : decode cX12_wills 18 = .ok (.invokevirtual 133, 3) := by decide +kernel
theorem dX12_wills_21 : decode cX12_wills 21 = .ok (.ifCond .eq 22, 3) := by decide +kernel
theorem dX12_wills_24 : decode cX12_wills 24 = .ok (.aload_n 0, 1) := by decide +kernel
theorem dX12_wills_25 : decode cX12_wills 25 = .ok (.getfield 28, 3) := by decide +kernel
theorem dX12_wills_28 : decode cX12_wills 28 = .ok (.iconst 0, 1) := by decide +kernel
theorem dX12_wills_29 : decode cX12_wills 29 = .ok (.iaload, 1) := by decide +kernel
theorem dX12_wills_30 : decode cX12_wills 30 = .ok (.ifCond .le 13, 3) := by decide +kernel
theorem dX12_wills_33 : decode cX12_wills 33 = .ok (.aload_n 0, 1) := by decide +kernel
theorem dX12_wills_34 : decode cX12_wills 34 = .ok (.iload_n 1, 1) := by decide +kernel
theorem dX12_wills_35 : decode cX12_wills 35 = .ok (.iload_n 2, 1) := by decide +kernel
theorem dX12_wills_36 : decode cX12_wills 36 = .ok (.iload_n 3, 1) := by decide +kernel
theorem dX12_wills_37 : decode cX12_wills 37 = .ok (.invokevirtual 293, 3) := by decide +kernel
theorem dX12_wills_40 : decode cX12_wills 40 = .ok (.goto 5, 3) := by decide +kernel
theorem dX12_wills_43 : decode cX12_wills 43 = .ok (.bipush (-2), 2) := by decide +kernel
theorem dX12_wills_45 : decode cX12_wills 45 = .ok (.ireturn, 1) := by decide +kernel
theorem dX12_hours_0 : decode cX12_hours 0 = .ok (.aload_n 0, 1) := by decide +kernel
theorem dX12_hours_1 : decode cX12_hours 1 = .ok (.invokevirtual 171, 3) := by decide +kernel
theorem dX12_hours_4 : decode cX12_hours 4 = .ok (.aload_n 0, 1) := by decide +kernel
theorem dX12_hours_5 : decode cX12_hours 5 = .ok (.iload_n 1, 1) := by decide +kernel
theorem dX12_hours_6 : decode cX12_hours 6 = .ok (.invokevirtual 133, 3) := by decide +kernel
theorem dX12_hours_9 : decode cX12_hours 9 = .ok (.ifCond .eq 10, 3) := by decide +kernel
theorem dX12_hours_12 : decode cX12_hours 12 = .ok (.iload_n 2, 1) := by decide +kernel
theorem dX12_hours_13 : decode cX12_hours 13 = .ok (.invokestatic 67, 3) := by decide +kernel
theorem dX12_hours_16 : decode cX12_hours 16 = .ok (.ifCond .ne 6, 3) := by decide +kernel
theorem dX12_hours_19 : decode cX12_hours 19 = .ok (.bipush (-2), 2) := by decide +kernel
theorem dX12_hours_21 : decode cX12_hours 21 = .ok (.ireturn, 1) := by decide +kernel
theorem dX12_hours_22 : decode cX12_hours 22 = .ok (.aload_n 0, 1) := by decide +kernel
theorem dX12_hours_23 : decode cX12_hours 23 = .ok (.getfield 7, 3) := by decide +kernel
theorem dX12_hours_26 : decode cX12_hours 26 = .ok (.iload_n 2, 1) := by decide +kernel
theorem dX12_hours_27 : decode cX12_hours 27 = .ok (.iaload, 1) := by decide +kernel
theorem dX12_hours_28 : decode cX12_hours 28 = .ok (.ifCond .ge 9, 3) := by decide +kernel
theorem dX12_hours_31 : decode cX12_hours 31 = .ok (.aload_n 0, 1) := by decide +kernel
theorem dX12_hours_32 : decode cX12_hours 32 = .ok (.iconst 1, 1) := by decide +kernel
theorem dX12_hours_33 : decode cX12_hours 33 = .ok (.invokevirtual 73, 3) := by decide +kernel
theorem dX12_hours_36 : decode cX12_hours 36 = .ok (.ireturn, 1) := by decide +kernel
theorem dX12_hours_37 : decode cX12_hours 37 = .ok (.aload_n 0, 1) := by decide +kernel
theorem dX12_hours_38 : decode cX12_hours 38 = .ok (.getfield 13, 3) := by decide +kernel
theorem dX12_hours_41 : decode cX12_hours 41 = .ok (.iload_n 2, 1) := by decide +kernel
theorem dX12_hours_42 : decode cX12_hours 42 = .ok (.iaload, 1) := by decide +kernel
theorem dX12_hours_43 : decode cX12_hours 43 = .ok (.bipush 24, 2) := by decide +kernel
theorem dX12_hours_45 : decode cX12_hours 45 = .ok (.invokestatic 213, 3) := by decide +kernel
theorem dX12_hours_48 : decode cX12_hours 48 = .ok (.istore_n 3, 1) := by decide +kernel
theorem dX12_hours_49 : decode cX12_hours 49 = .ok (.iconst 0, 1) := by decide +kernel
theorem dX12_hours_50 : decode cX12_hours 50 = .ok (.istore 4, 2) := by decide +kernel
theorem dX12_hours_52 : decode cX12_hours 52 = .ok (.iload 4, 2) := by decide +kernel
theorem dX12_hours_54 : decode cX12_hours 54 = .ok (.iload_n 3, 1) := by decide +kernel
theorem dX12_hours_55 : decode cX12_hours 55 = .ok (.if_icmp .ge 37, 3) := by decide +kernel
theorem dX12_hours_58 : decode cX12_hours 58 = .ok (.aload_n 0, 1) := by decide +kernel
theorem dX12_hours_59 : decode cX12_hours 59 = .ok (.getfield 16, 3) := by decide +kernel
theorem dX12_hours_62 : decode cX12_hours 62 = .ok (.bipush 60, 2) := by decide +kernel
theorem dX12_hours_64 : decode cX12_hours 64 = .ok (.iload_n 2, 1) := by decide +kernel
theorem dX12_hours_65 : decode cX12_hours 65 = .ok (.imul, 1) := by decide +kernel
theorem dX12_hours_66 : decode cX12_hours 66 = .ok (.iload 4, 2) := by decide +kernel
theorem dX12_hours_68 : decode cX12_hours 68 = .ok (.iadd, 1) := by decide +kernel
theorem dX12_hours_69 : decode cX12_hours 69 = .ok (.aload_n 0, 1) := by decide +kernel
theorem dX12_hours_70 : decode cX12_hours 70 = .ok (.getfield 7, 3) := by decide +kernel
theorem dX12_hours_73 : decode cX12_hours 73 = .ok (.iload_n 2, 1) := by decide +kernel
theorem dX12_hours_74 : decode cX12_hours 74 = .ok (.iaload, 1) := by decide +kernel
theorem dX12_hours_75 : decode cX12_hours 75 = .ok (.aload_n 0, 1) := by decide +kernel
theorem dX12_hours_76 : decode cX12_hours 76 = .ok (.iload_n 1, 1) := by decide +kernel
theorem dX12_hours_77 : decode cX12_hours 77 = .ok (.iload 4, 2) := by decide +kernel
theorem dX12_hours_79 : decode cX12_hours 79 = .ok (.invokevirtual 207, 3) := by decide +kernel
theorem dX12_hours_82 : decode cX12_hours 82 = .ok (.invokestatic 81, 3) := by decide +kernel
theorem dX12_hours_85 : decode cX12_hours 85 = .ok (.iastore, 1) := by decide +kernel
theorem dX12_hours_86 : decode cX12_hours 86 = .ok (.iinc 4 1, 3) := by decide +kernel
theorem dX12_hours_89 : decode cX12_hours 89 = .ok (.goto (-37), 3) := by decide +kernel
theorem dX12_hours_92 : decode cX12_hours 92 = .ok (.iload_n 3, 1) := by decide +kernel
theorem dX12_hours_93 : decode cX12_hours 93 = .ok (.ireturn, 1) := by decide +kernel
theorem dX12_count_0 : decode cX12_count 0 = .ok (.aload_n 0, 1) := by decide +kernel
theorem dX12_count_1 : decode cX12_count 1 = .ok (.invokevirtual 125, 3) := by decide +kernel
theorem dX12_count_4 : decode cX12_count 4 = .ok (.iload_n 1, 1) := by decide +kernel
theorem dX12_count_5 : decode cX12_count 5 = .ok (.tableswitch 82 0 8 #[51, 51, 51, 58, 58, 58, 67, 72, 77], 51) := by decide +kernel
theorem dX12_count_56 : decode cX12_count 56 = .ok (.aload_n 0, 1) := by decide +kernel
theorem dX12_count_57 : decode cX12_count 57 = .ok (.getfield 28, 3) := by decide +kernel
theorem dX12_count_60 : decode cX12_count 60 = .ok (.iload_n 1, 1) := by decide +kernel
theorem dX12_count_61 : decode cX12_count 61 = .ok (.iaload, 1) := by decide +kernel
theorem dX12_count_62 : decode cX12_count 62 = .ok (.ireturn, 1) := by decide +kernel
theorem dX12_count_63 : decode cX12_count 63 = .ok (.aload_n 0, 1) := by decide +kernel
theorem dX12_count_64 : decode cX12_count 64 = .ok (.getfield 25, 3) := by decide +kernel
theorem dX12_count_67 : decode cX12_count 67 = .ok (.iload_n 1, 1) := by decide +kernel
theorem dX12_count_68 : decode cX12_count 68 = .ok (.iconst 3, 1) := by decide +kernel
theorem dX12_count_69 : decode cX12_count 69 = .ok (.isub, 1) := by decide +kernel
theorem dX12_count_70 : decode cX12_count 70 = .ok (.iaload, 1) := by decide +kernel
theorem dX12_count_71 : decode cX12_count 71 = .ok (.ireturn, 1) := by decide +kernel
theorem dX12_count_72 : decode cX12_count 72 = .ok (.aload_n 0, 1) := by decide +kernel
theorem dX12_count_73 : decode cX12_count 73 = .ok (.getfield 141, 3) := by decide +kernel
theorem dX12_count_76 : decode cX12_count 76 = .ok (.ireturn, 1) := by decide +kernel
theorem dX12_count_77 : decode cX12_count 77 = .ok (.aload_n 0, 1) := by decide +kernel
theorem dX12_count_78 : decode cX12_count 78 = .ok (.getfield 248, 3) := by decide +kernel
theorem dX12_count_81 : decode cX12_count 81 = .ok (.ireturn, 1) := by decide +kernel
theorem dX12_count_82 : decode cX12_count 82 = .ok (.aload_n 0, 1) := by decide +kernel
theorem dX12_count_83 : decode cX12_count 83 = .ok (.getfield 61, 3) := by decide +kernel
theorem dX12_count_86 : decode cX12_count 86 = .ok (.ireturn, 1) := by decide +kernel
theorem dX12_count_87 : decode cX12_count 87 = .ok (.bipush (-2), 2) := by decide +kernel
theorem dX12_count_89 : decode cX12_count 89 = .ok (.ireturn, 1) := by decide +kernel
theorem dX12_tellsHabits_0 : decode cX12_tellsHabits 0 = .ok (.lload_n 1, 1) := by decide +kernel
theorem dX12_tellsHabits_1 : decode cX12_tellsHabits 1 = .ok (.lstore 4, 2) := by decide +kernel
theorem dX12_tellsHabits_3 : decode cX12_tellsHabits 3 = .ok (.iconst 0, 1) := by decide +kernel
theorem dX12_tellsHabits_4 : decode cX12_tellsHabits 4 = .ok (.istore 6, 2) := by decide +kernel
theorem dX12_tellsHabits_6 : decode cX12_tellsHabits 6 = .ok (.iload 6, 2) := by decide +kernel
theorem dX12_tellsHabits_8 : decode cX12_tellsHabits 8 = .ok (.iconst 5, 1) := by decide +kernel
theorem dX12_tellsHabits_9 : decode cX12_tellsHabits 9 = .ok (.if_icmp .ge 30, 3) := by decide +kernel
theorem dX12_tellsHabits_12 : decode cX12_tellsHabits 12 = .ok (.ldc2_w 296, 3) := by decide +kernel
theorem dX12_tellsHabits_15 : decode cX12_tellsHabits 15 = .ok (.lload 4, 2) := by decide +kernel
theorem dX12_tellsHabits_17 : decode cX12_tellsHabits 17 = .ok (.lmul, 1) := by decide +kernel
theorem dX12_tellsHabits_18 : decode cX12_tellsHabits 18 = .ok (.aload_n 0, 1) := by decide +kernel
theorem dX12_tellsHabits_19 : decode cX12_tellsHabits 19 = .ok (.getfield 31, 3) := by decide +kernel
theorem dX12_tellsHabits_22 : decode cX12_tellsHabits 22 = .ok (.iconst 5, 1) := by decide +kernel
theorem dX12_tellsHabits_23 : decode cX12_tellsHabits 23 = .ok (.iload_n 3, 1) := by decide +kernel
theorem dX12_tellsHabits_24 : decode cX12_tellsHabits 24 = .ok (.imul, 1) := by decide +kernel
theorem dX12_tellsHabits_25 : decode cX12_tellsHabits 25 = .ok (.iload 6, 2) := by decide +kernel
theorem dX12_tellsHabits_27 : decode cX12_tellsHabits 27 = .ok (.iadd, 1) := by decide +kernel
theorem dX12_tellsHabits_28 : decode cX12_tellsHabits 28 = .ok (.iaload, 1) := by decide +kernel
theorem dX12_tellsHabits_29 : decode cX12_tellsHabits 29 = .ok (.i2l, 1) := by decide +kernel
theorem dX12_tellsHabits_30 : decode cX12_tellsHabits 30 = .ok (.ladd, 1) := by decide +kernel
theorem dX12_tellsHabits_31 : decode cX12_tellsHabits 31 = .ok (.lstore 4, 2) := by decide +kernel
theorem dX12_tellsHabits_33 : decode cX12_tellsHabits 33 = .ok (.iinc 6 1, 3) := by decide +kernel
theorem dX12_tellsHabits_36 : decode cX12_tellsHabits 36 = .ok (.goto (-30), 3) := by decide +kernel
theorem dX12_tellsHabits_39 : decode cX12_tellsHabits 39 = .ok (.ldc2_w 296, 3) := by decide +kernel
theorem dX12_tellsHabits_42 : decode cX12_tellsHabits 42 = .ok (.lload 4, 2) := by decide +kernel
theorem dX12_tellsHabits_44 : decode cX12_tellsHabits 44 = .ok (.lmul, 1) := by decide +kernel
theorem dX12_tellsHabits_45 : decode cX12_tellsHabits 45 = .ok (.aload_n 0, 1) := by decide +kernel
theorem dX12_tellsHabits_46 : decode cX12_tellsHabits 46 = .ok (.getfield 46, 3) := by decide +kernel
theorem dX12_tellsHabits_49 : decode cX12_tellsHabits 49 = .ok (.iload_n 3, 1) := by decide +kernel
theorem dX12_tellsHabits_50 : decode cX12_tellsHabits 50 = .ok (.iaload, 1) := by decide +kernel
theorem dX12_tellsHabits_51 : decode cX12_tellsHabits 51 = .ok (.i2l, 1) := by decide +kernel
theorem dX12_tellsHabits_52 : decode cX12_tellsHabits 52 = .ok (.ladd, 1) := by decide +kernel
theorem dX12_tellsHabits_53 : decode cX12_tellsHabits 53 = .ok (.lstore 4, 2) := by decide +kernel
theorem dX12_tellsHabits_55 : decode cX12_tellsHabits 55 = .ok (.ldc2_w 296, 3) := by decide +kernel
theorem dX12_tellsHabits_58 : decode cX12_tellsHabits 58 = .ok (.lload 4, 2) := by decide +kernel
theorem dX12_tellsHabits_60 : decode cX12_tellsHabits 60 = .ok (.lmul, 1) := by decide +kernel
theorem dX12_tellsHabits_61 : decode cX12_tellsHabits 61 = .ok (.aload_n 0, 1) := by decide +kernel
theorem dX12_tellsHabits_62 : decode cX12_tellsHabits 62 = .ok (.iload_n 3, 1) := by decide +kernel
theorem dX12_tellsHabits_63 : decode cX12_tellsHabits 63 = .ok (.invokevirtual 258, 3) := by decide +kernel
theorem dX12_tellsHabits_66 : decode cX12_tellsHabits 66 = .ok (.i2l, 1) := by decide +kernel
theorem dX12_tellsHabits_67 : decode cX12_tellsHabits 67 = .ok (.ladd, 1) := by decide +kernel
theorem dX12_tellsHabits_68 : decode cX12_tellsHabits 68 = .ok (.lstore 4, 2) := by decide +kernel
theorem dX12_tellsHabits_70 : decode cX12_tellsHabits 70 = .ok (.ldc2_w 296, 3) := by decide +kernel
theorem dX12_tellsHabits_73 : decode cX12_tellsHabits 73 = .ok (.lload 4, 2) := by decide +kernel
theorem dX12_tellsHabits_75 : decode cX12_tellsHabits 75 = .ok (.lmul, 1) := by decide +kernel
theorem dX12_tellsHabits_76 : decode cX12_tellsHabits 76 = .ok (.aload_n 0, 1) := by decide +kernel
theorem dX12_tellsHabits_77 : decode cX12_tellsHabits 77 = .ok (.iload_n 3, 1) := by decide +kernel
theorem dX12_tellsHabits_78 : decode cX12_tellsHabits 78 = .ok (.iconst 0, 1) := by decide +kernel
theorem dX12_tellsHabits_79 : decode cX12_tellsHabits 79 = .ok (.invokevirtual 298, 3) := by decide +kernel
theorem dX12_tellsHabits_82 : decode cX12_tellsHabits 82 = .ok (.i2l, 1) := by decide +kernel
theorem dX12_tellsHabits_83 : decode cX12_tellsHabits 83 = .ok (.ladd, 1) := by decide +kernel
theorem dX12_tellsHabits_84 : decode cX12_tellsHabits 84 = .ok (.lreturn, 1) := by decide +kernel
theorem dX12_tellsHeirs_0 : decode cX12_tellsHeirs 0 = .ok (.lload_n 1, 1) := by decide +kernel
theorem dX12_tellsHeirs_1 : decode cX12_tellsHeirs 1 = .ok (.lstore 4, 2) := by decide +kernel
theorem dX12_tellsHeirs_3 : decode cX12_tellsHeirs 3 = .ok (.iconst 0, 1) := by decide +kernel
theorem dX12_tellsHeirs_4 : decode cX12_tellsHeirs 4 = .ok (.istore 6, 2) := by decide +kernel
theorem dX12_tellsHeirs_6 : decode cX12_tellsHeirs 6 = .ok (.iload 6, 2) := by decide +kernel
theorem dX12_tellsHeirs_8 : decode cX12_tellsHeirs 8 = .ok (.iconst 3, 1) := by decide +kernel
theorem dX12_tellsHeirs_9 : decode cX12_tellsHeirs 9 = .ok (.if_icmp .ge 30, 3) := by decide +kernel
theorem dX12_tellsHeirs_12 : decode cX12_tellsHeirs 12 = .ok (.ldc2_w 296, 3) := by decide +kernel
theorem dX12_tellsHeirs_15 : decode cX12_tellsHeirs 15 = .ok (.lload 4, 2) := by decide +kernel
theorem dX12_tellsHeirs_17 : decode cX12_tellsHeirs 17 = .ok (.lmul, 1) := by decide +kernel
theorem dX12_tellsHeirs_18 : decode cX12_tellsHeirs 18 = .ok (.aload_n 0, 1) := by decide +kernel
theorem dX12_tellsHeirs_19 : decode cX12_tellsHeirs 19 = .ok (.getfield 34, 3) := by decide +kernel
theorem dX12_tellsHeirs_22 : decode cX12_tellsHeirs 22 = .ok (.iconst 3, 1) := by decide +kernel
theorem dX12_tellsHeirs_23 : decode cX12_tellsHeirs 23 = .ok (.iload_n 3, 1) := by decide +kernel
theorem dX12_tellsHeirs_24 : decode cX12_tellsHeirs 24 = .ok (.imul, 1) := by decide +kernel
theorem dX12_tellsHeirs_25 : decode cX12_tellsHeirs 25 = .ok (.iload 6, 2) := by decide +kernel
theorem dX12_tellsHeirs_27 : decode cX12_tellsHeirs 27 = .ok (.iadd, 1) := by decide +kernel
theorem dX12_tellsHeirs_28 : decode cX12_tellsHeirs 28 = .ok (.iaload, 1) := by decide +kernel
theorem dX12_tellsHeirs_29 : decode cX12_tellsHeirs 29 = .ok (.i2l, 1) := by decide +kernel
theorem dX12_tellsHeirs_30 : decode cX12_tellsHeirs 30 = .ok (.ladd, 1) := by decide +kernel
theorem dX12_tellsHeirs_31 : decode cX12_tellsHeirs 31 = .ok (.lstore 4, 2) := by decide +kernel
theorem dX12_tellsHeirs_33 : decode cX12_tellsHeirs 33 = .ok (.iinc 6 1, 3) := by decide +kernel
theorem dX12_tellsHeirs_36 : decode cX12_tellsHeirs 36 = .ok (.goto (-30), 3) := by decide +kernel
theorem dX12_tellsHeirs_39 : decode cX12_tellsHeirs 39 = .ok (.iconst 0, 1) := by decide +kernel
theorem dX12_tellsHeirs_40 : decode cX12_tellsHeirs 40 = .ok (.istore 6, 2) := by decide +kernel
theorem dX12_tellsHeirs_42 : decode cX12_tellsHeirs 42 = .ok (.iload 6, 2) := by decide +kernel
theorem dX12_tellsHeirs_44 : decode cX12_tellsHeirs 44 = .ok (.iconst 4, 1) := by decide +kernel
theorem dX12_tellsHeirs_45 : decode cX12_tellsHeirs 45 = .ok (.if_icmp .ge 26, 3) := by decide +kernel
theorem dX12_tellsHeirs_48 : decode cX12_tellsHeirs 48 = .ok (.ldc2_w 296, 3) := by decide +kernel
theorem dX12_tellsHeirs_51 : decode cX12_tellsHeirs 51 = .ok (.lload 4, 2) := by decide +kernel
theorem dX12_tellsHeirs_53 : decode cX12_tellsHeirs 53 = .ok (.lmul, 1) := by decide +kernel
theorem dX12_tellsHeirs_54 : decode cX12_tellsHeirs 54 = .ok (.aload_n 0, 1) := by decide +kernel
theorem dX12_tellsHeirs_55 : decode cX12_tellsHeirs 55 = .ok (.iload_n 3, 1) := by decide +kernel
theorem dX12_tellsHeirs_56 : decode cX12_tellsHeirs 56 = .ok (.iload 6, 2) := by decide +kernel
theorem dX12_tellsHeirs_58 : decode cX12_tellsHeirs 58 = .ok (.invokevirtual 201, 3) := by decide +kernel
theorem dX12_tellsHeirs_61 : decode cX12_tellsHeirs 61 = .ok (.i2l, 1) := by decide +kernel
theorem dX12_tellsHeirs_62 : decode cX12_tellsHeirs 62 = .ok (.ladd, 1) := by decide +kernel
theorem dX12_tellsHeirs_63 : decode cX12_tellsHeirs 63 = .ok (.lstore 4, 2) := by decide +kernel
theorem dX12_tellsHeirs_65 : decode cX12_tellsHeirs 65 = .ok (.iinc 6 1, 3) := by decide +kernel
theorem dX12_tellsHeirs_68 : decode cX12_tellsHeirs 68 = .ok (.goto (-26), 3) := by decide +kernel
theorem dX12_tellsHeirs_71 : decode cX12_tellsHeirs 71 = .ok (.ldc2_w 296, 3) := by decide +kernel
theorem dX12_tellsHeirs_74 : decode cX12_tellsHeirs 74 = .ok (.lload 4, 2) := by decide +kernel
theorem dX12_tellsHeirs_76 : decode cX12_tellsHeirs 76 = .ok (.lmul, 1) := by decide +kernel
theorem dX12_tellsHeirs_77 : decode cX12_tellsHeirs 77 = .ok (.aload_n 0, 1) := by decide +kernel
theorem dX12_tellsHeirs_78 : decode cX12_tellsHeirs 78 = .ok (.iload_n 3, 1) := by decide +kernel
theorem dX12_tellsHeirs_79 : decode cX12_tellsHeirs 79 = .ok (.iconst 0, 1) := by decide +kernel
theorem dX12_tellsHeirs_80 : decode cX12_tellsHeirs 80 = .ok (.invokevirtual 207, 3) := by decide +kernel
theorem dX12_tellsHeirs_83 : decode cX12_tellsHeirs 83 = .ok (.i2l, 1) := by decide +kernel
theorem dX12_tellsHeirs_84 : decode cX12_tellsHeirs 84 = .ok (.ladd, 1) := by decide +kernel
theorem dX12_tellsHeirs_85 : decode cX12_tellsHeirs 85 = .ok (.lstore 4, 2) := by decide +kernel
theorem dX12_tellsHeirs_87 : decode cX12_tellsHeirs 87 = .ok (.ldc2_w 296, 3) := by decide +kernel
theorem dX12_tellsHeirs_90 : decode cX12_tellsHeirs 90 = .ok (.lload 4, 2) := by decide +kernel
theorem dX12_tellsHeirs_92 : decode cX12_tellsHeirs 92 = .ok (.lmul, 1) := by decide +kernel
theorem dX12_tellsHeirs_93 : decode cX12_tellsHeirs 93 = .ok (.aload_n 0, 1) := by decide +kernel
theorem dX12_tellsHeirs_94 : decode cX12_tellsHeirs 94 = .ok (.iload_n 3, 1) := by decide +kernel
theorem dX12_tellsHeirs_95 : decode cX12_tellsHeirs 95 = .ok (.bipush 7, 2) := by decide +kernel
theorem dX12_tellsHeirs_97 : decode cX12_tellsHeirs 97 = .ok (.invokevirtual 207, 3) := by decide +kernel
theorem dX12_tellsHeirs_100 : decode cX12_tellsHeirs 100 = .ok (.i2l, 1) := by decide +kernel
theorem dX12_tellsHeirs_101 : decode cX12_tellsHeirs 101 = .ok (.ladd, 1) := by decide +kernel
theorem dX12_tellsHeirs_102 : decode cX12_tellsHeirs 102 = .ok (.lstore 4, 2) := by decide +kernel
theorem dX12_tellsHeirs_104 : decode cX12_tellsHeirs 104 = .ok (.ldc2_w 296, 3) := by decide +kernel
theorem dX12_tellsHeirs_107 : decode cX12_tellsHeirs 107 = .ok (.lload 4, 2) := by decide +kernel
theorem dX12_tellsHeirs_109 : decode cX12_tellsHeirs 109 = .ok (.lmul, 1) := by decide +kernel
theorem dX12_tellsHeirs_110 : decode cX12_tellsHeirs 110 = .ok (.aload_n 0, 1) := by decide +kernel
theorem dX12_tellsHeirs_111 : decode cX12_tellsHeirs 111 = .ok (.iload_n 3, 1) := by decide +kernel
theorem dX12_tellsHeirs_112 : decode cX12_tellsHeirs 112 = .ok (.bipush 20, 2) := by decide +kernel
theorem dX12_tellsHeirs_114 : decode cX12_tellsHeirs 114 = .ok (.invokevirtual 207, 3) := by decide +kernel
theorem dX12_tellsHeirs_117 : decode cX12_tellsHeirs 117 = .ok (.i2l, 1) := by decide +kernel
theorem dX12_tellsHeirs_118 : decode cX12_tellsHeirs 118 = .ok (.ladd, 1) := by decide +kernel
theorem dX12_tellsHeirs_119 : decode cX12_tellsHeirs 119 = .ok (.lstore 4, 2) := by decide +kernel
theorem dX12_tellsHeirs_121 : decode cX12_tellsHeirs 121 = .ok (.aload_n 0, 1) := by decide +kernel
theorem dX12_tellsHeirs_122 : decode cX12_tellsHeirs 122 = .ok (.iload_n 3, 1) := by decide +kernel
theorem dX12_tellsHeirs_123 : decode cX12_tellsHeirs 123 = .ok (.invokevirtual 236, 3) := by decide +kernel
theorem dX12_tellsHeirs_126 : decode cX12_tellsHeirs 126 = .ok (.istore 6, 2) := by decide +kernel
theorem dX12_tellsHeirs_128 : decode cX12_tellsHeirs 128 = .ok (.ldc2_w 296, 3) := by decide +kernel
theorem dX12_tellsHeirs_131 : decode cX12_tellsHeirs 131 = .ok (.lload 4, 2) := by decide +kernel
theorem dX12_tellsHeirs_133 : decode cX12_tellsHeirs 133 = .ok (.lmul, 1) := by decide +kernel
theorem dX12_tellsHeirs_134 : decode cX12_tellsHeirs 134 = .ok (.iload 6, 2) := by decide +kernel
theorem dX12_tellsHeirs_136 : decode cX12_tellsHeirs 136 = .ok (.iconst 0, 1) := by decide +kernel
theorem dX12_tellsHeirs_137 : decode cX12_tellsHeirs 137 = .ok (.invokestatic 239, 3) := by decide +kernel
theorem dX12_tellsHeirs_140 : decode cX12_tellsHeirs 140 = .ok (.i2l, 1) := by decide +kernel
theorem dX12_tellsHeirs_141 : decode cX12_tellsHeirs 141 = .ok (.ladd, 1) := by decide +kernel
theorem dX12_tellsHeirs_142 : decode cX12_tellsHeirs 142 = .ok (.lstore 4, 2) := by decide +kernel
theorem dX12_tellsHeirs_144 : decode cX12_tellsHeirs 144 = .ok (.ldc2_w 296, 3) := by decide +kernel
theorem dX12_tellsHeirs_147 : decode cX12_tellsHeirs 147 = .ok (.lload 4, 2) := by decide +kernel
theorem dX12_tellsHeirs_149 : decode cX12_tellsHeirs 149 = .ok (.lmul, 1) := by decide +kernel
theorem dX12_tellsHeirs_150 : decode cX12_tellsHeirs 150 = .ok (.iload 6, 2) := by decide +kernel
theorem dX12_tellsHeirs_152 : decode cX12_tellsHeirs 152 = .ok (.iconst 1, 1) := by decide +kernel
theorem dX12_tellsHeirs_153 : decode cX12_tellsHeirs 153 = .ok (.invokestatic 239, 3) := by decide +kernel
theorem dX12_tellsHeirs_156 : decode cX12_tellsHeirs 156 = .ok (.i2l, 1) := by decide +kernel
theorem dX12_tellsHeirs_157 : decode cX12_tellsHeirs 157 = .ok (.ladd, 1) := by decide +kernel
theorem dX12_tellsHeirs_158 : decode cX12_tellsHeirs 158 = .ok (.lstore 4, 2) := by decide +kernel
theorem dX12_tellsHeirs_160 : decode cX12_tellsHeirs 160 = .ok (.ldc2_w 296, 3) := by decide +kernel
theorem dX12_tellsHeirs_163 : decode cX12_tellsHeirs 163 = .ok (.lload 4, 2) := by decide +kernel
theorem dX12_tellsHeirs_165 : decode cX12_tellsHeirs 165 = .ok (.lmul, 1) := by decide +kernel
theorem dX12_tellsHeirs_166 : decode cX12_tellsHeirs 166 = .ok (.aload_n 0, 1) := by decide +kernel
theorem dX12_tellsHeirs_167 : decode cX12_tellsHeirs 167 = .ok (.iconst 0, 1) := by decide +kernel
theorem dX12_tellsHeirs_168 : decode cX12_tellsHeirs 168 = .ok (.iload_n 3, 1) := by decide +kernel
theorem dX12_tellsHeirs_169 : decode cX12_tellsHeirs 169 = .ok (.iconst 0, 1) := by decide +kernel
theorem dX12_tellsHeirs_170 : decode cX12_tellsHeirs 170 = .ok (.invokevirtual 301, 3) := by decide +kernel
theorem dX12_tellsHeirs_173 : decode cX12_tellsHeirs 173 = .ok (.i2l, 1) := by decide +kernel
theorem dX12_tellsHeirs_174 : decode cX12_tellsHeirs 174 = .ok (.ladd, 1) := by decide +kernel
theorem dX12_tellsHeirs_175 : decode cX12_tellsHeirs 175 = .ok (.lstore 4, 2) := by decide +kernel
theorem dX12_tellsHeirs_177 : decode cX12_tellsHeirs 177 = .ok (.ldc2_w 296, 3) := by decide +kernel
theorem dX12_tellsHeirs_180 : decode cX12_tellsHeirs 180 = .ok (.lload 4, 2) := by decide +kernel
theorem dX12_tellsHeirs_182 : decode cX12_tellsHeirs 182 = .ok (.lmul, 1) := by decide +kernel
theorem dX12_tellsHeirs_183 : decode cX12_tellsHeirs 183 = .ok (.aload_n 0, 1) := by decide +kernel
theorem dX12_tellsHeirs_184 : decode cX12_tellsHeirs 184 = .ok (.iconst 0, 1) := by decide +kernel
theorem dX12_tellsHeirs_185 : decode cX12_tellsHeirs 185 = .ok (.iload_n 3, 1) := by decide +kernel
theorem dX12_tellsHeirs_186 : decode cX12_tellsHeirs 186 = .ok (.iconst 1, 1) := by decide +kernel
theorem dX12_tellsHeirs_187 : decode cX12_tellsHeirs 187 = .ok (.invokevirtual 301, 3) := by decide +kernel
theorem dX12_tellsHeirs_190 : decode cX12_tellsHeirs 190 = .ok (.i2l, 1) := by decide +kernel
theorem dX12_tellsHeirs_191 : decode cX12_tellsHeirs 191 = .ok (.ladd, 1) := by decide +kernel
theorem dX12_tellsHeirs_192 : decode cX12_tellsHeirs 192 = .ok (.lstore 4, 2) := by decide +kernel
theorem dX12_tellsHeirs_194 : decode cX12_tellsHeirs 194 = .ok (.ldc2_w 296, 3) := by decide +kernel
theorem dX12_tellsHeirs_197 : decode cX12_tellsHeirs 197 = .ok (.lload 4, 2) := by decide +kernel
theorem dX12_tellsHeirs_199 : decode cX12_tellsHeirs 199 = .ok (.lmul, 1) := by decide +kernel
theorem dX12_tellsHeirs_200 : decode cX12_tellsHeirs 200 = .ok (.aload_n 0, 1) := by decide +kernel
theorem dX12_tellsHeirs_201 : decode cX12_tellsHeirs 201 = .ok (.iconst 5, 1) := by decide +kernel
theorem dX12_tellsHeirs_202 : decode cX12_tellsHeirs 202 = .ok (.iload_n 3, 1) := by decide +kernel
theorem dX12_tellsHeirs_203 : decode cX12_tellsHeirs 203 = .ok (.iconst 1, 1) := by decide +kernel
theorem dX12_tellsHeirs_204 : decode cX12_tellsHeirs 204 = .ok (.iconst 0, 1) := by decide +kernel
theorem dX12_tellsHeirs_205 : decode cX12_tellsHeirs 205 = .ok (.invokevirtual 276, 3) := by decide +kernel
theorem dX12_tellsHeirs_208 : decode cX12_tellsHeirs 208 = .ok (.ladd, 1) := by decide +kernel
theorem dX12_tellsHeirs_209 : decode cX12_tellsHeirs 209 = .ok (.lstore 4, 2) := by decide +kernel
theorem dX12_tellsHeirs_211 : decode cX12_tellsHeirs 211 = .ok (.ldc2_w 296, 3) := by decide +kernel
theorem dX12_tellsHeirs_214 : decode cX12_tellsHeirs 214 = .ok (.lload 4, 2) := by decide +kernel
theorem dX12_tellsHeirs_216 : decode cX12_tellsHeirs 216 = .ok (.lmul, 1) := by decide +kernel
theorem dX12_tellsHeirs_217 : decode cX12_tellsHeirs 217 = .ok (.aload_n 0, 1) := by decide +kernel
theorem dX12_tellsHeirs_218 : decode cX12_tellsHeirs 218 = .ok (.iconst 5, 1) := by decide +kernel
theorem dX12_tellsHeirs_219 : decode cX12_tellsHeirs 219 = .ok (.iload_n 3, 1) := by decide +kernel
theorem dX12_tellsHeirs_220 : decode cX12_tellsHeirs 220 = .ok (.iconst 1, 1) := by decide +kernel
theorem dX12_tellsHeirs_221 : decode cX12_tellsHeirs 221 = .ok (.iconst 1, 1) := by decide +kernel
theorem dX12_tellsHeirs_222 : decode cX12_tellsHeirs 222 = .ok (.invokevirtual 276, 3) := by decide +kernel
theorem dX12_tellsHeirs_225 : decode cX12_tellsHeirs 225 = .ok (.ladd, 1) := by decide +kernel
theorem dX12_tellsHeirs_226 : decode cX12_tellsHeirs 226 = .ok (.lstore 4, 2) := by decide +kernel
theorem dX12_tellsHeirs_228 : decode cX12_tellsHeirs 228 = .ok (.ldc2_w 296, 3) := by decide +kernel
theorem dX12_tellsHeirs_231 : decode cX12_tellsHeirs 231 = .ok (.lload 4, 2) := by decide +kernel
theorem dX12_tellsHeirs_233 : decode cX12_tellsHeirs 233 = .ok (.lmul, 1) := by decide +kernel
theorem dX12_tellsHeirs_234 : decode cX12_tellsHeirs 234 = .ok (.aload_n 0, 1) := by decide +kernel
theorem dX12_tellsHeirs_235 : decode cX12_tellsHeirs 235 = .ok (.bipush 7, 2) := by decide +kernel
theorem dX12_tellsHeirs_237 : decode cX12_tellsHeirs 237 = .ok (.bipush 9, 2) := by decide +kernel
theorem dX12_tellsHeirs_239 : decode cX12_tellsHeirs 239 = .ok (.iload_n 3, 1) := by decide +kernel
theorem dX12_tellsHeirs_240 : decode cX12_tellsHeirs 240 = .ok (.invokevirtual 304, 3) := by decide +kernel
theorem dX12_tellsHeirs_243 : decode cX12_tellsHeirs 243 = .ok (.i2l, 1) := by decide +kernel
theorem dX12_tellsHeirs_244 : decode cX12_tellsHeirs 244 = .ok (.ladd, 1) := by decide +kernel
theorem dX12_tellsHeirs_245 : decode cX12_tellsHeirs 245 = .ok (.lreturn, 1) := by decide +kernel
theorem dX12_digest_0 : decode cX12_digest 0 = .ok (.ldc2_w 307, 3) := by decide +kernel
theorem dX12_digest_3 : decode cX12_digest 3 = .ok (.lstore_n 1, 1) := by decide +kernel
theorem dX12_digest_4 : decode cX12_digest 4 = .ok (.iconst 0, 1) := by decide +kernel
theorem dX12_digest_5 : decode cX12_digest 5 = .ok (.istore_n 3, 1) := by decide +kernel
theorem dX12_digest_6 : decode cX12_digest 6 = .ok (.iload_n 3, 1) := by decide +kernel
theorem dX12_digest_7 : decode cX12_digest 7 = .ok (.bipush 8, 2) := by decide +kernel
theorem dX12_digest_9 : decode cX12_digest 9 = .ok (.if_icmp .ge 22, 3) := by decide +kernel
theorem dX12_digest_12 : decode cX12_digest 12 = .ok (.ldc2_w 296, 3) := by decide +kernel
theorem dX12_digest_15 : decode cX12_digest 15 = .ok (.lload_n 1, 1) := by decide +kernel
theorem dX12_digest_16 : decode cX12_digest 16 = .ok (.lmul, 1) := by decide +kernel
theorem dX12_digest_17 : decode cX12_digest 17 = .ok (.aload_n 0, 1) := by decide +kernel
theorem dX12_digest_18 : decode cX12_digest 18 = .ok (.iload_n 3, 1) := by decide +kernel
theorem dX12_digest_19 : decode cX12_digest 19 = .ok (.invokevirtual 309, 3) := by decide +kernel
theorem dX12_digest_22 : decode cX12_digest 22 = .ok (.i2l, 1) := by decide +kernel
theorem dX12_digest_23 : decode cX12_digest 23 = .ok (.ladd, 1) := by decide +kernel
theorem dX12_digest_24 : decode cX12_digest 24 = .ok (.lstore_n 1, 1) := by decide +kernel
theorem dX12_digest_25 : decode cX12_digest 25 = .ok (.iinc 3 1, 3) := by decide +kernel
theorem dX12_digest_28 : decode cX12_digest 28 = .ok (.goto (-22), 3) := by decide +kernel
theorem dX12_digest_31 : decode cX12_digest 31 = .ok (.iconst 0, 1) := by decide +kernel
theorem dX12_digest_32 : decode cX12_digest 32 = .ok (.istore_n 3, 1) := by decide +kernel
theorem dX12_digest_33 : decode cX12_digest 33 = .ok (.iload_n 3, 1) := by decide +kernel
theorem dX12_digest_34 : decode cX12_digest 34 = .ok (.iconst 3, 1) := by decide +kernel
theorem dX12_digest_35 : decode cX12_digest 35 = .ok (.if_icmp .ge 22, 3) := by decide +kernel
theorem dX12_digest_38 : decode cX12_digest 38 = .ok (.ldc2_w 296, 3) := by decide +kernel
theorem dX12_digest_41 : decode cX12_digest 41 = .ok (.lload_n 1, 1) := by decide +kernel
theorem dX12_digest_42 : decode cX12_digest 42 = .ok (.lmul, 1) := by decide +kernel
theorem dX12_digest_43 : decode cX12_digest 43 = .ok (.aload_n 0, 1) := by decide +kernel
theorem dX12_digest_44 : decode cX12_digest 44 = .ok (.iload_n 3, 1) := by decide +kernel
theorem dX12_digest_45 : decode cX12_digest 45 = .ok (.invokevirtual 118, 3) := by decide +kernel
theorem dX12_digest_48 : decode cX12_digest 48 = .ok (.i2l, 1) := by decide +kernel
theorem dX12_digest_49 : decode cX12_digest 49 = .ok (.ladd, 1) := by decide +kernel
theorem dX12_digest_50 : decode cX12_digest 50 = .ok (.lstore_n 1, 1) := by decide +kernel
theorem dX12_digest_51 : decode cX12_digest 51 = .ok (.iinc 3 1, 3) := by decide +kernel
theorem dX12_digest_54 : decode cX12_digest 54 = .ok (.goto (-21), 3) := by decide +kernel
theorem dX12_digest_57 : decode cX12_digest 57 = .ok (.aload_n 0, 1) := by decide +kernel
theorem dX12_digest_58 : decode cX12_digest 58 = .ok (.invokevirtual 171, 3) := by decide +kernel
theorem dX12_digest_61 : decode cX12_digest 61 = .ok (.iconst 0, 1) := by decide +kernel
theorem dX12_digest_62 : decode cX12_digest 62 = .ok (.istore_n 3, 1) := by decide +kernel
theorem dX12_digest_63 : decode cX12_digest 63 = .ok (.iload_n 3, 1) := by decide +kernel
theorem dX12_digest_64 : decode cX12_digest 64 = .ok (.aload_n 0, 1) := by decide +kernel
theorem dX12_digest_65 : decode cX12_digest 65 = .ok (.getfield 28, 3) := by decide +kernel
theorem dX12_digest_68 : decode cX12_digest 68 = .ok (.iconst 0, 1) := by decide +kernel
theorem dX12_digest_69 : decode cX12_digest 69 = .ok (.iaload, 1) := by decide +kernel
theorem dX12_digest_70 : decode cX12_digest 70 = .ok (.if_icmp .ge 16, 3) := by decide +kernel
theorem dX12_digest_73 : decode cX12_digest 73 = .ok (.aload_n 0, 1) := by decide +kernel
theorem dX12_digest_74 : decode cX12_digest 74 = .ok (.lload_n 1, 1) := by decide +kernel
theorem dX12_digest_75 : decode cX12_digest 75 = .ok (.iload_n 3, 1) := by decide +kernel
theorem dX12_digest_76 : decode cX12_digest 76 = .ok (.invokevirtual 312, 3) := by decide +kernel
theorem dX12_digest_79 : decode cX12_digest 79 = .ok (.lstore_n 1, 1) := by decide +kernel
theorem dX12_digest_80 : decode cX12_digest 80 = .ok (.iinc 3 1, 3) := by decide +kernel
theorem dX12_digest_83 : decode cX12_digest 83 = .ok (.goto (-20), 3) := by decide +kernel
theorem dX12_digest_86 : decode cX12_digest 86 = .ok (.iconst 0, 1) := by decide +kernel
theorem dX12_digest_87 : decode cX12_digest 87 = .ok (.istore_n 3, 1) := by decide +kernel
theorem dX12_digest_88 : decode cX12_digest 88 = .ok (.iload_n 3, 1) := by decide +kernel
theorem dX12_digest_89 : decode cX12_digest 89 = .ok (.aload_n 0, 1) := by decide +kernel
theorem dX12_digest_90 : decode cX12_digest 90 = .ok (.getfield 28, 3) := by decide +kernel
theorem dX12_digest_93 : decode cX12_digest 93 = .ok (.iconst 1, 1) := by decide +kernel
theorem dX12_digest_94 : decode cX12_digest 94 = .ok (.iaload, 1) := by decide +kernel
theorem dX12_digest_95 : decode cX12_digest 95 = .ok (.if_icmp .ge 16, 3) := by decide +kernel
theorem dX12_digest_98 : decode cX12_digest 98 = .ok (.aload_n 0, 1) := by decide +kernel
theorem dX12_digest_99 : decode cX12_digest 99 = .ok (.lload_n 1, 1) := by decide +kernel
theorem dX12_digest_100 : decode cX12_digest 100 = .ok (.iload_n 3, 1) := by decide +kernel
theorem dX12_digest_101 : decode cX12_digest 101 = .ok (.invokevirtual 316, 3) := by decide +kernel
theorem dX12_digest_104 : decode cX12_digest 104 = .ok (.lstore_n 1, 1) := by decide +kernel
theorem dX12_digest_105 : decode cX12_digest 105 = .ok (.iinc 3 1, 3) := by decide +kernel
theorem dX12_digest_108 : decode cX12_digest 108 = .ok (.goto (-20), 3) := by decide +kernel
theorem dX12_digest_111 : decode cX12_digest 111 = .ok (.iconst 0, 1) := by decide +kernel
theorem dX12_digest_112 : decode cX12_digest 112 = .ok (.istore_n 3, 1) := by decide +kernel
theorem dX12_digest_113 : decode cX12_digest 113 = .ok (.iload_n 3, 1) := by decide +kernel
theorem dX12_digest_114 : decode cX12_digest 114 = .ok (.aload_n 0, 1) := by decide +kernel
theorem dX12_digest_115 : decode cX12_digest 115 = .ok (.getfield 28, 3) := by decide +kernel
theorem dX12_digest_118 : decode cX12_digest 118 = .ok (.iconst 2, 1) := by decide +kernel
theorem dX12_digest_119 : decode cX12_digest 119 = .ok (.iaload, 1) := by decide +kernel
theorem dX12_digest_120 : decode cX12_digest 120 = .ok (.if_icmp .ge 43, 3) := by decide +kernel
theorem dX12_digest_123 : decode cX12_digest 123 = .ok (.iconst 0, 1) := by decide +kernel
theorem dX12_digest_124 : decode cX12_digest 124 = .ok (.istore 4, 2) := by decide +kernel
theorem dX12_digest_126 : decode cX12_digest 126 = .ok (.iload 4, 2) := by decide +kernel
theorem dX12_digest_128 : decode cX12_digest 128 = .ok (.iconst 4, 1) := by decide +kernel
theorem dX12_digest_129 : decode cX12_digest 129 = .ok (.if_icmp .ge 28, 3) := by decide +kernel
theorem dX12_digest_132 : decode cX12_digest 132 = .ok (.ldc2_w 296, 3) := by decide +kernel
theorem dX12_digest_135 : decode cX12_digest 135 = .ok (.lload_n 1, 1) := by decide +kernel
theorem dX12_digest_136 : decode cX12_digest 136 = .ok (.lmul, 1) := by decide +kernel
theorem dX12_digest_137 : decode cX12_digest 137 = .ok (.aload_n 0, 1) := by decide +kernel
theorem dX12_digest_138 : decode cX12_digest 138 = .ok (.getfield 37, 3) := by decide +kernel
theorem dX12_digest_141 : decode cX12_digest 141 = .ok (.iconst 4, 1) := by decide +kernel
theorem dX12_digest_142 : decode cX12_digest 142 = .ok (.iload_n 3, 1) := by decide +kernel
theorem dX12_digest_143 : decode cX12_digest 143 = .ok (.imul, 1) := by decide +kernel
theorem dX12_digest_144 : decode cX12_digest 144 = .ok (.iload 4, 2) := by decide +kernel
theorem dX12_digest_146 : decode cX12_digest 146 = .ok (.iadd, 1) := by decide +kernel
theorem dX12_digest_147 : decode cX12_digest 147 = .ok (.iaload, 1) := by decide +kernel
theorem dX12_digest_148 : decode cX12_digest 148 = .ok (.i2l, 1) := by decide +kernel
theorem dX12_digest_149 : decode cX12_digest 149 = .ok (.ladd, 1) := by decide +kernel
theorem dX12_digest_150 : decode cX12_digest 150 = .ok (.lstore_n 1, 1) := by decide +kernel
theorem dX12_digest_151 : decode cX12_digest 151 = .ok (.iinc 4 1, 3) := by decide +kernel
theorem dX12_digest_154 : decode cX12_digest 154 = .ok (.goto (-28), 3) := by decide +kernel
theorem dX12_digest_157 : decode cX12_digest 157 = .ok (.iinc 3 1, 3) := by decide +kernel
theorem dX12_digest_160 : decode cX12_digest 160 = .ok (.goto (-47), 3) := by decide +kernel
theorem dX12_digest_163 : decode cX12_digest 163 = .ok (.ldc2_w 296, 3) := by decide +kernel
theorem dX12_digest_166 : decode cX12_digest 166 = .ok (.lload_n 1, 1) := by decide +kernel
theorem dX12_digest_167 : decode cX12_digest 167 = .ok (.lmul, 1) := by decide +kernel
theorem dX12_digest_168 : decode cX12_digest 168 = .ok (.aload_n 0, 1) := by decide +kernel
theorem dX12_digest_169 : decode cX12_digest 169 = .ok (.getfield 161, 3) := by decide +kernel
theorem dX12_digest_172 : decode cX12_digest 172 = .ok (.i2l, 1) := by decide +kernel
theorem dX12_digest_173 : decode cX12_digest 173 = .ok (.ladd, 1) := by decide +kernel
theorem dX12_digest_174 : decode cX12_digest 174 = .ok (.lstore_n 1, 1) := by decide +kernel
theorem dX12_digest_175 : decode cX12_digest 175 = .ok (.iconst 0, 1) := by decide +kernel
theorem dX12_digest_176 : decode cX12_digest 176 = .ok (.istore_n 3, 1) := by decide +kernel
theorem dX12_digest_177 : decode cX12_digest 177 = .ok (.iload_n 3, 1) := by decide +kernel
theorem dX12_digest_178 : decode cX12_digest 178 = .ok (.iconst 4, 1) := by decide +kernel
theorem dX12_digest_179 : decode cX12_digest 179 = .ok (.if_icmp .ge 22, 3) := by decide +kernel
theorem dX12_digest_182 : decode cX12_digest 182 = .ok (.ldc2_w 296, 3) := by decide +kernel
theorem dX12_digest_185 : decode cX12_digest 185 = .ok (.lload_n 1, 1) := by decide +kernel
theorem dX12_digest_186 : decode cX12_digest 186 = .ok (.lmul, 1) := by decide +kernel
theorem dX12_digest_187 : decode cX12_digest 187 = .ok (.aload_n 0, 1) := by decide +kernel
theorem dX12_digest_188 : decode cX12_digest 188 = .ok (.iload_n 3, 1) := by decide +kernel
theorem dX12_digest_189 : decode cX12_digest 189 = .ok (.invokevirtual 210, 3) := by decide +kernel
theorem dX12_digest_192 : decode cX12_digest 192 = .ok (.i2l, 1) := by decide +kernel
theorem dX12_digest_193 : decode cX12_digest 193 = .ok (.ladd, 1) := by decide +kernel
theorem dX12_digest_194 : decode cX12_digest 194 = .ok (.lstore_n 1, 1) := by decide +kernel
theorem dX12_digest_195 : decode cX12_digest 195 = .ok (.iinc 3 1, 3) := by decide +kernel
theorem dX12_digest_198 : decode cX12_digest 198 = .ok (.goto (-21), 3) := by decide +kernel
theorem dX12_digest_201 : decode cX12_digest 201 = .ok (.ldc2_w 296, 3) := by decide +kernel
theorem dX12_digest_204 : decode cX12_digest 204 = .ok (.lload_n 1, 1) := by decide +kernel
theorem dX12_digest_205 : decode cX12_digest 205 = .ok (.lmul, 1) := by decide +kernel
theorem dX12_digest_206 : decode cX12_digest 206 = .ok (.aload_n 0, 1) := by decide +kernel
theorem dX12_digest_207 : decode cX12_digest 207 = .ok (.iconst (-1), 1) := by decide +kernel
theorem dX12_digest_208 : decode cX12_digest 208 = .ok (.invokevirtual 230, 3) := by decide +kernel
theorem dX12_digest_211 : decode cX12_digest 211 = .ok (.i2l, 1) := by decide +kernel
theorem dX12_digest_212 : decode cX12_digest 212 = .ok (.ladd, 1) := by decide +kernel
theorem dX12_digest_213 : decode cX12_digest 213 = .ok (.lstore_n 1, 1) := by decide +kernel
theorem dX12_digest_214 : decode cX12_digest 214 = .ok (.ldc2_w 296, 3) := by decide +kernel
theorem dX12_digest_217 : decode cX12_digest 217 = .ok (.lload_n 1, 1) := by decide +kernel
theorem dX12_digest_218 : decode cX12_digest 218 = .ok (.lmul, 1) := by decide +kernel
theorem dX12_digest_219 : decode cX12_digest 219 = .ok (.aload_n 0, 1) := by decide +kernel
theorem dX12_digest_220 : decode cX12_digest 220 = .ok (.iconst 0, 1) := by decide +kernel
theorem dX12_digest_221 : decode cX12_digest 221 = .ok (.invokevirtual 230, 3) := by decide +kernel
theorem dX12_digest_224 : decode cX12_digest 224 = .ok (.i2l, 1) := by decide +kernel
theorem dX12_digest_225 : decode cX12_digest 225 = .ok (.ladd, 1) := by decide +kernel
theorem dX12_digest_226 : decode cX12_digest 226 = .ok (.lreturn, 1) := by decide +kernel
