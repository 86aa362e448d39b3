theorem dX0_init_0 : decode cX0_init 0 = .ok (.aload_n 0, 1) := by decide +kernel
theorem dX0_init_1 : decode cX0_init 1 = .ok (.bipush 59, 2) := by decide +kernel
theorem dX0_init_3 : decode cX0_init 3 = .ok (.bipush 15, 2) := by decide +kernel
theorem dX0_init_5 : decode cX0_init 5 = .ok (.invokespecial 3, 3) := by decide +kernel
theorem dX0_init_8 : decode cX0_init 8 = .ok (.aload_n 0, 1) := by decide +kernel
theorem dX0_init_9 : decode cX0_init 9 = .ok (.bipush 15, 2) := by decide +kernel
theorem dX0_init_11 : decode cX0_init 11 = .ok (.newarray .int, 2) := by decide +kernel
theorem dX0_init_13 : decode cX0_init 13 = .ok (.putfield 9, 3) := by decide +kernel
theorem dX0_init_16 : decode cX0_init 16 = .ok (.aload_n 0, 1) := by decide +kernel
theorem dX0_init_17 : decode cX0_init 17 = .ok (.bipush 15, 2) := by decide +kernel
theorem dX0_init_19 : decode cX0_init 19 = .ok (.newarray .int, 2) := by decide +kernel
theorem dX0_init_21 : decode cX0_init 21 = .ok (.putfield 15, 3) := by decide +kernel
theorem dX0_init_24 : decode cX0_init 24 = .ok (.aload_n 0, 1) := by decide +kernel
theorem dX0_init_25 : decode cX0_init 25 = .ok (.bipush 15, 2) := by decide +kernel
theorem dX0_init_27 : decode cX0_init 27 = .ok (.newarray .int, 2) := by decide +kernel
theorem dX0_init_29 : decode cX0_init 29 = .ok (.putfield 18, 3) := by decide +kernel
theorem dX0_init_32 : decode cX0_init 32 = .ok (.aload_n 0, 1) := by decide +kernel
theorem dX0_init_33 : decode cX0_init 33 = .ok (.bipush 15, 2) := by decide +kernel
theorem dX0_init_35 : decode cX0_init 35 = .ok (.newarray .int, 2) := by decide +kernel
theorem dX0_init_37 : decode cX0_init 37 = .ok (.putfield 21, 3) := by decide +kernel
theorem dX0_init_40 : decode cX0_init 40 = .ok (.return_, 1) := by decide +kernel
theorem dX0_readRow_0 : decode cX0_readRow 0 = .ok (.iload_n 2, 1) := by decide +kernel
theorem dX0_readRow_1 : decode cX0_readRow 1 = .ok (.bipush 15, 2) := by decide +kernel
theorem dX0_readRow_3 : decode cX0_readRow 3 = .ok (.invokestatic 24, 3) := by decide +kernel
theorem dX0_readRow_6 : decode cX0_readRow 6 = .ok (.ifCond .eq 15, 3) := by decide +kernel
theorem dX0_readRow_9 : decode cX0_readRow 9 = .ok (.aload_n 0, 1) := by decide +kernel
theorem dX0_readRow_10 : decode cX0_readRow 10 = .ok (.iload_n 1, 1) := by decide +kernel
theorem dX0_readRow_11 : decode cX0_readRow 11 = .ok (.bipush 48, 2) := by decide +kernel
theorem dX0_readRow_13 : decode cX0_readRow 13 = .ok (.bipush 55, 2) := by decide +kernel
theorem dX0_readRow_15 : decode cX0_readRow 15 = .ok (.invokevirtual 28, 3) := by decide +kernel
theorem dX0_readRow_18 : decode cX0_readRow 18 = .ok (.ifCond .ne 7, 3) := by decide +kernel
theorem dX0_readRow_21 : decode cX0_readRow 21 = .ok (.iload_n 1, 1) := by decide +kernel
theorem dX0_readRow_22 : decode cX0_readRow 22 = .ok (.iconst (-1), 1) := by decide +kernel
theorem dX0_readRow_23 : decode cX0_readRow 23 = .ok (.ixor, 1) := by decide +kernel
theorem dX0_readRow_24 : decode cX0_readRow 24 = .ok (.ireturn, 1) := by decide +kernel
theorem dX0_readRow_25 : decode cX0_readRow 25 = .ok (.aload_n 0, 1) := by decide +kernel
theorem dX0_readRow_26 : decode cX0_readRow 26 = .ok (.iload_n 1, 1) := by decide +kernel
theorem dX0_readRow_27 : decode cX0_readRow 27 = .ok (.iconst 1, 1) := by decide +kernel
theorem dX0_readRow_28 : decode cX0_readRow 28 = .ok (.iadd, 1) := by decide +kernel
theorem dX0_readRow_29 : decode cX0_readRow 29 = .ok (.invokevirtual 32, 3) := by decide +kernel
theorem dX0_readRow_32 : decode cX0_readRow 32 = .ok (.bipush 43, 2) := by decide +kernel
theorem dX0_readRow_34 : decode cX0_readRow 34 = .ok (.if_icmp .ne 7, 3) := by decide +kernel
theorem dX0_readRow_37 : decode cX0_readRow 37 = .ok (.iconst 1, 1) := by decide +kernel
theorem dX0_readRow_38 : decode cX0_readRow 38 = .ok (.goto 4, 3) := by decide +kernel
theorem dX0_readRow_41 : decode cX0_readRow 41 = .ok (.iconst 0, 1) := by decide +kernel
theorem dX0_readRow_42 : decode cX0_readRow 42 = .ok (.istore_n 3, 1) := by decide +kernel
theorem dX0_readRow_43 : decode cX0_readRow 43 = .ok (.iload_n 3, 1) := by decide +kernel
theorem dX0_readRow_44 : decode cX0_readRow 44 = .ok (.ifCond .ne 21, 3) := by decide +kernel
theorem dX0_readRow_47 : decode cX0_readRow 47 = .ok (.aload_n 0, 1) := by decide +kernel
theorem dX0_readRow_48 : decode cX0_readRow 48 = .ok (.iload_n 1, 1) := by decide +kernel
theorem dX0_readRow_49 : decode cX0_readRow 49 = .ok (.iconst 1, 1) := by decide +kernel
theorem dX0_readRow_50 : decode cX0_readRow 50 = .ok (.iadd, 1) := by decide +kernel
theorem dX0_readRow_51 : decode cX0_readRow 51 = .ok (.invokevirtual 32, 3) := by decide +kernel
theorem dX0_readRow_54 : decode cX0_readRow 54 = .ok (.bipush 45, 2) := by decide +kernel
theorem dX0_readRow_56 : decode cX0_readRow 56 = .ok (.if_icmp .eq 9, 3) := by decide +kernel
theorem dX0_readRow_59 : decode cX0_readRow 59 = .ok (.iload_n 1, 1) := by decide +kernel
theorem dX0_readRow_60 : decode cX0_readRow 60 = .ok (.iconst 1, 1) := by decide +kernel
theorem dX0_readRow_61 : decode cX0_readRow 61 = .ok (.iadd, 1) := by decide +kernel
theorem dX0_readRow_62 : decode cX0_readRow 62 = .ok (.iconst (-1), 1) := by decide +kernel
theorem dX0_readRow_63 : decode cX0_readRow 63 = .ok (.ixor, 1) := by decide +kernel
theorem dX0_readRow_64 : decode cX0_readRow 64 = .ok (.ireturn, 1) := by decide +kernel
theorem dX0_readRow_65 : decode cX0_readRow 65 = .ok (.aload_n 0, 1) := by decide +kernel
theorem dX0_readRow_66 : decode cX0_readRow 66 = .ok (.iload_n 1, 1) := by decide +kernel
theorem dX0_readRow_67 : decode cX0_readRow 67 = .ok (.iconst 2, 1) := by decide +kernel
theorem dX0_readRow_68 : decode cX0_readRow 68 = .ok (.iadd, 1) := by decide +kernel
theorem dX0_readRow_69 : decode cX0_readRow 69 = .ok (.bipush 48, 2) := by decide +kernel
theorem dX0_readRow_71 : decode cX0_readRow 71 = .ok (.bipush 53, 2) := by decide +kernel
theorem dX0_readRow_73 : decode cX0_readRow 73 = .ok (.invokevirtual 28, 3) := by decide +kernel
theorem dX0_readRow_76 : decode cX0_readRow 76 = .ok (.ifCond .ne 9, 3) := by decide +kernel
theorem dX0_readRow_79 : decode cX0_readRow 79 = .ok (.iload_n 1, 1) := by decide +kernel
theorem dX0_readRow_80 : decode cX0_readRow 80 = .ok (.iconst 2, 1) := by decide +kernel
theorem dX0_readRow_81 : decode cX0_readRow 81 = .ok (.iadd, 1) := by decide +kernel
theorem dX0_readRow_82 : decode cX0_readRow 82 = .ok (.iconst (-1), 1) := by decide +kernel
theorem dX0_readRow_83 : decode cX0_readRow 83 = .ok (.ixor, 1) := by decide +kernel
theorem dX0_readRow_84 : decode cX0_readRow 84 = .ok (.ireturn, 1) := by decide +kernel
theorem dX0_readRow_85 : decode cX0_readRow 85 = .ok (.aload_n 0, 1) := by decide +kernel
theorem dX0_readRow_86 : decode cX0_readRow 86 = .ok (.iload_n 1, 1) := by decide +kernel
theorem dX0_readRow_87 : decode cX0_readRow 87 = .ok (.iconst 3, 1) := by decide +kernel
theorem dX0_readRow_88 : decode cX0_readRow 88 = .ok (.iadd, 1) := by decide +kernel
theorem dX0_readRow_89 : decode cX0_readRow 89 = .ok (.invokevirtual 32, 3) := by decide +kernel
theorem dX0_readRow_92 : decode cX0_readRow 92 = .ok (.bipush 63, 2) := by decide +kernel
theorem dX0_readRow_94 : decode cX0_readRow 94 = .ok (.if_icmp .ne 7, 3) := by decide +kernel
theorem dX0_readRow_97 : decode cX0_readRow 97 = .ok (.iconst 1, 1) := by decide +kernel
theorem dX0_readRow_98 : decode cX0_readRow 98 = .ok (.goto 4, 3) := by decide +kernel
theorem dX0_readRow_101 : decode cX0_readRow 101 = .ok (.iconst 0, 1) := by decide +kernel
theorem dX0_readRow_102 : decode cX0_readRow 102 = .ok (.istore 4, 2) := by decide +kernel
theorem dX0_readRow_104 : decode cX0_readRow 104 = .ok (.iload 4, 2) := by decide +kernel
theorem dX0_readRow_106 : decode cX0_readRow 106 = .ok (.ifCond .eq 23, 3) := by decide +kernel
theorem dX0_readRow_109 : decode cX0_readRow 109 = .ok (.aload_n 0, 1) := by decide +kernel
theorem dX0_readRow_110 : decode cX0_readRow 110 = .ok (.iload_n 1, 1) := by decide +kernel
theorem dX0_readRow_111 : decode cX0_readRow 111 = .ok (.iconst 4, 1) := by decide +kernel
theorem dX0_readRow_112 : decode cX0_readRow 112 = .ok (.iadd, 1) := by decide +kernel
theorem dX0_readRow_113 : decode cX0_readRow 113 = .ok (.bipush 48, 2) := by decide +kernel
theorem dX0_readRow_115 : decode cX0_readRow 115 = .ok (.bipush 55, 2) := by decide +kernel
theorem dX0_readRow_117 : decode cX0_readRow 117 = .ok (.invokevirtual 28, 3) := by decide +kernel
theorem dX0_readRow_120 : decode cX0_readRow 120 = .ok (.ifCond .ne 9, 3) := by decide +kernel
theorem dX0_readRow_123 : decode cX0_readRow 123 = .ok (.iload_n 1, 1) := by decide +kernel
theorem dX0_readRow_124 : decode cX0_readRow 124 = .ok (.iconst 4, 1) := by decide +kernel
theorem dX0_readRow_125 : decode cX0_readRow 125 = .ok (.iadd, 1) := by decide +kernel
theorem dX0_readRow_126 : decode cX0_readRow 126 = .ok (.iconst (-1), 1) := by decide +kernel
theorem dX0_readRow_127 : decode cX0_readRow 127 = .ok (.ixor, 1) := by decide +kernel
theorem dX0_readRow_128 : decode cX0_readRow 128 = .ok (.ireturn, 1) := by decide +kernel
theorem dX0_readRow_129 : decode cX0_readRow 129 = .ok (.aload_n 0, 1) := by decide +kernel
theorem dX0_readRow_130 : decode cX0_readRow 130 = .ok (.getfield 9, 3) := by decide +kernel
theorem dX0_readRow_133 : decode cX0_readRow 133 = .ok (.iload_n 2, 1) := by decide +kernel
theorem dX0_readRow_134 : decode cX0_readRow 134 = .ok (.aload_n 0, 1) := by decide +kernel
theorem dX0_readRow_135 : decode cX0_readRow 135 = .ok (.iload_n 1, 1) := by decide +kernel
theorem dX0_readRow_136 : decode cX0_readRow 136 = .ok (.invokevirtual 32, 3) := by decide +kernel
theorem dX0_readRow_139 : decode cX0_readRow 139 = .ok (.bipush 48, 2) := by decide +kernel
theorem dX0_readRow_141 : decode cX0_readRow 141 = .ok (.isub, 1) := by decide +kernel
theorem dX0_readRow_142 : decode cX0_readRow 142 = .ok (.iastore, 1) := by decide +kernel
theorem dX0_readRow_143 : decode cX0_readRow 143 = .ok (.aload_n 0, 1) := by decide +kernel
theorem dX0_readRow_144 : decode cX0_readRow 144 = .ok (.getfield 15, 3) := by decide +kernel
theorem dX0_readRow_147 : decode cX0_readRow 147 = .ok (.iload_n 2, 1) := by decide +kernel
theorem dX0_readRow_148 : decode cX0_readRow 148 = .ok (.iload_n 3, 1) := by decide +kernel
theorem dX0_readRow_149 : decode cX0_readRow 149 = .ok (.ifCond .eq 7, 3) := by decide +kernel
theorem dX0_readRow_152 : decode cX0_readRow 152 = .ok (.iconst 1, 1) := by decide +kernel
theorem dX0_readRow_153 : decode cX0_readRow 153 = .ok (.goto 4, 3) := by decide +kernel
theorem dX0_readRow_156 : decode cX0_readRow 156 = .ok (.iconst 0, 1) := by decide +kernel
theorem dX0_readRow_157 : decode cX0_readRow 157 = .ok (.iastore, 1) := by decide +kernel
theorem dX0_readRow_158 : decode cX0_readRow 158 = .ok (.aload_n 0, 1) := by decide +kernel
theorem dX0_readRow_159 : decode cX0_readRow 159 = .ok (.getfield 18, 3) := by decide +kernel
theorem dX0_readRow_162 : decode cX0_readRow 162 = .ok (.iload_n 2, 1) := by decide +kernel
theorem dX0_readRow_163 : decode cX0_readRow 163 = .ok (.aload_n 0, 1) := by decide +kernel
theorem dX0_readRow_164 : decode cX0_readRow 164 = .ok (.iload_n 1, 1) := by decide +kernel
theorem dX0_readRow_165 : decode cX0_readRow 165 = .ok (.iconst 2, 1) := by decide +kernel
theorem dX0_readRow_166 : decode cX0_readRow 166 = .ok (.iadd, 1) := by decide +kernel
theorem dX0_readRow_167 : decode cX0_readRow 167 = .ok (.invokevirtual 32, 3) := by decide +kernel
theorem dX0_readRow_170 : decode cX0_readRow 170 = .ok (.bipush 48, 2) := by decide +kernel
theorem dX0_readRow_172 : decode cX0_readRow 172 = .ok (.isub, 1) := by decide +kernel
theorem dX0_readRow_173 : decode cX0_readRow 173 = .ok (.iastore, 1) := by decide +kernel
theorem dX0_readRow_174 : decode cX0_readRow 174 = .ok (.aload_n 0, 1) := by decide +kernel
theorem dX0_readRow_175 : decode cX0_readRow 175 = .ok (.getfield 21, 3) := by decide +kernel
theorem dX0_readRow_178 : decode cX0_readRow 178 = .ok (.iload_n 2, 1) := by decide +kernel
theorem dX0_readRow_179 : decode cX0_readRow 179 = .ok (.iload 4, 2) := by decide +kernel
theorem dX0_readRow_181 : decode cX0_readRow 181 = .ok (.ifCond .eq 16, 3) := by decide +kernel
theorem dX0_readRow_184 : decode cX0_readRow 184 = .ok (.aload_n 0, 1) := by decide +kernel
theorem dX0_readRow_185 : decode cX0_readRow 185 = .ok (.iload_n 1, 1) := by decide +kernel
theorem dX0_readRow_186 : decode cX0_readRow 186 = .ok (.iconst 4, 1) := by decide +kernel
theorem dX0_readRow_187 : decode cX0_readRow 187 = .ok (.iadd, 1) := by decide +kernel
theorem dX0_readRow_188 : decode cX0_readRow 188 = .ok (.invokevirtual 32, 3) := by decide +kernel
theorem dX0_readRow_191 : decode cX0_readRow 191 = .ok (.bipush 48, 2) := by decide +kernel
theorem dX0_readRow_193 : decode cX0_readRow 193 = .ok (.isub, 1) := by decide +kernel
theorem dX0_readRow_194 : decode cX0_readRow 194 = .ok (.goto 4, 3) := by decide +kernel
theorem dX0_readRow_197 : decode cX0_readRow 197 = .ok (.iconst (-1), 1) := by decide +kernel
theorem dX0_readRow_198 : decode cX0_readRow 198 = .ok (.iastore, 1) := by decide +kernel
theorem dX0_readRow_199 : decode cX0_readRow 199 = .ok (.iload 4, 2) := by decide +kernel
theorem dX0_readRow_201 : decode cX0_readRow 201 = .ok (.ifCond .eq 9, 3) := by decide +kernel
theorem dX0_readRow_204 : decode cX0_readRow 204 = .ok (.iload_n 1, 1) := by decide +kernel
theorem dX0_readRow_205 : decode cX0_readRow 205 = .ok (.iconst 5, 1) := by decide +kernel
theorem dX0_readRow_206 : decode cX0_readRow 206 = .ok (.iadd, 1) := by decide +kernel
theorem dX0_readRow_207 : decode cX0_readRow 207 = .ok (.goto 6, 3) := by decide +kernel
theorem dX0_readRow_210 : decode cX0_readRow 210 = .ok (.iload_n 1, 1) := by decide +kernel
theorem dX0_readRow_211 : decode cX0_readRow 211 = .ok (.iconst 3, 1) := by decide +kernel
theorem dX0_readRow_212 : decode cX0_readRow 212 = .ok (.iadd, 1) := by decide +kernel
theorem dX0_readRow_213 : decode cX0_readRow 213 = .ok (.ireturn, 1) := by decide +kernel
theorem dX1_init_0 : decode cX1_init 0 = .ok (.aload_n 0, 1) := by decide +kernel
theorem dX1_init_1 : decode cX1_init 1 = .ok (.invokespecial 3, 3) := by decide +kernel
theorem dX1_init_4 : decode cX1_init 4 = .ok (.aload_n 0, 1) := by decide +kernel
theorem dX1_init_5 : decode cX1_init 5 = .ok (.new 9, 3) := by decide +kernel
theorem dX1_init_8 : decode cX1_init 8 = .ok (.dup, 1) := by decide +kernel
theorem dX1_init_9 : decode cX1_init 9 = .ok (.invokespecial 11, 3) := by decide +kernel
theorem dX1_init_12 : decode cX1_init 12 = .ok (.putfield 12, 3) := by decide +kernel
theorem dX1_init_15 : decode cX1_init 15 = .ok (.aload_n 0, 1) := by decide +kernel
theorem dX1_init_16 : decode cX1_init 16 = .ok (.new 18, 3) := by decide +kernel
theorem dX1_init_19 : decode cX1_init 19 = .ok (.dup, 1) := by decide +kernel
theorem dX1_init_20 : decode cX1_init 20 = .ok (.invokespecial 20, 3) := by decide +kernel
theorem dX1_init_23 : decode cX1_init 23 = .ok (.putfield 21, 3) := by decide +kernel
theorem dX1_init_26 : decode cX1_init 26 = .ok (.aload_n 0, 1) := by decide +kernel
theorem dX1_init_27 : decode cX1_init 27 = .ok (.new 25, 3) := by decide +kernel
theorem dX1_init_30 : decode cX1_init 30 = .ok (.dup, 1) := by decide +kernel
theorem dX1_init_31 : decode cX1_init 31 = .ok (.invokespecial 27, 3) := by decide +kernel
theorem dX1_init_34 : decode cX1_init 34 = .ok (.putfield 28, 3) := by decide +kernel
theorem dX1_init_37 : decode cX1_init 37 = .ok (.aload_n 0, 1) := by decide +kernel
theorem dX1_init_38 : decode cX1_init 38 = .ok (.bipush 8, 2) := by decide +kernel
theorem dX1_init_40 : decode cX1_init 40 = .ok (.newarray .int, 2) := by decide +kernel
theorem dX1_init_42 : decode cX1_init 42 = .ok (.putfield 32, 3) := by decide +kernel
theorem dX1_init_45 : decode cX1_init 45 = .ok (.aload_n 0, 1) := by decide +kernel
theorem dX1_init_46 : decode cX1_init 46 = .ok (.bipush 6, 2) := by decide +kernel
theorem dX1_init_48 : decode cX1_init 48 = .ok (.newarray .int, 2) := by decide +kernel
theorem dX1_init_50 : decode cX1_init 50 = .ok (.putfield 36, 3) := by decide +kernel
theorem dX1_init_53 : decode cX1_init 53 = .ok (.aload_n 0, 1) := by decide +kernel
theorem dX1_init_54 : decode cX1_init 54 = .ok (.iconst 0, 1) := by decide +kernel
theorem dX1_init_55 : decode cX1_init 55 = .ok (.putfield 39, 3) := by decide +kernel
theorem dX1_init_58 : decode cX1_init 58 = .ok (.return_, 1) := by decide +kernel
theorem dX1_settle_0 : decode cX1_settle 0 = .ok (.aload_n 0, 1) := by decide +kernel
theorem dX1_settle_1 : decode cX1_settle 1 = .ok (.iconst (-1), 1) := by decide +kernel
theorem dX1_settle_2 : decode cX1_settle 2 = .ok (.iconst 0, 1) := by decide +kernel
theorem dX1_settle_3 : decode cX1_settle 3 = .ok (.invokevirtual 43, 3) := by decide +kernel
theorem dX1_settle_6 : decode cX1_settle 6 = .ok (.return_, 1) := by decide +kernel
theorem dX1_settleRefusing_0 : decode cX1_settleRefusing 0 = .ok (.iconst 0, 1) := by decide +kernel
theorem dX1_settleRefusing_1 : decode cX1_settleRefusing 1 = .ok (.istore_n 3, 1) := by decide +kernel
theorem dX1_settleRefusing_2 : decode cX1_settleRefusing 2 = .ok (.iload_n 3, 1) := by decide +kernel
theorem dX1_settleRefusing_3 : decode cX1_settleRefusing 3 = .ok (.bipush 6, 2) := by decide +kernel
theorem dX1_settleRefusing_5 : decode cX1_settleRefusing 5 = .ok (.if_icmp .ge 34, 3) := by decide +kernel
theorem dX1_settleRefusing_8 : decode cX1_settleRefusing 8 = .ok (.aload_n 0, 1) := by decide +kernel
theorem dX1_settleRefusing_9 : decode cX1_settleRefusing 9 = .ok (.getfield 36, 3) := by decide +kernel
theorem dX1_settleRefusing_12 : decode cX1_settleRefusing 12 = .ok (.iload_n 3, 1) := by decide +kernel
theorem dX1_settleRefusing_13 : decode cX1_settleRefusing 13 = .ok (.aload_n 0, 1) := by decide +kernel
theorem dX1_settleRefusing_14 : decode cX1_settleRefusing 14 = .ok (.getfield 28, 3) := by decide +kernel
theorem dX1_settleRefusing_17 : decode cX1_settleRefusing 17 = .ok (.iload_n 3, 1) := by decide +kernel
theorem dX1_settleRefusing_18 : decode cX1_settleRefusing 18 = .ok (.invokevirtual 47, 3) := by decide +kernel
theorem dX1_settleRefusing_21 : decode cX1_settleRefusing 21 = .ok (.iload_n 3, 1) := by decide +kernel
theorem dX1_settleRefusing_22 : decode cX1_settleRefusing 22 = .ok (.iload_n 1, 1) := by decide +kernel
theorem dX1_settleRefusing_23 : decode cX1_settleRefusing 23 = .ok (.if_icmp .ne 7, 3) := by decide +kernel
theorem dX1_settleRefusing_26 : decode cX1_settleRefusing 26 = .ok (.iload_n 2, 1) := by decide +kernel
theorem dX1_settleRefusing_27 : decode cX1_settleRefusing 27 = .ok (.goto 4, 3) := by decide +kernel
theorem dX1_settleRefusing_30 : decode cX1_settleRefusing 30 = .ok (.iconst 0, 1) := by decide +kernel
theorem dX1_settleRefusing_31 : decode cX1_settleRefusing 31 = .ok (.ior, 1) := by decide +kernel
theorem dX1_settleRefusing_32 : decode cX1_settleRefusing 32 = .ok (.iastore, 1) := by decide +kernel
theorem dX1_settleRefusing_33 : decode cX1_settleRefusing 33 = .ok (.iinc 3 1, 3) := by decide +kernel
theorem dX1_settleRefusing_36 : decode cX1_settleRefusing 36 = .ok (.goto (-34), 3) := by decide +kernel
theorem dX1_settleRefusing_39 : decode cX1_settleRefusing 39 = .ok (.aload_n 0, 1) := by decide +kernel
theorem dX1_settleRefusing_40 : decode cX1_settleRefusing 40 = .ok (.getfield 32, 3) := by decide +kernel
theorem dX1_settleRefusing_43 : decode cX1_settleRefusing 43 = .ok (.iconst (-1), 1) := by decide +kernel
theorem dX1_settleRefusing_44 : decode cX1_settleRefusing 44 = .ok (.invokestatic 51, 3) := by decide +kernel
theorem dX1_settleRefusing_47 : decode cX1_settleRefusing 47 = .ok (.aload_n 0, 1) := by decide +kernel
theorem dX1_settleRefusing_48 : decode cX1_settleRefusing 48 = .ok (.iconst 0, 1) := by decide +kernel
theorem dX1_settleRefusing_49 : decode cX1_settleRefusing 49 = .ok (.putfield 39, 3) := by decide +kernel
theorem dX1_settleRefusing_52 : decode cX1_settleRefusing 52 = .ok (.iconst 0, 1) := by decide +kernel
theorem dX1_settleRefusing_53 : decode cX1_settleRefusing 53 = .ok (.istore_n 3, 1) := by decide +kernel
theorem dX1_settleRefusing_54 : decode cX1_settleRefusing 54 = .ok (.iload_n 3, 1) := by decide +kernel
theorem dX1_settleRefusing_55 : decode cX1_settleRefusing 55 = .ok (.aload_n 0, 1) := by decide +kernel
theorem dX1_settleRefusing_56 : decode cX1_settleRefusing 56 = .ok (.getfield 21, 3) := by decide +kernel
theorem dX1_settleRefusing_59 : decode cX1_settleRefusing 59 = .ok (.getfield 57, 3) := by decide +kernel
theorem dX1_settleRefusing_62 : decode cX1_settleRefusing 62 = .ok (.if_icmp .ge 109, 3) := by decide +kernel
theorem dX1_settleRefusing_65 : decode cX1_settleRefusing 65 = .ok (.iload_n 3, 1) := by decide +kernel
theorem dX1_settleRefusing_66 : decode cX1_settleRefusing 66 = .ok (.bipush 15, 2) := by decide +kernel
theorem dX1_settleRefusing_68 : decode cX1_settleRefusing 68 = .ok (.if_icmp .ge 103, 3) := by decide +kernel
theorem dX1_settleRefusing_71 : decode cX1_settleRefusing 71 = .ok (.aload_n 0, 1) := by decide +kernel
theorem dX1_settleRefusing_72 : decode cX1_settleRefusing 72 = .ok (.getfield 21, 3) := by decide +kernel
theorem dX1_settleRefusing_75 : decode cX1_settleRefusing 75 = .ok (.getfield 60, 3) := by decide +kernel
theorem dX1_settleRefusing_78 : decode cX1_settleRefusing 78 = .ok (.iload_n 3, 1) := by decide +kernel
theorem dX1_settleRefusing_79 : decode cX1_settleRefusing 79 = .ok (.iaload, 1) := by decide +kernel
theorem dX1_settleRefusing_80 : decode cX1_settleRefusing 80 = .ok (.istore 4, 2) := by decide +kernel
theorem dX1_settleRefusing_82 : decode cX1_settleRefusing 82 = .ok (.iload 4, 2) := by decide +kernel
theorem dX1_settleRefusing_84 : decode cX1_settleRefusing 84 = .ok (.iconst (-1), 1) := by decide +kernel
theorem dX1_settleRefusing_85 : decode cX1_settleRefusing 85 = .ok (.if_icmp .eq 13, 3) := by decide +kernel
theorem dX1_settleRefusing_88 : decode cX1_settleRefusing 88 = .ok (.aload_n 0, 1) := by decide +kernel
theorem dX1_settleRefusing_89 : decode cX1_settleRefusing 89 = .ok (.iload 4, 2) := by decide +kernel
theorem dX1_settleRefusing_91 : decode cX1_settleRefusing 91 = .ok (.invokevirtual 63, 3) := by decide +kernel
theorem dX1_settleRefusing_94 : decode cX1_settleRefusing 94 = .ok (.iconst (-1), 1) := by decide +kernel
theorem dX1_settleRefusing_95 : decode cX1_settleRefusing 95 = .ok (.if_icmp .eq 7, 3) := by decide +kernel
theorem dX1_settleRefusing_98 : decode cX1_settleRefusing 98 = .ok (.iconst 1, 1) := by decide +kernel
theorem dX1_settleRefusing_99 : decode cX1_settleRefusing 99 = .ok (.goto 4, 3) := by decide +kernel
theorem dX1_settleRefusing_102 : decode cX1_settleRefusing 102 = .ok (.iconst 0, 1) := by decide +kernel
theorem dX1_settleRefusing_103 : decode cX1_settleRefusing 103 = .ok (.istore 5, 2) := by decide +kernel
theorem dX1_settleRefusing_105 : decode cX1_settleRefusing 105 = .ok (.iload 5, 2) := by decide +kernel
theorem dX1_settleRefusing_107 : decode cX1_settleRefusing 107 = .ok (.ifCond .eq 58, 3) := by decide +kernel
theorem dX1_settleRefusing_110 : decode cX1_settleRefusing 110 = .ok (.aload_n 0, 1) := by decide +kernel
theorem dX1_settleRefusing_111 : decode cX1_settleRefusing 111 = .ok (.aload_n 0, 1) := by decide +kernel
theorem dX1_settleRefusing_112 : decode cX1_settleRefusing 112 = .ok (.getfield 21, 3) := by decide +kernel
theorem dX1_settleRefusing_115 : decode cX1_settleRefusing 115 = .ok (.getfield 66, 3) := by decide +kernel
theorem dX1_settleRefusing_118 : decode cX1_settleRefusing 118 = .ok (.iload_n 3, 1) := by decide +kernel
theorem dX1_settleRefusing_119 : decode cX1_settleRefusing 119 = .ok (.iaload, 1) := by decide +kernel
theorem dX1_settleRefusing_120 : decode cX1_settleRefusing 120 = .ok (.aload_n 0, 1) := by decide +kernel
theorem dX1_settleRefusing_121 : decode cX1_settleRefusing 121 = .ok (.getfield 21, 3) := by decide +kernel
theorem dX1_settleRefusing_124 : decode cX1_settleRefusing 124 = .ok (.getfield 69, 3) := by decide +kernel
theorem dX1_settleRefusing_127 : decode cX1_settleRefusing 127 = .ok (.iload_n 3, 1) := by decide +kernel
theorem dX1_settleRefusing_128 : decode cX1_settleRefusing 128 = .ok (.iaload, 1) := by decide +kernel
theorem dX1_settleRefusing_129 : decode cX1_settleRefusing 129 = .ok (.iconst 1, 1) := by decide +kernel
theorem dX1_settleRefusing_130 : decode cX1_settleRefusing 130 = .ok (.if_icmp .ne 7, 3) := by decide +kernel
theorem dX1_settleRefusing_133 : decode cX1_settleRefusing 133 = .ok (.iconst 1, 1) := by decide +kernel
theorem dX1_settleRefusing_134 : decode cX1_settleRefusing 134 = .ok (.goto 4, 3) := by decide +kernel
theorem dX1_settleRefusing_137 : decode cX1_settleRefusing 137 = .ok (.iconst 0, 1) := by decide +kernel
theorem dX1_settleRefusing_138 : decode cX1_settleRefusing 138 = .ok (.aload_n 0, 1) := by decide +kernel
theorem dX1_settleRefusing_139 : decode cX1_settleRefusing 139 = .ok (.getfield 21, 3) := by decide +kernel
theorem dX1_settleRefusing_142 : decode cX1_settleRefusing 142 = .ok (.getfield 72, 3) := by decide +kernel
theorem dX1_settleRefusing_145 : decode cX1_settleRefusing 145 = .ok (.iload_n 3, 1) := by decide +kernel
theorem dX1_settleRefusing_146 : decode cX1_settleRefusing 146 = .ok (.iaload, 1) := by decide +kernel
theorem dX1_settleRefusing_147 : decode cX1_settleRefusing 147 = .ok (.invokevirtual 75, 3) := by decide +kernel
theorem dX1_settleRefusing_150 : decode cX1_settleRefusing 150 = .ok (.ifCond .eq 15, 3) := by decide +kernel
theorem dX1_settleRefusing_153 : decode cX1_settleRefusing 153 = .ok (.aload_n 0, 1) := by decide +kernel
theorem dX1_settleRefusing_154 : decode cX1_settleRefusing 154 = .ok (.dup, 1) := by decide +kernel
theorem dX1_settleRefusing_155 : decode cX1_settleRefusing 155 = .ok (.getfield 39, 3) := by decide +kernel
theorem dX1_settleRefusing_158 : decode cX1_settleRefusing 158 = .ok (.iconst 1, 1) := by decide +kernel
theorem dX1_settleRefusing_159 : decode cX1_settleRefusing 159 = .ok (.iload_n 3, 1) := by decide +kernel
theorem dX1_settleRefusing_160 : decode cX1_settleRefusing 160 = .ok (.ishl, 1) := by decide +kernel
theorem dX1_settleRefusing_161 : decode cX1_settleRefusing 161 = .ok (.ior, 1) := by decide +kernel
theorem dX1_settleRefusing_162 : decode cX1_settleRefusing 162 = .ok (.putfield 39, 3) := by decide +kernel
theorem dX1_settleRefusing_165 : decode cX1_settleRefusing 165 = .ok (.iinc 3 1, 3) := by decide +kernel
theorem dX1_settleRefusing_168 : decode cX1_settleRefusing 168 = .ok (.goto (-114), 3) := by decide +kernel
theorem dX1_settleRefusing_171 : decode cX1_settleRefusing 171 = .ok (.return_, 1) := by decide +kernel
theorem dX1_carryOut_0 : decode cX1_carryOut 0 = .ok (.aload_n 0, 1) := by decide +kernel
theorem dX1_carryOut_1 : decode cX1_carryOut 1 = .ok (.getfield 12, 3) := by decide +kernel
theorem dX1_carryOut_4 : decode cX1_carryOut 4 = .ok (.getfield 79, 3) := by decide +kernel
theorem dX1_carryOut_7 : decode cX1_carryOut 7 = .ok (.iload_n 1, 1) := by decide +kernel
theorem dX1_carryOut_8 : decode cX1_carryOut 8 = .ok (.invokevirtual 83, 3) := by decide +kernel
theorem dX1_carryOut_11 : decode cX1_carryOut 11 = .ok (.ifCond .eq 26, 3) := by decide +kernel
theorem dX1_carryOut_14 : decode cX1_carryOut 14 = .ok (.aload_n 0, 1) := by decide +kernel
theorem dX1_carryOut_15 : decode cX1_carryOut 15 = .ok (.getfield 12, 3) := by decide +kernel
theorem dX1_carryOut_18 : decode cX1_carryOut 18 = .ok (.getfield 89, 3) := by decide +kernel
theorem dX1_carryOut_21 : decode cX1_carryOut 21 = .ok (.iload_n 3, 1) := by decide +kernel
theorem dX1_carryOut_22 : decode cX1_carryOut 22 = .ok (.invokevirtual 93, 3) := by decide +kernel
theorem dX1_carryOut_25 : decode cX1_carryOut 25 = .ok (.ifCond .eq 12, 3) := by decide +kernel
theorem dX1_carryOut_28 : decode cX1_carryOut 28 = .ok (.iload_n 3, 1) := by decide +kernel
theorem dX1_carryOut_29 : decode cX1_carryOut 29 = .ok (.bipush 6, 2) := by decide +kernel
theorem dX1_carryOut_31 : decode cX1_carryOut 31 = .ok (.invokestatic 96, 3) := by decide +kernel
theorem dX1_carryOut_34 : decode cX1_carryOut 34 = .ok (.ifCond .ne 5, 3) := by decide +kernel
theorem dX1_carryOut_37 : decode cX1_carryOut 37 = .ok (.iconst 0, 1) := by decide +kernel
theorem dX1_carryOut_38 : decode cX1_carryOut 38 = .ok (.ireturn, 1) := by decide +kernel
theorem dX1_carryOut_39 : decode cX1_carryOut 39 = .ok (.aload_n 0, 1) := by decide +kernel
theorem dX1_carryOut_40 : decode cX1_carryOut 40 = .ok (.iload_n 1, 1) := by decide +kernel
theorem dX1_carryOut_41 : decode cX1_carryOut 41 = .ok (.invokevirtual 63, 3) := by decide +kernel
theorem dX1_carryOut_44 : decode cX1_carryOut 44 = .ok (.iload_n 3, 1) := by decide +kernel
theorem dX1_carryOut_45 : decode cX1_carryOut 45 = .ok (.if_icmp .ne 7, 3) := by decide +kernel
theorem dX1_carryOut_48 : decode cX1_carryOut 48 = .ok (.iconst 1, 1) := by decide +kernel
theorem dX1_carryOut_49 : decode cX1_carryOut 49 = .ok (.goto 4, 3) := by decide +kernel
theorem dX1_carryOut_52 : decode cX1_carryOut 52 = .ok (.iconst 0, 1) := by decide +kernel
theorem dX1_carryOut_53 : decode cX1_carryOut 53 = .ok (.istore 4, 2) := by decide +kernel
theorem dX1_carryOut_55 : decode cX1_carryOut 55 = .ok (.iload_n 2, 1) := by decide +kernel
theorem dX1_carryOut_56 : decode cX1_carryOut 56 = .ok (.iload 4, 2) := by decide +kernel
theorem dX1_carryOut_58 : decode cX1_carryOut 58 = .ok (.if_icmp .eq 20, 3) := by decide +kernel
theorem dX1_carryOut_61 : decode cX1_carryOut 61 = .ok (.iload_n 2, 1) := by decide +kernel
theorem dX1_carryOut_62 : decode cX1_carryOut 62 = .ok (.ifCond .eq 18, 3) := by decide +kernel
theorem dX1_carryOut_65 : decode cX1_carryOut 65 = .ok (.aload_n 0, 1) := by decide +kernel
theorem dX1_carryOut_66 : decode cX1_carryOut 66 = .ok (.getfield 36, 3) := by decide +kernel
theorem dX1_carryOut_69 : decode cX1_carryOut 69 = .ok (.iload_n 3, 1) := by decide +kernel
theorem dX1_carryOut_70 : decode cX1_carryOut 70 = .ok (.iaload, 1) := by decide +kernel
theorem dX1_carryOut_71 : decode cX1_carryOut 71 = .ok (.iload_n 1, 1) := by decide +kernel
theorem dX1_carryOut_72 : decode cX1_carryOut 72 = .ok (.invokestatic 100, 3) := by decide +kernel
theorem dX1_carryOut_75 : decode cX1_carryOut 75 = .ok (.ifCond .eq 5, 3) := by decide +kernel
theorem dX1_carryOut_78 : decode cX1_carryOut 78 = .ok (.iconst 0, 1) := by decide +kernel
theorem dX1_carryOut_79 : decode cX1_carryOut 79 = .ok (.ireturn, 1) := by decide +kernel
theorem dX1_carryOut_80 : decode cX1_carryOut 80 = .ok (.aload_n 0, 1) := by decide +kernel
theorem dX1_carryOut_81 : decode cX1_carryOut 81 = .ok (.iload_n 1, 1) := by decide +kernel
theorem dX1_carryOut_82 : decode cX1_carryOut 82 = .ok (.iload_n 2, 1) := by decide +kernel
theorem dX1_carryOut_83 : decode cX1_carryOut 83 = .ok (.ifCond .eq 7, 3) := by decide +kernel
theorem dX1_carryOut_86 : decode cX1_carryOut 86 = .ok (.iload_n 3, 1) := by decide +kernel
theorem dX1_carryOut_87 : decode cX1_carryOut 87 = .ok (.goto 4, 3) := by decide +kernel
theorem dX1_carryOut_90 : decode cX1_carryOut 90 = .ok (.iconst (-1), 1) := by decide +kernel
theorem dX1_carryOut_91 : decode cX1_carryOut 91 = .ok (.invokevirtual 103, 3) := by decide +kernel
theorem dX1_carryOut_94 : decode cX1_carryOut 94 = .ok (.iconst 1, 1) := by decide +kernel
theorem dX1_carryOut_95 : decode cX1_carryOut 95 = .ok (.ireturn, 1) := by decide +kernel
theorem dX1_give_0 : decode cX1_give 0 = .ok (.iload_n 1, 1) := by decide +kernel
theorem dX1_give_1 : decode cX1_give 1 = .ok (.ifCond .lt 16, 3) := by decide +kernel
theorem dX1_give_4 : decode cX1_give 4 = .ok (.iload_n 1, 1) := by decide +kernel
theorem dX1_give_5 : decode cX1_give 5 = .ok (.bipush 8, 2) := by decide +kernel
theorem dX1_give_7 : decode cX1_give 7 = .ok (.if_icmp .ge 10, 3) := by decide +kernel
theorem dX1_give_10 : decode cX1_give 10 = .ok (.aload_n 0, 1) := by decide +kernel
theorem dX1_give_11 : decode cX1_give 11 = .ok (.getfield 32, 3) := by decide +kernel
theorem dX1_give_14 : decode cX1_give 14 = .ok (.iload_n 1, 1) := by decide +kernel
theorem dX1_give_15 : decode cX1_give 15 = .ok (.iload_n 2, 1) := by decide +kernel
theorem dX1_give_16 : decode cX1_give 16 = .ok (.iastore, 1) := by decide +kernel
theorem dX1_give_17 : decode cX1_give 17 = .ok (.return_, 1) := by decide +kernel
theorem dX1_ownerOf_0 : decode cX1_ownerOf 0 = .ok (.iload_n 1, 1) := by decide +kernel
theorem dX1_ownerOf_1 : decode cX1_ownerOf 1 = .ok (.ifCond .lt 18, 3) := by decide +kernel
theorem dX1_ownerOf_4 : decode cX1_ownerOf 4 = .ok (.iload_n 1, 1) := by decide +kernel
theorem dX1_ownerOf_5 : decode cX1_ownerOf 5 = .ok (.bipush 8, 2) := by decide +kernel
theorem dX1_ownerOf_7 : decode cX1_ownerOf 7 = .ok (.if_icmp .ge 12, 3) := by decide +kernel
theorem dX1_ownerOf_10 : decode cX1_ownerOf 10 = .ok (.aload_n 0, 1) := by decide +kernel
theorem dX1_ownerOf_11 : decode cX1_ownerOf 11 = .ok (.getfield 32, 3) := by decide +kernel
theorem dX1_ownerOf_14 : decode cX1_ownerOf 14 = .ok (.iload_n 1, 1) := by decide +kernel
theorem dX1_ownerOf_15 : decode cX1_ownerOf 15 = .ok (.iaload, 1) := by decide +kernel
theorem dX1_ownerOf_16 : decode cX1_ownerOf 16 = .ok (.goto 4, 3) := by decide +kernel
theorem dX1_ownerOf_19 : decode cX1_ownerOf 19 = .ok (.iconst (-1), 1) := by decide +kernel
theorem dX1_ownerOf_20 : decode cX1_ownerOf 20 = .ok (.ireturn, 1) := by decide +kernel
theorem dX1_bitsOf_0 : decode cX1_bitsOf 0 = .ok (.iconst 0, 1) := by decide +kernel
theorem dX1_bitsOf_1 : decode cX1_bitsOf 1 = .ok (.istore_n 2, 1) := by decide +kernel
theorem dX1_bitsOf_2 : decode cX1_bitsOf 2 = .ok (.iconst 0, 1) := by decide +kernel
theorem dX1_bitsOf_3 : decode cX1_bitsOf 3 = .ok (.istore_n 3, 1) := by decide +kernel
theorem dX1_bitsOf_4 : decode cX1_bitsOf 4 = .ok (.iload_n 3, 1) := by decide +kernel
theorem dX1_bitsOf_5 : decode cX1_bitsOf 5 = .ok (.aload_n 0, 1) := by decide +kernel
theorem dX1_bitsOf_6 : decode cX1_bitsOf 6 = .ok (.getfield 12, 3) := by decide +kernel
theorem dX1_bitsOf_9 : decode cX1_bitsOf 9 = .ok (.getfield 79, 3) := by decide +kernel
theorem dX1_bitsOf_12 : decode cX1_bitsOf 12 = .ok (.getfield 106, 3) := by decide +kernel
theorem dX1_bitsOf_15 : decode cX1_bitsOf 15 = .ok (.if_icmp .ge 31, 3) := by decide +kernel
theorem dX1_bitsOf_18 : decode cX1_bitsOf 18 = .ok (.iload_n 3, 1) := by decide +kernel
theorem dX1_bitsOf_19 : decode cX1_bitsOf 19 = .ok (.bipush 8, 2) := by decide +kernel
theorem dX1_bitsOf_21 : decode cX1_bitsOf 21 = .ok (.if_icmp .ge 25, 3) := by decide +kernel
theorem dX1_bitsOf_24 : decode cX1_bitsOf 24 = .ok (.aload_n 0, 1) := by decide +kernel
theorem dX1_bitsOf_25 : decode cX1_bitsOf 25 = .ok (.getfield 32, 3) := by decide +kernel
theorem dX1_bitsOf_28 : decode cX1_bitsOf 28 = .ok (.iload_n 3, 1) := by decide +kernel
theorem dX1_bitsOf_29 : decode cX1_bitsOf 29 = .ok (.iaload, 1) := by decide +kernel
theorem dX1_bitsOf_30 : decode cX1_bitsOf 30 = .ok (.iload_n 1, 1) := by decide +kernel
theorem dX1_bitsOf_31 : decode cX1_bitsOf 31 = .ok (.if_icmp .ne 9, 3) := by decide +kernel
theorem dX1_bitsOf_34 : decode cX1_bitsOf 34 = .ok (.iload_n 2, 1) := by decide +kernel
theorem dX1_bitsOf_35 : decode cX1_bitsOf 35 = .ok (.iconst 1, 1) := by decide +kernel
theorem dX1_bitsOf_36 : decode cX1_bitsOf 36 = .ok (.iload_n 3, 1) := by decide +kernel
theorem dX1_bitsOf_37 : decode cX1_bitsOf 37 = .ok (.ishl, 1) := by decide +kernel
theorem dX1_bitsOf_38 : decode cX1_bitsOf 38 = .ok (.ior, 1) := by decide +kernel
theorem dX1_bitsOf_39 : decode cX1_bitsOf 39 = .ok (.istore_n 2, 1) := by decide +kernel
theorem dX1_bitsOf_40 : decode cX1_bitsOf 40 = .ok (.iinc 3 1, 3) := by decide +kernel
theorem dX1_bitsOf_43 : decode cX1_bitsOf 43 = .ok (.goto (-39), 3) := by decide +kernel
theorem dX1_bitsOf_46 : decode cX1_bitsOf 46 = .ok (.iload_n 2, 1) := by decide +kernel
theorem dX1_bitsOf_47 : decode cX1_bitsOf 47 = .ok (.ireturn, 1) := by decide +kernel
theorem dX1_doingOf_0 : decode cX1_doingOf 0 = .ok (.aload_n 0, 1) := by decide +kernel
theorem dX1_doingOf_1 : decode cX1_doingOf 1 = .ok (.iload_n 1, 1) := by decide +kernel
theorem dX1_doingOf_2 : decode cX1_doingOf 2 = .ok (.invokevirtual 107, 3) := by decide +kernel
theorem dX1_doingOf_5 : decode cX1_doingOf 5 = .ok (.istore_n 3, 1) := by decide +kernel
theorem dX1_doingOf_6 : decode cX1_doingOf 6 = .ok (.aload_n 0, 1) := by decide +kernel
theorem dX1_doingOf_7 : decode cX1_doingOf 7 = .ok (.getfield 12, 3) := by decide +kernel
theorem dX1_doingOf_10 : decode cX1_doingOf 10 = .ok (.iload_n 3, 1) := by decide +kernel
theorem dX1_doingOf_11 : decode cX1_doingOf 11 = .ok (.aload_n 0, 1) := by decide +kernel
theorem dX1_doingOf_12 : decode cX1_doingOf 12 = .ok (.getfield 12, 3) := by decide +kernel
theorem dX1_doingOf_15 : decode cX1_doingOf 15 = .ok (.iload_n 1, 1) := by decide +kernel
theorem dX1_doingOf_16 : decode cX1_doingOf 16 = .ok (.iload_n 3, 1) := by decide +kernel
theorem dX1_doingOf_17 : decode cX1_doingOf 17 = .ok (.invokevirtual 110, 3) := by decide +kernel
theorem dX1_doingOf_20 : decode cX1_doingOf 20 = .ok (.iconst (-1), 1) := by decide +kernel
theorem dX1_doingOf_21 : decode cX1_doingOf 21 = .ok (.ixor, 1) := by decide +kernel
theorem dX1_doingOf_22 : decode cX1_doingOf 22 = .ok (.iand, 1) := by decide +kernel
theorem dX1_doingOf_23 : decode cX1_doingOf 23 = .ok (.iload_n 2, 1) := by decide +kernel
theorem dX1_doingOf_24 : decode cX1_doingOf 24 = .ok (.invokevirtual 114, 3) := by decide +kernel
theorem dX1_doingOf_27 : decode cX1_doingOf 27 = .ok (.ireturn, 1) := by decide +kernel
theorem dX1_fewestRefusals_0 : decode cX1_fewestRefusals 0 = .ok (.iconst (-1), 1) := by decide +kernel
theorem dX1_fewestRefusals_1 : decode cX1_fewestRefusals 1 = .ok (.istore_n 2, 1) := by decide +kernel
theorem dX1_fewestRefusals_2 : decode cX1_fewestRefusals 2 = .ok (.iconst 1, 1) := by decide +kernel
theorem dX1_fewestRefusals_3 : decode cX1_fewestRefusals 3 = .ok (.aload_n 0, 1) := by decide +kernel
theorem dX1_fewestRefusals_4 : decode cX1_fewestRefusals 4 = .ok (.getfield 12, 3) := by decide +kernel
theorem dX1_fewestRefusals_7 : decode cX1_fewestRefusals 7 = .ok (.getfield 79, 3) := by decide +kernel
theorem dX1_fewestRefusals_10 : decode cX1_fewestRefusals 10 = .ok (.getfield 106, 3) := by decide +kernel
theorem dX1_fewestRefusals_13 : decode cX1_fewestRefusals 13 = .ok (.bipush 8, 2) := by decide +kernel
theorem dX1_fewestRefusals_15 : decode cX1_fewestRefusals 15 = .ok (.invokestatic 117, 3) := by decide +kernel
theorem dX1_fewestRefusals_18 : decode cX1_fewestRefusals 18 = .ok (.ishl, 1) := by decide +kernel
theorem dX1_fewestRefusals_19 : decode cX1_fewestRefusals 19 = .ok (.istore_n 3, 1) := by decide +kernel
theorem dX1_fewestRefusals_20 : decode cX1_fewestRefusals 20 = .ok (.iconst 0, 1) := by decide +kernel
theorem dX1_fewestRefusals_21 : decode cX1_fewestRefusals 21 = .ok (.istore 4, 2) := by decide +kernel
theorem dX1_fewestRefusals_23 : decode cX1_fewestRefusals 23 = .ok (.iload 4, 2) := by decide +kernel
theorem dX1_fewestRefusals_25 : decode cX1_fewestRefusals 25 = .ok (.iload_n 3, 1) := by decide +kernel
theorem dX1_fewestRefusals_26 : decode cX1_fewestRefusals 26 = .ok (.if_icmp .ge 55, 3) := by decide +kernel
theorem dX1_fewestRefusals_29 : decode cX1_fewestRefusals 29 = .ok (.iload_n 2, 1) := by decide +kernel
theorem dX1_fewestRefusals_30 : decode cX1_fewestRefusals 30 = .ok (.iconst (-1), 1) := by decide +kernel
theorem dX1_fewestRefusals_31 : decode cX1_fewestRefusals 31 = .ok (.if_icmp .eq 18, 3) := by decide +kernel
theorem dX1_fewestRefusals_34 : decode cX1_fewestRefusals 34 = .ok (.iload 4, 2) := by decide +kernel
theorem dX1_fewestRefusals_36 : decode cX1_fewestRefusals 36 = .ok (.invokestatic 122, 3) := by decide +kernel
theorem dX1_fewestRefusals_39 : decode cX1_fewestRefusals 39 = .ok (.iload_n 2, 1) := by decide +kernel
theorem dX1_fewestRefusals_40 : decode cX1_fewestRefusals 40 = .ok (.invokestatic 122, 3) := by decide +kernel
theorem dX1_fewestRefusals_43 : decode cX1_fewestRefusals 43 = .ok (.if_icmp .lt 6, 3) := by decide +kernel
theorem dX1_fewestRefusals_46 : decode cX1_fewestRefusals 46 = .ok (.goto 29, 3) := by decide +kernel
theorem dX1_fewestRefusals_49 : decode cX1_fewestRefusals 49 = .ok (.aload_n 0, 1) := by decide +kernel
theorem dX1_fewestRefusals_50 : decode cX1_fewestRefusals 50 = .ok (.iload_n 1, 1) := by decide +kernel
theorem dX1_fewestRefusals_51 : decode cX1_fewestRefusals 51 = .ok (.iload 4, 2) := by decide +kernel
theorem dX1_fewestRefusals_53 : decode cX1_fewestRefusals 53 = .ok (.invokevirtual 43, 3) := by decide +kernel
theorem dX1_fewestRefusals_56 : decode cX1_fewestRefusals 56 = .ok (.aload_n 0, 1) := by decide +kernel
theorem dX1_fewestRefusals_57 : decode cX1_fewestRefusals 57 = .ok (.getfield 12, 3) := by decide +kernel
theorem dX1_fewestRefusals_60 : decode cX1_fewestRefusals 60 = .ok (.iload_n 1, 1) := by decide +kernel
theorem dX1_fewestRefusals_61 : decode cX1_fewestRefusals 61 = .ok (.aload_n 0, 1) := by decide +kernel
theorem dX1_fewestRefusals_62 : decode cX1_fewestRefusals 62 = .ok (.iload_n 1, 1) := by decide +kernel
theorem dX1_fewestRefusals_63 : decode cX1_fewestRefusals 63 = .ok (.invokevirtual 107, 3) := by decide +kernel
theorem dX1_fewestRefusals_66 : decode cX1_fewestRefusals 66 = .ok (.invokevirtual 127, 3) := by decide +kernel
theorem dX1_fewestRefusals_69 : decode cX1_fewestRefusals 69 = .ok (.ifCond .eq 6, 3) := by decide +kernel
theorem dX1_fewestRefusals_72 : decode cX1_fewestRefusals 72 = .ok (.iload 4, 2) := by decide +kernel
theorem dX1_fewestRefusals_74 : decode cX1_fewestRefusals 74 = .ok (.istore_n 2, 1) := by decide +kernel
theorem dX1_fewestRefusals_75 : decode cX1_fewestRefusals 75 = .ok (.iinc 4 1, 3) := by decide +kernel
theorem dX1_fewestRefusals_78 : decode cX1_fewestRefusals 78 = .ok (.goto (-55), 3) := by decide +kernel
theorem dX1_fewestRefusals_81 : decode cX1_fewestRefusals 81 = .ok (.iload_n 2, 1) := by decide +kernel
theorem dX1_fewestRefusals_82 : decode cX1_fewestRefusals 82 = .ok (.ireturn, 1) := by decide +kernel
theorem dX1_addByLots_0 : decode cX1_addByLots 0 = .ok (.iload_n 1, 1) := by decide +kernel
theorem dX1_addByLots_1 : decode cX1_addByLots 1 = .ok (.istore_n 3, 1) := by decide +kernel
theorem dX1_addByLots_2 : decode cX1_addByLots 2 = .ok (.iconst 0, 1) := by decide +kernel
theorem dX1_addByLots_3 : decode cX1_addByLots 3 = .ok (.istore 4, 2) := by decide +kernel
theorem dX1_addByLots_5 : decode cX1_addByLots 5 = .ok (.iload 4, 2) := by decide +kernel
theorem dX1_addByLots_7 : decode cX1_addByLots 7 = .ok (.iload_n 2, 1) := by decide +kernel
theorem dX1_addByLots_8 : decode cX1_addByLots 8 = .ok (.if_icmp .ge 85, 3) := by decide +kernel
theorem dX1_addByLots_11 : decode cX1_addByLots 11 = .ok (.iload 4, 2) := by decide +kernel
theorem dX1_addByLots_13 : decode cX1_addByLots 13 = .ok (.bipush 20, 2) := by decide +kernel
theorem dX1_addByLots_15 : decode cX1_addByLots 15 = .ok (.if_icmp .ge 78, 3) := by decide +kernel
theorem dX1_addByLots_18 : decode cX1_addByLots 18 = .ok (.iload_n 3, 1) := by decide +kernel
theorem dX1_addByLots_19 : decode cX1_addByLots 19 = .ok (.invokestatic 130, 3) := by decide +kernel
theorem dX1_addByLots_22 : decode cX1_addByLots 22 = .ok (.istore_n 3, 1) := by decide +kernel
theorem dX1_addByLots_23 : decode cX1_addByLots 23 = .ok (.iload_n 3, 1) := by decide +kernel
theorem dX1_addByLots_24 : decode cX1_addByLots 24 = .ok (.aload_n 0, 1) := by decide +kernel
theorem dX1_addByLots_25 : decode cX1_addByLots 25 = .ok (.getfield 12, 3) := by decide +kernel
theorem dX1_addByLots_28 : decode cX1_addByLots 28 = .ok (.getfield 79, 3) := by decide +kernel
theorem dX1_addByLots_31 : decode cX1_addByLots 31 = .ok (.getfield 106, 3) := by decide +kernel
theorem dX1_addByLots_34 : decode cX1_addByLots 34 = .ok (.invokestatic 133, 3) := by decide +kernel
theorem dX1_addByLots_37 : decode cX1_addByLots 37 = .ok (.istore 5, 2) := by decide +kernel
theorem dX1_addByLots_39 : decode cX1_addByLots 39 = .ok (.iload_n 3, 1) := by decide +kernel
theorem dX1_addByLots_40 : decode cX1_addByLots 40 = .ok (.invokestatic 130, 3) := by decide +kernel
theorem dX1_addByLots_43 : decode cX1_addByLots 43 = .ok (.istore_n 3, 1) := by decide +kernel
theorem dX1_addByLots_44 : decode cX1_addByLots 44 = .ok (.iload_n 3, 1) := by decide +kernel
theorem dX1_addByLots_45 : decode cX1_addByLots 45 = .ok (.iconst 2, 1) := by decide +kernel
theorem dX1_addByLots_46 : decode cX1_addByLots 46 = .ok (.invokestatic 133, 3) := by decide +kernel
theorem dX1_addByLots_49 : decode cX1_addByLots 49 = .ok (.ifCond .ne 7, 3) := by decide +kernel
theorem dX1_addByLots_52 : decode cX1_addByLots 52 = .ok (.iconst 1, 1) := by decide +kernel
theorem dX1_addByLots_53 : decode cX1_addByLots 53 = .ok (.goto 4, 3) := by decide +kernel
theorem dX1_addByLots_56 : decode cX1_addByLots 56 = .ok (.iconst 0, 1) := by decide +kernel
theorem dX1_addByLots_57 : decode cX1_addByLots 57 = .ok (.istore 6, 2) := by decide +kernel
theorem dX1_addByLots_59 : decode cX1_addByLots 59 = .ok (.iload_n 3, 1) := by decide +kernel
theorem dX1_addByLots_60 : decode cX1_addByLots 60 = .ok (.invokestatic 130, 3) := by decide +kernel
theorem dX1_addByLots_63 : decode cX1_addByLots 63 = .ok (.istore_n 3, 1) := by decide +kernel
theorem dX1_addByLots_64 : decode cX1_addByLots 64 = .ok (.aload_n 0, 1) := by decide +kernel
theorem dX1_addByLots_65 : decode cX1_addByLots 65 = .ok (.iload 5, 2) := by decide +kernel
theorem dX1_addByLots_67 : decode cX1_addByLots 67 = .ok (.iload 6, 2) := by decide +kernel
theorem dX1_addByLots_69 : decode cX1_addByLots 69 = .ok (.iload_n 3, 1) := by decide +kernel
theorem dX1_addByLots_70 : decode cX1_addByLots 70 = .ok (.aload_n 0, 1) := by decide +kernel
theorem dX1_addByLots_71 : decode cX1_addByLots 71 = .ok (.getfield 12, 3) := by decide +kernel
theorem dX1_addByLots_74 : decode cX1_addByLots 74 = .ok (.getfield 89, 3) := by decide +kernel
theorem dX1_addByLots_77 : decode cX1_addByLots 77 = .ok (.getfield 136, 3) := by decide +kernel
theorem dX1_addByLots_80 : decode cX1_addByLots 80 = .ok (.invokestatic 133, 3) := by decide +kernel
theorem dX1_addByLots_83 : decode cX1_addByLots 83 = .ok (.invokevirtual 75, 3) := by decide +kernel
theorem dX1_addByLots_86 : decode cX1_addByLots 86 = .ok (.pop, 1) := by decide +kernel
theorem dX1_addByLots_87 : decode cX1_addByLots 87 = .ok (.iinc 4 1, 3) := by decide +kernel
theorem dX1_addByLots_90 : decode cX1_addByLots 90 = .ok (.goto (-85), 3) := by decide +kernel
theorem dX1_addByLots_93 : decode cX1_addByLots 93 = .ok (.return_, 1) := by decide +kernel
theorem dX1_nextSeed_0 : decode cX1_nextSeed 0 = .ok (.ldc 137, 2) := by decide +kernel
theorem dX1_nextSeed_2 : decode cX1_nextSeed 2 = .ok (.iload_n 0, 1) := by decide +kernel
theorem dX1_nextSeed_3 : decode cX1_nextSeed 3 = .ok (.imul, 1) := by decide +kernel
theorem dX1_nextSeed_4 : decode cX1_nextSeed 4 = .ok (.sipush 12345, 3) := by decide +kernel
theorem dX1_nextSeed_7 : decode cX1_nextSeed 7 = .ok (.iadd, 1) := by decide +kernel
theorem dX1_nextSeed_8 : decode cX1_nextSeed 8 = .ok (.ireturn, 1) := by decide +kernel
theorem dX1_lotOf_0 : decode cX1_lotOf 0 = .ok (.iload_n 1, 1) := by decide +kernel
theorem dX1_lotOf_1 : decode cX1_lotOf 1 = .ok (.ifCond .le 12, 3) := by decide +kernel
theorem dX1_lotOf_4 : decode cX1_lotOf 4 = .ok (.iload_n 0, 1) := by decide +kernel
theorem dX1_lotOf_5 : decode cX1_lotOf 5 = .ok (.bipush 16, 2) := by decide +kernel
theorem dX1_lotOf_7 : decode cX1_lotOf 7 = .ok (.iushr, 1) := by decide +kernel
theorem dX1_lotOf_8 : decode cX1_lotOf 8 = .ok (.iload_n 1, 1) := by decide +kernel
theorem dX1_lotOf_9 : decode cX1_lotOf 9 = .ok (.irem, 1) := by decide +kernel
theorem dX1_lotOf_10 : decode cX1_lotOf 10 = .ok (.goto 4, 3) := by decide +kernel
theorem dX1_lotOf_13 : decode cX1_lotOf 13 = .ok (.iconst (-1), 1) := by decide +kernel
theorem dX1_lotOf_14 : decode cX1_lotOf 14 = .ok (.ireturn, 1) := by decide +kernel
theorem dX2_init_0 : decode cX2_init 0 = .ok (.aload_n 0, 1) := by decide +kernel
theorem dX2_init_1 : decode cX2_init 1 = .ok (.bipush 47, 2) := by decide +kernel
theorem dX2_init_3 : decode cX2_init 3 = .ok (.bipush 8, 2) := by decide +kernel
theorem dX2_init_5 : decode cX2_init 5 = .ok (.invokespecial 3, 3) := by decide +kernel
theorem dX2_init_8 : decode cX2_init 8 = .ok (.aload_n 0, 1) := by decide +kernel
theorem dX2_init_9 : decode cX2_init 9 = .ok (.bipush 8, 2) := by decide +kernel
theorem dX2_init_11 : decode cX2_init 11 = .ok (.newarray .int, 2) := by decide +kernel
theorem dX2_init_13 : decode cX2_init 13 = .ok (.putfield 9, 3) := by decide +kernel
theorem dX2_init_16 : decode cX2_init 16 = .ok (.aload_n 0, 1) := by decide +kernel
theorem dX2_init_17 : decode cX2_init 17 = .ok (.bipush 8, 2) := by decide +kernel
theorem dX2_init_19 : decode cX2_init 19 = .ok (.newarray .int, 2) := by decide +kernel
theorem dX2_init_21 : decode cX2_init 21 = .ok (.putfield 15, 3) := by decide +kernel
theorem dX2_init_24 : decode cX2_init 24 = .ok (.aload_n 0, 1) := by decide +kernel
theorem dX2_init_25 : decode cX2_init 25 = .ok (.bipush 8, 2) := by decide +kernel
theorem dX2_init_27 : decode cX2_init 27 = .ok (.newarray .int, 2) := by decide +kernel
theorem dX2_init_29 : decode cX2_init 29 = .ok (.putfield 18, 3) := by decide +kernel
theorem dX2_init_32 : decode cX2_init 32 = .ok (.aload_n 0, 1) := by decide +kernel
theorem dX2_init_33 : decode cX2_init 33 = .ok (.bipush 8, 2) := by decide +kernel
theorem dX2_init_35 : decode cX2_init 35 = .ok (.newarray .int, 2) := by decide +kernel
theorem dX2_init_37 : decode cX2_init 37 = .ok (.putfield 21, 3) := by decide +kernel
theorem dX2_init_40 : decode cX2_init 40 = .ok (.aload_n 0, 1) := by decide +kernel
theorem dX2_init_41 : decode cX2_init 41 = .ok (.bipush 8, 2) := by decide +kernel
theorem dX2_init_43 : decode cX2_init 43 = .ok (.newarray .int, 2) := by decide +kernel
theorem dX2_init_45 : decode cX2_init 45 = .ok (.putfield 24, 3) := by decide +kernel
theorem dX2_init_48 : decode cX2_init 48 = .ok (.aload_n 0, 1) := by decide +kernel
theorem dX2_init_49 : decode cX2_init 49 = .ok (.bipush 8, 2) := by decide +kernel
theorem dX2_init_51 : decode cX2_init 51 = .ok (.newarray .int, 2) := by decide +kernel
theorem dX2_init_53 : decode cX2_init 53 = .ok (.putfield 27, 3) := by decide +kernel
theorem dX2_init_56 : decode cX2_init 56 = .ok (.return_, 1) := by decide +kernel
theorem dX2_readRow_0 : decode cX2_readRow 0 = .ok (.iload_n 2, 1) := by decide +kernel
theorem dX2_readRow_1 : decode cX2_readRow 1 = .ok (.bipush 8, 2) := by decide +kernel
theorem dX2_readRow_3 : decode cX2_readRow 3 = .ok (.invokestatic 30, 3) := by decide +kernel
theorem dX2_readRow_6 : decode cX2_readRow 6 = .ok (.ifCond .eq 15, 3) := by decide +kernel
theorem dX2_readRow_9 : decode cX2_readRow 9 = .ok (.aload_n 0, 1) := by decide +kernel
theorem dX2_readRow_10 : decode cX2_readRow 10 = .ok (.iload_n 1, 1) := by decide +kernel
theorem dX2_readRow_11 : decode cX2_readRow 11 = .ok (.bipush 97, 2) := by decide +kernel
theorem dX2_readRow_13 : decode cX2_readRow 13 = .ok (.bipush 120, 2) := by decide +kernel
theorem dX2_readRow_15 : decode cX2_readRow 15 = .ok (.invokevirtual 34, 3) := by decide +kernel
theorem dX2_readRow_18 : decode cX2_readRow 18 = .ok (.ifCond .ne 7, 3) := by decide +kernel
theorem dX2_readRow_21 : decode cX2_readRow 21 = .ok (.iload_n 1, 1) := by decide +kernel
theorem dX2_readRow_22 : decode cX2_readRow 22 = .ok (.iconst (-1), 1) := by decide +kernel
theorem dX2_readRow_23 : decode cX2_readRow 23 = .ok (.ixor, 1) := by decide +kernel
theorem dX2_readRow_24 : decode cX2_readRow 24 = .ok (.ireturn, 1) := by decide +kernel
theorem dX2_readRow_25 : decode cX2_readRow 25 = .ok (.aload_n 0, 1) := by decide +kernel
theorem dX2_readRow_26 : decode cX2_readRow 26 = .ok (.iload_n 1, 1) := by decide +kernel
theorem dX2_readRow_27 : decode cX2_readRow 27 = .ok (.iconst 1, 1) := by decide +kernel
theorem dX2_readRow_28 : decode cX2_readRow 28 = .ok (.iadd, 1) := by decide +kernel
theorem dX2_readRow_29 : decode cX2_readRow 29 = .ok (.bipush 49, 2) := by decide +kernel
theorem dX2_readRow_31 : decode cX2_readRow 31 = .ok (.bipush 57, 2) := by decide +kernel
theorem dX2_readRow_33 : decode cX2_readRow 33 = .ok (.invokevirtual 34, 3) := by decide +kernel
theorem dX2_readRow_36 : decode cX2_readRow 36 = .ok (.ifCond .ne 9, 3) := by decide +kernel
theorem dX2_readRow_39 : decode cX2_readRow 39 = .ok (.iload_n 1, 1) := by decide +kernel
theorem dX2_readRow_40 : decode cX2_readRow 40 = .ok (.iconst 1, 1) := by decide +kernel
theorem dX2_readRow_41 : decode cX2_readRow 41 = .ok (.iadd, 1) := by decide +kernel
theorem dX2_readRow_42 : decode cX2_readRow 42 = .ok (.iconst (-1), 1) := by decide +kernel
theorem dX2_readRow_43 : decode cX2_readRow 43 = .ok (.ixor, 1) := by decide +kernel
theorem dX2_readRow_44 : decode cX2_readRow 44 = .ok (.ireturn, 1) := by decide +kernel
theorem dX2_readRow_45 : decode cX2_readRow 45 = .ok (.aload_n 0, 1) := by decide +kernel
theorem dX2_readRow_46 : decode cX2_readRow 46 = .ok (.iload_n 1, 1) := by decide +kernel
theorem dX2_readRow_47 : decode cX2_readRow 47 = .ok (.iconst 2, 1) := by decide +kernel
theorem dX2_readRow_48 : decode cX2_readRow 48 = .ok (.iadd, 1) := by decide +kernel
theorem dX2_readRow_49 : decode cX2_readRow 49 = .ok (.bipush 48, 2) := by decide +kernel
theorem dX2_readRow_51 : decode cX2_readRow 51 = .ok (.bipush 57, 2) := by decide +kernel
theorem dX2_readRow_53 : decode cX2_readRow 53 = .ok (.invokevirtual 34, 3) := by decide +kernel
theorem dX2_readRow_56 : decode cX2_readRow 56 = .ok (.ifCond .ne 9, 3) := by decide +kernel
theorem dX2_readRow_59 : decode cX2_readRow 59 = .ok (.iload_n 1, 1) := by decide +kernel
theorem dX2_readRow_60 : decode cX2_readRow 60 = .ok (.iconst 2, 1) := by decide +kernel
theorem dX2_readRow_61 : decode cX2_readRow 61 = .ok (.iadd, 1) := by decide +kernel
theorem dX2_readRow_62 : decode cX2_readRow 62 = .ok (.iconst (-1), 1) := by decide +kernel
theorem dX2_readRow_63 : decode cX2_readRow 63 = .ok (.ixor, 1) := by decide +kernel
theorem dX2_readRow_64 : decode cX2_readRow 64 = .ok (.ireturn, 1) := by decide +kernel
theorem dX2_readRow_65 : decode cX2_readRow 65 = .ok (.aload_n 0, 1) := by decide +kernel
theorem dX2_readRow_66 : decode cX2_readRow 66 = .ok (.iload_n 1, 1) := by decide +kernel
theorem dX2_readRow_67 : decode cX2_readRow 67 = .ok (.iconst 3, 1) := by decide +kernel
theorem dX2_readRow_68 : decode cX2_readRow 68 = .ok (.iadd, 1) := by decide +kernel
theorem dX2_readRow_69 : decode cX2_readRow 69 = .ok (.bipush 48, 2) := by decide +kernel
theorem dX2_readRow_71 : decode cX2_readRow 71 = .ok (.bipush 55, 2) := by decide +kernel
theorem dX2_readRow_73 : decode cX2_readRow 73 = .ok (.invokevirtual 34, 3) := by decide +kernel
theorem dX2_readRow_76 : decode cX2_readRow 76 = .ok (.istore_n 3, 1) := by decide +kernel
theorem dX2_readRow_77 : decode cX2_readRow 77 = .ok (.iload_n 3, 1) := by decide +kernel
theorem dX2_readRow_78 : decode cX2_readRow 78 = .ok (.ifCond .ne 21, 3) := by decide +kernel
theorem dX2_readRow_81 : decode cX2_readRow 81 = .ok (.aload_n 0, 1) := by decide +kernel
theorem dX2_readRow_82 : decode cX2_readRow 82 = .ok (.iload_n 1, 1) := by decide +kernel
theorem dX2_readRow_83 : decode cX2_readRow 83 = .ok (.iconst 3, 1) := by decide +kernel
theorem dX2_readRow_84 : decode cX2_readRow 84 = .ok (.iadd, 1) := by decide +kernel
theorem dX2_readRow_85 : decode cX2_readRow 85 = .ok (.invokevirtual 38, 3) := by decide +kernel
theorem dX2_readRow_88 : decode cX2_readRow 88 = .ok (.bipush 46, 2) := by decide +kernel
theorem dX2_readRow_90 : decode cX2_readRow 90 = .ok (.if_icmp .eq 9, 3) := by decide +kernel
theorem dX2_readRow_93 : decode cX2_readRow 93 = .ok (.iload_n 1, 1) := by decide +kernel
theorem dX2_readRow_94 : decode cX2_readRow 94 = .ok (.iconst 3, 1) := by decide +kernel
theorem dX2_readRow_95 : decode cX2_readRow 95 = .ok (.iadd, 1) := by decide +kernel
theorem dX2_readRow_96 : decode cX2_readRow 96 = .ok (.iconst (-1), 1) := by decide +kernel
theorem dX2_readRow_97 : decode cX2_readRow 97 = .ok (.ixor, 1) := by decide +kernel
theorem dX2_readRow_98 : decode cX2_readRow 98 = .ok (.ireturn, 1) := by decide +kernel
theorem dX2_readRow_99 : decode cX2_readRow 99 = .ok (.aload_n 0, 1) := by decide +kernel
theorem dX2_readRow_100 : decode cX2_readRow 100 = .ok (.iload_n 1, 1) := by decide +kernel
theorem dX2_readRow_101 : decode cX2_readRow 101 = .ok (.iconst 4, 1) := by decide +kernel
theorem dX2_readRow_102 : decode cX2_readRow 102 = .ok (.iadd, 1) := by decide +kernel
theorem dX2_readRow_103 : decode cX2_readRow 103 = .ok (.invokevirtual 38, 3) := by decide +kernel
theorem dX2_readRow_106 : decode cX2_readRow 106 = .ok (.bipush 33, 2) := by decide +kernel
theorem dX2_readRow_108 : decode cX2_readRow 108 = .ok (.if_icmp .ne 7, 3) := by decide +kernel
theorem dX2_readRow_111 : decode cX2_readRow 111 = .ok (.iconst 1, 1) := by decide +kernel
theorem dX2_readRow_112 : decode cX2_readRow 112 = .ok (.goto 4, 3) := by decide +kernel
theorem dX2_readRow_115 : decode cX2_readRow 115 = .ok (.iconst 0, 1) := by decide +kernel
theorem dX2_readRow_116 : decode cX2_readRow 116 = .ok (.istore 4, 2) := by decide +kernel
theorem dX2_readRow_118 : decode cX2_readRow 118 = .ok (.iload 4, 2) := by decide +kernel
theorem dX2_readRow_120 : decode cX2_readRow 120 = .ok (.ifCond .ne 21, 3) := by decide +kernel
theorem dX2_readRow_123 : decode cX2_readRow 123 = .ok (.aload_n 0, 1) := by decide +kernel
theorem dX2_readRow_124 : decode cX2_readRow 124 = .ok (.iload_n 1, 1) := by decide +kernel
theorem dX2_readRow_125 : decode cX2_readRow 125 = .ok (.iconst 4, 1) := by decide +kernel
theorem dX2_readRow_126 : decode cX2_readRow 126 = .ok (.iadd, 1) := by decide +kernel
theorem dX2_readRow_127 : decode cX2_readRow 127 = .ok (.invokevirtual 38, 3) := by decide +kernel
theorem dX2_readRow_130 : decode cX2_readRow 130 = .ok (.bipush 46, 2) := by decide +kernel
theorem dX2_readRow_132 : decode cX2_readRow 132 = .ok (.if_icmp .eq 9, 3) := by decide +kernel
theorem dX2_readRow_135 : decode cX2_readRow 135 = .ok (.iload_n 1, 1) := by decide +kernel
theorem dX2_readRow_136 : decode cX2_readRow 136 = .ok (.iconst 4, 1) := by decide +kernel
theorem dX2_readRow_137 : decode cX2_readRow 137 = .ok (.iadd, 1) := by decide +kernel
theorem dX2_readRow_138 : decode cX2_readRow 138 = .ok (.iconst (-1), 1) := by decide +kernel
theorem dX2_readRow_139 : decode cX2_readRow 139 = .ok (.ixor, 1) := by decide +kernel
theorem dX2_readRow_140 : decode cX2_readRow 140 = .ok (.ireturn, 1) := by decide +kernel
theorem dX2_readRow_141 : decode cX2_readRow 141 = .ok (.aload_n 0, 1) := by decide +kernel
theorem dX2_readRow_142 : decode cX2_readRow 142 = .ok (.getfield 9, 3) := by decide +kernel
theorem dX2_readRow_145 : decode cX2_readRow 145 = .ok (.iload_n 2, 1) := by decide +kernel
theorem dX2_readRow_146 : decode cX2_readRow 146 = .ok (.aload_n 0, 1) := by decide +kernel
theorem dX2_readRow_147 : decode cX2_readRow 147 = .ok (.iload_n 1, 1) := by decide +kernel
theorem dX2_readRow_148 : decode cX2_readRow 148 = .ok (.invokevirtual 38, 3) := by decide +kernel
theorem dX2_readRow_151 : decode cX2_readRow 151 = .ok (.bipush 97, 2) := by decide +kernel
theorem dX2_readRow_153 : decode cX2_readRow 153 = .ok (.isub, 1) := by decide +kernel
theorem dX2_readRow_154 : decode cX2_readRow 154 = .ok (.iastore, 1) := by decide +kernel
theorem dX2_readRow_155 : decode cX2_readRow 155 = .ok (.aload_n 0, 1) := by decide +kernel
theorem dX2_readRow_156 : decode cX2_readRow 156 = .ok (.getfield 15, 3) := by decide +kernel
theorem dX2_readRow_159 : decode cX2_readRow 159 = .ok (.iload_n 2, 1) := by decide +kernel
theorem dX2_readRow_160 : decode cX2_readRow 160 = .ok (.aload_n 0, 1) := by decide +kernel
theorem dX2_readRow_161 : decode cX2_readRow 161 = .ok (.iload_n 1, 1) := by decide +kernel
theorem dX2_readRow_162 : decode cX2_readRow 162 = .ok (.iconst 1, 1) := by decide +kernel
theorem dX2_readRow_163 : decode cX2_readRow 163 = .ok (.iadd, 1) := by decide +kernel
theorem dX2_readRow_164 : decode cX2_readRow 164 = .ok (.invokevirtual 38, 3) := by decide +kernel
theorem dX2_readRow_167 : decode cX2_readRow 167 = .ok (.bipush 48, 2) := by decide +kernel
theorem dX2_readRow_169 : decode cX2_readRow 169 = .ok (.isub, 1) := by decide +kernel
theorem dX2_readRow_170 : decode cX2_readRow 170 = .ok (.iastore, 1) := by decide +kernel
theorem dX2_readRow_171 : decode cX2_readRow 171 = .ok (.aload_n 0, 1) := by decide +kernel
theorem dX2_readRow_172 : decode cX2_readRow 172 = .ok (.getfield 18, 3) := by decide +kernel
theorem dX2_readRow_175 : decode cX2_readRow 175 = .ok (.iload_n 2, 1) := by decide +kernel
theorem dX2_readRow_176 : decode cX2_readRow 176 = .ok (.aload_n 0, 1) := by decide +kernel
theorem dX2_readRow_177 : decode cX2_readRow 177 = .ok (.iload_n 1, 1) := by decide +kernel
theorem dX2_readRow_178 : decode cX2_readRow 178 = .ok (.iconst 2, 1) := by decide +kernel
theorem dX2_readRow_179 : decode cX2_readRow 179 = .ok (.iadd, 1) := by decide +kernel
theorem dX2_readRow_180 : decode cX2_readRow 180 = .ok (.invokevirtual 38, 3) := by decide +kernel
theorem dX2_readRow_183 : decode cX2_readRow 183 = .ok (.bipush 48, 2) := by decide +kernel
theorem dX2_readRow_185 : decode cX2_readRow 185 = .ok (.isub, 1) := by decide +kernel
theorem dX2_readRow_186 : decode cX2_readRow 186 = .ok (.iastore, 1) := by decide +kernel
theorem dX2_readRow_187 : decode cX2_readRow 187 = .ok (.aload_n 0, 1) := by decide +kernel
theorem dX2_readRow_188 : decode cX2_readRow 188 = .ok (.getfield 21, 3) := by decide +kernel
theorem dX2_readRow_191 : decode cX2_readRow 191 = .ok (.iload_n 2, 1) := by decide +kernel
theorem dX2_readRow_192 : decode cX2_readRow 192 = .ok (.iload_n 3, 1) := by decide +kernel
theorem dX2_readRow_193 : decode cX2_readRow 193 = .ok (.ifCond .eq 16, 3) := by decide +kernel
theorem dX2_readRow_196 : decode cX2_readRow 196 = .ok (.aload_n 0, 1) := by decide +kernel
theorem dX2_readRow_197 : decode cX2_readRow 197 = .ok (.iload_n 1, 1) := by decide +kernel
theorem dX2_readRow_198 : decode cX2_readRow 198 = .ok (.iconst 3, 1) := by decide +kernel
theorem dX2_readRow_199 : decode cX2_readRow 199 = .ok (.iadd, 1) := by decide +kernel
theorem dX2_readRow_200 : decode cX2_readRow 200 = .ok (.invokevirtual 38, 3) := by decide +kernel
theorem dX2_readRow_203 : decode cX2_readRow 203 = .ok (.bipush 48, 2) := by decide +kernel
theorem dX2_readRow_205 : decode cX2_readRow 205 = .ok (.isub, 1) := by decide +kernel
theorem dX2_readRow_206 : decode cX2_readRow 206 = .ok (.goto 4, 3) := by decide +kernel
theorem dX2_readRow_209 : decode cX2_readRow 209 = .ok (.iconst (-1), 1) := by decide +kernel
theorem dX2_readRow_210 : decode cX2_readRow 210 = .ok (.iastore, 1) := by decide +kernel
theorem dX2_readRow_211 : decode cX2_readRow 211 = .ok (.aload_n 0, 1) := by decide +kernel
theorem dX2_readRow_212 : decode cX2_readRow 212 = .ok (.getfield 24, 3) := by decide +kernel
theorem dX2_readRow_215 : decode cX2_readRow 215 = .ok (.iload_n 2, 1) := by decide +kernel
theorem dX2_readRow_216 : decode cX2_readRow 216 = .ok (.iload 4, 2) := by decide +kernel
theorem dX2_readRow_218 : decode cX2_readRow 218 = .ok (.ifCond .eq 7, 3) := by decide +kernel
theorem dX2_readRow_221 : decode cX2_readRow 221 = .ok (.iconst 1, 1) := by decide +kernel
theorem dX2_readRow_222 : decode cX2_readRow 222 = .ok (.goto 4, 3) := by decide +kernel
theorem dX2_readRow_225 : decode cX2_readRow 225 = .ok (.iconst 0, 1) := by decide +kernel
theorem dX2_readRow_226 : decode cX2_readRow 226 = .ok (.iastore, 1) := by decide +kernel
theorem dX2_readRow_227 : decode cX2_readRow 227 = .ok (.aload_n 0, 1) := by decide +kernel
theorem dX2_readRow_228 : decode cX2_readRow 228 = .ok (.getfield 27, 3) := by decide +kernel
theorem dX2_readRow_231 : decode cX2_readRow 231 = .ok (.iload_n 2, 1) := by decide +kernel
theorem dX2_readRow_232 : decode cX2_readRow 232 = .ok (.aload_n 0, 1) := by decide +kernel
theorem dX2_readRow_233 : decode cX2_readRow 233 = .ok (.getfield 9, 3) := by decide +kernel
theorem dX2_readRow_236 : decode cX2_readRow 236 = .ok (.iload_n 2, 1) := by decide +kernel
theorem dX2_readRow_237 : decode cX2_readRow 237 = .ok (.iaload, 1) := by decide +kernel
theorem dX2_readRow_238 : decode cX2_readRow 238 = .ok (.aload_n 0, 1) := by decide +kernel
theorem dX2_readRow_239 : decode cX2_readRow 239 = .ok (.getfield 15, 3) := by decide +kernel
theorem dX2_readRow_242 : decode cX2_readRow 242 = .ok (.iload_n 2, 1) := by decide +kernel
theorem dX2_readRow_243 : decode cX2_readRow 243 = .ok (.iaload, 1) := by decide +kernel
theorem dX2_readRow_244 : decode cX2_readRow 244 = .ok (.invokestatic 42, 3) := by decide +kernel
theorem dX2_readRow_247 : decode cX2_readRow 247 = .ok (.iastore, 1) := by decide +kernel
theorem dX2_readRow_248 : decode cX2_readRow 248 = .ok (.iload_n 1, 1) := by decide +kernel
theorem dX2_readRow_249 : decode cX2_readRow 249 = .ok (.iconst 5, 1) := by decide +kernel
theorem dX2_readRow_250 : decode cX2_readRow 250 = .ok (.iadd, 1) := by decide +kernel
theorem dX2_readRow_251 : decode cX2_readRow 251 = .ok (.ireturn, 1) := by decide +kernel
theorem dX2_bitsOfHours_0 : decode cX2_bitsOfHours 0 = .ok (.iconst 0, 1) := by decide +kernel
theorem dX2_bitsOfHours_1 : decode cX2_bitsOfHours 1 = .ok (.istore_n 2, 1) := by decide +kernel
theorem dX2_bitsOfHours_2 : decode cX2_bitsOfHours 2 = .ok (.iconst 0, 1) := by decide +kernel
theorem dX2_bitsOfHours_3 : decode cX2_bitsOfHours 3 = .ok (.istore_n 3, 1) := by decide +kernel
theorem dX2_bitsOfHours_4 : decode cX2_bitsOfHours 4 = .ok (.iload_n 3, 1) := by decide +kernel
theorem dX2_bitsOfHours_5 : decode cX2_bitsOfHours 5 = .ok (.iload_n 1, 1) := by decide +kernel
theorem dX2_bitsOfHours_6 : decode cX2_bitsOfHours 6 = .ok (.if_icmp .ge 26, 3) := by decide +kernel
theorem dX2_bitsOfHours_9 : decode cX2_bitsOfHours 9 = .ok (.iload_n 3, 1) := by decide +kernel
theorem dX2_bitsOfHours_10 : decode cX2_bitsOfHours 10 = .ok (.bipush 24, 2) := by decide +kernel
theorem dX2_bitsOfHours_12 : decode cX2_bitsOfHours 12 = .ok (.if_icmp .ge 20, 3) := by decide +kernel
theorem dX2_bitsOfHours_15 : decode cX2_bitsOfHours 15 = .ok (.iload_n 2, 1) := by decide +kernel
theorem dX2_bitsOfHours_16 : decode cX2_bitsOfHours 16 = .ok (.iconst 1, 1) := by decide +kernel
theorem dX2_bitsOfHours_17 : decode cX2_bitsOfHours 17 = .ok (.iload_n 0, 1) := by decide +kernel
theorem dX2_bitsOfHours_18 : decode cX2_bitsOfHours 18 = .ok (.iload_n 3, 1) := by decide +kernel
theorem dX2_bitsOfHours_19 : decode cX2_bitsOfHours 19 = .ok (.iadd, 1) := by decide +kernel
theorem dX2_bitsOfHours_20 : decode cX2_bitsOfHours 20 = .ok (.bipush 24, 2) := by decide +kernel
theorem dX2_bitsOfHours_22 : decode cX2_bitsOfHours 22 = .ok (.irem, 1) := by decide +kernel
theorem dX2_bitsOfHours_23 : decode cX2_bitsOfHours 23 = .ok (.ishl, 1) := by decide +kernel
theorem dX2_bitsOfHours_24 : decode cX2_bitsOfHours 24 = .ok (.ior, 1) := by decide +kernel
theorem dX2_bitsOfHours_25 : decode cX2_bitsOfHours 25 = .ok (.istore_n 2, 1) := by decide +kernel
theorem dX2_bitsOfHours_26 : decode cX2_bitsOfHours 26 = .ok (.iinc 3 1, 3) := by decide +kernel
theorem dX2_bitsOfHours_29 : decode cX2_bitsOfHours 29 = .ok (.goto (-25), 3) := by decide +kernel
theorem dX2_bitsOfHours_32 : decode cX2_bitsOfHours 32 = .ok (.iload_n 2, 1) := by decide +kernel
theorem dX2_bitsOfHours_33 : decode cX2_bitsOfHours 33 = .ok (.ireturn, 1) := by decide +kernel
theorem dX3_init_0 : decode cX3_init 0 = .ok (.aload_n 0, 1) := by decide +kernel
theorem dX3_init_1 : decode cX3_init 1 = .ok (.bipush 23, 2) := by decide +kernel
theorem dX3_init_3 : decode cX3_init 3 = .ok (.bipush 6, 2) := by decide +kernel
theorem dX3_init_5 : decode cX3_init 5 = .ok (.invokespecial 3, 3) := by decide +kernel
theorem dX3_init_8 : decode cX3_init 8 = .ok (.aload_n 0, 1) := by decide +kernel
theorem dX3_init_9 : decode cX3_init 9 = .ok (.bipush 6, 2) := by decide +kernel
theorem dX3_init_11 : decode cX3_init 11 = .ok (.newarray .int, 2) := by decide +kernel
theorem dX3_init_13 : decode cX3_init 13 = .ok (.putfield 9, 3) := by decide +kernel
theorem dX3_init_16 : decode cX3_init 16 = .ok (.aload_n 0, 1) := by decide +kernel
theorem dX3_init_17 : decode cX3_init 17 = .ok (.bipush 6, 2) := by decide +kernel
theorem dX3_init_19 : decode cX3_init 19 = .ok (.newarray .int, 2) := by decide +kernel
theorem dX3_init_21 : decode cX3_init 21 = .ok (.putfield 15, 3) := by decide +kernel
theorem dX3_init_24 : decode cX3_init 24 = .ok (.aload_n 0, 1) := by decide +kernel
theorem dX3_init_25 : decode cX3_init 25 = .ok (.bipush 6, 2) := by decide +kernel
theorem dX3_init_27 : decode cX3_init 27 = .ok (.newarray .int, 2) := by decide +kernel
theorem dX3_init_29 : decode cX3_init 29 = .ok (.putfield 18, 3) := by decide +kernel
theorem dX3_init_32 : decode cX3_init 32 = .ok (.aload_n 0, 1) := by decide +kernel
theorem dX3_init_33 : decode cX3_init 33 = .ok (.bipush 6, 2) := by decide +kernel
theorem dX3_init_35 : decode cX3_init 35 = .ok (.newarray .int, 2) := by decide +kernel
theorem dX3_init_37 : decode cX3_init 37 = .ok (.putfield 21, 3) := by decide +kernel
theorem dX3_init_40 : decode cX3_init 40 = .ok (.return_, 1) := by decide +kernel
theorem dX3_readRow_0 : decode cX3_readRow 0 = .ok (.iload_n 2, 1) := by decide +kernel
theorem dX3_readRow_1 : decode cX3_readRow 1 = .ok (.bipush 6, 2) := by decide +kernel
theorem dX3_readRow_3 : decode cX3_readRow 3 = .ok (.invokestatic 24, 3) := by decide +kernel
theorem dX3_readRow_6 : decode cX3_readRow 6 = .ok (.ifCond .eq 15, 3) := by decide +kernel
theorem dX3_readRow_9 : decode cX3_readRow 9 = .ok (.aload_n 0, 1) := by decide +kernel
theorem dX3_readRow_10 : decode cX3_readRow 10 = .ok (.iload_n 1, 1) := by decide +kernel
theorem dX3_readRow_11 : decode cX3_readRow 11 = .ok (.bipush 49, 2) := by decide +kernel
theorem dX3_readRow_13 : decode cX3_readRow 13 = .ok (.bipush 56, 2) := by decide +kernel
theorem dX3_readRow_15 : decode cX3_readRow 15 = .ok (.invokevirtual 28, 3) := by decide +kernel
theorem dX3_readRow_18 : decode cX3_readRow 18 = .ok (.ifCond .ne 7, 3) := by decide +kernel
theorem dX3_readRow_21 : decode cX3_readRow 21 = .ok (.iload_n 1, 1) := by decide +kernel
theorem dX3_readRow_22 : decode cX3_readRow 22 = .ok (.iconst (-1), 1) := by decide +kernel
theorem dX3_readRow_23 : decode cX3_readRow 23 = .ok (.ixor, 1) := by decide +kernel
theorem dX3_readRow_24 : decode cX3_readRow 24 = .ok (.ireturn, 1) := by decide +kernel
theorem dX3_readRow_25 : decode cX3_readRow 25 = .ok (.aload_n 0, 1) := by decide +kernel
theorem dX3_readRow_26 : decode cX3_readRow 26 = .ok (.iload_n 1, 1) := by decide +kernel
theorem dX3_readRow_27 : decode cX3_readRow 27 = .ok (.iconst 1, 1) := by decide +kernel
theorem dX3_readRow_28 : decode cX3_readRow 28 = .ok (.iadd, 1) := by decide +kernel
theorem dX3_readRow_29 : decode cX3_readRow 29 = .ok (.bipush 97, 2) := by decide +kernel
theorem dX3_readRow_31 : decode cX3_readRow 31 = .ok (.bipush 120, 2) := by decide +kernel
theorem dX3_readRow_33 : decode cX3_readRow 33 = .ok (.invokevirtual 28, 3) := by decide +kernel
theorem dX3_readRow_36 : decode cX3_readRow 36 = .ok (.ifCond .ne 9, 3) := by decide +kernel
theorem dX3_readRow_39 : decode cX3_readRow 39 = .ok (.iload_n 1, 1) := by decide +kernel
theorem dX3_readRow_40 : decode cX3_readRow 40 = .ok (.iconst 1, 1) := by decide +kernel
theorem dX3_readRow_41 : decode cX3_readRow 41 = .ok (.iadd, 1) := by decide +kernel
theorem dX3_readRow_42 : decode cX3_readRow 42 = .ok (.iconst (-1), 1) := by decide +kernel
theorem dX3_readRow_43 : decode cX3_readRow 43 = .ok (.ixor, 1) := by decide +kernel
theorem dX3_readRow_44 : decode cX3_readRow 44 = .ok (.ireturn, 1) := by decide +kernel
theorem dX3_readRow_45 : decode cX3_readRow 45 = .ok (.aload_n 0, 1) := by decide +kernel
theorem dX3_readRow_46 : decode cX3_readRow 46 = .ok (.iload_n 1, 1) := by decide +kernel
theorem dX3_readRow_47 : decode cX3_readRow 47 = .ok (.iconst 2, 1) := by decide +kernel
theorem dX3_readRow_48 : decode cX3_readRow 48 = .ok (.iadd, 1) := by decide +kernel
theorem dX3_readRow_49 : decode cX3_readRow 49 = .ok (.bipush 97, 2) := by decide +kernel
theorem dX3_readRow_51 : decode cX3_readRow 51 = .ok (.bipush 120, 2) := by decide +kernel
theorem dX3_readRow_53 : decode cX3_readRow 53 = .ok (.invokevirtual 28, 3) := by decide +kernel
theorem dX3_readRow_56 : decode cX3_readRow 56 = .ok (.ifCond .ne 9, 3) := by decide +kernel
theorem dX3_readRow_59 : decode cX3_readRow 59 = .ok (.iload_n 1, 1) := by decide +kernel
theorem dX3_readRow_60 : decode cX3_readRow 60 = .ok (.iconst 2, 1) := by decide +kernel
theorem dX3_readRow_61 : decode cX3_readRow 61 = .ok (.iadd, 1) := by decide +kernel
theorem dX3_readRow_62 : decode cX3_readRow 62 = .ok (.iconst (-1), 1) := by decide +kernel
theorem dX3_readRow_63 : decode cX3_readRow 63 = .ok (.ixor, 1) := by decide +kernel
theorem dX3_readRow_64 : decode cX3_readRow 64 = .ok (.ireturn, 1) := by decide +kernel
theorem dX3_readRow_65 : decode cX3_readRow 65 = .ok (.aload_n 0, 1) := by decide +kernel
theorem dX3_readRow_66 : decode cX3_readRow 66 = .ok (.getfield 9, 3) := by decide +kernel
theorem dX3_readRow_69 : decode cX3_readRow 69 = .ok (.iload_n 2, 1) := by decide +kernel
theorem dX3_readRow_70 : decode cX3_readRow 70 = .ok (.aload_n 0, 1) := by decide +kernel
theorem dX3_readRow_71 : decode cX3_readRow 71 = .ok (.iload_n 1, 1) := by decide +kernel
theorem dX3_readRow_72 : decode cX3_readRow 72 = .ok (.invokevirtual 32, 3) := by decide +kernel
theorem dX3_readRow_75 : decode cX3_readRow 75 = .ok (.bipush 48, 2) := by decide +kernel
theorem dX3_readRow_77 : decode cX3_readRow 77 = .ok (.isub, 1) := by decide +kernel
theorem dX3_readRow_78 : decode cX3_readRow 78 = .ok (.iastore, 1) := by decide +kernel
theorem dX3_readRow_79 : decode cX3_readRow 79 = .ok (.aload_n 0, 1) := by decide +kernel
theorem dX3_readRow_80 : decode cX3_readRow 80 = .ok (.getfield 15, 3) := by decide +kernel
theorem dX3_readRow_83 : decode cX3_readRow 83 = .ok (.iload_n 2, 1) := by decide +kernel
theorem dX3_readRow_84 : decode cX3_readRow 84 = .ok (.aload_n 0, 1) := by decide +kernel
theorem dX3_readRow_85 : decode cX3_readRow 85 = .ok (.iload_n 1, 1) := by decide +kernel
theorem dX3_readRow_86 : decode cX3_readRow 86 = .ok (.iconst 1, 1) := by decide +kernel
theorem dX3_readRow_87 : decode cX3_readRow 87 = .ok (.iadd, 1) := by decide +kernel
theorem dX3_readRow_88 : decode cX3_readRow 88 = .ok (.invokevirtual 32, 3) := by decide +kernel
theorem dX3_readRow_91 : decode cX3_readRow 91 = .ok (.bipush 97, 2) := by decide +kernel
theorem dX3_readRow_93 : decode cX3_readRow 93 = .ok (.isub, 1) := by decide +kernel
theorem dX3_readRow_94 : decode cX3_readRow 94 = .ok (.iastore, 1) := by decide +kernel
theorem dX3_readRow_95 : decode cX3_readRow 95 = .ok (.aload_n 0, 1) := by decide +kernel
theorem dX3_readRow_96 : decode cX3_readRow 96 = .ok (.getfield 18, 3) := by decide +kernel
theorem dX3_readRow_99 : decode cX3_readRow 99 = .ok (.iload_n 2, 1) := by decide +kernel
theorem dX3_readRow_100 : decode cX3_readRow 100 = .ok (.aload_n 0, 1) := by decide +kernel
theorem dX3_readRow_101 : decode cX3_readRow 101 = .ok (.iload_n 1, 1) := by decide +kernel
theorem dX3_readRow_102 : decode cX3_readRow 102 = .ok (.iconst 2, 1) := by decide +kernel
theorem dX3_readRow_103 : decode cX3_readRow 103 = .ok (.iadd, 1) := by decide +kernel
theorem dX3_readRow_104 : decode cX3_readRow 104 = .ok (.invokevirtual 32, 3) := by decide +kernel
theorem dX3_readRow_107 : decode cX3_readRow 107 = .ok (.bipush 97, 2) := by decide +kernel
theorem dX3_readRow_109 : decode cX3_readRow 109 = .ok (.isub, 1) := by decide +kernel
theorem dX3_readRow_110 : decode cX3_readRow 110 = .ok (.iastore, 1) := by decide +kernel
theorem dX3_readRow_111 : decode cX3_readRow 111 = .ok (.aload_n 0, 1) := by decide +kernel
theorem dX3_readRow_112 : decode cX3_readRow 112 = .ok (.getfield 18, 3) := by decide +kernel
theorem dX3_readRow_115 : decode cX3_readRow 115 = .ok (.iload_n 2, 1) := by decide +kernel
theorem dX3_readRow_116 : decode cX3_readRow 116 = .ok (.iaload, 1) := by decide +kernel
theorem dX3_readRow_117 : decode cX3_readRow 117 = .ok (.aload_n 0, 1) := by decide +kernel
theorem dX3_readRow_118 : decode cX3_readRow 118 = .ok (.getfield 15, 3) := by decide +kernel
theorem dX3_readRow_121 : decode cX3_readRow 121 = .ok (.iload_n 2, 1) := by decide +kernel
theorem dX3_readRow_122 : decode cX3_readRow 122 = .ok (.iaload, 1) := by decide +kernel
theorem dX3_readRow_123 : decode cX3_readRow 123 = .ok (.isub, 1) := by decide +kernel
theorem dX3_readRow_124 : decode cX3_readRow 124 = .ok (.bipush 24, 2) := by decide +kernel
theorem dX3_readRow_126 : decode cX3_readRow 126 = .ok (.iadd, 1) := by decide +kernel
theorem dX3_readRow_127 : decode cX3_readRow 127 = .ok (.bipush 24, 2) := by decide +kernel
theorem dX3_readRow_129 : decode cX3_readRow 129 = .ok (.irem, 1) := by decide +kernel
theorem dX3_readRow_130 : decode cX3_readRow 130 = .ok (.istore_n 3, 1) := by decide +kernel
theorem dX3_readRow_131 : decode cX3_readRow 131 = .ok (.aload_n 0, 1) := by decide +kernel
theorem dX3_readRow_132 : decode cX3_readRow 132 = .ok (.getfield 21, 3) := by decide +kernel
theorem dX3_readRow_135 : decode cX3_readRow 135 = .ok (.iload_n 2, 1) := by decide +kernel
theorem dX3_readRow_136 : decode cX3_readRow 136 = .ok (.aload_n 0, 1) := by decide +kernel
theorem dX3_readRow_137 : decode cX3_readRow 137 = .ok (.getfield 15, 3) := by decide +kernel
theorem dX3_readRow_140 : decode cX3_readRow 140 = .ok (.iload_n 2, 1) := by decide +kernel
theorem dX3_readRow_141 : decode cX3_readRow 141 = .ok (.iaload, 1) := by decide +kernel
theorem dX3_readRow_142 : decode cX3_readRow 142 = .ok (.iload_n 3, 1) := by decide +kernel
theorem dX3_readRow_143 : decode cX3_readRow 143 = .ok (.invokestatic 36, 3) := by decide +kernel
theorem dX3_readRow_146 : decode cX3_readRow 146 = .ok (.iastore, 1) := by decide +kernel
theorem dX3_readRow_147 : decode cX3_readRow 147 = .ok (.iload_n 1, 1) := by decide +kernel
theorem dX3_readRow_148 : decode cX3_readRow 148 = .ok (.iconst 3, 1) := by decide +kernel
theorem dX3_readRow_149 : decode cX3_readRow 149 = .ok (.iadd, 1) := by decide +kernel
theorem dX3_readRow_150 : decode cX3_readRow 150 = .ok (.ireturn, 1) := by decide +kernel
theorem dX4_init_0 : decode cX4_init 0 = .ok (.aload_n 0, 1) := by decide +kernel
theorem dX4_init_1 : decode cX4_init 1 = .ok (.invokespecial 3, 3) := by decide +kernel
theorem dX4_init_4 : decode cX4_init 4 = .ok (.aload_n 0, 1) := by decide +kernel
theorem dX4_init_5 : decode cX4_init 5 = .ok (.new 9, 3) := by decide +kernel
theorem dX4_init_8 : decode cX4_init 8 = .ok (.dup, 1) := by decide +kernel
theorem dX4_init_9 : decode cX4_init 9 = .ok (.invokespecial 11, 3) := by decide +kernel
theorem dX4_init_12 : decode cX4_init 12 = .ok (.putfield 12, 3) := by decide +kernel
theorem dX4_init_15 : decode cX4_init 15 = .ok (.aload_n 0, 1) := by decide +kernel
theorem dX4_init_16 : decode cX4_init 16 = .ok (.new 18, 3) := by decide +kernel
theorem dX4_init_19 : decode cX4_init 19 = .ok (.dup, 1) := by decide +kernel
theorem dX4_init_20 : decode cX4_init 20 = .ok (.invokespecial 20, 3) := by decide +kernel
theorem dX4_init_23 : decode cX4_init 23 = .ok (.putfield 21, 3) := by decide +kernel
theorem dX4_init_26 : decode cX4_init 26 = .ok (.return_, 1) := by decide +kernel
theorem dX4_awayBitsOf_0 : decode cX4_awayBitsOf 0 = .ok (.iload_n 1, 1) := by decide +kernel
theorem dX4_awayBitsOf_1 : decode cX4_awayBitsOf 1 = .ok (.ifCond .lt 32, 3) := by decide +kernel
theorem dX4_awayBitsOf_4 : decode cX4_awayBitsOf 4 = .ok (.iload_n 1, 1) := by decide +kernel
theorem dX4_awayBitsOf_5 : decode cX4_awayBitsOf 5 = .ok (.aload_n 0, 1) := by decide +kernel
theorem dX4_awayBitsOf_6 : decode cX4_awayBitsOf 6 = .ok (.getfield 21, 3) := by decide +kernel
theorem dX4_awayBitsOf_9 : decode cX4_awayBitsOf 9 = .ok (.getfield 25, 3) := by decide +kernel
theorem dX4_awayBitsOf_12 : decode cX4_awayBitsOf 12 = .ok (.if_icmp .ge 21, 3) := by decide +kernel
theorem dX4_awayBitsOf_15 : decode cX4_awayBitsOf 15 = .ok (.iload_n 1, 1) := by decide +kernel
theorem dX4_awayBitsOf_16 : decode cX4_awayBitsOf 16 = .ok (.bipush 6, 2) := by decide +kernel
theorem dX4_awayBitsOf_18 : decode cX4_awayBitsOf 18 = .ok (.if_icmp .ge 15, 3) := by decide +kernel
theorem dX4_awayBitsOf_21 : decode cX4_awayBitsOf 21 = .ok (.aload_n 0, 1) := by decide +kernel
theorem dX4_awayBitsOf_22 : decode cX4_awayBitsOf 22 = .ok (.getfield 21, 3) := by decide +kernel
theorem dX4_awayBitsOf_25 : decode cX4_awayBitsOf 25 = .ok (.getfield 29, 3) := by decide +kernel
theorem dX4_awayBitsOf_28 : decode cX4_awayBitsOf 28 = .ok (.iload_n 1, 1) := by decide +kernel
theorem dX4_awayBitsOf_29 : decode cX4_awayBitsOf 29 = .ok (.iaload, 1) := by decide +kernel
theorem dX4_awayBitsOf_30 : decode cX4_awayBitsOf 30 = .ok (.goto 4, 3) := by decide +kernel
theorem dX4_awayBitsOf_33 : decode cX4_awayBitsOf 33 = .ok (.iconst 0, 1) := by decide +kernel
theorem dX4_awayBitsOf_34 : decode cX4_awayBitsOf 34 = .ok (.ireturn, 1) := by decide +kernel
theorem dX4_roomOf_0 : decode cX4_roomOf 0 = .ok (.iload_n 1, 1) := by decide +kernel
theorem dX4_roomOf_1 : decode cX4_roomOf 1 = .ok (.ifCond .lt 32, 3) := by decide +kernel
theorem dX4_roomOf_4 : decode cX4_roomOf 4 = .ok (.iload_n 1, 1) := by decide +kernel
theorem dX4_roomOf_5 : decode cX4_roomOf 5 = .ok (.aload_n 0, 1) := by decide +kernel
theorem dX4_roomOf_6 : decode cX4_roomOf 6 = .ok (.getfield 21, 3) := by decide +kernel
theorem dX4_roomOf_9 : decode cX4_roomOf 9 = .ok (.getfield 25, 3) := by decide +kernel
theorem dX4_roomOf_12 : decode cX4_roomOf 12 = .ok (.if_icmp .ge 21, 3) := by decide +kernel
theorem dX4_roomOf_15 : decode cX4_roomOf 15 = .ok (.iload_n 1, 1) := by decide +kernel
theorem dX4_roomOf_16 : decode cX4_roomOf 16 = .ok (.bipush 6, 2) := by decide +kernel
theorem dX4_roomOf_18 : decode cX4_roomOf 18 = .ok (.if_icmp .ge 15, 3) := by decide +kernel
theorem dX4_roomOf_21 : decode cX4_roomOf 21 = .ok (.aload_n 0, 1) := by decide +kernel
theorem dX4_roomOf_22 : decode cX4_roomOf 22 = .ok (.getfield 21, 3) := by decide +kernel
theorem dX4_roomOf_25 : decode cX4_roomOf 25 = .ok (.getfield 33, 3) := by decide +kernel
theorem dX4_roomOf_28 : decode cX4_roomOf 28 = .ok (.iload_n 1, 1) := by decide +kernel
theorem dX4_roomOf_29 : decode cX4_roomOf 29 = .ok (.iaload, 1) := by decide +kernel
theorem dX4_roomOf_30 : decode cX4_roomOf 30 = .ok (.goto 4, 3) := by decide +kernel
theorem dX4_roomOf_33 : decode cX4_roomOf 33 = .ok (.iconst 0, 1) := by decide +kernel
theorem dX4_roomOf_34 : decode cX4_roomOf 34 = .ok (.ireturn, 1) := by decide +kernel
theorem dX4_cannotBits_0 : decode cX4_cannotBits 0 = .ok (.aload_n 0, 1) := by decide +kernel
theorem dX4_cannotBits_1 : decode cX4_cannotBits 1 = .ok (.iload_n 1, 1) := by decide +kernel
theorem dX4_cannotBits_2 : decode cX4_cannotBits 2 = .ok (.invokevirtual 36, 3) := by decide +kernel
theorem dX4_cannotBits_5 : decode cX4_cannotBits 5 = .ok (.istore_n 3, 1) := by decide +kernel
theorem dX4_cannotBits_6 : decode cX4_cannotBits 6 = .ok (.iconst 0, 1) := by decide +kernel
theorem dX4_cannotBits_7 : decode cX4_cannotBits 7 = .ok (.istore 4, 2) := by decide +kernel
theorem dX4_cannotBits_9 : decode cX4_cannotBits 9 = .ok (.iconst 0, 1) := by decide +kernel
theorem dX4_cannotBits_10 : decode cX4_cannotBits 10 = .ok (.istore 5, 2) := by decide +kernel
theorem dX4_cannotBits_12 : decode cX4_cannotBits 12 = .ok (.iload 5, 2) := by decide +kernel
theorem dX4_cannotBits_14 : decode cX4_cannotBits 14 = .ok (.aload_n 0, 1) := by decide +kernel
theorem dX4_cannotBits_15 : decode cX4_cannotBits 15 = .ok (.getfield 12, 3) := by decide +kernel
theorem dX4_cannotBits_18 : decode cX4_cannotBits 18 = .ok (.getfield 40, 3) := by decide +kernel
theorem dX4_cannotBits_21 : decode cX4_cannotBits 21 = .ok (.if_icmp .ge 100, 3) := by decide +kernel
theorem dX4_cannotBits_24 : decode cX4_cannotBits 24 = .ok (.iload 5, 2) := by decide +kernel
theorem dX4_cannotBits_26 : decode cX4_cannotBits 26 = .ok (.bipush 8, 2) := by decide +kernel
theorem dX4_cannotBits_28 : decode cX4_cannotBits 28 = .ok (.if_icmp .ge 93, 3) := by decide +kernel
theorem dX4_cannotBits_31 : decode cX4_cannotBits 31 = .ok (.aload_n 0, 1) := by decide +kernel
theorem dX4_cannotBits_32 : decode cX4_cannotBits 32 = .ok (.getfield 12, 3) := by decide +kernel
theorem dX4_cannotBits_35 : decode cX4_cannotBits 35 = .ok (.getfield 41, 3) := by decide +kernel
theorem dX4_cannotBits_38 : decode cX4_cannotBits 38 = .ok (.iload 5, 2) := by decide +kernel
theorem dX4_cannotBits_40 : decode cX4_cannotBits 40 = .ok (.iaload, 1) := by decide +kernel
theorem dX4_cannotBits_41 : decode cX4_cannotBits 41 = .ok (.istore 6, 2) := by decide +kernel
theorem dX4_cannotBits_43 : decode cX4_cannotBits 43 = .ok (.iload 6, 2) := by decide +kernel
theorem dX4_cannotBits_45 : decode cX4_cannotBits 45 = .ok (.iconst (-1), 1) := by decide +kernel
theorem dX4_cannotBits_46 : decode cX4_cannotBits 46 = .ok (.if_icmp .eq 16, 3) := by decide +kernel
theorem dX4_cannotBits_49 : decode cX4_cannotBits 49 = .ok (.iload_n 2, 1) := by decide +kernel
theorem dX4_cannotBits_50 : decode cX4_cannotBits 50 = .ok (.iload 6, 2) := by decide +kernel
theorem dX4_cannotBits_52 : decode cX4_cannotBits 52 = .ok (.invokestatic 44, 3) := by decide +kernel
theorem dX4_cannotBits_55 : decode cX4_cannotBits 55 = .ok (.ifCond .ne 7, 3) := by decide +kernel
theorem dX4_cannotBits_58 : decode cX4_cannotBits 58 = .ok (.iconst 1, 1) := by decide +kernel
theorem dX4_cannotBits_59 : decode cX4_cannotBits 59 = .ok (.goto 4, 3) := by decide +kernel
theorem dX4_cannotBits_62 : decode cX4_cannotBits 62 = .ok (.iconst 0, 1) := by decide +kernel
theorem dX4_cannotBits_63 : decode cX4_cannotBits 63 = .ok (.istore 7, 2) := by decide +kernel
theorem dX4_cannotBits_65 : decode cX4_cannotBits 65 = .ok (.aload_n 0, 1) := by decide +kernel
theorem dX4_cannotBits_66 : decode cX4_cannotBits 66 = .ok (.getfield 12, 3) := by decide +kernel
theorem dX4_cannotBits_69 : decode cX4_cannotBits 69 = .ok (.getfield 48, 3) := by decide +kernel
theorem dX4_cannotBits_72 : decode cX4_cannotBits 72 = .ok (.iload 5, 2) := by decide +kernel
theorem dX4_cannotBits_74 : decode cX4_cannotBits 74 = .ok (.iaload, 1) := by decide +kernel
theorem dX4_cannotBits_75 : decode cX4_cannotBits 75 = .ok (.iload_n 3, 1) := by decide +kernel
theorem dX4_cannotBits_76 : decode cX4_cannotBits 76 = .ok (.iand, 1) := by decide +kernel
theorem dX4_cannotBits_77 : decode cX4_cannotBits 77 = .ok (.ifCond .eq 7, 3) := by decide +kernel
theorem dX4_cannotBits_80 : decode cX4_cannotBits 80 = .ok (.iconst 1, 1) := by decide +kernel
theorem dX4_cannotBits_81 : decode cX4_cannotBits 81 = .ok (.goto 4, 3) := by decide +kernel
theorem dX4_cannotBits_84 : decode cX4_cannotBits 84 = .ok (.iconst 0, 1) := by decide +kernel
theorem dX4_cannotBits_85 : decode cX4_cannotBits 85 = .ok (.istore 8, 2) := by decide +kernel
theorem dX4_cannotBits_87 : decode cX4_cannotBits 87 = .ok (.iload_n 2, 1) := by decide +kernel
theorem dX4_cannotBits_88 : decode cX4_cannotBits 88 = .ok (.iload 5, 2) := by decide +kernel
theorem dX4_cannotBits_90 : decode cX4_cannotBits 90 = .ok (.invokestatic 44, 3) := by decide +kernel
theorem dX4_cannotBits_93 : decode cX4_cannotBits 93 = .ok (.ifCond .eq 22, 3) := by decide +kernel
theorem dX4_cannotBits_96 : decode cX4_cannotBits 96 = .ok (.iload 7, 2) := by decide +kernel
theorem dX4_cannotBits_98 : decode cX4_cannotBits 98 = .ok (.ifCond .ne 8, 3) := by decide +kernel
theorem dX4_cannotBits_101 : decode cX4_cannotBits 101 = .ok (.iload 8, 2) := by decide +kernel
theorem dX4_cannotBits_103 : decode cX4_cannotBits 103 = .ok (.ifCond .eq 12, 3) := by decide +kernel
theorem dX4_cannotBits_106 : decode cX4_cannotBits 106 = .ok (.iload 4, 2) := by decide +kernel
theorem dX4_cannotBits_108 : decode cX4_cannotBits 108 = .ok (.iconst 1, 1) := by decide +kernel
theorem dX4_cannotBits_109 : decode cX4_cannotBits 109 = .ok (.iload 5, 2) := by decide +kernel
theorem dX4_cannotBits_111 : decode cX4_cannotBits 111 = .ok (.ishl, 1) := by decide +kernel
theorem dX4_cannotBits_112 : decode cX4_cannotBits 112 = .ok (.ior, 1) := by decide +kernel
theorem dX4_cannotBits_113 : decode cX4_cannotBits 113 = .ok (.istore 4, 2) := by decide +kernel
theorem dX4_cannotBits_115 : decode cX4_cannotBits 115 = .ok (.iinc 5 1, 3) := by decide +kernel
theorem dX4_cannotBits_118 : decode cX4_cannotBits 118 = .ok (.goto (-106), 3) := by decide +kernel
theorem dX4_cannotBits_121 : decode cX4_cannotBits 121 = .ok (.iload 4, 2) := by decide +kernel
theorem dX4_cannotBits_123 : decode cX4_cannotBits 123 = .ok (.ireturn, 1) := by decide +kernel
theorem dX4_canLive_0 : decode cX4_canLive 0 = .ok (.iload_n 2, 1) := by decide +kernel
theorem dX4_canLive_1 : decode cX4_canLive 1 = .ok (.invokestatic 51, 3) := by decide +kernel
theorem dX4_canLive_4 : decode cX4_canLive 4 = .ok (.aload_n 0, 1) := by decide +kernel
theorem dX4_canLive_5 : decode cX4_canLive 5 = .ok (.iload_n 1, 1) := by decide +kernel
theorem dX4_canLive_6 : decode cX4_canLive 6 = .ok (.invokevirtual 56, 3) := by decide +kernel
theorem dX4_canLive_9 : decode cX4_canLive 9 = .ok (.if_icmp .gt 24, 3) := by decide +kernel
theorem dX4_canLive_12 : decode cX4_canLive 12 = .ok (.aload_n 0, 1) := by decide +kernel
theorem dX4_canLive_13 : decode cX4_canLive 13 = .ok (.iload_n 1, 1) := by decide +kernel
theorem dX4_canLive_14 : decode cX4_canLive 14 = .ok (.iload_n 2, 1) := by decide +kernel
theorem dX4_canLive_15 : decode cX4_canLive 15 = .ok (.invokevirtual 59, 3) := by decide +kernel
theorem dX4_canLive_18 : decode cX4_canLive 18 = .ok (.ifCond .ne 15, 3) := by decide +kernel
theorem dX4_canLive_21 : decode cX4_canLive 21 = .ok (.aload_n 0, 1) := by decide +kernel
theorem dX4_canLive_22 : decode cX4_canLive 22 = .ok (.iload_n 2, 1) := by decide +kernel
theorem dX4_canLive_23 : decode cX4_canLive 23 = .ok (.invokevirtual 63, 3) := by decide +kernel
theorem dX4_canLive_26 : decode cX4_canLive 26 = .ok (.ifCond .ne 7, 3) := by decide +kernel
theorem dX4_canLive_29 : decode cX4_canLive 29 = .ok (.iconst 1, 1) := by decide +kernel
theorem dX4_canLive_30 : decode cX4_canLive 30 = .ok (.goto 4, 3) := by decide +kernel
theorem dX4_canLive_33 : decode cX4_canLive 33 = .ok (.iconst 0, 1) := by decide +kernel
theorem dX4_canLive_34 : decode cX4_canLive 34 = .ok (.ireturn, 1) := by decide +kernel
theorem dX4_barEachOther_0 : decode cX4_barEachOther 0 = .ok (.iconst 0, 1) := by decide +kernel
theorem dX4_barEachOther_1 : decode cX4_barEachOther 1 = .ok (.istore_n 2, 1) := by decide +kernel
theorem dX4_barEachOther_2 : decode cX4_barEachOther 2 = .ok (.iconst 0, 1) := by decide +kernel
theorem dX4_barEachOther_3 : decode cX4_barEachOther 3 = .ok (.istore_n 3, 1) := by decide +kernel
theorem dX4_barEachOther_4 : decode cX4_barEachOther 4 = .ok (.iload_n 3, 1) := by decide +kernel
theorem dX4_barEachOther_5 : decode cX4_barEachOther 5 = .ok (.aload_n 0, 1) := by decide +kernel
theorem dX4_barEachOther_6 : decode cX4_barEachOther 6 = .ok (.getfield 12, 3) := by decide +kernel
theorem dX4_barEachOther_9 : decode cX4_barEachOther 9 = .ok (.getfield 40, 3) := by decide +kernel
theorem dX4_barEachOther_12 : decode cX4_barEachOther 12 = .ok (.if_icmp .ge 51, 3) := by decide +kernel
theorem dX4_barEachOther_15 : decode cX4_barEachOther 15 = .ok (.iload_n 3, 1) := by decide +kernel
theorem dX4_barEachOther_16 : decode cX4_barEachOther 16 = .ok (.bipush 8, 2) := by decide +kernel
theorem dX4_barEachOther_18 : decode cX4_barEachOther 18 = .ok (.if_icmp .ge 45, 3) := by decide +kernel
theorem dX4_barEachOther_21 : decode cX4_barEachOther 21 = .ok (.iload_n 1, 1) := by decide +kernel
theorem dX4_barEachOther_22 : decode cX4_barEachOther 22 = .ok (.iload_n 3, 1) := by decide +kernel
theorem dX4_barEachOther_23 : decode cX4_barEachOther 23 = .ok (.invokestatic 44, 3) := by decide +kernel
theorem dX4_barEachOther_26 : decode cX4_barEachOther 26 = .ok (.ifCond .eq 31, 3) := by decide +kernel
theorem dX4_barEachOther_29 : decode cX4_barEachOther 29 = .ok (.iload_n 2, 1) := by decide +kernel
theorem dX4_barEachOther_30 : decode cX4_barEachOther 30 = .ok (.aload_n 0, 1) := by decide +kernel
theorem dX4_barEachOther_31 : decode cX4_barEachOther 31 = .ok (.getfield 12, 3) := by decide +kernel
theorem dX4_barEachOther_34 : decode cX4_barEachOther 34 = .ok (.getfield 48, 3) := by decide +kernel
theorem dX4_barEachOther_37 : decode cX4_barEachOther 37 = .ok (.iload_n 3, 1) := by decide +kernel
theorem dX4_barEachOther_38 : decode cX4_barEachOther 38 = .ok (.iaload, 1) := by decide +kernel
theorem dX4_barEachOther_39 : decode cX4_barEachOther 39 = .ok (.iand, 1) := by decide +kernel
theorem dX4_barEachOther_40 : decode cX4_barEachOther 40 = .ok (.ifCond .eq 5, 3) := by decide +kernel
theorem dX4_barEachOther_43 : decode cX4_barEachOther 43 = .ok (.iconst 1, 1) := by decide +kernel
theorem dX4_barEachOther_44 : decode cX4_barEachOther 44 = .ok (.ireturn, 1) := by decide +kernel
theorem dX4_barEachOther_45 : decode cX4_barEachOther 45 = .ok (.iload_n 2, 1) := by decide +kernel
theorem dX4_barEachOther_46 : decode cX4_barEachOther 46 = .ok (.aload_n 0, 1) := by decide +kernel
theorem dX4_barEachOther_47 : decode cX4_barEachOther 47 = .ok (.getfield 12, 3) := by decide +kernel
theorem dX4_barEachOther_50 : decode cX4_barEachOther 50 = .ok (.getfield 48, 3) := by decide +kernel
theorem dX4_barEachOther_53 : decode cX4_barEachOther 53 = .ok (.iload_n 3, 1) := by decide +kernel
theorem dX4_barEachOther_54 : decode cX4_barEachOther 54 = .ok (.iaload, 1) := by decide +kernel
theorem dX4_barEachOther_55 : decode cX4_barEachOther 55 = .ok (.ior, 1) := by decide +kernel
theorem dX4_barEachOther_56 : decode cX4_barEachOther 56 = .ok (.istore_n 2, 1) := by decide +kernel
theorem dX4_barEachOther_57 : decode cX4_barEachOther 57 = .ok (.iinc 3 1, 3) := by decide +kernel
theorem dX4_barEachOther_60 : decode cX4_barEachOther 60 = .ok (.goto (-56), 3) := by decide +kernel
theorem dX4_barEachOther_63 : decode cX4_barEachOther 63 = .ok (.iconst 0, 1) := by decide +kernel
theorem dX4_barEachOther_64 : decode cX4_barEachOther 64 = .ok (.ireturn, 1) := by decide +kernel
theorem dX4_worthOf_0 : decode cX4_worthOf 0 = .ok (.iconst 0, 1) := by decide +kernel
theorem dX4_worthOf_1 : decode cX4_worthOf 1 = .ok (.istore_n 2, 1) := by decide +kernel
theorem dX4_worthOf_2 : decode cX4_worthOf 2 = .ok (.iconst 0, 1) := by decide +kernel
theorem dX4_worthOf_3 : decode cX4_worthOf 3 = .ok (.istore_n 3, 1) := by decide +kernel
theorem dX4_worthOf_4 : decode cX4_worthOf 4 = .ok (.iload_n 3, 1) := by decide +kernel
theorem dX4_worthOf_5 : decode cX4_worthOf 5 = .ok (.aload_n 0, 1) := by decide +kernel
theorem dX4_worthOf_6 : decode cX4_worthOf 6 = .ok (.getfield 12, 3) := by decide +kernel
theorem dX4_worthOf_9 : decode cX4_worthOf 9 = .ok (.getfield 40, 3) := by decide +kernel
theorem dX4_worthOf_12 : decode cX4_worthOf 12 = .ok (.if_icmp .ge 35, 3) := by decide +kernel
theorem dX4_worthOf_15 : decode cX4_worthOf 15 = .ok (.iload_n 3, 1) := by decide +kernel
theorem dX4_worthOf_16 : decode cX4_worthOf 16 = .ok (.bipush 8, 2) := by decide +kernel
theorem dX4_worthOf_18 : decode cX4_worthOf 18 = .ok (.if_icmp .ge 29, 3) := by decide +kernel
theorem dX4_worthOf_21 : decode cX4_worthOf 21 = .ok (.iload_n 1, 1) := by decide +kernel
theorem dX4_worthOf_22 : decode cX4_worthOf 22 = .ok (.iload_n 3, 1) := by decide +kernel
theorem dX4_worthOf_23 : decode cX4_worthOf 23 = .ok (.invokestatic 44, 3) := by decide +kernel
theorem dX4_worthOf_26 : decode cX4_worthOf 26 = .ok (.ifCond .eq 15, 3) := by decide +kernel
theorem dX4_worthOf_29 : decode cX4_worthOf 29 = .ok (.iload_n 2, 1) := by decide +kernel
theorem dX4_worthOf_30 : decode cX4_worthOf 30 = .ok (.aload_n 0, 1) := by decide +kernel
theorem dX4_worthOf_31 : decode cX4_worthOf 31 = .ok (.getfield 12, 3) := by decide +kernel
theorem dX4_worthOf_34 : decode cX4_worthOf 34 = .ok (.getfield 67, 3) := by decide +kernel
theorem dX4_worthOf_37 : decode cX4_worthOf 37 = .ok (.iload_n 3, 1) := by decide +kernel
theorem dX4_worthOf_38 : decode cX4_worthOf 38 = .ok (.iaload, 1) := by decide +kernel
theorem dX4_worthOf_39 : decode cX4_worthOf 39 = .ok (.iadd, 1) := by decide +kernel
theorem dX4_worthOf_40 : decode cX4_worthOf 40 = .ok (.istore_n 2, 1) := by decide +kernel
theorem dX4_worthOf_41 : decode cX4_worthOf 41 = .ok (.iinc 3 1, 3) := by decide +kernel
theorem dX4_worthOf_44 : decode cX4_worthOf 44 = .ok (.goto (-40), 3) := by decide +kernel
theorem dX4_worthOf_47 : decode cX4_worthOf 47 = .ok (.iload_n 2, 1) := by decide +kernel
theorem dX4_worthOf_48 : decode cX4_worthOf 48 = .ok (.ireturn, 1) := by decide +kernel
theorem dX4_viceBits_0 : decode cX4_viceBits 0 = .ok (.iconst 0, 1) := by decide +kernel
theorem dX4_viceBits_1 : decode cX4_viceBits 1 = .ok (.istore_n 2, 1) := by decide +kernel
theorem dX4_viceBits_2 : decode cX4_viceBits 2 = .ok (.iconst 0, 1) := by decide +kernel
theorem dX4_viceBits_3 : decode cX4_viceBits 3 = .ok (.istore_n 3, 1) := by decide +kernel
theorem dX4_viceBits_4 : decode cX4_viceBits 4 = .ok (.iload_n 3, 1) := by decide +kernel
theorem dX4_viceBits_5 : decode cX4_viceBits 5 = .ok (.aload_n 0, 1) := by decide +kernel
theorem dX4_viceBits_6 : decode cX4_viceBits 6 = .ok (.getfield 12, 3) := by decide +kernel
theorem dX4_viceBits_9 : decode cX4_viceBits 9 = .ok (.getfield 40, 3) := by decide +kernel
theorem dX4_viceBits_12 : decode cX4_viceBits 12 = .ok (.if_icmp .ge 42, 3) := by decide +kernel
theorem dX4_viceBits_15 : decode cX4_viceBits 15 = .ok (.iload_n 3, 1) := by decide +kernel
theorem dX4_viceBits_16 : decode cX4_viceBits 16 = .ok (.bipush 8, 2) := by decide +kernel
theorem dX4_viceBits_18 : decode cX4_viceBits 18 = .ok (.if_icmp .ge 36, 3) := by decide +kernel
theorem dX4_viceBits_21 : decode cX4_viceBits 21 = .ok (.iload_n 1, 1) := by decide +kernel
theorem dX4_viceBits_22 : decode cX4_viceBits 22 = .ok (.iload_n 3, 1) := by decide +kernel
theorem dX4_viceBits_23 : decode cX4_viceBits 23 = .ok (.invokestatic 44, 3) := by decide +kernel
theorem dX4_viceBits_26 : decode cX4_viceBits 26 = .ok (.ifCond .eq 22, 3) := by decide +kernel
theorem dX4_viceBits_29 : decode cX4_viceBits 29 = .ok (.aload_n 0, 1) := by decide +kernel
theorem dX4_viceBits_30 : decode cX4_viceBits 30 = .ok (.getfield 12, 3) := by decide +kernel
theorem dX4_viceBits_33 : decode cX4_viceBits 33 = .ok (.getfield 70, 3) := by decide +kernel
theorem dX4_viceBits_36 : decode cX4_viceBits 36 = .ok (.iload_n 3, 1) := by decide +kernel
theorem dX4_viceBits_37 : decode cX4_viceBits 37 = .ok (.iaload, 1) := by decide +kernel
theorem dX4_viceBits_38 : decode cX4_viceBits 38 = .ok (.iconst 1, 1) := by decide +kernel
theorem dX4_viceBits_39 : decode cX4_viceBits 39 = .ok (.if_icmp .ne 9, 3) := by decide +kernel
theorem dX4_viceBits_42 : decode cX4_viceBits 42 = .ok (.iload_n 2, 1) := by decide +kernel
theorem dX4_viceBits_43 : decode cX4_viceBits 43 = .ok (.iconst 1, 1) := by decide +kernel
theorem dX4_viceBits_44 : decode cX4_viceBits 44 = .ok (.iload_n 3, 1) := by decide +kernel
theorem dX4_viceBits_45 : decode cX4_viceBits 45 = .ok (.ishl, 1) := by decide +kernel
theorem dX4_viceBits_46 : decode cX4_viceBits 46 = .ok (.ior, 1) := by decide +kernel
theorem dX4_viceBits_47 : decode cX4_viceBits 47 = .ok (.istore_n 2, 1) := by decide +kernel
theorem dX4_viceBits_48 : decode cX4_viceBits 48 = .ok (.iinc 3 1, 3) := by decide +kernel
theorem dX4_viceBits_51 : decode cX4_viceBits 51 = .ok (.goto (-47), 3) := by decide +kernel
theorem dX4_viceBits_54 : decode cX4_viceBits 54 = .ok (.iload_n 2, 1) := by decide +kernel
theorem dX4_viceBits_55 : decode cX4_viceBits 55 = .ok (.ireturn, 1) := by decide +kernel
theorem dX4_bitsAt_0 : decode cX4_bitsAt 0 = .ok (.iconst 0, 1) := by decide +kernel
theorem dX4_bitsAt_1 : decode cX4_bitsAt 1 = .ok (.istore_n 3, 1) := by decide +kernel
theorem dX4_bitsAt_2 : decode cX4_bitsAt 2 = .ok (.iconst 0, 1) := by decide +kernel
theorem dX4_bitsAt_3 : decode cX4_bitsAt 3 = .ok (.istore 4, 2) := by decide +kernel
theorem dX4_bitsAt_5 : decode cX4_bitsAt 5 = .ok (.iload 4, 2) := by decide +kernel
theorem dX4_bitsAt_7 : decode cX4_bitsAt 7 = .ok (.aload_n 0, 1) := by decide +kernel
theorem dX4_bitsAt_8 : decode cX4_bitsAt 8 = .ok (.getfield 12, 3) := by decide +kernel
theorem dX4_bitsAt_11 : decode cX4_bitsAt 11 = .ok (.getfield 40, 3) := by decide +kernel
theorem dX4_bitsAt_14 : decode cX4_bitsAt 14 = .ok (.if_icmp .ge 49, 3) := by decide +kernel
theorem dX4_bitsAt_17 : decode cX4_bitsAt 17 = .ok (.iload 4, 2) := by decide +kernel
theorem dX4_bitsAt_19 : decode cX4_bitsAt 19 = .ok (.bipush 8, 2) := by decide +kernel
theorem dX4_bitsAt_21 : decode cX4_bitsAt 21 = .ok (.if_icmp .ge 42, 3) := by decide +kernel
theorem dX4_bitsAt_24 : decode cX4_bitsAt 24 = .ok (.iload_n 1, 1) := by decide +kernel
theorem dX4_bitsAt_25 : decode cX4_bitsAt 25 = .ok (.iload 4, 2) := by decide +kernel
theorem dX4_bitsAt_27 : decode cX4_bitsAt 27 = .ok (.invokestatic 44, 3) := by decide +kernel
theorem dX4_bitsAt_30 : decode cX4_bitsAt 30 = .ok (.ifCond .eq 27, 3) := by decide +kernel
theorem dX4_bitsAt_33 : decode cX4_bitsAt 33 = .ok (.aload_n 0, 1) := by decide +kernel
theorem dX4_bitsAt_34 : decode cX4_bitsAt 34 = .ok (.getfield 12, 3) := by decide +kernel
theorem dX4_bitsAt_37 : decode cX4_bitsAt 37 = .ok (.getfield 48, 3) := by decide +kernel
theorem dX4_bitsAt_40 : decode cX4_bitsAt 40 = .ok (.iload 4, 2) := by decide +kernel
theorem dX4_bitsAt_42 : decode cX4_bitsAt 42 = .ok (.iaload, 1) := by decide +kernel
theorem dX4_bitsAt_43 : decode cX4_bitsAt 43 = .ok (.iload_n 2, 1) := by decide +kernel
theorem dX4_bitsAt_44 : decode cX4_bitsAt 44 = .ok (.invokestatic 44, 3) := by decide +kernel
theorem dX4_bitsAt_47 : decode cX4_bitsAt 47 = .ok (.ifCond .eq 10, 3) := by decide +kernel
theorem dX4_bitsAt_50 : decode cX4_bitsAt 50 = .ok (.iload_n 3, 1) := by decide +kernel
theorem dX4_bitsAt_51 : decode cX4_bitsAt 51 = .ok (.iconst 1, 1) := by decide +kernel
theorem dX4_bitsAt_52 : decode cX4_bitsAt 52 = .ok (.iload 4, 2) := by decide +kernel
theorem dX4_bitsAt_54 : decode cX4_bitsAt 54 = .ok (.ishl, 1) := by decide +kernel
theorem dX4_bitsAt_55 : decode cX4_bitsAt 55 = .ok (.ior, 1) := by decide +kernel
theorem dX4_bitsAt_56 : decode cX4_bitsAt 56 = .ok (.istore_n 3, 1) := by decide +kernel
theorem dX4_bitsAt_57 : decode cX4_bitsAt 57 = .ok (.iinc 4 1, 3) := by decide +kernel
theorem dX4_bitsAt_60 : decode cX4_bitsAt 60 = .ok (.goto (-55), 3) := by decide +kernel
theorem dX4_bitsAt_63 : decode cX4_bitsAt 63 = .ok (.iload_n 3, 1) := by decide +kernel
theorem dX4_bitsAt_64 : decode cX4_bitsAt 64 = .ok (.ireturn, 1) := by decide +kernel
theorem dX4_choiceOf_0 : decode cX4_choiceOf 0 = .ok (.iconst (-1), 1) := by decide +kernel
theorem dX4_choiceOf_1 : decode cX4_choiceOf 1 = .ok (.istore_n 3, 1) := by decide +kernel
theorem dX4_choiceOf_2 : decode cX4_choiceOf 2 = .ok (.iconst (-1), 1) := by decide +kernel
theorem dX4_choiceOf_3 : decode cX4_choiceOf 3 = .ok (.istore 4, 2) := by decide +kernel
theorem dX4_choiceOf_5 : decode cX4_choiceOf 5 = .ok (.iconst 0, 1) := by decide +kernel
theorem dX4_choiceOf_6 : decode cX4_choiceOf 6 = .ok (.istore 5, 2) := by decide +kernel
theorem dX4_choiceOf_8 : decode cX4_choiceOf 8 = .ok (.iload 5, 2) := by decide +kernel
theorem dX4_choiceOf_10 : decode cX4_choiceOf 10 = .ok (.aload_n 0, 1) := by decide +kernel
theorem dX4_choiceOf_11 : decode cX4_choiceOf 11 = .ok (.getfield 12, 3) := by decide +kernel
theorem dX4_choiceOf_14 : decode cX4_choiceOf 14 = .ok (.getfield 40, 3) := by decide +kernel
theorem dX4_choiceOf_17 : decode cX4_choiceOf 17 = .ok (.if_icmp .ge 84, 3) := by decide +kernel
theorem dX4_choiceOf_20 : decode cX4_choiceOf 20 = .ok (.iload 5, 2) := by decide +kernel
theorem dX4_choiceOf_22 : decode cX4_choiceOf 22 = .ok (.bipush 8, 2) := by decide +kernel
theorem dX4_choiceOf_24 : decode cX4_choiceOf 24 = .ok (.if_icmp .ge 77, 3) := by decide +kernel
theorem dX4_choiceOf_27 : decode cX4_choiceOf 27 = .ok (.iload_n 1, 1) := by decide +kernel
theorem dX4_choiceOf_28 : decode cX4_choiceOf 28 = .ok (.iload 5, 2) := by decide +kernel
theorem dX4_choiceOf_30 : decode cX4_choiceOf 30 = .ok (.invokestatic 44, 3) := by decide +kernel
theorem dX4_choiceOf_33 : decode cX4_choiceOf 33 = .ok (.ifCond .eq 24, 3) := by decide +kernel
theorem dX4_choiceOf_36 : decode cX4_choiceOf 36 = .ok (.aload_n 0, 1) := by decide +kernel
theorem dX4_choiceOf_37 : decode cX4_choiceOf 37 = .ok (.getfield 12, 3) := by decide +kernel
theorem dX4_choiceOf_40 : decode cX4_choiceOf 40 = .ok (.getfield 48, 3) := by decide +kernel
theorem dX4_choiceOf_43 : decode cX4_choiceOf 43 = .ok (.iload 5, 2) := by decide +kernel
theorem dX4_choiceOf_45 : decode cX4_choiceOf 45 = .ok (.iaload, 1) := by decide +kernel
theorem dX4_choiceOf_46 : decode cX4_choiceOf 46 = .ok (.iload_n 2, 1) := by decide +kernel
theorem dX4_choiceOf_47 : decode cX4_choiceOf 47 = .ok (.invokestatic 44, 3) := by decide +kernel
theorem dX4_choiceOf_50 : decode cX4_choiceOf 50 = .ok (.ifCond .eq 7, 3) := by decide +kernel
theorem dX4_choiceOf_53 : decode cX4_choiceOf 53 = .ok (.iconst 1, 1) := by decide +kernel
theorem dX4_choiceOf_54 : decode cX4_choiceOf 54 = .ok (.goto 4, 3) := by decide +kernel
theorem dX4_choiceOf_57 : decode cX4_choiceOf 57 = .ok (.iconst 0, 1) := by decide +kernel
theorem dX4_choiceOf_58 : decode cX4_choiceOf 58 = .ok (.istore 6, 2) := by decide +kernel
theorem dX4_choiceOf_60 : decode cX4_choiceOf 60 = .ok (.iload 6, 2) := by decide +kernel
theorem dX4_choiceOf_62 : decode cX4_choiceOf 62 = .ok (.ifCond .eq 33, 3) := by decide +kernel
theorem dX4_choiceOf_65 : decode cX4_choiceOf 65 = .ok (.aload_n 0, 1) := by decide +kernel
theorem dX4_choiceOf_66 : decode cX4_choiceOf 66 = .ok (.getfield 12, 3) := by decide +kernel
theorem dX4_choiceOf_69 : decode cX4_choiceOf 69 = .ok (.getfield 67, 3) := by decide +kernel
theorem dX4_choiceOf_72 : decode cX4_choiceOf 72 = .ok (.iload 5, 2) := by decide +kernel
theorem dX4_choiceOf_74 : decode cX4_choiceOf 74 = .ok (.iaload, 1) := by decide +kernel
theorem dX4_choiceOf_75 : decode cX4_choiceOf 75 = .ok (.iload 4, 2) := by decide +kernel
theorem dX4_choiceOf_77 : decode cX4_choiceOf 77 = .ok (.if_icmp .le 18, 3) := by decide +kernel
theorem dX4_choiceOf_80 : decode cX4_choiceOf 80 = .ok (.aload_n 0, 1) := by decide +kernel
theorem dX4_choiceOf_81 : decode cX4_choiceOf 81 = .ok (.getfield 12, 3) := by decide +kernel
theorem dX4_choiceOf_84 : decode cX4_choiceOf 84 = .ok (.getfield 67, 3) := by decide +kernel
theorem dX4_choiceOf_87 : decode cX4_choiceOf 87 = .ok (.iload 5, 2) := by decide +kernel
theorem dX4_choiceOf_89 : decode cX4_choiceOf 89 = .ok (.iaload, 1) := by decide +kernel
theorem dX4_choiceOf_90 : decode cX4_choiceOf 90 = .ok (.istore 4, 2) := by decide +kernel
theorem dX4_choiceOf_92 : decode cX4_choiceOf 92 = .ok (.iload 5, 2) := by decide +kernel
theorem dX4_choiceOf_94 : decode cX4_choiceOf 94 = .ok (.istore_n 3, 1) := by decide +kernel
theorem dX4_choiceOf_95 : decode cX4_choiceOf 95 = .ok (.iinc 5 1, 3) := by decide +kernel
theorem dX4_choiceOf_98 : decode cX4_choiceOf 98 = .ok (.goto (-90), 3) := by decide +kernel
theorem dX4_choiceOf_101 : decode cX4_choiceOf 101 = .ok (.iload_n 3, 1) := by decide +kernel
theorem dX4_choiceOf_102 : decode cX4_choiceOf 102 = .ok (.ireturn, 1) := by decide +kernel
theorem dX5_init_0 : decode cX5_init 0 = .ok (.aload_n 0, 1) := by decide +kernel
theorem dX5_init_1 : decode cX5_init 1 = .ok (.invokespecial 3, 3) := by decide +kernel
theorem dX5_init_4 : decode cX5_init 4 = .ok (.aload_n 0, 1) := by decide +kernel
theorem dX5_init_5 : decode cX5_init 5 = .ok (.bipush 59, 2) := by decide +kernel
theorem dX5_init_7 : decode cX5_init 7 = .ok (.newarray .int, 2) := by decide +kernel
theorem dX5_init_9 : decode cX5_init 9 = .ok (.putfield 9, 3) := by decide +kernel
theorem dX5_init_12 : decode cX5_init 12 = .ok (.aload_n 0, 1) := by decide +kernel
theorem dX5_init_13 : decode cX5_init 13 = .ok (.iconst 0, 1) := by decide +kernel
theorem dX5_init_14 : decode cX5_init 14 = .ok (.putfield 15, 3) := by decide +kernel
theorem dX5_init_17 : decode cX5_init 17 = .ok (.aload_n 0, 1) := by decide +kernel
theorem dX5_init_18 : decode cX5_init 18 = .ok (.iconst 0, 1) := by decide +kernel
theorem dX5_init_19 : decode cX5_init 19 = .ok (.putfield 19, 3) := by decide +kernel
theorem dX5_init_22 : decode cX5_init 22 = .ok (.aload_n 0, 1) := by decide +kernel
theorem dX5_init_23 : decode cX5_init 23 = .ok (.iconst (-1), 1) := by decide +kernel
theorem dX5_init_24 : decode cX5_init 24 = .ok (.putfield 22, 3) := by decide +kernel
theorem dX5_init_27 : decode cX5_init 27 = .ok (.aload_n 0, 1) := by decide +kernel
theorem dX5_init_28 : decode cX5_init 28 = .ok (.iload_n 1, 1) := by decide +kernel
theorem dX5_init_29 : decode cX5_init 29 = .ok (.putfield 25, 3) := by decide +kernel
theorem dX5_init_32 : decode cX5_init 32 = .ok (.aload_n 0, 1) := by decide +kernel
theorem dX5_init_33 : decode cX5_init 33 = .ok (.iload_n 2, 1) := by decide +kernel
theorem dX5_init_34 : decode cX5_init 34 = .ok (.putfield 28, 3) := by decide +kernel
theorem dX5_init_37 : decode cX5_init 37 = .ok (.return_, 1) := by decide +kernel
theorem dX5_hasRow_0 : decode cX5_hasRow 0 = .ok (.iload_n 1, 1) := by decide +kernel
theorem dX5_hasRow_1 : decode cX5_hasRow 1 = .ok (.ifCond .lt 15, 3) := by decide +kernel
theorem dX5_hasRow_4 : decode cX5_hasRow 4 = .ok (.iload_n 1, 1) := by decide +kernel
theorem dX5_hasRow_5 : decode cX5_hasRow 5 = .ok (.aload_n 0, 1) := by decide +kernel
theorem dX5_hasRow_6 : decode cX5_hasRow 6 = .ok (.getfield 19, 3) := by decide +kernel
theorem dX5_hasRow_9 : decode cX5_hasRow 9 = .ok (.if_icmp .ge 7, 3) := by decide +kernel
theorem dX5_hasRow_12 : decode cX5_hasRow 12 = .ok (.iconst 1, 1) := by decide +kernel
theorem dX5_hasRow_13 : decode cX5_hasRow 13 = .ok (.goto 4, 3) := by decide +kernel
theorem dX5_hasRow_16 : decode cX5_hasRow 16 = .ok (.iconst 0, 1) := by decide +kernel
theorem dX5_hasRow_17 : decode cX5_hasRow 17 = .ok (.ireturn, 1) := by decide +kernel
theorem dX5_append_0 : decode cX5_append 0 = .ok (.aload_n 0, 1) := by decide +kernel
theorem dX5_append_1 : decode cX5_append 1 = .ok (.getfield 15, 3) := by decide +kernel
theorem dX5_append_4 : decode cX5_append 4 = .ok (.aload_n 0, 1) := by decide +kernel
theorem dX5_append_5 : decode cX5_append 5 = .ok (.getfield 25, 3) := by decide +kernel
theorem dX5_append_8 : decode cX5_append 8 = .ok (.if_icmp .ge 18, 3) := by decide +kernel
theorem dX5_append_11 : decode cX5_append 11 = .ok (.aload_n 0, 1) := by decide +kernel
theorem dX5_append_12 : decode cX5_append 12 = .ok (.getfield 15, 3) := by decide +kernel
theorem dX5_append_15 : decode cX5_append 15 = .ok (.aload_n 0, 1) := by decide +kernel
theorem dX5_append_16 : decode cX5_append 16 = .ok (.getfield 9, 3) := by decide +kernel
theorem dX5_append_19 : decode cX5_append 19 = .ok (.arraylength, 1) := by decide +kernel
theorem dX5_append_20 : decode cX5_append 20 = .ok (.invokestatic 31, 3) := by decide +kernel
theorem dX5_append_23 : decode cX5_append 23 = .ok (.ifCond .ne 5, 3) := by decide +kernel
theorem dX5_append_26 : decode cX5_append 26 = .ok (.iconst 0, 1) := by decide +kernel
theorem dX5_append_27 : decode cX5_append 27 = .ok (.ireturn, 1) := by decide +kernel
theorem dX5_append_28 : decode cX5_append 28 = .ok (.aload_n 0, 1) := by decide +kernel
theorem dX5_append_29 : decode cX5_append 29 = .ok (.getfield 9, 3) := by decide +kernel
theorem dX5_append_32 : decode cX5_append 32 = .ok (.aload_n 0, 1) := by decide +kernel
theorem dX5_append_33 : decode cX5_append 33 = .ok (.getfield 15, 3) := by decide +kernel
theorem dX5_append_36 : decode cX5_append 36 = .ok (.iload_n 1, 1) := by decide +kernel
theorem dX5_append_37 : decode cX5_append 37 = .ok (.iastore, 1) := by decide +kernel
theorem dX5_append_38 : decode cX5_append 38 = .ok (.aload_n 0, 1) := by decide +kernel
theorem dX5_append_39 : decode cX5_append 39 = .ok (.dup, 1) := by decide +kernel
theorem dX5_append_40 : decode cX5_append 40 = .ok (.getfield 15, 3) := by decide +kernel
theorem dX5_append_43 : decode cX5_append 43 = .ok (.iconst 1, 1) := by decide +kernel
theorem dX5_append_44 : decode cX5_append 44 = .ok (.iadd, 1) := by decide +kernel
theorem dX5_append_45 : decode cX5_append 45 = .ok (.putfield 15, 3) := by decide +kernel
theorem dX5_append_48 : decode cX5_append 48 = .ok (.aload_n 0, 1) := by decide +kernel
theorem dX5_append_49 : decode cX5_append 49 = .ok (.invokevirtual 35, 3) := by decide +kernel
theorem dX5_append_52 : decode cX5_append 52 = .ok (.iconst 1, 1) := by decide +kernel
theorem dX5_append_53 : decode cX5_append 53 = .ok (.ireturn, 1) := by decide +kernel
theorem dX5_cutTo_0 : decode cX5_cutTo 0 = .ok (.aload_n 0, 1) := by decide +kernel
theorem dX5_cutTo_1 : decode cX5_cutTo 1 = .ok (.iload_n 1, 1) := by decide +kernel
theorem dX5_cutTo_2 : decode cX5_cutTo 2 = .ok (.putfield 15, 3) := by decide +kernel
theorem dX5_cutTo_5 : decode cX5_cutTo 5 = .ok (.aload_n 0, 1) := by decide +kernel
theorem dX5_cutTo_6 : decode cX5_cutTo 6 = .ok (.invokevirtual 35, 3) := by decide +kernel
theorem dX5_cutTo_9 : decode cX5_cutTo 9 = .ok (.return_, 1) := by decide +kernel
theorem dX5_signAt_0 : decode cX5_signAt 0 = .ok (.iload_n 1, 1) := by decide +kernel
theorem dX5_signAt_1 : decode cX5_signAt 1 = .ok (.aload_n 0, 1) := by decide +kernel
theorem dX5_signAt_2 : decode cX5_signAt 2 = .ok (.getfield 15, 3) := by decide +kernel
theorem dX5_signAt_5 : decode cX5_signAt 5 = .ok (.invokestatic 31, 3) := by decide +kernel
theorem dX5_signAt_8 : decode cX5_signAt 8 = .ok (.ifCond .eq 21, 3) := by decide +kernel
theorem dX5_signAt_11 : decode cX5_signAt 11 = .ok (.iload_n 1, 1) := by decide +kernel
theorem dX5_signAt_12 : decode cX5_signAt 12 = .ok (.aload_n 0, 1) := by decide +kernel
theorem dX5_signAt_13 : decode cX5_signAt 13 = .ok (.getfield 9, 3) := by decide +kernel
theorem dX5_signAt_16 : decode cX5_signAt 16 = .ok (.arraylength, 1) := by decide +kernel
theorem dX5_signAt_17 : decode cX5_signAt 17 = .ok (.if_icmp .ge 12, 3) := by decide +kernel
theorem dX5_signAt_20 : decode cX5_signAt 20 = .ok (.aload_n 0, 1) := by decide +kernel
theorem dX5_signAt_21 : decode cX5_signAt 21 = .ok (.getfield 9, 3) := by decide +kernel
theorem dX5_signAt_24 : decode cX5_signAt 24 = .ok (.iload_n 1, 1) := by decide +kernel
theorem dX5_signAt_25 : decode cX5_signAt 25 = .ok (.iaload, 1) := by decide +kernel
theorem dX5_signAt_26 : decode cX5_signAt 26 = .ok (.goto 4, 3) := by decide +kernel
theorem dX5_signAt_29 : decode cX5_signAt 29 = .ok (.iconst (-1), 1) := by decide +kernel
theorem dX5_signAt_30 : decode cX5_signAt 30 = .ok (.ireturn, 1) := by decide +kernel
theorem dX5_isBetween_0 : decode cX5_isBetween 0 = .ok (.aload_n 0, 1) := by decide +kernel
theorem dX5_isBetween_1 : decode cX5_isBetween 1 = .ok (.iload_n 1, 1) := by decide +kernel
theorem dX5_isBetween_2 : decode cX5_isBetween 2 = .ok (.invokevirtual 38, 3) := by decide +kernel
theorem dX5_isBetween_5 : decode cX5_isBetween 5 = .ok (.istore 4, 2) := by decide +kernel
theorem dX5_isBetween_7 : decode cX5_isBetween 7 = .ok (.iload 4, 2) := by decide +kernel
theorem dX5_isBetween_9 : decode cX5_isBetween 9 = .ok (.iload_n 2, 1) := by decide +kernel
theorem dX5_isBetween_10 : decode cX5_isBetween 10 = .ok (.if_icmp .lt 13, 3) := by decide +kernel
theorem dX5_isBetween_13 : decode cX5_isBetween 13 = .ok (.iload 4, 2) := by decide +kernel
theorem dX5_isBetween_15 : decode cX5_isBetween 15 = .ok (.iload_n 3, 1) := by decide +kernel
theorem dX5_isBetween_16 : decode cX5_isBetween 16 = .ok (.if_icmp .gt 7, 3) := by decide +kernel
theorem dX5_isBetween_19 : decode cX5_isBetween 19 = .ok (.iconst 1, 1) := by decide +kernel
theorem dX5_isBetween_20 : decode cX5_isBetween 20 = .ok (.goto 4, 3) := by decide +kernel
theorem dX5_isBetween_23 : decode cX5_isBetween 23 = .ok (.iconst 0, 1) := by decide +kernel
theorem dX5_isBetween_24 : decode cX5_isBetween 24 = .ok (.ireturn, 1) := by decide +kernel
theorem dX5_readRows_0 : decode cX5_readRows 0 = .ok (.aload_n 0, 1) := by decide +kernel
theorem dX5_readRows_1 : decode cX5_readRows 1 = .ok (.iconst 0, 1) := by decide +kernel
theorem dX5_readRows_2 : decode cX5_readRows 2 = .ok (.putfield 19, 3) := by decide +kernel
theorem dX5_readRows_5 : decode cX5_readRows 5 = .ok (.aload_n 0, 1) := by decide +kernel
theorem dX5_readRows_6 : decode cX5_readRows 6 = .ok (.iconst (-1), 1) := by decide +kernel
theorem dX5_readRows_7 : decode cX5_readRows 7 = .ok (.putfield 22, 3) := by decide +kernel
theorem dX5_readRows_10 : decode cX5_readRows 10 = .ok (.aload_n 0, 1) := by decide +kernel
theorem dX5_readRows_11 : decode cX5_readRows 11 = .ok (.getfield 15, 3) := by decide +kernel
theorem dX5_readRows_14 : decode cX5_readRows 14 = .ok (.ifCond .ne 4, 3) := by decide +kernel
theorem dX5_readRows_17 : decode cX5_readRows 17 = .ok (.return_, 1) := by decide +kernel
theorem dX5_readRows_18 : decode cX5_readRows 18 = .ok (.iconst 0, 1) := by decide +kernel
theorem dX5_readRows_19 : decode cX5_readRows 19 = .ok (.istore_n 1, 1) := by decide +kernel
theorem dX5_readRows_20 : decode cX5_readRows 20 = .ok (.iconst 0, 1) := by decide +kernel
theorem dX5_readRows_21 : decode cX5_readRows 21 = .ok (.istore_n 2, 1) := by decide +kernel
theorem dX5_readRows_22 : decode cX5_readRows 22 = .ok (.iload_n 2, 1) := by decide +kernel
theorem dX5_readRows_23 : decode cX5_readRows 23 = .ok (.aload_n 0, 1) := by decide +kernel
theorem dX5_readRows_24 : decode cX5_readRows 24 = .ok (.getfield 28, 3) := by decide +kernel
theorem dX5_readRows_27 : decode cX5_readRows 27 = .ok (.if_icmp .ge 64, 3) := by decide +kernel
theorem dX5_readRows_30 : decode cX5_readRows 30 = .ok (.aload_n 0, 1) := by decide +kernel
theorem dX5_readRows_31 : decode cX5_readRows 31 = .ok (.iload_n 1, 1) := by decide +kernel
theorem dX5_readRows_32 : decode cX5_readRows 32 = .ok (.iload_n 2, 1) := by decide +kernel
theorem dX5_readRows_33 : decode cX5_readRows 33 = .ok (.invokevirtual 42, 3) := by decide +kernel
theorem dX5_readRows_36 : decode cX5_readRows 36 = .ok (.istore_n 3, 1) := by decide +kernel
theorem dX5_readRows_37 : decode cX5_readRows 37 = .ok (.iload_n 3, 1) := by decide +kernel
theorem dX5_readRows_38 : decode cX5_readRows 38 = .ok (.ifCond .ge 11, 3) := by decide +kernel
theorem dX5_readRows_41 : decode cX5_readRows 41 = .ok (.aload_n 0, 1) := by decide +kernel
theorem dX5_readRows_42 : decode cX5_readRows 42 = .ok (.iload_n 3, 1) := by decide +kernel
theorem dX5_readRows_43 : decode cX5_readRows 43 = .ok (.iconst (-1), 1) := by decide +kernel
theorem dX5_readRows_44 : decode cX5_readRows 44 = .ok (.ixor, 1) := by decide +kernel
theorem dX5_readRows_45 : decode cX5_readRows 45 = .ok (.putfield 22, 3) := by decide +kernel
theorem dX5_readRows_48 : decode cX5_readRows 48 = .ok (.return_, 1) := by decide +kernel
theorem dX5_readRows_49 : decode cX5_readRows 49 = .ok (.iload_n 3, 1) := by decide +kernel
theorem dX5_readRows_50 : decode cX5_readRows 50 = .ok (.aload_n 0, 1) := by decide +kernel
theorem dX5_readRows_51 : decode cX5_readRows 51 = .ok (.getfield 15, 3) := by decide +kernel
theorem dX5_readRows_54 : decode cX5_readRows 54 = .ok (.if_icmp .lt 11, 3) := by decide +kernel
theorem dX5_readRows_57 : decode cX5_readRows 57 = .ok (.aload_n 0, 1) := by decide +kernel
theorem dX5_readRows_58 : decode cX5_readRows 58 = .ok (.iload_n 2, 1) := by decide +kernel
theorem dX5_readRows_59 : decode cX5_readRows 59 = .ok (.iconst 1, 1) := by decide +kernel
theorem dX5_readRows_60 : decode cX5_readRows 60 = .ok (.iadd, 1) := by decide +kernel
theorem dX5_readRows_61 : decode cX5_readRows 61 = .ok (.putfield 19, 3) := by decide +kernel
theorem dX5_readRows_64 : decode cX5_readRows 64 = .ok (.return_, 1) := by decide +kernel
theorem dX5_readRows_65 : decode cX5_readRows 65 = .ok (.aload_n 0, 1) := by decide +kernel
theorem dX5_readRows_66 : decode cX5_readRows 66 = .ok (.iload_n 3, 1) := by decide +kernel
theorem dX5_readRows_67 : decode cX5_readRows 67 = .ok (.invokevirtual 38, 3) := by decide +kernel
theorem dX5_readRows_70 : decode cX5_readRows 70 = .ok (.bipush 59, 2) := by decide +kernel
theorem dX5_readRows_72 : decode cX5_readRows 72 = .ok (.if_icmp .eq 9, 3) := by decide +kernel
theorem dX5_readRows_75 : decode cX5_readRows 75 = .ok (.aload_n 0, 1) := by decide +kernel
theorem dX5_readRows_76 : decode cX5_readRows 76 = .ok (.iload_n 3, 1) := by decide +kernel
theorem dX5_readRows_77 : decode cX5_readRows 77 = .ok (.putfield 22, 3) := by decide +kernel
theorem dX5_readRows_80 : decode cX5_readRows 80 = .ok (.return_, 1) := by decide +kernel
theorem dX5_readRows_81 : decode cX5_readRows 81 = .ok (.iload_n 3, 1) := by decide +kernel
theorem dX5_readRows_82 : decode cX5_readRows 82 = .ok (.iconst 1, 1) := by decide +kernel
theorem dX5_readRows_83 : decode cX5_readRows 83 = .ok (.iadd, 1) := by decide +kernel
theorem dX5_readRows_84 : decode cX5_readRows 84 = .ok (.istore_n 1, 1) := by decide +kernel
theorem dX5_readRows_85 : decode cX5_readRows 85 = .ok (.iinc 2 1, 3) := by decide +kernel
theorem dX5_readRows_88 : decode cX5_readRows 88 = .ok (.goto (-66), 3) := by decide +kernel
theorem dX5_readRows_91 : decode cX5_readRows 91 = .ok (.aload_n 0, 1) := by decide +kernel
theorem dX5_readRows_92 : decode cX5_readRows 92 = .ok (.iload_n 1, 1) := by decide +kernel
theorem dX5_readRows_93 : decode cX5_readRows 93 = .ok (.putfield 22, 3) := by decide +kernel
theorem dX5_readRows_96 : decode cX5_readRows 96 = .ok (.return_, 1) := by decide +kernel
theorem dX6_init_0 : decode cX6_init 0 = .ok (.aload_n 0, 1) := by decide +kernel
theorem dX6_init_1 : decode cX6_init 1 = .ok (.invokespecial 5, 3) := by decide +kernel
theorem dX6_init_4 : decode cX6_init 4 = .ok (.aload_n 0, 1) := by decide +kernel
theorem dX6_init_5 : decode cX6_init 5 = .ok (.bipush 6, 2) := by decide +kernel
theorem dX6_init_7 : decode cX6_init 7 = .ok (.newarray .int, 2) := by decide +kernel
theorem dX6_init_9 : decode cX6_init 9 = .ok (.putfield 11, 3) := by decide +kernel
theorem dX6_init_12 : decode cX6_init 12 = .ok (.aload_n 0, 1) := by decide +kernel
theorem dX6_init_13 : decode cX6_init 13 = .ok (.bipush 6, 2) := by decide +kernel
theorem dX6_init_15 : decode cX6_init 15 = .ok (.newarray .int, 2) := by decide +kernel
theorem dX6_init_17 : decode cX6_init 17 = .ok (.putfield 15, 3) := by decide +kernel
theorem dX6_init_20 : decode cX6_init 20 = .ok (.aload_n 0, 1) := by decide +kernel
theorem dX6_init_21 : decode cX6_init 21 = .ok (.iconst 4, 1) := by decide +kernel
theorem dX6_init_22 : decode cX6_init 22 = .ok (.newarray .int, 2) := by decide +kernel
theorem dX6_init_24 : decode cX6_init 24 = .ok (.putfield 18, 3) := by decide +kernel
theorem dX6_init_27 : decode cX6_init 27 = .ok (.aload_n 0, 1) := by decide +kernel
theorem dX6_init_28 : decode cX6_init 28 = .ok (.bipush 7, 2) := by decide +kernel
theorem dX6_init_30 : decode cX6_init 30 = .ok (.newarray .int, 2) := by decide +kernel
theorem dX6_init_32 : decode cX6_init 32 = .ok (.putfield 21, 3) := by decide +kernel
theorem dX6_init_35 : decode cX6_init 35 = .ok (.aload_n 0, 1) := by decide +kernel
theorem dX6_init_36 : decode cX6_init 36 = .ok (.bipush 28, 2) := by decide +kernel
theorem dX6_init_38 : decode cX6_init 38 = .ok (.newarray .long, 2) := by decide +kernel
theorem dX6_init_40 : decode cX6_init 40 = .ok (.putfield 24, 3) := by decide +kernel
theorem dX6_init_43 : decode cX6_init 43 = .ok (.aload_n 0, 1) := by decide +kernel
theorem dX6_init_44 : decode cX6_init 44 = .ok (.iconst 0, 1) := by decide +kernel
theorem dX6_init_45 : decode cX6_init 45 = .ok (.putfield 28, 3) := by decide +kernel
theorem dX6_init_48 : decode cX6_init 48 = .ok (.aload_n 0, 1) := by decide +kernel
theorem dX6_init_49 : decode cX6_init 49 = .ok (.iconst 0, 1) := by decide +kernel
theorem dX6_init_50 : decode cX6_init 50 = .ok (.putfield 32, 3) := by decide +kernel
theorem dX6_init_53 : decode cX6_init 53 = .ok (.aload_n 0, 1) := by decide +kernel
theorem dX6_init_54 : decode cX6_init 54 = .ok (.iconst 0, 1) := by decide +kernel
theorem dX6_init_55 : decode cX6_init 55 = .ok (.putfield 35, 3) := by decide +kernel
theorem dX6_init_58 : decode cX6_init 58 = .ok (.aload_n 0, 1) := by decide +kernel
theorem dX6_init_59 : decode cX6_init 59 = .ok (.iconst 0, 1) := by decide +kernel
theorem dX6_init_60 : decode cX6_init 60 = .ok (.putfield 38, 3) := by decide +kernel
theorem dX6_init_63 : decode cX6_init 63 = .ok (.return_, 1) := by decide +kernel
theorem dX6_find_0 : decode cX6_find 0 = .ok (.aload_n 0, 1) := by decide +kernel
theorem dX6_find_1 : decode cX6_find 1 = .ok (.getfield 38, 3) := by decide +kernel
theorem dX6_find_4 : decode cX6_find 4 = .ok (.ifCond .eq 4, 3) := by decide +kernel
theorem dX6_find_7 : decode cX6_find 7 = .ok (.return_, 1) := by decide +kernel
theorem dX6_find_8 : decode cX6_find 8 = .ok (.aload_n 0, 1) := by decide +kernel
theorem dX6_find_9 : decode cX6_find 9 = .ok (.aload_n 1, 1) := by decide +kernel
theorem dX6_find_10 : decode cX6_find 10 = .ok (.getfield 42, 3) := by decide +kernel
theorem dX6_find_13 : decode cX6_find 13 = .ok (.getfield 47, 3) := by decide +kernel
theorem dX6_find_16 : decode cX6_find 16 = .ok (.bipush 6, 2) := by decide +kernel
theorem dX6_find_18 : decode cX6_find 18 = .ok (.invokestatic 52, 3) := by decide +kernel
theorem dX6_find_21 : decode cX6_find 21 = .ok (.putfield 28, 3) := by decide +kernel
theorem dX6_find_24 : decode cX6_find 24 = .ok (.aload_n 0, 1) := by decide +kernel
theorem dX6_find_25 : decode cX6_find 25 = .ok (.aload_n 1, 1) := by decide +kernel
theorem dX6_find_26 : decode cX6_find 26 = .ok (.getfield 58, 3) := by decide +kernel
theorem dX6_find_29 : decode cX6_find 29 = .ok (.getfield 61, 3) := by decide +kernel
theorem dX6_find_32 : decode cX6_find 32 = .ok (.iconst 4, 1) := by decide +kernel
theorem dX6_find_33 : decode cX6_find 33 = .ok (.invokestatic 52, 3) := by decide +kernel
theorem dX6_find_36 : decode cX6_find 36 = .ok (.putfield 32, 3) := by decide +kernel
theorem dX6_find_39 : decode cX6_find 39 = .ok (.aload_n 0, 1) := by decide +kernel
theorem dX6_find_40 : decode cX6_find 40 = .ok (.iconst (-1), 1) := by decide +kernel
theorem dX6_find_41 : decode cX6_find 41 = .ok (.putfield 35, 3) := by decide +kernel
theorem dX6_find_44 : decode cX6_find 44 = .ok (.aload_n 0, 1) := by decide +kernel
theorem dX6_find_45 : decode cX6_find 45 = .ok (.getfield 11, 3) := by decide +kernel
theorem dX6_find_48 : decode cX6_find 48 = .ok (.iconst (-1), 1) := by decide +kernel
theorem dX6_find_49 : decode cX6_find 49 = .ok (.invokestatic 64, 3) := by decide +kernel
theorem dX6_find_52 : decode cX6_find 52 = .ok (.aload_n 0, 1) := by decide +kernel
theorem dX6_find_53 : decode cX6_find 53 = .ok (.getfield 15, 3) := by decide +kernel
theorem dX6_find_56 : decode cX6_find 56 = .ok (.iconst (-1), 1) := by decide +kernel
theorem dX6_find_57 : decode cX6_find 57 = .ok (.invokestatic 64, 3) := by decide +kernel
theorem dX6_find_60 : decode cX6_find 60 = .ok (.aload_n 0, 1) := by decide +kernel
theorem dX6_find_61 : decode cX6_find 61 = .ok (.getfield 18, 3) := by decide +kernel
theorem dX6_find_64 : decode cX6_find 64 = .ok (.iconst 0, 1) := by decide +kernel
theorem dX6_find_65 : decode cX6_find 65 = .ok (.invokestatic 64, 3) := by decide +kernel
theorem dX6_find_68 : decode cX6_find 68 = .ok (.aload_n 0, 1) := by decide +kernel
theorem dX6_find_69 : decode cX6_find 69 = .ok (.getfield 21, 3) := by decide +kernel
theorem dX6_find_72 : decode cX6_find 72 = .ok (.iconst 0, 1) := by decide +kernel
theorem dX6_find_73 : decode cX6_find 73 = .ok (.invokestatic 64, 3) := by decide +kernel
theorem dX6_find_76 : decode cX6_find 76 = .ok (.aload_n 0, 1) := by decide +kernel
theorem dX6_find_77 : decode cX6_find 77 = .ok (.getfield 28, 3) := by decide +kernel
theorem dX6_find_80 : decode cX6_find 80 = .ok (.iconst 1, 1) := by decide +kernel
theorem dX6_find_81 : decode cX6_find 81 = .ok (.isub, 1) := by decide +kernel
theorem dX6_find_82 : decode cX6_find 82 = .ok (.istore_n 2, 1) := by decide +kernel
theorem dX6_find_83 : decode cX6_find 83 = .ok (.iload_n 2, 1) := by decide +kernel
theorem dX6_find_84 : decode cX6_find 84 = .ok (.ifCond .lt 31, 3) := by decide +kernel
theorem dX6_find_87 : decode cX6_find 87 = .ok (.aload_n 0, 1) := by decide +kernel
theorem dX6_find_88 : decode cX6_find 88 = .ok (.getfield 21, 3) := by decide +kernel
theorem dX6_find_91 : decode cX6_find 91 = .ok (.iload_n 2, 1) := by decide +kernel
theorem dX6_find_92 : decode cX6_find 92 = .ok (.aload_n 0, 1) := by decide +kernel
theorem dX6_find_93 : decode cX6_find 93 = .ok (.getfield 21, 3) := by decide +kernel
theorem dX6_find_96 : decode cX6_find 96 = .ok (.iload_n 2, 1) := by decide +kernel
theorem dX6_find_97 : decode cX6_find 97 = .ok (.iconst 1, 1) := by decide +kernel
theorem dX6_find_98 : decode cX6_find 98 = .ok (.iadd, 1) := by decide +kernel
theorem dX6_find_99 : decode cX6_find 99 = .ok (.iaload, 1) := by decide +kernel
theorem dX6_find_100 : decode cX6_find 100 = .ok (.aload_n 1, 1) := by decide +kernel
theorem dX6_find_101 : decode cX6_find 101 = .ok (.iconst 1, 1) := by decide +kernel
theorem dX6_find_102 : decode cX6_find 102 = .ok (.iload_n 2, 1) := by decide +kernel
theorem dX6_find_103 : decode cX6_find 103 = .ok (.ishl, 1) := by decide +kernel
theorem dX6_find_104 : decode cX6_find 104 = .ok (.invokevirtual 70, 3) := by decide +kernel
theorem dX6_find_107 : decode cX6_find 107 = .ok (.iadd, 1) := by decide +kernel
theorem dX6_find_108 : decode cX6_find 108 = .ok (.iastore, 1) := by decide +kernel
theorem dX6_find_109 : decode cX6_find 109 = .ok (.iinc 2 (-1), 3) := by decide +kernel
theorem dX6_find_112 : decode cX6_find 112 = .ok (.goto (-29), 3) := by decide +kernel
theorem dX6_find_115 : decode cX6_find 115 = .ok (.iconst 0, 1) := by decide +kernel
theorem dX6_find_116 : decode cX6_find 116 = .ok (.istore_n 2, 1) := by decide +kernel
theorem dX6_find_117 : decode cX6_find 117 = .ok (.iload_n 2, 1) := by decide +kernel
theorem dX6_find_118 : decode cX6_find 118 = .ok (.aload_n 0, 1) := by decide +kernel
theorem dX6_find_119 : decode cX6_find 119 = .ok (.getfield 32, 3) := by decide +kernel
theorem dX6_find_122 : decode cX6_find 122 = .ok (.if_icmp .ge 15, 3) := by decide +kernel
theorem dX6_find_125 : decode cX6_find 125 = .ok (.aload_n 0, 1) := by decide +kernel
theorem dX6_find_126 : decode cX6_find 126 = .ok (.aload_n 1, 1) := by decide +kernel
theorem dX6_find_127 : decode cX6_find 127 = .ok (.iload_n 2, 1) := by decide +kernel
theorem dX6_find_128 : decode cX6_find 128 = .ok (.invokevirtual 74, 3) := by decide +kernel
theorem dX6_find_131 : decode cX6_find 131 = .ok (.iinc 2 1, 3) := by decide +kernel
theorem dX6_find_134 : decode cX6_find 134 = .ok (.goto (-17), 3) := by decide +kernel
theorem dX6_find_137 : decode cX6_find 137 = .ok (.aload_n 0, 1) := by decide +kernel
theorem dX6_find_138 : decode cX6_find 138 = .ok (.aload_n 1, 1) := by decide +kernel
theorem dX6_find_139 : decode cX6_find 139 = .ok (.iconst 0, 1) := by decide +kernel
theorem dX6_find_140 : decode cX6_find 140 = .ok (.iconst 0, 1) := by decide +kernel
theorem dX6_find_141 : decode cX6_find 141 = .ok (.invokestatic 78, 3) := by decide +kernel
theorem dX6_find_144 : decode cX6_find 144 = .ok (.aload_n 0, 1) := by decide +kernel
theorem dX6_find_145 : decode cX6_find 145 = .ok (.iconst 1, 1) := by decide +kernel
theorem dX6_find_146 : decode cX6_find 146 = .ok (.putfield 38, 3) := by decide +kernel
theorem dX6_find_149 : decode cX6_find 149 = .ok (.return_, 1) := by decide +kernel
theorem dX6_keeperOf_0 : decode cX6_keeperOf 0 = .ok (.iload_n 1, 1) := by decide +kernel
theorem dX6_keeperOf_1 : decode cX6_keeperOf 1 = .ok (.bipush 6, 2) := by decide +kernel
theorem dX6_keeperOf_3 : decode cX6_keeperOf 3 = .ok (.invokestatic 82, 3) := by decide +kernel
theorem dX6_keeperOf_6 : decode cX6_keeperOf 6 = .ok (.ifCond .eq 12, 3) := by decide +kernel
theorem dX6_keeperOf_9 : decode cX6_keeperOf 9 = .ok (.aload_n 0, 1) := by decide +kernel
theorem dX6_keeperOf_10 : decode cX6_keeperOf 10 = .ok (.getfield 15, 3) := by decide +kernel
theorem dX6_keeperOf_13 : decode cX6_keeperOf 13 = .ok (.iload_n 1, 1) := by decide +kernel
theorem dX6_keeperOf_14 : decode cX6_keeperOf 14 = .ok (.iaload, 1) := by decide +kernel
theorem dX6_keeperOf_15 : decode cX6_keeperOf 15 = .ok (.goto 4, 3) := by decide +kernel
theorem dX6_keeperOf_18 : decode cX6_keeperOf 18 = .ok (.iconst (-1), 1) := by decide +kernel
theorem dX6_keeperOf_19 : decode cX6_keeperOf 19 = .ok (.ireturn, 1) := by decide +kernel
theorem dX6_openSetsOf_0 : decode cX6_openSetsOf 0 = .ok (.lconst 0, 1) := by decide +kernel
theorem dX6_openSetsOf_1 : decode cX6_openSetsOf 1 = .ok (.lstore_n 3, 1) := by decide +kernel
theorem dX6_openSetsOf_2 : decode cX6_openSetsOf 2 = .ok (.iconst 0, 1) := by decide +kernel
theorem dX6_openSetsOf_3 : decode cX6_openSetsOf 3 = .ok (.istore 5, 2) := by decide +kernel
theorem dX6_openSetsOf_5 : decode cX6_openSetsOf 5 = .ok (.iload 5, 2) := by decide +kernel
theorem dX6_openSetsOf_7 : decode cX6_openSetsOf 7 = .ok (.iconst 1, 1) := by decide +kernel
theorem dX6_openSetsOf_8 : decode cX6_openSetsOf 8 = .ok (.aload_n 0, 1) := by decide +kernel
theorem dX6_openSetsOf_9 : decode cX6_openSetsOf 9 = .ok (.getfield 28, 3) := by decide +kernel
theorem dX6_openSetsOf_12 : decode cX6_openSetsOf 12 = .ok (.ishl, 1) := by decide +kernel
theorem dX6_openSetsOf_13 : decode cX6_openSetsOf 13 = .ok (.if_icmp .ge 26, 3) := by decide +kernel
theorem dX6_openSetsOf_16 : decode cX6_openSetsOf 16 = .ok (.aload_n 1, 1) := by decide +kernel
theorem dX6_openSetsOf_17 : decode cX6_openSetsOf 17 = .ok (.iload_n 2, 1) := by decide +kernel
theorem dX6_openSetsOf_18 : decode cX6_openSetsOf 18 = .ok (.iload 5, 2) := by decide +kernel
theorem dX6_openSetsOf_20 : decode cX6_openSetsOf 20 = .ok (.invokevirtual 86, 3) := by decide +kernel
theorem dX6_openSetsOf_23 : decode cX6_openSetsOf 23 = .ok (.ifCond .eq 10, 3) := by decide +kernel
theorem dX6_openSetsOf_26 : decode cX6_openSetsOf 26 = .ok (.lload_n 3, 1) := by decide +kernel
theorem dX6_openSetsOf_27 : decode cX6_openSetsOf 27 = .ok (.lconst 1, 1) := by decide +kernel
theorem dX6_openSetsOf_28 : decode cX6_openSetsOf 28 = .ok (.iload 5, 2) := by decide +kernel
theorem dX6_openSetsOf_30 : decode cX6_openSetsOf 30 = .ok (.lshl, 1) := by decide +kernel
theorem dX6_openSetsOf_31 : decode cX6_openSetsOf 31 = .ok (.lor, 1) := by decide +kernel
theorem dX6_openSetsOf_32 : decode cX6_openSetsOf 32 = .ok (.lstore_n 3, 1) := by decide +kernel
theorem dX6_openSetsOf_33 : decode cX6_openSetsOf 33 = .ok (.iinc 5 1, 3) := by decide +kernel
theorem dX6_openSetsOf_36 : decode cX6_openSetsOf 36 = .ok (.goto (-31), 3) := by decide +kernel
theorem dX6_openSetsOf_39 : decode cX6_openSetsOf 39 = .ok (.aload_n 0, 1) := by decide +kernel
theorem dX6_openSetsOf_40 : decode cX6_openSetsOf 40 = .ok (.iload_n 2, 1) := by decide +kernel
theorem dX6_openSetsOf_41 : decode cX6_openSetsOf 41 = .ok (.aload_n 0, 1) := by decide +kernel
theorem dX6_openSetsOf_42 : decode cX6_openSetsOf 42 = .ok (.getfield 28, 3) := by decide +kernel
theorem dX6_openSetsOf_45 : decode cX6_openSetsOf 45 = .ok (.lload_n 3, 1) := by decide +kernel
theorem dX6_openSetsOf_46 : decode cX6_openSetsOf 46 = .ok (.invokevirtual 89, 3) := by decide +kernel
theorem dX6_openSetsOf_49 : decode cX6_openSetsOf 49 = .ok (.aload_n 0, 1) := by decide +kernel
theorem dX6_openSetsOf_50 : decode cX6_openSetsOf 50 = .ok (.getfield 28, 3) := by decide +kernel
theorem dX6_openSetsOf_53 : decode cX6_openSetsOf 53 = .ok (.iconst 1, 1) := by decide +kernel
theorem dX6_openSetsOf_54 : decode cX6_openSetsOf 54 = .ok (.isub, 1) := by decide +kernel
theorem dX6_openSetsOf_55 : decode cX6_openSetsOf 55 = .ok (.istore 5, 2) := by decide +kernel
theorem dX6_openSetsOf_57 : decode cX6_openSetsOf 57 = .ok (.iload 5, 2) := by decide +kernel
theorem dX6_openSetsOf_59 : decode cX6_openSetsOf 59 = .ok (.ifCond .lt 26, 3) := by decide +kernel
theorem dX6_openSetsOf_62 : decode cX6_openSetsOf 62 = .ok (.lload_n 3, 1) := by decide +kernel
theorem dX6_openSetsOf_63 : decode cX6_openSetsOf 63 = .ok (.lload_n 3, 1) := by decide +kernel
theorem dX6_openSetsOf_64 : decode cX6_openSetsOf 64 = .ok (.iconst 1, 1) := by decide +kernel
theorem dX6_openSetsOf_65 : decode cX6_openSetsOf 65 = .ok (.iload 5, 2) := by decide +kernel
theorem dX6_openSetsOf_67 : decode cX6_openSetsOf 67 = .ok (.ishl, 1) := by decide +kernel
theorem dX6_openSetsOf_68 : decode cX6_openSetsOf 68 = .ok (.lushr, 1) := by decide +kernel
theorem dX6_openSetsOf_69 : decode cX6_openSetsOf 69 = .ok (.lor, 1) := by decide +kernel
theorem dX6_openSetsOf_70 : decode cX6_openSetsOf 70 = .ok (.lstore_n 3, 1) := by decide +kernel
theorem dX6_openSetsOf_71 : decode cX6_openSetsOf 71 = .ok (.aload_n 0, 1) := by decide +kernel
theorem dX6_openSetsOf_72 : decode cX6_openSetsOf 72 = .ok (.iload_n 2, 1) := by decide +kernel
theorem dX6_openSetsOf_73 : decode cX6_openSetsOf 73 = .ok (.iload 5, 2) := by decide +kernel
theorem dX6_openSetsOf_75 : decode cX6_openSetsOf 75 = .ok (.lload_n 3, 1) := by decide +kernel
theorem dX6_openSetsOf_76 : decode cX6_openSetsOf 76 = .ok (.invokevirtual 89, 3) := by decide +kernel
theorem dX6_openSetsOf_79 : decode cX6_openSetsOf 79 = .ok (.iinc 5 (-1), 3) := by decide +kernel
theorem dX6_openSetsOf_82 : decode cX6_openSetsOf 82 = .ok (.goto (-25), 3) := by decide +kernel
theorem dX6_openSetsOf_85 : decode cX6_openSetsOf 85 = .ok (.return_, 1) := by decide +kernel
theorem dX6_keepOpen_0 : decode cX6_keepOpen 0 = .ok (.iload_n 1, 1) := by decide +kernel
theorem dX6_keepOpen_1 : decode cX6_keepOpen 1 = .ok (.bipush 7, 2) := by decide +kernel
theorem dX6_keepOpen_3 : decode cX6_keepOpen 3 = .ok (.imul, 1) := by decide +kernel
theorem dX6_keepOpen_4 : decode cX6_keepOpen 4 = .ok (.iload_n 2, 1) := by decide +kernel
theorem dX6_keepOpen_5 : decode cX6_keepOpen 5 = .ok (.iadd, 1) := by decide +kernel
theorem dX6_keepOpen_6 : decode cX6_keepOpen 6 = .ok (.istore 5, 2) := by decide +kernel
theorem dX6_keepOpen_8 : decode cX6_keepOpen 8 = .ok (.iload 5, 2) := by decide +kernel
theorem dX6_keepOpen_10 : decode cX6_keepOpen 10 = .ok (.aload_n 0, 1) := by decide +kernel
theorem dX6_keepOpen_11 : decode cX6_keepOpen 11 = .ok (.getfield 24, 3) := by decide +kernel
theorem dX6_keepOpen_14 : decode cX6_keepOpen 14 = .ok (.arraylength, 1) := by decide +kernel
theorem dX6_keepOpen_15 : decode cX6_keepOpen 15 = .ok (.invokestatic 82, 3) := by decide +kernel
theorem dX6_keepOpen_18 : decode cX6_keepOpen 18 = .ok (.ifCond .eq 11, 3) := by decide +kernel
theorem dX6_keepOpen_21 : decode cX6_keepOpen 21 = .ok (.aload_n 0, 1) := by decide +kernel
theorem dX6_keepOpen_22 : decode cX6_keepOpen 22 = .ok (.getfield 24, 3) := by decide +kernel
theorem dX6_keepOpen_25 : decode cX6_keepOpen 25 = .ok (.iload 5, 2) := by decide +kernel
theorem dX6_keepOpen_27 : decode cX6_keepOpen 27 = .ok (.lload_n 3, 1) := by decide +kernel
theorem dX6_keepOpen_28 : decode cX6_keepOpen 28 = .ok (.lastore, 1) := by decide +kernel
theorem dX6_keepOpen_29 : decode cX6_keepOpen 29 = .ok (.return_, 1) := by decide +kernel
theorem dX6_mayAllLive_0 : decode cX6_mayAllLive 0 = .ok (.iconst 0, 1) := by decide +kernel
theorem dX6_mayAllLive_1 : decode cX6_mayAllLive 1 = .ok (.istore_n 2, 1) := by decide +kernel
theorem dX6_mayAllLive_2 : decode cX6_mayAllLive 2 = .ok (.iload_n 2, 1) := by decide +kernel
theorem dX6_mayAllLive_3 : decode cX6_mayAllLive 3 = .ok (.aload_n 0, 1) := by decide +kernel
theorem dX6_mayAllLive_4 : decode cX6_mayAllLive 4 = .ok (.getfield 32, 3) := by decide +kernel
theorem dX6_mayAllLive_7 : decode cX6_mayAllLive 7 = .ok (.if_icmp .ge 55, 3) := by decide +kernel
theorem dX6_mayAllLive_10 : decode cX6_mayAllLive 10 = .ok (.iload_n 2, 1) := by decide +kernel
theorem dX6_mayAllLive_11 : decode cX6_mayAllLive 11 = .ok (.iconst 4, 1) := by decide +kernel
theorem dX6_mayAllLive_12 : decode cX6_mayAllLive 12 = .ok (.if_icmp .ge 50, 3) := by decide +kernel
theorem dX6_mayAllLive_15 : decode cX6_mayAllLive 15 = .ok (.iload_n 2, 1) := by decide +kernel
theorem dX6_mayAllLive_16 : decode cX6_mayAllLive 16 = .ok (.bipush 7, 2) := by decide +kernel
theorem dX6_mayAllLive_18 : decode cX6_mayAllLive 18 = .ok (.imul, 1) := by decide +kernel
theorem dX6_mayAllLive_19 : decode cX6_mayAllLive 19 = .ok (.iload_n 1, 1) := by decide +kernel
theorem dX6_mayAllLive_20 : decode cX6_mayAllLive 20 = .ok (.iadd, 1) := by decide +kernel
theorem dX6_mayAllLive_21 : decode cX6_mayAllLive 21 = .ok (.istore_n 3, 1) := by decide +kernel
theorem dX6_mayAllLive_22 : decode cX6_mayAllLive 22 = .ok (.iload_n 3, 1) := by decide +kernel
theorem dX6_mayAllLive_23 : decode cX6_mayAllLive 23 = .ok (.aload_n 0, 1) := by decide +kernel
theorem dX6_mayAllLive_24 : decode cX6_mayAllLive 24 = .ok (.getfield 24, 3) := by decide +kernel
theorem dX6_mayAllLive_27 : decode cX6_mayAllLive 27 = .ok (.arraylength, 1) := by decide +kernel
theorem dX6_mayAllLive_28 : decode cX6_mayAllLive 28 = .ok (.invokestatic 82, 3) := by decide +kernel
theorem dX6_mayAllLive_31 : decode cX6_mayAllLive 31 = .ok (.ifCond .eq 23, 3) := by decide +kernel
theorem dX6_mayAllLive_34 : decode cX6_mayAllLive 34 = .ok (.aload_n 0, 1) := by decide +kernel
theorem dX6_mayAllLive_35 : decode cX6_mayAllLive 35 = .ok (.getfield 24, 3) := by decide +kernel
theorem dX6_mayAllLive_38 : decode cX6_mayAllLive 38 = .ok (.iload_n 3, 1) := by decide +kernel
theorem dX6_mayAllLive_39 : decode cX6_mayAllLive 39 = .ok (.laload, 1) := by decide +kernel
theorem dX6_mayAllLive_40 : decode cX6_mayAllLive 40 = .ok (.aload_n 0, 1) := by decide +kernel
theorem dX6_mayAllLive_41 : decode cX6_mayAllLive 41 = .ok (.getfield 18, 3) := by decide +kernel
theorem dX6_mayAllLive_44 : decode cX6_mayAllLive 44 = .ok (.iload_n 2, 1) := by decide +kernel
theorem dX6_mayAllLive_45 : decode cX6_mayAllLive 45 = .ok (.iaload, 1) := by decide +kernel
theorem dX6_mayAllLive_46 : decode cX6_mayAllLive 46 = .ok (.lushr, 1) := by decide +kernel
theorem dX6_mayAllLive_47 : decode cX6_mayAllLive 47 = .ok (.lconst 1, 1) := by decide +kernel
theorem dX6_mayAllLive_48 : decode cX6_mayAllLive 48 = .ok (.land, 1) := by decide +kernel
theorem dX6_mayAllLive_49 : decode cX6_mayAllLive 49 = .ok (.lconst 0, 1) := by decide +kernel
theorem dX6_mayAllLive_50 : decode cX6_mayAllLive 50 = .ok (.lcmp, 1) := by decide +kernel
theorem dX6_mayAllLive_51 : decode cX6_mayAllLive 51 = .ok (.ifCond .ne 5, 3) := by decide +kernel
theorem dX6_mayAllLive_54 : decode cX6_mayAllLive 54 = .ok (.iconst 0, 1) := by decide +kernel
theorem dX6_mayAllLive_55 : decode cX6_mayAllLive 55 = .ok (.ireturn, 1) := by decide +kernel
theorem dX6_mayAllLive_56 : decode cX6_mayAllLive 56 = .ok (.iinc 2 1, 3) := by decide +kernel
theorem dX6_mayAllLive_59 : decode cX6_mayAllLive 59 = .ok (.goto (-57), 3) := by decide +kernel
theorem dX6_mayAllLive_62 : decode cX6_mayAllLive 62 = .ok (.iconst 1, 1) := by decide +kernel
theorem dX6_mayAllLive_63 : decode cX6_mayAllLive 63 = .ok (.ireturn, 1) := by decide +kernel
theorem dX6_place_0 : decode cX6_place 0 = .ok (.iload_n 2, 1) := by decide +kernel
theorem dX6_place_1 : decode cX6_place 1 = .ok (.bipush 7, 2) := by decide +kernel
theorem dX6_place_3 : decode cX6_place 3 = .ok (.invokestatic 82, 3) := by decide +kernel
theorem dX6_place_6 : decode cX6_place 6 = .ok (.ifCond .eq 26, 3) := by decide +kernel
theorem dX6_place_9 : decode cX6_place 9 = .ok (.iload_n 3, 1) := by decide +kernel
theorem dX6_place_10 : decode cX6_place 10 = .ok (.aload_n 0, 1) := by decide +kernel
theorem dX6_place_11 : decode cX6_place 11 = .ok (.getfield 21, 3) := by decide +kernel
theorem dX6_place_14 : decode cX6_place 14 = .ok (.iload_n 2, 1) := by decide +kernel
theorem dX6_place_15 : decode cX6_place 15 = .ok (.iaload, 1) := by decide +kernel
theorem dX6_place_16 : decode cX6_place 16 = .ok (.iadd, 1) := by decide +kernel
theorem dX6_place_17 : decode cX6_place 17 = .ok (.aload_n 0, 1) := by decide +kernel
theorem dX6_place_18 : decode cX6_place 18 = .ok (.getfield 35, 3) := by decide +kernel
theorem dX6_place_21 : decode cX6_place 21 = .ok (.if_icmp .le 11, 3) := by decide +kernel
theorem dX6_place_24 : decode cX6_place 24 = .ok (.aload_n 0, 1) := by decide +kernel
theorem dX6_place_25 : decode cX6_place 25 = .ok (.iload_n 2, 1) := by decide +kernel
theorem dX6_place_26 : decode cX6_place 26 = .ok (.invokevirtual 93, 3) := by decide +kernel
theorem dX6_place_29 : decode cX6_place 29 = .ok (.ifCond .ne 4, 3) := by decide +kernel
theorem dX6_place_32 : decode cX6_place 32 = .ok (.return_, 1) := by decide +kernel
theorem dX6_place_33 : decode cX6_place 33 = .ok (.iload_n 2, 1) := by decide +kernel
theorem dX6_place_34 : decode cX6_place 34 = .ok (.aload_n 0, 1) := by decide +kernel
theorem dX6_place_35 : decode cX6_place 35 = .ok (.getfield 28, 3) := by decide +kernel
theorem dX6_place_38 : decode cX6_place 38 = .ok (.if_icmp .ge 9, 3) := by decide +kernel
theorem dX6_place_41 : decode cX6_place 41 = .ok (.iload_n 2, 1) := by decide +kernel
theorem dX6_place_42 : decode cX6_place 42 = .ok (.bipush 6, 2) := by decide +kernel
theorem dX6_place_44 : decode cX6_place 44 = .ok (.if_icmp .lt 24, 3) := by decide +kernel
theorem dX6_place_47 : decode cX6_place 47 = .ok (.aload_n 0, 1) := by decide +kernel
theorem dX6_place_48 : decode cX6_place 48 = .ok (.iload_n 3, 1) := by decide +kernel
theorem dX6_place_49 : decode cX6_place 49 = .ok (.putfield 35, 3) := by decide +kernel
theorem dX6_place_52 : decode cX6_place 52 = .ok (.aload_n 0, 1) := by decide +kernel
theorem dX6_place_53 : decode cX6_place 53 = .ok (.getfield 11, 3) := by decide +kernel
theorem dX6_place_56 : decode cX6_place 56 = .ok (.iconst 0, 1) := by decide +kernel
theorem dX6_place_57 : decode cX6_place 57 = .ok (.aload_n 0, 1) := by decide +kernel
theorem dX6_place_58 : decode cX6_place 58 = .ok (.getfield 15, 3) := by decide +kernel
theorem dX6_place_61 : decode cX6_place 61 = .ok (.iconst 0, 1) := by decide +kernel
theorem dX6_place_62 : decode cX6_place 62 = .ok (.bipush 6, 2) := by decide +kernel
theorem dX6_place_64 : decode cX6_place 64 = .ok (.invokestatic 97, 3) := by decide +kernel
theorem dX6_place_67 : decode cX6_place 67 = .ok (.return_, 1) := by decide +kernel
theorem dX6_place_68 : decode cX6_place 68 = .ok (.iconst 0, 1) := by decide +kernel
theorem dX6_place_69 : decode cX6_place 69 = .ok (.istore 4, 2) := by decide +kernel
theorem dX6_place_71 : decode cX6_place 71 = .ok (.iload 4, 2) := by decide +kernel
theorem dX6_place_73 : decode cX6_place 73 = .ok (.aload_n 0, 1) := by decide +kernel
theorem dX6_place_74 : decode cX6_place 74 = .ok (.getfield 32, 3) := by decide +kernel
theorem dX6_place_77 : decode cX6_place 77 = .ok (.if_icmp .ge 73, 3) := by decide +kernel
theorem dX6_place_80 : decode cX6_place 80 = .ok (.iload 4, 2) := by decide +kernel
theorem dX6_place_82 : decode cX6_place 82 = .ok (.iconst 4, 1) := by decide +kernel
theorem dX6_place_83 : decode cX6_place 83 = .ok (.if_icmp .ge 67, 3) := by decide +kernel
theorem dX6_place_86 : decode cX6_place 86 = .ok (.aload_n 0, 1) := by decide +kernel
theorem dX6_place_87 : decode cX6_place 87 = .ok (.getfield 18, 3) := by decide +kernel
theorem dX6_place_90 : decode cX6_place 90 = .ok (.iload 4, 2) := by decide +kernel
theorem dX6_place_92 : decode cX6_place 92 = .ok (.iaload, 1) := by decide +kernel
theorem dX6_place_93 : decode cX6_place 93 = .ok (.istore 5, 2) := by decide +kernel
theorem dX6_place_95 : decode cX6_place 95 = .ok (.aload_n 0, 1) := by decide +kernel
theorem dX6_place_96 : decode cX6_place 96 = .ok (.getfield 18, 3) := by decide +kernel
theorem dX6_place_99 : decode cX6_place 99 = .ok (.iload 4, 2) := by decide +kernel
theorem dX6_place_101 : decode cX6_place 101 = .ok (.iload 5, 2) := by decide +kernel
theorem dX6_place_103 : decode cX6_place 103 = .ok (.iconst 1, 1) := by decide +kernel
theorem dX6_place_104 : decode cX6_place 104 = .ok (.iload_n 2, 1) := by decide +kernel
theorem dX6_place_105 : decode cX6_place 105 = .ok (.ishl, 1) := by decide +kernel
theorem dX6_place_106 : decode cX6_place 106 = .ok (.ior, 1) := by decide +kernel
theorem dX6_place_107 : decode cX6_place 107 = .ok (.iastore, 1) := by decide +kernel
theorem dX6_place_108 : decode cX6_place 108 = .ok (.aload_n 0, 1) := by decide +kernel
theorem dX6_place_109 : decode cX6_place 109 = .ok (.getfield 11, 3) := by decide +kernel
theorem dX6_place_112 : decode cX6_place 112 = .ok (.iload_n 2, 1) := by decide +kernel
theorem dX6_place_113 : decode cX6_place 113 = .ok (.iload 4, 2) := by decide +kernel
theorem dX6_place_115 : decode cX6_place 115 = .ok (.iastore, 1) := by decide +kernel
theorem dX6_place_116 : decode cX6_place 116 = .ok (.aload_n 0, 1) := by decide +kernel
theorem dX6_place_117 : decode cX6_place 117 = .ok (.aload_n 1, 1) := by decide +kernel
theorem dX6_place_118 : decode cX6_place 118 = .ok (.iload_n 2, 1) := by decide +kernel
theorem dX6_place_119 : decode cX6_place 119 = .ok (.iconst 1, 1) := by decide +kernel
theorem dX6_place_120 : decode cX6_place 120 = .ok (.iadd, 1) := by decide +kernel
theorem dX6_place_121 : decode cX6_place 121 = .ok (.iload_n 3, 1) := by decide +kernel
theorem dX6_place_122 : decode cX6_place 122 = .ok (.aload_n 1, 1) := by decide +kernel
theorem dX6_place_123 : decode cX6_place 123 = .ok (.getfield 42, 3) := by decide +kernel
theorem dX6_place_126 : decode cX6_place 126 = .ok (.getfield 103, 3) := by decide +kernel
theorem dX6_place_129 : decode cX6_place 129 = .ok (.iload_n 2, 1) := by decide +kernel
theorem dX6_place_130 : decode cX6_place 130 = .ok (.iaload, 1) := by decide +kernel
theorem dX6_place_131 : decode cX6_place 131 = .ok (.iadd, 1) := by decide +kernel
theorem dX6_place_132 : decode cX6_place 132 = .ok (.invokestatic 78, 3) := by decide +kernel
theorem dX6_place_135 : decode cX6_place 135 = .ok (.aload_n 0, 1) := by decide +kernel
theorem dX6_place_136 : decode cX6_place 136 = .ok (.getfield 18, 3) := by decide +kernel
theorem dX6_place_139 : decode cX6_place 139 = .ok (.iload 4, 2) := by decide +kernel
theorem dX6_place_141 : decode cX6_place 141 = .ok (.iload 5, 2) := by decide +kernel
theorem dX6_place_143 : decode cX6_place 143 = .ok (.iastore, 1) := by decide +kernel
theorem dX6_place_144 : decode cX6_place 144 = .ok (.iinc 4 1, 3) := by decide +kernel
theorem dX6_place_147 : decode cX6_place 147 = .ok (.goto (-76), 3) := by decide +kernel
theorem dX6_place_150 : decode cX6_place 150 = .ok (.aload_n 0, 1) := by decide +kernel
theorem dX6_place_151 : decode cX6_place 151 = .ok (.getfield 11, 3) := by decide +kernel
theorem dX6_place_154 : decode cX6_place 154 = .ok (.iload_n 2, 1) := by decide +kernel
theorem dX6_place_155 : decode cX6_place 155 = .ok (.iconst (-1), 1) := by decide +kernel
theorem dX6_place_156 : decode cX6_place 156 = .ok (.iastore, 1) := by decide +kernel
theorem dX6_place_157 : decode cX6_place 157 = .ok (.aload_n 0, 1) := by decide +kernel
theorem dX6_place_158 : decode cX6_place 158 = .ok (.aload_n 1, 1) := by decide +kernel
theorem dX6_place_159 : decode cX6_place 159 = .ok (.iload_n 2, 1) := by decide +kernel
theorem dX6_place_160 : decode cX6_place 160 = .ok (.iconst 1, 1) := by decide +kernel
theorem dX6_place_161 : decode cX6_place 161 = .ok (.iadd, 1) := by decide +kernel
theorem dX6_place_162 : decode cX6_place 162 = .ok (.iload_n 3, 1) := by decide +kernel
theorem dX6_place_163 : decode cX6_place 163 = .ok (.invokestatic 78, 3) := by decide +kernel
theorem dX6_place_166 : decode cX6_place 166 = .ok (.return_, 1) := by decide +kernel
theorem dX7_init_0 : decode cX7_init 0 = .ok (.aload_n 0, 1) := by decide +kernel
theorem dX7_init_1 : decode cX7_init 1 = .ok (.invokespecial 3, 3) := by decide +kernel
theorem dX7_init_4 : decode cX7_init 4 = .ok (.aload_n 0, 1) := by decide +kernel
theorem dX7_init_5 : decode cX7_init 5 = .ok (.bipush 12, 2) := by decide +kernel
theorem dX7_init_7 : decode cX7_init 7 = .ok (.newarray .int, 2) := by decide +kernel
theorem dX7_init_9 : decode cX7_init 9 = .ok (.putfield 9, 3) := by decide +kernel
theorem dX7_init_12 : decode cX7_init 12 = .ok (.aload_n 0, 1) := by decide +kernel
theorem dX7_init_13 : decode cX7_init 13 = .ok (.bipush 12, 2) := by decide +kernel
theorem dX7_init_15 : decode cX7_init 15 = .ok (.newarray .int, 2) := by decide +kernel
theorem dX7_init_17 : decode cX7_init 17 = .ok (.putfield 15, 3) := by decide +kernel
theorem dX7_init_20 : decode cX7_init 20 = .ok (.aload_n 0, 1) := by decide +kernel
theorem dX7_init_21 : decode cX7_init 21 = .ok (.iconst 0, 1) := by decide +kernel
theorem dX7_init_22 : decode cX7_init 22 = .ok (.putfield 18, 3) := by decide +kernel
theorem dX7_init_25 : decode cX7_init 25 = .ok (.return_, 1) := by decide +kernel
theorem dX7_add_0 : decode cX7_add 0 = .ok (.aload_n 0, 1) := by decide +kernel
theorem dX7_add_1 : decode cX7_add 1 = .ok (.getfield 18, 3) := by decide +kernel
theorem dX7_add_4 : decode cX7_add 4 = .ok (.bipush 12, 2) := by decide +kernel
theorem dX7_add_6 : decode cX7_add 6 = .ok (.invokestatic 22, 3) := by decide +kernel
theorem dX7_add_9 : decode cX7_add 9 = .ok (.ifCond .ne 5, 3) := by decide +kernel
theorem dX7_add_12 : decode cX7_add 12 = .ok (.iconst 0, 1) := by decide +kernel
theorem dX7_add_13 : decode cX7_add 13 = .ok (.ireturn, 1) := by decide +kernel
theorem dX7_add_14 : decode cX7_add 14 = .ok (.aload_n 0, 1) := by decide +kernel
theorem dX7_add_15 : decode cX7_add 15 = .ok (.getfield 9, 3) := by decide +kernel
theorem dX7_add_18 : decode cX7_add 18 = .ok (.aload_n 0, 1) := by decide +kernel
theorem dX7_add_19 : decode cX7_add 19 = .ok (.getfield 18, 3) := by decide +kernel
theorem dX7_add_22 : decode cX7_add 22 = .ok (.iload_n 1, 1) := by decide +kernel
theorem dX7_add_23 : decode cX7_add 23 = .ok (.iastore, 1) := by decide +kernel
theorem dX7_add_24 : decode cX7_add 24 = .ok (.aload_n 0, 1) := by decide +kernel
theorem dX7_add_25 : decode cX7_add 25 = .ok (.getfield 15, 3) := by decide +kernel
theorem dX7_add_28 : decode cX7_add 28 = .ok (.aload_n 0, 1) := by decide +kernel
theorem dX7_add_29 : decode cX7_add 29 = .ok (.getfield 18, 3) := by decide +kernel
theorem dX7_add_32 : decode cX7_add 32 = .ok (.iload_n 2, 1) := by decide +kernel
theorem dX7_add_33 : decode cX7_add 33 = .ok (.iastore, 1) := by decide +kernel
theorem dX7_add_34 : decode cX7_add 34 = .ok (.aload_n 0, 1) := by decide +kernel
theorem dX7_add_35 : decode cX7_add 35 = .ok (.dup, 1) := by decide +kernel
theorem dX7_add_36 : decode cX7_add 36 = .ok (.getfield 18, 3) := by decide +kernel
theorem dX7_add_39 : decode cX7_add 39 = .ok (.iconst 1, 1) := by decide +kernel
theorem dX7_add_40 : decode cX7_add 40 = .ok (.iadd, 1) := by decide +kernel
theorem dX7_add_41 : decode cX7_add 41 = .ok (.putfield 18, 3) := by decide +kernel
theorem dX7_add_44 : decode cX7_add 44 = .ok (.iconst 1, 1) := by decide +kernel
theorem dX7_add_45 : decode cX7_add 45 = .ok (.ireturn, 1) := by decide +kernel
theorem dX7_dropLast_0 : decode cX7_dropLast 0 = .ok (.aload_n 0, 1) := by decide +kernel
theorem dX7_dropLast_1 : decode cX7_dropLast 1 = .ok (.getfield 18, 3) := by decide +kernel
theorem dX7_dropLast_4 : decode cX7_dropLast 4 = .ok (.ifCond .gt 5, 3) := by decide +kernel
theorem dX7_dropLast_7 : decode cX7_dropLast 7 = .ok (.iconst 0, 1) := by decide +kernel
theorem dX7_dropLast_8 : decode cX7_dropLast 8 = .ok (.ireturn, 1) := by decide +kernel
theorem dX7_dropLast_9 : decode cX7_dropLast 9 = .ok (.aload_n 0, 1) := by decide +kernel
theorem dX7_dropLast_10 : decode cX7_dropLast 10 = .ok (.dup, 1) := by decide +kernel
theorem dX7_dropLast_11 : decode cX7_dropLast 11 = .ok (.getfield 18, 3) := by decide +kernel
theorem dX7_dropLast_14 : decode cX7_dropLast 14 = .ok (.iconst 1, 1) := by decide +kernel
theorem dX7_dropLast_15 : decode cX7_dropLast 15 = .ok (.isub, 1) := by decide +kernel
theorem dX7_dropLast_16 : decode cX7_dropLast 16 = .ok (.putfield 18, 3) := by decide +kernel
theorem dX7_dropLast_19 : decode cX7_dropLast 19 = .ok (.iconst 1, 1) := by decide +kernel
theorem dX7_dropLast_20 : decode cX7_dropLast 20 = .ok (.ireturn, 1) := by decide +kernel
theorem dX7_bitsBy_0 : decode cX7_bitsBy 0 = .ok (.iconst 0, 1) := by decide +kernel
theorem dX7_bitsBy_1 : decode cX7_bitsBy 1 = .ok (.istore_n 2, 1) := by decide +kernel
theorem dX7_bitsBy_2 : decode cX7_bitsBy 2 = .ok (.iconst 0, 1) := by decide +kernel
theorem dX7_bitsBy_3 : decode cX7_bitsBy 3 = .ok (.istore_n 3, 1) := by decide +kernel
theorem dX7_bitsBy_4 : decode cX7_bitsBy 4 = .ok (.iload_n 3, 1) := by decide +kernel
theorem dX7_bitsBy_5 : decode cX7_bitsBy 5 = .ok (.aload_n 0, 1) := by decide +kernel
theorem dX7_bitsBy_6 : decode cX7_bitsBy 6 = .ok (.getfield 18, 3) := by decide +kernel
theorem dX7_bitsBy_9 : decode cX7_bitsBy 9 = .ok (.if_icmp .ge 36, 3) := by decide +kernel
theorem dX7_bitsBy_12 : decode cX7_bitsBy 12 = .ok (.iload_n 3, 1) := by decide +kernel
theorem dX7_bitsBy_13 : decode cX7_bitsBy 13 = .ok (.bipush 12, 2) := by decide +kernel
theorem dX7_bitsBy_15 : decode cX7_bitsBy 15 = .ok (.if_icmp .ge 30, 3) := by decide +kernel
theorem dX7_bitsBy_18 : decode cX7_bitsBy 18 = .ok (.aload_n 0, 1) := by decide +kernel
theorem dX7_bitsBy_19 : decode cX7_bitsBy 19 = .ok (.getfield 9, 3) := by decide +kernel
theorem dX7_bitsBy_22 : decode cX7_bitsBy 22 = .ok (.iload_n 3, 1) := by decide +kernel
theorem dX7_bitsBy_23 : decode cX7_bitsBy 23 = .ok (.iaload, 1) := by decide +kernel
theorem dX7_bitsBy_24 : decode cX7_bitsBy 24 = .ok (.iload_n 1, 1) := by decide +kernel
theorem dX7_bitsBy_25 : decode cX7_bitsBy 25 = .ok (.if_icmp .ne 14, 3) := by decide +kernel
theorem dX7_bitsBy_28 : decode cX7_bitsBy 28 = .ok (.iload_n 2, 1) := by decide +kernel
theorem dX7_bitsBy_29 : decode cX7_bitsBy 29 = .ok (.iconst 1, 1) := by decide +kernel
theorem dX7_bitsBy_30 : decode cX7_bitsBy 30 = .ok (.aload_n 0, 1) := by decide +kernel
theorem dX7_bitsBy_31 : decode cX7_bitsBy 31 = .ok (.getfield 15, 3) := by decide +kernel
theorem dX7_bitsBy_34 : decode cX7_bitsBy 34 = .ok (.iload_n 3, 1) := by decide +kernel
theorem dX7_bitsBy_35 : decode cX7_bitsBy 35 = .ok (.iaload, 1) := by decide +kernel
theorem dX7_bitsBy_36 : decode cX7_bitsBy 36 = .ok (.ishl, 1) := by decide +kernel
theorem dX7_bitsBy_37 : decode cX7_bitsBy 37 = .ok (.ior, 1) := by decide +kernel
theorem dX7_bitsBy_38 : decode cX7_bitsBy 38 = .ok (.istore_n 2, 1) := by decide +kernel
theorem dX7_bitsBy_39 : decode cX7_bitsBy 39 = .ok (.iinc 3 1, 3) := by decide +kernel
theorem dX7_bitsBy_42 : decode cX7_bitsBy 42 = .ok (.goto (-38), 3) := by decide +kernel
theorem dX7_bitsBy_45 : decode cX7_bitsBy 45 = .ok (.iload_n 2, 1) := by decide +kernel
theorem dX7_bitsBy_46 : decode cX7_bitsBy 46 = .ok (.ireturn, 1) := by decide +kernel
theorem dX8_init_0 : decode cX8_init 0 = .ok (.aload_n 0, 1) := by decide +kernel
theorem dX8_init_1 : decode cX8_init 1 = .ok (.invokespecial 3, 3) := by decide +kernel
theorem dX8_init_4 : decode cX8_init 4 = .ok (.aload_n 0, 1) := by decide +kernel
theorem dX8_init_5 : decode cX8_init 5 = .ok (.bipush 60, 2) := by decide +kernel
theorem dX8_init_7 : decode cX8_init 7 = .ok (.newarray .int, 2) := by decide +kernel
theorem dX8_init_9 : decode cX8_init 9 = .ok (.putfield 9, 3) := by decide +kernel
theorem dX8_init_12 : decode cX8_init 12 = .ok (.aload_n 0, 1) := by decide +kernel
theorem dX8_init_13 : decode cX8_init 13 = .ok (.iconst 0, 1) := by decide +kernel
theorem dX8_init_14 : decode cX8_init 14 = .ok (.putfield 15, 3) := by decide +kernel
theorem dX8_init_17 : decode cX8_init 17 = .ok (.aload_n 0, 1) := by decide +kernel
theorem dX8_init_18 : decode cX8_init 18 = .ok (.iconst (-1), 1) := by decide +kernel
theorem dX8_init_19 : decode cX8_init 19 = .ok (.putfield 19, 3) := by decide +kernel
theorem dX8_init_22 : decode cX8_init 22 = .ok (.return_, 1) := by decide +kernel
theorem dX8_isLost_0 : decode cX8_isLost 0 = .ok (.aload_n 0, 1) := by decide +kernel
theorem dX8_isLost_1 : decode cX8_isLost 1 = .ok (.getfield 19, 3) := by decide +kernel
theorem dX8_isLost_4 : decode cX8_isLost 4 = .ok (.iconst (-1), 1) := by decide +kernel
theorem dX8_isLost_5 : decode cX8_isLost 5 = .ok (.if_icmp .ne 7, 3) := by decide +kernel
theorem dX8_isLost_8 : decode cX8_isLost 8 = .ok (.iconst 1, 1) := by decide +kernel
theorem dX8_isLost_9 : decode cX8_isLost 9 = .ok (.goto 4, 3) := by decide +kernel
theorem dX8_isLost_12 : decode cX8_isLost 12 = .ok (.iconst 0, 1) := by decide +kernel
theorem dX8_isLost_13 : decode cX8_isLost 13 = .ok (.ireturn, 1) := by decide +kernel
theorem dX8_renew_0 : decode cX8_renew 0 = .ok (.aload_n 0, 1) := by decide +kernel
theorem dX8_renew_1 : decode cX8_renew 1 = .ok (.getfield 9, 3) := by decide +kernel
theorem dX8_renew_4 : decode cX8_renew 4 = .ok (.iconst 0, 1) := by decide +kernel
theorem dX8_renew_5 : decode cX8_renew 5 = .ok (.invokestatic 22, 3) := by decide +kernel
theorem dX8_renew_8 : decode cX8_renew 8 = .ok (.aload_n 0, 1) := by decide +kernel
theorem dX8_renew_9 : decode cX8_renew 9 = .ok (.iload_n 1, 1) := by decide +kernel
theorem dX8_renew_10 : decode cX8_renew 10 = .ok (.putfield 15, 3) := by decide +kernel
theorem dX8_renew_13 : decode cX8_renew 13 = .ok (.aload_n 0, 1) := by decide +kernel
theorem dX8_renew_14 : decode cX8_renew 14 = .ok (.iload_n 2, 1) := by decide +kernel
theorem dX8_renew_15 : decode cX8_renew 15 = .ok (.putfield 19, 3) := by decide +kernel
theorem dX8_renew_18 : decode cX8_renew 18 = .ok (.return_, 1) := by decide +kernel
theorem dX8_hasItems_0 : decode cX8_hasItems 0 = .ok (.iload_n 2, 1) := by decide +kernel
theorem dX8_hasItems_1 : decode cX8_hasItems 1 = .ok (.ifCond .lt 29, 3) := by decide +kernel
theorem dX8_hasItems_4 : decode cX8_hasItems 4 = .ok (.iload_n 2, 1) := by decide +kernel
theorem dX8_hasItems_5 : decode cX8_hasItems 5 = .ok (.aload_n 0, 1) := by decide +kernel
theorem dX8_hasItems_6 : decode cX8_hasItems 6 = .ok (.getfield 19, 3) := by decide +kernel
theorem dX8_hasItems_9 : decode cX8_hasItems 9 = .ok (.if_icmp .gt 21, 3) := by decide +kernel
theorem dX8_hasItems_12 : decode cX8_hasItems 12 = .ok (.iload_n 1, 1) := by decide +kernel
theorem dX8_hasItems_13 : decode cX8_hasItems 13 = .ok (.ifCond .lt 17, 3) := by decide +kernel
theorem dX8_hasItems_16 : decode cX8_hasItems 16 = .ok (.iload_n 1, 1) := by decide +kernel
theorem dX8_hasItems_17 : decode cX8_hasItems 17 = .ok (.aload_n 0, 1) := by decide +kernel
theorem dX8_hasItems_18 : decode cX8_hasItems 18 = .ok (.getfield 19, 3) := by decide +kernel
theorem dX8_hasItems_21 : decode cX8_hasItems 21 = .ok (.iload_n 2, 1) := by decide +kernel
theorem dX8_hasItems_22 : decode cX8_hasItems 22 = .ok (.isub, 1) := by decide +kernel
theorem dX8_hasItems_23 : decode cX8_hasItems 23 = .ok (.if_icmp .gt 7, 3) := by decide +kernel
theorem dX8_hasItems_26 : decode cX8_hasItems 26 = .ok (.iconst 1, 1) := by decide +kernel
theorem dX8_hasItems_27 : decode cX8_hasItems 27 = .ok (.goto 4, 3) := by decide +kernel
theorem dX8_hasItems_30 : decode cX8_hasItems 30 = .ok (.iconst 0, 1) := by decide +kernel
theorem dX8_hasItems_31 : decode cX8_hasItems 31 = .ok (.ireturn, 1) := by decide +kernel
theorem dX8_findingAt_0 : decode cX8_findingAt 0 = .ok (.aload_n 0, 1) := by decide +kernel
theorem dX8_findingAt_1 : decode cX8_findingAt 1 = .ok (.invokevirtual 28, 3) := by decide +kernel
theorem dX8_findingAt_4 : decode cX8_findingAt 4 = .ok (.ifCond .eq 5, 3) := by decide +kernel
theorem dX8_findingAt_7 : decode cX8_findingAt 7 = .ok (.iconst 1, 1) := by decide +kernel
theorem dX8_findingAt_8 : decode cX8_findingAt 8 = .ok (.ireturn, 1) := by decide +kernel
theorem dX8_findingAt_9 : decode cX8_findingAt 9 = .ok (.aload_n 0, 1) := by decide +kernel
theorem dX8_findingAt_10 : decode cX8_findingAt 10 = .ok (.getfield 15, 3) := by decide +kernel
theorem dX8_findingAt_13 : decode cX8_findingAt 13 = .ok (.iload_n 1, 1) := by decide +kernel
theorem dX8_findingAt_14 : decode cX8_findingAt 14 = .ok (.if_icmp .eq 5, 3) := by decide +kernel
theorem dX8_findingAt_17 : decode cX8_findingAt 17 = .ok (.iconst 3, 1) := by decide +kernel
theorem dX8_findingAt_18 : decode cX8_findingAt 18 = .ok (.ireturn, 1) := by decide +kernel
theorem dX8_findingAt_19 : decode cX8_findingAt 19 = .ok (.iload_n 2, 1) := by decide +kernel
theorem dX8_findingAt_20 : decode cX8_findingAt 20 = .ok (.aload_n 0, 1) := by decide +kernel
theorem dX8_findingAt_21 : decode cX8_findingAt 21 = .ok (.getfield 19, 3) := by decide +kernel
theorem dX8_findingAt_24 : decode cX8_findingAt 24 = .ok (.invokestatic 32, 3) := by decide +kernel
theorem dX8_findingAt_27 : decode cX8_findingAt 27 = .ok (.ifCond .eq 7, 3) := by decide +kernel
theorem dX8_findingAt_30 : decode cX8_findingAt 30 = .ok (.iconst 0, 1) := by decide +kernel
theorem dX8_findingAt_31 : decode cX8_findingAt 31 = .ok (.goto 4, 3) := by decide +kernel
theorem dX8_findingAt_34 : decode cX8_findingAt 34 = .ok (.iconst 2, 1) := by decide +kernel
theorem dX8_findingAt_35 : decode cX8_findingAt 35 = .ok (.ireturn, 1) := by decide +kernel
theorem dX8_put_0 : decode cX8_put 0 = .ok (.iload_n 1, 1) := by decide +kernel
theorem dX8_put_1 : decode cX8_put 1 = .ok (.aload_n 0, 1) := by decide +kernel
theorem dX8_put_2 : decode cX8_put 2 = .ok (.getfield 19, 3) := by decide +kernel
theorem dX8_put_5 : decode cX8_put 5 = .ok (.invokestatic 32, 3) := by decide +kernel
theorem dX8_put_8 : decode cX8_put 8 = .ok (.ifCond .eq 44, 3) := by decide +kernel
theorem dX8_put_11 : decode cX8_put 11 = .ok (.iload_n 1, 1) := by decide +kernel
theorem dX8_put_12 : decode cX8_put 12 = .ok (.aload_n 0, 1) := by decide +kernel
theorem dX8_put_13 : decode cX8_put 13 = .ok (.getfield 9, 3) := by decide +kernel
theorem dX8_put_16 : decode cX8_put 16 = .ok (.arraylength, 1) := by decide +kernel
theorem dX8_put_17 : decode cX8_put 17 = .ok (.if_icmp .ge 35, 3) := by decide +kernel
theorem dX8_put_20 : decode cX8_put 20 = .ok (.aload_n 0, 1) := by decide +kernel
theorem dX8_put_21 : decode cX8_put 21 = .ok (.getfield 9, 3) := by decide +kernel
theorem dX8_put_24 : decode cX8_put 24 = .ok (.iload_n 1, 1) := by decide +kernel
theorem dX8_put_25 : decode cX8_put 25 = .ok (.aload_n 0, 1) := by decide +kernel
theorem dX8_put_26 : decode cX8_put 26 = .ok (.getfield 15, 3) := by decide +kernel
theorem dX8_put_29 : decode cX8_put 29 = .ok (.ifCond .ne 8, 3) := by decide +kernel
theorem dX8_put_32 : decode cX8_put 32 = .ok (.iload_n 2, 1) := by decide +kernel
theorem dX8_put_33 : decode cX8_put 33 = .ok (.i2b, 1) := by decide +kernel
theorem dX8_put_34 : decode cX8_put 34 = .ok (.goto 17, 3) := by decide +kernel
theorem dX8_put_37 : decode cX8_put 37 = .ok (.aload_n 0, 1) := by decide +kernel
theorem dX8_put_38 : decode cX8_put 38 = .ok (.getfield 15, 3) := by decide +kernel
theorem dX8_put_41 : decode cX8_put 41 = .ok (.iconst 1, 1) := by decide +kernel
theorem dX8_put_42 : decode cX8_put 42 = .ok (.if_icmp .ne 8, 3) := by decide +kernel
theorem dX8_put_45 : decode cX8_put 45 = .ok (.iload_n 2, 1) := by decide +kernel
theorem dX8_put_46 : decode cX8_put 46 = .ok (.i2s, 1) := by decide +kernel
theorem dX8_put_47 : decode cX8_put 47 = .ok (.goto 4, 3) := by decide +kernel
theorem dX8_put_50 : decode cX8_put 50 = .ok (.iload_n 2, 1) := by decide +kernel
theorem dX8_put_51 : decode cX8_put 51 = .ok (.iastore, 1) := by decide +kernel
theorem dX8_put_52 : decode cX8_put 52 = .ok (.return_, 1) := by decide +kernel
theorem dX8_itemAt_0 : decode cX8_itemAt 0 = .ok (.iload_n 1, 1) := by decide +kernel
theorem dX8_itemAt_1 : decode cX8_itemAt 1 = .ok (.aload_n 0, 1) := by decide +kernel
theorem dX8_itemAt_2 : decode cX8_itemAt 2 = .ok (.getfield 19, 3) := by decide +kernel
theorem dX8_itemAt_5 : decode cX8_itemAt 5 = .ok (.invokestatic 32, 3) := by decide +kernel
theorem dX8_itemAt_8 : decode cX8_itemAt 8 = .ok (.ifCond .eq 21, 3) := by decide +kernel
theorem dX8_itemAt_11 : decode cX8_itemAt 11 = .ok (.iload_n 1, 1) := by decide +kernel
theorem dX8_itemAt_12 : decode cX8_itemAt 12 = .ok (.aload_n 0, 1) := by decide +kernel
theorem dX8_itemAt_13 : decode cX8_itemAt 13 = .ok (.getfield 9, 3) := by decide +kernel
theorem dX8_itemAt_16 : decode cX8_itemAt 16 = .ok (.arraylength, 1) := by decide +kernel
theorem dX8_itemAt_17 : decode cX8_itemAt 17 = .ok (.if_icmp .ge 12, 3) := by decide +kernel
theorem dX8_itemAt_20 : decode cX8_itemAt 20 = .ok (.aload_n 0, 1) := by decide +kernel
theorem dX8_itemAt_21 : decode cX8_itemAt 21 = .ok (.getfield 9, 3) := by decide +kernel
theorem dX8_itemAt_24 : decode cX8_itemAt 24 = .ok (.iload_n 1, 1) := by decide +kernel
theorem dX8_itemAt_25 : decode cX8_itemAt 25 = .ok (.iaload, 1) := by decide +kernel
theorem dX8_itemAt_26 : decode cX8_itemAt 26 = .ok (.goto 4, 3) := by decide +kernel
theorem dX8_itemAt_29 : decode cX8_itemAt 29 = .ok (.iconst 0, 1) := by decide +kernel
theorem dX8_itemAt_30 : decode cX8_itemAt 30 = .ok (.ireturn, 1) := by decide +kernel
theorem dX9_init_0 : decode cX9_init 0 = .ok (.aload_n 0, 1) := by decide +kernel
theorem dX9_init_1 : decode cX9_init 1 = .ok (.invokespecial 3, 3) := by decide +kernel
theorem dX9_init_4 : decode cX9_init 4 = .ok (.aload_n 0, 1) := by decide +kernel
theorem dX9_init_5 : decode cX9_init 5 = .ok (.bipush 8, 2) := by decide +kernel
theorem dX9_init_7 : decode cX9_init 7 = .ok (.newarray .int, 2) := by decide +kernel
theorem dX9_init_9 : decode cX9_init 9 = .ok (.putfield 9, 3) := by decide +kernel
theorem dX9_init_12 : decode cX9_init 12 = .ok (.aload_n 0, 1) := by decide +kernel
theorem dX9_init_13 : decode cX9_init 13 = .ok (.bipush 8, 2) := by decide +kernel
theorem dX9_init_15 : decode cX9_init 15 = .ok (.newarray .int, 2) := by decide +kernel
theorem dX9_init_17 : decode cX9_init 17 = .ok (.putfield 15, 3) := by decide +kernel
theorem dX9_init_20 : decode cX9_init 20 = .ok (.aload_n 0, 1) := by decide +kernel
theorem dX9_init_21 : decode cX9_init 21 = .ok (.bipush 8, 2) := by decide +kernel
theorem dX9_init_23 : decode cX9_init 23 = .ok (.newarray .int, 2) := by decide +kernel
theorem dX9_init_25 : decode cX9_init 25 = .ok (.putfield 18, 3) := by decide +kernel
theorem dX9_init_28 : decode cX9_init 28 = .ok (.aload_n 0, 1) := by decide +kernel
theorem dX9_init_29 : decode cX9_init 29 = .ok (.iconst 0, 1) := by decide +kernel
theorem dX9_init_30 : decode cX9_init 30 = .ok (.putfield 21, 3) := by decide +kernel
theorem dX9_init_33 : decode cX9_init 33 = .ok (.return_, 1) := by decide +kernel
theorem dX9_mayBe_0 : decode cX9_mayBe 0 = .ok (.iload_n 0, 1) := by decide +kernel
theorem dX9_mayBe_1 : decode cX9_mayBe 1 = .ok (.bipush 24, 2) := by decide +kernel
theorem dX9_mayBe_3 : decode cX9_mayBe 3 = .ok (.invokestatic 25, 3) := by decide +kernel
theorem dX9_mayBe_6 : decode cX9_mayBe 6 = .ok (.ifCond .eq 30, 3) := by decide +kernel
theorem dX9_mayBe_9 : decode cX9_mayBe 9 = .ok (.iload_n 1, 1) := by decide +kernel
theorem dX9_mayBe_10 : decode cX9_mayBe 10 = .ok (.bipush 6, 2) := by decide +kernel
theorem dX9_mayBe_12 : decode cX9_mayBe 12 = .ok (.invokestatic 25, 3) := by decide +kernel
theorem dX9_mayBe_15 : decode cX9_mayBe 15 = .ok (.ifCond .eq 21, 3) := by decide +kernel
theorem dX9_mayBe_18 : decode cX9_mayBe 18 = .ok (.iload_n 2, 1) := by decide +kernel
theorem dX9_mayBe_19 : decode cX9_mayBe 19 = .ok (.iconst (-1), 1) := by decide +kernel
theorem dX9_mayBe_20 : decode cX9_mayBe 20 = .ok (.if_icmp .eq 12, 3) := by decide +kernel
theorem dX9_mayBe_23 : decode cX9_mayBe 23 = .ok (.iload_n 2, 1) := by decide +kernel
theorem dX9_mayBe_24 : decode cX9_mayBe 24 = .ok (.bipush 8, 2) := by decide +kernel
theorem dX9_mayBe_26 : decode cX9_mayBe 26 = .ok (.invokestatic 25, 3) := by decide +kernel
theorem dX9_mayBe_29 : decode cX9_mayBe 29 = .ok (.ifCond .eq 7, 3) := by decide +kernel
theorem dX9_mayBe_32 : decode cX9_mayBe 32 = .ok (.iconst 1, 1) := by decide +kernel
theorem dX9_mayBe_33 : decode cX9_mayBe 33 = .ok (.goto 4, 3) := by decide +kernel
theorem dX9_mayBe_36 : decode cX9_mayBe 36 = .ok (.iconst 0, 1) := by decide +kernel
theorem dX9_mayBe_37 : decode cX9_mayBe 37 = .ok (.ireturn, 1) := by decide +kernel
theorem dX9_add_0 : decode cX9_add 0 = .ok (.aload_n 0, 1) := by decide +kernel
theorem dX9_add_1 : decode cX9_add 1 = .ok (.getfield 21, 3) := by decide +kernel
theorem dX9_add_4 : decode cX9_add 4 = .ok (.bipush 8, 2) := by decide +kernel
theorem dX9_add_6 : decode cX9_add 6 = .ok (.invokestatic 25, 3) := by decide +kernel
theorem dX9_add_9 : decode cX9_add 9 = .ok (.ifCond .ne 5, 3) := by decide +kernel
theorem dX9_add_12 : decode cX9_add 12 = .ok (.iconst 0, 1) := by decide +kernel
theorem dX9_add_13 : decode cX9_add 13 = .ok (.ireturn, 1) := by decide +kernel
theorem dX9_add_14 : decode cX9_add 14 = .ok (.aload_n 0, 1) := by decide +kernel
theorem dX9_add_15 : decode cX9_add 15 = .ok (.getfield 9, 3) := by decide +kernel
theorem dX9_add_18 : decode cX9_add 18 = .ok (.aload_n 0, 1) := by decide +kernel
theorem dX9_add_19 : decode cX9_add 19 = .ok (.getfield 21, 3) := by decide +kernel
theorem dX9_add_22 : decode cX9_add 22 = .ok (.iload_n 1, 1) := by decide +kernel
theorem dX9_add_23 : decode cX9_add 23 = .ok (.iastore, 1) := by decide +kernel
theorem dX9_add_24 : decode cX9_add 24 = .ok (.aload_n 0, 1) := by decide +kernel
theorem dX9_add_25 : decode cX9_add 25 = .ok (.getfield 15, 3) := by decide +kernel
theorem dX9_add_28 : decode cX9_add 28 = .ok (.aload_n 0, 1) := by decide +kernel
theorem dX9_add_29 : decode cX9_add 29 = .ok (.getfield 21, 3) := by decide +kernel
theorem dX9_add_32 : decode cX9_add 32 = .ok (.iload_n 2, 1) := by decide +kernel
theorem dX9_add_33 : decode cX9_add 33 = .ok (.iastore, 1) := by decide +kernel
theorem dX9_add_34 : decode cX9_add 34 = .ok (.aload_n 0, 1) := by decide +kernel
theorem dX9_add_35 : decode cX9_add 35 = .ok (.getfield 18, 3) := by decide +kernel
theorem dX9_add_38 : decode cX9_add 38 = .ok (.aload_n 0, 1) := by decide +kernel
theorem dX9_add_39 : decode cX9_add 39 = .ok (.getfield 21, 3) := by decide +kernel
theorem dX9_add_42 : decode cX9_add 42 = .ok (.iload_n 3, 1) := by decide +kernel
theorem dX9_add_43 : decode cX9_add 43 = .ok (.iastore, 1) := by decide +kernel
theorem dX9_add_44 : decode cX9_add 44 = .ok (.aload_n 0, 1) := by decide +kernel
theorem dX9_add_45 : decode cX9_add 45 = .ok (.dup, 1) := by decide +kernel
theorem dX9_add_46 : decode cX9_add 46 = .ok (.getfield 21, 3) := by decide +kernel
theorem dX9_add_49 : decode cX9_add 49 = .ok (.iconst 1, 1) := by decide +kernel
theorem dX9_add_50 : decode cX9_add 50 = .ok (.iadd, 1) := by decide +kernel
theorem dX9_add_51 : decode cX9_add 51 = .ok (.putfield 21, 3) := by decide +kernel
theorem dX9_add_54 : decode cX9_add 54 = .ok (.iconst 1, 1) := by decide +kernel
theorem dX9_add_55 : decode cX9_add 55 = .ok (.ireturn, 1) := by decide +kernel
theorem dX9_addFrom_0 : decode cX9_addFrom 0 = .ok (.iconst 0, 1) := by decide +kernel
theorem dX9_addFrom_1 : decode cX9_addFrom 1 = .ok (.istore_n 2, 1) := by decide +kernel
theorem dX9_addFrom_2 : decode cX9_addFrom 2 = .ok (.iconst 0, 1) := by decide +kernel
theorem dX9_addFrom_3 : decode cX9_addFrom 3 = .ok (.istore_n 3, 1) := by decide +kernel
theorem dX9_addFrom_4 : decode cX9_addFrom 4 = .ok (.iload_n 3, 1) := by decide +kernel
theorem dX9_addFrom_5 : decode cX9_addFrom 5 = .ok (.iconst 2, 1) := by decide +kernel
theorem dX9_addFrom_6 : decode cX9_addFrom 6 = .ok (.iadd, 1) := by decide +kernel
theorem dX9_addFrom_7 : decode cX9_addFrom 7 = .ok (.aload_n 1, 1) := by decide +kernel
theorem dX9_addFrom_8 : decode cX9_addFrom 8 = .ok (.getfield 29, 3) := by decide +kernel
theorem dX9_addFrom_11 : decode cX9_addFrom 11 = .ok (.if_icmp .ge 64, 3) := by decide +kernel
theorem dX9_addFrom_14 : decode cX9_addFrom 14 = .ok (.aload_n 1, 1) := by decide +kernel
theorem dX9_addFrom_15 : decode cX9_addFrom 15 = .ok (.iload_n 3, 1) := by decide +kernel
theorem dX9_addFrom_16 : decode cX9_addFrom 16 = .ok (.invokevirtual 32, 3) := by decide +kernel
theorem dX9_addFrom_19 : decode cX9_addFrom 19 = .ok (.istore 4, 2) := by decide +kernel
theorem dX9_addFrom_21 : decode cX9_addFrom 21 = .ok (.aload_n 1, 1) := by decide +kernel
theorem dX9_addFrom_22 : decode cX9_addFrom 22 = .ok (.iload_n 3, 1) := by decide +kernel
theorem dX9_addFrom_23 : decode cX9_addFrom 23 = .ok (.iconst 1, 1) := by decide +kernel
theorem dX9_addFrom_24 : decode cX9_addFrom 24 = .ok (.iadd, 1) := by decide +kernel
theorem dX9_addFrom_25 : decode cX9_addFrom 25 = .ok (.invokevirtual 32, 3) := by decide +kernel
theorem dX9_addFrom_28 : decode cX9_addFrom 28 = .ok (.istore 5, 2) := by decide +kernel
theorem dX9_addFrom_30 : decode cX9_addFrom 30 = .ok (.aload_n 1, 1) := by decide +kernel
theorem dX9_addFrom_31 : decode cX9_addFrom 31 = .ok (.iload_n 3, 1) := by decide +kernel
theorem dX9_addFrom_32 : decode cX9_addFrom 32 = .ok (.iconst 2, 1) := by decide +kernel
theorem dX9_addFrom_33 : decode cX9_addFrom 33 = .ok (.iadd, 1) := by decide +kernel
theorem dX9_addFrom_34 : decode cX9_addFrom 34 = .ok (.invokevirtual 32, 3) := by decide +kernel
theorem dX9_addFrom_37 : decode cX9_addFrom 37 = .ok (.istore 6, 2) := by decide +kernel
theorem dX9_addFrom_39 : decode cX9_addFrom 39 = .ok (.iload 4, 2) := by decide +kernel
theorem dX9_addFrom_41 : decode cX9_addFrom 41 = .ok (.iload 5, 2) := by decide +kernel
theorem dX9_addFrom_43 : decode cX9_addFrom 43 = .ok (.iload 6, 2) := by decide +kernel
theorem dX9_addFrom_45 : decode cX9_addFrom 45 = .ok (.invokestatic 36, 3) := by decide +kernel
theorem dX9_addFrom_48 : decode cX9_addFrom 48 = .ok (.ifCond .eq 16, 3) := by decide +kernel
theorem dX9_addFrom_51 : decode cX9_addFrom 51 = .ok (.aload_n 0, 1) := by decide +kernel
theorem dX9_addFrom_52 : decode cX9_addFrom 52 = .ok (.iload 4, 2) := by decide +kernel
theorem dX9_addFrom_54 : decode cX9_addFrom 54 = .ok (.iload 5, 2) := by decide +kernel
theorem dX9_addFrom_56 : decode cX9_addFrom 56 = .ok (.iload 6, 2) := by decide +kernel
theorem dX9_addFrom_58 : decode cX9_addFrom 58 = .ok (.invokevirtual 40, 3) := by decide +kernel
theorem dX9_addFrom_61 : decode cX9_addFrom 61 = .ok (.ifCond .ne 5, 3) := by decide +kernel
theorem dX9_addFrom_64 : decode cX9_addFrom 64 = .ok (.iload_n 2, 1) := by decide +kernel
theorem dX9_addFrom_65 : decode cX9_addFrom 65 = .ok (.ireturn, 1) := by decide +kernel
theorem dX9_addFrom_66 : decode cX9_addFrom 66 = .ok (.iinc 2 1, 3) := by decide +kernel
theorem dX9_addFrom_69 : decode cX9_addFrom 69 = .ok (.iinc 3 3, 3) := by decide +kernel
theorem dX9_addFrom_72 : decode cX9_addFrom 72 = .ok (.goto (-68), 3) := by decide +kernel
theorem dX9_addFrom_75 : decode cX9_addFrom 75 = .ok (.iload_n 2, 1) := by decide +kernel
theorem dX9_addFrom_76 : decode cX9_addFrom 76 = .ok (.ireturn, 1) := by decide +kernel
theorem dX9_allComeOut_0 : decode cX9_allComeOut 0 = .ok (.iconst 0, 1) := by decide +kernel
theorem dX9_allComeOut_1 : decode cX9_allComeOut 1 = .ok (.istore_n 2, 1) := by decide +kernel
theorem dX9_allComeOut_2 : decode cX9_allComeOut 2 = .ok (.iload_n 2, 1) := by decide +kernel
theorem dX9_allComeOut_3 : decode cX9_allComeOut 3 = .ok (.aload_n 0, 1) := by decide +kernel
theorem dX9_allComeOut_4 : decode cX9_allComeOut 4 = .ok (.getfield 21, 3) := by decide +kernel
theorem dX9_allComeOut_7 : decode cX9_allComeOut 7 = .ok (.if_icmp .ge 71, 3) := by decide +kernel
theorem dX9_allComeOut_10 : decode cX9_allComeOut 10 = .ok (.iload_n 2, 1) := by decide +kernel
theorem dX9_allComeOut_11 : decode cX9_allComeOut 11 = .ok (.bipush 8, 2) := by decide +kernel
theorem dX9_allComeOut_13 : decode cX9_allComeOut 13 = .ok (.if_icmp .ge 65, 3) := by decide +kernel
theorem dX9_allComeOut_16 : decode cX9_allComeOut 16 = .ok (.aload_n 1, 1) := by decide +kernel
theorem dX9_allComeOut_17 : decode cX9_allComeOut 17 = .ok (.getfield 43, 3) := by decide +kernel
theorem dX9_allComeOut_20 : decode cX9_allComeOut 20 = .ok (.getfield 49, 3) := by decide +kernel
theorem dX9_allComeOut_23 : decode cX9_allComeOut 23 = .ok (.aload_n 0, 1) := by decide +kernel
theorem dX9_allComeOut_24 : decode cX9_allComeOut 24 = .ok (.getfield 15, 3) := by decide +kernel
theorem dX9_allComeOut_27 : decode cX9_allComeOut 27 = .ok (.iload_n 2, 1) := by decide +kernel
theorem dX9_allComeOut_28 : decode cX9_allComeOut 28 = .ok (.iaload, 1) := by decide +kernel
theorem dX9_allComeOut_29 : decode cX9_allComeOut 29 = .ok (.invokevirtual 55, 3) := by decide +kernel
theorem dX9_allComeOut_32 : decode cX9_allComeOut 32 = .ok (.istore_n 3, 1) := by decide +kernel
theorem dX9_allComeOut_33 : decode cX9_allComeOut 33 = .ok (.iload_n 3, 1) := by decide +kernel
theorem dX9_allComeOut_34 : decode cX9_allComeOut 34 = .ok (.ifCond .eq 22, 3) := by decide +kernel
theorem dX9_allComeOut_37 : decode cX9_allComeOut 37 = .ok (.aload_n 1, 1) := by decide +kernel
theorem dX9_allComeOut_38 : decode cX9_allComeOut 38 = .ok (.aload_n 0, 1) := by decide +kernel
theorem dX9_allComeOut_39 : decode cX9_allComeOut 39 = .ok (.getfield 15, 3) := by decide +kernel
theorem dX9_allComeOut_42 : decode cX9_allComeOut 42 = .ok (.iload_n 2, 1) := by decide +kernel
theorem dX9_allComeOut_43 : decode cX9_allComeOut 43 = .ok (.iaload, 1) := by decide +kernel
theorem dX9_allComeOut_44 : decode cX9_allComeOut 44 = .ok (.aload_n 0, 1) := by decide +kernel
theorem dX9_allComeOut_45 : decode cX9_allComeOut 45 = .ok (.getfield 9, 3) := by decide +kernel
theorem dX9_allComeOut_48 : decode cX9_allComeOut 48 = .ok (.iload_n 2, 1) := by decide +kernel
theorem dX9_allComeOut_49 : decode cX9_allComeOut 49 = .ok (.iaload, 1) := by decide +kernel
theorem dX9_allComeOut_50 : decode cX9_allComeOut 50 = .ok (.invokevirtual 61, 3) := by decide +kernel
theorem dX9_allComeOut_53 : decode cX9_allComeOut 53 = .ok (.goto 4, 3) := by decide +kernel
theorem dX9_allComeOut_56 : decode cX9_allComeOut 56 = .ok (.iconst (-1), 1) := by decide +kernel
theorem dX9_allComeOut_57 : decode cX9_allComeOut 57 = .ok (.istore 4, 2) := by decide +kernel
theorem dX9_allComeOut_59 : decode cX9_allComeOut 59 = .ok (.iload 4, 2) := by decide +kernel
theorem dX9_allComeOut_61 : decode cX9_allComeOut 61 = .ok (.aload_n 0, 1) := by decide +kernel
theorem dX9_allComeOut_62 : decode cX9_allComeOut 62 = .ok (.getfield 18, 3) := by decide +kernel
theorem dX9_allComeOut_65 : decode cX9_allComeOut 65 = .ok (.iload_n 2, 1) := by decide +kernel
theorem dX9_allComeOut_66 : decode cX9_allComeOut 66 = .ok (.iaload, 1) := by decide +kernel
theorem dX9_allComeOut_67 : decode cX9_allComeOut 67 = .ok (.if_icmp .eq 5, 3) := by decide +kernel
theorem dX9_allComeOut_70 : decode cX9_allComeOut 70 = .ok (.iconst 0, 1) := by decide +kernel
theorem dX9_allComeOut_71 : decode cX9_allComeOut 71 = .ok (.ireturn, 1) := by decide +kernel
theorem dX9_allComeOut_72 : decode cX9_allComeOut 72 = .ok (.iinc 2 1, 3) := by decide +kernel
theorem dX9_allComeOut_75 : decode cX9_allComeOut 75 = .ok (.goto (-73), 3) := by decide +kernel
theorem dX9_allComeOut_78 : decode cX9_allComeOut 78 = .ok (.iconst 1, 1) := by decide +kernel
theorem dX9_allComeOut_79 : decode cX9_allComeOut 79 = .ok (.ireturn, 1) := by decide +kernel
theorem dX10_init_0 : decode cX10_init 0 = .ok (.aload_n 0, 1) := by decide +kernel
theorem dX10_init_1 : decode cX10_init 1 = .ok (.invokespecial 3, 3) := by decide +kernel
theorem dX10_init_4 : decode cX10_init 4 = .ok (.aload_n 0, 1) := by decide +kernel
theorem dX10_init_5 : decode cX10_init 5 = .ok (.bipush 42, 2) := by decide +kernel
theorem dX10_init_7 : decode cX10_init 7 = .ok (.newarray .int, 2) := by decide +kernel
theorem dX10_init_9 : decode cX10_init 9 = .ok (.putfield 9, 3) := by decide +kernel
theorem dX10_init_12 : decode cX10_init 12 = .ok (.aload_n 0, 1) := by decide +kernel
theorem dX10_init_13 : decode cX10_init 13 = .ok (.getfield 9, 3) := by decide +kernel
theorem dX10_init_16 : decode cX10_init 16 = .ok (.iconst 1, 1) := by decide +kernel
theorem dX10_init_17 : decode cX10_init 17 = .ok (.invokestatic 15, 3) := by decide +kernel
theorem dX10_init_20 : decode cX10_init 20 = .ok (.return_, 1) := by decide +kernel
theorem dX10_change_0 : decode cX10_change 0 = .ok (.iload_n 1, 1) := by decide +kernel
theorem dX10_change_1 : decode cX10_change 1 = .ok (.bipush 7, 2) := by decide +kernel
theorem dX10_change_3 : decode cX10_change 3 = .ok (.imul, 1) := by decide +kernel
theorem dX10_change_4 : decode cX10_change 4 = .ok (.iload_n 2, 1) := by decide +kernel
theorem dX10_change_5 : decode cX10_change 5 = .ok (.iadd, 1) := by decide +kernel
theorem dX10_change_6 : decode cX10_change 6 = .ok (.istore 4, 2) := by decide +kernel
theorem dX10_change_8 : decode cX10_change 8 = .ok (.iload 4, 2) := by decide +kernel
theorem dX10_change_10 : decode cX10_change 10 = .ok (.aload_n 0, 1) := by decide +kernel
theorem dX10_change_11 : decode cX10_change 11 = .ok (.getfield 9, 3) := by decide +kernel
theorem dX10_change_14 : decode cX10_change 14 = .ok (.arraylength, 1) := by decide +kernel
theorem dX10_change_15 : decode cX10_change 15 = .ok (.invokestatic 21, 3) := by decide +kernel
theorem dX10_change_18 : decode cX10_change 18 = .ok (.ifCond .ne 6, 3) := by decide +kernel
theorem dX10_change_21 : decode cX10_change 21 = .ok (.bipush (-2), 2) := by decide +kernel
theorem dX10_change_23 : decode cX10_change 23 = .ok (.ireturn, 1) := by decide +kernel
theorem dX10_change_24 : decode cX10_change 24 = .ok (.aload_n 0, 1) := by decide +kernel
theorem dX10_change_25 : decode cX10_change 25 = .ok (.getfield 9, 3) := by decide +kernel
theorem dX10_change_28 : decode cX10_change 28 = .ok (.iload 4, 2) := by decide +kernel
theorem dX10_change_30 : decode cX10_change 30 = .ok (.iaload, 1) := by decide +kernel
theorem dX10_change_31 : decode cX10_change 31 = .ok (.istore 5, 2) := by decide +kernel
theorem dX10_change_33 : decode cX10_change 33 = .ok (.aload_n 0, 1) := by decide +kernel
theorem dX10_change_34 : decode cX10_change 34 = .ok (.getfield 9, 3) := by decide +kernel
theorem dX10_change_37 : decode cX10_change 37 = .ok (.iload 4, 2) := by decide +kernel
theorem dX10_change_39 : decode cX10_change 39 = .ok (.iload_n 3, 1) := by decide +kernel
theorem dX10_change_40 : decode cX10_change 40 = .ok (.iastore, 1) := by decide +kernel
theorem dX10_change_41 : decode cX10_change 41 = .ok (.iload 5, 2) := by decide +kernel
theorem dX10_change_43 : decode cX10_change 43 = .ok (.ireturn, 1) := by decide +kernel
theorem dX10_divide_0 : decode cX10_divide 0 = .ok (.bipush 127, 2) := by decide +kernel
theorem dX10_divide_2 : decode cX10_divide 2 = .ok (.istore_n 3, 1) := by decide +kernel
theorem dX10_divide_3 : decode cX10_divide 3 = .ok (.aload_n 0, 1) := by decide +kernel
theorem dX10_divide_4 : decode cX10_divide 4 = .ok (.iload_n 1, 1) := by decide +kernel
theorem dX10_divide_5 : decode cX10_divide 5 = .ok (.iload_n 3, 1) := by decide +kernel
theorem dX10_divide_6 : decode cX10_divide 6 = .ok (.invokevirtual 25, 3) := by decide +kernel
theorem dX10_divide_9 : decode cX10_divide 9 = .ok (.istore 4, 2) := by decide +kernel
theorem dX10_divide_11 : decode cX10_divide 11 = .ok (.aload_n 0, 1) := by decide +kernel
theorem dX10_divide_12 : decode cX10_divide 12 = .ok (.iload_n 2, 1) := by decide +kernel
theorem dX10_divide_13 : decode cX10_divide 13 = .ok (.iload_n 3, 1) := by decide +kernel
theorem dX10_divide_14 : decode cX10_divide 14 = .ok (.invokevirtual 25, 3) := by decide +kernel
theorem dX10_divide_17 : decode cX10_divide 17 = .ok (.istore 5, 2) := by decide +kernel
theorem dX10_divide_19 : decode cX10_divide 19 = .ok (.iconst (-1), 1) := by decide +kernel
theorem dX10_divide_20 : decode cX10_divide 20 = .ok (.istore 6, 2) := by decide +kernel
theorem dX10_divide_22 : decode cX10_divide 22 = .ok (.iconst (-1), 1) := by decide +kernel
theorem dX10_divide_23 : decode cX10_divide 23 = .ok (.istore 7, 2) := by decide +kernel
theorem dX10_divide_25 : decode cX10_divide 25 = .ok (.iconst 0, 1) := by decide +kernel
theorem dX10_divide_26 : decode cX10_divide 26 = .ok (.istore 8, 2) := by decide +kernel
theorem dX10_divide_28 : decode cX10_divide 28 = .ok (.iload 8, 2) := by decide +kernel
theorem dX10_divide_30 : decode cX10_divide 30 = .ok (.iload_n 3, 1) := by decide +kernel
theorem dX10_divide_31 : decode cX10_divide 31 = .ok (.if_icmp .gt 83, 3) := by decide +kernel
theorem dX10_divide_34 : decode cX10_divide 34 = .ok (.aload_n 0, 1) := by decide +kernel
theorem dX10_divide_35 : decode cX10_divide 35 = .ok (.iload_n 1, 1) := by decide +kernel
theorem dX10_divide_36 : decode cX10_divide 36 = .ok (.iload 8, 2) := by decide +kernel
theorem dX10_divide_38 : decode cX10_divide 38 = .ok (.invokevirtual 25, 3) := by decide +kernel
theorem dX10_divide_41 : decode cX10_divide 41 = .ok (.istore 9, 2) := by decide +kernel
theorem dX10_divide_43 : decode cX10_divide 43 = .ok (.iload 5, 2) := by decide +kernel
theorem dX10_divide_45 : decode cX10_divide 45 = .ok (.aload_n 0, 1) := by decide +kernel
theorem dX10_divide_46 : decode cX10_divide 46 = .ok (.iload_n 2, 1) := by decide +kernel
theorem dX10_divide_47 : decode cX10_divide 47 = .ok (.iload 8, 2) := by decide +kernel
theorem dX10_divide_49 : decode cX10_divide 49 = .ok (.invokevirtual 25, 3) := by decide +kernel
theorem dX10_divide_52 : decode cX10_divide 52 = .ok (.isub, 1) := by decide +kernel
theorem dX10_divide_53 : decode cX10_divide 53 = .ok (.istore 10, 2) := by decide +kernel
theorem dX10_divide_55 : decode cX10_divide 55 = .ok (.iload 9, 2) := by decide +kernel
theorem dX10_divide_57 : decode cX10_divide 57 = .ok (.iload 4, 2) := by decide +kernel
theorem dX10_divide_59 : decode cX10_divide 59 = .ok (.iload 9, 2) := by decide +kernel
theorem dX10_divide_61 : decode cX10_divide 61 = .ok (.isub, 1) := by decide +kernel
theorem dX10_divide_62 : decode cX10_divide 62 = .ok (.if_icmp .lt 13, 3) := by decide +kernel
theorem dX10_divide_65 : decode cX10_divide 65 = .ok (.iload 10, 2) := by decide +kernel
theorem dX10_divide_67 : decode cX10_divide 67 = .ok (.iload 5, 2) := by decide +kernel
theorem dX10_divide_69 : decode cX10_divide 69 = .ok (.iload 10, 2) := by decide +kernel
theorem dX10_divide_71 : decode cX10_divide 71 = .ok (.isub, 1) := by decide +kernel
theorem dX10_divide_72 : decode cX10_divide 72 = .ok (.if_icmp .ge 7, 3) := by decide +kernel
theorem dX10_divide_75 : decode cX10_divide 75 = .ok (.iconst 1, 1) := by decide +kernel
theorem dX10_divide_76 : decode cX10_divide 76 = .ok (.goto 4, 3) := by decide +kernel
theorem dX10_divide_79 : decode cX10_divide 79 = .ok (.iconst 0, 1) := by decide +kernel
theorem dX10_divide_80 : decode cX10_divide 80 = .ok (.istore 11, 2) := by decide +kernel
theorem dX10_divide_82 : decode cX10_divide 82 = .ok (.iload 11, 2) := by decide +kernel
theorem dX10_divide_84 : decode cX10_divide 84 = .ok (.ifCond .ne 24, 3) := by decide +kernel
theorem dX10_divide_87 : decode cX10_divide 87 = .ok (.iload 9, 2) := by decide +kernel
theorem dX10_divide_89 : decode cX10_divide 89 = .ok (.iload 10, 2) := by decide +kernel
theorem dX10_divide_91 : decode cX10_divide 91 = .ok (.iadd, 1) := by decide +kernel
theorem dX10_divide_92 : decode cX10_divide 92 = .ok (.iload 7, 2) := by decide +kernel
theorem dX10_divide_94 : decode cX10_divide 94 = .ok (.if_icmp .le 14, 3) := by decide +kernel
theorem dX10_divide_97 : decode cX10_divide 97 = .ok (.iload 8, 2) := by decide +kernel
theorem dX10_divide_99 : decode cX10_divide 99 = .ok (.istore 6, 2) := by decide +kernel
theorem dX10_divide_101 : decode cX10_divide 101 = .ok (.iload 9, 2) := by decide +kernel
theorem dX10_divide_103 : decode cX10_divide 103 = .ok (.iload 10, 2) := by decide +kernel
theorem dX10_divide_105 : decode cX10_divide 105 = .ok (.iadd, 1) := by decide +kernel
theorem dX10_divide_106 : decode cX10_divide 106 = .ok (.istore 7, 2) := by decide +kernel
theorem dX10_divide_108 : decode cX10_divide 108 = .ok (.iinc 8 1, 3) := by decide +kernel
theorem dX10_divide_111 : decode cX10_divide 111 = .ok (.goto (-83), 3) := by decide +kernel
theorem dX10_divide_114 : decode cX10_divide 114 = .ok (.iload 6, 2) := by decide +kernel
theorem dX10_divide_116 : decode cX10_divide 116 = .ok (.ireturn, 1) := by decide +kernel
theorem dX10_bothHave_0 : decode cX10_bothHave 0 = .ok (.aload_n 0, 1) := by decide +kernel
theorem dX10_bothHave_1 : decode cX10_bothHave 1 = .ok (.iload_n 1, 1) := by decide +kernel
theorem dX10_bothHave_2 : decode cX10_bothHave 2 = .ok (.iload_n 3, 1) := by decide +kernel
theorem dX10_bothHave_3 : decode cX10_bothHave 3 = .ok (.invokevirtual 25, 3) := by decide +kernel
theorem dX10_bothHave_6 : decode cX10_bothHave 6 = .ok (.aload_n 0, 1) := by decide +kernel
theorem dX10_bothHave_7 : decode cX10_bothHave 7 = .ok (.iload_n 2, 1) := by decide +kernel
theorem dX10_bothHave_8 : decode cX10_bothHave 8 = .ok (.iload_n 3, 1) := by decide +kernel
theorem dX10_bothHave_9 : decode cX10_bothHave 9 = .ok (.iconst (-1), 1) := by decide +kernel
theorem dX10_bothHave_10 : decode cX10_bothHave 10 = .ok (.ixor, 1) := by decide +kernel
theorem dX10_bothHave_11 : decode cX10_bothHave 11 = .ok (.invokevirtual 25, 3) := by decide +kernel
theorem dX10_bothHave_14 : decode cX10_bothHave 14 = .ok (.iadd, 1) := by decide +kernel
theorem dX10_bothHave_15 : decode cX10_bothHave 15 = .ok (.ireturn, 1) := by decide +kernel
theorem dX10_sumOf_0 : decode cX10_sumOf 0 = .ok (.iconst 0, 1) := by decide +kernel
theorem dX10_sumOf_1 : decode cX10_sumOf 1 = .ok (.istore_n 3, 1) := by decide +kernel
theorem dX10_sumOf_2 : decode cX10_sumOf 2 = .ok (.iconst 0, 1) := by decide +kernel
theorem dX10_sumOf_3 : decode cX10_sumOf 3 = .ok (.istore 4, 2) := by decide +kernel
theorem dX10_sumOf_5 : decode cX10_sumOf 5 = .ok (.iload 4, 2) := by decide +kernel
theorem dX10_sumOf_7 : decode cX10_sumOf 7 = .ok (.bipush 7, 2) := by decide +kernel
theorem dX10_sumOf_9 : decode cX10_sumOf 9 = .ok (.if_icmp .ge 50, 3) := by decide +kernel
theorem dX10_sumOf_12 : decode cX10_sumOf 12 = .ok (.iload_n 1, 1) := by decide +kernel
theorem dX10_sumOf_13 : decode cX10_sumOf 13 = .ok (.bipush 7, 2) := by decide +kernel
theorem dX10_sumOf_15 : decode cX10_sumOf 15 = .ok (.imul, 1) := by decide +kernel
theorem dX10_sumOf_16 : decode cX10_sumOf 16 = .ok (.iload 4, 2) := by decide +kernel
theorem dX10_sumOf_18 : decode cX10_sumOf 18 = .ok (.iadd, 1) := by decide +kernel
theorem dX10_sumOf_19 : decode cX10_sumOf 19 = .ok (.istore 5, 2) := by decide +kernel
theorem dX10_sumOf_21 : decode cX10_sumOf 21 = .ok (.iload_n 2, 1) := by decide +kernel
theorem dX10_sumOf_22 : decode cX10_sumOf 22 = .ok (.iload 4, 2) := by decide +kernel
theorem dX10_sumOf_24 : decode cX10_sumOf 24 = .ok (.invokestatic 29, 3) := by decide +kernel
theorem dX10_sumOf_27 : decode cX10_sumOf 27 = .ok (.ifCond .eq 26, 3) := by decide +kernel
theorem dX10_sumOf_30 : decode cX10_sumOf 30 = .ok (.iload 5, 2) := by decide +kernel
theorem dX10_sumOf_32 : decode cX10_sumOf 32 = .ok (.aload_n 0, 1) := by decide +kernel
theorem dX10_sumOf_33 : decode cX10_sumOf 33 = .ok (.getfield 9, 3) := by decide +kernel
theorem dX10_sumOf_36 : decode cX10_sumOf 36 = .ok (.arraylength, 1) := by decide +kernel
theorem dX10_sumOf_37 : decode cX10_sumOf 37 = .ok (.invokestatic 21, 3) := by decide +kernel
theorem dX10_sumOf_40 : decode cX10_sumOf 40 = .ok (.ifCond .eq 13, 3) := by decide +kernel
theorem dX10_sumOf_43 : decode cX10_sumOf 43 = .ok (.iload_n 3, 1) := by decide +kernel
theorem dX10_sumOf_44 : decode cX10_sumOf 44 = .ok (.aload_n 0, 1) := by decide +kernel
theorem dX10_sumOf_45 : decode cX10_sumOf 45 = .ok (.getfield 9, 3) := by decide +kernel
theorem dX10_sumOf_48 : decode cX10_sumOf 48 = .ok (.iload 5, 2) := by decide +kernel
theorem dX10_sumOf_50 : decode cX10_sumOf 50 = .ok (.iaload, 1) := by decide +kernel
theorem dX10_sumOf_51 : decode cX10_sumOf 51 = .ok (.iadd, 1) := by decide +kernel
theorem dX10_sumOf_52 : decode cX10_sumOf 52 = .ok (.istore_n 3, 1) := by decide +kernel
theorem dX10_sumOf_53 : decode cX10_sumOf 53 = .ok (.iinc 4 1, 3) := by decide +kernel
theorem dX10_sumOf_56 : decode cX10_sumOf 56 = .ok (.goto (-51), 3) := by decide +kernel
theorem dX10_sumOf_59 : decode cX10_sumOf 59 = .ok (.iload_n 3, 1) := by decide +kernel
theorem dX10_sumOf_60 : decode cX10_sumOf 60 = .ok (.ireturn, 1) := by decide +kernel
theorem dX11_init_0 : decode cX11_init 0 = .ok (.aload_n 0, 1) := by decide +kernel
theorem dX11_init_1 : decode cX11_init 1 = .ok (.invokespecial 1, 3) := by decide +kernel
theorem dX11_init_4 : decode cX11_init 4 = .ok (.aload_n 0, 1) := by decide +kernel
theorem dX11_init_5 : decode cX11_init 5 = .ok (.new 7, 3) := by decide +kernel
theorem dX11_init_8 : decode cX11_init 8 = .ok (.dup, 1) := by decide +kernel
theorem dX11_init_9 : decode cX11_init 9 = .ok (.invokespecial 9, 3) := by decide +kernel
theorem dX11_init_12 : decode cX11_init 12 = .ok (.putfield 10, 3) := by decide +kernel
theorem dX11_init_15 : decode cX11_init 15 = .ok (.aload_n 0, 1) := by decide +kernel
theorem dX11_init_16 : decode cX11_init 16 = .ok (.new 16, 3) := by decide +kernel
theorem dX11_init_19 : decode cX11_init 19 = .ok (.dup, 1) := by decide +kernel
theorem dX11_init_20 : decode cX11_init 20 = .ok (.invokespecial 18, 3) := by decide +kernel
theorem dX11_init_23 : decode cX11_init 23 = .ok (.putfield 19, 3) := by decide +kernel
theorem dX11_init_26 : decode cX11_init 26 = .ok (.aload_n 0, 1) := by decide +kernel
theorem dX11_init_27 : decode cX11_init 27 = .ok (.new 23, 3) := by decide +kernel
theorem dX11_init_30 : decode cX11_init 30 = .ok (.dup, 1) := by decide +kernel
theorem dX11_init_31 : decode cX11_init 31 = .ok (.invokespecial 25, 3) := by decide +kernel
theorem dX11_init_34 : decode cX11_init 34 = .ok (.putfield 26, 3) := by decide +kernel
theorem dX11_init_37 : decode cX11_init 37 = .ok (.aload_n 0, 1) := by decide +kernel
theorem dX11_init_38 : decode cX11_init 38 = .ok (.new 30, 3) := by decide +kernel
theorem dX11_init_41 : decode cX11_init 41 = .ok (.dup, 1) := by decide +kernel
theorem dX11_init_42 : decode cX11_init 42 = .ok (.invokespecial 32, 3) := by decide +kernel
theorem dX11_init_45 : decode cX11_init 45 = .ok (.putfield 33, 3) := by decide +kernel
theorem dX11_init_48 : decode cX11_init 48 = .ok (.aload_n 0, 1) := by decide +kernel
theorem dX11_init_49 : decode cX11_init 49 = .ok (.iconst 4, 1) := by decide +kernel
theorem dX11_init_50 : decode cX11_init 50 = .ok (.anewarray 37, 3) := by decide +kernel
theorem dX11_init_53 : decode cX11_init 53 = .ok (.putfield 39, 3) := by decide +kernel
theorem dX11_init_56 : decode cX11_init 56 = .ok (.aload_n 0, 1) := by decide +kernel
theorem dX11_init_57 : decode cX11_init 57 = .ok (.iconst 0, 1) := by decide +kernel
theorem dX11_init_58 : decode cX11_init 58 = .ok (.putfield 43, 3) := by decide +kernel
theorem dX11_init_61 : decode cX11_init 61 = .ok (.iconst 0, 1) := by decide +kernel
theorem dX11_init_62 : decode cX11_init 62 = .ok (.istore_n 1, 1) := by decide +kernel
theorem dX11_init_63 : decode cX11_init 63 = .ok (.iload_n 1, 1) := by decide +kernel
theorem dX11_init_64 : decode cX11_init 64 = .ok (.iconst 4, 1) := by decide +kernel
theorem dX11_init_65 : decode cX11_init 65 = .ok (.if_icmp .ge 31, 3) := by decide +kernel
theorem dX11_init_68 : decode cX11_init 68 = .ok (.iload_n 1, 1) := by decide +kernel
theorem dX11_init_69 : decode cX11_init 69 = .ok (.aload_n 0, 1) := by decide +kernel
theorem dX11_init_70 : decode cX11_init 70 = .ok (.getfield 39, 3) := by decide +kernel
theorem dX11_init_73 : decode cX11_init 73 = .ok (.arraylength, 1) := by decide +kernel
theorem dX11_init_74 : decode cX11_init 74 = .ok (.if_icmp .ge 22, 3) := by decide +kernel
theorem dX11_init_77 : decode cX11_init 77 = .ok (.aload_n 0, 1) := by decide +kernel
theorem dX11_init_78 : decode cX11_init 78 = .ok (.getfield 39, 3) := by decide +kernel
theorem dX11_init_81 : decode cX11_init 81 = .ok (.iload_n 1, 1) := by decide +kernel
theorem dX11_init_82 : decode cX11_init 82 = .ok (.new 37, 3) := by decide +kernel
theorem dX11_init_85 : decode cX11_init 85 = .ok (.dup, 1) := by decide +kernel
theorem dX11_init_86 : decode cX11_init 86 = .ok (.invokespecial 47, 3) := by decide +kernel
theorem dX11_init_89 : decode cX11_init 89 = .ok (.aastore, 1) := by decide +kernel
theorem dX11_init_90 : decode cX11_init 90 = .ok (.iinc 1 1, 3) := by decide +kernel
theorem dX11_init_93 : decode cX11_init 93 = .ok (.goto (-30), 3) := by decide +kernel
theorem dX11_init_96 : decode cX11_init 96 = .ok (.return_, 1) := by decide +kernel
theorem dX11_type_0 : decode cX11_type 0 = .ok (.iload_n 1, 1) := by decide +kernel
theorem dX11_type_1 : decode cX11_type 1 = .ok (.iconst 3, 1) := by decide +kernel
theorem dX11_type_2 : decode cX11_type 2 = .ok (.invokestatic 48, 3) := by decide +kernel
theorem dX11_type_5 : decode cX11_type 5 = .ok (.ifCond .eq 13, 3) := by decide +kernel
theorem dX11_type_8 : decode cX11_type 8 = .ok (.iload_n 2, 1) := by decide +kernel
theorem dX11_type_9 : decode cX11_type 9 = .ok (.sipush 256, 3) := by decide +kernel
theorem dX11_type_12 : decode cX11_type 12 = .ok (.invokestatic 48, 3) := by decide +kernel
theorem dX11_type_15 : decode cX11_type 15 = .ok (.ifCond .ne 6, 3) := by decide +kernel
theorem dX11_type_18 : decode cX11_type 18 = .ok (.bipush (-2), 2) := by decide +kernel
theorem dX11_type_20 : decode cX11_type 20 = .ok (.ireturn, 1) := by decide +kernel
theorem dX11_type_21 : decode cX11_type 21 = .ok (.aload_n 0, 1) := by decide +kernel
theorem dX11_type_22 : decode cX11_type 22 = .ok (.iload_n 1, 1) := by decide +kernel
theorem dX11_type_23 : decode cX11_type 23 = .ok (.invokevirtual 52, 3) := by decide +kernel
theorem dX11_type_26 : decode cX11_type 26 = .ok (.astore_n 3, 1) := by decide +kernel
theorem dX11_type_27 : decode cX11_type 27 = .ok (.aload_n 3, 1) := by decide +kernel
theorem dX11_type_28 : decode cX11_type 28 = .ok (.iload_n 2, 1) := by decide +kernel
theorem dX11_type_29 : decode cX11_type 29 = .ok (.invokevirtual 56, 3) := by decide +kernel
theorem dX11_type_32 : decode cX11_type 32 = .ok (.ifCond .ne 6, 3) := by decide +kernel
theorem dX11_type_35 : decode cX11_type 35 = .ok (.bipush (-4), 2) := by decide +kernel
theorem dX11_type_37 : decode cX11_type 37 = .ok (.ireturn, 1) := by decide +kernel
theorem dX11_type_38 : decode cX11_type 38 = .ok (.aload_n 0, 1) := by decide +kernel
theorem dX11_type_39 : decode cX11_type 39 = .ok (.getfield 33, 3) := by decide +kernel
theorem dX11_type_42 : decode cX11_type 42 = .ok (.iconst 0, 1) := by decide +kernel
theorem dX11_type_43 : decode cX11_type 43 = .ok (.putfield 62, 3) := by decide +kernel
theorem dX11_type_46 : decode cX11_type 46 = .ok (.aload_n 3, 1) := by decide +kernel
theorem dX11_type_47 : decode cX11_type 47 = .ok (.getfield 66, 3) := by decide +kernel
theorem dX11_type_50 : decode cX11_type 50 = .ok (.ireturn, 1) := by decide +kernel
theorem dX11_wipe_0 : decode cX11_wipe 0 = .ok (.iload_n 1, 1) := by decide +kernel
theorem dX11_wipe_1 : decode cX11_wipe 1 = .ok (.iconst 3, 1) := by decide +kernel
theorem dX11_wipe_2 : decode cX11_wipe 2 = .ok (.invokestatic 48, 3) := by decide +kernel
theorem dX11_wipe_5 : decode cX11_wipe 5 = .ok (.ifCond .ne 6, 3) := by decide +kernel
theorem dX11_wipe_8 : decode cX11_wipe 8 = .ok (.bipush (-2), 2) := by decide +kernel
theorem dX11_wipe_10 : decode cX11_wipe 10 = .ok (.ireturn, 1) := by decide +kernel
theorem dX11_wipe_11 : decode cX11_wipe 11 = .ok (.aload_n 0, 1) := by decide +kernel
theorem dX11_wipe_12 : decode cX11_wipe 12 = .ok (.iload_n 1, 1) := by decide +kernel
theorem dX11_wipe_13 : decode cX11_wipe 13 = .ok (.invokevirtual 52, 3) := by decide +kernel
theorem dX11_wipe_16 : decode cX11_wipe 16 = .ok (.astore_n 2, 1) := by decide +kernel
theorem dX11_wipe_17 : decode cX11_wipe 17 = .ok (.aload_n 2, 1) := by decide +kernel
theorem dX11_wipe_18 : decode cX11_wipe 18 = .ok (.getfield 66, 3) := by decide +kernel
theorem dX11_wipe_21 : decode cX11_wipe 21 = .ok (.istore_n 3, 1) := by decide +kernel
theorem dX11_wipe_22 : decode cX11_wipe 22 = .ok (.aload_n 2, 1) := by decide +kernel
theorem dX11_wipe_23 : decode cX11_wipe 23 = .ok (.iconst 0, 1) := by decide +kernel
theorem dX11_wipe_24 : decode cX11_wipe 24 = .ok (.invokevirtual 69, 3) := by decide +kernel
theorem dX11_wipe_27 : decode cX11_wipe 27 = .ok (.aload_n 0, 1) := by decide +kernel
theorem dX11_wipe_28 : decode cX11_wipe 28 = .ok (.getfield 33, 3) := by decide +kernel
theorem dX11_wipe_31 : decode cX11_wipe 31 = .ok (.iconst 0, 1) := by decide +kernel
theorem dX11_wipe_32 : decode cX11_wipe 32 = .ok (.putfield 62, 3) := by decide +kernel
theorem dX11_wipe_35 : decode cX11_wipe 35 = .ok (.iload_n 3, 1) := by decide +kernel
theorem dX11_wipe_36 : decode cX11_wipe 36 = .ok (.ireturn, 1) := by decide +kernel
theorem dX11_undo_0 : decode cX11_undo 0 = .ok (.iload_n 1, 1) := by decide +kernel
theorem dX11_undo_1 : decode cX11_undo 1 = .ok (.iconst 3, 1) := by decide +kernel
theorem dX11_undo_2 : decode cX11_undo 2 = .ok (.invokestatic 48, 3) := by decide +kernel
theorem dX11_undo_5 : decode cX11_undo 5 = .ok (.ifCond .ne 6, 3) := by decide +kernel
theorem dX11_undo_8 : decode cX11_undo 8 = .ok (.bipush (-2), 2) := by decide +kernel
theorem dX11_undo_10 : decode cX11_undo 10 = .ok (.ireturn, 1) := by decide +kernel
theorem dX11_undo_11 : decode cX11_undo 11 = .ok (.aload_n 0, 1) := by decide +kernel
theorem dX11_undo_12 : decode cX11_undo 12 = .ok (.iload_n 1, 1) := by decide +kernel
theorem dX11_undo_13 : decode cX11_undo 13 = .ok (.invokevirtual 52, 3) := by decide +kernel
theorem dX11_undo_16 : decode cX11_undo 16 = .ok (.astore_n 2, 1) := by decide +kernel
theorem dX11_undo_17 : decode cX11_undo 17 = .ok (.aload_n 2, 1) := by decide +kernel
theorem dX11_undo_18 : decode cX11_undo 18 = .ok (.getfield 66, 3) := by decide +kernel
theorem dX11_undo_21 : decode cX11_undo 21 = .ok (.ifCond .ne 6, 3) := by decide +kernel
theorem dX11_undo_24 : decode cX11_undo 24 = .ok (.bipush (-3), 2) := by decide +kernel
theorem dX11_undo_26 : decode cX11_undo 26 = .ok (.ireturn, 1) := by decide +kernel
theorem dX11_undo_27 : decode cX11_undo 27 = .ok (.aload_n 2, 1) := by decide +kernel
theorem dX11_undo_28 : decode cX11_undo 28 = .ok (.aload_n 2, 1) := by decide +kernel
theorem dX11_undo_29 : decode cX11_undo 29 = .ok (.getfield 66, 3) := by decide +kernel
theorem dX11_undo_32 : decode cX11_undo 32 = .ok (.iconst 1, 1) := by decide +kernel
theorem dX11_undo_33 : decode cX11_undo 33 = .ok (.isub, 1) := by decide +kernel
theorem dX11_undo_34 : decode cX11_undo 34 = .ok (.invokevirtual 69, 3) := by decide +kernel
theorem dX11_undo_37 : decode cX11_undo 37 = .ok (.aload_n 0, 1) := by decide +kernel
theorem dX11_undo_38 : decode cX11_undo 38 = .ok (.getfield 33, 3) := by decide +kernel
theorem dX11_undo_41 : decode cX11_undo 41 = .ok (.iconst 0, 1) := by decide +kernel
theorem dX11_undo_42 : decode cX11_undo 42 = .ok (.putfield 62, 3) := by decide +kernel
theorem dX11_undo_45 : decode cX11_undo 45 = .ok (.aload_n 2, 1) := by decide +kernel
theorem dX11_undo_46 : decode cX11_undo 46 = .ok (.getfield 66, 3) := by decide +kernel
theorem dX11_undo_49 : decode cX11_undo 49 = .ok (.ireturn, 1) := by decide +kernel
theorem dX11_fault_0 : decode cX11_fault 0 = .ok (.iload_n 1, 1) := by decide +kernel
theorem dX11_fault_1 : decode cX11_fault 1 = .ok (.iconst 3, 1) := by decide +kernel
theorem dX11_fault_2 : decode cX11_fault 2 = .ok (.invokestatic 48, 3) := by decide +kernel
theorem dX11_fault_5 : decode cX11_fault 5 = .ok (.ifCond .eq 14, 3) := by decide +kernel
theorem dX11_fault_8 : decode cX11_fault 8 = .ok (.aload_n 0, 1) := by decide +kernel
theorem dX11_fault_9 : decode cX11_fault 9 = .ok (.iload_n 1, 1) := by decide +kernel
theorem dX11_fault_10 : decode cX11_fault 10 = .ok (.invokevirtual 52, 3) := by decide +kernel
theorem dX11_fault_13 : decode cX11_fault 13 = .ok (.getfield 73, 3) := by decide +kernel
theorem dX11_fault_16 : decode cX11_fault 16 = .ok (.goto 5, 3) := by decide +kernel
theorem dX11_fault_19 : decode cX11_fault 19 = .ok (.bipush (-2), 2) := by decide +kernel
theorem dX11_fault_21 : decode cX11_fault 21 = .ok (.ireturn, 1) := by decide +kernel
theorem dX11_habit_0 : decode cX11_habit 0 = .ok (.aload_n 0, 1) := by decide +kernel
theorem dX11_habit_1 : decode cX11_habit 1 = .ok (.getfield 10, 3) := by decide +kernel
theorem dX11_habit_4 : decode cX11_habit 4 = .ok (.getfield 76, 3) := by decide +kernel
theorem dX11_habit_7 : decode cX11_habit 7 = .ok (.getfield 80, 3) := by decide +kernel
theorem dX11_habit_10 : decode cX11_habit 10 = .ok (.astore_n 3, 1) := by decide +kernel
theorem dX11_habit_11 : decode cX11_habit 11 = .ok (.aload_n 3, 1) := by decide +kernel
theorem dX11_habit_12 : decode cX11_habit 12 = .ok (.iload_n 1, 1) := by decide +kernel
theorem dX11_habit_13 : decode cX11_habit 13 = .ok (.invokevirtual 86, 3) := by decide +kernel
theorem dX11_habit_16 : decode cX11_habit 16 = .ok (.ifCond .eq 12, 3) := by decide +kernel
theorem dX11_habit_19 : decode cX11_habit 19 = .ok (.iload_n 1, 1) := by decide +kernel
theorem dX11_habit_20 : decode cX11_habit 20 = .ok (.bipush 8, 2) := by decide +kernel
theorem dX11_habit_22 : decode cX11_habit 22 = .ok (.invokestatic 48, 3) := by decide +kernel
theorem dX11_habit_25 : decode cX11_habit 25 = .ok (.ifCond .ne 6, 3) := by decide +kernel
theorem dX11_habit_28 : decode cX11_habit 28 = .ok (.bipush (-2), 2) := by decide +kernel
theorem dX11_habit_30 : decode cX11_habit 30 = .ok (.ireturn, 1) := by decide +kernel
theorem dX11_habit_31 : decode cX11_habit 31 = .ok (.iload_n 2, 1) := by decide +kernel
theorem dX11_habit_32 : decode cX11_habit 32 = .ok (.tableswitch 71 0 4 #[36, 43, 50, 57, 64], 36) := by decide +kernel
theorem dX11_habit_68 : decode cX11_habit 68 = .ok (.aload_n 3, 1) := by decide +kernel
theorem dX11_habit_69 : decode cX11_habit 69 = .ok (.getfield 91, 3) := by decide +kernel
theorem dX11_habit_72 : decode cX11_habit 72 = .ok (.iload_n 1, 1) := by decide +kernel
theorem dX11_habit_73 : decode cX11_habit 73 = .ok (.iaload, 1) := by decide +kernel
theorem dX11_habit_74 : decode cX11_habit 74 = .ok (.ireturn, 1) := by decide +kernel
theorem dX11_habit_75 : decode cX11_habit 75 = .ok (.aload_n 3, 1) := by decide +kernel
theorem dX11_habit_76 : decode cX11_habit 76 = .ok (.getfield 95, 3) := by decide +kernel
theorem dX11_habit_79 : decode cX11_habit 79 = .ok (.iload_n 1, 1) := by decide +kernel
theorem dX11_habit_80 : decode cX11_habit 80 = .ok (.iaload, 1) := by decide +kernel
theorem dX11_habit_81 : decode cX11_habit 81 = .ok (.ireturn, 1) := by decide +kernel
theorem dX11_habit_82 : decode cX11_habit 82 = .ok (.aload_n 3, 1) := by decide +kernel
theorem dX11_habit_83 : decode cX11_habit 83 = .ok (.getfield 98, 3) := by decide +kernel
theorem dX11_habit_86 : decode cX11_habit 86 = .ok (.iload_n 1, 1) := by decide +kernel
theorem dX11_habit_87 : decode cX11_habit 87 = .ok (.iaload, 1) := by decide +kernel
theorem dX11_habit_88 : decode cX11_habit 88 = .ok (.ireturn, 1) := by decide +kernel
theorem dX11_habit_89 : decode cX11_habit 89 = .ok (.aload_n 3, 1) := by decide +kernel
theorem dX11_habit_90 : decode cX11_habit 90 = .ok (.getfield 101, 3) := by decide +kernel
theorem dX11_habit_93 : decode cX11_habit 93 = .ok (.iload_n 1, 1) := by decide +kernel
theorem dX11_habit_94 : decode cX11_habit 94 = .ok (.iaload, 1) := by decide +kernel
theorem dX11_habit_95 : decode cX11_habit 95 = .ok (.ireturn, 1) := by decide +kernel
theorem dX11_habit_96 : decode cX11_habit 96 = .ok (.aload_n 3, 1) := by decide +kernel
theorem dX11_habit_97 : decode cX11_habit 97 = .ok (.getfield 104, 3) := by decide +kernel
theorem dX11_habit_100 : decode cX11_habit 100 = .ok (.iload_n 1, 1) := by decide +kernel
theorem dX11_habit_101 : decode cX11_habit 101 = .ok (.iaload, 1) := by decide +kernel
theorem dX11_habit_102 : decode cX11_habit 102 = .ok (.ireturn, 1) := by decide +kernel
theorem dX11_habit_103 : decode cX11_habit 103 = .ok (.bipush (-2), 2) := by decide +kernel
theorem dX11_habit_105 : decode cX11_habit 105 = .ok (.ireturn, 1) := by decide +kernel
theorem dX11_heir_0 : decode cX11_heir 0 = .ok (.aload_n 0, 1) := by decide +kernel
theorem dX11_heir_1 : decode cX11_heir 1 = .ok (.getfield 10, 3) := by decide +kernel
theorem dX11_heir_4 : decode cX11_heir 4 = .ok (.getfield 76, 3) := by decide +kernel
theorem dX11_heir_7 : decode cX11_heir 7 = .ok (.getfield 107, 3) := by decide +kernel
theorem dX11_heir_10 : decode cX11_heir 10 = .ok (.astore_n 3, 1) := by decide +kernel
theorem dX11_heir_11 : decode cX11_heir 11 = .ok (.aload_n 3, 1) := by decide +kernel
theorem dX11_heir_12 : decode cX11_heir 12 = .ok (.iload_n 1, 1) := by decide +kernel
theorem dX11_heir_13 : decode cX11_heir 13 = .ok (.invokevirtual 111, 3) := by decide +kernel
theorem dX11_heir_16 : decode cX11_heir 16 = .ok (.ifCond .eq 12, 3) := by decide +kernel
theorem dX11_heir_19 : decode cX11_heir 19 = .ok (.iload_n 1, 1) := by decide +kernel
theorem dX11_heir_20 : decode cX11_heir 20 = .ok (.bipush 6, 2) := by decide +kernel
theorem dX11_heir_22 : decode cX11_heir 22 = .ok (.invokestatic 48, 3) := by decide +kernel
theorem dX11_heir_25 : decode cX11_heir 25 = .ok (.ifCond .ne 6, 3) := by decide +kernel
theorem dX11_heir_28 : decode cX11_heir 28 = .ok (.bipush (-2), 2) := by decide +kernel
theorem dX11_heir_30 : decode cX11_heir 30 = .ok (.ireturn, 1) := by decide +kernel
theorem dX11_heir_31 : decode cX11_heir 31 = .ok (.iload_n 2, 1) := by decide +kernel
theorem dX11_heir_32 : decode cX11_heir 32 = .ok (.tableswitch 49 0 2 #[28, 35, 42], 28) := by decide +kernel
theorem dX11_heir_60 : decode cX11_heir 60 = .ok (.aload_n 3, 1) := by decide +kernel
theorem dX11_heir_61 : decode cX11_heir 61 = .ok (.getfield 114, 3) := by decide +kernel
theorem dX11_heir_64 : decode cX11_heir 64 = .ok (.iload_n 1, 1) := by decide +kernel
theorem dX11_heir_65 : decode cX11_heir 65 = .ok (.iaload, 1) := by decide +kernel
theorem dX11_heir_66 : decode cX11_heir 66 = .ok (.ireturn, 1) := by decide +kernel
theorem dX11_heir_67 : decode cX11_heir 67 = .ok (.aload_n 3, 1) := by decide +kernel
theorem dX11_heir_68 : decode cX11_heir 68 = .ok (.getfield 117, 3) := by decide +kernel
theorem dX11_heir_71 : decode cX11_heir 71 = .ok (.iload_n 1, 1) := by decide +kernel
theorem dX11_heir_72 : decode cX11_heir 72 = .ok (.iaload, 1) := by decide +kernel
theorem dX11_heir_73 : decode cX11_heir 73 = .ok (.ireturn, 1) := by decide +kernel
theorem dX11_heir_74 : decode cX11_heir 74 = .ok (.aload_n 3, 1) := by decide +kernel
theorem dX11_heir_75 : decode cX11_heir 75 = .ok (.getfield 120, 3) := by decide +kernel
theorem dX11_heir_78 : decode cX11_heir 78 = .ok (.iload_n 1, 1) := by decide +kernel
theorem dX11_heir_79 : decode cX11_heir 79 = .ok (.iaload, 1) := by decide +kernel
theorem dX11_heir_80 : decode cX11_heir 80 = .ok (.ireturn, 1) := by decide +kernel
theorem dX11_heir_81 : decode cX11_heir 81 = .ok (.bipush (-2), 2) := by decide +kernel
theorem dX11_heir_83 : decode cX11_heir 83 = .ok (.ireturn, 1) := by decide +kernel
theorem dX11_clause_0 : decode cX11_clause 0 = .ok (.aload_n 0, 1) := by decide +kernel
theorem dX11_clause_1 : decode cX11_clause 1 = .ok (.getfield 10, 3) := by decide +kernel
theorem dX11_clause_4 : decode cX11_clause 4 = .ok (.getfield 123, 3) := by decide +kernel
theorem dX11_clause_7 : decode cX11_clause 7 = .ok (.astore_n 3, 1) := by decide +kernel
theorem dX11_clause_8 : decode cX11_clause 8 = .ok (.aload_n 3, 1) := by decide +kernel
theorem dX11_clause_9 : decode cX11_clause 9 = .ok (.iload_n 1, 1) := by decide +kernel
theorem dX11_clause_10 : decode cX11_clause 10 = .ok (.invokevirtual 127, 3) := by decide +kernel
theorem dX11_clause_13 : decode cX11_clause 13 = .ok (.ifCond .eq 12, 3) := by decide +kernel
theorem dX11_clause_16 : decode cX11_clause 16 = .ok (.iload_n 1, 1) := by decide +kernel
theorem dX11_clause_17 : decode cX11_clause 17 = .ok (.bipush 15, 2) := by decide +kernel
theorem dX11_clause_19 : decode cX11_clause 19 = .ok (.invokestatic 48, 3) := by decide +kernel
theorem dX11_clause_22 : decode cX11_clause 22 = .ok (.ifCond .ne 6, 3) := by decide +kernel
theorem dX11_clause_25 : decode cX11_clause 25 = .ok (.bipush (-2), 2) := by decide +kernel
theorem dX11_clause_27 : decode cX11_clause 27 = .ok (.ireturn, 1) := by decide +kernel
theorem dX11_clause_28 : decode cX11_clause 28 = .ok (.iload_n 2, 1) := by decide +kernel
theorem dX11_clause_29 : decode cX11_clause 29 = .ok (.tableswitch 59 0 3 #[31, 38, 45, 52], 31) := by decide +kernel
theorem dX11_clause_60 : decode cX11_clause 60 = .ok (.aload_n 3, 1) := by decide +kernel
theorem dX11_clause_61 : decode cX11_clause 61 = .ok (.getfield 130, 3) := by decide +kernel
theorem dX11_clause_64 : decode cX11_clause 64 = .ok (.iload_n 1, 1) := by decide +kernel
theorem dX11_clause_65 : decode cX11_clause 65 = .ok (.iaload, 1) := by decide +kernel
theorem dX11_clause_66 : decode cX11_clause 66 = .ok (.ireturn, 1) := by decide +kernel
theorem dX11_clause_67 : decode cX11_clause 67 = .ok (.aload_n 3, 1) := by decide +kernel
theorem dX11_clause_68 : decode cX11_clause 68 = .ok (.getfield 133, 3) := by decide +kernel
theorem dX11_clause_71 : decode cX11_clause 71 = .ok (.iload_n 1, 1) := by decide +kernel
theorem dX11_clause_72 : decode cX11_clause 72 = .ok (.iaload, 1) := by decide +kernel
theorem dX11_clause_73 : decode cX11_clause 73 = .ok (.ireturn, 1) := by decide +kernel
theorem dX11_clause_74 : decode cX11_clause 74 = .ok (.aload_n 3, 1) := by decide +kernel
theorem dX11_clause_75 : decode cX11_clause 75 = .ok (.getfield 136, 3) := by decide +kernel
theorem dX11_clause_78 : decode cX11_clause 78 = .ok (.iload_n 1, 1) := by decide +kernel
theorem dX11_clause_79 : decode cX11_clause 79 = .ok (.iaload, 1) := by decide +kernel
theorem dX11_clause_80 : decode cX11_clause 80 = .ok (.ireturn, 1) := by decide +kernel
theorem dX11_clause_81 : decode cX11_clause 81 = .ok (.aload_n 3, 1) := by decide +kernel
theorem dX11_clause_82 : decode cX11_clause 82 = .ok (.getfield 139, 3) := by decide +kernel
theorem dX11_clause_85 : decode cX11_clause 85 = .ok (.iload_n 1, 1) := by decide +kernel
theorem dX11_clause_86 : decode cX11_clause 86 = .ok (.iaload, 1) := by decide +kernel
theorem dX11_clause_87 : decode cX11_clause 87 = .ok (.ireturn, 1) := by decide +kernel
theorem dX11_clause_88 : decode cX11_clause 88 = .ok (.bipush (-2), 2) := by decide +kernel
theorem dX11_clause_90 : decode cX11_clause 90 = .ok (.ireturn, 1) := by decide +kernel
theorem dX11_refuse_0 : decode cX11_refuse 0 = .ok (.iload_n 1, 1) := by decide +kernel
theorem dX11_refuse_1 : decode cX11_refuse 1 = .ok (.bipush 6, 2) := by decide +kernel
theorem dX11_refuse_3 : decode cX11_refuse 3 = .ok (.invokestatic 48, 3) := by decide +kernel
theorem dX11_refuse_6 : decode cX11_refuse 6 = .ok (.ifCond .eq 12, 3) := by decide +kernel
theorem dX11_refuse_9 : decode cX11_refuse 9 = .ok (.iload_n 2, 1) := by decide +kernel
theorem dX11_refuse_10 : decode cX11_refuse 10 = .ok (.bipush 8, 2) := by decide +kernel
theorem dX11_refuse_12 : decode cX11_refuse 12 = .ok (.invokestatic 48, 3) := by decide +kernel
theorem dX11_refuse_15 : decode cX11_refuse 15 = .ok (.ifCond .ne 6, 3) := by decide +kernel
theorem dX11_refuse_18 : decode cX11_refuse 18 = .ok (.bipush (-2), 2) := by decide +kernel
theorem dX11_refuse_20 : decode cX11_refuse 20 = .ok (.ireturn, 1) := by decide +kernel
theorem dX11_refuse_21 : decode cX11_refuse 21 = .ok (.aload_n 0, 1) := by decide +kernel
theorem dX11_refuse_22 : decode cX11_refuse 22 = .ok (.getfield 10, 3) := by decide +kernel
theorem dX11_refuse_25 : decode cX11_refuse 25 = .ok (.getfield 142, 3) := by decide +kernel
theorem dX11_refuse_28 : decode cX11_refuse 28 = .ok (.iload_n 1, 1) := by decide +kernel
theorem dX11_refuse_29 : decode cX11_refuse 29 = .ok (.iload_n 2, 1) := by decide +kernel
theorem dX11_refuse_30 : decode cX11_refuse 30 = .ok (.invokevirtual 146, 3) := by decide +kernel
theorem dX11_refuse_33 : decode cX11_refuse 33 = .ok (.ifCond .eq 16, 3) := by decide +kernel
theorem dX11_refuse_36 : decode cX11_refuse 36 = .ok (.aload_n 0, 1) := by decide +kernel
theorem dX11_refuse_37 : decode cX11_refuse 37 = .ok (.getfield 10, 3) := by decide +kernel
theorem dX11_refuse_40 : decode cX11_refuse 40 = .ok (.getfield 142, 3) := by decide +kernel
theorem dX11_refuse_43 : decode cX11_refuse 43 = .ok (.getfield 151, 3) := by decide +kernel
theorem dX11_refuse_46 : decode cX11_refuse 46 = .ok (.goto 5, 3) := by decide +kernel
theorem dX11_refuse_49 : decode cX11_refuse 49 = .ok (.bipush (-4), 2) := by decide +kernel
theorem dX11_refuse_51 : decode cX11_refuse 51 = .ok (.ireturn, 1) := by decide +kernel
theorem dX11_back_0 : decode cX11_back 0 = .ok (.aload_n 0, 1) := by decide +kernel
theorem dX11_back_1 : decode cX11_back 1 = .ok (.getfield 10, 3) := by decide +kernel
theorem dX11_back_4 : decode cX11_back 4 = .ok (.getfield 142, 3) := by decide +kernel
theorem dX11_back_7 : decode cX11_back 7 = .ok (.invokevirtual 154, 3) := by decide +kernel
theorem dX11_back_10 : decode cX11_back 10 = .ok (.ifCond .eq 16, 3) := by decide +kernel
theorem dX11_back_13 : decode cX11_back 13 = .ok (.aload_n 0, 1) := by decide +kernel
theorem dX11_back_14 : decode cX11_back 14 = .ok (.getfield 10, 3) := by decide +kernel
theorem dX11_back_17 : decode cX11_back 17 = .ok (.getfield 142, 3) := by decide +kernel
theorem dX11_back_20 : decode cX11_back 20 = .ok (.getfield 151, 3) := by decide +kernel
theorem dX11_back_23 : decode cX11_back 23 = .ok (.goto 5, 3) := by decide +kernel
theorem dX11_back_26 : decode cX11_back 26 = .ok (.bipush (-3), 2) := by decide +kernel
theorem dX11_back_28 : decode cX11_back 28 = .ok (.ireturn, 1) := by decide +kernel
theorem dX11_value_0 : decode cX11_value 0 = .ok (.iload_n 1, 1) := by decide +kernel
theorem dX11_value_1 : decode cX11_value 1 = .ok (.bipush 6, 2) := by decide +kernel
theorem dX11_value_3 : decode cX11_value 3 = .ok (.invokestatic 48, 3) := by decide +kernel
theorem dX11_value_6 : decode cX11_value 6 = .ok (.ifCond .eq 21, 3) := by decide +kernel
theorem dX11_value_9 : decode cX11_value 9 = .ok (.iload_n 2, 1) := by decide +kernel
theorem dX11_value_10 : decode cX11_value 10 = .ok (.bipush 7, 2) := by decide +kernel
theorem dX11_value_12 : decode cX11_value 12 = .ok (.invokestatic 48, 3) := by decide +kernel
theorem dX11_value_15 : decode cX11_value 15 = .ok (.ifCond .eq 12, 3) := by decide +kernel
theorem dX11_value_18 : decode cX11_value 18 = .ok (.iload_n 3, 1) := by decide +kernel
theorem dX11_value_19 : decode cX11_value 19 = .ok (.bipush 10, 2) := by decide +kernel
theorem dX11_value_21 : decode cX11_value 21 = .ok (.invokestatic 48, 3) := by decide +kernel
theorem dX11_value_24 : decode cX11_value 24 = .ok (.ifCond .ne 6, 3) := by decide +kernel
theorem dX11_value_27 : decode cX11_value 27 = .ok (.bipush (-2), 2) := by decide +kernel
theorem dX11_value_29 : decode cX11_value 29 = .ok (.ireturn, 1) := by decide +kernel
theorem dX11_value_30 : decode cX11_value 30 = .ok (.aload_n 0, 1) := by decide +kernel
theorem dX11_value_31 : decode cX11_value 31 = .ok (.getfield 19, 3) := by decide +kernel
theorem dX11_value_34 : decode cX11_value 34 = .ok (.iload_n 1, 1) := by decide +kernel
theorem dX11_value_35 : decode cX11_value 35 = .ok (.iload_n 2, 1) := by decide +kernel
theorem dX11_value_36 : decode cX11_value 36 = .ok (.iload_n 3, 1) := by decide +kernel
theorem dX11_value_37 : decode cX11_value 37 = .ok (.invokevirtual 158, 3) := by decide +kernel
theorem dX11_value_40 : decode cX11_value 40 = .ok (.ireturn, 1) := by decide +kernel
theorem dX11_with_0 : decode cX11_with 0 = .ok (.aload_n 0, 1) := by decide +kernel
theorem dX11_with_1 : decode cX11_with 1 = .ok (.getfield 10, 3) := by decide +kernel
theorem dX11_with_4 : decode cX11_with 4 = .ok (.getfield 76, 3) := by decide +kernel
theorem dX11_with_7 : decode cX11_with 7 = .ok (.getfield 80, 3) := by decide +kernel
theorem dX11_with_10 : decode cX11_with 10 = .ok (.iload_n 1, 1) := by decide +kernel
theorem dX11_with_11 : decode cX11_with 11 = .ok (.invokevirtual 86, 3) := by decide +kernel
theorem dX11_with_14 : decode cX11_with 14 = .ok (.ifCond .ne 6, 3) := by decide +kernel
theorem dX11_with_17 : decode cX11_with 17 = .ok (.bipush (-2), 2) := by decide +kernel
theorem dX11_with_19 : decode cX11_with 19 = .ok (.ireturn, 1) := by decide +kernel
theorem dX11_with_20 : decode cX11_with 20 = .ok (.aload_n 0, 1) := by decide +kernel
theorem dX11_with_21 : decode cX11_with 21 = .ok (.getfield 10, 3) := by decide +kernel
theorem dX11_with_24 : decode cX11_with 24 = .ok (.invokevirtual 162, 3) := by decide +kernel
theorem dX11_with_27 : decode cX11_with 27 = .ok (.aload_n 0, 1) := by decide +kernel
theorem dX11_with_28 : decode cX11_with 28 = .ok (.getfield 10, 3) := by decide +kernel
theorem dX11_with_31 : decode cX11_with 31 = .ok (.iload_n 1, 1) := by decide +kernel
theorem dX11_with_32 : decode cX11_with 32 = .ok (.invokevirtual 165, 3) := by decide +kernel
theorem dX11_with_35 : decode cX11_with 35 = .ok (.ireturn, 1) := by decide +kernel
theorem dX11_has_0 : decode cX11_has 0 = .ok (.aload_n 0, 1) := by decide +kernel
theorem dX11_has_1 : decode cX11_has 1 = .ok (.getfield 10, 3) := by decide +kernel
theorem dX11_has_4 : decode cX11_has 4 = .ok (.getfield 76, 3) := by decide +kernel
theorem dX11_has_7 : decode cX11_has 7 = .ok (.astore_n 3, 1) := by decide +kernel
theorem dX11_has_8 : decode cX11_has 8 = .ok (.aload_n 3, 1) := by decide +kernel
theorem dX11_has_9 : decode cX11_has 9 = .ok (.getfield 107, 3) := by decide +kernel
theorem dX11_has_12 : decode cX11_has 12 = .ok (.iload_n 1, 1) := by decide +kernel
theorem dX11_has_13 : decode cX11_has 13 = .ok (.invokevirtual 111, 3) := by decide +kernel
theorem dX11_has_16 : decode cX11_has 16 = .ok (.ifCond .ne 6, 3) := by decide +kernel
theorem dX11_has_19 : decode cX11_has 19 = .ok (.bipush (-2), 2) := by decide +kernel
theorem dX11_has_21 : decode cX11_has 21 = .ok (.ireturn, 1) := by decide +kernel
theorem dX11_has_22 : decode cX11_has 22 = .ok (.aload_n 0, 1) := by decide +kernel
theorem dX11_has_23 : decode cX11_has 23 = .ok (.getfield 10, 3) := by decide +kernel
theorem dX11_has_26 : decode cX11_has 26 = .ok (.invokevirtual 162, 3) := by decide +kernel
theorem dX11_has_29 : decode cX11_has 29 = .ok (.aload_n 0, 1) := by decide +kernel
theorem dX11_has_30 : decode cX11_has 30 = .ok (.getfield 10, 3) := by decide +kernel
theorem dX11_has_33 : decode cX11_has 33 = .ok (.iload_n 1, 1) := by decide +kernel
theorem dX11_has_34 : decode cX11_has 34 = .ok (.invokevirtual 169, 3) := by decide +kernel
theorem dX11_has_37 : decode cX11_has 37 = .ok (.istore 4, 2) := by decide +kernel
theorem dX11_has_39 : decode cX11_has 39 = .ok (.iload_n 2, 1) := by decide +kernel
theorem dX11_has_40 : decode cX11_has 40 = .ok (.tableswitch 66 0 3 #[32, 35, 43, 50], 32) := by decide +kernel
theorem dX11_has_72 : decode cX11_has 72 = .ok (.iload 4, 2) := by decide +kernel
theorem dX11_has_74 : decode cX11_has 74 = .ok (.ireturn, 1) := by decide +kernel
theorem dX11_has_75 : decode cX11_has 75 = .ok (.aload_n 3, 1) := by decide +kernel
theorem dX11_has_76 : decode cX11_has 76 = .ok (.iload_n 1, 1) := by decide +kernel
theorem dX11_has_77 : decode cX11_has 77 = .ok (.iload 4, 2) := by decide +kernel
theorem dX11_has_79 : decode cX11_has 79 = .ok (.invokevirtual 172, 3) := by decide +kernel
theorem dX11_has_82 : decode cX11_has 82 = .ok (.ireturn, 1) := by decide +kernel
theorem dX11_has_83 : decode cX11_has 83 = .ok (.aload_n 3, 1) := by decide +kernel
theorem dX11_has_84 : decode cX11_has 84 = .ok (.iload 4, 2) := by decide +kernel
theorem dX11_has_86 : decode cX11_has 86 = .ok (.invokevirtual 176, 3) := by decide +kernel
theorem dX11_has_89 : decode cX11_has 89 = .ok (.ireturn, 1) := by decide +kernel
theorem dX11_has_90 : decode cX11_has 90 = .ok (.aload_n 3, 1) := by decide +kernel
theorem dX11_has_91 : decode cX11_has 91 = .ok (.iload_n 1, 1) := by decide +kernel
theorem dX11_has_92 : decode cX11_has 92 = .ok (.iload 4, 2) := by decide +kernel
theorem dX11_has_94 : decode cX11_has 94 = .ok (.invokevirtual 179, 3) := by decide +kernel
theorem dX11_has_97 : decode cX11_has 97 = .ok (.ifCond .eq 7, 3) := by decide +kernel
theorem dX11_has_100 : decode cX11_has 100 = .ok (.iconst 1, 1) := by decide +kernel
theorem dX11_has_101 : decode cX11_has 101 = .ok (.goto 4, 3) := by decide +kernel
theorem dX11_has_104 : decode cX11_has 104 = .ok (.iconst 0, 1) := by decide +kernel
theorem dX11_has_105 : decode cX11_has 105 = .ok (.ireturn, 1) := by decide +kernel
theorem dX11_has_106 : decode cX11_has 106 = .ok (.bipush (-2), 2) := by decide +kernel
theorem dX11_has_108 : decode cX11_has 108 = .ok (.ireturn, 1) := by decide +kernel
theorem dX11_does_0 : decode cX11_does 0 = .ok (.aload_n 0, 1) := by decide +kernel
theorem dX11_does_1 : decode cX11_does 1 = .ok (.getfield 10, 3) := by decide +kernel
theorem dX11_does_4 : decode cX11_does 4 = .ok (.getfield 76, 3) := by decide +kernel
theorem dX11_does_7 : decode cX11_does 7 = .ok (.getfield 107, 3) := by decide +kernel
theorem dX11_does_10 : decode cX11_does 10 = .ok (.iload_n 1, 1) := by decide +kernel
theorem dX11_does_11 : decode cX11_does 11 = .ok (.invokevirtual 111, 3) := by decide +kernel
theorem dX11_does_14 : decode cX11_does 14 = .ok (.ifCond .eq 12, 3) := by decide +kernel
theorem dX11_does_17 : decode cX11_does 17 = .ok (.iload_n 2, 1) := by decide +kernel
theorem dX11_does_18 : decode cX11_does 18 = .ok (.bipush 24, 2) := by decide +kernel
theorem dX11_does_20 : decode cX11_does 20 = .ok (.invokestatic 48, 3) := by decide +kernel
theorem dX11_does_23 : decode cX11_does 23 = .ok (.ifCond .ne 6, 3) := by decide +kernel
theorem dX11_does_26 : decode cX11_does 26 = .ok (.bipush (-2), 2) := by decide +kernel
theorem dX11_does_28 : decode cX11_does 28 = .ok (.ireturn, 1) := by decide +kernel
theorem dX11_does_29 : decode cX11_does 29 = .ok (.aload_n 0, 1) := by decide +kernel
theorem dX11_does_30 : decode cX11_does 30 = .ok (.getfield 10, 3) := by decide +kernel
theorem dX11_does_33 : decode cX11_does 33 = .ok (.invokevirtual 162, 3) := by decide +kernel
theorem dX11_does_36 : decode cX11_does 36 = .ok (.aload_n 0, 1) := by decide +kernel
theorem dX11_does_37 : decode cX11_does 37 = .ok (.getfield 10, 3) := by decide +kernel
theorem dX11_does_40 : decode cX11_does 40 = .ok (.iload_n 1, 1) := by decide +kernel
theorem dX11_does_41 : decode cX11_does 41 = .ok (.iload_n 2, 1) := by decide +kernel
theorem dX11_does_42 : decode cX11_does 42 = .ok (.invokevirtual 182, 3) := by decide +kernel
theorem dX11_does_45 : decode cX11_does 45 = .ok (.ireturn, 1) := by decide +kernel
theorem dX11_done_0 : decode cX11_done 0 = .ok (.aload_n 0, 1) := by decide +kernel
theorem dX11_done_1 : decode cX11_done 1 = .ok (.getfield 10, 3) := by decide +kernel
theorem dX11_done_4 : decode cX11_done 4 = .ok (.invokevirtual 162, 3) := by decide +kernel
theorem dX11_done_7 : decode cX11_done 7 = .ok (.aload_n 0, 1) := by decide +kernel
theorem dX11_done_8 : decode cX11_done 8 = .ok (.getfield 10, 3) := by decide +kernel
theorem dX11_done_11 : decode cX11_done 11 = .ok (.getfield 185, 3) := by decide +kernel
theorem dX11_done_14 : decode cX11_done 14 = .ok (.ireturn, 1) := by decide +kernel
theorem dX11_quarrel_0 : decode cX11_quarrel 0 = .ok (.iload_n 1, 1) := by decide +kernel
theorem dX11_quarrel_1 : decode cX11_quarrel 1 = .ok (.iconst 4, 1) := by decide +kernel
theorem dX11_quarrel_2 : decode cX11_quarrel 2 = .ok (.invokestatic 48, 3) := by decide +kernel
theorem dX11_quarrel_5 : decode cX11_quarrel 5 = .ok (.ifCond .ne 6, 3) := by decide +kernel
theorem dX11_quarrel_8 : decode cX11_quarrel 8 = .ok (.bipush (-2), 2) := by decide +kernel
theorem dX11_quarrel_10 : decode cX11_quarrel 10 = .ok (.ireturn, 1) := by decide +kernel
theorem dX11_quarrel_11 : decode cX11_quarrel 11 = .ok (.aload_n 0, 1) := by decide +kernel
theorem dX11_quarrel_12 : decode cX11_quarrel 12 = .ok (.getfield 10, 3) := by decide +kernel
theorem dX11_quarrel_15 : decode cX11_quarrel 15 = .ok (.invokevirtual 162, 3) := by decide +kernel
theorem dX11_quarrel_18 : decode cX11_quarrel 18 = .ok (.aload_n 0, 1) := by decide +kernel
theorem dX11_quarrel_19 : decode cX11_quarrel 19 = .ok (.getfield 10, 3) := by decide +kernel
theorem dX11_quarrel_22 : decode cX11_quarrel 22 = .ok (.getfield 76, 3) := by decide +kernel
theorem dX11_quarrel_25 : decode cX11_quarrel 25 = .ok (.astore_n 2, 1) := by decide +kernel
theorem dX11_quarrel_26 : decode cX11_quarrel 26 = .ok (.iconst 0, 1) := by decide +kernel
theorem dX11_quarrel_27 : decode cX11_quarrel 27 = .ok (.istore_n 3, 1) := by decide +kernel
theorem dX11_quarrel_28 : decode cX11_quarrel 28 = .ok (.iload_n 3, 1) := by decide +kernel
theorem dX11_quarrel_29 : decode cX11_quarrel 29 = .ok (.bipush 24, 2) := by decide +kernel
theorem dX11_quarrel_31 : decode cX11_quarrel 31 = .ok (.if_icmp .ge 65, 3) := by decide +kernel
theorem dX11_quarrel_34 : decode cX11_quarrel 34 = .ok (.iconst 0, 1) := by decide +kernel
theorem dX11_quarrel_35 : decode cX11_quarrel 35 = .ok (.istore 4, 2) := by decide +kernel
theorem dX11_quarrel_37 : decode cX11_quarrel 37 = .ok (.iload 4, 2) := by decide +kernel
theorem dX11_quarrel_39 : decode cX11_quarrel 39 = .ok (.aload_n 2, 1) := by decide +kernel
theorem dX11_quarrel_40 : decode cX11_quarrel 40 = .ok (.getfield 107, 3) := by decide +kernel
theorem dX11_quarrel_43 : decode cX11_quarrel 43 = .ok (.getfield 188, 3) := by decide +kernel
theorem dX11_quarrel_46 : decode cX11_quarrel 46 = .ok (.if_icmp .ge 44, 3) := by decide +kernel
theorem dX11_quarrel_49 : decode cX11_quarrel 49 = .ok (.aload_n 2, 1) := by decide +kernel
theorem dX11_quarrel_50 : decode cX11_quarrel 50 = .ok (.aload_n 0, 1) := by decide +kernel
theorem dX11_quarrel_51 : decode cX11_quarrel 51 = .ok (.getfield 10, 3) := by decide +kernel
theorem dX11_quarrel_54 : decode cX11_quarrel 54 = .ok (.iload 4, 2) := by decide +kernel
theorem dX11_quarrel_56 : decode cX11_quarrel 56 = .ok (.invokevirtual 169, 3) := by decide +kernel
theorem dX11_quarrel_59 : decode cX11_quarrel 59 = .ok (.iload_n 3, 1) := by decide +kernel
theorem dX11_quarrel_60 : decode cX11_quarrel 60 = .ok (.invokevirtual 189, 3) := by decide +kernel
theorem dX11_quarrel_63 : decode cX11_quarrel 63 = .ok (.istore 5, 2) := by decide +kernel
theorem dX11_quarrel_65 : decode cX11_quarrel 65 = .ok (.iload 5, 2) := by decide +kernel
theorem dX11_quarrel_67 : decode cX11_quarrel 67 = .ok (.invokestatic 192, 3) := by decide +kernel
theorem dX11_quarrel_70 : decode cX11_quarrel 70 = .ok (.iconst 2, 1) := by decide +kernel
theorem dX11_quarrel_71 : decode cX11_quarrel 71 = .ok (.if_icmp .lt 13, 3) := by decide +kernel
theorem dX11_quarrel_74 : decode cX11_quarrel 74 = .ok (.iload_n 1, 1) := by decide +kernel
theorem dX11_quarrel_75 : decode cX11_quarrel 75 = .ok (.iload_n 3, 1) := by decide +kernel
theorem dX11_quarrel_76 : decode cX11_quarrel 76 = .ok (.iload 4, 2) := by decide +kernel
theorem dX11_quarrel_78 : decode cX11_quarrel 78 = .ok (.iload 5, 2) := by decide +kernel
theorem dX11_quarrel_80 : decode cX11_quarrel 80 = .ok (.invokestatic 197, 3) := by decide +kernel
theorem dX11_quarrel_83 : decode cX11_quarrel 83 = .ok (.ireturn, 1) := by decide +kernel
theorem dX11_quarrel_84 : decode cX11_quarrel 84 = .ok (.iinc 4 1, 3) := by decide +kernel
theorem dX11_quarrel_87 : decode cX11_quarrel 87 = .ok (.goto (-50), 3) := by decide +kernel
theorem dX11_quarrel_90 : decode cX11_quarrel 90 = .ok (.iinc 3 1, 3) := by decide +kernel
theorem dX11_quarrel_93 : decode cX11_quarrel 93 = .ok (.goto (-65), 3) := by decide +kernel
theorem dX11_quarrel_96 : decode cX11_quarrel 96 = .ok (.iconst (-1), 1) := by decide +kernel
theorem dX11_quarrel_97 : decode cX11_quarrel 97 = .ok (.ireturn, 1) := by decide +kernel
theorem dX11_best_0 : decode cX11_best 0 = .ok (.iload_n 1, 1) := by decide +kernel
theorem dX11_best_1 : decode cX11_best 1 = .ok (.iconst (-1), 1) := by decide +kernel
theorem dX11_best_2 : decode cX11_best 2 = .ok (.if_icmp .eq 15, 3) := by decide +kernel
theorem dX11_best_5 : decode cX11_best 5 = .ok (.iload_n 1, 1) := by decide +kernel
theorem dX11_best_6 : decode cX11_best 6 = .ok (.bipush 6, 2) := by decide +kernel
theorem dX11_best_8 : decode cX11_best 8 = .ok (.invokestatic 48, 3) := by decide +kernel
theorem dX11_best_11 : decode cX11_best 11 = .ok (.ifCond .ne 6, 3) := by decide +kernel
theorem dX11_best_14 : decode cX11_best 14 = .ok (.bipush (-2), 2) := by decide +kernel
theorem dX11_best_16 : decode cX11_best 16 = .ok (.ireturn, 1) := by decide +kernel
theorem dX11_best_17 : decode cX11_best 17 = .ok (.aload_n 0, 1) := by decide +kernel
theorem dX11_best_18 : decode cX11_best 18 = .ok (.getfield 33, 3) := by decide +kernel
theorem dX11_best_21 : decode cX11_best 21 = .ok (.aload_n 0, 1) := by decide +kernel
theorem dX11_best_22 : decode cX11_best 22 = .ok (.getfield 10, 3) := by decide +kernel
theorem dX11_best_25 : decode cX11_best 25 = .ok (.getfield 76, 3) := by decide +kernel
theorem dX11_best_28 : decode cX11_best 28 = .ok (.invokevirtual 201, 3) := by decide +kernel
theorem dX11_best_31 : decode cX11_best 31 = .ok (.iload_n 1, 1) := by decide +kernel
theorem dX11_best_32 : decode cX11_best 32 = .ok (.iconst (-1), 1) := by decide +kernel
theorem dX11_best_33 : decode cX11_best 33 = .ok (.if_icmp .ne 13, 3) := by decide +kernel
theorem dX11_best_36 : decode cX11_best 36 = .ok (.aload_n 0, 1) := by decide +kernel
theorem dX11_best_37 : decode cX11_best 37 = .ok (.getfield 33, 3) := by decide +kernel
theorem dX11_best_40 : decode cX11_best 40 = .ok (.getfield 205, 3) := by decide +kernel
theorem dX11_best_43 : decode cX11_best 43 = .ok (.goto 11, 3) := by decide +kernel
theorem dX11_best_46 : decode cX11_best 46 = .ok (.aload_n 0, 1) := by decide +kernel
theorem dX11_best_47 : decode cX11_best 47 = .ok (.getfield 33, 3) := by decide +kernel
theorem dX11_best_50 : decode cX11_best 50 = .ok (.iload_n 1, 1) := by decide +kernel
theorem dX11_best_51 : decode cX11_best 51 = .ok (.invokevirtual 208, 3) := by decide +kernel
theorem dX11_best_54 : decode cX11_best 54 = .ok (.ireturn, 1) := by decide +kernel
theorem dX11_write_0 : decode cX11_write 0 = .ok (.aload_n 0, 1) := by decide +kernel
theorem dX11_write_1 : decode cX11_write 1 = .ok (.getfield 10, 3) := by decide +kernel
theorem dX11_write_4 : decode cX11_write 4 = .ok (.getfield 76, 3) := by decide +kernel
theorem dX11_write_7 : decode cX11_write 7 = .ok (.getfield 107, 3) := by decide +kernel
theorem dX11_write_10 : decode cX11_write 10 = .ok (.iload_n 1, 1) := by decide +kernel
theorem dX11_write_11 : decode cX11_write 11 = .ok (.invokevirtual 111, 3) := by decide +kernel
theorem dX11_write_14 : decode cX11_write 14 = .ok (.ifCond .eq 11, 3) := by decide +kernel
theorem dX11_write_17 : decode cX11_write 17 = .ok (.iload_n 2, 1) := by decide +kernel
theorem dX11_write_18 : decode cX11_write 18 = .ok (.iconst 2, 1) := by decide +kernel
theorem dX11_write_19 : decode cX11_write 19 = .ok (.invokestatic 48, 3) := by decide +kernel
theorem dX11_write_22 : decode cX11_write 22 = .ok (.ifCond .ne 6, 3) := by decide +kernel
theorem dX11_write_25 : decode cX11_write 25 = .ok (.bipush (-2), 2) := by decide +kernel
theorem dX11_write_27 : decode cX11_write 27 = .ok (.ireturn, 1) := by decide +kernel
theorem dX11_write_28 : decode cX11_write 28 = .ok (.aload_n 0, 1) := by decide +kernel
theorem dX11_write_29 : decode cX11_write 29 = .ok (.getfield 10, 3) := by decide +kernel
theorem dX11_write_32 : decode cX11_write 32 = .ok (.iload_n 1, 1) := by decide +kernel
theorem dX11_write_33 : decode cX11_write 33 = .ok (.invokevirtual 211, 3) := by decide +kernel
theorem dX11_write_36 : decode cX11_write 36 = .ok (.istore_n 3, 1) := by decide +kernel
theorem dX11_write_37 : decode cX11_write 37 = .ok (.iload_n 2, 1) := by decide +kernel
theorem dX11_write_38 : decode cX11_write 38 = .ok (.iconst 1, 1) := by decide +kernel
theorem dX11_write_39 : decode cX11_write 39 = .ok (.if_icmp .eq 8, 3) := by decide +kernel
theorem dX11_write_42 : decode cX11_write 42 = .ok (.iload_n 3, 1) := by decide +kernel
theorem dX11_write_43 : decode cX11_write 43 = .ok (.iconst (-1), 1) := by decide +kernel
theorem dX11_write_44 : decode cX11_write 44 = .ok (.if_icmp .ne 7, 3) := by decide +kernel
theorem dX11_write_47 : decode cX11_write 47 = .ok (.iload_n 3, 1) := by decide +kernel
theorem dX11_write_48 : decode cX11_write 48 = .ok (.goto 7, 3) := by decide +kernel
theorem dX11_write_51 : decode cX11_write 51 = .ok (.iload_n 3, 1) := by decide +kernel
theorem dX11_write_52 : decode cX11_write 52 = .ok (.invokestatic 192, 3) := by decide +kernel
theorem dX11_write_55 : decode cX11_write 55 = .ok (.ireturn, 1) := by decide +kernel
theorem dX11_part_0 : decode cX11_part 0 = .ok (.iload_n 1, 1) := by decide +kernel
theorem dX11_part_1 : decode cX11_part 1 = .ok (.bipush 6, 2) := by decide +kernel
theorem dX11_part_3 : decode cX11_part 3 = .ok (.invokestatic 48, 3) := by decide +kernel
theorem dX11_part_6 : decode cX11_part 6 = .ok (.ifCond .eq 25, 3) := by decide +kernel
theorem dX11_part_9 : decode cX11_part 9 = .ok (.iload_n 2, 1) := by decide +kernel
theorem dX11_part_10 : decode cX11_part 10 = .ok (.bipush 6, 2) := by decide +kernel
theorem dX11_part_12 : decode cX11_part 12 = .ok (.invokestatic 48, 3) := by decide +kernel
theorem dX11_part_15 : decode cX11_part 15 = .ok (.ifCond .eq 16, 3) := by decide +kernel
theorem dX11_part_18 : decode cX11_part 18 = .ok (.iload_n 1, 1) := by decide +kernel
theorem dX11_part_19 : decode cX11_part 19 = .ok (.iload_n 2, 1) := by decide +kernel
theorem dX11_part_20 : decode cX11_part 20 = .ok (.if_icmp .eq 11, 3) := by decide +kernel
theorem dX11_part_23 : decode cX11_part 23 = .ok (.iload_n 3, 1) := by decide +kernel
theorem dX11_part_24 : decode cX11_part 24 = .ok (.iconst 2, 1) := by decide +kernel
theorem dX11_part_25 : decode cX11_part 25 = .ok (.invokestatic 48, 3) := by decide +kernel
theorem dX11_part_28 : decode cX11_part 28 = .ok (.ifCond .ne 6, 3) := by decide +kernel
theorem dX11_part_31 : decode cX11_part 31 = .ok (.bipush (-2), 2) := by decide +kernel
theorem dX11_part_33 : decode cX11_part 33 = .ok (.ireturn, 1) := by decide +kernel
theorem dX11_part_34 : decode cX11_part 34 = .ok (.aload_n 0, 1) := by decide +kernel
theorem dX11_part_35 : decode cX11_part 35 = .ok (.getfield 19, 3) := by decide +kernel
theorem dX11_part_38 : decode cX11_part 38 = .ok (.iload_n 1, 1) := by decide +kernel
theorem dX11_part_39 : decode cX11_part 39 = .ok (.iload_n 2, 1) := by decide +kernel
theorem dX11_part_40 : decode cX11_part 40 = .ok (.invokevirtual 214, 3) := by decide +kernel
theorem dX11_part_43 : decode cX11_part 43 = .ok (.istore 4, 2) := by decide +kernel
theorem dX11_part_45 : decode cX11_part 45 = .ok (.iload_n 3, 1) := by decide +kernel
theorem dX11_part_46 : decode cX11_part 46 = .ok (.ifCond .eq 9, 3) := by decide +kernel
theorem dX11_part_49 : decode cX11_part 49 = .ok (.iload 4, 2) := by decide +kernel
theorem dX11_part_51 : decode cX11_part 51 = .ok (.iconst (-1), 1) := by decide +kernel
theorem dX11_part_52 : decode cX11_part 52 = .ok (.if_icmp .ne 8, 3) := by decide +kernel
theorem dX11_part_55 : decode cX11_part 55 = .ok (.iload 4, 2) := by decide +kernel
theorem dX11_part_57 : decode cX11_part 57 = .ok (.goto 14, 3) := by decide +kernel
theorem dX11_part_60 : decode cX11_part 60 = .ok (.aload_n 0, 1) := by decide +kernel
theorem dX11_part_61 : decode cX11_part 61 = .ok (.getfield 19, 3) := by decide +kernel
theorem dX11_part_64 : decode cX11_part 64 = .ok (.iload_n 1, 1) := by decide +kernel
theorem dX11_part_65 : decode cX11_part 65 = .ok (.iload_n 2, 1) := by decide +kernel
theorem dX11_part_66 : decode cX11_part 66 = .ok (.iload 4, 2) := by decide +kernel
theorem dX11_part_68 : decode cX11_part 68 = .ok (.invokevirtual 217, 3) := by decide +kernel
theorem dX11_part_71 : decode cX11_part 71 = .ok (.ireturn, 1) := by decide +kernel
theorem dX11_seen_0 : decode cX11_seen 0 = .ok (.iload_n 1, 1) := by decide +kernel
theorem dX11_seen_1 : decode cX11_seen 1 = .ok (.iload_n 2, 1) := by decide +kernel
theorem dX11_seen_2 : decode cX11_seen 2 = .ok (.iload_n 3, 1) := by decide +kernel
theorem dX11_seen_3 : decode cX11_seen 3 = .ok (.invokestatic 220, 3) := by decide +kernel
theorem dX11_seen_6 : decode cX11_seen 6 = .ok (.ifCond .ne 6, 3) := by decide +kernel
theorem dX11_seen_9 : decode cX11_seen 9 = .ok (.bipush (-2), 2) := by decide +kernel
theorem dX11_seen_11 : decode cX11_seen 11 = .ok (.ireturn, 1) := by decide +kernel
theorem dX11_seen_12 : decode cX11_seen 12 = .ok (.aload_n 0, 1) := by decide +kernel
theorem dX11_seen_13 : decode cX11_seen 13 = .ok (.getfield 26, 3) := by decide +kernel
theorem dX11_seen_16 : decode cX11_seen 16 = .ok (.iload_n 1, 1) := by decide +kernel
theorem dX11_seen_17 : decode cX11_seen 17 = .ok (.iload_n 2, 1) := by decide +kernel
theorem dX11_seen_18 : decode cX11_seen 18 = .ok (.iload_n 3, 1) := by decide +kernel
theorem dX11_seen_19 : decode cX11_seen 19 = .ok (.invokevirtual 224, 3) := by decide +kernel
theorem dX11_seen_22 : decode cX11_seen 22 = .ok (.ifCond .eq 13, 3) := by decide +kernel
theorem dX11_seen_25 : decode cX11_seen 25 = .ok (.aload_n 0, 1) := by decide +kernel
theorem dX11_seen_26 : decode cX11_seen 26 = .ok (.getfield 26, 3) := by decide +kernel
theorem dX11_seen_29 : decode cX11_seen 29 = .ok (.getfield 226, 3) := by decide +kernel
theorem dX11_seen_32 : decode cX11_seen 32 = .ok (.goto 5, 3) := by decide +kernel
theorem dX11_seen_35 : decode cX11_seen 35 = .ok (.bipush (-4), 2) := by decide +kernel
theorem dX11_seen_37 : decode cX11_seen 37 = .ok (.ireturn, 1) := by decide +kernel
theorem dX11_forget_0 : decode cX11_forget 0 = .ok (.aload_n 0, 1) := by decide +kernel
theorem dX11_forget_1 : decode cX11_forget 1 = .ok (.getfield 26, 3) := by decide +kernel
theorem dX11_forget_4 : decode cX11_forget 4 = .ok (.getfield 226, 3) := by decide +kernel
theorem dX11_forget_7 : decode cX11_forget 7 = .ok (.istore_n 1, 1) := by decide +kernel
theorem dX11_forget_8 : decode cX11_forget 8 = .ok (.aload_n 0, 1) := by decide +kernel
theorem dX11_forget_9 : decode cX11_forget 9 = .ok (.getfield 26, 3) := by decide +kernel
theorem dX11_forget_12 : decode cX11_forget 12 = .ok (.iconst 0, 1) := by decide +kernel
theorem dX11_forget_13 : decode cX11_forget 13 = .ok (.putfield 226, 3) := by decide +kernel
theorem dX11_forget_16 : decode cX11_forget 16 = .ok (.iload_n 1, 1) := by decide +kernel
theorem dX11_forget_17 : decode cX11_forget 17 = .ok (.ireturn, 1) := by decide +kernel
theorem dX11_read_0 : decode cX11_read 0 = .ok (.iload_n 1, 1) := by decide +kernel
theorem dX11_read_1 : decode cX11_read 1 = .ok (.iconst 4, 1) := by decide +kernel
theorem dX11_read_2 : decode cX11_read 2 = .ok (.invokestatic 48, 3) := by decide +kernel
theorem dX11_read_5 : decode cX11_read 5 = .ok (.ifCond .ne 6, 3) := by decide +kernel
theorem dX11_read_8 : decode cX11_read 8 = .ok (.bipush (-2), 2) := by decide +kernel
theorem dX11_read_10 : decode cX11_read 10 = .ok (.ireturn, 1) := by decide +kernel
theorem dX11_read_11 : decode cX11_read 11 = .ok (.aload_n 0, 1) := by decide +kernel
theorem dX11_read_12 : decode cX11_read 12 = .ok (.getfield 39, 3) := by decide +kernel
theorem dX11_read_15 : decode cX11_read 15 = .ok (.iload_n 1, 1) := by decide +kernel
theorem dX11_read_16 : decode cX11_read 16 = .ok (.aaload, 1) := by decide +kernel
theorem dX11_read_17 : decode cX11_read 17 = .ok (.astore_n 2, 1) := by decide +kernel
theorem dX11_read_18 : decode cX11_read 18 = .ok (.aload_n 2, 1) := by decide +kernel
theorem dX11_read_19 : decode cX11_read 19 = .ok (.invokevirtual 227, 3) := by decide +kernel
theorem dX11_read_22 : decode cX11_read 22 = .ok (.ifCond .eq 9, 3) := by decide +kernel
theorem dX11_read_25 : decode cX11_read 25 = .ok (.aload_n 0, 1) := by decide +kernel
theorem dX11_read_26 : decode cX11_read 26 = .ok (.iconst 1, 1) := by decide +kernel
theorem dX11_read_27 : decode cX11_read 27 = .ok (.invokevirtual 230, 3) := by decide +kernel
theorem dX11_read_30 : decode cX11_read 30 = .ok (.ireturn, 1) := by decide +kernel
theorem dX11_read_31 : decode cX11_read 31 = .ok (.aload_n 0, 1) := by decide +kernel
theorem dX11_read_32 : decode cX11_read 32 = .ok (.getfield 26, 3) := by decide +kernel
theorem dX11_read_35 : decode cX11_read 35 = .ok (.aload_n 2, 1) := by decide +kernel
theorem dX11_read_36 : decode cX11_read 36 = .ok (.invokevirtual 233, 3) := by decide +kernel
theorem dX11_read_39 : decode cX11_read 39 = .ok (.ireturn, 1) := by decide +kernel
theorem dX11_whose_0 : decode cX11_whose 0 = .ok (.aload_n 0, 1) := by decide +kernel
theorem dX11_whose_1 : decode cX11_whose 1 = .ok (.getfield 10, 3) := by decide +kernel
theorem dX11_whose_4 : decode cX11_whose 4 = .ok (.getfield 76, 3) := by decide +kernel
theorem dX11_whose_7 : decode cX11_whose 7 = .ok (.getfield 80, 3) := by decide +kernel
theorem dX11_whose_10 : decode cX11_whose 10 = .ok (.iload_n 1, 1) := by decide +kernel
theorem dX11_whose_11 : decode cX11_whose 11 = .ok (.invokevirtual 86, 3) := by decide +kernel
theorem dX11_whose_14 : decode cX11_whose 14 = .ok (.ifCond .eq 11, 3) := by decide +kernel
theorem dX11_whose_17 : decode cX11_whose 17 = .ok (.aload_n 0, 1) := by decide +kernel
theorem dX11_whose_18 : decode cX11_whose 18 = .ok (.iload_n 1, 1) := by decide +kernel
theorem dX11_whose_19 : decode cX11_whose 19 = .ok (.invokevirtual 237, 3) := by decide +kernel
theorem dX11_whose_22 : decode cX11_whose 22 = .ok (.goto 5, 3) := by decide +kernel
theorem dX11_whose_25 : decode cX11_whose 25 = .ok (.bipush (-2), 2) := by decide +kernel
theorem dX11_whose_27 : decode cX11_whose 27 = .ok (.ireturn, 1) := by decide +kernel
theorem dX11_look_0 : decode cX11_look 0 = .ok (.aload_n 0, 1) := by decide +kernel
theorem dX11_look_1 : decode cX11_look 1 = .ok (.getfield 10, 3) := by decide +kernel
theorem dX11_look_4 : decode cX11_look 4 = .ok (.getfield 76, 3) := by decide +kernel
theorem dX11_look_7 : decode cX11_look 7 = .ok (.astore_n 3, 1) := by decide +kernel
theorem dX11_look_8 : decode cX11_look 8 = .ok (.aload_n 3, 1) := by decide +kernel
theorem dX11_look_9 : decode cX11_look 9 = .ok (.getfield 80, 3) := by decide +kernel
theorem dX11_look_12 : decode cX11_look 12 = .ok (.iload_n 1, 1) := by decide +kernel
theorem dX11_look_13 : decode cX11_look 13 = .ok (.invokevirtual 86, 3) := by decide +kernel
theorem dX11_look_16 : decode cX11_look 16 = .ok (.ifCond .eq 14, 3) := by decide +kernel
theorem dX11_look_19 : decode cX11_look 19 = .ok (.aload_n 3, 1) := by decide +kernel
theorem dX11_look_20 : decode cX11_look 20 = .ok (.getfield 107, 3) := by decide +kernel
theorem dX11_look_23 : decode cX11_look 23 = .ok (.iload_n 2, 1) := by decide +kernel
theorem dX11_look_24 : decode cX11_look 24 = .ok (.invokevirtual 111, 3) := by decide +kernel
theorem dX11_look_27 : decode cX11_look 27 = .ok (.ifCond .ne 6, 3) := by decide +kernel
theorem dX11_look_30 : decode cX11_look 30 = .ok (.bipush (-2), 2) := by decide +kernel
theorem dX11_look_32 : decode cX11_look 32 = .ok (.ireturn, 1) := by decide +kernel
theorem dX11_look_33 : decode cX11_look 33 = .ok (.aload_n 0, 1) := by decide +kernel
theorem dX11_look_34 : decode cX11_look 34 = .ok (.iload_n 1, 1) := by decide +kernel
theorem dX11_look_35 : decode cX11_look 35 = .ok (.invokevirtual 237, 3) := by decide +kernel
theorem dX11_look_38 : decode cX11_look 38 = .ok (.istore 4, 2) := by decide +kernel
theorem dX11_look_40 : decode cX11_look 40 = .ok (.aload_n 0, 1) := by decide +kernel
theorem dX11_look_41 : decode cX11_look 41 = .ok (.getfield 10, 3) := by decide +kernel
theorem dX11_look_44 : decode cX11_look 44 = .ok (.iload_n 2, 1) := by decide +kernel
theorem dX11_look_45 : decode cX11_look 45 = .ok (.invokevirtual 169, 3) := by decide +kernel
theorem dX11_look_48 : decode cX11_look 48 = .ok (.iconst 1, 1) := by decide +kernel
theorem dX11_look_49 : decode cX11_look 49 = .ok (.iload_n 1, 1) := by decide +kernel
theorem dX11_look_50 : decode cX11_look 50 = .ok (.ishl, 1) := by decide +kernel
theorem dX11_look_51 : decode cX11_look 51 = .ok (.iconst (-1), 1) := by decide +kernel
theorem dX11_look_52 : decode cX11_look 52 = .ok (.ixor, 1) := by decide +kernel
theorem dX11_look_53 : decode cX11_look 53 = .ok (.iand, 1) := by decide +kernel
theorem dX11_look_54 : decode cX11_look 54 = .ok (.istore 5, 2) := by decide +kernel
theorem dX11_look_56 : decode cX11_look 56 = .ok (.iload 5, 2) := by decide +kernel
theorem dX11_look_58 : decode cX11_look 58 = .ok (.iconst 1, 1) := by decide +kernel
theorem dX11_look_59 : decode cX11_look 59 = .ok (.iload_n 1, 1) := by decide +kernel
theorem dX11_look_60 : decode cX11_look 60 = .ok (.ishl, 1) := by decide +kernel
theorem dX11_look_61 : decode cX11_look 61 = .ok (.ior, 1) := by decide +kernel
theorem dX11_look_62 : decode cX11_look 62 = .ok (.istore 6, 2) := by decide +kernel
theorem dX11_look_64 : decode cX11_look 64 = .ok (.iload 5, 2) := by decide +kernel
theorem dX11_look_66 : decode cX11_look 66 = .ok (.aload_n 3, 1) := by decide +kernel
theorem dX11_look_67 : decode cX11_look 67 = .ok (.iload_n 2, 1) := by decide +kernel
theorem dX11_look_68 : decode cX11_look 68 = .ok (.iload 5, 2) := by decide +kernel
theorem dX11_look_70 : decode cX11_look 70 = .ok (.invokevirtual 172, 3) := by decide +kernel
theorem dX11_look_73 : decode cX11_look 73 = .ok (.iconst (-1), 1) := by decide +kernel
theorem dX11_look_74 : decode cX11_look 74 = .ok (.ixor, 1) := by decide +kernel
theorem dX11_look_75 : decode cX11_look 75 = .ok (.iand, 1) := by decide +kernel
theorem dX11_look_76 : decode cX11_look 76 = .ok (.istore 7, 2) := by decide +kernel
theorem dX11_look_78 : decode cX11_look 78 = .ok (.iload 6, 2) := by decide +kernel
theorem dX11_look_80 : decode cX11_look 80 = .ok (.aload_n 3, 1) := by decide +kernel
theorem dX11_look_81 : decode cX11_look 81 = .ok (.iload_n 2, 1) := by decide +kernel
theorem dX11_look_82 : decode cX11_look 82 = .ok (.iload 6, 2) := by decide +kernel
theorem dX11_look_84 : decode cX11_look 84 = .ok (.invokevirtual 172, 3) := by decide +kernel
theorem dX11_look_87 : decode cX11_look 87 = .ok (.iconst (-1), 1) := by decide +kernel
theorem dX11_look_88 : decode cX11_look 88 = .ok (.ixor, 1) := by decide +kernel
theorem dX11_look_89 : decode cX11_look 89 = .ok (.iand, 1) := by decide +kernel
theorem dX11_look_90 : decode cX11_look 90 = .ok (.istore 8, 2) := by decide +kernel
theorem dX11_look_92 : decode cX11_look 92 = .ok (.iload 4, 2) := by decide +kernel
theorem dX11_look_94 : decode cX11_look 94 = .ok (.iload_n 2, 1) := by decide +kernel
theorem dX11_look_95 : decode cX11_look 95 = .ok (.invokestatic 240, 3) := by decide +kernel
theorem dX11_look_98 : decode cX11_look 98 = .ok (.ifCond .eq 7, 3) := by decide +kernel
theorem dX11_look_101 : decode cX11_look 101 = .ok (.iconst 1, 1) := by decide +kernel
theorem dX11_look_102 : decode cX11_look 102 = .ok (.goto 4, 3) := by decide +kernel
theorem dX11_look_105 : decode cX11_look 105 = .ok (.iconst 0, 1) := by decide +kernel
theorem dX11_look_106 : decode cX11_look 106 = .ok (.istore 9, 2) := by decide +kernel
theorem dX11_look_108 : decode cX11_look 108 = .ok (.iload 4, 2) := by decide +kernel
theorem dX11_look_110 : decode cX11_look 110 = .ok (.invokestatic 192, 3) := by decide +kernel
theorem dX11_look_113 : decode cX11_look 113 = .ok (.iload 9, 2) := by decide +kernel
theorem dX11_look_115 : decode cX11_look 115 = .ok (.isub, 1) := by decide +kernel
theorem dX11_look_116 : decode cX11_look 116 = .ok (.istore 10, 2) := by decide +kernel
theorem dX11_look_118 : decode cX11_look 118 = .ok (.iload 9, 2) := by decide +kernel
theorem dX11_look_120 : decode cX11_look 120 = .ok (.iload 10, 2) := by decide +kernel
theorem dX11_look_122 : decode cX11_look 122 = .ok (.iadd, 1) := by decide +kernel
theorem dX11_look_123 : decode cX11_look 123 = .ok (.istore 11, 2) := by decide +kernel
theorem dX11_look_125 : decode cX11_look 125 = .ok (.iconst 0, 1) := by decide +kernel
theorem dX11_look_126 : decode cX11_look 126 = .ok (.istore 12, 2) := by decide +kernel
theorem dX11_look_128 : decode cX11_look 128 = .ok (.iconst 0, 1) := by decide +kernel
theorem dX11_look_129 : decode cX11_look 129 = .ok (.istore 13, 2) := by decide +kernel
theorem dX11_look_131 : decode cX11_look 131 = .ok (.iload 13, 2) := by decide +kernel
theorem dX11_look_133 : decode cX11_look 133 = .ok (.bipush 24, 2) := by decide +kernel
theorem dX11_look_135 : decode cX11_look 135 = .ok (.if_icmp .ge 72, 3) := by decide +kernel
theorem dX11_look_138 : decode cX11_look 138 = .ok (.aload_n 3, 1) := by decide +kernel
theorem dX11_look_139 : decode cX11_look 139 = .ok (.iload 8, 2) := by decide +kernel
theorem dX11_look_141 : decode cX11_look 141 = .ok (.iload 13, 2) := by decide +kernel
theorem dX11_look_143 : decode cX11_look 143 = .ok (.invokevirtual 243, 3) := by decide +kernel
theorem dX11_look_146 : decode cX11_look 146 = .ok (.aload_n 3, 1) := by decide +kernel
theorem dX11_look_147 : decode cX11_look 147 = .ok (.iload 7, 2) := by decide +kernel
theorem dX11_look_149 : decode cX11_look 149 = .ok (.iload 13, 2) := by decide +kernel
theorem dX11_look_151 : decode cX11_look 151 = .ok (.invokevirtual 243, 3) := by decide +kernel
theorem dX11_look_154 : decode cX11_look 154 = .ok (.if_icmp .ne 7, 3) := by decide +kernel
theorem dX11_look_157 : decode cX11_look 157 = .ok (.iconst 1, 1) := by decide +kernel
theorem dX11_look_158 : decode cX11_look 158 = .ok (.goto 4, 3) := by decide +kernel
theorem dX11_look_161 : decode cX11_look 161 = .ok (.iconst 0, 1) := by decide +kernel
theorem dX11_look_162 : decode cX11_look 162 = .ok (.istore 14, 2) := by decide +kernel
theorem dX11_look_164 : decode cX11_look 164 = .ok (.iload 14, 2) := by decide +kernel
theorem dX11_look_166 : decode cX11_look 166 = .ok (.ifCond .eq 11, 3) := by decide +kernel
theorem dX11_look_169 : decode cX11_look 169 = .ok (.iload 9, 2) := by decide +kernel
theorem dX11_look_171 : decode cX11_look 171 = .ok (.iload 10, 2) := by decide +kernel
theorem dX11_look_173 : decode cX11_look 173 = .ok (.iadd, 1) := by decide +kernel
theorem dX11_look_174 : decode cX11_look 174 = .ok (.goto 10, 3) := by decide +kernel
theorem dX11_look_177 : decode cX11_look 177 = .ok (.iload 9, 2) := by decide +kernel
theorem dX11_look_179 : decode cX11_look 179 = .ok (.iload 10, 2) := by decide +kernel
theorem dX11_look_181 : decode cX11_look 181 = .ok (.invokestatic 246, 3) := by decide +kernel
theorem dX11_look_184 : decode cX11_look 184 = .ok (.istore 15, 2) := by decide +kernel
theorem dX11_look_186 : decode cX11_look 186 = .ok (.iload 15, 2) := by decide +kernel
theorem dX11_look_188 : decode cX11_look 188 = .ok (.iload 11, 2) := by decide +kernel
theorem dX11_look_190 : decode cX11_look 190 = .ok (.if_icmp .ge 11, 3) := by decide +kernel
theorem dX11_look_193 : decode cX11_look 193 = .ok (.iload 15, 2) := by decide +kernel
theorem dX11_look_195 : decode cX11_look 195 = .ok (.istore 11, 2) := by decide +kernel
theorem dX11_look_197 : decode cX11_look 197 = .ok (.iload 13, 2) := by decide +kernel
theorem dX11_look_199 : decode cX11_look 199 = .ok (.istore 12, 2) := by decide +kernel
theorem dX11_look_201 : decode cX11_look 201 = .ok (.iinc 13 1, 3) := by decide +kernel
theorem dX11_look_204 : decode cX11_look 204 = .ok (.goto (-73), 3) := by decide +kernel
theorem dX11_look_207 : decode cX11_look 207 = .ok (.iload 12, 2) := by decide +kernel
theorem dX11_look_209 : decode cX11_look 209 = .ok (.ireturn, 1) := by decide +kernel
theorem dX11_march_0 : decode cX11_march 0 = .ok (.iload_n 1, 1) := by decide +kernel
theorem dX11_march_1 : decode cX11_march 1 = .ok (.bipush 17, 2) := by decide +kernel
theorem dX11_march_3 : decode cX11_march 3 = .ok (.invokestatic 48, 3) := by decide +kernel
theorem dX11_march_6 : decode cX11_march 6 = .ok (.ifCond .eq 38, 3) := by decide +kernel
theorem dX11_march_9 : decode cX11_march 9 = .ok (.aload_n 0, 1) := by decide +kernel
theorem dX11_march_10 : decode cX11_march 10 = .ok (.getfield 10, 3) := by decide +kernel
theorem dX11_march_13 : decode cX11_march 13 = .ok (.getfield 76, 3) := by decide +kernel
theorem dX11_march_16 : decode cX11_march 16 = .ok (.getfield 107, 3) := by decide +kernel
theorem dX11_march_19 : decode cX11_march 19 = .ok (.iload_n 2, 1) := by decide +kernel
theorem dX11_march_20 : decode cX11_march 20 = .ok (.invokevirtual 111, 3) := by decide +kernel
theorem dX11_march_23 : decode cX11_march 23 = .ok (.ifCond .eq 21, 3) := by decide +kernel
theorem dX11_march_26 : decode cX11_march 26 = .ok (.iload_n 3, 1) := by decide +kernel
theorem dX11_march_27 : decode cX11_march 27 = .ok (.bipush 9, 2) := by decide +kernel
theorem dX11_march_29 : decode cX11_march 29 = .ok (.invokestatic 48, 3) := by decide +kernel
theorem dX11_march_32 : decode cX11_march 32 = .ok (.ifCond .eq 12, 3) := by decide +kernel
theorem dX11_march_35 : decode cX11_march 35 = .ok (.iload 4, 2) := by decide +kernel
theorem dX11_march_37 : decode cX11_march 37 = .ok (.iconst 2, 1) := by decide +kernel
theorem dX11_march_38 : decode cX11_march 38 = .ok (.invokestatic 48, 3) := by decide +kernel
theorem dX11_march_41 : decode cX11_march 41 = .ok (.ifCond .ne 7, 3) := by decide +kernel
theorem dX11_march_44 : decode cX11_march 44 = .ok (.ldc2_w 251, 3) := by decide +kernel
theorem dX11_march_47 : decode cX11_march 47 = .ok (.lreturn, 1) := by decide +kernel
theorem dX11_march_48 : decode cX11_march 48 = .ok (.aload_n 0, 1) := by decide +kernel
theorem dX11_march_49 : decode cX11_march 49 = .ok (.getfield 10, 3) := by decide +kernel
theorem dX11_march_52 : decode cX11_march 52 = .ok (.invokevirtual 162, 3) := by decide +kernel
theorem dX11_march_55 : decode cX11_march 55 = .ok (.aload_n 0, 1) := by decide +kernel
theorem dX11_march_56 : decode cX11_march 56 = .ok (.getfield 10, 3) := by decide +kernel
theorem dX11_march_59 : decode cX11_march 59 = .ok (.getfield 76, 3) := by decide +kernel
theorem dX11_march_62 : decode cX11_march 62 = .ok (.aload_n 0, 1) := by decide +kernel
theorem dX11_march_63 : decode cX11_march 63 = .ok (.getfield 10, 3) := by decide +kernel
theorem dX11_march_66 : decode cX11_march 66 = .ok (.iload_n 2, 1) := by decide +kernel
theorem dX11_march_67 : decode cX11_march 67 = .ok (.invokevirtual 169, 3) := by decide +kernel
theorem dX11_march_70 : decode cX11_march 70 = .ok (.invokevirtual 253, 3) := by decide +kernel
theorem dX11_march_73 : decode cX11_march 73 = .ok (.invokestatic 192, 3) := by decide +kernel
theorem dX11_march_76 : decode cX11_march 76 = .ok (.istore 5, 2) := by decide +kernel
theorem dX11_march_78 : decode cX11_march 78 = .ok (.iload_n 1, 1) := by decide +kernel
theorem dX11_march_79 : decode cX11_march 79 = .ok (.iload 5, 2) := by decide +kernel
theorem dX11_march_81 : decode cX11_march 81 = .ok (.iload_n 3, 1) := by decide +kernel
theorem dX11_march_82 : decode cX11_march 82 = .ok (.iload 4, 2) := by decide +kernel
theorem dX11_march_84 : decode cX11_march 84 = .ok (.invokestatic 256, 3) := by decide +kernel
theorem dX11_march_87 : decode cX11_march 87 = .ok (.lreturn, 1) := by decide +kernel
theorem dX11_wills_0 : decode cX11_wills 0 = .ok (.aload_n 0, 1) := by decide +kernel
theorem dX11_wills_1 : decode cX11_wills 1 = .ok (.getfield 10, 3) := by decide +kernel
theorem dX11_wills_4 : decode cX11_wills 4 = .ok (.getfield 76, 3) := by decide +kernel
theorem dX11_wills_7 : decode cX11_wills 7 = .ok (.astore 4, 2) := by decide +kernel
theorem dX11_wills_9 : decode cX11_wills 9 = .ok (.iload_n 2, 1) := by decide +kernel
theorem dX11_wills_10 : decode cX11_wills 10 = .ok (.iconst 1, 1) := by decide +kernel
theorem dX11_wills_11 : decode cX11_wills 11 = .ok (.if_icmp .lt 32, 3) := by decide +kernel
theorem dX11_wills_14 : decode cX11_wills 14 = .ok (.iload_n 2, 1) := by decide +kernel
theorem dX11_wills_15 : decode cX11_wills 15 = .ok (.bipush 20, 2) := by decide +kernel
theorem dX11_wills_17 : decode cX11_wills 17 = .ok (.if_icmp .gt 26, 3) := by decide +kernel
theorem dX11_wills_20 : decode cX11_wills 20 = .ok (.aload 4, 2) := by decide +kernel
theorem dX11_wills_22 : decode cX11_wills 22 = .ok (.getfield 107, 3) := by decide +kernel
theorem dX11_wills_25 : decode cX11_wills 25 = .ok (.iload_n 3, 1) := by decide +kernel
theorem dX11_wills_26 : decode cX11_wills 26 = .ok (.invokevirtual 111, 3) := by decide +kernel
theorem dX11_wills_29 : decode cX11_wills 29 = .ok (.ifCond .eq 14, 3) := by decide +kernel
theorem dX11_wills_32 : decode cX11_wills 32 = .ok (.aload 4, 2) := by decide +kernel
theorem dX11_wills_34 : decode cX11_wills 34 = .ok (.getfield 80, 3) := by decide +kernel
theorem dX11_wills_37 : decode cX11_wills 37 = .ok (.getfield 260, 3) := by decide +kernel
theorem dX11_wills_40 : decode cX11_wills 40 = .ok (.ifCond .ne 6, 3) := by decide +kernel
theorem dX11_wills_43 : decode cX11_wills 43 = .ok (.bipush (-2), 2) := by decide +kernel
theorem dX11_wills_45 : decode cX11_wills 45 = .ok (.ireturn, 1) := by decide +kernel
theorem dX11_wills_46 : decode cX11_wills 46 = .ok (.aload_n 0, 1) := by decide +kernel
theorem dX11_wills_47 : decode cX11_wills 47 = .ok (.getfield 10, 3) := by decide +kernel
theorem dX11_wills_50 : decode cX11_wills 50 = .ok (.invokevirtual 162, 3) := by decide +kernel
theorem dX11_wills_53 : decode cX11_wills 53 = .ok (.aload_n 0, 1) := by decide +kernel
theorem dX11_wills_54 : decode cX11_wills 54 = .ok (.getfield 10, 3) := by decide +kernel
theorem dX11_wills_57 : decode cX11_wills 57 = .ok (.iload_n 1, 1) := by decide +kernel
theorem dX11_wills_58 : decode cX11_wills 58 = .ok (.iload_n 2, 1) := by decide +kernel
theorem dX11_wills_59 : decode cX11_wills 59 = .ok (.invokevirtual 261, 3) := by decide +kernel
theorem dX11_wills_62 : decode cX11_wills 62 = .ok (.aload 4, 2) := by decide +kernel
theorem dX11_wills_64 : decode cX11_wills 64 = .ok (.aload_n 0, 1) := by decide +kernel
theorem dX11_wills_65 : decode cX11_wills 65 = .ok (.getfield 10, 3) := by decide +kernel
theorem dX11_wills_68 : decode cX11_wills 68 = .ok (.iload_n 3, 1) := by decide +kernel
theorem dX11_wills_69 : decode cX11_wills 69 = .ok (.invokevirtual 169, 3) := by decide +kernel
theorem dX11_wills_72 : decode cX11_wills 72 = .ok (.invokevirtual 176, 3) := by decide +kernel
theorem dX11_wills_75 : decode cX11_wills 75 = .ok (.ireturn, 1) := by decide +kernel
theorem dX11_sheet_0 : decode cX11_sheet 0 = .ok (.iload_n 1, 1) := by decide +kernel
theorem dX11_sheet_1 : decode cX11_sheet 1 = .ok (.iconst 4, 1) := by decide +kernel
theorem dX11_sheet_2 : decode cX11_sheet 2 = .ok (.invokestatic 48, 3) := by decide +kernel
theorem dX11_sheet_5 : decode cX11_sheet 5 = .ok (.ifCond .eq 17, 3) := by decide +kernel
theorem dX11_sheet_8 : decode cX11_sheet 8 = .ok (.iload_n 2, 1) := by decide +kernel
theorem dX11_sheet_9 : decode cX11_sheet 9 = .ok (.iconst 3, 1) := by decide +kernel
theorem dX11_sheet_10 : decode cX11_sheet 10 = .ok (.invokestatic 48, 3) := by decide +kernel
theorem dX11_sheet_13 : decode cX11_sheet 13 = .ok (.ifCond .eq 9, 3) := by decide +kernel
theorem dX11_sheet_16 : decode cX11_sheet 16 = .ok (.iload_n 3, 1) := by decide +kernel
theorem dX11_sheet_17 : decode cX11_sheet 17 = .ok (.bipush 60, 2) := by decide +kernel
theorem dX11_sheet_19 : decode cX11_sheet 19 = .ok (.if_icmp .le 6, 3) := by decide +kernel
theorem dX11_sheet_22 : decode cX11_sheet 22 = .ok (.bipush (-2), 2) := by decide +kernel
theorem dX11_sheet_24 : decode cX11_sheet 24 = .ok (.ireturn, 1) := by decide +kernel
theorem dX11_sheet_25 : decode cX11_sheet 25 = .ok (.iload_n 3, 1) := by decide +kernel
theorem dX11_sheet_26 : decode cX11_sheet 26 = .ok (.ifCond .ge 9, 3) := by decide +kernel
theorem dX11_sheet_29 : decode cX11_sheet 29 = .ok (.aload_n 0, 1) := by decide +kernel
theorem dX11_sheet_30 : decode cX11_sheet 30 = .ok (.iconst 5, 1) := by decide +kernel
theorem dX11_sheet_31 : decode cX11_sheet 31 = .ok (.invokevirtual 230, 3) := by decide +kernel
theorem dX11_sheet_34 : decode cX11_sheet 34 = .ok (.ireturn, 1) := by decide +kernel
theorem dX11_sheet_35 : decode cX11_sheet 35 = .ok (.aload_n 0, 1) := by decide +kernel
theorem dX11_sheet_36 : decode cX11_sheet 36 = .ok (.getfield 39, 3) := by decide +kernel
theorem dX11_sheet_39 : decode cX11_sheet 39 = .ok (.iload_n 1, 1) := by decide +kernel
theorem dX11_sheet_40 : decode cX11_sheet 40 = .ok (.aaload, 1) := by decide +kernel
theorem dX11_sheet_41 : decode cX11_sheet 41 = .ok (.iload_n 2, 1) := by decide +kernel
theorem dX11_sheet_42 : decode cX11_sheet 42 = .ok (.iload_n 3, 1) := by decide +kernel
theorem dX11_sheet_43 : decode cX11_sheet 43 = .ok (.invokevirtual 265, 3) := by decide +kernel
theorem dX11_sheet_46 : decode cX11_sheet 46 = .ok (.iload_n 3, 1) := by decide +kernel
theorem dX11_sheet_47 : decode cX11_sheet 47 = .ok (.ireturn, 1) := by decide +kernel
theorem dX11_lose_0 : decode cX11_lose 0 = .ok (.iload_n 1, 1) := by decide +kernel
theorem dX11_lose_1 : decode cX11_lose 1 = .ok (.iconst 4, 1) := by decide +kernel
theorem dX11_lose_2 : decode cX11_lose 2 = .ok (.invokestatic 48, 3) := by decide +kernel
theorem dX11_lose_5 : decode cX11_lose 5 = .ok (.ifCond .ne 6, 3) := by decide +kernel
theorem dX11_lose_8 : decode cX11_lose 8 = .ok (.bipush (-2), 2) := by decide +kernel
theorem dX11_lose_10 : decode cX11_lose 10 = .ok (.ireturn, 1) := by decide +kernel
theorem dX11_lose_11 : decode cX11_lose 11 = .ok (.aload_n 0, 1) := by decide +kernel
theorem dX11_lose_12 : decode cX11_lose 12 = .ok (.getfield 39, 3) := by decide +kernel
theorem dX11_lose_15 : decode cX11_lose 15 = .ok (.iload_n 1, 1) := by decide +kernel
theorem dX11_lose_16 : decode cX11_lose 16 = .ok (.aaload, 1) := by decide +kernel
theorem dX11_lose_17 : decode cX11_lose 17 = .ok (.astore_n 2, 1) := by decide +kernel
theorem dX11_lose_18 : decode cX11_lose 18 = .ok (.aload_n 2, 1) := by decide +kernel
theorem dX11_lose_19 : decode cX11_lose 19 = .ok (.invokevirtual 227, 3) := by decide +kernel
theorem dX11_lose_22 : decode cX11_lose 22 = .ok (.ifCond .eq 9, 3) := by decide +kernel
theorem dX11_lose_25 : decode cX11_lose 25 = .ok (.aload_n 0, 1) := by decide +kernel
theorem dX11_lose_26 : decode cX11_lose 26 = .ok (.iconst 1, 1) := by decide +kernel
theorem dX11_lose_27 : decode cX11_lose 27 = .ok (.invokevirtual 230, 3) := by decide +kernel
theorem dX11_lose_30 : decode cX11_lose 30 = .ok (.ireturn, 1) := by decide +kernel
theorem dX11_lose_31 : decode cX11_lose 31 = .ok (.aload_n 2, 1) := by decide +kernel
theorem dX11_lose_32 : decode cX11_lose 32 = .ok (.getfield 268, 3) := by decide +kernel
theorem dX11_lose_35 : decode cX11_lose 35 = .ok (.istore_n 3, 1) := by decide +kernel
theorem dX11_lose_36 : decode cX11_lose 36 = .ok (.aload_n 2, 1) := by decide +kernel
theorem dX11_lose_37 : decode cX11_lose 37 = .ok (.iconst (-1), 1) := by decide +kernel
theorem dX11_lose_38 : decode cX11_lose 38 = .ok (.putfield 268, 3) := by decide +kernel
theorem dX11_lose_41 : decode cX11_lose 41 = .ok (.iload_n 3, 1) := by decide +kernel
theorem dX11_lose_42 : decode cX11_lose 42 = .ok (.ireturn, 1) := by decide +kernel
theorem dX11_lay_0 : decode cX11_lay 0 = .ok (.iload_n 1, 1) := by decide +kernel
theorem dX11_lay_1 : decode cX11_lay 1 = .ok (.iconst 4, 1) := by decide +kernel
theorem dX11_lay_2 : decode cX11_lay 2 = .ok (.invokestatic 48, 3) := by decide +kernel
theorem dX11_lay_5 : decode cX11_lay 5 = .ok (.ifCond .eq 11, 3) := by decide +kernel
theorem dX11_lay_8 : decode cX11_lay 8 = .ok (.iload_n 2, 1) := by decide +kernel
theorem dX11_lay_9 : decode cX11_lay 9 = .ok (.iconst 3, 1) := by decide +kernel
theorem dX11_lay_10 : decode cX11_lay 10 = .ok (.invokestatic 48, 3) := by decide +kernel
theorem dX11_lay_13 : decode cX11_lay 13 = .ok (.ifCond .ne 6, 3) := by decide +kernel
theorem dX11_lay_16 : decode cX11_lay 16 = .ok (.bipush (-2), 2) := by decide +kernel
theorem dX11_lay_18 : decode cX11_lay 18 = .ok (.ireturn, 1) := by decide +kernel
theorem dX11_lay_19 : decode cX11_lay 19 = .ok (.aload_n 0, 1) := by decide +kernel
theorem dX11_lay_20 : decode cX11_lay 20 = .ok (.getfield 39, 3) := by decide +kernel
theorem dX11_lay_23 : decode cX11_lay 23 = .ok (.iload_n 1, 1) := by decide +kernel
theorem dX11_lay_24 : decode cX11_lay 24 = .ok (.aaload, 1) := by decide +kernel
theorem dX11_lay_25 : decode cX11_lay 25 = .ok (.iload_n 2, 1) := by decide +kernel
theorem dX11_lay_26 : decode cX11_lay 26 = .ok (.iload_n 3, 1) := by decide +kernel
theorem dX11_lay_27 : decode cX11_lay 27 = .ok (.invokevirtual 269, 3) := by decide +kernel
theorem dX11_lay_30 : decode cX11_lay 30 = .ok (.istore 5, 2) := by decide +kernel
theorem dX11_lay_32 : decode cX11_lay 32 = .ok (.iload 5, 2) := by decide +kernel
theorem dX11_lay_34 : decode cX11_lay 34 = .ok (.ifCond .eq 10, 3) := by decide +kernel
theorem dX11_lay_37 : decode cX11_lay 37 = .ok (.aload_n 0, 1) := by decide +kernel
theorem dX11_lay_38 : decode cX11_lay 38 = .ok (.iload 5, 2) := by decide +kernel
theorem dX11_lay_40 : decode cX11_lay 40 = .ok (.invokevirtual 230, 3) := by decide +kernel
theorem dX11_lay_43 : decode cX11_lay 43 = .ok (.ireturn, 1) := by decide +kernel
theorem dX11_lay_44 : decode cX11_lay 44 = .ok (.aload_n 0, 1) := by decide +kernel
theorem dX11_lay_45 : decode cX11_lay 45 = .ok (.getfield 39, 3) := by decide +kernel
theorem dX11_lay_48 : decode cX11_lay 48 = .ok (.iload_n 1, 1) := by decide +kernel
theorem dX11_lay_49 : decode cX11_lay 49 = .ok (.aaload, 1) := by decide +kernel
theorem dX11_lay_50 : decode cX11_lay 50 = .ok (.iload_n 3, 1) := by decide +kernel
theorem dX11_lay_51 : decode cX11_lay 51 = .ok (.iload 4, 2) := by decide +kernel
theorem dX11_lay_53 : decode cX11_lay 53 = .ok (.invokevirtual 272, 3) := by decide +kernel
theorem dX11_lay_56 : decode cX11_lay 56 = .ok (.iconst 1, 1) := by decide +kernel
theorem dX11_lay_57 : decode cX11_lay 57 = .ok (.ireturn, 1) := by decide +kernel
theorem dX11_get_0 : decode cX11_get 0 = .ok (.iload_n 1, 1) := by decide +kernel
theorem dX11_get_1 : decode cX11_get 1 = .ok (.iconst 4, 1) := by decide +kernel
theorem dX11_get_2 : decode cX11_get 2 = .ok (.invokestatic 48, 3) := by decide +kernel
theorem dX11_get_5 : decode cX11_get 5 = .ok (.ifCond .eq 11, 3) := by decide +kernel
theorem dX11_get_8 : decode cX11_get 8 = .ok (.iload_n 2, 1) := by decide +kernel
theorem dX11_get_9 : decode cX11_get 9 = .ok (.iconst 3, 1) := by decide +kernel
theorem dX11_get_10 : decode cX11_get 10 = .ok (.invokestatic 48, 3) := by decide +kernel
theorem dX11_get_13 : decode cX11_get 13 = .ok (.ifCond .ne 7, 3) := by decide +kernel
theorem dX11_get_16 : decode cX11_get 16 = .ok (.ldc_w 275, 3) := by decide +kernel
theorem dX11_get_19 : decode cX11_get 19 = .ok (.ireturn, 1) := by decide +kernel
theorem dX11_get_20 : decode cX11_get 20 = .ok (.aload_n 0, 1) := by decide +kernel
theorem dX11_get_21 : decode cX11_get 21 = .ok (.getfield 39, 3) := by decide +kernel
theorem dX11_get_24 : decode cX11_get 24 = .ok (.iload_n 1, 1) := by decide +kernel
theorem dX11_get_25 : decode cX11_get 25 = .ok (.aaload, 1) := by decide +kernel
theorem dX11_get_26 : decode cX11_get 26 = .ok (.iload_n 2, 1) := by decide +kernel
theorem dX11_get_27 : decode cX11_get 27 = .ok (.iload_n 3, 1) := by decide +kernel
theorem dX11_get_28 : decode cX11_get 28 = .ok (.invokevirtual 269, 3) := by decide +kernel
theorem dX11_get_31 : decode cX11_get 31 = .ok (.istore 4, 2) := by decide +kernel
theorem dX11_get_33 : decode cX11_get 33 = .ok (.iload 4, 2) := by decide +kernel
theorem dX11_get_35 : decode cX11_get 35 = .ok (.ifCond .eq 13, 3) := by decide +kernel
theorem dX11_get_38 : decode cX11_get 38 = .ok (.aload_n 0, 1) := by decide +kernel
theorem dX11_get_39 : decode cX11_get 39 = .ok (.iload 4, 2) := by decide +kernel
theorem dX11_get_41 : decode cX11_get 41 = .ok (.putfield 43, 3) := by decide +kernel
theorem dX11_get_44 : decode cX11_get 44 = .ok (.ldc_w 275, 3) := by decide +kernel
theorem dX11_get_47 : decode cX11_get 47 = .ok (.ireturn, 1) := by decide +kernel
theorem dX11_get_48 : decode cX11_get 48 = .ok (.aload_n 0, 1) := by decide +kernel
theorem dX11_get_49 : decode cX11_get 49 = .ok (.getfield 39, 3) := by decide +kernel
theorem dX11_get_52 : decode cX11_get 52 = .ok (.iload_n 1, 1) := by decide +kernel
theorem dX11_get_53 : decode cX11_get 53 = .ok (.aaload, 1) := by decide +kernel
theorem dX11_get_54 : decode cX11_get 54 = .ok (.iload_n 3, 1) := by decide +kernel
theorem dX11_get_55 : decode cX11_get 55 = .ok (.invokevirtual 276, 3) := by decide +kernel
theorem dX11_get_58 : decode cX11_get 58 = .ok (.ireturn, 1) := by decide +kernel
theorem dX11_copy_0 : decode cX11_copy 0 = .ok (.iload_n 1, 1) := by decide +kernel
theorem dX11_copy_1 : decode cX11_copy 1 = .ok (.iconst 4, 1) := by decide +kernel
theorem dX11_copy_2 : decode cX11_copy 2 = .ok (.invokestatic 48, 3) := by decide +kernel
theorem dX11_copy_5 : decode cX11_copy 5 = .ok (.ifCond .eq 11, 3) := by decide +kernel
theorem dX11_copy_8 : decode cX11_copy 8 = .ok (.iload_n 3, 1) := by decide +kernel
theorem dX11_copy_9 : decode cX11_copy 9 = .ok (.iconst 4, 1) := by decide +kernel
theorem dX11_copy_10 : decode cX11_copy 10 = .ok (.invokestatic 48, 3) := by decide +kernel
theorem dX11_copy_13 : decode cX11_copy 13 = .ok (.ifCond .ne 6, 3) := by decide +kernel
theorem dX11_copy_16 : decode cX11_copy 16 = .ok (.bipush (-2), 2) := by decide +kernel
theorem dX11_copy_18 : decode cX11_copy 18 = .ok (.ireturn, 1) := by decide +kernel
theorem dX11_copy_19 : decode cX11_copy 19 = .ok (.aload_n 0, 1) := by decide +kernel
theorem dX11_copy_20 : decode cX11_copy 20 = .ok (.getfield 39, 3) := by decide +kernel
theorem dX11_copy_23 : decode cX11_copy 23 = .ok (.iload_n 1, 1) := by decide +kernel
theorem dX11_copy_24 : decode cX11_copy 24 = .ok (.aaload, 1) := by decide +kernel
theorem dX11_copy_25 : decode cX11_copy 25 = .ok (.astore 6, 2) := by decide +kernel
theorem dX11_copy_27 : decode cX11_copy 27 = .ok (.aload_n 0, 1) := by decide +kernel
theorem dX11_copy_28 : decode cX11_copy 28 = .ok (.getfield 39, 3) := by decide +kernel
theorem dX11_copy_31 : decode cX11_copy 31 = .ok (.iload_n 3, 1) := by decide +kernel
theorem dX11_copy_32 : decode cX11_copy 32 = .ok (.aaload, 1) := by decide +kernel
theorem dX11_copy_33 : decode cX11_copy 33 = .ok (.astore 7, 2) := by decide +kernel
theorem dX11_copy_35 : decode cX11_copy 35 = .ok (.aload 6, 2) := by decide +kernel
theorem dX11_copy_37 : decode cX11_copy 37 = .ok (.invokevirtual 227, 3) := by decide +kernel
theorem dX11_copy_40 : decode cX11_copy 40 = .ok (.ifCond .ne 11, 3) := by decide +kernel
theorem dX11_copy_43 : decode cX11_copy 43 = .ok (.aload 7, 2) := by decide +kernel
theorem dX11_copy_45 : decode cX11_copy 45 = .ok (.invokevirtual 227, 3) := by decide +kernel
theorem dX11_copy_48 : decode cX11_copy 48 = .ok (.ifCond .eq 9, 3) := by decide +kernel
theorem dX11_copy_51 : decode cX11_copy 51 = .ok (.aload_n 0, 1) := by decide +kernel
theorem dX11_copy_52 : decode cX11_copy 52 = .ok (.iconst 1, 1) := by decide +kernel
theorem dX11_copy_53 : decode cX11_copy 53 = .ok (.invokevirtual 230, 3) := by decide +kernel
theorem dX11_copy_56 : decode cX11_copy 56 = .ok (.ireturn, 1) := by decide +kernel
theorem dX11_copy_57 : decode cX11_copy 57 = .ok (.aload 6, 2) := by decide +kernel
theorem dX11_copy_59 : decode cX11_copy 59 = .ok (.getfield 279, 3) := by decide +kernel
theorem dX11_copy_62 : decode cX11_copy 62 = .ok (.aload 7, 2) := by decide +kernel
theorem dX11_copy_64 : decode cX11_copy 64 = .ok (.getfield 279, 3) := by decide +kernel
theorem dX11_copy_67 : decode cX11_copy 67 = .ok (.if_icmp .eq 9, 3) := by decide +kernel
theorem dX11_copy_70 : decode cX11_copy 70 = .ok (.aload_n 0, 1) := by decide +kernel
theorem dX11_copy_71 : decode cX11_copy 71 = .ok (.iconst 4, 1) := by decide +kernel
theorem dX11_copy_72 : decode cX11_copy 72 = .ok (.invokevirtual 230, 3) := by decide +kernel
theorem dX11_copy_75 : decode cX11_copy 75 = .ok (.ireturn, 1) := by decide +kernel
theorem dX11_copy_76 : decode cX11_copy 76 = .ok (.aload 6, 2) := by decide +kernel
theorem dX11_copy_78 : decode cX11_copy 78 = .ok (.iload_n 2, 1) := by decide +kernel
theorem dX11_copy_79 : decode cX11_copy 79 = .ok (.iload 5, 2) := by decide +kernel
theorem dX11_copy_81 : decode cX11_copy 81 = .ok (.invokevirtual 282, 3) := by decide +kernel
theorem dX11_copy_84 : decode cX11_copy 84 = .ok (.ifCond .eq 15, 3) := by decide +kernel
theorem dX11_copy_87 : decode cX11_copy 87 = .ok (.aload 7, 2) := by decide +kernel
theorem dX11_copy_89 : decode cX11_copy 89 = .ok (.iload 4, 2) := by decide +kernel
theorem dX11_copy_91 : decode cX11_copy 91 = .ok (.iload 5, 2) := by decide +kernel
theorem dX11_copy_93 : decode cX11_copy 93 = .ok (.invokevirtual 282, 3) := by decide +kernel
theorem dX11_copy_96 : decode cX11_copy 96 = .ok (.ifCond .ne 9, 3) := by decide +kernel
theorem dX11_copy_99 : decode cX11_copy 99 = .ok (.aload_n 0, 1) := by decide +kernel
theorem dX11_copy_100 : decode cX11_copy 100 = .ok (.iconst 2, 1) := by decide +kernel
theorem dX11_copy_101 : decode cX11_copy 101 = .ok (.invokevirtual 230, 3) := by decide +kernel
theorem dX11_copy_104 : decode cX11_copy 104 = .ok (.ireturn, 1) := by decide +kernel
theorem dX11_copy_105 : decode cX11_copy 105 = .ok (.aload 6, 2) := by decide +kernel
theorem dX11_copy_107 : decode cX11_copy 107 = .ok (.getfield 285, 3) := by decide +kernel
theorem dX11_copy_110 : decode cX11_copy 110 = .ok (.iload_n 2, 1) := by decide +kernel
theorem dX11_copy_111 : decode cX11_copy 111 = .ok (.aload 7, 2) := by decide +kernel
theorem dX11_copy_113 : decode cX11_copy 113 = .ok (.getfield 285, 3) := by decide +kernel
theorem dX11_copy_116 : decode cX11_copy 116 = .ok (.iload 4, 2) := by decide +kernel
theorem dX11_copy_118 : decode cX11_copy 118 = .ok (.iload 5, 2) := by decide +kernel
theorem dX11_copy_120 : decode cX11_copy 120 = .ok (.invokestatic 288, 3) := by decide +kernel
theorem dX11_copy_123 : decode cX11_copy 123 = .ok (.iconst 1, 1) := by decide +kernel
theorem dX11_copy_124 : decode cX11_copy 124 = .ok (.ireturn, 1) := by decide +kernel
theorem dX11_hours_0 : decode cX11_hours 0 = .ok (.aload_n 0, 1) := by decide +kernel
theorem dX11_hours_1 : decode cX11_hours 1 = .ok (.getfield 10, 3) := by decide +kernel
theorem dX11_hours_4 : decode cX11_hours 4 = .ok (.getfield 76, 3) := by decide +kernel
theorem dX11_hours_7 : decode cX11_hours 7 = .ok (.getfield 107, 3) := by decide +kernel
theorem dX11_hours_10 : decode cX11_hours 10 = .ok (.iload_n 1, 1) := by decide +kernel
theorem dX11_hours_11 : decode cX11_hours 11 = .ok (.invokevirtual 111, 3) := by decide +kernel
theorem dX11_hours_14 : decode cX11_hours 14 = .ok (.ifCond .eq 11, 3) := by decide +kernel
theorem dX11_hours_17 : decode cX11_hours 17 = .ok (.iload_n 2, 1) := by decide +kernel
theorem dX11_hours_18 : decode cX11_hours 18 = .ok (.iconst 4, 1) := by decide +kernel
theorem dX11_hours_19 : decode cX11_hours 19 = .ok (.invokestatic 48, 3) := by decide +kernel
theorem dX11_hours_22 : decode cX11_hours 22 = .ok (.ifCond .ne 6, 3) := by decide +kernel
theorem dX11_hours_25 : decode cX11_hours 25 = .ok (.bipush (-2), 2) := by decide +kernel
theorem dX11_hours_27 : decode cX11_hours 27 = .ok (.ireturn, 1) := by decide +kernel
theorem dX11_hours_28 : decode cX11_hours 28 = .ok (.aload_n 0, 1) := by decide +kernel
theorem dX11_hours_29 : decode cX11_hours 29 = .ok (.getfield 39, 3) := by decide +kernel
theorem dX11_hours_32 : decode cX11_hours 32 = .ok (.iload_n 2, 1) := by decide +kernel
theorem dX11_hours_33 : decode cX11_hours 33 = .ok (.aaload, 1) := by decide +kernel
theorem dX11_hours_34 : decode cX11_hours 34 = .ok (.astore_n 3, 1) := by decide +kernel
theorem dX11_hours_35 : decode cX11_hours 35 = .ok (.aload_n 3, 1) := by decide +kernel
theorem dX11_hours_36 : decode cX11_hours 36 = .ok (.invokevirtual 227, 3) := by decide +kernel
theorem dX11_hours_39 : decode cX11_hours 39 = .ok (.ifCond .eq 9, 3) := by decide +kernel
theorem dX11_hours_42 : decode cX11_hours 42 = .ok (.aload_n 0, 1) := by decide +kernel
theorem dX11_hours_43 : decode cX11_hours 43 = .ok (.iconst 1, 1) := by decide +kernel
theorem dX11_hours_44 : decode cX11_hours 44 = .ok (.invokevirtual 230, 3) := by decide +kernel
theorem dX11_hours_47 : decode cX11_hours 47 = .ok (.ireturn, 1) := by decide +kernel
theorem dX11_hours_48 : decode cX11_hours 48 = .ok (.aload_n 0, 1) := by decide +kernel
theorem dX11_hours_49 : decode cX11_hours 49 = .ok (.getfield 10, 3) := by decide +kernel
theorem dX11_hours_52 : decode cX11_hours 52 = .ok (.invokevirtual 162, 3) := by decide +kernel
theorem dX11_hours_55 : decode cX11_hours 55 = .ok (.aload_n 3, 1) := by decide +kernel
theorem dX11_hours_56 : decode cX11_hours 56 = .ok (.getfield 268, 3) := by decide +kernel
theorem dX11_hours_59 : decode cX11_hours 59 = .ok (.bipush 24, 2) := by decide +kernel
theorem dX11_hours_61 : decode cX11_hours 61 = .ok (.invokestatic 294, 3) := by decide +kernel
theorem dX11_hours_64 : decode cX11_hours 64 = .ok (.istore 4, 2) := by decide +kernel
theorem dX11_hours_66 : decode cX11_hours 66 = .ok (.iconst 0, 1) := by decide +kernel
theorem dX11_hours_67 : decode cX11_hours 67 = .ok (.istore 5, 2) := by decide +kernel
theorem dX11_hours_69 : decode cX11_hours 69 = .ok (.iload 5, 2) := by decide +kernel
theorem dX11_hours_71 : decode cX11_hours 71 = .ok (.iload 4, 2) := by decide +kernel
theorem dX11_hours_73 : decode cX11_hours 73 = .ok (.if_icmp .ge 25, 3) := by decide +kernel
theorem dX11_hours_76 : decode cX11_hours 76 = .ok (.aload_n 3, 1) := by decide +kernel
theorem dX11_hours_77 : decode cX11_hours 77 = .ok (.iload 5, 2) := by decide +kernel
theorem dX11_hours_79 : decode cX11_hours 79 = .ok (.aload_n 0, 1) := by decide +kernel
theorem dX11_hours_80 : decode cX11_hours 80 = .ok (.getfield 10, 3) := by decide +kernel
theorem dX11_hours_83 : decode cX11_hours 83 = .ok (.iload_n 1, 1) := by decide +kernel
theorem dX11_hours_84 : decode cX11_hours 84 = .ok (.iload 5, 2) := by decide +kernel
theorem dX11_hours_86 : decode cX11_hours 86 = .ok (.invokevirtual 182, 3) := by decide +kernel
theorem dX11_hours_89 : decode cX11_hours 89 = .ok (.invokevirtual 272, 3) := by decide +kernel
theorem dX11_hours_92 : decode cX11_hours 92 = .ok (.iinc 5 1, 3) := by decide +kernel
theorem dX11_hours_95 : decode cX11_hours 95 = .ok (.goto (-26), 3) := by decide +kernel
theorem dX11_hours_98 : decode cX11_hours 98 = .ok (.iload 4, 2) := by decide +kernel
theorem dX11_hours_100 : decode cX11_hours 100 = .ok (.ireturn, 1) := by decide +kernel
theorem dX11_count_0 : decode cX11_count 0 = .ok (.iload_n 1, 1) := by decide +kernel
theorem dX11_count_1 : decode cX11_count 1 = .ok (.tableswitch 153 0 8 #[51, 65, 79, 90, 104, 118, 129, 140, 148], 51) := by decide +kernel
theorem dX11_count_52 : decode cX11_count 52 = .ok (.aload_n 0, 1) := by decide +kernel
theorem dX11_count_53 : decode cX11_count 53 = .ok (.getfield 10, 3) := by decide +kernel
theorem dX11_count_56 : decode cX11_count 56 = .ok (.getfield 76, 3) := by decide +kernel
theorem dX11_count_59 : decode cX11_count 59 = .ok (.getfield 80, 3) := by decide +kernel
theorem dX11_count_62 : decode cX11_count 62 = .ok (.getfield 260, 3) := by decide +kernel
theorem dX11_count_65 : decode cX11_count 65 = .ok (.ireturn, 1) := by decide +kernel
theorem dX11_count_66 : decode cX11_count 66 = .ok (.aload_n 0, 1) := by decide +kernel
theorem dX11_count_67 : decode cX11_count 67 = .ok (.getfield 10, 3) := by decide +kernel
theorem dX11_count_70 : decode cX11_count 70 = .ok (.getfield 76, 3) := by decide +kernel
theorem dX11_count_73 : decode cX11_count 73 = .ok (.getfield 107, 3) := by decide +kernel
theorem dX11_count_76 : decode cX11_count 76 = .ok (.getfield 188, 3) := by decide +kernel
theorem dX11_count_79 : decode cX11_count 79 = .ok (.ireturn, 1) := by decide +kernel
theorem dX11_count_80 : decode cX11_count 80 = .ok (.aload_n 0, 1) := by decide +kernel
theorem dX11_count_81 : decode cX11_count 81 = .ok (.getfield 10, 3) := by decide +kernel
theorem dX11_count_84 : decode cX11_count 84 = .ok (.getfield 123, 3) := by decide +kernel
theorem dX11_count_87 : decode cX11_count 87 = .ok (.getfield 297, 3) := by decide +kernel
theorem dX11_count_90 : decode cX11_count 90 = .ok (.ireturn, 1) := by decide +kernel
theorem dX11_count_91 : decode cX11_count 91 = .ok (.aload_n 0, 1) := by decide +kernel
theorem dX11_count_92 : decode cX11_count 92 = .ok (.getfield 10, 3) := by decide +kernel
theorem dX11_count_95 : decode cX11_count 95 = .ok (.getfield 76, 3) := by decide +kernel
theorem dX11_count_98 : decode cX11_count 98 = .ok (.getfield 80, 3) := by decide +kernel
theorem dX11_count_101 : decode cX11_count 101 = .ok (.getfield 298, 3) := by decide +kernel
theorem dX11_count_104 : decode cX11_count 104 = .ok (.ireturn, 1) := by decide +kernel
theorem dX11_count_105 : decode cX11_count 105 = .ok (.aload_n 0, 1) := by decide +kernel
theorem dX11_count_106 : decode cX11_count 106 = .ok (.getfield 10, 3) := by decide +kernel
theorem dX11_count_109 : decode cX11_count 109 = .ok (.getfield 76, 3) := by decide +kernel
theorem dX11_count_112 : decode cX11_count 112 = .ok (.getfield 107, 3) := by decide +kernel
theorem dX11_count_115 : decode cX11_count 115 = .ok (.getfield 299, 3) := by decide +kernel
theorem dX11_count_118 : decode cX11_count 118 = .ok (.ireturn, 1) := by decide +kernel
theorem dX11_count_119 : decode cX11_count 119 = .ok (.aload_n 0, 1) := by decide +kernel
theorem dX11_count_120 : decode cX11_count 120 = .ok (.getfield 10, 3) := by decide +kernel
theorem dX11_count_123 : decode cX11_count 123 = .ok (.getfield 123, 3) := by decide +kernel
theorem dX11_count_126 : decode cX11_count 126 = .ok (.getfield 300, 3) := by decide +kernel
theorem dX11_count_129 : decode cX11_count 129 = .ok (.ireturn, 1) := by decide +kernel
theorem dX11_count_130 : decode cX11_count 130 = .ok (.aload_n 0, 1) := by decide +kernel
theorem dX11_count_131 : decode cX11_count 131 = .ok (.getfield 10, 3) := by decide +kernel
theorem dX11_count_134 : decode cX11_count 134 = .ok (.getfield 142, 3) := by decide +kernel
theorem dX11_count_137 : decode cX11_count 137 = .ok (.getfield 151, 3) := by decide +kernel
theorem dX11_count_140 : decode cX11_count 140 = .ok (.ireturn, 1) := by decide +kernel
theorem dX11_count_141 : decode cX11_count 141 = .ok (.aload_n 0, 1) := by decide +kernel
theorem dX11_count_142 : decode cX11_count 142 = .ok (.getfield 26, 3) := by decide +kernel
theorem dX11_count_145 : decode cX11_count 145 = .ok (.getfield 226, 3) := by decide +kernel
theorem dX11_count_148 : decode cX11_count 148 = .ok (.ireturn, 1) := by decide +kernel
theorem dX11_count_149 : decode cX11_count 149 = .ok (.aload_n 0, 1) := by decide +kernel
theorem dX11_count_150 : decode cX11_count 150 = .ok (.getfield 43, 3) := by decide +kernel
theorem dX11_count_153 : decode cX11_count 153 = .ok (.ireturn, 1) := by decide +kernel
theorem dX11_count_154 : decode cX11_count 154 = .ok (.bipush (-2), 2) := by decide +kernel
theorem dX11_count_156 : decode cX11_count 156 = .ok (.ireturn, 1) := by decide +kernel
theorem dX11_digest_0 : decode cX11_digest 0 = .ok (.ldc2_w 301, 3) := by decide +kernel
theorem dX11_digest_3 : decode cX11_digest 3 = .ok (.lstore_n 1, 1) := by decide +kernel
theorem dX11_digest_4 : decode cX11_digest 4 = .ok (.iconst 0, 1) := by decide +kernel
theorem dX11_digest_5 : decode cX11_digest 5 = .ok (.istore_n 3, 1) := by decide +kernel
theorem dX11_digest_6 : decode cX11_digest 6 = .ok (.iload_n 3, 1) := by decide +kernel
theorem dX11_digest_7 : decode cX11_digest 7 = .ok (.bipush 7, 2) := by decide +kernel
theorem dX11_digest_9 : decode cX11_digest 9 = .ok (.if_icmp .gt 20, 3) := by decide +kernel
theorem dX11_digest_12 : decode cX11_digest 12 = .ok (.lload_n 1, 1) := by decide +kernel
theorem dX11_digest_13 : decode cX11_digest 13 = .ok (.aload_n 0, 1) := by decide +kernel
theorem dX11_digest_14 : decode cX11_digest 14 = .ok (.iload_n 3, 1) := by decide +kernel
theorem dX11_digest_15 : decode cX11_digest 15 = .ok (.invokevirtual 303, 3) := by decide +kernel
theorem dX11_digest_18 : decode cX11_digest 18 = .ok (.i2l, 1) := by decide +kernel
theorem dX11_digest_19 : decode cX11_digest 19 = .ok (.invokestatic 306, 3) := by decide +kernel
theorem dX11_digest_22 : decode cX11_digest 22 = .ok (.lstore_n 1, 1) := by decide +kernel
theorem dX11_digest_23 : decode cX11_digest 23 = .ok (.iinc 3 1, 3) := by decide +kernel
theorem dX11_digest_26 : decode cX11_digest 26 = .ok (.goto (-20), 3) := by decide +kernel
theorem dX11_digest_29 : decode cX11_digest 29 = .ok (.iconst 0, 1) := by decide +kernel
theorem dX11_digest_30 : decode cX11_digest 30 = .ok (.istore_n 3, 1) := by decide +kernel
theorem dX11_digest_31 : decode cX11_digest 31 = .ok (.iload_n 3, 1) := by decide +kernel
theorem dX11_digest_32 : decode cX11_digest 32 = .ok (.iconst 3, 1) := by decide +kernel
theorem dX11_digest_33 : decode cX11_digest 33 = .ok (.if_icmp .ge 20, 3) := by decide +kernel
theorem dX11_digest_36 : decode cX11_digest 36 = .ok (.lload_n 1, 1) := by decide +kernel
theorem dX11_digest_37 : decode cX11_digest 37 = .ok (.aload_n 0, 1) := by decide +kernel
theorem dX11_digest_38 : decode cX11_digest 38 = .ok (.iload_n 3, 1) := by decide +kernel
theorem dX11_digest_39 : decode cX11_digest 39 = .ok (.invokevirtual 310, 3) := by decide +kernel
theorem dX11_digest_42 : decode cX11_digest 42 = .ok (.i2l, 1) := by decide +kernel
theorem dX11_digest_43 : decode cX11_digest 43 = .ok (.invokestatic 306, 3) := by decide +kernel
theorem dX11_digest_46 : decode cX11_digest 46 = .ok (.lstore_n 1, 1) := by decide +kernel
theorem dX11_digest_47 : decode cX11_digest 47 = .ok (.iinc 3 1, 3) := by decide +kernel
theorem dX11_digest_50 : decode cX11_digest 50 = .ok (.goto (-19), 3) := by decide +kernel
theorem dX11_digest_53 : decode cX11_digest 53 = .ok (.iconst 0, 1) := by decide +kernel
theorem dX11_digest_54 : decode cX11_digest 54 = .ok (.istore_n 3, 1) := by decide +kernel
theorem dX11_digest_55 : decode cX11_digest 55 = .ok (.iload_n 3, 1) := by decide +kernel
theorem dX11_digest_56 : decode cX11_digest 56 = .ok (.aload_n 0, 1) := by decide +kernel
theorem dX11_digest_57 : decode cX11_digest 57 = .ok (.getfield 10, 3) := by decide +kernel
theorem dX11_digest_60 : decode cX11_digest 60 = .ok (.getfield 76, 3) := by decide +kernel
theorem dX11_digest_63 : decode cX11_digest 63 = .ok (.getfield 80, 3) := by decide +kernel
theorem dX11_digest_66 : decode cX11_digest 66 = .ok (.getfield 260, 3) := by decide +kernel
theorem dX11_digest_69 : decode cX11_digest 69 = .ok (.if_icmp .ge 16, 3) := by decide +kernel
theorem dX11_digest_72 : decode cX11_digest 72 = .ok (.aload_n 0, 1) := by decide +kernel
theorem dX11_digest_73 : decode cX11_digest 73 = .ok (.lload_n 1, 1) := by decide +kernel
theorem dX11_digest_74 : decode cX11_digest 74 = .ok (.iload_n 3, 1) := by decide +kernel
theorem dX11_digest_75 : decode cX11_digest 75 = .ok (.invokevirtual 313, 3) := by decide +kernel
theorem dX11_digest_78 : decode cX11_digest 78 = .ok (.lstore_n 1, 1) := by decide +kernel
theorem dX11_digest_79 : decode cX11_digest 79 = .ok (.iinc 3 1, 3) := by decide +kernel
theorem dX11_digest_82 : decode cX11_digest 82 = .ok (.goto (-27), 3) := by decide +kernel
theorem dX11_digest_85 : decode cX11_digest 85 = .ok (.iconst 0, 1) := by decide +kernel
theorem dX11_digest_86 : decode cX11_digest 86 = .ok (.istore_n 3, 1) := by decide +kernel
theorem dX11_digest_87 : decode cX11_digest 87 = .ok (.iload_n 3, 1) := by decide +kernel
theorem dX11_digest_88 : decode cX11_digest 88 = .ok (.aload_n 0, 1) := by decide +kernel
theorem dX11_digest_89 : decode cX11_digest 89 = .ok (.getfield 10, 3) := by decide +kernel
theorem dX11_digest_92 : decode cX11_digest 92 = .ok (.getfield 76, 3) := by decide +kernel
theorem dX11_digest_95 : decode cX11_digest 95 = .ok (.getfield 107, 3) := by decide +kernel
theorem dX11_digest_98 : decode cX11_digest 98 = .ok (.getfield 188, 3) := by decide +kernel
theorem dX11_digest_101 : decode cX11_digest 101 = .ok (.if_icmp .ge 21, 3) := by decide +kernel
theorem dX11_digest_104 : decode cX11_digest 104 = .ok (.aload_n 0, 1) := by decide +kernel
theorem dX11_digest_105 : decode cX11_digest 105 = .ok (.aload_n 0, 1) := by decide +kernel
theorem dX11_digest_106 : decode cX11_digest 106 = .ok (.lload_n 1, 1) := by decide +kernel
theorem dX11_digest_107 : decode cX11_digest 107 = .ok (.iload_n 3, 1) := by decide +kernel
theorem dX11_digest_108 : decode cX11_digest 108 = .ok (.invokevirtual 317, 3) := by decide +kernel
theorem dX11_digest_111 : decode cX11_digest 111 = .ok (.iload_n 3, 1) := by decide +kernel
theorem dX11_digest_112 : decode cX11_digest 112 = .ok (.invokevirtual 320, 3) := by decide +kernel
theorem dX11_digest_115 : decode cX11_digest 115 = .ok (.lstore_n 1, 1) := by decide +kernel
theorem dX11_digest_116 : decode cX11_digest 116 = .ok (.iinc 3 1, 3) := by decide +kernel
theorem dX11_digest_119 : decode cX11_digest 119 = .ok (.goto (-32), 3) := by decide +kernel
theorem dX11_digest_122 : decode cX11_digest 122 = .ok (.iconst 0, 1) := by decide +kernel
theorem dX11_digest_123 : decode cX11_digest 123 = .ok (.istore_n 3, 1) := by decide +kernel
theorem dX11_digest_124 : decode cX11_digest 124 = .ok (.iload_n 3, 1) := by decide +kernel
theorem dX11_digest_125 : decode cX11_digest 125 = .ok (.aload_n 0, 1) := by decide +kernel
theorem dX11_digest_126 : decode cX11_digest 126 = .ok (.getfield 10, 3) := by decide +kernel
theorem dX11_digest_129 : decode cX11_digest 129 = .ok (.getfield 123, 3) := by decide +kernel
theorem dX11_digest_132 : decode cX11_digest 132 = .ok (.getfield 297, 3) := by decide +kernel
theorem dX11_digest_135 : decode cX11_digest 135 = .ok (.if_icmp .ge 37, 3) := by decide +kernel
theorem dX11_digest_138 : decode cX11_digest 138 = .ok (.iconst 0, 1) := by decide +kernel
theorem dX11_digest_139 : decode cX11_digest 139 = .ok (.istore 4, 2) := by decide +kernel
theorem dX11_digest_141 : decode cX11_digest 141 = .ok (.iload 4, 2) := by decide +kernel
theorem dX11_digest_143 : decode cX11_digest 143 = .ok (.iconst 3, 1) := by decide +kernel
theorem dX11_digest_144 : decode cX11_digest 144 = .ok (.if_icmp .gt 22, 3) := by decide +kernel
theorem dX11_digest_147 : decode cX11_digest 147 = .ok (.lload_n 1, 1) := by decide +kernel
theorem dX11_digest_148 : decode cX11_digest 148 = .ok (.aload_n 0, 1) := by decide +kernel
theorem dX11_digest_149 : decode cX11_digest 149 = .ok (.iload_n 3, 1) := by decide +kernel
theorem dX11_digest_150 : decode cX11_digest 150 = .ok (.iload 4, 2) := by decide +kernel
theorem dX11_digest_152 : decode cX11_digest 152 = .ok (.invokevirtual 323, 3) := by decide +kernel
theorem dX11_digest_155 : decode cX11_digest 155 = .ok (.i2l, 1) := by decide +kernel
theorem dX11_digest_156 : decode cX11_digest 156 = .ok (.invokestatic 306, 3) := by decide +kernel
theorem dX11_digest_159 : decode cX11_digest 159 = .ok (.lstore_n 1, 1) := by decide +kernel
theorem dX11_digest_160 : decode cX11_digest 160 = .ok (.iinc 4 1, 3) := by decide +kernel
theorem dX11_digest_163 : decode cX11_digest 163 = .ok (.goto (-22), 3) := by decide +kernel
theorem dX11_digest_166 : decode cX11_digest 166 = .ok (.iinc 3 1, 3) := by decide +kernel
theorem dX11_digest_169 : decode cX11_digest 169 = .ok (.goto (-45), 3) := by decide +kernel
theorem dX11_digest_172 : decode cX11_digest 172 = .ok (.lload_n 1, 1) := by decide +kernel
theorem dX11_digest_173 : decode cX11_digest 173 = .ok (.aload_n 0, 1) := by decide +kernel
theorem dX11_digest_174 : decode cX11_digest 174 = .ok (.invokevirtual 326, 3) := by decide +kernel
theorem dX11_digest_177 : decode cX11_digest 177 = .ok (.i2l, 1) := by decide +kernel
theorem dX11_digest_178 : decode cX11_digest 178 = .ok (.invokestatic 306, 3) := by decide +kernel
theorem dX11_digest_181 : decode cX11_digest 181 = .ok (.lstore_n 1, 1) := by decide +kernel
theorem dX11_digest_182 : decode cX11_digest 182 = .ok (.iconst 0, 1) := by decide +kernel
theorem dX11_digest_183 : decode cX11_digest 183 = .ok (.istore_n 3, 1) := by decide +kernel
theorem dX11_digest_184 : decode cX11_digest 184 = .ok (.iload_n 3, 1) := by decide +kernel
theorem dX11_digest_185 : decode cX11_digest 185 = .ok (.iconst 3, 1) := by decide +kernel
theorem dX11_digest_186 : decode cX11_digest 186 = .ok (.if_icmp .gt 20, 3) := by decide +kernel
theorem dX11_digest_189 : decode cX11_digest 189 = .ok (.lload_n 1, 1) := by decide +kernel
theorem dX11_digest_190 : decode cX11_digest 190 = .ok (.aload_n 0, 1) := by decide +kernel
theorem dX11_digest_191 : decode cX11_digest 191 = .ok (.iload_n 3, 1) := by decide +kernel
theorem dX11_digest_192 : decode cX11_digest 192 = .ok (.invokevirtual 330, 3) := by decide +kernel
theorem dX11_digest_195 : decode cX11_digest 195 = .ok (.i2l, 1) := by decide +kernel
theorem dX11_digest_196 : decode cX11_digest 196 = .ok (.invokestatic 306, 3) := by decide +kernel
theorem dX11_digest_199 : decode cX11_digest 199 = .ok (.lstore_n 1, 1) := by decide +kernel
theorem dX11_digest_200 : decode cX11_digest 200 = .ok (.iinc 3 1, 3) := by decide +kernel
theorem dX11_digest_203 : decode cX11_digest 203 = .ok (.goto (-19), 3) := by decide +kernel
theorem dX11_digest_206 : decode cX11_digest 206 = .ok (.lload_n 1, 1) := by decide +kernel
theorem dX11_digest_207 : decode cX11_digest 207 = .ok (.aload_n 0, 1) := by decide +kernel
theorem dX11_digest_208 : decode cX11_digest 208 = .ok (.iconst (-1), 1) := by decide +kernel
theorem dX11_digest_209 : decode cX11_digest 209 = .ok (.invokevirtual 333, 3) := by decide +kernel
theorem dX11_digest_212 : decode cX11_digest 212 = .ok (.i2l, 1) := by decide +kernel
theorem dX11_digest_213 : decode cX11_digest 213 = .ok (.invokestatic 306, 3) := by decide +kernel
theorem dX11_digest_216 : decode cX11_digest 216 = .ok (.aload_n 0, 1) := by decide +kernel
theorem dX11_digest_217 : decode cX11_digest 217 = .ok (.iconst 0, 1) := by decide +kernel
theorem dX11_digest_218 : decode cX11_digest 218 = .ok (.invokevirtual 333, 3) := by decide +kernel
theorem dX11_digest_221 : decode cX11_digest 221 = .ok (.i2l, 1) := by decide +kernel
theorem dX11_digest_222 : decode cX11_digest 222 = .ok (.invokestatic 306, 3) := by decide +kernel
theorem dX11_digest_225 : decode cX11_digest 225 = .ok (.lreturn, 1) := by decide +kernel
theorem dX11_isBelow_0 : decode cX11_isBelow 0 = .ok (.iload_n 0, 1) := by decide +kernel
theorem dX11_isBelow_1 : decode cX11_isBelow 1 = .ok (.ifCond .lt 12, 3) := by decide +kernel
theorem dX11_isBelow_4 : decode cX11_isBelow 4 = .ok (.iload_n 0, 1) := by decide +kernel
theorem dX11_isBelow_5 : decode cX11_isBelow 5 = .ok (.iload_n 1, 1) := by decide +kernel
theorem dX11_isBelow_6 : decode cX11_isBelow 6 = .ok (.if_icmp .ge 7, 3) := by decide +kernel
theorem dX11_isBelow_9 : decode cX11_isBelow 9 = .ok (.iconst 1, 1) := by decide +kernel
theorem dX11_isBelow_10 : decode cX11_isBelow 10 = .ok (.goto 4, 3) := by decide +kernel
theorem dX11_isBelow_13 : decode cX11_isBelow 13 = .ok (.iconst 0, 1) := by decide +kernel
theorem dX11_isBelow_14 : decode cX11_isBelow 14 = .ok (.ireturn, 1) := by decide +kernel
theorem dX11_hasBit_0 : decode cX11_hasBit 0 = .ok (.iload_n 0, 1) := by decide +kernel
theorem dX11_hasBit_1 : decode cX11_hasBit 1 = .ok (.iload_n 1, 1) := by decide +kernel
theorem dX11_hasBit_2 : decode cX11_hasBit 2 = .ok (.ishr, 1) := by decide +kernel
theorem dX11_hasBit_3 : decode cX11_hasBit 3 = .ok (.iconst 1, 1) := by decide +kernel
theorem dX11_hasBit_4 : decode cX11_hasBit 4 = .ok (.iand, 1) := by decide +kernel
theorem dX11_hasBit_5 : decode cX11_hasBit 5 = .ok (.iconst 1, 1) := by decide +kernel
theorem dX11_hasBit_6 : decode cX11_hasBit 6 = .ok (.if_icmp .ne 7, 3) := by decide +kernel
theorem dX11_hasBit_9 : decode cX11_hasBit 9 = .ok (.iconst 1, 1) := by decide +kernel
theorem dX11_hasBit_10 : decode cX11_hasBit 10 = .ok (.goto 4, 3) := by decide +kernel
theorem dX11_hasBit_13 : decode cX11_hasBit 13 = .ok (.iconst 0, 1) := by decide +kernel
theorem dX11_hasBit_14 : decode cX11_hasBit 14 = .ok (.ireturn, 1) := by decide +kernel
theorem dX11_found_0 : decode cX11_found 0 = .ok (.aload_n 0, 1) := by decide +kernel
theorem dX11_found_1 : decode cX11_found 1 = .ok (.iload_n 1, 1) := by decide +kernel
theorem dX11_found_2 : decode cX11_found 2 = .ok (.putfield 43, 3) := by decide +kernel
theorem dX11_found_5 : decode cX11_found 5 = .ok (.bipush (-10), 2) := by decide +kernel
theorem dX11_found_7 : decode cX11_found 7 = .ok (.iload_n 1, 1) := by decide +kernel
theorem dX11_found_8 : decode cX11_found 8 = .ok (.isub, 1) := by decide +kernel
theorem dX11_found_9 : decode cX11_found 9 = .ok (.ireturn, 1) := by decide +kernel
theorem dX11_listingOf_0 : decode cX11_listingOf 0 = .ok (.iload_n 1, 1) := by decide +kernel
theorem dX11_listingOf_1 : decode cX11_listingOf 1 = .ok (.lookupswitch 49 #[(0, 27), (1, 38)], 27) := by decide +kernel
theorem dX11_listingOf_28 : decode cX11_listingOf 28 = .ok (.aload_n 0, 1) := by decide +kernel
theorem dX11_listingOf_29 : decode cX11_listingOf 29 = .ok (.getfield 10, 3) := by decide +kernel
theorem dX11_listingOf_32 : decode cX11_listingOf 32 = .ok (.getfield 76, 3) := by decide +kernel
theorem dX11_listingOf_35 : decode cX11_listingOf 35 = .ok (.getfield 80, 3) := by decide +kernel
theorem dX11_listingOf_38 : decode cX11_listingOf 38 = .ok (.areturn, 1) := by decide +kernel
theorem dX11_listingOf_39 : decode cX11_listingOf 39 = .ok (.aload_n 0, 1) := by decide +kernel
theorem dX11_listingOf_40 : decode cX11_listingOf 40 = .ok (.getfield 10, 3) := by decide +kernel
theorem dX11_listingOf_43 : decode cX11_listingOf 43 = .ok (.getfield 76, 3) := by decide +kernel
theorem dX11_listingOf_46 : decode cX11_listingOf 46 = .ok (.getfield 107, 3) := by decide +kernel
theorem dX11_listingOf_49 : decode cX11_listingOf 49 = .ok (.areturn, 1) := by decide +kernel
theorem dX11_listingOf_50 : decode cX11_listingOf 50 = .ok (.aload_n 0, 1) := by decide +kernel
theorem dX11_listingOf_51 : decode cX11_listingOf 51 = .ok (.getfield 10, 3) := by decide +kernel
theorem dX11_listingOf_54 : decode cX11_listingOf 54 = .ok (.getfield 123, 3) := by decide +kernel
theorem dX11_listingOf_57 : decode cX11_listingOf 57 = .ok (.areturn, 1) := by decide +kernel
theorem dX11_partOfQuarrel_0 : decode cX11_partOfQuarrel 0 = .ok (.iload_n 0, 1) := by decide +kernel
theorem dX11_partOfQuarrel_1 : decode cX11_partOfQuarrel 1 = .ok (.tableswitch 36 0 2 #[27, 29, 31], 27) := by decide +kernel
theorem dX11_partOfQuarrel_28 : decode cX11_partOfQuarrel 28 = .ok (.iload_n 1, 1) := by decide +kernel
theorem dX11_partOfQuarrel_29 : decode cX11_partOfQuarrel 29 = .ok (.ireturn, 1) := by decide +kernel
theorem dX11_partOfQuarrel_30 : decode cX11_partOfQuarrel 30 = .ok (.iload_n 2, 1) := by decide +kernel
theorem dX11_partOfQuarrel_31 : decode cX11_partOfQuarrel 31 = .ok (.ireturn, 1) := by decide +kernel
theorem dX11_partOfQuarrel_32 : decode cX11_partOfQuarrel 32 = .ok (.iload_n 3, 1) := by decide +kernel
theorem dX11_partOfQuarrel_33 : decode cX11_partOfQuarrel 33 = .ok (.invokestatic 336, 3) := by decide +kernel
theorem dX11_partOfQuarrel_36 : decode cX11_partOfQuarrel 36 = .ok (.ireturn, 1) := by decide +kernel
theorem dX11_partOfQuarrel_37 : decode cX11_partOfQuarrel 37 = .ok (.iload_n 3, 1) := by decide +kernel
theorem dX11_partOfQuarrel_38 : decode cX11_partOfQuarrel 38 = .ok (.iload_n 3, 1) := by decide +kernel
theorem dX11_partOfQuarrel_39 : decode cX11_partOfQuarrel 39 = .ok (.iconst 1, 1) := by decide +kernel
theorem dX11_partOfQuarrel_40 : decode cX11_partOfQuarrel 40 = .ok (.isub, 1) := by decide +kernel
theorem dX11_partOfQuarrel_41 : decode cX11_partOfQuarrel 41 = .ok (.iand, 1) := by decide +kernel
theorem dX11_partOfQuarrel_42 : decode cX11_partOfQuarrel 42 = .ok (.invokestatic 336, 3) := by decide +kernel
theorem dX11_partOfQuarrel_45 : decode cX11_partOfQuarrel 45 = .ok (.ireturn, 1) := by decide +kernel
theorem dX11_leastOf_0 : decode cX11_leastOf 0 = .ok (.iconst 0, 1) := by decide +kernel
theorem dX11_leastOf_1 : decode cX11_leastOf 1 = .ok (.istore_n 1, 1) := by decide +kernel
theorem dX11_leastOf_2 : decode cX11_leastOf 2 = .ok (.iload_n 1, 1) := by decide +kernel
theorem dX11_leastOf_3 : decode cX11_leastOf 3 = .ok (.bipush 8, 2) := by decide +kernel
theorem dX11_leastOf_5 : decode cX11_leastOf 5 = .ok (.if_icmp .ge 19, 3) := by decide +kernel
theorem dX11_leastOf_8 : decode cX11_leastOf 8 = .ok (.iload_n 0, 1) := by decide +kernel
theorem dX11_leastOf_9 : decode cX11_leastOf 9 = .ok (.iload_n 1, 1) := by decide +kernel
theorem dX11_leastOf_10 : decode cX11_leastOf 10 = .ok (.invokestatic 240, 3) := by decide +kernel
theorem dX11_leastOf_13 : decode cX11_leastOf 13 = .ok (.ifCond .eq 5, 3) := by decide +kernel
theorem dX11_leastOf_16 : decode cX11_leastOf 16 = .ok (.iload_n 1, 1) := by decide +kernel
theorem dX11_leastOf_17 : decode cX11_leastOf 17 = .ok (.ireturn, 1) := by decide +kernel
theorem dX11_leastOf_18 : decode cX11_leastOf 18 = .ok (.iinc 1 1, 3) := by decide +kernel
theorem dX11_leastOf_21 : decode cX11_leastOf 21 = .ok (.goto (-19), 3) := by decide +kernel
theorem dX11_leastOf_24 : decode cX11_leastOf 24 = .ok (.iconst (-1), 1) := by decide +kernel
theorem dX11_leastOf_25 : decode cX11_leastOf 25 = .ok (.ireturn, 1) := by decide +kernel
theorem dX11_possibleOwners_0 : decode cX11_possibleOwners 0 = .ok (.aload_n 0, 1) := by decide +kernel
theorem dX11_possibleOwners_1 : decode cX11_possibleOwners 1 = .ok (.getfield 10, 3) := by decide +kernel
theorem dX11_possibleOwners_4 : decode cX11_possibleOwners 4 = .ok (.invokevirtual 162, 3) := by decide +kernel
theorem dX11_possibleOwners_7 : decode cX11_possibleOwners 7 = .ok (.iconst 0, 1) := by decide +kernel
theorem dX11_possibleOwners_8 : decode cX11_possibleOwners 8 = .ok (.istore_n 2, 1) := by decide +kernel
theorem dX11_possibleOwners_9 : decode cX11_possibleOwners 9 = .ok (.iconst 0, 1) := by decide +kernel
theorem dX11_possibleOwners_10 : decode cX11_possibleOwners 10 = .ok (.istore_n 3, 1) := by decide +kernel
theorem dX11_possibleOwners_11 : decode cX11_possibleOwners 11 = .ok (.iload_n 3, 1) := by decide +kernel
theorem dX11_possibleOwners_12 : decode cX11_possibleOwners 12 = .ok (.aload_n 0, 1) := by decide +kernel
theorem dX11_possibleOwners_13 : decode cX11_possibleOwners 13 = .ok (.getfield 10, 3) := by decide +kernel
theorem dX11_possibleOwners_16 : decode cX11_possibleOwners 16 = .ok (.getfield 76, 3) := by decide +kernel
theorem dX11_possibleOwners_19 : decode cX11_possibleOwners 19 = .ok (.getfield 107, 3) := by decide +kernel
theorem dX11_possibleOwners_22 : decode cX11_possibleOwners 22 = .ok (.getfield 188, 3) := by decide +kernel
theorem dX11_possibleOwners_25 : decode cX11_possibleOwners 25 = .ok (.if_icmp .ge 38, 3) := by decide +kernel
theorem dX11_possibleOwners_28 : decode cX11_possibleOwners 28 = .ok (.aload_n 0, 1) := by decide +kernel
theorem dX11_possibleOwners_29 : decode cX11_possibleOwners 29 = .ok (.getfield 10, 3) := by decide +kernel
theorem dX11_possibleOwners_32 : decode cX11_possibleOwners 32 = .ok (.iload_n 1, 1) := by decide +kernel
theorem dX11_possibleOwners_33 : decode cX11_possibleOwners 33 = .ok (.iload_n 3, 1) := by decide +kernel
theorem dX11_possibleOwners_34 : decode cX11_possibleOwners 34 = .ok (.invokevirtual 339, 3) := by decide +kernel
theorem dX11_possibleOwners_37 : decode cX11_possibleOwners 37 = .ok (.aload_n 0, 1) := by decide +kernel
theorem dX11_possibleOwners_38 : decode cX11_possibleOwners 38 = .ok (.getfield 26, 3) := by decide +kernel
theorem dX11_possibleOwners_41 : decode cX11_possibleOwners 41 = .ok (.aload_n 0, 1) := by decide +kernel
theorem dX11_possibleOwners_42 : decode cX11_possibleOwners 42 = .ok (.getfield 10, 3) := by decide +kernel
theorem dX11_possibleOwners_45 : decode cX11_possibleOwners 45 = .ok (.invokevirtual 342, 3) := by decide +kernel
theorem dX11_possibleOwners_48 : decode cX11_possibleOwners 48 = .ok (.ifCond .eq 9, 3) := by decide +kernel
theorem dX11_possibleOwners_51 : decode cX11_possibleOwners 51 = .ok (.iload_n 2, 1) := by decide +kernel
theorem dX11_possibleOwners_52 : decode cX11_possibleOwners 52 = .ok (.iconst 1, 1) := by decide +kernel
theorem dX11_possibleOwners_53 : decode cX11_possibleOwners 53 = .ok (.iload_n 3, 1) := by decide +kernel
theorem dX11_possibleOwners_54 : decode cX11_possibleOwners 54 = .ok (.ishl, 1) := by decide +kernel
theorem dX11_possibleOwners_55 : decode cX11_possibleOwners 55 = .ok (.ior, 1) := by decide +kernel
theorem dX11_possibleOwners_56 : decode cX11_possibleOwners 56 = .ok (.istore_n 2, 1) := by decide +kernel
theorem dX11_possibleOwners_57 : decode cX11_possibleOwners 57 = .ok (.iinc 3 1, 3) := by decide +kernel
theorem dX11_possibleOwners_60 : decode cX11_possibleOwners 60 = .ok (.goto (-49), 3) := by decide +kernel
theorem dX11_possibleOwners_63 : decode cX11_possibleOwners 63 = .ok (.aload_n 0, 1) := by decide +kernel
theorem dX11_possibleOwners_64 : decode cX11_possibleOwners 64 = .ok (.getfield 10, 3) := by decide +kernel
theorem dX11_possibleOwners_67 : decode cX11_possibleOwners 67 = .ok (.iload_n 1, 1) := by decide +kernel
theorem dX11_possibleOwners_68 : decode cX11_possibleOwners 68 = .ok (.iconst (-1), 1) := by decide +kernel
theorem dX11_possibleOwners_69 : decode cX11_possibleOwners 69 = .ok (.invokevirtual 339, 3) := by decide +kernel
theorem dX11_possibleOwners_72 : decode cX11_possibleOwners 72 = .ok (.aload_n 0, 1) := by decide +kernel
theorem dX11_possibleOwners_73 : decode cX11_possibleOwners 73 = .ok (.getfield 26, 3) := by decide +kernel
theorem dX11_possibleOwners_76 : decode cX11_possibleOwners 76 = .ok (.aload_n 0, 1) := by decide +kernel
theorem dX11_possibleOwners_77 : decode cX11_possibleOwners 77 = .ok (.getfield 10, 3) := by decide +kernel
theorem dX11_possibleOwners_80 : decode cX11_possibleOwners 80 = .ok (.invokevirtual 342, 3) := by decide +kernel
theorem dX11_possibleOwners_83 : decode cX11_possibleOwners 83 = .ok (.ifCond .eq 10, 3) := by decide +kernel
theorem dX11_possibleOwners_86 : decode cX11_possibleOwners 86 = .ok (.iload_n 2, 1) := by decide +kernel
theorem dX11_possibleOwners_87 : decode cX11_possibleOwners 87 = .ok (.bipush 64, 2) := by decide +kernel
theorem dX11_possibleOwners_89 : decode cX11_possibleOwners 89 = .ok (.ior, 1) := by decide +kernel
theorem dX11_possibleOwners_90 : decode cX11_possibleOwners 90 = .ok (.goto 4, 3) := by decide +kernel
theorem dX11_possibleOwners_93 : decode cX11_possibleOwners 93 = .ok (.iload_n 2, 1) := by decide +kernel
theorem dX11_possibleOwners_94 : decode cX11_possibleOwners 94 = .ok (.ireturn, 1) := by decide +kernel
theorem dX11_chanceLeft_0 : decode cX11_chanceLeft 0 = .ok (.iload_n 1, 1) := by decide +kernel
theorem dX11_chanceLeft_1 : decode cX11_chanceLeft 1 = .ok (.iload_n 2, 1) := by decide +kernel
theorem dX11_chanceLeft_2 : decode cX11_chanceLeft 2 = .ok (.invokestatic 346, 3) := by decide +kernel
theorem dX11_chanceLeft_5 : decode cX11_chanceLeft 5 = .ok (.bipush 16, 2) := by decide +kernel
theorem dX11_chanceLeft_7 : decode cX11_chanceLeft 7 = .ok (.iload_n 0, 1) := by decide +kernel
theorem dX11_chanceLeft_8 : decode cX11_chanceLeft 8 = .ok (.isub, 1) := by decide +kernel
theorem dX11_chanceLeft_9 : decode cX11_chanceLeft 9 = .ok (.iload_n 2, 1) := by decide +kernel
theorem dX11_chanceLeft_10 : decode cX11_chanceLeft 10 = .ok (.invokestatic 350, 3) := by decide +kernel
theorem dX11_chanceLeft_13 : decode cX11_chanceLeft 13 = .ok (.lmul, 1) := by decide +kernel
theorem dX11_chanceLeft_14 : decode cX11_chanceLeft 14 = .ok (.iload_n 0, 1) := by decide +kernel
theorem dX11_chanceLeft_15 : decode cX11_chanceLeft 15 = .ok (.iload_n 1, 1) := by decide +kernel
theorem dX11_chanceLeft_16 : decode cX11_chanceLeft 16 = .ok (.iload_n 2, 1) := by decide +kernel
theorem dX11_chanceLeft_17 : decode cX11_chanceLeft 17 = .ok (.isub, 1) := by decide +kernel
theorem dX11_chanceLeft_18 : decode cX11_chanceLeft 18 = .ok (.invokestatic 350, 3) := by decide +kernel
theorem dX11_chanceLeft_21 : decode cX11_chanceLeft 21 = .ok (.lmul, 1) := by decide +kernel
theorem dX11_chanceLeft_22 : decode cX11_chanceLeft 22 = .ok (.lstore 4, 2) := by decide +kernel
theorem dX11_chanceLeft_24 : decode cX11_chanceLeft 24 = .ok (.bipush 16, 2) := by decide +kernel
theorem dX11_chanceLeft_26 : decode cX11_chanceLeft 26 = .ok (.iload_n 1, 1) := by decide +kernel
theorem dX11_chanceLeft_27 : decode cX11_chanceLeft 27 = .ok (.invokestatic 350, 3) := by decide +kernel
theorem dX11_chanceLeft_30 : decode cX11_chanceLeft 30 = .ok (.lstore 6, 2) := by decide +kernel
theorem dX11_chanceLeft_32 : decode cX11_chanceLeft 32 = .ok (.iconst 0, 1) := by decide +kernel
theorem dX11_chanceLeft_33 : decode cX11_chanceLeft 33 = .ok (.istore 8, 2) := by decide +kernel
theorem dX11_chanceLeft_35 : decode cX11_chanceLeft 35 = .ok (.iload 8, 2) := by decide +kernel
theorem dX11_chanceLeft_37 : decode cX11_chanceLeft 37 = .ok (.iconst 4, 1) := by decide +kernel
theorem dX11_chanceLeft_38 : decode cX11_chanceLeft 38 = .ok (.iload_n 1, 1) := by decide +kernel
theorem dX11_chanceLeft_39 : decode cX11_chanceLeft 39 = .ok (.imul, 1) := by decide +kernel
theorem dX11_chanceLeft_40 : decode cX11_chanceLeft 40 = .ok (.if_icmp .ge 30, 3) := by decide +kernel
theorem dX11_chanceLeft_43 : decode cX11_chanceLeft 43 = .ok (.lload 4, 2) := by decide +kernel
theorem dX11_chanceLeft_45 : decode cX11_chanceLeft 45 = .ok (.lconst 1, 1) := by decide +kernel
theorem dX11_chanceLeft_46 : decode cX11_chanceLeft 46 = .ok (.land, 1) := by decide +kernel
theorem dX11_chanceLeft_47 : decode cX11_chanceLeft 47 = .ok (.lconst 0, 1) := by decide +kernel
theorem dX11_chanceLeft_48 : decode cX11_chanceLeft 48 = .ok (.lcmp, 1) := by decide +kernel
theorem dX11_chanceLeft_49 : decode cX11_chanceLeft 49 = .ok (.ifCond .ne 21, 3) := by decide +kernel
theorem dX11_chanceLeft_52 : decode cX11_chanceLeft 52 = .ok (.lload 4, 2) := by decide +kernel
theorem dX11_chanceLeft_54 : decode cX11_chanceLeft 54 = .ok (.iconst 1, 1) := by decide +kernel
theorem dX11_chanceLeft_55 : decode cX11_chanceLeft 55 = .ok (.lshr, 1) := by decide +kernel
theorem dX11_chanceLeft_56 : decode cX11_chanceLeft 56 = .ok (.lstore 4, 2) := by decide +kernel
theorem dX11_chanceLeft_58 : decode cX11_chanceLeft 58 = .ok (.lload 6, 2) := by decide +kernel
theorem dX11_chanceLeft_60 : decode cX11_chanceLeft 60 = .ok (.iconst 1, 1) := by decide +kernel
theorem dX11_chanceLeft_61 : decode cX11_chanceLeft 61 = .ok (.lshr, 1) := by decide +kernel
theorem dX11_chanceLeft_62 : decode cX11_chanceLeft 62 = .ok (.lstore 6, 2) := by decide +kernel
theorem dX11_chanceLeft_64 : decode cX11_chanceLeft 64 = .ok (.iinc 8 1, 3) := by decide +kernel
theorem dX11_chanceLeft_67 : decode cX11_chanceLeft 67 = .ok (.goto (-32), 3) := by decide +kernel
theorem dX11_chanceLeft_70 : decode cX11_chanceLeft 70 = .ok (.iload_n 3, 1) := by decide +kernel
theorem dX11_chanceLeft_71 : decode cX11_chanceLeft 71 = .ok (.ifCond .ne 8, 3) := by decide +kernel
theorem dX11_chanceLeft_74 : decode cX11_chanceLeft 74 = .ok (.lload 4, 2) := by decide +kernel
theorem dX11_chanceLeft_76 : decode cX11_chanceLeft 76 = .ok (.goto 5, 3) := by decide +kernel
theorem dX11_chanceLeft_79 : decode cX11_chanceLeft 79 = .ok (.lload 6, 2) := by decide +kernel
theorem dX11_chanceLeft_81 : decode cX11_chanceLeft 81 = .ok (.lreturn, 1) := by decide +kernel
theorem dX11_choices_0 : decode cX11_choices 0 = .ok (.lconst 1, 1) := by decide +kernel
theorem dX11_choices_1 : decode cX11_choices 1 = .ok (.lstore_n 2, 1) := by decide +kernel
theorem dX11_choices_2 : decode cX11_choices 2 = .ok (.iconst 0, 1) := by decide +kernel
theorem dX11_choices_3 : decode cX11_choices 3 = .ok (.istore 4, 2) := by decide +kernel
theorem dX11_choices_5 : decode cX11_choices 5 = .ok (.iload 4, 2) := by decide +kernel
theorem dX11_choices_7 : decode cX11_choices 7 = .ok (.iload_n 1, 1) := by decide +kernel
theorem dX11_choices_8 : decode cX11_choices 8 = .ok (.if_icmp .ge 23, 3) := by decide +kernel
theorem dX11_choices_11 : decode cX11_choices 11 = .ok (.lload_n 2, 1) := by decide +kernel
theorem dX11_choices_12 : decode cX11_choices 12 = .ok (.iload_n 0, 1) := by decide +kernel
theorem dX11_choices_13 : decode cX11_choices 13 = .ok (.iload 4, 2) := by decide +kernel
theorem dX11_choices_15 : decode cX11_choices 15 = .ok (.isub, 1) := by decide +kernel
theorem dX11_choices_16 : decode cX11_choices 16 = .ok (.i2l, 1) := by decide +kernel
theorem dX11_choices_17 : decode cX11_choices 17 = .ok (.lmul, 1) := by decide +kernel
theorem dX11_choices_18 : decode cX11_choices 18 = .ok (.iload 4, 2) := by decide +kernel
theorem dX11_choices_20 : decode cX11_choices 20 = .ok (.iconst 1, 1) := by decide +kernel
theorem dX11_choices_21 : decode cX11_choices 21 = .ok (.iadd, 1) := by decide +kernel
theorem dX11_choices_22 : decode cX11_choices 22 = .ok (.i2l, 1) := by decide +kernel
theorem dX11_choices_23 : decode cX11_choices 23 = .ok (.ldiv, 1) := by decide +kernel
theorem dX11_choices_24 : decode cX11_choices 24 = .ok (.lstore_n 2, 1) := by decide +kernel
theorem dX11_choices_25 : decode cX11_choices 25 = .ok (.iinc 4 1, 3) := by decide +kernel
theorem dX11_choices_28 : decode cX11_choices 28 = .ok (.goto (-23), 3) := by decide +kernel
theorem dX11_choices_31 : decode cX11_choices 31 = .ok (.lload_n 2, 1) := by decide +kernel
theorem dX11_choices_32 : decode cX11_choices 32 = .ok (.lreturn, 1) := by decide +kernel
theorem dX11_power_0 : decode cX11_power 0 = .ok (.lconst 1, 1) := by decide +kernel
theorem dX11_power_1 : decode cX11_power 1 = .ok (.lstore_n 2, 1) := by decide +kernel
theorem dX11_power_2 : decode cX11_power 2 = .ok (.iconst 0, 1) := by decide +kernel
theorem dX11_power_3 : decode cX11_power 3 = .ok (.istore 4, 2) := by decide +kernel
theorem dX11_power_5 : decode cX11_power 5 = .ok (.iload 4, 2) := by decide +kernel
theorem dX11_power_7 : decode cX11_power 7 = .ok (.iload_n 1, 1) := by decide +kernel
theorem dX11_power_8 : decode cX11_power 8 = .ok (.if_icmp .ge 14, 3) := by decide +kernel
theorem dX11_power_11 : decode cX11_power 11 = .ok (.lload_n 2, 1) := by decide +kernel
theorem dX11_power_12 : decode cX11_power 12 = .ok (.iload_n 0, 1) := by decide +kernel
theorem dX11_power_13 : decode cX11_power 13 = .ok (.i2l, 1) := by decide +kernel
theorem dX11_power_14 : decode cX11_power 14 = .ok (.lmul, 1) := by decide +kernel
theorem dX11_power_15 : decode cX11_power 15 = .ok (.lstore_n 2, 1) := by decide +kernel
theorem dX11_power_16 : decode cX11_power 16 = .ok (.iinc 4 1, 3) := by decide +kernel
theorem dX11_power_19 : decode cX11_power 19 = .ok (.goto (-14), 3) := by decide +kernel
theorem dX11_power_22 : decode cX11_power 22 = .ok (.lload_n 2, 1) := by decide +kernel
theorem dX11_power_23 : decode cX11_power 23 = .ok (.lreturn, 1) := by decide +kernel
theorem dX11_mix_0 : decode cX11_mix 0 = .ok (.ldc2_w 353, 3) := by decide +kernel
theorem dX11_mix_3 : decode cX11_mix 3 = .ok (.lload_n 0, 1) := by decide +kernel
theorem dX11_mix_4 : decode cX11_mix 4 = .ok (.lmul, 1) := by decide +kernel
theorem dX11_mix_5 : decode cX11_mix 5 = .ok (.lload_n 2, 1) := by decide +kernel
theorem dX11_mix_6 : decode cX11_mix 6 = .ok (.ladd, 1) := by decide +kernel
theorem dX11_mix_7 : decode cX11_mix 7 = .ok (.lreturn, 1) := by decide +kernel
theorem dX11_mixHabit_0 : decode cX11_mixHabit 0 = .ok (.lload_n 1, 1) := by decide +kernel
theorem dX11_mixHabit_1 : decode cX11_mixHabit 1 = .ok (.lstore 4, 2) := by decide +kernel
theorem dX11_mixHabit_3 : decode cX11_mixHabit 3 = .ok (.iconst 0, 1) := by decide +kernel
theorem dX11_mixHabit_4 : decode cX11_mixHabit 4 = .ok (.istore 6, 2) := by decide +kernel
theorem dX11_mixHabit_6 : decode cX11_mixHabit 6 = .ok (.iload 6, 2) := by decide +kernel
theorem dX11_mixHabit_8 : decode cX11_mixHabit 8 = .ok (.iconst 4, 1) := by decide +kernel
theorem dX11_mixHabit_9 : decode cX11_mixHabit 9 = .ok (.if_icmp .gt 24, 3) := by decide +kernel
theorem dX11_mixHabit_12 : decode cX11_mixHabit 12 = .ok (.lload 4, 2) := by decide +kernel
theorem dX11_mixHabit_14 : decode cX11_mixHabit 14 = .ok (.aload_n 0, 1) := by decide +kernel
theorem dX11_mixHabit_15 : decode cX11_mixHabit 15 = .ok (.iload_n 3, 1) := by decide +kernel
theorem dX11_mixHabit_16 : decode cX11_mixHabit 16 = .ok (.iload 6, 2) := by decide +kernel
theorem dX11_mixHabit_18 : decode cX11_mixHabit 18 = .ok (.invokevirtual 355, 3) := by decide +kernel
theorem dX11_mixHabit_21 : decode cX11_mixHabit 21 = .ok (.i2l, 1) := by decide +kernel
theorem dX11_mixHabit_22 : decode cX11_mixHabit 22 = .ok (.invokestatic 306, 3) := by decide +kernel
theorem dX11_mixHabit_25 : decode cX11_mixHabit 25 = .ok (.lstore 4, 2) := by decide +kernel
theorem dX11_mixHabit_27 : decode cX11_mixHabit 27 = .ok (.iinc 6 1, 3) := by decide +kernel
theorem dX11_mixHabit_30 : decode cX11_mixHabit 30 = .ok (.goto (-24), 3) := by decide +kernel
theorem dX11_mixHabit_33 : decode cX11_mixHabit 33 = .ok (.lload 4, 2) := by decide +kernel
theorem dX11_mixHabit_35 : decode cX11_mixHabit 35 = .ok (.aload_n 0, 1) := by decide +kernel
theorem dX11_mixHabit_36 : decode cX11_mixHabit 36 = .ok (.iload_n 3, 1) := by decide +kernel
theorem dX11_mixHabit_37 : decode cX11_mixHabit 37 = .ok (.invokevirtual 358, 3) := by decide +kernel
theorem dX11_mixHabit_40 : decode cX11_mixHabit 40 = .ok (.i2l, 1) := by decide +kernel
theorem dX11_mixHabit_41 : decode cX11_mixHabit 41 = .ok (.invokestatic 306, 3) := by decide +kernel
theorem dX11_mixHabit_44 : decode cX11_mixHabit 44 = .ok (.lstore 4, 2) := by decide +kernel
theorem dX11_mixHabit_46 : decode cX11_mixHabit 46 = .ok (.lload 4, 2) := by decide +kernel
theorem dX11_mixHabit_48 : decode cX11_mixHabit 48 = .ok (.aload_n 0, 1) := by decide +kernel
theorem dX11_mixHabit_49 : decode cX11_mixHabit 49 = .ok (.iload_n 3, 1) := by decide +kernel
theorem dX11_mixHabit_50 : decode cX11_mixHabit 50 = .ok (.invokevirtual 361, 3) := by decide +kernel
theorem dX11_mixHabit_53 : decode cX11_mixHabit 53 = .ok (.i2l, 1) := by decide +kernel
theorem dX11_mixHabit_54 : decode cX11_mixHabit 54 = .ok (.invokestatic 306, 3) := by decide +kernel
theorem dX11_mixHabit_57 : decode cX11_mixHabit 57 = .ok (.lstore 4, 2) := by decide +kernel
theorem dX11_mixHabit_59 : decode cX11_mixHabit 59 = .ok (.lload 4, 2) := by decide +kernel
theorem dX11_mixHabit_61 : decode cX11_mixHabit 61 = .ok (.aload_n 0, 1) := by decide +kernel
theorem dX11_mixHabit_62 : decode cX11_mixHabit 62 = .ok (.iload_n 3, 1) := by decide +kernel
theorem dX11_mixHabit_63 : decode cX11_mixHabit 63 = .ok (.iconst 0, 1) := by decide +kernel
theorem dX11_mixHabit_64 : decode cX11_mixHabit 64 = .ok (.invokevirtual 364, 3) := by decide +kernel
theorem dX11_mixHabit_67 : decode cX11_mixHabit 67 = .ok (.i2l, 1) := by decide +kernel
theorem dX11_mixHabit_68 : decode cX11_mixHabit 68 = .ok (.invokestatic 306, 3) := by decide +kernel
theorem dX11_mixHabit_71 : decode cX11_mixHabit 71 = .ok (.lreturn, 1) := by decide +kernel
theorem dX11_mixHeir_0 : decode cX11_mixHeir 0 = .ok (.lload_n 1, 1) := by decide +kernel
theorem dX11_mixHeir_1 : decode cX11_mixHeir 1 = .ok (.lstore 4, 2) := by decide +kernel
theorem dX11_mixHeir_3 : decode cX11_mixHeir 3 = .ok (.iconst 0, 1) := by decide +kernel
theorem dX11_mixHeir_4 : decode cX11_mixHeir 4 = .ok (.istore 6, 2) := by decide +kernel
theorem dX11_mixHeir_6 : decode cX11_mixHeir 6 = .ok (.iload 6, 2) := by decide +kernel
theorem dX11_mixHeir_8 : decode cX11_mixHeir 8 = .ok (.iconst 2, 1) := by decide +kernel
theorem dX11_mixHeir_9 : decode cX11_mixHeir 9 = .ok (.if_icmp .gt 24, 3) := by decide +kernel
theorem dX11_mixHeir_12 : decode cX11_mixHeir 12 = .ok (.lload 4, 2) := by decide +kernel
theorem dX11_mixHeir_14 : decode cX11_mixHeir 14 = .ok (.aload_n 0, 1) := by decide +kernel
theorem dX11_mixHeir_15 : decode cX11_mixHeir 15 = .ok (.iload_n 3, 1) := by decide +kernel
theorem dX11_mixHeir_16 : decode cX11_mixHeir 16 = .ok (.iload 6, 2) := by decide +kernel
theorem dX11_mixHeir_18 : decode cX11_mixHeir 18 = .ok (.invokevirtual 367, 3) := by decide +kernel
theorem dX11_mixHeir_21 : decode cX11_mixHeir 21 = .ok (.i2l, 1) := by decide +kernel
theorem dX11_mixHeir_22 : decode cX11_mixHeir 22 = .ok (.invokestatic 306, 3) := by decide +kernel
theorem dX11_mixHeir_25 : decode cX11_mixHeir 25 = .ok (.lstore 4, 2) := by decide +kernel
theorem dX11_mixHeir_27 : decode cX11_mixHeir 27 = .ok (.iinc 6 1, 3) := by decide +kernel
theorem dX11_mixHeir_30 : decode cX11_mixHeir 30 = .ok (.goto (-24), 3) := by decide +kernel
theorem dX11_mixHeir_33 : decode cX11_mixHeir 33 = .ok (.iconst 0, 1) := by decide +kernel
theorem dX11_mixHeir_34 : decode cX11_mixHeir 34 = .ok (.istore 6, 2) := by decide +kernel
theorem dX11_mixHeir_36 : decode cX11_mixHeir 36 = .ok (.iload 6, 2) := by decide +kernel
theorem dX11_mixHeir_38 : decode cX11_mixHeir 38 = .ok (.iconst 3, 1) := by decide +kernel
theorem dX11_mixHeir_39 : decode cX11_mixHeir 39 = .ok (.if_icmp .gt 24, 3) := by decide +kernel
theorem dX11_mixHeir_42 : decode cX11_mixHeir 42 = .ok (.lload 4, 2) := by decide +kernel
theorem dX11_mixHeir_44 : decode cX11_mixHeir 44 = .ok (.aload_n 0, 1) := by decide +kernel
theorem dX11_mixHeir_45 : decode cX11_mixHeir 45 = .ok (.iload_n 3, 1) := by decide +kernel
theorem dX11_mixHeir_46 : decode cX11_mixHeir 46 = .ok (.iload 6, 2) := by decide +kernel
theorem dX11_mixHeir_48 : decode cX11_mixHeir 48 = .ok (.invokevirtual 370, 3) := by decide +kernel
theorem dX11_mixHeir_51 : decode cX11_mixHeir 51 = .ok (.i2l, 1) := by decide +kernel
theorem dX11_mixHeir_52 : decode cX11_mixHeir 52 = .ok (.invokestatic 306, 3) := by decide +kernel
theorem dX11_mixHeir_55 : decode cX11_mixHeir 55 = .ok (.lstore 4, 2) := by decide +kernel
theorem dX11_mixHeir_57 : decode cX11_mixHeir 57 = .ok (.iinc 6 1, 3) := by decide +kernel
theorem dX11_mixHeir_60 : decode cX11_mixHeir 60 = .ok (.goto (-24), 3) := by decide +kernel
theorem dX11_mixHeir_63 : decode cX11_mixHeir 63 = .ok (.lload 4, 2) := by decide +kernel
theorem dX11_mixHeir_65 : decode cX11_mixHeir 65 = .ok (.aload_n 0, 1) := by decide +kernel
theorem dX11_mixHeir_66 : decode cX11_mixHeir 66 = .ok (.iload_n 3, 1) := by decide +kernel
theorem dX11_mixHeir_67 : decode cX11_mixHeir 67 = .ok (.iconst 0, 1) := by decide +kernel
theorem dX11_mixHeir_68 : decode cX11_mixHeir 68 = .ok (.invokevirtual 373, 3) := by decide +kernel
theorem dX11_mixHeir_71 : decode cX11_mixHeir 71 = .ok (.i2l, 1) := by decide +kernel
theorem dX11_mixHeir_72 : decode cX11_mixHeir 72 = .ok (.invokestatic 306, 3) := by decide +kernel
theorem dX11_mixHeir_75 : decode cX11_mixHeir 75 = .ok (.lstore 4, 2) := by decide +kernel
theorem dX11_mixHeir_77 : decode cX11_mixHeir 77 = .ok (.lload 4, 2) := by decide +kernel
theorem dX11_mixHeir_79 : decode cX11_mixHeir 79 = .ok (.aload_n 0, 1) := by decide +kernel
theorem dX11_mixHeir_80 : decode cX11_mixHeir 80 = .ok (.iload_n 3, 1) := by decide +kernel
theorem dX11_mixHeir_81 : decode cX11_mixHeir 81 = .ok (.bipush 7, 2) := by decide +kernel
theorem dX11_mixHeir_83 : decode cX11_mixHeir 83 = .ok (.invokevirtual 373, 3) := by decide +kernel
theorem dX11_mixHeir_86 : decode cX11_mixHeir 86 = .ok (.i2l, 1) := by decide +kernel
theorem dX11_mixHeir_87 : decode cX11_mixHeir 87 = .ok (.invokestatic 306, 3) := by decide +kernel
theorem dX11_mixHeir_90 : decode cX11_mixHeir 90 = .ok (.lstore 4, 2) := by decide +kernel
theorem dX11_mixHeir_92 : decode cX11_mixHeir 92 = .ok (.lload 4, 2) := by decide +kernel
theorem dX11_mixHeir_94 : decode cX11_mixHeir 94 = .ok (.aload_n 0, 1) := by decide +kernel
theorem dX11_mixHeir_95 : decode cX11_mixHeir 95 = .ok (.iload_n 3, 1) := by decide +kernel
theorem dX11_mixHeir_96 : decode cX11_mixHeir 96 = .ok (.bipush 20, 2) := by decide +kernel
theorem dX11_mixHeir_98 : decode cX11_mixHeir 98 = .ok (.invokevirtual 373, 3) := by decide +kernel
theorem dX11_mixHeir_101 : decode cX11_mixHeir 101 = .ok (.i2l, 1) := by decide +kernel
theorem dX11_mixHeir_102 : decode cX11_mixHeir 102 = .ok (.invokestatic 306, 3) := by decide +kernel
theorem dX11_mixHeir_105 : decode cX11_mixHeir 105 = .ok (.lreturn, 1) := by decide +kernel
theorem dX11_mixPlansOf_0 : decode cX11_mixPlansOf 0 = .ok (.lload_n 1, 1) := by decide +kernel
theorem dX11_mixPlansOf_1 : decode cX11_mixPlansOf 1 = .ok (.lstore 4, 2) := by decide +kernel
theorem dX11_mixPlansOf_3 : decode cX11_mixPlansOf 3 = .ok (.lload 4, 2) := by decide +kernel
theorem dX11_mixPlansOf_5 : decode cX11_mixPlansOf 5 = .ok (.aload_n 0, 1) := by decide +kernel
theorem dX11_mixPlansOf_6 : decode cX11_mixPlansOf 6 = .ok (.iload_n 3, 1) := by decide +kernel
theorem dX11_mixPlansOf_7 : decode cX11_mixPlansOf 7 = .ok (.iconst 0, 1) := by decide +kernel
theorem dX11_mixPlansOf_8 : decode cX11_mixPlansOf 8 = .ok (.invokevirtual 376, 3) := by decide +kernel
theorem dX11_mixPlansOf_11 : decode cX11_mixPlansOf 11 = .ok (.i2l, 1) := by decide +kernel
theorem dX11_mixPlansOf_12 : decode cX11_mixPlansOf 12 = .ok (.invokestatic 306, 3) := by decide +kernel
theorem dX11_mixPlansOf_15 : decode cX11_mixPlansOf 15 = .ok (.lstore 4, 2) := by decide +kernel
theorem dX11_mixPlansOf_17 : decode cX11_mixPlansOf 17 = .ok (.lload 4, 2) := by decide +kernel
theorem dX11_mixPlansOf_19 : decode cX11_mixPlansOf 19 = .ok (.aload_n 0, 1) := by decide +kernel
theorem dX11_mixPlansOf_20 : decode cX11_mixPlansOf 20 = .ok (.iload_n 3, 1) := by decide +kernel
theorem dX11_mixPlansOf_21 : decode cX11_mixPlansOf 21 = .ok (.iconst 1, 1) := by decide +kernel
theorem dX11_mixPlansOf_22 : decode cX11_mixPlansOf 22 = .ok (.invokevirtual 376, 3) := by decide +kernel
theorem dX11_mixPlansOf_25 : decode cX11_mixPlansOf 25 = .ok (.i2l, 1) := by decide +kernel
theorem dX11_mixPlansOf_26 : decode cX11_mixPlansOf 26 = .ok (.invokestatic 306, 3) := by decide +kernel
theorem dX11_mixPlansOf_29 : decode cX11_mixPlansOf 29 = .ok (.lstore 4, 2) := by decide +kernel
theorem dX11_mixPlansOf_31 : decode cX11_mixPlansOf 31 = .ok (.lload 4, 2) := by decide +kernel
theorem dX11_mixPlansOf_33 : decode cX11_mixPlansOf 33 = .ok (.aload_n 0, 1) := by decide +kernel
theorem dX11_mixPlansOf_34 : decode cX11_mixPlansOf 34 = .ok (.iconst 0, 1) := by decide +kernel
theorem dX11_mixPlansOf_35 : decode cX11_mixPlansOf 35 = .ok (.iload_n 3, 1) := by decide +kernel
theorem dX11_mixPlansOf_36 : decode cX11_mixPlansOf 36 = .ok (.iconst 0, 1) := by decide +kernel
theorem dX11_mixPlansOf_37 : decode cX11_mixPlansOf 37 = .ok (.invokevirtual 379, 3) := by decide +kernel
theorem dX11_mixPlansOf_40 : decode cX11_mixPlansOf 40 = .ok (.i2l, 1) := by decide +kernel
theorem dX11_mixPlansOf_41 : decode cX11_mixPlansOf 41 = .ok (.invokestatic 306, 3) := by decide +kernel
theorem dX11_mixPlansOf_44 : decode cX11_mixPlansOf 44 = .ok (.lstore 4, 2) := by decide +kernel
theorem dX11_mixPlansOf_46 : decode cX11_mixPlansOf 46 = .ok (.lload 4, 2) := by decide +kernel
theorem dX11_mixPlansOf_48 : decode cX11_mixPlansOf 48 = .ok (.aload_n 0, 1) := by decide +kernel
theorem dX11_mixPlansOf_49 : decode cX11_mixPlansOf 49 = .ok (.iconst 0, 1) := by decide +kernel
theorem dX11_mixPlansOf_50 : decode cX11_mixPlansOf 50 = .ok (.iload_n 3, 1) := by decide +kernel
theorem dX11_mixPlansOf_51 : decode cX11_mixPlansOf 51 = .ok (.iconst 1, 1) := by decide +kernel
theorem dX11_mixPlansOf_52 : decode cX11_mixPlansOf 52 = .ok (.invokevirtual 379, 3) := by decide +kernel
theorem dX11_mixPlansOf_55 : decode cX11_mixPlansOf 55 = .ok (.i2l, 1) := by decide +kernel
theorem dX11_mixPlansOf_56 : decode cX11_mixPlansOf 56 = .ok (.invokestatic 306, 3) := by decide +kernel
theorem dX11_mixPlansOf_59 : decode cX11_mixPlansOf 59 = .ok (.lstore 4, 2) := by decide +kernel
theorem dX11_mixPlansOf_61 : decode cX11_mixPlansOf 61 = .ok (.lload 4, 2) := by decide +kernel
theorem dX11_mixPlansOf_63 : decode cX11_mixPlansOf 63 = .ok (.aload_n 0, 1) := by decide +kernel
theorem dX11_mixPlansOf_64 : decode cX11_mixPlansOf 64 = .ok (.iconst 5, 1) := by decide +kernel
theorem dX11_mixPlansOf_65 : decode cX11_mixPlansOf 65 = .ok (.iload_n 3, 1) := by decide +kernel
theorem dX11_mixPlansOf_66 : decode cX11_mixPlansOf 66 = .ok (.iconst 1, 1) := by decide +kernel
theorem dX11_mixPlansOf_67 : decode cX11_mixPlansOf 67 = .ok (.iconst 0, 1) := by decide +kernel
theorem dX11_mixPlansOf_68 : decode cX11_mixPlansOf 68 = .ok (.invokevirtual 382, 3) := by decide +kernel
theorem dX11_mixPlansOf_71 : decode cX11_mixPlansOf 71 = .ok (.invokestatic 306, 3) := by decide +kernel
theorem dX11_mixPlansOf_74 : decode cX11_mixPlansOf 74 = .ok (.lstore 4, 2) := by decide +kernel
theorem dX11_mixPlansOf_76 : decode cX11_mixPlansOf 76 = .ok (.lload 4, 2) := by decide +kernel
theorem dX11_mixPlansOf_78 : decode cX11_mixPlansOf 78 = .ok (.aload_n 0, 1) := by decide +kernel
theorem dX11_mixPlansOf_79 : decode cX11_mixPlansOf 79 = .ok (.iconst 5, 1) := by decide +kernel
theorem dX11_mixPlansOf_80 : decode cX11_mixPlansOf 80 = .ok (.iload_n 3, 1) := by decide +kernel
theorem dX11_mixPlansOf_81 : decode cX11_mixPlansOf 81 = .ok (.iconst 1, 1) := by decide +kernel
theorem dX11_mixPlansOf_82 : decode cX11_mixPlansOf 82 = .ok (.iconst 1, 1) := by decide +kernel
theorem dX11_mixPlansOf_83 : decode cX11_mixPlansOf 83 = .ok (.invokevirtual 382, 3) := by decide +kernel
theorem dX11_mixPlansOf_86 : decode cX11_mixPlansOf 86 = .ok (.invokestatic 306, 3) := by decide +kernel
theorem dX11_mixPlansOf_89 : decode cX11_mixPlansOf 89 = .ok (.lstore 4, 2) := by decide +kernel
theorem dX11_mixPlansOf_91 : decode cX11_mixPlansOf 91 = .ok (.lload 4, 2) := by decide +kernel
theorem dX11_mixPlansOf_93 : decode cX11_mixPlansOf 93 = .ok (.aload_n 0, 1) := by decide +kernel
theorem dX11_mixPlansOf_94 : decode cX11_mixPlansOf 94 = .ok (.bipush 7, 2) := by decide +kernel
theorem dX11_mixPlansOf_96 : decode cX11_mixPlansOf 96 = .ok (.bipush 9, 2) := by decide +kernel
theorem dX11_mixPlansOf_98 : decode cX11_mixPlansOf 98 = .ok (.iload_n 3, 1) := by decide +kernel
theorem dX11_mixPlansOf_99 : decode cX11_mixPlansOf 99 = .ok (.invokevirtual 385, 3) := by decide +kernel
theorem dX11_mixPlansOf_102 : decode cX11_mixPlansOf 102 = .ok (.i2l, 1) := by decide +kernel
theorem dX11_mixPlansOf_103 : decode cX11_mixPlansOf 103 = .ok (.invokestatic 306, 3) := by decide +kernel
theorem dX11_mixPlansOf_106 : decode cX11_mixPlansOf 106 = .ok (.lreturn, 1) := by decide +kernel
theorem dJ6_bitCount_0f7a4_0 : decode cJ6_bitCount_0f7a4 0 = .ok (.iload_n 0, 1) := by decide +kernel
theorem dJ6_bitCount_0f7a4_1 : decode cJ6_bitCount_0f7a4 1 = .ok (.iload_n 0, 1) := by decide +kernel
theorem dJ6_bitCount_0f7a4_2 : decode cJ6_bitCount_0f7a4 2 = .ok (.iconst 1, 1) := by decide +kernel
theorem dJ6_bitCount_0f7a4_3 : decode cJ6_bitCount_0f7a4 3 = .ok (.iushr, 1) := by decide +kernel
theorem dJ6_bitCount_0f7a4_4 : decode cJ6_bitCount_0f7a4 4 = .ok (.ldc_w 265, 3) := by decide +kernel
theorem dJ6_bitCount_0f7a4_7 : decode cJ6_bitCount_0f7a4 7 = .ok (.iand, 1) := by decide +kernel
theorem dJ6_bitCount_0f7a4_8 : decode cJ6_bitCount_0f7a4 8 = .ok (.isub, 1) := by decide +kernel
theorem dJ6_bitCount_0f7a4_9 : decode cJ6_bitCount_0f7a4 9 = .ok (.istore_n 0, 1) := by decide +kernel
theorem dJ6_bitCount_0f7a4_10 : decode cJ6_bitCount_0f7a4 10 = .ok (.iload_n 0, 1) := by decide +kernel
theorem dJ6_bitCount_0f7a4_11 : decode cJ6_bitCount_0f7a4 11 = .ok (.ldc_w 266, 3) := by decide +kernel
theorem dJ6_bitCount_0f7a4_14 : decode cJ6_bitCount_0f7a4 14 = .ok (.iand, 1) := by decide +kernel
theorem dJ6_bitCount_0f7a4_15 : decode cJ6_bitCount_0f7a4 15 = .ok (.iload_n 0, 1) := by decide +kernel
theorem dJ6_bitCount_0f7a4_16 : decode cJ6_bitCount_0f7a4 16 = .ok (.iconst 2, 1) := by decide +kernel
theorem dJ6_bitCount_0f7a4_17 : decode cJ6_bitCount_0f7a4 17 = .ok (.iushr, 1) := by decide +kernel
theorem dJ6_bitCount_0f7a4_18 : decode cJ6_bitCount_0f7a4 18 = .ok (.ldc_w 266, 3) := by decide +kernel
theorem dJ6_bitCount_0f7a4_21 : decode cJ6_bitCount_0f7a4 21 = .ok (.iand, 1) := by decide +kernel
theorem dJ6_bitCount_0f7a4_22 : decode cJ6_bitCount_0f7a4 22 = .ok (.iadd, 1) := by decide +kernel
theorem dJ6_bitCount_0f7a4_23 : decode cJ6_bitCount_0f7a4 23 = .ok (.istore_n 0, 1) := by decide +kernel
theorem dJ6_bitCount_0f7a4_24 : decode cJ6_bitCount_0f7a4 24 = .ok (.iload_n 0, 1) := by decide +kernel
theorem dJ6_bitCount_0f7a4_25 : decode cJ6_bitCount_0f7a4 25 = .ok (.iload_n 0, 1) := by decide +kernel
theorem dJ6_bitCount_0f7a4_26 : decode cJ6_bitCount_0f7a4 26 = .ok (.iconst 4, 1) := by decide +kernel
theorem dJ6_bitCount_0f7a4_27 : decode cJ6_bitCount_0f7a4 27 = .ok (.iushr, 1) := by decide +kernel
theorem dJ6_bitCount_0f7a4_28 : decode cJ6_bitCount_0f7a4 28 = .ok (.iadd, 1) := by decide +kernel
theorem dJ6_bitCount_0f7a4_29 : decode cJ6_bitCount_0f7a4 29 = .ok (.ldc_w 267, 3) := by decide +kernel
theorem dJ6_bitCount_0f7a4_32 : decode cJ6_bitCount_0f7a4 32 = .ok (.iand, 1) := by decide +kernel
theorem dJ6_bitCount_0f7a4_33 : decode cJ6_bitCount_0f7a4 33 = .ok (.istore_n 0, 1) := by decide +kernel
theorem dJ6_bitCount_0f7a4_34 : decode cJ6_bitCount_0f7a4 34 = .ok (.iload_n 0, 1) := by decide +kernel
theorem dJ6_bitCount_0f7a4_35 : decode cJ6_bitCount_0f7a4 35 = .ok (.iload_n 0, 1) := by decide +kernel
theorem dJ6_bitCount_0f7a4_36 : decode cJ6_bitCount_0f7a4 36 = .ok (.bipush 8, 2) := by decide +kernel
theorem dJ6_bitCount_0f7a4_38 : decode cJ6_bitCount_0f7a4 38 = .ok (.iushr, 1) := by decide +kernel
theorem dJ6_bitCount_0f7a4_39 : decode cJ6_bitCount_0f7a4 39 = .ok (.iadd, 1) := by decide +kernel
theorem dJ6_bitCount_0f7a4_40 : decode cJ6_bitCount_0f7a4 40 = .ok (.istore_n 0, 1) := by decide +kernel
theorem dJ6_bitCount_0f7a4_41 : decode cJ6_bitCount_0f7a4 41 = .ok (.iload_n 0, 1) := by decide +kernel
theorem dJ6_bitCount_0f7a4_42 : decode cJ6_bitCount_0f7a4 42 = .ok (.iload_n 0, 1) := by decide +kernel
theorem dJ6_bitCount_0f7a4_43 : decode cJ6_bitCount_0f7a4 43 = .ok (.bipush 16, 2) := by decide +kernel
theorem dJ6_bitCount_0f7a4_45 : decode cJ6_bitCount_0f7a4 45 = .ok (.iushr, 1) := by decide +kernel
theorem dJ6_bitCount_0f7a4_46 : decode cJ6_bitCount_0f7a4 46 = .ok (.iadd, 1) := by decide +kernel
theorem dJ6_bitCount_0f7a4_47 : decode cJ6_bitCount_0f7a4 47 = .ok (.istore_n 0, 1) := by decide +kernel
theorem dJ6_bitCount_0f7a4_48 : decode cJ6_bitCount_0f7a4 48 = .ok (.iload_n 0, 1) := by decide +kernel
theorem dJ6_bitCount_0f7a4_49 : decode cJ6_bitCount_0f7a4 49 = .ok (.bipush 63, 2) := by decide +kernel
theorem dJ6_bitCount_0f7a4_51 : decode cJ6_bitCount_0f7a4 51 = .ok (.iand, 1) := by decide +kernel
theorem dJ6_bitCount_0f7a4_52 : decode cJ6_bitCount_0f7a4 52 = .ok (.ireturn, 1) := by decide +kernel
theorem dJ9_max_7cf53_0 : decode cJ9_max_7cf53 0 = .ok (.iload_n 0, 1) := by decide +kernel
theorem dJ9_max_7cf53_1 : decode cJ9_max_7cf53 1 = .ok (.iload_n 1, 1) := by decide +kernel
theorem dJ9_max_7cf53_2 : decode cJ9_max_7cf53 2 = .ok (.if_icmp .lt 7, 3) := by decide +kernel
theorem dJ9_max_7cf53_5 : decode cJ9_max_7cf53 5 = .ok (.iload_n 0, 1) := by decide +kernel
theorem dJ9_max_7cf53_6 : decode cJ9_max_7cf53 6 = .ok (.goto 4, 3) := by decide +kernel
theorem dJ9_max_7cf53_9 : decode cJ9_max_7cf53 9 = .ok (.iload_n 1, 1) := by decide +kernel
theorem dJ9_max_7cf53_10 : decode cJ9_max_7cf53 10 = .ok (.ireturn, 1) := by decide +kernel
theorem dJ9_min_7cf53_0 : decode cJ9_min_7cf53 0 = .ok (.iload_n 0, 1) := by decide +kernel
theorem dJ9_min_7cf53_1 : decode cJ9_min_7cf53 1 = .ok (.iload_n 1, 1) := by decide +kernel
theorem dJ9_min_7cf53_2 : decode cJ9_min_7cf53 2 = .ok (.if_icmp .gt 7, 3) := by decide +kernel
theorem dJ9_min_7cf53_5 : decode cJ9_min_7cf53 5 = .ok (.iload_n 0, 1) := by decide +kernel
theorem dJ9_min_7cf53_6 : decode cJ9_min_7cf53 6 = .ok (.goto 4, 3) := by decide +kernel
theorem dJ9_min_7cf53_9 : decode cJ9_min_7cf53 9 = .ok (.iload_n 1, 1) := by decide +kernel
theorem dJ9_min_7cf53_10 : decode cJ9_min_7cf53 10 = .ok (.ireturn, 1) := by decide +kernel
theorem dJ7_fill_53178_0 : decode cJ7_fill_53178 0 = .ok (.iconst 0, 1) := by decide +kernel
theorem dJ7_fill_53178_1 : decode cJ7_fill_53178 1 = .ok (.istore_n 2, 1) := by decide +kernel
theorem dJ7_fill_53178_2 : decode cJ7_fill_53178 2 = .ok (.aload_n 0, 1) := by decide +kernel
theorem dJ7_fill_53178_3 : decode cJ7_fill_53178 3 = .ok (.arraylength, 1) := by decide +kernel
theorem dJ7_fill_53178_4 : decode cJ7_fill_53178 4 = .ok (.istore_n 3, 1) := by decide +kernel
theorem dJ7_fill_53178_5 : decode cJ7_fill_53178 5 = .ok (.iload_n 2, 1) := by decide +kernel
theorem dJ7_fill_53178_6 : decode cJ7_fill_53178 6 = .ok (.iload_n 3, 1) := by decide +kernel
theorem dJ7_fill_53178_7 : decode cJ7_fill_53178 7 = .ok (.if_icmp .ge 13, 3) := by decide +kernel
theorem dJ7_fill_53178_10 : decode cJ7_fill_53178 10 = .ok (.aload_n 0, 1) := by decide +kernel
theorem dJ7_fill_53178_11 : decode cJ7_fill_53178 11 = .ok (.iload_n 2, 1) := by decide +kernel
theorem dJ7_fill_53178_12 : decode cJ7_fill_53178 12 = .ok (.iload_n 1, 1) := by decide +kernel
theorem dJ7_fill_53178_13 : decode cJ7_fill_53178 13 = .ok (.iastore, 1) := by decide +kernel
theorem dJ7_fill_53178_14 : decode cJ7_fill_53178 14 = .ok (.iinc 2 1, 3) := by decide +kernel
theorem dJ7_fill_53178_17 : decode cJ7_fill_53178 17 = .ok (.goto (-12), 3) := by decide +kernel
theorem dJ7_fill_53178_20 : decode cJ7_fill_53178 20 = .ok (.return_, 1) := by decide +kernel
