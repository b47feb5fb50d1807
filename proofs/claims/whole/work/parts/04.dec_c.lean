theorem dX7_init_0 : decode cX7_init 0 = .ok (.aload_n 0, 1) := by decide +kernel
theorem dX7_init_1 : decode cX7_init 1 = .ok (.invokespecial 1, 3) := by decide +kernel
theorem dX7_init_4 : decode cX7_init 4 = .ok (.aload_n 0, 1) := by decide +kernel
theorem dX7_init_5 : decode cX7_init 5 = .ok (.bipush 10, 2) := by decide +kernel
theorem dX7_init_7 : decode cX7_init 7 = .ok (.newarray .int, 2) := by decide +kernel
theorem dX7_init_9 : decode cX7_init 9 = .ok (.putfield 7, 3) := by decide +kernel
theorem dX7_init_12 : decode cX7_init 12 = .ok (.aload_n 0, 1) := by decide +kernel
theorem dX7_init_13 : decode cX7_init 13 = .ok (.bipush 10, 2) := by decide +kernel
theorem dX7_init_15 : decode cX7_init 15 = .ok (.newarray .int, 2) := by decide +kernel
theorem dX7_init_17 : decode cX7_init 17 = .ok (.putfield 13, 3) := by decide +kernel
theorem dX7_init_20 : decode cX7_init 20 = .ok (.aload_n 0, 1) := by decide +kernel
theorem dX7_init_21 : decode cX7_init 21 = .ok (.bipush 10, 2) := by decide +kernel
theorem dX7_init_23 : decode cX7_init 23 = .ok (.newarray .int, 2) := by decide +kernel
theorem dX7_init_25 : decode cX7_init 25 = .ok (.putfield 16, 3) := by decide +kernel
theorem dX7_init_28 : decode cX7_init 28 = .ok (.aload_n 0, 1) := by decide +kernel
theorem dX7_init_29 : decode cX7_init 29 = .ok (.iconst 5, 1) := by decide +kernel
theorem dX7_init_30 : decode cX7_init 30 = .ok (.newarray .int, 2) := by decide +kernel
theorem dX7_init_32 : decode cX7_init 32 = .ok (.putfield 19, 3) := by decide +kernel
theorem dX7_init_35 : decode cX7_init 35 = .ok (.aload_n 0, 1) := by decide +kernel
theorem dX7_init_36 : decode cX7_init 36 = .ok (.iconst 5, 1) := by decide +kernel
theorem dX7_init_37 : decode cX7_init 37 = .ok (.newarray .int, 2) := by decide +kernel
theorem dX7_init_39 : decode cX7_init 39 = .ok (.putfield 22, 3) := by decide +kernel
theorem dX7_init_42 : decode cX7_init 42 = .ok (.aload_n 0, 1) := by decide +kernel
theorem dX7_init_43 : decode cX7_init 43 = .ok (.iconst 5, 1) := by decide +kernel
theorem dX7_init_44 : decode cX7_init 44 = .ok (.newarray .int, 2) := by decide +kernel
theorem dX7_init_46 : decode cX7_init 46 = .ok (.putfield 25, 3) := by decide +kernel
theorem dX7_init_49 : decode cX7_init 49 = .ok (.aload_n 0, 1) := by decide +kernel
theorem dX7_init_50 : decode cX7_init 50 = .ok (.iconst 5, 1) := by decide +kernel
theorem dX7_init_51 : decode cX7_init 51 = .ok (.newarray .int, 2) := by decide +kernel
theorem dX7_init_53 : decode cX7_init 53 = .ok (.putfield 28, 3) := by decide +kernel
theorem dX7_init_56 : decode cX7_init 56 = .ok (.aload_n 0, 1) := by decide +kernel
theorem dX7_init_57 : decode cX7_init 57 = .ok (.bipush 50, 2) := by decide +kernel
theorem dX7_init_59 : decode cX7_init 59 = .ok (.newarray .boolean, 2) := by decide +kernel
theorem dX7_init_61 : decode cX7_init 61 = .ok (.putfield 31, 3) := by decide +kernel
theorem dX7_init_64 : decode cX7_init 64 = .ok (.aload_n 0, 1) := by decide +kernel
theorem dX7_init_65 : decode cX7_init 65 = .ok (.bipush 16, 2) := by decide +kernel
theorem dX7_init_67 : decode cX7_init 67 = .ok (.newarray .int, 2) := by decide +kernel
theorem dX7_init_69 : decode cX7_init 69 = .ok (.putfield 35, 3) := by decide +kernel
theorem dX7_init_72 : decode cX7_init 72 = .ok (.aload_n 0, 1) := by decide +kernel
theorem dX7_init_73 : decode cX7_init 73 = .ok (.bipush 48, 2) := by decide +kernel
theorem dX7_init_75 : decode cX7_init 75 = .ok (.newarray .int, 2) := by decide +kernel
theorem dX7_init_77 : decode cX7_init 77 = .ok (.putfield 38, 3) := by decide +kernel
theorem dX7_init_80 : decode cX7_init 80 = .ok (.aload_n 0, 1) := by decide +kernel
theorem dX7_init_81 : decode cX7_init 81 = .ok (.iconst 5, 1) := by decide +kernel
theorem dX7_init_82 : decode cX7_init 82 = .ok (.newarray .int, 2) := by decide +kernel
theorem dX7_init_84 : decode cX7_init 84 = .ok (.putfield 41, 3) := by decide +kernel
theorem dX7_init_87 : decode cX7_init 87 = .ok (.aload_n 0, 1) := by decide +kernel
theorem dX7_init_88 : decode cX7_init 88 = .ok (.bipush 50, 2) := by decide +kernel
theorem dX7_init_90 : decode cX7_init 90 = .ok (.newarray .int, 2) := by decide +kernel
theorem dX7_init_92 : decode cX7_init 92 = .ok (.putfield 44, 3) := by decide +kernel
theorem dX7_init_95 : decode cX7_init 95 = .ok (.aload_n 0, 1) := by decide +kernel
theorem dX7_init_96 : decode cX7_init 96 = .ok (.bipush 50, 2) := by decide +kernel
theorem dX7_init_98 : decode cX7_init 98 = .ok (.newarray .int, 2) := by decide +kernel
theorem dX7_init_100 : decode cX7_init 100 = .ok (.putfield 47, 3) := by decide +kernel
theorem dX7_init_103 : decode cX7_init 103 = .ok (.aload_n 0, 1) := by decide +kernel
theorem dX7_init_104 : decode cX7_init 104 = .ok (.iconst 5, 1) := by decide +kernel
theorem dX7_init_105 : decode cX7_init 105 = .ok (.newarray .int, 2) := by decide +kernel
theorem dX7_init_107 : decode cX7_init 107 = .ok (.putfield 50, 3) := by decide +kernel
theorem dX7_init_110 : decode cX7_init 110 = .ok (.aload_n 0, 1) := by decide +kernel
theorem dX7_init_111 : decode cX7_init 111 = .ok (.iconst 5, 1) := by decide +kernel
theorem dX7_init_112 : decode cX7_init 112 = .ok (.newarray .int, 2) := by decide +kernel
theorem dX7_init_114 : decode cX7_init 114 = .ok (.putfield 53, 3) := by decide +kernel
theorem dX7_init_117 : decode cX7_init 117 = .ok (.aload_n 0, 1) := by decide +kernel
theorem dX7_init_118 : decode cX7_init 118 = .ok (.iconst 5, 1) := by decide +kernel
theorem dX7_init_119 : decode cX7_init 119 = .ok (.newarray .int, 2) := by decide +kernel
theorem dX7_init_121 : decode cX7_init 121 = .ok (.putfield 56, 3) := by decide +kernel
theorem dX7_init_124 : decode cX7_init 124 = .ok (.aload_n 0, 1) := by decide +kernel
theorem dX7_init_125 : decode cX7_init 125 = .ok (.iconst 5, 1) := by decide +kernel
theorem dX7_init_126 : decode cX7_init 126 = .ok (.newarray .int, 2) := by decide +kernel
theorem dX7_init_128 : decode cX7_init 128 = .ok (.putfield 59, 3) := by decide +kernel
theorem dX7_init_131 : decode cX7_init 131 = .ok (.aload_n 0, 1) := by decide +kernel
theorem dX7_init_132 : decode cX7_init 132 = .ok (.bipush 8, 2) := by decide +kernel
theorem dX7_init_134 : decode cX7_init 134 = .ok (.newarray .int, 2) := by decide +kernel
theorem dX7_init_136 : decode cX7_init 136 = .ok (.putfield 62, 3) := by decide +kernel
theorem dX7_init_139 : decode cX7_init 139 = .ok (.aload_n 0, 1) := by decide +kernel
theorem dX7_init_140 : decode cX7_init 140 = .ok (.bipush 8, 2) := by decide +kernel
theorem dX7_init_142 : decode cX7_init 142 = .ok (.newarray .int, 2) := by decide +kernel
theorem dX7_init_144 : decode cX7_init 144 = .ok (.putfield 65, 3) := by decide +kernel
theorem dX7_init_147 : decode cX7_init 147 = .ok (.aload_n 0, 1) := by decide +kernel
theorem dX7_init_148 : decode cX7_init 148 = .ok (.iconst 4, 1) := by decide +kernel
theorem dX7_init_149 : decode cX7_init 149 = .ok (.newarray .int, 2) := by decide +kernel
theorem dX7_init_151 : decode cX7_init 151 = .ok (.putfield 68, 3) := by decide +kernel
theorem dX7_init_154 : decode cX7_init 154 = .ok (.aload_n 0, 1) := by decide +kernel
theorem dX7_init_155 : decode cX7_init 155 = .ok (.iconst 4, 1) := by decide +kernel
theorem dX7_init_156 : decode cX7_init 156 = .ok (.newarray .int, 2) := by decide +kernel
theorem dX7_init_158 : decode cX7_init 158 = .ok (.putfield 71, 3) := by decide +kernel
theorem dX7_init_161 : decode cX7_init 161 = .ok (.aload_n 0, 1) := by decide +kernel
theorem dX7_init_162 : decode cX7_init 162 = .ok (.sipush 320, 3) := by decide +kernel
theorem dX7_init_165 : decode cX7_init 165 = .ok (.newarray .int, 2) := by decide +kernel
theorem dX7_init_167 : decode cX7_init 167 = .ok (.putfield 74, 3) := by decide +kernel
theorem dX7_init_170 : decode cX7_init 170 = .ok (.aload_n 0, 1) := by decide +kernel
theorem dX7_init_171 : decode cX7_init 171 = .ok (.bipush 80, 2) := by decide +kernel
theorem dX7_init_173 : decode cX7_init 173 = .ok (.newarray .int, 2) := by decide +kernel
theorem dX7_init_175 : decode cX7_init 175 = .ok (.putfield 77, 3) := by decide +kernel
theorem dX7_init_178 : decode cX7_init 178 = .ok (.aload_n 0, 1) := by decide +kernel
theorem dX7_init_179 : decode cX7_init 179 = .ok (.sipush 200, 3) := by decide +kernel
theorem dX7_init_182 : decode cX7_init 182 = .ok (.putfield 80, 3) := by decide +kernel
theorem dX7_init_185 : decode cX7_init 185 = .ok (.iconst 0, 1) := by decide +kernel
theorem dX7_init_186 : decode cX7_init 186 = .ok (.istore_n 1, 1) := by decide +kernel
theorem dX7_init_187 : decode cX7_init 187 = .ok (.iload_n 1, 1) := by decide +kernel
theorem dX7_init_188 : decode cX7_init 188 = .ok (.iconst 4, 1) := by decide +kernel
theorem dX7_init_189 : decode cX7_init 189 = .ok (.if_icmp .ge 16, 3) := by decide +kernel
theorem dX7_init_192 : decode cX7_init 192 = .ok (.aload_n 0, 1) := by decide +kernel
theorem dX7_init_193 : decode cX7_init 193 = .ok (.getfield 68, 3) := by decide +kernel
theorem dX7_init_196 : decode cX7_init 196 = .ok (.iload_n 1, 1) := by decide +kernel
theorem dX7_init_197 : decode cX7_init 197 = .ok (.iconst (-1), 1) := by decide +kernel
theorem dX7_init_198 : decode cX7_init 198 = .ok (.iastore, 1) := by decide +kernel
theorem dX7_init_199 : decode cX7_init 199 = .ok (.iinc 1 1, 3) := by decide +kernel
theorem dX7_init_202 : decode cX7_init 202 = .ok (.goto (-15), 3) := by decide +kernel
theorem dX7_init_205 : decode cX7_init 205 = .ok (.return_, 1) := by decide +kernel
theorem dX7_in_0 : decode cX7_in 0 = .ok (.lload_n 0, 1) := by decide +kernel
theorem dX7_in_1 : decode cX7_in 1 = .ok (.lload_n 2, 1) := by decide +kernel
theorem dX7_in_2 : decode cX7_in 2 = .ok (.lcmp, 1) := by decide +kernel
theorem dX7_in_3 : decode cX7_in 3 = .ok (.ifCond .lt 14, 3) := by decide +kernel
theorem dX7_in_6 : decode cX7_in 6 = .ok (.lload_n 0, 1) := by decide +kernel
theorem dX7_in_7 : decode cX7_in 7 = .ok (.lload 4, 2) := by decide +kernel
theorem dX7_in_9 : decode cX7_in 9 = .ok (.lcmp, 1) := by decide +kernel
theorem dX7_in_10 : decode cX7_in 10 = .ok (.ifCond .gt 7, 3) := by decide +kernel
theorem dX7_in_13 : decode cX7_in 13 = .ok (.iconst 1, 1) := by decide +kernel
theorem dX7_in_14 : decode cX7_in 14 = .ok (.goto 4, 3) := by decide +kernel
theorem dX7_in_17 : decode cX7_in 17 = .ok (.iconst 0, 1) := by decide +kernel
theorem dX7_in_18 : decode cX7_in 18 = .ok (.ireturn, 1) := by decide +kernel
theorem dX7_lost_0 : decode cX7_lost 0 = .ok (.ldc2_w 84, 3) := by decide +kernel
theorem dX7_lost_3 : decode cX7_lost 3 = .ok (.lreturn, 1) := by decide +kernel
theorem dX7_hasBit_0 : decode cX7_hasBit 0 = .ok (.iload_n 0, 1) := by decide +kernel
theorem dX7_hasBit_1 : decode cX7_hasBit 1 = .ok (.iload_n 1, 1) := by decide +kernel
theorem dX7_hasBit_2 : decode cX7_hasBit 2 = .ok (.ishr, 1) := by decide +kernel
theorem dX7_hasBit_3 : decode cX7_hasBit 3 = .ok (.iconst 1, 1) := by decide +kernel
theorem dX7_hasBit_4 : decode cX7_hasBit 4 = .ok (.iand, 1) := by decide +kernel
theorem dX7_hasBit_5 : decode cX7_hasBit 5 = .ok (.iconst 1, 1) := by decide +kernel
theorem dX7_hasBit_6 : decode cX7_hasBit 6 = .ok (.if_icmp .ne 7, 3) := by decide +kernel
theorem dX7_hasBit_9 : decode cX7_hasBit 9 = .ok (.iconst 1, 1) := by decide +kernel
theorem dX7_hasBit_10 : decode cX7_hasBit 10 = .ok (.goto 4, 3) := by decide +kernel
theorem dX7_hasBit_13 : decode cX7_hasBit 13 = .ok (.iconst 0, 1) := by decide +kernel
theorem dX7_hasBit_14 : decode cX7_hasBit 14 = .ok (.ireturn, 1) := by decide +kernel
theorem dX7_bits_0 : decode cX7_bits 0 = .ok (.iconst 0, 1) := by decide +kernel
theorem dX7_bits_1 : decode cX7_bits 1 = .ok (.istore_n 1, 1) := by decide +kernel
theorem dX7_bits_2 : decode cX7_bits 2 = .ok (.iconst 0, 1) := by decide +kernel
theorem dX7_bits_3 : decode cX7_bits 3 = .ok (.istore_n 2, 1) := by decide +kernel
theorem dX7_bits_4 : decode cX7_bits 4 = .ok (.iload_n 2, 1) := by decide +kernel
theorem dX7_bits_5 : decode cX7_bits 5 = .ok (.bipush 16, 2) := by decide +kernel
theorem dX7_bits_7 : decode cX7_bits 7 = .ok (.if_icmp .ge 17, 3) := by decide +kernel
theorem dX7_bits_10 : decode cX7_bits 10 = .ok (.iload_n 1, 1) := by decide +kernel
theorem dX7_bits_11 : decode cX7_bits 11 = .ok (.iload_n 0, 1) := by decide +kernel
theorem dX7_bits_12 : decode cX7_bits 12 = .ok (.iload_n 2, 1) := by decide +kernel
theorem dX7_bits_13 : decode cX7_bits 13 = .ok (.ishr, 1) := by decide +kernel
theorem dX7_bits_14 : decode cX7_bits 14 = .ok (.iconst 1, 1) := by decide +kernel
theorem dX7_bits_15 : decode cX7_bits 15 = .ok (.iand, 1) := by decide +kernel
theorem dX7_bits_16 : decode cX7_bits 16 = .ok (.iadd, 1) := by decide +kernel
theorem dX7_bits_17 : decode cX7_bits 17 = .ok (.istore_n 1, 1) := by decide +kernel
theorem dX7_bits_18 : decode cX7_bits 18 = .ok (.iinc 2 1, 3) := by decide +kernel
theorem dX7_bits_21 : decode cX7_bits 21 = .ok (.goto (-17), 3) := by decide +kernel
theorem dX7_bits_24 : decode cX7_bits 24 = .ok (.iload_n 1, 1) := by decide +kernel
theorem dX7_bits_25 : decode cX7_bits 25 = .ok (.ireturn, 1) := by decide +kernel
theorem dX7_sizeOf_0 : decode cX7_sizeOf 0 = .ok (.iload_n 0, 1) := by decide +kernel
theorem dX7_sizeOf_1 : decode cX7_sizeOf 1 = .ok (.ifCond .ge 8, 3) := by decide +kernel
theorem dX7_sizeOf_4 : decode cX7_sizeOf 4 = .ok (.iload_n 0, 1) := by decide +kernel
theorem dX7_sizeOf_5 : decode cX7_sizeOf 5 = .ok (.ineg, 1) := by decide +kernel
theorem dX7_sizeOf_6 : decode cX7_sizeOf 6 = .ok (.goto 4, 3) := by decide +kernel
theorem dX7_sizeOf_9 : decode cX7_sizeOf 9 = .ok (.iload_n 0, 1) := by decide +kernel
theorem dX7_sizeOf_10 : decode cX7_sizeOf 10 = .ok (.ireturn, 1) := by decide +kernel
theorem dX7_isSpot_0 : decode cX7_isSpot 0 = .ok (.iload_n 0, 1) := by decide +kernel
theorem dX7_isSpot_1 : decode cX7_isSpot 1 = .ok (.i2l, 1) := by decide +kernel
theorem dX7_isSpot_2 : decode cX7_isSpot 2 = .ok (.lconst 0, 1) := by decide +kernel
theorem dX7_isSpot_3 : decode cX7_isSpot 3 = .ok (.ldc2_w 86, 3) := by decide +kernel
theorem dX7_isSpot_6 : decode cX7_isSpot 6 = .ok (.invokestatic 88, 3) := by decide +kernel
theorem dX7_isSpot_9 : decode cX7_isSpot 9 = .ok (.ifCond .eq 19, 3) := by decide +kernel
theorem dX7_isSpot_12 : decode cX7_isSpot 12 = .ok (.iload_n 1, 1) := by decide +kernel
theorem dX7_isSpot_13 : decode cX7_isSpot 13 = .ok (.i2l, 1) := by decide +kernel
theorem dX7_isSpot_14 : decode cX7_isSpot 14 = .ok (.lconst 0, 1) := by decide +kernel
theorem dX7_isSpot_15 : decode cX7_isSpot 15 = .ok (.ldc2_w 86, 3) := by decide +kernel
theorem dX7_isSpot_18 : decode cX7_isSpot 18 = .ok (.invokestatic 88, 3) := by decide +kernel
theorem dX7_isSpot_21 : decode cX7_isSpot 21 = .ok (.ifCond .eq 7, 3) := by decide +kernel
theorem dX7_isSpot_24 : decode cX7_isSpot 24 = .ok (.iconst 1, 1) := by decide +kernel
theorem dX7_isSpot_25 : decode cX7_isSpot 25 = .ok (.goto 4, 3) := by decide +kernel
theorem dX7_isSpot_28 : decode cX7_isSpot 28 = .ok (.iconst 0, 1) := by decide +kernel
theorem dX7_isSpot_29 : decode cX7_isSpot 29 = .ok (.ireturn, 1) := by decide +kernel
theorem dX7_refused_0 : decode cX7_refused 0 = .ok (.aload_n 0, 1) := by decide +kernel
theorem dX7_refused_1 : decode cX7_refused 1 = .ok (.iconst 0, 1) := by decide +kernel
theorem dX7_refused_2 : decode cX7_refused 2 = .ok (.putfield 92, 3) := by decide +kernel
theorem dX7_refused_5 : decode cX7_refused 5 = .ok (.iload_n 1, 1) := by decide +kernel
theorem dX7_refused_6 : decode cX7_refused 6 = .ok (.ireturn, 1) := by decide +kernel
theorem dX7_failed_0 : decode cX7_failed 0 = .ok (.aload_n 0, 1) := by decide +kernel
theorem dX7_failed_1 : decode cX7_failed 1 = .ok (.iload_n 1, 1) := by decide +kernel
theorem dX7_failed_2 : decode cX7_failed 2 = .ok (.putfield 92, 3) := by decide +kernel
theorem dX7_failed_5 : decode cX7_failed 5 = .ok (.bipush (-10), 2) := by decide +kernel
theorem dX7_failed_7 : decode cX7_failed 7 = .ok (.iload_n 1, 1) := by decide +kernel
theorem dX7_failed_8 : decode cX7_failed 8 = .ok (.isub, 1) := by decide +kernel
theorem dX7_failed_9 : decode cX7_failed 9 = .ok (.ireturn, 1) := by decide +kernel
theorem dX7_failedLong_0 : decode cX7_failedLong 0 = .ok (.aload_n 0, 1) := by decide +kernel
theorem dX7_failedLong_1 : decode cX7_failedLong 1 = .ok (.iload_n 1, 1) := by decide +kernel
theorem dX7_failedLong_2 : decode cX7_failedLong 2 = .ok (.putfield 92, 3) := by decide +kernel
theorem dX7_failedLong_5 : decode cX7_failedLong 5 = .ok (.invokestatic 95, 3) := by decide +kernel
theorem dX7_failedLong_8 : decode cX7_failedLong 8 = .ok (.lreturn, 1) := by decide +kernel
theorem dX7_refusal_0 : decode cX7_refusal 0 = .ok (.iload_n 2, 1) := by decide +kernel
theorem dX7_refusal_1 : decode cX7_refusal 1 = .ok (.i2l, 1) := by decide +kernel
theorem dX7_refusal_2 : decode cX7_refusal 2 = .ok (.lconst 0, 1) := by decide +kernel
theorem dX7_refusal_3 : decode cX7_refusal 3 = .ok (.ldc2_w 99, 3) := by decide +kernel
theorem dX7_refusal_6 : decode cX7_refusal 6 = .ok (.invokestatic 88, 3) := by decide +kernel
theorem dX7_refusal_9 : decode cX7_refusal 9 = .ok (.ifCond .ne 10, 3) := by decide +kernel
theorem dX7_refusal_12 : decode cX7_refusal 12 = .ok (.aload_n 0, 1) := by decide +kernel
theorem dX7_refusal_13 : decode cX7_refusal 13 = .ok (.bipush (-2), 2) := by decide +kernel
theorem dX7_refusal_15 : decode cX7_refusal 15 = .ok (.invokevirtual 101, 3) := by decide +kernel
theorem dX7_refusal_18 : decode cX7_refusal 18 = .ok (.ireturn, 1) := by decide +kernel
theorem dX7_refusal_19 : decode cX7_refusal 19 = .ok (.aload_n 0, 1) := by decide +kernel
theorem dX7_refusal_20 : decode cX7_refusal 20 = .ok (.getfield 68, 3) := by decide +kernel
theorem dX7_refusal_23 : decode cX7_refusal 23 = .ok (.iload_n 1, 1) := by decide +kernel
theorem dX7_refusal_24 : decode cX7_refusal 24 = .ok (.iaload, 1) := by decide +kernel
theorem dX7_refusal_25 : decode cX7_refusal 25 = .ok (.ifCond .lt 19, 3) := by decide +kernel
theorem dX7_refusal_28 : decode cX7_refusal 28 = .ok (.aload_n 0, 1) := by decide +kernel
theorem dX7_refusal_29 : decode cX7_refusal 29 = .ok (.getfield 71, 3) := by decide +kernel
theorem dX7_refusal_32 : decode cX7_refusal 32 = .ok (.iload_n 1, 1) := by decide +kernel
theorem dX7_refusal_33 : decode cX7_refusal 33 = .ok (.iaload, 1) := by decide +kernel
theorem dX7_refusal_34 : decode cX7_refusal 34 = .ok (.iload_n 2, 1) := by decide +kernel
theorem dX7_refusal_35 : decode cX7_refusal 35 = .ok (.if_icmp .eq 9, 3) := by decide +kernel
theorem dX7_refusal_38 : decode cX7_refusal 38 = .ok (.aload_n 0, 1) := by decide +kernel
theorem dX7_refusal_39 : decode cX7_refusal 39 = .ok (.iconst 2, 1) := by decide +kernel
theorem dX7_refusal_40 : decode cX7_refusal 40 = .ok (.invokevirtual 105, 3) := by decide +kernel
theorem dX7_refusal_43 : decode cX7_refusal 43 = .ok (.ireturn, 1) := by decide +kernel
theorem dX7_refusal_44 : decode cX7_refusal 44 = .ok (.aload_n 0, 1) := by decide +kernel
theorem dX7_refusal_45 : decode cX7_refusal 45 = .ok (.getfield 68, 3) := by decide +kernel
theorem dX7_refusal_48 : decode cX7_refusal 48 = .ok (.iload_n 1, 1) := by decide +kernel
theorem dX7_refusal_49 : decode cX7_refusal 49 = .ok (.iaload, 1) := by decide +kernel
theorem dX7_refusal_50 : decode cX7_refusal 50 = .ok (.ifCond .ge 9, 3) := by decide +kernel
theorem dX7_refusal_53 : decode cX7_refusal 53 = .ok (.aload_n 0, 1) := by decide +kernel
theorem dX7_refusal_54 : decode cX7_refusal 54 = .ok (.iconst 1, 1) := by decide +kernel
theorem dX7_refusal_55 : decode cX7_refusal 55 = .ok (.invokevirtual 105, 3) := by decide +kernel
theorem dX7_refusal_58 : decode cX7_refusal 58 = .ok (.ireturn, 1) := by decide +kernel
theorem dX7_refusal_59 : decode cX7_refusal 59 = .ok (.lload 4, 2) := by decide +kernel
theorem dX7_refusal_61 : decode cX7_refusal 61 = .ok (.lconst 0, 1) := by decide +kernel
theorem dX7_refusal_62 : decode cX7_refusal 62 = .ok (.lcmp, 1) := by decide +kernel
theorem dX7_refusal_63 : decode cX7_refusal 63 = .ok (.ifCond .ge 9, 3) := by decide +kernel
theorem dX7_refusal_66 : decode cX7_refusal 66 = .ok (.aload_n 0, 1) := by decide +kernel
theorem dX7_refusal_67 : decode cX7_refusal 67 = .ok (.iconst 4, 1) := by decide +kernel
theorem dX7_refusal_68 : decode cX7_refusal 68 = .ok (.invokevirtual 105, 3) := by decide +kernel
theorem dX7_refusal_71 : decode cX7_refusal 71 = .ok (.ireturn, 1) := by decide +kernel
theorem dX7_refusal_72 : decode cX7_refusal 72 = .ok (.iload_n 3, 1) := by decide +kernel
theorem dX7_refusal_73 : decode cX7_refusal 73 = .ok (.lload 4, 2) := by decide +kernel
theorem dX7_refusal_75 : decode cX7_refusal 75 = .ok (.aload_n 0, 1) := by decide +kernel
theorem dX7_refusal_76 : decode cX7_refusal 76 = .ok (.getfield 68, 3) := by decide +kernel
theorem dX7_refusal_79 : decode cX7_refusal 79 = .ok (.iload_n 1, 1) := by decide +kernel
theorem dX7_refusal_80 : decode cX7_refusal 80 = .ok (.iaload, 1) := by decide +kernel
theorem dX7_refusal_81 : decode cX7_refusal 81 = .ok (.invokestatic 108, 3) := by decide +kernel
theorem dX7_refusal_84 : decode cX7_refusal 84 = .ok (.ifCond .eq 11, 3) := by decide +kernel
theorem dX7_refusal_87 : decode cX7_refusal 87 = .ok (.aload_n 0, 1) := by decide +kernel
theorem dX7_refusal_88 : decode cX7_refusal 88 = .ok (.iconst 3, 1) := by decide +kernel
theorem dX7_refusal_89 : decode cX7_refusal 89 = .ok (.invokevirtual 105, 3) := by decide +kernel
theorem dX7_refusal_92 : decode cX7_refusal 92 = .ok (.goto 4, 3) := by decide +kernel
theorem dX7_refusal_95 : decode cX7_refusal 95 = .ok (.iconst 0, 1) := by decide +kernel
theorem dX7_refusal_96 : decode cX7_refusal 96 = .ok (.ireturn, 1) := by decide +kernel
theorem dX7_noHome_0 : decode cX7_noHome 0 = .ok (.iload_n 1, 1) := by decide +kernel
theorem dX7_noHome_1 : decode cX7_noHome 1 = .ok (.i2l, 1) := by decide +kernel
theorem dX7_noHome_2 : decode cX7_noHome 2 = .ok (.lconst 0, 1) := by decide +kernel
theorem dX7_noHome_3 : decode cX7_noHome 3 = .ok (.aload_n 0, 1) := by decide +kernel
theorem dX7_noHome_4 : decode cX7_noHome 4 = .ok (.getfield 112, 3) := by decide +kernel
theorem dX7_noHome_7 : decode cX7_noHome 7 = .ok (.i2l, 1) := by decide +kernel
theorem dX7_noHome_8 : decode cX7_noHome 8 = .ok (.lconst 1, 1) := by decide +kernel
theorem dX7_noHome_9 : decode cX7_noHome 9 = .ok (.lsub, 1) := by decide +kernel
theorem dX7_noHome_10 : decode cX7_noHome 10 = .ok (.invokestatic 88, 3) := by decide +kernel
theorem dX7_noHome_13 : decode cX7_noHome 13 = .ok (.ifCond .ne 7, 3) := by decide +kernel
theorem dX7_noHome_16 : decode cX7_noHome 16 = .ok (.iconst 1, 1) := by decide +kernel
theorem dX7_noHome_17 : decode cX7_noHome 17 = .ok (.goto 4, 3) := by decide +kernel
theorem dX7_noHome_20 : decode cX7_noHome 20 = .ok (.iconst 0, 1) := by decide +kernel
theorem dX7_noHome_21 : decode cX7_noHome 21 = .ok (.ireturn, 1) := by decide +kernel
theorem dX7_noChurch_0 : decode cX7_noChurch 0 = .ok (.iload_n 1, 1) := by decide +kernel
theorem dX7_noChurch_1 : decode cX7_noChurch 1 = .ok (.i2l, 1) := by decide +kernel
theorem dX7_noChurch_2 : decode cX7_noChurch 2 = .ok (.lconst 0, 1) := by decide +kernel
theorem dX7_noChurch_3 : decode cX7_noChurch 3 = .ok (.aload_n 0, 1) := by decide +kernel
theorem dX7_noChurch_4 : decode cX7_noChurch 4 = .ok (.getfield 115, 3) := by decide +kernel
theorem dX7_noChurch_7 : decode cX7_noChurch 7 = .ok (.i2l, 1) := by decide +kernel
theorem dX7_noChurch_8 : decode cX7_noChurch 8 = .ok (.lconst 1, 1) := by decide +kernel
theorem dX7_noChurch_9 : decode cX7_noChurch 9 = .ok (.lsub, 1) := by decide +kernel
theorem dX7_noChurch_10 : decode cX7_noChurch 10 = .ok (.invokestatic 88, 3) := by decide +kernel
theorem dX7_noChurch_13 : decode cX7_noChurch 13 = .ok (.ifCond .ne 7, 3) := by decide +kernel
theorem dX7_noChurch_16 : decode cX7_noChurch 16 = .ok (.iconst 1, 1) := by decide +kernel
theorem dX7_noChurch_17 : decode cX7_noChurch 17 = .ok (.goto 4, 3) := by decide +kernel
theorem dX7_noChurch_20 : decode cX7_noChurch 20 = .ok (.iconst 0, 1) := by decide +kernel
theorem dX7_noChurch_21 : decode cX7_noChurch 21 = .ok (.ireturn, 1) := by decide +kernel
theorem dX7_addHome_0 : decode cX7_addHome 0 = .ok (.aload_n 0, 1) := by decide +kernel
theorem dX7_addHome_1 : decode cX7_addHome 1 = .ok (.getfield 7, 3) := by decide +kernel
theorem dX7_addHome_4 : decode cX7_addHome 4 = .ok (.aload_n 0, 1) := by decide +kernel
theorem dX7_addHome_5 : decode cX7_addHome 5 = .ok (.getfield 112, 3) := by decide +kernel
theorem dX7_addHome_8 : decode cX7_addHome 8 = .ok (.iload_n 1, 1) := by decide +kernel
theorem dX7_addHome_9 : decode cX7_addHome 9 = .ok (.iastore, 1) := by decide +kernel
theorem dX7_addHome_10 : decode cX7_addHome 10 = .ok (.aload_n 0, 1) := by decide +kernel
theorem dX7_addHome_11 : decode cX7_addHome 11 = .ok (.getfield 13, 3) := by decide +kernel
theorem dX7_addHome_14 : decode cX7_addHome 14 = .ok (.aload_n 0, 1) := by decide +kernel
theorem dX7_addHome_15 : decode cX7_addHome 15 = .ok (.getfield 112, 3) := by decide +kernel
theorem dX7_addHome_18 : decode cX7_addHome 18 = .ok (.iload_n 2, 1) := by decide +kernel
theorem dX7_addHome_19 : decode cX7_addHome 19 = .ok (.iastore, 1) := by decide +kernel
theorem dX7_addHome_20 : decode cX7_addHome 20 = .ok (.aload_n 0, 1) := by decide +kernel
theorem dX7_addHome_21 : decode cX7_addHome 21 = .ok (.getfield 16, 3) := by decide +kernel
theorem dX7_addHome_24 : decode cX7_addHome 24 = .ok (.aload_n 0, 1) := by decide +kernel
theorem dX7_addHome_25 : decode cX7_addHome 25 = .ok (.getfield 112, 3) := by decide +kernel
theorem dX7_addHome_28 : decode cX7_addHome 28 = .ok (.iload_n 3, 1) := by decide +kernel
theorem dX7_addHome_29 : decode cX7_addHome 29 = .ok (.iastore, 1) := by decide +kernel
theorem dX7_addHome_30 : decode cX7_addHome 30 = .ok (.aload_n 0, 1) := by decide +kernel
theorem dX7_addHome_31 : decode cX7_addHome 31 = .ok (.dup, 1) := by decide +kernel
theorem dX7_addHome_32 : decode cX7_addHome 32 = .ok (.getfield 112, 3) := by decide +kernel
theorem dX7_addHome_35 : decode cX7_addHome 35 = .ok (.iconst 1, 1) := by decide +kernel
theorem dX7_addHome_36 : decode cX7_addHome 36 = .ok (.iadd, 1) := by decide +kernel
theorem dX7_addHome_37 : decode cX7_addHome 37 = .ok (.putfield 112, 3) := by decide +kernel
theorem dX7_addHome_40 : decode cX7_addHome 40 = .ok (.return_, 1) := by decide +kernel
theorem dX7_addChurch_0 : decode cX7_addChurch 0 = .ok (.aload_n 0, 1) := by decide +kernel
theorem dX7_addChurch_1 : decode cX7_addChurch 1 = .ok (.getfield 19, 3) := by decide +kernel
theorem dX7_addChurch_4 : decode cX7_addChurch 4 = .ok (.aload_n 0, 1) := by decide +kernel
theorem dX7_addChurch_5 : decode cX7_addChurch 5 = .ok (.getfield 115, 3) := by decide +kernel
theorem dX7_addChurch_8 : decode cX7_addChurch 8 = .ok (.iload_n 1, 1) := by decide +kernel
theorem dX7_addChurch_9 : decode cX7_addChurch 9 = .ok (.iastore, 1) := by decide +kernel
theorem dX7_addChurch_10 : decode cX7_addChurch 10 = .ok (.aload_n 0, 1) := by decide +kernel
theorem dX7_addChurch_11 : decode cX7_addChurch 11 = .ok (.getfield 22, 3) := by decide +kernel
theorem dX7_addChurch_14 : decode cX7_addChurch 14 = .ok (.aload_n 0, 1) := by decide +kernel
theorem dX7_addChurch_15 : decode cX7_addChurch 15 = .ok (.getfield 115, 3) := by decide +kernel
theorem dX7_addChurch_18 : decode cX7_addChurch 18 = .ok (.iload_n 2, 1) := by decide +kernel
theorem dX7_addChurch_19 : decode cX7_addChurch 19 = .ok (.iastore, 1) := by decide +kernel
theorem dX7_addChurch_20 : decode cX7_addChurch 20 = .ok (.aload_n 0, 1) := by decide +kernel
theorem dX7_addChurch_21 : decode cX7_addChurch 21 = .ok (.getfield 25, 3) := by decide +kernel
theorem dX7_addChurch_24 : decode cX7_addChurch 24 = .ok (.aload_n 0, 1) := by decide +kernel
theorem dX7_addChurch_25 : decode cX7_addChurch 25 = .ok (.getfield 115, 3) := by decide +kernel
theorem dX7_addChurch_28 : decode cX7_addChurch 28 = .ok (.iload_n 3, 1) := by decide +kernel
theorem dX7_addChurch_29 : decode cX7_addChurch 29 = .ok (.iastore, 1) := by decide +kernel
theorem dX7_addChurch_30 : decode cX7_addChurch 30 = .ok (.aload_n 0, 1) := by decide +kernel
theorem dX7_addChurch_31 : decode cX7_addChurch 31 = .ok (.getfield 28, 3) := by decide +kernel
theorem dX7_addChurch_34 : decode cX7_addChurch 34 = .ok (.aload_n 0, 1) := by decide +kernel
theorem dX7_addChurch_35 : decode cX7_addChurch 35 = .ok (.getfield 115, 3) := by decide +kernel
theorem dX7_addChurch_38 : decode cX7_addChurch 38 = .ok (.iload 4, 2) := by decide +kernel
theorem dX7_addChurch_40 : decode cX7_addChurch 40 = .ok (.iastore, 1) := by decide +kernel
theorem dX7_addChurch_41 : decode cX7_addChurch 41 = .ok (.aload_n 0, 1) := by decide +kernel
theorem dX7_addChurch_42 : decode cX7_addChurch 42 = .ok (.dup, 1) := by decide +kernel
theorem dX7_addChurch_43 : decode cX7_addChurch 43 = .ok (.getfield 115, 3) := by decide +kernel
theorem dX7_addChurch_46 : decode cX7_addChurch 46 = .ok (.iconst 1, 1) := by decide +kernel
theorem dX7_addChurch_47 : decode cX7_addChurch 47 = .ok (.iadd, 1) := by decide +kernel
theorem dX7_addChurch_48 : decode cX7_addChurch 48 = .ok (.putfield 115, 3) := by decide +kernel
theorem dX7_addChurch_51 : decode cX7_addChurch 51 = .ok (.return_, 1) := by decide +kernel
theorem dX7_home_0 : decode cX7_home 0 = .ok (.iload_n 1, 1) := by decide +kernel
theorem dX7_home_1 : decode cX7_home 1 = .ok (.iload_n 2, 1) := by decide +kernel
theorem dX7_home_2 : decode cX7_home 2 = .ok (.invokestatic 118, 3) := by decide +kernel
theorem dX7_home_5 : decode cX7_home 5 = .ok (.ifCond .eq 15, 3) := by decide +kernel
theorem dX7_home_8 : decode cX7_home 8 = .ok (.iload_n 3, 1) := by decide +kernel
theorem dX7_home_9 : decode cX7_home 9 = .ok (.i2l, 1) := by decide +kernel
theorem dX7_home_10 : decode cX7_home 10 = .ok (.lconst 1, 1) := by decide +kernel
theorem dX7_home_11 : decode cX7_home 11 = .ok (.ldc2_w 122, 3) := by decide +kernel
theorem dX7_home_14 : decode cX7_home 14 = .ok (.invokestatic 88, 3) := by decide +kernel
theorem dX7_home_17 : decode cX7_home 17 = .ok (.ifCond .ne 6, 3) := by decide +kernel
theorem dX7_home_20 : decode cX7_home 20 = .ok (.bipush (-2), 2) := by decide +kernel
theorem dX7_home_22 : decode cX7_home 22 = .ok (.ireturn, 1) := by decide +kernel
theorem dX7_home_23 : decode cX7_home 23 = .ok (.aload_n 0, 1) := by decide +kernel
theorem dX7_home_24 : decode cX7_home 24 = .ok (.getfield 112, 3) := by decide +kernel
theorem dX7_home_27 : decode cX7_home 27 = .ok (.bipush 10, 2) := by decide +kernel
theorem dX7_home_29 : decode cX7_home 29 = .ok (.if_icmp .ne 6, 3) := by decide +kernel
theorem dX7_home_32 : decode cX7_home 32 = .ok (.bipush (-4), 2) := by decide +kernel
theorem dX7_home_34 : decode cX7_home 34 = .ok (.ireturn, 1) := by decide +kernel
theorem dX7_home_35 : decode cX7_home 35 = .ok (.aload_n 0, 1) := by decide +kernel
theorem dX7_home_36 : decode cX7_home 36 = .ok (.iload_n 1, 1) := by decide +kernel
theorem dX7_home_37 : decode cX7_home 37 = .ok (.iload_n 2, 1) := by decide +kernel
theorem dX7_home_38 : decode cX7_home 38 = .ok (.iload_n 3, 1) := by decide +kernel
theorem dX7_home_39 : decode cX7_home 39 = .ok (.invokevirtual 124, 3) := by decide +kernel
theorem dX7_home_42 : decode cX7_home 42 = .ok (.aload_n 0, 1) := by decide +kernel
theorem dX7_home_43 : decode cX7_home 43 = .ok (.getfield 112, 3) := by decide +kernel
theorem dX7_home_46 : decode cX7_home 46 = .ok (.iconst 1, 1) := by decide +kernel
theorem dX7_home_47 : decode cX7_home 47 = .ok (.isub, 1) := by decide +kernel
theorem dX7_home_48 : decode cX7_home 48 = .ok (.ireturn, 1) := by decide +kernel
theorem dX7_church_0 : decode cX7_church 0 = .ok (.iload_n 1, 1) := by decide +kernel
theorem dX7_church_1 : decode cX7_church 1 = .ok (.i2l, 1) := by decide +kernel
theorem dX7_church_2 : decode cX7_church 2 = .ok (.lconst 0, 1) := by decide +kernel
theorem dX7_church_3 : decode cX7_church 3 = .ok (.ldc2_w 99, 3) := by decide +kernel
theorem dX7_church_6 : decode cX7_church 6 = .ok (.invokestatic 88, 3) := by decide +kernel
theorem dX7_church_9 : decode cX7_church 9 = .ok (.ifCond .eq 24, 3) := by decide +kernel
theorem dX7_church_12 : decode cX7_church 12 = .ok (.iload_n 2, 1) := by decide +kernel
theorem dX7_church_13 : decode cX7_church 13 = .ok (.iload_n 3, 1) := by decide +kernel
theorem dX7_church_14 : decode cX7_church 14 = .ok (.invokestatic 118, 3) := by decide +kernel
theorem dX7_church_17 : decode cX7_church 17 = .ok (.ifCond .eq 16, 3) := by decide +kernel
theorem dX7_church_20 : decode cX7_church 20 = .ok (.iload 4, 2) := by decide +kernel
theorem dX7_church_22 : decode cX7_church 22 = .ok (.i2l, 1) := by decide +kernel
theorem dX7_church_23 : decode cX7_church 23 = .ok (.lconst 0, 1) := by decide +kernel
theorem dX7_church_24 : decode cX7_church 24 = .ok (.ldc2_w 128, 3) := by decide +kernel
theorem dX7_church_27 : decode cX7_church 27 = .ok (.invokestatic 88, 3) := by decide +kernel
theorem dX7_church_30 : decode cX7_church 30 = .ok (.ifCond .ne 6, 3) := by decide +kernel
theorem dX7_church_33 : decode cX7_church 33 = .ok (.bipush (-2), 2) := by decide +kernel
theorem dX7_church_35 : decode cX7_church 35 = .ok (.ireturn, 1) := by decide +kernel
theorem dX7_church_36 : decode cX7_church 36 = .ok (.aload_n 0, 1) := by decide +kernel
theorem dX7_church_37 : decode cX7_church 37 = .ok (.getfield 115, 3) := by decide +kernel
theorem dX7_church_40 : decode cX7_church 40 = .ok (.iconst 5, 1) := by decide +kernel
theorem dX7_church_41 : decode cX7_church 41 = .ok (.if_icmp .ne 6, 3) := by decide +kernel
theorem dX7_church_44 : decode cX7_church 44 = .ok (.bipush (-4), 2) := by decide +kernel
theorem dX7_church_46 : decode cX7_church 46 = .ok (.ireturn, 1) := by decide +kernel
theorem dX7_church_47 : decode cX7_church 47 = .ok (.aload_n 0, 1) := by decide +kernel
theorem dX7_church_48 : decode cX7_church 48 = .ok (.iload_n 1, 1) := by decide +kernel
theorem dX7_church_49 : decode cX7_church 49 = .ok (.iload_n 2, 1) := by decide +kernel
theorem dX7_church_50 : decode cX7_church 50 = .ok (.iload_n 3, 1) := by decide +kernel
theorem dX7_church_51 : decode cX7_church 51 = .ok (.iload 4, 2) := by decide +kernel
theorem dX7_church_53 : decode cX7_church 53 = .ok (.invokevirtual 130, 3) := by decide +kernel
theorem dX7_church_56 : decode cX7_church 56 = .ok (.aload_n 0, 1) := by decide +kernel
theorem dX7_church_57 : decode cX7_church 57 = .ok (.getfield 115, 3) := by decide +kernel
theorem dX7_church_60 : decode cX7_church 60 = .ok (.iconst 1, 1) := by decide +kernel
theorem dX7_church_61 : decode cX7_church 61 = .ok (.isub, 1) := by decide +kernel
theorem dX7_church_62 : decode cX7_church 62 = .ok (.ireturn, 1) := by decide +kernel
theorem dX7_kindBy_0 : decode cX7_kindBy 0 = .ok (.iload_n 0, 1) := by decide +kernel
theorem dX7_kindBy_1 : decode cX7_kindBy 1 = .ok (.bipush 113, 2) := by decide +kernel
theorem dX7_kindBy_3 : decode cX7_kindBy 3 = .ok (.if_icmp .ne 7, 3) := by decide +kernel
theorem dX7_kindBy_6 : decode cX7_kindBy 6 = .ok (.iconst 0, 1) := by decide +kernel
theorem dX7_kindBy_7 : decode cX7_kindBy 7 = .ok (.goto 34, 3) := by decide +kernel
theorem dX7_kindBy_10 : decode cX7_kindBy 10 = .ok (.iload_n 0, 1) := by decide +kernel
theorem dX7_kindBy_11 : decode cX7_kindBy 11 = .ok (.bipush 115, 2) := by decide +kernel
theorem dX7_kindBy_13 : decode cX7_kindBy 13 = .ok (.if_icmp .ne 7, 3) := by decide +kernel
theorem dX7_kindBy_16 : decode cX7_kindBy 16 = .ok (.iconst 1, 1) := by decide +kernel
theorem dX7_kindBy_17 : decode cX7_kindBy 17 = .ok (.goto 24, 3) := by decide +kernel
theorem dX7_kindBy_20 : decode cX7_kindBy 20 = .ok (.iload_n 0, 1) := by decide +kernel
theorem dX7_kindBy_21 : decode cX7_kindBy 21 = .ok (.bipush 102, 2) := by decide +kernel
theorem dX7_kindBy_23 : decode cX7_kindBy 23 = .ok (.if_icmp .ne 7, 3) := by decide +kernel
theorem dX7_kindBy_26 : decode cX7_kindBy 26 = .ok (.iconst 2, 1) := by decide +kernel
theorem dX7_kindBy_27 : decode cX7_kindBy 27 = .ok (.goto 14, 3) := by decide +kernel
theorem dX7_kindBy_30 : decode cX7_kindBy 30 = .ok (.iload_n 0, 1) := by decide +kernel
theorem dX7_kindBy_31 : decode cX7_kindBy 31 = .ok (.bipush 104, 2) := by decide +kernel
theorem dX7_kindBy_33 : decode cX7_kindBy 33 = .ok (.if_icmp .ne 7, 3) := by decide +kernel
theorem dX7_kindBy_36 : decode cX7_kindBy 36 = .ok (.iconst 3, 1) := by decide +kernel
theorem dX7_kindBy_37 : decode cX7_kindBy 37 = .ok (.goto 4, 3) := by decide +kernel
theorem dX7_kindBy_40 : decode cX7_kindBy 40 = .ok (.iconst (-1), 1) := by decide +kernel
theorem dX7_kindBy_41 : decode cX7_kindBy 41 = .ok (.ireturn, 1) := by decide +kernel
theorem dX7_readsNumber_0 : decode cX7_readsNumber 0 = .ok (.aload_n 0, 1) := by decide +kernel
theorem dX7_readsNumber_1 : decode cX7_readsNumber 1 = .ok (.getfield 134, 3) := by decide +kernel
theorem dX7_readsNumber_4 : decode cX7_readsNumber 4 = .ok (.istore 6, 2) := by decide +kernel
theorem dX7_readsNumber_6 : decode cX7_readsNumber 6 = .ok (.iconst 0, 1) := by decide +kernel
theorem dX7_readsNumber_7 : decode cX7_readsNumber 7 = .ok (.istore 7, 2) := by decide +kernel
theorem dX7_readsNumber_9 : decode cX7_readsNumber 9 = .ok (.aload_n 0, 1) := by decide +kernel
theorem dX7_readsNumber_10 : decode cX7_readsNumber 10 = .ok (.getfield 134, 3) := by decide +kernel
theorem dX7_readsNumber_13 : decode cX7_readsNumber 13 = .ok (.iload_n 3, 1) := by decide +kernel
theorem dX7_readsNumber_14 : decode cX7_readsNumber 14 = .ok (.if_icmp .ge 73, 3) := by decide +kernel
theorem dX7_readsNumber_17 : decode cX7_readsNumber 17 = .ok (.aload_n 0, 1) := by decide +kernel
theorem dX7_readsNumber_18 : decode cX7_readsNumber 18 = .ok (.getfield 134, 3) := by decide +kernel
theorem dX7_readsNumber_21 : decode cX7_readsNumber 21 = .ok (.iload 6, 2) := by decide +kernel
theorem dX7_readsNumber_23 : decode cX7_readsNumber 23 = .ok (.iconst 2, 1) := by decide +kernel
theorem dX7_readsNumber_24 : decode cX7_readsNumber 24 = .ok (.iadd, 1) := by decide +kernel
theorem dX7_readsNumber_25 : decode cX7_readsNumber 25 = .ok (.if_icmp .ge 62, 3) := by decide +kernel
theorem dX7_readsNumber_28 : decode cX7_readsNumber 28 = .ok (.aload_n 0, 1) := by decide +kernel
theorem dX7_readsNumber_29 : decode cX7_readsNumber 29 = .ok (.getfield 74, 3) := by decide +kernel
theorem dX7_readsNumber_32 : decode cX7_readsNumber 32 = .ok (.iload_n 2, 1) := by decide +kernel
theorem dX7_readsNumber_33 : decode cX7_readsNumber 33 = .ok (.aload_n 0, 1) := by decide +kernel
theorem dX7_readsNumber_34 : decode cX7_readsNumber 34 = .ok (.getfield 134, 3) := by decide +kernel
theorem dX7_readsNumber_37 : decode cX7_readsNumber 37 = .ok (.iadd, 1) := by decide +kernel
theorem dX7_readsNumber_38 : decode cX7_readsNumber 38 = .ok (.iaload, 1) := by decide +kernel
theorem dX7_readsNumber_39 : decode cX7_readsNumber 39 = .ok (.i2l, 1) := by decide +kernel
theorem dX7_readsNumber_40 : decode cX7_readsNumber 40 = .ok (.ldc2_w 137, 3) := by decide +kernel
theorem dX7_readsNumber_43 : decode cX7_readsNumber 43 = .ok (.ldc2_w 139, 3) := by decide +kernel
theorem dX7_readsNumber_46 : decode cX7_readsNumber 46 = .ok (.invokestatic 88, 3) := by decide +kernel
theorem dX7_readsNumber_49 : decode cX7_readsNumber 49 = .ok (.ifCond .eq 38, 3) := by decide +kernel
theorem dX7_readsNumber_52 : decode cX7_readsNumber 52 = .ok (.bipush 10, 2) := by decide +kernel
theorem dX7_readsNumber_54 : decode cX7_readsNumber 54 = .ok (.iload 7, 2) := by decide +kernel
theorem dX7_readsNumber_56 : decode cX7_readsNumber 56 = .ok (.imul, 1) := by decide +kernel
theorem dX7_readsNumber_57 : decode cX7_readsNumber 57 = .ok (.aload_n 0, 1) := by decide +kernel
theorem dX7_readsNumber_58 : decode cX7_readsNumber 58 = .ok (.getfield 74, 3) := by decide +kernel
theorem dX7_readsNumber_61 : decode cX7_readsNumber 61 = .ok (.iload_n 2, 1) := by decide +kernel
theorem dX7_readsNumber_62 : decode cX7_readsNumber 62 = .ok (.aload_n 0, 1) := by decide +kernel
theorem dX7_readsNumber_63 : decode cX7_readsNumber 63 = .ok (.getfield 134, 3) := by decide +kernel
theorem dX7_readsNumber_66 : decode cX7_readsNumber 66 = .ok (.iadd, 1) := by decide +kernel
theorem dX7_readsNumber_67 : decode cX7_readsNumber 67 = .ok (.iaload, 1) := by decide +kernel
theorem dX7_readsNumber_68 : decode cX7_readsNumber 68 = .ok (.iadd, 1) := by decide +kernel
theorem dX7_readsNumber_69 : decode cX7_readsNumber 69 = .ok (.bipush 48, 2) := by decide +kernel
theorem dX7_readsNumber_71 : decode cX7_readsNumber 71 = .ok (.isub, 1) := by decide +kernel
theorem dX7_readsNumber_72 : decode cX7_readsNumber 72 = .ok (.istore 7, 2) := by decide +kernel
theorem dX7_readsNumber_74 : decode cX7_readsNumber 74 = .ok (.aload_n 0, 1) := by decide +kernel
theorem dX7_readsNumber_75 : decode cX7_readsNumber 75 = .ok (.dup, 1) := by decide +kernel
theorem dX7_readsNumber_76 : decode cX7_readsNumber 76 = .ok (.getfield 134, 3) := by decide +kernel
theorem dX7_readsNumber_79 : decode cX7_readsNumber 79 = .ok (.iconst 1, 1) := by decide +kernel
theorem dX7_readsNumber_80 : decode cX7_readsNumber 80 = .ok (.iadd, 1) := by decide +kernel
theorem dX7_readsNumber_81 : decode cX7_readsNumber 81 = .ok (.putfield 134, 3) := by decide +kernel
theorem dX7_readsNumber_84 : decode cX7_readsNumber 84 = .ok (.goto (-75), 3) := by decide +kernel
theorem dX7_readsNumber_87 : decode cX7_readsNumber 87 = .ok (.iload 7, 2) := by decide +kernel
theorem dX7_readsNumber_89 : decode cX7_readsNumber 89 = .ok (.i2l, 1) := by decide +kernel
theorem dX7_readsNumber_90 : decode cX7_readsNumber 90 = .ok (.iload 4, 2) := by decide +kernel
theorem dX7_readsNumber_92 : decode cX7_readsNumber 92 = .ok (.i2l, 1) := by decide +kernel
theorem dX7_readsNumber_93 : decode cX7_readsNumber 93 = .ok (.iload 5, 2) := by decide +kernel
theorem dX7_readsNumber_95 : decode cX7_readsNumber 95 = .ok (.i2l, 1) := by decide +kernel
theorem dX7_readsNumber_96 : decode cX7_readsNumber 96 = .ok (.invokestatic 88, 3) := by decide +kernel
theorem dX7_readsNumber_99 : decode cX7_readsNumber 99 = .ok (.ifCond .ne 9, 3) := by decide +kernel
theorem dX7_readsNumber_102 : decode cX7_readsNumber 102 = .ok (.aload_n 0, 1) := by decide +kernel
theorem dX7_readsNumber_103 : decode cX7_readsNumber 103 = .ok (.iload 6, 2) := by decide +kernel
theorem dX7_readsNumber_105 : decode cX7_readsNumber 105 = .ok (.putfield 134, 3) := by decide +kernel
theorem dX7_readsNumber_108 : decode cX7_readsNumber 108 = .ok (.aload_n 0, 1) := by decide +kernel
theorem dX7_readsNumber_109 : decode cX7_readsNumber 109 = .ok (.getfield 38, 3) := by decide +kernel
theorem dX7_readsNumber_112 : decode cX7_readsNumber 112 = .ok (.iload_n 1, 1) := by decide +kernel
theorem dX7_readsNumber_113 : decode cX7_readsNumber 113 = .ok (.iload 7, 2) := by decide +kernel
theorem dX7_readsNumber_115 : decode cX7_readsNumber 115 = .ok (.iastore, 1) := by decide +kernel
theorem dX7_readsNumber_116 : decode cX7_readsNumber 116 = .ok (.aload_n 0, 1) := by decide +kernel
theorem dX7_readsNumber_117 : decode cX7_readsNumber 117 = .ok (.getfield 134, 3) := by decide +kernel
theorem dX7_readsNumber_120 : decode cX7_readsNumber 120 = .ok (.iload 6, 2) := by decide +kernel
theorem dX7_readsNumber_122 : decode cX7_readsNumber 122 = .ok (.if_icmp .le 7, 3) := by decide +kernel
theorem dX7_readsNumber_125 : decode cX7_readsNumber 125 = .ok (.iconst 1, 1) := by decide +kernel
theorem dX7_readsNumber_126 : decode cX7_readsNumber 126 = .ok (.goto 4, 3) := by decide +kernel
theorem dX7_readsNumber_129 : decode cX7_readsNumber 129 = .ok (.iconst 0, 1) := by decide +kernel
theorem dX7_readsNumber_130 : decode cX7_readsNumber 130 = .ok (.ireturn, 1) := by decide +kernel
theorem dX7_readsSign_0 : decode cX7_readsSign 0 = .ok (.aload_n 0, 1) := by decide +kernel
theorem dX7_readsSign_1 : decode cX7_readsSign 1 = .ok (.getfield 134, 3) := by decide +kernel
theorem dX7_readsSign_4 : decode cX7_readsSign 4 = .ok (.iload_n 3, 1) := by decide +kernel
theorem dX7_readsSign_5 : decode cX7_readsSign 5 = .ok (.if_icmp .ge 22, 3) := by decide +kernel
theorem dX7_readsSign_8 : decode cX7_readsSign 8 = .ok (.aload_n 0, 1) := by decide +kernel
theorem dX7_readsSign_9 : decode cX7_readsSign 9 = .ok (.getfield 74, 3) := by decide +kernel
theorem dX7_readsSign_12 : decode cX7_readsSign 12 = .ok (.iload_n 2, 1) := by decide +kernel
theorem dX7_readsSign_13 : decode cX7_readsSign 13 = .ok (.aload_n 0, 1) := by decide +kernel
theorem dX7_readsSign_14 : decode cX7_readsSign 14 = .ok (.getfield 134, 3) := by decide +kernel
theorem dX7_readsSign_17 : decode cX7_readsSign 17 = .ok (.iadd, 1) := by decide +kernel
theorem dX7_readsSign_18 : decode cX7_readsSign 18 = .ok (.iaload, 1) := by decide +kernel
theorem dX7_readsSign_19 : decode cX7_readsSign 19 = .ok (.iload_n 1, 1) := by decide +kernel
theorem dX7_readsSign_20 : decode cX7_readsSign 20 = .ok (.if_icmp .ne 7, 3) := by decide +kernel
theorem dX7_readsSign_23 : decode cX7_readsSign 23 = .ok (.iconst 1, 1) := by decide +kernel
theorem dX7_readsSign_24 : decode cX7_readsSign 24 = .ok (.goto 4, 3) := by decide +kernel
theorem dX7_readsSign_27 : decode cX7_readsSign 27 = .ok (.iconst 0, 1) := by decide +kernel
theorem dX7_readsSign_28 : decode cX7_readsSign 28 = .ok (.istore 4, 2) := by decide +kernel
theorem dX7_readsSign_30 : decode cX7_readsSign 30 = .ok (.aload_n 0, 1) := by decide +kernel
theorem dX7_readsSign_31 : decode cX7_readsSign 31 = .ok (.dup, 1) := by decide +kernel
theorem dX7_readsSign_32 : decode cX7_readsSign 32 = .ok (.getfield 134, 3) := by decide +kernel
theorem dX7_readsSign_35 : decode cX7_readsSign 35 = .ok (.iload 4, 2) := by decide +kernel
theorem dX7_readsSign_37 : decode cX7_readsSign 37 = .ok (.ifCond .eq 7, 3) := by decide +kernel
theorem dX7_readsSign_40 : decode cX7_readsSign 40 = .ok (.iconst 1, 1) := by decide +kernel
theorem dX7_readsSign_41 : decode cX7_readsSign 41 = .ok (.goto 4, 3) := by decide +kernel
theorem dX7_readsSign_44 : decode cX7_readsSign 44 = .ok (.iconst 0, 1) := by decide +kernel
theorem dX7_readsSign_45 : decode cX7_readsSign 45 = .ok (.iadd, 1) := by decide +kernel
theorem dX7_readsSign_46 : decode cX7_readsSign 46 = .ok (.putfield 134, 3) := by decide +kernel
theorem dX7_readsSign_49 : decode cX7_readsSign 49 = .ok (.iload 4, 2) := by decide +kernel
theorem dX7_readsSign_51 : decode cX7_readsSign 51 = .ok (.ireturn, 1) := by decide +kernel
theorem dX7_readsItem_0 : decode cX7_readsItem 0 = .ok (.aload_n 0, 1) := by decide +kernel
theorem dX7_readsItem_1 : decode cX7_readsItem 1 = .ok (.getfield 134, 3) := by decide +kernel
theorem dX7_readsItem_4 : decode cX7_readsItem 4 = .ok (.iload_n 2, 1) := by decide +kernel
theorem dX7_readsItem_5 : decode cX7_readsItem 5 = .ok (.if_icmp .ge 20, 3) := by decide +kernel
theorem dX7_readsItem_8 : decode cX7_readsItem 8 = .ok (.aload_n 0, 1) := by decide +kernel
theorem dX7_readsItem_9 : decode cX7_readsItem 9 = .ok (.getfield 74, 3) := by decide +kernel
theorem dX7_readsItem_12 : decode cX7_readsItem 12 = .ok (.iload_n 1, 1) := by decide +kernel
theorem dX7_readsItem_13 : decode cX7_readsItem 13 = .ok (.aload_n 0, 1) := by decide +kernel
theorem dX7_readsItem_14 : decode cX7_readsItem 14 = .ok (.getfield 134, 3) := by decide +kernel
theorem dX7_readsItem_17 : decode cX7_readsItem 17 = .ok (.iadd, 1) := by decide +kernel
theorem dX7_readsItem_18 : decode cX7_readsItem 18 = .ok (.iaload, 1) := by decide +kernel
theorem dX7_readsItem_19 : decode cX7_readsItem 19 = .ok (.invokestatic 141, 3) := by decide +kernel
theorem dX7_readsItem_22 : decode cX7_readsItem 22 = .ok (.goto 4, 3) := by decide +kernel
theorem dX7_readsItem_25 : decode cX7_readsItem 25 = .ok (.iconst (-1), 1) := by decide +kernel
theorem dX7_readsItem_26 : decode cX7_readsItem 26 = .ok (.istore_n 3, 1) := by decide +kernel
theorem dX7_readsItem_27 : decode cX7_readsItem 27 = .ok (.iconst 0, 1) := by decide +kernel
theorem dX7_readsItem_28 : decode cX7_readsItem 28 = .ok (.istore 4, 2) := by decide +kernel
theorem dX7_readsItem_30 : decode cX7_readsItem 30 = .ok (.iconst 0, 1) := by decide +kernel
theorem dX7_readsItem_31 : decode cX7_readsItem 31 = .ok (.istore 5, 2) := by decide +kernel
theorem dX7_readsItem_33 : decode cX7_readsItem 33 = .ok (.iload 5, 2) := by decide +kernel
theorem dX7_readsItem_35 : decode cX7_readsItem 35 = .ok (.aload_n 0, 1) := by decide +kernel
theorem dX7_readsItem_36 : decode cX7_readsItem 36 = .ok (.getfield 144, 3) := by decide +kernel
theorem dX7_readsItem_39 : decode cX7_readsItem 39 = .ok (.if_icmp .ge 30, 3) := by decide +kernel
theorem dX7_readsItem_42 : decode cX7_readsItem 42 = .ok (.iload 4, 2) := by decide +kernel
theorem dX7_readsItem_44 : decode cX7_readsItem 44 = .ok (.aload_n 0, 1) := by decide +kernel
theorem dX7_readsItem_45 : decode cX7_readsItem 45 = .ok (.getfield 35, 3) := by decide +kernel
theorem dX7_readsItem_48 : decode cX7_readsItem 48 = .ok (.iload 5, 2) := by decide +kernel
theorem dX7_readsItem_50 : decode cX7_readsItem 50 = .ok (.iaload, 1) := by decide +kernel
theorem dX7_readsItem_51 : decode cX7_readsItem 51 = .ok (.iconst 3, 1) := by decide +kernel
theorem dX7_readsItem_52 : decode cX7_readsItem 52 = .ok (.if_icmp .ne 7, 3) := by decide +kernel
theorem dX7_readsItem_55 : decode cX7_readsItem 55 = .ok (.iconst 1, 1) := by decide +kernel
theorem dX7_readsItem_56 : decode cX7_readsItem 56 = .ok (.goto 4, 3) := by decide +kernel
theorem dX7_readsItem_59 : decode cX7_readsItem 59 = .ok (.iconst 0, 1) := by decide +kernel
theorem dX7_readsItem_60 : decode cX7_readsItem 60 = .ok (.iadd, 1) := by decide +kernel
theorem dX7_readsItem_61 : decode cX7_readsItem 61 = .ok (.istore 4, 2) := by decide +kernel
theorem dX7_readsItem_63 : decode cX7_readsItem 63 = .ok (.iinc 5 1, 3) := by decide +kernel
theorem dX7_readsItem_66 : decode cX7_readsItem 66 = .ok (.goto (-33), 3) := by decide +kernel
theorem dX7_readsItem_69 : decode cX7_readsItem 69 = .ok (.iload_n 3, 1) := by decide +kernel
theorem dX7_readsItem_70 : decode cX7_readsItem 70 = .ok (.iconst 3, 1) := by decide +kernel
theorem dX7_readsItem_71 : decode cX7_readsItem 71 = .ok (.if_icmp .ne 18, 3) := by decide +kernel
theorem dX7_readsItem_74 : decode cX7_readsItem 74 = .ok (.iload 4, 2) := by decide +kernel
theorem dX7_readsItem_76 : decode cX7_readsItem 76 = .ok (.bipush 10, 2) := by decide +kernel
theorem dX7_readsItem_78 : decode cX7_readsItem 78 = .ok (.if_icmp .ge 7, 3) := by decide +kernel
theorem dX7_readsItem_81 : decode cX7_readsItem 81 = .ok (.iconst 1, 1) := by decide +kernel
theorem dX7_readsItem_82 : decode cX7_readsItem 82 = .ok (.goto 23, 3) := by decide +kernel
theorem dX7_readsItem_85 : decode cX7_readsItem 85 = .ok (.iconst 0, 1) := by decide +kernel
theorem dX7_readsItem_86 : decode cX7_readsItem 86 = .ok (.goto 19, 3) := by decide +kernel
theorem dX7_readsItem_89 : decode cX7_readsItem 89 = .ok (.aload_n 0, 1) := by decide +kernel
theorem dX7_readsItem_90 : decode cX7_readsItem 90 = .ok (.getfield 144, 3) := by decide +kernel
theorem dX7_readsItem_93 : decode cX7_readsItem 93 = .ok (.iload 4, 2) := by decide +kernel
theorem dX7_readsItem_95 : decode cX7_readsItem 95 = .ok (.isub, 1) := by decide +kernel
theorem dX7_readsItem_96 : decode cX7_readsItem 96 = .ok (.iconst 5, 1) := by decide +kernel
theorem dX7_readsItem_97 : decode cX7_readsItem 97 = .ok (.if_icmp .ge 7, 3) := by decide +kernel
theorem dX7_readsItem_100 : decode cX7_readsItem 100 = .ok (.iconst 1, 1) := by decide +kernel
theorem dX7_readsItem_101 : decode cX7_readsItem 101 = .ok (.goto 4, 3) := by decide +kernel
theorem dX7_readsItem_104 : decode cX7_readsItem 104 = .ok (.iconst 0, 1) := by decide +kernel
theorem dX7_readsItem_105 : decode cX7_readsItem 105 = .ok (.istore 5, 2) := by decide +kernel
theorem dX7_readsItem_107 : decode cX7_readsItem 107 = .ok (.iload_n 3, 1) := by decide +kernel
theorem dX7_readsItem_108 : decode cX7_readsItem 108 = .ok (.ifCond .lt 8, 3) := by decide +kernel
theorem dX7_readsItem_111 : decode cX7_readsItem 111 = .ok (.iload 5, 2) := by decide +kernel
theorem dX7_readsItem_113 : decode cX7_readsItem 113 = .ok (.ifCond .ne 5, 3) := by decide +kernel
theorem dX7_readsItem_116 : decode cX7_readsItem 116 = .ok (.iconst 0, 1) := by decide +kernel
theorem dX7_readsItem_117 : decode cX7_readsItem 117 = .ok (.ireturn, 1) := by decide +kernel
theorem dX7_readsItem_118 : decode cX7_readsItem 118 = .ok (.aload_n 0, 1) := by decide +kernel
theorem dX7_readsItem_119 : decode cX7_readsItem 119 = .ok (.dup, 1) := by decide +kernel
theorem dX7_readsItem_120 : decode cX7_readsItem 120 = .ok (.getfield 134, 3) := by decide +kernel
theorem dX7_readsItem_123 : decode cX7_readsItem 123 = .ok (.iconst 1, 1) := by decide +kernel
theorem dX7_readsItem_124 : decode cX7_readsItem 124 = .ok (.iadd, 1) := by decide +kernel
theorem dX7_readsItem_125 : decode cX7_readsItem 125 = .ok (.putfield 134, 3) := by decide +kernel
theorem dX7_readsItem_128 : decode cX7_readsItem 128 = .ok (.aload_n 0, 1) := by decide +kernel
theorem dX7_readsItem_129 : decode cX7_readsItem 129 = .ok (.getfield 35, 3) := by decide +kernel
theorem dX7_readsItem_132 : decode cX7_readsItem 132 = .ok (.aload_n 0, 1) := by decide +kernel
theorem dX7_readsItem_133 : decode cX7_readsItem 133 = .ok (.getfield 144, 3) := by decide +kernel
theorem dX7_readsItem_136 : decode cX7_readsItem 136 = .ok (.iload_n 3, 1) := by decide +kernel
theorem dX7_readsItem_137 : decode cX7_readsItem 137 = .ok (.iastore, 1) := by decide +kernel
theorem dX7_readsItem_138 : decode cX7_readsItem 138 = .ok (.aload_n 0, 1) := by decide +kernel
theorem dX7_readsItem_139 : decode cX7_readsItem 139 = .ok (.iconst 3, 1) := by decide +kernel
theorem dX7_readsItem_140 : decode cX7_readsItem 140 = .ok (.aload_n 0, 1) := by decide +kernel
theorem dX7_readsItem_141 : decode cX7_readsItem 141 = .ok (.getfield 144, 3) := by decide +kernel
theorem dX7_readsItem_144 : decode cX7_readsItem 144 = .ok (.imul, 1) := by decide +kernel
theorem dX7_readsItem_145 : decode cX7_readsItem 145 = .ok (.iload_n 1, 1) := by decide +kernel
theorem dX7_readsItem_146 : decode cX7_readsItem 146 = .ok (.iload_n 2, 1) := by decide +kernel
theorem dX7_readsItem_147 : decode cX7_readsItem 147 = .ok (.iconst 0, 1) := by decide +kernel
theorem dX7_readsItem_148 : decode cX7_readsItem 148 = .ok (.bipush 60, 2) := by decide +kernel
theorem dX7_readsItem_150 : decode cX7_readsItem 150 = .ok (.invokevirtual 147, 3) := by decide +kernel
theorem dX7_readsItem_153 : decode cX7_readsItem 153 = .ok (.ifCond .eq 38, 3) := by decide +kernel
theorem dX7_readsItem_156 : decode cX7_readsItem 156 = .ok (.aload_n 0, 1) := by decide +kernel
theorem dX7_readsItem_157 : decode cX7_readsItem 157 = .ok (.bipush 44, 2) := by decide +kernel
theorem dX7_readsItem_159 : decode cX7_readsItem 159 = .ok (.iload_n 1, 1) := by decide +kernel
theorem dX7_readsItem_160 : decode cX7_readsItem 160 = .ok (.iload_n 2, 1) := by decide +kernel
theorem dX7_readsItem_161 : decode cX7_readsItem 161 = .ok (.invokevirtual 151, 3) := by decide +kernel
theorem dX7_readsItem_164 : decode cX7_readsItem 164 = .ok (.ifCond .eq 27, 3) := by decide +kernel
theorem dX7_readsItem_167 : decode cX7_readsItem 167 = .ok (.aload_n 0, 1) := by decide +kernel
theorem dX7_readsItem_168 : decode cX7_readsItem 168 = .ok (.iconst 3, 1) := by decide +kernel
theorem dX7_readsItem_169 : decode cX7_readsItem 169 = .ok (.aload_n 0, 1) := by decide +kernel
theorem dX7_readsItem_170 : decode cX7_readsItem 170 = .ok (.getfield 144, 3) := by decide +kernel
theorem dX7_readsItem_173 : decode cX7_readsItem 173 = .ok (.imul, 1) := by decide +kernel
theorem dX7_readsItem_174 : decode cX7_readsItem 174 = .ok (.iconst 1, 1) := by decide +kernel
theorem dX7_readsItem_175 : decode cX7_readsItem 175 = .ok (.iadd, 1) := by decide +kernel
theorem dX7_readsItem_176 : decode cX7_readsItem 176 = .ok (.iload_n 1, 1) := by decide +kernel
theorem dX7_readsItem_177 : decode cX7_readsItem 177 = .ok (.iload_n 2, 1) := by decide +kernel
theorem dX7_readsItem_178 : decode cX7_readsItem 178 = .ok (.iconst 0, 1) := by decide +kernel
theorem dX7_readsItem_179 : decode cX7_readsItem 179 = .ok (.bipush 60, 2) := by decide +kernel
theorem dX7_readsItem_181 : decode cX7_readsItem 181 = .ok (.invokevirtual 147, 3) := by decide +kernel
theorem dX7_readsItem_184 : decode cX7_readsItem 184 = .ok (.ifCond .eq 7, 3) := by decide +kernel
theorem dX7_readsItem_187 : decode cX7_readsItem 187 = .ok (.iconst 1, 1) := by decide +kernel
theorem dX7_readsItem_188 : decode cX7_readsItem 188 = .ok (.goto 4, 3) := by decide +kernel
theorem dX7_readsItem_191 : decode cX7_readsItem 191 = .ok (.iconst 0, 1) := by decide +kernel
theorem dX7_readsItem_192 : decode cX7_readsItem 192 = .ok (.istore 6, 2) := by decide +kernel
theorem dX7_readsItem_194 : decode cX7_readsItem 194 = .ok (.iload 6, 2) := by decide +kernel
theorem dX7_readsItem_196 : decode cX7_readsItem 196 = .ok (.ifCond .eq 66, 3) := by decide +kernel
theorem dX7_readsItem_199 : decode cX7_readsItem 199 = .ok (.aload_n 0, 1) := by decide +kernel
theorem dX7_readsItem_200 : decode cX7_readsItem 200 = .ok (.iload_n 3, 1) := by decide +kernel
theorem dX7_readsItem_201 : decode cX7_readsItem 201 = .ok (.iconst 3, 1) := by decide +kernel
theorem dX7_readsItem_202 : decode cX7_readsItem 202 = .ok (.if_icmp .ne 8, 3) := by decide +kernel
theorem dX7_readsItem_205 : decode cX7_readsItem 205 = .ok (.bipush 42, 2) := by decide +kernel
theorem dX7_readsItem_207 : decode cX7_readsItem 207 = .ok (.goto 5, 3) := by decide +kernel
theorem dX7_readsItem_210 : decode cX7_readsItem 210 = .ok (.bipush 61, 2) := by decide +kernel
theorem dX7_readsItem_212 : decode cX7_readsItem 212 = .ok (.iload_n 1, 1) := by decide +kernel
theorem dX7_readsItem_213 : decode cX7_readsItem 213 = .ok (.iload_n 2, 1) := by decide +kernel
theorem dX7_readsItem_214 : decode cX7_readsItem 214 = .ok (.invokevirtual 151, 3) := by decide +kernel
theorem dX7_readsItem_217 : decode cX7_readsItem 217 = .ok (.ifCond .eq 45, 3) := by decide +kernel
theorem dX7_readsItem_220 : decode cX7_readsItem 220 = .ok (.aload_n 0, 1) := by decide +kernel
theorem dX7_readsItem_221 : decode cX7_readsItem 221 = .ok (.iconst 3, 1) := by decide +kernel
theorem dX7_readsItem_222 : decode cX7_readsItem 222 = .ok (.aload_n 0, 1) := by decide +kernel
theorem dX7_readsItem_223 : decode cX7_readsItem 223 = .ok (.getfield 144, 3) := by decide +kernel
theorem dX7_readsItem_226 : decode cX7_readsItem 226 = .ok (.imul, 1) := by decide +kernel
theorem dX7_readsItem_227 : decode cX7_readsItem 227 = .ok (.iconst 2, 1) := by decide +kernel
theorem dX7_readsItem_228 : decode cX7_readsItem 228 = .ok (.iadd, 1) := by decide +kernel
theorem dX7_readsItem_229 : decode cX7_readsItem 229 = .ok (.iload_n 1, 1) := by decide +kernel
theorem dX7_readsItem_230 : decode cX7_readsItem 230 = .ok (.iload_n 2, 1) := by decide +kernel
theorem dX7_readsItem_231 : decode cX7_readsItem 231 = .ok (.iload_n 3, 1) := by decide +kernel
theorem dX7_readsItem_232 : decode cX7_readsItem 232 = .ok (.iconst 3, 1) := by decide +kernel
theorem dX7_readsItem_233 : decode cX7_readsItem 233 = .ok (.if_icmp .ne 7, 3) := by decide +kernel
theorem dX7_readsItem_236 : decode cX7_readsItem 236 = .ok (.iconst 1, 1) := by decide +kernel
theorem dX7_readsItem_237 : decode cX7_readsItem 237 = .ok (.goto 4, 3) := by decide +kernel
theorem dX7_readsItem_240 : decode cX7_readsItem 240 = .ok (.iconst 0, 1) := by decide +kernel
theorem dX7_readsItem_241 : decode cX7_readsItem 241 = .ok (.iload_n 3, 1) := by decide +kernel
theorem dX7_readsItem_242 : decode cX7_readsItem 242 = .ok (.iconst 3, 1) := by decide +kernel
theorem dX7_readsItem_243 : decode cX7_readsItem 243 = .ok (.if_icmp .ne 7, 3) := by decide +kernel
theorem dX7_readsItem_246 : decode cX7_readsItem 246 = .ok (.iconst 5, 1) := by decide +kernel
theorem dX7_readsItem_247 : decode cX7_readsItem 247 = .ok (.goto 5, 3) := by decide +kernel
theorem dX7_readsItem_250 : decode cX7_readsItem 250 = .ok (.bipush 50, 2) := by decide +kernel
theorem dX7_readsItem_252 : decode cX7_readsItem 252 = .ok (.invokevirtual 147, 3) := by decide +kernel
theorem dX7_readsItem_255 : decode cX7_readsItem 255 = .ok (.ifCond .eq 7, 3) := by decide +kernel
theorem dX7_readsItem_258 : decode cX7_readsItem 258 = .ok (.iconst 1, 1) := by decide +kernel
theorem dX7_readsItem_259 : decode cX7_readsItem 259 = .ok (.goto 4, 3) := by decide +kernel
theorem dX7_readsItem_262 : decode cX7_readsItem 262 = .ok (.iconst 0, 1) := by decide +kernel
theorem dX7_readsItem_263 : decode cX7_readsItem 263 = .ok (.istore 6, 2) := by decide +kernel
theorem dX7_readsItem_265 : decode cX7_readsItem 265 = .ok (.aload_n 0, 1) := by decide +kernel
theorem dX7_readsItem_266 : decode cX7_readsItem 266 = .ok (.dup, 1) := by decide +kernel
theorem dX7_readsItem_267 : decode cX7_readsItem 267 = .ok (.getfield 144, 3) := by decide +kernel
theorem dX7_readsItem_270 : decode cX7_readsItem 270 = .ok (.iload 6, 2) := by decide +kernel
theorem dX7_readsItem_272 : decode cX7_readsItem 272 = .ok (.ifCond .eq 7, 3) := by decide +kernel
theorem dX7_readsItem_275 : decode cX7_readsItem 275 = .ok (.iconst 1, 1) := by decide +kernel
theorem dX7_readsItem_276 : decode cX7_readsItem 276 = .ok (.goto 4, 3) := by decide +kernel
theorem dX7_readsItem_279 : decode cX7_readsItem 279 = .ok (.iconst 0, 1) := by decide +kernel
theorem dX7_readsItem_280 : decode cX7_readsItem 280 = .ok (.iadd, 1) := by decide +kernel
theorem dX7_readsItem_281 : decode cX7_readsItem 281 = .ok (.putfield 144, 3) := by decide +kernel
theorem dX7_readsItem_284 : decode cX7_readsItem 284 = .ok (.iload 6, 2) := by decide +kernel
theorem dX7_readsItem_286 : decode cX7_readsItem 286 = .ok (.ireturn, 1) := by decide +kernel
theorem dX7_read_0 : decode cX7_read 0 = .ok (.aload_n 0, 1) := by decide +kernel
theorem dX7_read_1 : decode cX7_read 1 = .ok (.iconst 0, 1) := by decide +kernel
theorem dX7_read_2 : decode cX7_read 2 = .ok (.putfield 134, 3) := by decide +kernel
theorem dX7_read_5 : decode cX7_read 5 = .ok (.aload_n 0, 1) := by decide +kernel
theorem dX7_read_6 : decode cX7_read 6 = .ok (.iconst 0, 1) := by decide +kernel
theorem dX7_read_7 : decode cX7_read 7 = .ok (.putfield 144, 3) := by decide +kernel
theorem dX7_read_10 : decode cX7_read 10 = .ok (.iconst 1, 1) := by decide +kernel
theorem dX7_read_11 : decode cX7_read 11 = .ok (.istore_n 3, 1) := by decide +kernel
theorem dX7_read_12 : decode cX7_read 12 = .ok (.iload_n 3, 1) := by decide +kernel
theorem dX7_read_13 : decode cX7_read 13 = .ok (.ifCond .eq 51, 3) := by decide +kernel
theorem dX7_read_16 : decode cX7_read 16 = .ok (.aload_n 0, 1) := by decide +kernel
theorem dX7_read_17 : decode cX7_read 17 = .ok (.iload_n 1, 1) := by decide +kernel
theorem dX7_read_18 : decode cX7_read 18 = .ok (.iload_n 2, 1) := by decide +kernel
theorem dX7_read_19 : decode cX7_read 19 = .ok (.invokevirtual 155, 3) := by decide +kernel
theorem dX7_read_22 : decode cX7_read 22 = .ok (.ifCond .ne 8, 3) := by decide +kernel
theorem dX7_read_25 : decode cX7_read 25 = .ok (.aload_n 0, 1) := by decide +kernel
theorem dX7_read_26 : decode cX7_read 26 = .ok (.getfield 134, 3) := by decide +kernel
theorem dX7_read_29 : decode cX7_read 29 = .ok (.ireturn, 1) := by decide +kernel
theorem dX7_read_30 : decode cX7_read 30 = .ok (.aload_n 0, 1) := by decide +kernel
theorem dX7_read_31 : decode cX7_read 31 = .ok (.getfield 134, 3) := by decide +kernel
theorem dX7_read_34 : decode cX7_read 34 = .ok (.iload_n 2, 1) := by decide +kernel
theorem dX7_read_35 : decode cX7_read 35 = .ok (.if_icmp .ge 7, 3) := by decide +kernel
theorem dX7_read_38 : decode cX7_read 38 = .ok (.iconst 1, 1) := by decide +kernel
theorem dX7_read_39 : decode cX7_read 39 = .ok (.goto 4, 3) := by decide +kernel
theorem dX7_read_42 : decode cX7_read 42 = .ok (.iconst 0, 1) := by decide +kernel
theorem dX7_read_43 : decode cX7_read 43 = .ok (.istore_n 3, 1) := by decide +kernel
theorem dX7_read_44 : decode cX7_read 44 = .ok (.iload_n 3, 1) := by decide +kernel
theorem dX7_read_45 : decode cX7_read 45 = .ok (.ifCond .eq (-33), 3) := by decide +kernel
theorem dX7_read_48 : decode cX7_read 48 = .ok (.aload_n 0, 1) := by decide +kernel
theorem dX7_read_49 : decode cX7_read 49 = .ok (.bipush 59, 2) := by decide +kernel
theorem dX7_read_51 : decode cX7_read 51 = .ok (.iload_n 1, 1) := by decide +kernel
theorem dX7_read_52 : decode cX7_read 52 = .ok (.iload_n 2, 1) := by decide +kernel
theorem dX7_read_53 : decode cX7_read 53 = .ok (.invokevirtual 151, 3) := by decide +kernel
theorem dX7_read_56 : decode cX7_read 56 = .ok (.ifCond .ne (-44), 3) := by decide +kernel
theorem dX7_read_59 : decode cX7_read 59 = .ok (.aload_n 0, 1) := by decide +kernel
theorem dX7_read_60 : decode cX7_read 60 = .ok (.getfield 134, 3) := by decide +kernel
theorem dX7_read_63 : decode cX7_read 63 = .ok (.ireturn, 1) := by decide +kernel
theorem dX7_read_64 : decode cX7_read 64 = .ok (.iconst (-1), 1) := by decide +kernel
theorem dX7_read_65 : decode cX7_read 65 = .ok (.ireturn, 1) := by decide +kernel
theorem dX7_land_0 : decode cX7_land 0 = .ok (.iload_n 1, 1) := by decide +kernel
theorem dX7_land_1 : decode cX7_land 1 = .ok (.invokestatic 158, 3) := by decide +kernel
theorem dX7_land_4 : decode cX7_land 4 = .ok (.ifCond .eq 9, 3) := by decide +kernel
theorem dX7_land_7 : decode cX7_land 7 = .ok (.aload_n 0, 1) := by decide +kernel
theorem dX7_land_8 : decode cX7_land 8 = .ok (.iconst (-1), 1) := by decide +kernel
theorem dX7_land_9 : decode cX7_land 9 = .ok (.invokevirtual 101, 3) := by decide +kernel
theorem dX7_land_12 : decode cX7_land 12 = .ok (.ireturn, 1) := by decide +kernel
theorem dX7_land_13 : decode cX7_land 13 = .ok (.aload_n 0, 1) := by decide +kernel
theorem dX7_land_14 : decode cX7_land 14 = .ok (.iload_n 1, 1) := by decide +kernel
theorem dX7_land_15 : decode cX7_land 15 = .ok (.iload_n 2, 1) := by decide +kernel
theorem dX7_land_16 : decode cX7_land 16 = .ok (.iload_n 3, 1) := by decide +kernel
theorem dX7_land_17 : decode cX7_land 17 = .ok (.iload 4, 2) := by decide +kernel
theorem dX7_land_19 : decode cX7_land 19 = .ok (.i2l, 1) := by decide +kernel
theorem dX7_land_20 : decode cX7_land 20 = .ok (.invokevirtual 162, 3) := by decide +kernel
theorem dX7_land_23 : decode cX7_land 23 = .ok (.istore 5, 2) := by decide +kernel
theorem dX7_land_25 : decode cX7_land 25 = .ok (.iload 5, 2) := by decide +kernel
theorem dX7_land_27 : decode cX7_land 27 = .ok (.ifCond .ge 6, 3) := by decide +kernel
theorem dX7_land_30 : decode cX7_land 30 = .ok (.iload 5, 2) := by decide +kernel
theorem dX7_land_32 : decode cX7_land 32 = .ok (.ireturn, 1) := by decide +kernel
theorem dX7_land_33 : decode cX7_land 33 = .ok (.aload_n 0, 1) := by decide +kernel
theorem dX7_land_34 : decode cX7_land 34 = .ok (.bipush 80, 2) := by decide +kernel
theorem dX7_land_36 : decode cX7_land 36 = .ok (.iload_n 1, 1) := by decide +kernel
theorem dX7_land_37 : decode cX7_land 37 = .ok (.imul, 1) := by decide +kernel
theorem dX7_land_38 : decode cX7_land 38 = .ok (.iload_n 3, 1) := by decide +kernel
theorem dX7_land_39 : decode cX7_land 39 = .ok (.iadd, 1) := by decide +kernel
theorem dX7_land_40 : decode cX7_land 40 = .ok (.iload 4, 2) := by decide +kernel
theorem dX7_land_42 : decode cX7_land 42 = .ok (.invokevirtual 166, 3) := by decide +kernel
theorem dX7_land_45 : decode cX7_land 45 = .ok (.istore 6, 2) := by decide +kernel
theorem dX7_land_47 : decode cX7_land 47 = .ok (.iload 6, 2) := by decide +kernel
theorem dX7_land_49 : decode cX7_land 49 = .ok (.ifCond .lt 13, 3) := by decide +kernel
theorem dX7_land_52 : decode cX7_land 52 = .ok (.aload_n 0, 1) := by decide +kernel
theorem dX7_land_53 : decode cX7_land 53 = .ok (.bipush (-100), 2) := by decide +kernel
theorem dX7_land_55 : decode cX7_land 55 = .ok (.iload 6, 2) := by decide +kernel
theorem dX7_land_57 : decode cX7_land 57 = .ok (.isub, 1) := by decide +kernel
theorem dX7_land_58 : decode cX7_land 58 = .ok (.invokevirtual 101, 3) := by decide +kernel
theorem dX7_land_61 : decode cX7_land 61 = .ok (.ireturn, 1) := by decide +kernel
theorem dX7_land_62 : decode cX7_land 62 = .ok (.aload_n 0, 1) := by decide +kernel
theorem dX7_land_63 : decode cX7_land 63 = .ok (.iconst 0, 1) := by decide +kernel
theorem dX7_land_64 : decode cX7_land 64 = .ok (.putfield 112, 3) := by decide +kernel
theorem dX7_land_67 : decode cX7_land 67 = .ok (.aload_n 0, 1) := by decide +kernel
theorem dX7_land_68 : decode cX7_land 68 = .ok (.iconst 0, 1) := by decide +kernel
theorem dX7_land_69 : decode cX7_land 69 = .ok (.putfield 115, 3) := by decide +kernel
theorem dX7_land_72 : decode cX7_land 72 = .ok (.iconst 0, 1) := by decide +kernel
theorem dX7_land_73 : decode cX7_land 73 = .ok (.istore 7, 2) := by decide +kernel
theorem dX7_land_75 : decode cX7_land 75 = .ok (.iload 7, 2) := by decide +kernel
theorem dX7_land_77 : decode cX7_land 77 = .ok (.bipush 50, 2) := by decide +kernel
theorem dX7_land_79 : decode cX7_land 79 = .ok (.if_icmp .ge 17, 3) := by decide +kernel
theorem dX7_land_82 : decode cX7_land 82 = .ok (.aload_n 0, 1) := by decide +kernel
theorem dX7_land_83 : decode cX7_land 83 = .ok (.getfield 31, 3) := by decide +kernel
theorem dX7_land_86 : decode cX7_land 86 = .ok (.iload 7, 2) := by decide +kernel
theorem dX7_land_88 : decode cX7_land 88 = .ok (.iconst 0, 1) := by decide +kernel
theorem dX7_land_89 : decode cX7_land 89 = .ok (.bastore, 1) := by decide +kernel
theorem dX7_land_90 : decode cX7_land 90 = .ok (.iinc 7 1, 3) := by decide +kernel
theorem dX7_land_93 : decode cX7_land 93 = .ok (.goto (-18), 3) := by decide +kernel
theorem dX7_land_96 : decode cX7_land 96 = .ok (.iconst 0, 1) := by decide +kernel
theorem dX7_land_97 : decode cX7_land 97 = .ok (.istore 7, 2) := by decide +kernel
theorem dX7_land_99 : decode cX7_land 99 = .ok (.iload 7, 2) := by decide +kernel
theorem dX7_land_101 : decode cX7_land 101 = .ok (.aload_n 0, 1) := by decide +kernel
theorem dX7_land_102 : decode cX7_land 102 = .ok (.getfield 144, 3) := by decide +kernel
theorem dX7_land_105 : decode cX7_land 105 = .ok (.if_icmp .ge 100, 3) := by decide +kernel
theorem dX7_land_108 : decode cX7_land 108 = .ok (.aload_n 0, 1) := by decide +kernel
theorem dX7_land_109 : decode cX7_land 109 = .ok (.getfield 35, 3) := by decide +kernel
theorem dX7_land_112 : decode cX7_land 112 = .ok (.iload 7, 2) := by decide +kernel
theorem dX7_land_114 : decode cX7_land 114 = .ok (.iaload, 1) := by decide +kernel
theorem dX7_land_115 : decode cX7_land 115 = .ok (.iconst 3, 1) := by decide +kernel
theorem dX7_land_116 : decode cX7_land 116 = .ok (.if_icmp .ne 41, 3) := by decide +kernel
theorem dX7_land_119 : decode cX7_land 119 = .ok (.aload_n 0, 1) := by decide +kernel
theorem dX7_land_120 : decode cX7_land 120 = .ok (.aload_n 0, 1) := by decide +kernel
theorem dX7_land_121 : decode cX7_land 121 = .ok (.getfield 38, 3) := by decide +kernel
theorem dX7_land_124 : decode cX7_land 124 = .ok (.iconst 3, 1) := by decide +kernel
theorem dX7_land_125 : decode cX7_land 125 = .ok (.iload 7, 2) := by decide +kernel
theorem dX7_land_127 : decode cX7_land 127 = .ok (.imul, 1) := by decide +kernel
theorem dX7_land_128 : decode cX7_land 128 = .ok (.iaload, 1) := by decide +kernel
theorem dX7_land_129 : decode cX7_land 129 = .ok (.aload_n 0, 1) := by decide +kernel
theorem dX7_land_130 : decode cX7_land 130 = .ok (.getfield 38, 3) := by decide +kernel
theorem dX7_land_133 : decode cX7_land 133 = .ok (.iconst 3, 1) := by decide +kernel
theorem dX7_land_134 : decode cX7_land 134 = .ok (.iload 7, 2) := by decide +kernel
theorem dX7_land_136 : decode cX7_land 136 = .ok (.imul, 1) := by decide +kernel
theorem dX7_land_137 : decode cX7_land 137 = .ok (.iconst 1, 1) := by decide +kernel
theorem dX7_land_138 : decode cX7_land 138 = .ok (.iadd, 1) := by decide +kernel
theorem dX7_land_139 : decode cX7_land 139 = .ok (.iaload, 1) := by decide +kernel
theorem dX7_land_140 : decode cX7_land 140 = .ok (.aload_n 0, 1) := by decide +kernel
theorem dX7_land_141 : decode cX7_land 141 = .ok (.getfield 38, 3) := by decide +kernel
theorem dX7_land_144 : decode cX7_land 144 = .ok (.iconst 3, 1) := by decide +kernel
theorem dX7_land_145 : decode cX7_land 145 = .ok (.iload 7, 2) := by decide +kernel
theorem dX7_land_147 : decode cX7_land 147 = .ok (.imul, 1) := by decide +kernel
theorem dX7_land_148 : decode cX7_land 148 = .ok (.iconst 2, 1) := by decide +kernel
theorem dX7_land_149 : decode cX7_land 149 = .ok (.iadd, 1) := by decide +kernel
theorem dX7_land_150 : decode cX7_land 150 = .ok (.iaload, 1) := by decide +kernel
theorem dX7_land_151 : decode cX7_land 151 = .ok (.invokevirtual 124, 3) := by decide +kernel
theorem dX7_land_154 : decode cX7_land 154 = .ok (.goto 45, 3) := by decide +kernel
theorem dX7_land_157 : decode cX7_land 157 = .ok (.aload_n 0, 1) := by decide +kernel
theorem dX7_land_158 : decode cX7_land 158 = .ok (.aload_n 0, 1) := by decide +kernel
theorem dX7_land_159 : decode cX7_land 159 = .ok (.getfield 35, 3) := by decide +kernel
theorem dX7_land_162 : decode cX7_land 162 = .ok (.iload 7, 2) := by decide +kernel
theorem dX7_land_164 : decode cX7_land 164 = .ok (.iaload, 1) := by decide +kernel
theorem dX7_land_165 : decode cX7_land 165 = .ok (.aload_n 0, 1) := by decide +kernel
theorem dX7_land_166 : decode cX7_land 166 = .ok (.getfield 38, 3) := by decide +kernel
theorem dX7_land_169 : decode cX7_land 169 = .ok (.iconst 3, 1) := by decide +kernel
theorem dX7_land_170 : decode cX7_land 170 = .ok (.iload 7, 2) := by decide +kernel
theorem dX7_land_172 : decode cX7_land 172 = .ok (.imul, 1) := by decide +kernel
theorem dX7_land_173 : decode cX7_land 173 = .ok (.iaload, 1) := by decide +kernel
theorem dX7_land_174 : decode cX7_land 174 = .ok (.aload_n 0, 1) := by decide +kernel
theorem dX7_land_175 : decode cX7_land 175 = .ok (.getfield 38, 3) := by decide +kernel
theorem dX7_land_178 : decode cX7_land 178 = .ok (.iconst 3, 1) := by decide +kernel
theorem dX7_land_179 : decode cX7_land 179 = .ok (.iload 7, 2) := by decide +kernel
theorem dX7_land_181 : decode cX7_land 181 = .ok (.imul, 1) := by decide +kernel
theorem dX7_land_182 : decode cX7_land 182 = .ok (.iconst 1, 1) := by decide +kernel
theorem dX7_land_183 : decode cX7_land 183 = .ok (.iadd, 1) := by decide +kernel
theorem dX7_land_184 : decode cX7_land 184 = .ok (.iaload, 1) := by decide +kernel
theorem dX7_land_185 : decode cX7_land 185 = .ok (.aload_n 0, 1) := by decide +kernel
theorem dX7_land_186 : decode cX7_land 186 = .ok (.getfield 38, 3) := by decide +kernel
theorem dX7_land_189 : decode cX7_land 189 = .ok (.iconst 3, 1) := by decide +kernel
theorem dX7_land_190 : decode cX7_land 190 = .ok (.iload 7, 2) := by decide +kernel
theorem dX7_land_192 : decode cX7_land 192 = .ok (.imul, 1) := by decide +kernel
theorem dX7_land_193 : decode cX7_land 193 = .ok (.iconst 2, 1) := by decide +kernel
theorem dX7_land_194 : decode cX7_land 194 = .ok (.iadd, 1) := by decide +kernel
theorem dX7_land_195 : decode cX7_land 195 = .ok (.iaload, 1) := by decide +kernel
theorem dX7_land_196 : decode cX7_land 196 = .ok (.invokevirtual 130, 3) := by decide +kernel
theorem dX7_land_199 : decode cX7_land 199 = .ok (.iinc 7 1, 3) := by decide +kernel
theorem dX7_land_202 : decode cX7_land 202 = .ok (.goto (-103), 3) := by decide +kernel
theorem dX7_land_205 : decode cX7_land 205 = .ok (.aload_n 0, 1) := by decide +kernel
theorem dX7_land_206 : decode cX7_land 206 = .ok (.aload_n 0, 1) := by decide +kernel
theorem dX7_land_207 : decode cX7_land 207 = .ok (.getfield 144, 3) := by decide +kernel
theorem dX7_land_210 : decode cX7_land 210 = .ok (.invokevirtual 101, 3) := by decide +kernel
theorem dX7_land_213 : decode cX7_land 213 = .ok (.ireturn, 1) := by decide +kernel
theorem dX7_ofHome_0 : decode cX7_ofHome 0 = .ok (.aload_n 0, 1) := by decide +kernel
theorem dX7_ofHome_1 : decode cX7_ofHome 1 = .ok (.iload_n 1, 1) := by decide +kernel
theorem dX7_ofHome_2 : decode cX7_ofHome 2 = .ok (.invokevirtual 170, 3) := by decide +kernel
theorem dX7_ofHome_5 : decode cX7_ofHome 5 = .ok (.ifCond .eq 5, 3) := by decide +kernel
theorem dX7_ofHome_8 : decode cX7_ofHome 8 = .ok (.iconst (-1), 1) := by decide +kernel
theorem dX7_ofHome_9 : decode cX7_ofHome 9 = .ok (.ireturn, 1) := by decide +kernel
theorem dX7_ofHome_10 : decode cX7_ofHome 10 = .ok (.iload_n 2, 1) := by decide +kernel
theorem dX7_ofHome_11 : decode cX7_ofHome 11 = .ok (.ifCond .ne 12, 3) := by decide +kernel
theorem dX7_ofHome_14 : decode cX7_ofHome 14 = .ok (.aload_n 0, 1) := by decide +kernel
theorem dX7_ofHome_15 : decode cX7_ofHome 15 = .ok (.getfield 7, 3) := by decide +kernel
theorem dX7_ofHome_18 : decode cX7_ofHome 18 = .ok (.iload_n 1, 1) := by decide +kernel
theorem dX7_ofHome_19 : decode cX7_ofHome 19 = .ok (.iaload, 1) := by decide +kernel
theorem dX7_ofHome_20 : decode cX7_ofHome 20 = .ok (.goto 33, 3) := by decide +kernel
theorem dX7_ofHome_23 : decode cX7_ofHome 23 = .ok (.iload_n 2, 1) := by decide +kernel
theorem dX7_ofHome_24 : decode cX7_ofHome 24 = .ok (.iconst 1, 1) := by decide +kernel
theorem dX7_ofHome_25 : decode cX7_ofHome 25 = .ok (.if_icmp .ne 12, 3) := by decide +kernel
theorem dX7_ofHome_28 : decode cX7_ofHome 28 = .ok (.aload_n 0, 1) := by decide +kernel
theorem dX7_ofHome_29 : decode cX7_ofHome 29 = .ok (.getfield 13, 3) := by decide +kernel
theorem dX7_ofHome_32 : decode cX7_ofHome 32 = .ok (.iload_n 1, 1) := by decide +kernel
theorem dX7_ofHome_33 : decode cX7_ofHome 33 = .ok (.iaload, 1) := by decide +kernel
theorem dX7_ofHome_34 : decode cX7_ofHome 34 = .ok (.goto 19, 3) := by decide +kernel
theorem dX7_ofHome_37 : decode cX7_ofHome 37 = .ok (.iload_n 2, 1) := by decide +kernel
theorem dX7_ofHome_38 : decode cX7_ofHome 38 = .ok (.iconst 2, 1) := by decide +kernel
theorem dX7_ofHome_39 : decode cX7_ofHome 39 = .ok (.if_icmp .ne 12, 3) := by decide +kernel
theorem dX7_ofHome_42 : decode cX7_ofHome 42 = .ok (.aload_n 0, 1) := by decide +kernel
theorem dX7_ofHome_43 : decode cX7_ofHome 43 = .ok (.getfield 16, 3) := by decide +kernel
theorem dX7_ofHome_46 : decode cX7_ofHome 46 = .ok (.iload_n 1, 1) := by decide +kernel
theorem dX7_ofHome_47 : decode cX7_ofHome 47 = .ok (.iaload, 1) := by decide +kernel
theorem dX7_ofHome_48 : decode cX7_ofHome 48 = .ok (.goto 5, 3) := by decide +kernel
theorem dX7_ofHome_51 : decode cX7_ofHome 51 = .ok (.bipush (-2), 2) := by decide +kernel
theorem dX7_ofHome_53 : decode cX7_ofHome 53 = .ok (.ireturn, 1) := by decide +kernel
theorem dX7_ofChurch_0 : decode cX7_ofChurch 0 = .ok (.aload_n 0, 1) := by decide +kernel
theorem dX7_ofChurch_1 : decode cX7_ofChurch 1 = .ok (.iload_n 1, 1) := by decide +kernel
theorem dX7_ofChurch_2 : decode cX7_ofChurch 2 = .ok (.invokevirtual 173, 3) := by decide +kernel
theorem dX7_ofChurch_5 : decode cX7_ofChurch 5 = .ok (.ifCond .eq 5, 3) := by decide +kernel
theorem dX7_ofChurch_8 : decode cX7_ofChurch 8 = .ok (.iconst (-1), 1) := by decide +kernel
theorem dX7_ofChurch_9 : decode cX7_ofChurch 9 = .ok (.ireturn, 1) := by decide +kernel
theorem dX7_ofChurch_10 : decode cX7_ofChurch 10 = .ok (.iload_n 2, 1) := by decide +kernel
theorem dX7_ofChurch_11 : decode cX7_ofChurch 11 = .ok (.ifCond .ne 12, 3) := by decide +kernel
theorem dX7_ofChurch_14 : decode cX7_ofChurch 14 = .ok (.aload_n 0, 1) := by decide +kernel
theorem dX7_ofChurch_15 : decode cX7_ofChurch 15 = .ok (.getfield 19, 3) := by decide +kernel
theorem dX7_ofChurch_18 : decode cX7_ofChurch 18 = .ok (.iload_n 1, 1) := by decide +kernel
theorem dX7_ofChurch_19 : decode cX7_ofChurch 19 = .ok (.iaload, 1) := by decide +kernel
theorem dX7_ofChurch_20 : decode cX7_ofChurch 20 = .ok (.goto 47, 3) := by decide +kernel
theorem dX7_ofChurch_23 : decode cX7_ofChurch 23 = .ok (.iload_n 2, 1) := by decide +kernel
theorem dX7_ofChurch_24 : decode cX7_ofChurch 24 = .ok (.iconst 1, 1) := by decide +kernel
theorem dX7_ofChurch_25 : decode cX7_ofChurch 25 = .ok (.if_icmp .ne 12, 3) := by decide +kernel
theorem dX7_ofChurch_28 : decode cX7_ofChurch 28 = .ok (.aload_n 0, 1) := by decide +kernel
theorem dX7_ofChurch_29 : decode cX7_ofChurch 29 = .ok (.getfield 22, 3) := by decide +kernel
theorem dX7_ofChurch_32 : decode cX7_ofChurch 32 = .ok (.iload_n 1, 1) := by decide +kernel
theorem dX7_ofChurch_33 : decode cX7_ofChurch 33 = .ok (.iaload, 1) := by decide +kernel
theorem dX7_ofChurch_34 : decode cX7_ofChurch 34 = .ok (.goto 33, 3) := by decide +kernel
theorem dX7_ofChurch_37 : decode cX7_ofChurch 37 = .ok (.iload_n 2, 1) := by decide +kernel
theorem dX7_ofChurch_38 : decode cX7_ofChurch 38 = .ok (.iconst 2, 1) := by decide +kernel
theorem dX7_ofChurch_39 : decode cX7_ofChurch 39 = .ok (.if_icmp .ne 12, 3) := by decide +kernel
theorem dX7_ofChurch_42 : decode cX7_ofChurch 42 = .ok (.aload_n 0, 1) := by decide +kernel
theorem dX7_ofChurch_43 : decode cX7_ofChurch 43 = .ok (.getfield 25, 3) := by decide +kernel
theorem dX7_ofChurch_46 : decode cX7_ofChurch 46 = .ok (.iload_n 1, 1) := by decide +kernel
theorem dX7_ofChurch_47 : decode cX7_ofChurch 47 = .ok (.iaload, 1) := by decide +kernel
theorem dX7_ofChurch_48 : decode cX7_ofChurch 48 = .ok (.goto 19, 3) := by decide +kernel
theorem dX7_ofChurch_51 : decode cX7_ofChurch 51 = .ok (.iload_n 2, 1) := by decide +kernel
theorem dX7_ofChurch_52 : decode cX7_ofChurch 52 = .ok (.iconst 3, 1) := by decide +kernel
theorem dX7_ofChurch_53 : decode cX7_ofChurch 53 = .ok (.if_icmp .ne 12, 3) := by decide +kernel
theorem dX7_ofChurch_56 : decode cX7_ofChurch 56 = .ok (.aload_n 0, 1) := by decide +kernel
theorem dX7_ofChurch_57 : decode cX7_ofChurch 57 = .ok (.getfield 28, 3) := by decide +kernel
theorem dX7_ofChurch_60 : decode cX7_ofChurch 60 = .ok (.iload_n 1, 1) := by decide +kernel
theorem dX7_ofChurch_61 : decode cX7_ofChurch 61 = .ok (.iaload, 1) := by decide +kernel
theorem dX7_ofChurch_62 : decode cX7_ofChurch 62 = .ok (.goto 5, 3) := by decide +kernel
theorem dX7_ofChurch_65 : decode cX7_ofChurch 65 = .ok (.bipush (-2), 2) := by decide +kernel
theorem dX7_ofChurch_67 : decode cX7_ofChurch 67 = .ok (.ireturn, 1) := by decide +kernel
theorem dX7_bar_0 : decode cX7_bar 0 = .ok (.aload_n 0, 1) := by decide +kernel
theorem dX7_bar_1 : decode cX7_bar 1 = .ok (.iload_n 1, 1) := by decide +kernel
theorem dX7_bar_2 : decode cX7_bar 2 = .ok (.invokevirtual 170, 3) := by decide +kernel
theorem dX7_bar_5 : decode cX7_bar 5 = .ok (.ifCond .ne 11, 3) := by decide +kernel
theorem dX7_bar_8 : decode cX7_bar 8 = .ok (.aload_n 0, 1) := by decide +kernel
theorem dX7_bar_9 : decode cX7_bar 9 = .ok (.iload_n 2, 1) := by decide +kernel
theorem dX7_bar_10 : decode cX7_bar 10 = .ok (.invokevirtual 173, 3) := by decide +kernel
theorem dX7_bar_13 : decode cX7_bar 13 = .ok (.ifCond .eq 5, 3) := by decide +kernel
theorem dX7_bar_16 : decode cX7_bar 16 = .ok (.iconst (-1), 1) := by decide +kernel
theorem dX7_bar_17 : decode cX7_bar 17 = .ok (.ireturn, 1) := by decide +kernel
theorem dX7_bar_18 : decode cX7_bar 18 = .ok (.aload_n 0, 1) := by decide +kernel
theorem dX7_bar_19 : decode cX7_bar 19 = .ok (.getfield 31, 3) := by decide +kernel
theorem dX7_bar_22 : decode cX7_bar 22 = .ok (.iconst 5, 1) := by decide +kernel
theorem dX7_bar_23 : decode cX7_bar 23 = .ok (.iload_n 1, 1) := by decide +kernel
theorem dX7_bar_24 : decode cX7_bar 24 = .ok (.imul, 1) := by decide +kernel
theorem dX7_bar_25 : decode cX7_bar 25 = .ok (.iload_n 2, 1) := by decide +kernel
theorem dX7_bar_26 : decode cX7_bar 26 = .ok (.iadd, 1) := by decide +kernel
theorem dX7_bar_27 : decode cX7_bar 27 = .ok (.baload, 1) := by decide +kernel
theorem dX7_bar_28 : decode cX7_bar 28 = .ok (.istore 4, 2) := by decide +kernel
theorem dX7_bar_30 : decode cX7_bar 30 = .ok (.aload_n 0, 1) := by decide +kernel
theorem dX7_bar_31 : decode cX7_bar 31 = .ok (.getfield 31, 3) := by decide +kernel
theorem dX7_bar_34 : decode cX7_bar 34 = .ok (.iconst 5, 1) := by decide +kernel
theorem dX7_bar_35 : decode cX7_bar 35 = .ok (.iload_n 1, 1) := by decide +kernel
theorem dX7_bar_36 : decode cX7_bar 36 = .ok (.imul, 1) := by decide +kernel
theorem dX7_bar_37 : decode cX7_bar 37 = .ok (.iload_n 2, 1) := by decide +kernel
theorem dX7_bar_38 : decode cX7_bar 38 = .ok (.iadd, 1) := by decide +kernel
theorem dX7_bar_39 : decode cX7_bar 39 = .ok (.iload_n 3, 1) := by decide +kernel
theorem dX7_bar_40 : decode cX7_bar 40 = .ok (.bastore, 1) := by decide +kernel
theorem dX7_bar_41 : decode cX7_bar 41 = .ok (.iload 4, 2) := by decide +kernel
theorem dX7_bar_43 : decode cX7_bar 43 = .ok (.iload_n 3, 1) := by decide +kernel
theorem dX7_bar_44 : decode cX7_bar 44 = .ok (.if_icmp .ne 7, 3) := by decide +kernel
theorem dX7_bar_47 : decode cX7_bar 47 = .ok (.iconst 0, 1) := by decide +kernel
theorem dX7_bar_48 : decode cX7_bar 48 = .ok (.goto 4, 3) := by decide +kernel
theorem dX7_bar_51 : decode cX7_bar 51 = .ok (.iconst 1, 1) := by decide +kernel
theorem dX7_bar_52 : decode cX7_bar 52 = .ok (.ireturn, 1) := by decide +kernel
theorem dX7_seats_0 : decode cX7_seats 0 = .ok (.aload_n 0, 1) := by decide +kernel
theorem dX7_seats_1 : decode cX7_seats 1 = .ok (.iload_n 1, 1) := by decide +kernel
theorem dX7_seats_2 : decode cX7_seats 2 = .ok (.invokevirtual 173, 3) := by decide +kernel
theorem dX7_seats_5 : decode cX7_seats 5 = .ok (.ifCond .eq 5, 3) := by decide +kernel
theorem dX7_seats_8 : decode cX7_seats 8 = .ok (.iconst (-1), 1) := by decide +kernel
theorem dX7_seats_9 : decode cX7_seats 9 = .ok (.ireturn, 1) := by decide +kernel
theorem dX7_seats_10 : decode cX7_seats 10 = .ok (.iload_n 2, 1) := by decide +kernel
theorem dX7_seats_11 : decode cX7_seats 11 = .ok (.i2l, 1) := by decide +kernel
theorem dX7_seats_12 : decode cX7_seats 12 = .ok (.lconst 0, 1) := by decide +kernel
theorem dX7_seats_13 : decode cX7_seats 13 = .ok (.ldc2_w 128, 3) := by decide +kernel
theorem dX7_seats_16 : decode cX7_seats 16 = .ok (.invokestatic 88, 3) := by decide +kernel
theorem dX7_seats_19 : decode cX7_seats 19 = .ok (.ifCond .ne 6, 3) := by decide +kernel
theorem dX7_seats_22 : decode cX7_seats 22 = .ok (.bipush (-2), 2) := by decide +kernel
theorem dX7_seats_24 : decode cX7_seats 24 = .ok (.ireturn, 1) := by decide +kernel
theorem dX7_seats_25 : decode cX7_seats 25 = .ok (.aload_n 0, 1) := by decide +kernel
theorem dX7_seats_26 : decode cX7_seats 26 = .ok (.getfield 28, 3) := by decide +kernel
theorem dX7_seats_29 : decode cX7_seats 29 = .ok (.iload_n 1, 1) := by decide +kernel
theorem dX7_seats_30 : decode cX7_seats 30 = .ok (.iaload, 1) := by decide +kernel
theorem dX7_seats_31 : decode cX7_seats 31 = .ok (.istore_n 3, 1) := by decide +kernel
theorem dX7_seats_32 : decode cX7_seats 32 = .ok (.aload_n 0, 1) := by decide +kernel
theorem dX7_seats_33 : decode cX7_seats 33 = .ok (.getfield 28, 3) := by decide +kernel
theorem dX7_seats_36 : decode cX7_seats 36 = .ok (.iload_n 1, 1) := by decide +kernel
theorem dX7_seats_37 : decode cX7_seats 37 = .ok (.iload_n 2, 1) := by decide +kernel
theorem dX7_seats_38 : decode cX7_seats 38 = .ok (.iastore, 1) := by decide +kernel
theorem dX7_seats_39 : decode cX7_seats 39 = .ok (.iload_n 3, 1) := by decide +kernel
theorem dX7_seats_40 : decode cX7_seats 40 = .ok (.ireturn, 1) := by decide +kernel
theorem dX7_toll_0 : decode cX7_toll 0 = .ok (.iload_n 1, 1) := by decide +kernel
theorem dX7_toll_1 : decode cX7_toll 1 = .ok (.i2l, 1) := by decide +kernel
theorem dX7_toll_2 : decode cX7_toll 2 = .ok (.lconst 0, 1) := by decide +kernel
theorem dX7_toll_3 : decode cX7_toll 3 = .ok (.ldc2_w 176, 3) := by decide +kernel
theorem dX7_toll_6 : decode cX7_toll 6 = .ok (.invokestatic 88, 3) := by decide +kernel
theorem dX7_toll_9 : decode cX7_toll 9 = .ok (.ifCond .ne 6, 3) := by decide +kernel
theorem dX7_toll_12 : decode cX7_toll 12 = .ok (.bipush (-2), 2) := by decide +kernel
theorem dX7_toll_14 : decode cX7_toll 14 = .ok (.ireturn, 1) := by decide +kernel
theorem dX7_toll_15 : decode cX7_toll 15 = .ok (.aload_n 0, 1) := by decide +kernel
theorem dX7_toll_16 : decode cX7_toll 16 = .ok (.getfield 80, 3) := by decide +kernel
theorem dX7_toll_19 : decode cX7_toll 19 = .ok (.istore_n 2, 1) := by decide +kernel
theorem dX7_toll_20 : decode cX7_toll 20 = .ok (.aload_n 0, 1) := by decide +kernel
theorem dX7_toll_21 : decode cX7_toll 21 = .ok (.iload_n 1, 1) := by decide +kernel
theorem dX7_toll_22 : decode cX7_toll 22 = .ok (.putfield 80, 3) := by decide +kernel
theorem dX7_toll_25 : decode cX7_toll 25 = .ok (.iload_n 2, 1) := by decide +kernel
theorem dX7_toll_26 : decode cX7_toll 26 = .ok (.ireturn, 1) := by decide +kernel
theorem dX7_farOf_0 : decode cX7_farOf 0 = .ok (.iload_n 1, 1) := by decide +kernel
theorem dX7_farOf_1 : decode cX7_farOf 1 = .ok (.aload_n 0, 1) := by decide +kernel
theorem dX7_farOf_2 : decode cX7_farOf 2 = .ok (.getfield 22, 3) := by decide +kernel
theorem dX7_farOf_5 : decode cX7_farOf 5 = .ok (.iload_n 3, 1) := by decide +kernel
theorem dX7_farOf_6 : decode cX7_farOf 6 = .ok (.iaload, 1) := by decide +kernel
theorem dX7_farOf_7 : decode cX7_farOf 7 = .ok (.isub, 1) := by decide +kernel
theorem dX7_farOf_8 : decode cX7_farOf 8 = .ok (.invokestatic 178, 3) := by decide +kernel
theorem dX7_farOf_11 : decode cX7_farOf 11 = .ok (.istore 4, 2) := by decide +kernel
theorem dX7_farOf_13 : decode cX7_farOf 13 = .ok (.iload_n 2, 1) := by decide +kernel
theorem dX7_farOf_14 : decode cX7_farOf 14 = .ok (.aload_n 0, 1) := by decide +kernel
theorem dX7_farOf_15 : decode cX7_farOf 15 = .ok (.getfield 25, 3) := by decide +kernel
theorem dX7_farOf_18 : decode cX7_farOf 18 = .ok (.iload_n 3, 1) := by decide +kernel
theorem dX7_farOf_19 : decode cX7_farOf 19 = .ok (.iaload, 1) := by decide +kernel
theorem dX7_farOf_20 : decode cX7_farOf 20 = .ok (.isub, 1) := by decide +kernel
theorem dX7_farOf_21 : decode cX7_farOf 21 = .ok (.invokestatic 178, 3) := by decide +kernel
theorem dX7_farOf_24 : decode cX7_farOf 24 = .ok (.istore 5, 2) := by decide +kernel
theorem dX7_farOf_26 : decode cX7_farOf 26 = .ok (.aload_n 0, 1) := by decide +kernel
theorem dX7_farOf_27 : decode cX7_farOf 27 = .ok (.getfield 19, 3) := by decide +kernel
theorem dX7_farOf_30 : decode cX7_farOf 30 = .ok (.iload_n 3, 1) := by decide +kernel
theorem dX7_farOf_31 : decode cX7_farOf 31 = .ok (.iaload, 1) := by decide +kernel
theorem dX7_farOf_32 : decode cX7_farOf 32 = .ok (.ifCond .ne 15, 3) := by decide +kernel
theorem dX7_farOf_35 : decode cX7_farOf 35 = .ok (.iload 4, 2) := by decide +kernel
theorem dX7_farOf_37 : decode cX7_farOf 37 = .ok (.iload 4, 2) := by decide +kernel
theorem dX7_farOf_39 : decode cX7_farOf 39 = .ok (.imul, 1) := by decide +kernel
theorem dX7_farOf_40 : decode cX7_farOf 40 = .ok (.iload 5, 2) := by decide +kernel
theorem dX7_farOf_42 : decode cX7_farOf 42 = .ok (.iload 5, 2) := by decide +kernel
theorem dX7_farOf_44 : decode cX7_farOf 44 = .ok (.imul, 1) := by decide +kernel
theorem dX7_farOf_45 : decode cX7_farOf 45 = .ok (.iadd, 1) := by decide +kernel
theorem dX7_farOf_46 : decode cX7_farOf 46 = .ok (.ireturn, 1) := by decide +kernel
theorem dX7_farOf_47 : decode cX7_farOf 47 = .ok (.aload_n 0, 1) := by decide +kernel
theorem dX7_farOf_48 : decode cX7_farOf 48 = .ok (.getfield 19, 3) := by decide +kernel
theorem dX7_farOf_51 : decode cX7_farOf 51 = .ok (.iload_n 3, 1) := by decide +kernel
theorem dX7_farOf_52 : decode cX7_farOf 52 = .ok (.iaload, 1) := by decide +kernel
theorem dX7_farOf_53 : decode cX7_farOf 53 = .ok (.iconst 2, 1) := by decide +kernel
theorem dX7_farOf_54 : decode cX7_farOf 54 = .ok (.if_icmp .ne 37, 3) := by decide +kernel
theorem dX7_farOf_57 : decode cX7_farOf 57 = .ok (.iload_n 1, 1) := by decide +kernel
theorem dX7_farOf_58 : decode cX7_farOf 58 = .ok (.bipush 30, 2) := by decide +kernel
theorem dX7_farOf_60 : decode cX7_farOf 60 = .ok (.if_icmp .ge 7, 3) := by decide +kernel
theorem dX7_farOf_63 : decode cX7_farOf 63 = .ok (.iconst 1, 1) := by decide +kernel
theorem dX7_farOf_64 : decode cX7_farOf 64 = .ok (.goto 4, 3) := by decide +kernel
theorem dX7_farOf_67 : decode cX7_farOf 67 = .ok (.iconst 0, 1) := by decide +kernel
theorem dX7_farOf_68 : decode cX7_farOf 68 = .ok (.aload_n 0, 1) := by decide +kernel
theorem dX7_farOf_69 : decode cX7_farOf 69 = .ok (.getfield 22, 3) := by decide +kernel
theorem dX7_farOf_72 : decode cX7_farOf 72 = .ok (.iload_n 3, 1) := by decide +kernel
theorem dX7_farOf_73 : decode cX7_farOf 73 = .ok (.iaload, 1) := by decide +kernel
theorem dX7_farOf_74 : decode cX7_farOf 74 = .ok (.bipush 30, 2) := by decide +kernel
theorem dX7_farOf_76 : decode cX7_farOf 76 = .ok (.if_icmp .ge 7, 3) := by decide +kernel
theorem dX7_farOf_79 : decode cX7_farOf 79 = .ok (.iconst 1, 1) := by decide +kernel
theorem dX7_farOf_80 : decode cX7_farOf 80 = .ok (.goto 4, 3) := by decide +kernel
theorem dX7_farOf_83 : decode cX7_farOf 83 = .ok (.iconst 0, 1) := by decide +kernel
theorem dX7_farOf_84 : decode cX7_farOf 84 = .ok (.if_icmp .eq 7, 3) := by decide +kernel
theorem dX7_farOf_87 : decode cX7_farOf 87 = .ok (.iconst 1, 1) := by decide +kernel
theorem dX7_farOf_88 : decode cX7_farOf 88 = .ok (.goto 4, 3) := by decide +kernel
theorem dX7_farOf_91 : decode cX7_farOf 91 = .ok (.iconst 0, 1) := by decide +kernel
theorem dX7_farOf_92 : decode cX7_farOf 92 = .ok (.istore 6, 2) := by decide +kernel
theorem dX7_farOf_94 : decode cX7_farOf 94 = .ok (.bipush 10, 2) := by decide +kernel
theorem dX7_farOf_96 : decode cX7_farOf 96 = .ok (.iload 4, 2) := by decide +kernel
theorem dX7_farOf_98 : decode cX7_farOf 98 = .ok (.iload 5, 2) := by decide +kernel
theorem dX7_farOf_100 : decode cX7_farOf 100 = .ok (.iadd, 1) := by decide +kernel
theorem dX7_farOf_101 : decode cX7_farOf 101 = .ok (.imul, 1) := by decide +kernel
theorem dX7_farOf_102 : decode cX7_farOf 102 = .ok (.iload 6, 2) := by decide +kernel
theorem dX7_farOf_104 : decode cX7_farOf 104 = .ok (.ifCond .eq 10, 3) := by decide +kernel
theorem dX7_farOf_107 : decode cX7_farOf 107 = .ok (.aload_n 0, 1) := by decide +kernel
theorem dX7_farOf_108 : decode cX7_farOf 108 = .ok (.getfield 80, 3) := by decide +kernel
theorem dX7_farOf_111 : decode cX7_farOf 111 = .ok (.goto 4, 3) := by decide +kernel
theorem dX7_farOf_114 : decode cX7_farOf 114 = .ok (.iconst 0, 1) := by decide +kernel
theorem dX7_farOf_115 : decode cX7_farOf 115 = .ok (.iadd, 1) := by decide +kernel
theorem dX7_farOf_116 : decode cX7_farOf 116 = .ok (.ireturn, 1) := by decide +kernel
theorem dX7_far_0 : decode cX7_far 0 = .ok (.aload_n 0, 1) := by decide +kernel
theorem dX7_far_1 : decode cX7_far 1 = .ok (.iload_n 3, 1) := by decide +kernel
theorem dX7_far_2 : decode cX7_far 2 = .ok (.invokevirtual 173, 3) := by decide +kernel
theorem dX7_far_5 : decode cX7_far 5 = .ok (.ifCond .eq 5, 3) := by decide +kernel
theorem dX7_far_8 : decode cX7_far 8 = .ok (.iconst (-1), 1) := by decide +kernel
theorem dX7_far_9 : decode cX7_far 9 = .ok (.ireturn, 1) := by decide +kernel
theorem dX7_far_10 : decode cX7_far 10 = .ok (.iload_n 1, 1) := by decide +kernel
theorem dX7_far_11 : decode cX7_far 11 = .ok (.iload_n 2, 1) := by decide +kernel
theorem dX7_far_12 : decode cX7_far 12 = .ok (.invokestatic 118, 3) := by decide +kernel
theorem dX7_far_15 : decode cX7_far 15 = .ok (.ifCond .eq 13, 3) := by decide +kernel
theorem dX7_far_18 : decode cX7_far 18 = .ok (.aload_n 0, 1) := by decide +kernel
theorem dX7_far_19 : decode cX7_far 19 = .ok (.iload_n 1, 1) := by decide +kernel
theorem dX7_far_20 : decode cX7_far 20 = .ok (.iload_n 2, 1) := by decide +kernel
theorem dX7_far_21 : decode cX7_far 21 = .ok (.iload_n 3, 1) := by decide +kernel
theorem dX7_far_22 : decode cX7_far 22 = .ok (.invokevirtual 181, 3) := by decide +kernel
theorem dX7_far_25 : decode cX7_far 25 = .ok (.goto 5, 3) := by decide +kernel
theorem dX7_far_28 : decode cX7_far 28 = .ok (.bipush (-2), 2) := by decide +kernel
theorem dX7_far_30 : decode cX7_far 30 = .ok (.ireturn, 1) := by decide +kernel
theorem dX7_layCosts_0 : decode cX7_layCosts 0 = .ok (.iconst 0, 1) := by decide +kernel
theorem dX7_layCosts_1 : decode cX7_layCosts 1 = .ok (.istore_n 2, 1) := by decide +kernel
theorem dX7_layCosts_2 : decode cX7_layCosts 2 = .ok (.iload_n 2, 1) := by decide +kernel
theorem dX7_layCosts_3 : decode cX7_layCosts 3 = .ok (.aload_n 0, 1) := by decide +kernel
theorem dX7_layCosts_4 : decode cX7_layCosts 4 = .ok (.getfield 115, 3) := by decide +kernel
theorem dX7_layCosts_7 : decode cX7_layCosts 7 = .ok (.if_icmp .ge 92, 3) := by decide +kernel
theorem dX7_layCosts_10 : decode cX7_layCosts 10 = .ok (.aload_n 0, 1) := by decide +kernel
theorem dX7_layCosts_11 : decode cX7_layCosts 11 = .ok (.getfield 41, 3) := by decide +kernel
theorem dX7_layCosts_14 : decode cX7_layCosts 14 = .ok (.iload_n 2, 1) := by decide +kernel
theorem dX7_layCosts_15 : decode cX7_layCosts 15 = .ok (.aload_n 0, 1) := by decide +kernel
theorem dX7_layCosts_16 : decode cX7_layCosts 16 = .ok (.getfield 28, 3) := by decide +kernel
theorem dX7_layCosts_19 : decode cX7_layCosts 19 = .ok (.iload_n 2, 1) := by decide +kernel
theorem dX7_layCosts_20 : decode cX7_layCosts 20 = .ok (.iaload, 1) := by decide +kernel
theorem dX7_layCosts_21 : decode cX7_layCosts 21 = .ok (.iastore, 1) := by decide +kernel
theorem dX7_layCosts_22 : decode cX7_layCosts 22 = .ok (.iconst 0, 1) := by decide +kernel
theorem dX7_layCosts_23 : decode cX7_layCosts 23 = .ok (.istore_n 3, 1) := by decide +kernel
theorem dX7_layCosts_24 : decode cX7_layCosts 24 = .ok (.iload_n 3, 1) := by decide +kernel
theorem dX7_layCosts_25 : decode cX7_layCosts 25 = .ok (.aload_n 0, 1) := by decide +kernel
theorem dX7_layCosts_26 : decode cX7_layCosts 26 = .ok (.getfield 112, 3) := by decide +kernel
theorem dX7_layCosts_29 : decode cX7_layCosts 29 = .ok (.if_icmp .ge 64, 3) := by decide +kernel
theorem dX7_layCosts_32 : decode cX7_layCosts 32 = .ok (.aload_n 0, 1) := by decide +kernel
theorem dX7_layCosts_33 : decode cX7_layCosts 33 = .ok (.aload_n 0, 1) := by decide +kernel
theorem dX7_layCosts_34 : decode cX7_layCosts 34 = .ok (.getfield 7, 3) := by decide +kernel
theorem dX7_layCosts_37 : decode cX7_layCosts 37 = .ok (.iload_n 3, 1) := by decide +kernel
theorem dX7_layCosts_38 : decode cX7_layCosts 38 = .ok (.iaload, 1) := by decide +kernel
theorem dX7_layCosts_39 : decode cX7_layCosts 39 = .ok (.aload_n 0, 1) := by decide +kernel
theorem dX7_layCosts_40 : decode cX7_layCosts 40 = .ok (.getfield 13, 3) := by decide +kernel
theorem dX7_layCosts_43 : decode cX7_layCosts 43 = .ok (.iload_n 3, 1) := by decide +kernel
theorem dX7_layCosts_44 : decode cX7_layCosts 44 = .ok (.iaload, 1) := by decide +kernel
theorem dX7_layCosts_45 : decode cX7_layCosts 45 = .ok (.iload_n 2, 1) := by decide +kernel
theorem dX7_layCosts_46 : decode cX7_layCosts 46 = .ok (.invokevirtual 181, 3) := by decide +kernel
theorem dX7_layCosts_49 : decode cX7_layCosts 49 = .ok (.istore 4, 2) := by decide +kernel
theorem dX7_layCosts_51 : decode cX7_layCosts 51 = .ok (.aload_n 0, 1) := by decide +kernel
theorem dX7_layCosts_52 : decode cX7_layCosts 52 = .ok (.getfield 44, 3) := by decide +kernel
theorem dX7_layCosts_55 : decode cX7_layCosts 55 = .ok (.iconst 5, 1) := by decide +kernel
theorem dX7_layCosts_56 : decode cX7_layCosts 56 = .ok (.iload_n 3, 1) := by decide +kernel
theorem dX7_layCosts_57 : decode cX7_layCosts 57 = .ok (.imul, 1) := by decide +kernel
theorem dX7_layCosts_58 : decode cX7_layCosts 58 = .ok (.iload_n 2, 1) := by decide +kernel
theorem dX7_layCosts_59 : decode cX7_layCosts 59 = .ok (.iadd, 1) := by decide +kernel
theorem dX7_layCosts_60 : decode cX7_layCosts 60 = .ok (.aload_n 0, 1) := by decide +kernel
theorem dX7_layCosts_61 : decode cX7_layCosts 61 = .ok (.getfield 31, 3) := by decide +kernel
theorem dX7_layCosts_64 : decode cX7_layCosts 64 = .ok (.iconst 5, 1) := by decide +kernel
theorem dX7_layCosts_65 : decode cX7_layCosts 65 = .ok (.iload_n 3, 1) := by decide +kernel
theorem dX7_layCosts_66 : decode cX7_layCosts 66 = .ok (.imul, 1) := by decide +kernel
theorem dX7_layCosts_67 : decode cX7_layCosts 67 = .ok (.iload_n 2, 1) := by decide +kernel
theorem dX7_layCosts_68 : decode cX7_layCosts 68 = .ok (.iadd, 1) := by decide +kernel
theorem dX7_layCosts_69 : decode cX7_layCosts 69 = .ok (.baload, 1) := by decide +kernel
theorem dX7_layCosts_70 : decode cX7_layCosts 70 = .ok (.ifCond .ne 9, 3) := by decide +kernel
theorem dX7_layCosts_73 : decode cX7_layCosts 73 = .ok (.iload 4, 2) := by decide +kernel
theorem dX7_layCosts_75 : decode cX7_layCosts 75 = .ok (.iload_n 1, 1) := by decide +kernel
theorem dX7_layCosts_76 : decode cX7_layCosts 76 = .ok (.if_icmp .le 8, 3) := by decide +kernel
theorem dX7_layCosts_79 : decode cX7_layCosts 79 = .ok (.ldc 185, 2) := by decide +kernel
theorem dX7_layCosts_81 : decode cX7_layCosts 81 = .ok (.goto 5, 3) := by decide +kernel
theorem dX7_layCosts_84 : decode cX7_layCosts 84 = .ok (.iload 4, 2) := by decide +kernel
theorem dX7_layCosts_86 : decode cX7_layCosts 86 = .ok (.iastore, 1) := by decide +kernel
theorem dX7_layCosts_87 : decode cX7_layCosts 87 = .ok (.iinc 3 1, 3) := by decide +kernel
theorem dX7_layCosts_90 : decode cX7_layCosts 90 = .ok (.goto (-66), 3) := by decide +kernel
theorem dX7_layCosts_93 : decode cX7_layCosts 93 = .ok (.iinc 2 1, 3) := by decide +kernel
theorem dX7_layCosts_96 : decode cX7_layCosts 96 = .ok (.goto (-94), 3) := by decide +kernel
theorem dX7_layCosts_99 : decode cX7_layCosts 99 = .ok (.return_, 1) := by decide +kernel
theorem dX7_takenIn_0 : decode cX7_takenIn 0 = .ok (.iconst 0, 1) := by decide +kernel
theorem dX7_takenIn_1 : decode cX7_takenIn 1 = .ok (.istore_n 2, 1) := by decide +kernel
theorem dX7_takenIn_2 : decode cX7_takenIn 2 = .ok (.iconst 0, 1) := by decide +kernel
theorem dX7_takenIn_3 : decode cX7_takenIn 3 = .ok (.istore_n 3, 1) := by decide +kernel
theorem dX7_takenIn_4 : decode cX7_takenIn 4 = .ok (.iload_n 3, 1) := by decide +kernel
theorem dX7_takenIn_5 : decode cX7_takenIn 5 = .ok (.aload_n 0, 1) := by decide +kernel
theorem dX7_takenIn_6 : decode cX7_takenIn 6 = .ok (.getfield 112, 3) := by decide +kernel
theorem dX7_takenIn_9 : decode cX7_takenIn 9 = .ok (.if_icmp .ge 22, 3) := by decide +kernel
theorem dX7_takenIn_12 : decode cX7_takenIn 12 = .ok (.iload_n 2, 1) := by decide +kernel
theorem dX7_takenIn_13 : decode cX7_takenIn 13 = .ok (.aload_n 0, 1) := by decide +kernel
theorem dX7_takenIn_14 : decode cX7_takenIn 14 = .ok (.getfield 47, 3) := by decide +kernel
theorem dX7_takenIn_17 : decode cX7_takenIn 17 = .ok (.iconst 5, 1) := by decide +kernel
theorem dX7_takenIn_18 : decode cX7_takenIn 18 = .ok (.iload_n 3, 1) := by decide +kernel
theorem dX7_takenIn_19 : decode cX7_takenIn 19 = .ok (.imul, 1) := by decide +kernel
theorem dX7_takenIn_20 : decode cX7_takenIn 20 = .ok (.iload_n 1, 1) := by decide +kernel
theorem dX7_takenIn_21 : decode cX7_takenIn 21 = .ok (.iadd, 1) := by decide +kernel
theorem dX7_takenIn_22 : decode cX7_takenIn 22 = .ok (.iaload, 1) := by decide +kernel
theorem dX7_takenIn_23 : decode cX7_takenIn 23 = .ok (.iadd, 1) := by decide +kernel
theorem dX7_takenIn_24 : decode cX7_takenIn 24 = .ok (.istore_n 2, 1) := by decide +kernel
theorem dX7_takenIn_25 : decode cX7_takenIn 25 = .ok (.iinc 3 1, 3) := by decide +kernel
theorem dX7_takenIn_28 : decode cX7_takenIn 28 = .ok (.goto (-24), 3) := by decide +kernel
theorem dX7_takenIn_31 : decode cX7_takenIn 31 = .ok (.iload_n 2, 1) := by decide +kernel
theorem dX7_takenIn_32 : decode cX7_takenIn 32 = .ok (.ireturn, 1) := by decide +kernel
theorem dX7_moverOf_0 : decode cX7_moverOf 0 = .ok (.bipush (-9), 2) := by decide +kernel
theorem dX7_moverOf_2 : decode cX7_moverOf 2 = .ok (.istore_n 3, 1) := by decide +kernel
theorem dX7_moverOf_3 : decode cX7_moverOf 3 = .ok (.ldc 185, 2) := by decide +kernel
theorem dX7_moverOf_5 : decode cX7_moverOf 5 = .ok (.istore 4, 2) := by decide +kernel
theorem dX7_moverOf_7 : decode cX7_moverOf 7 = .ok (.iconst 0, 1) := by decide +kernel
theorem dX7_moverOf_8 : decode cX7_moverOf 8 = .ok (.istore 5, 2) := by decide +kernel
theorem dX7_moverOf_10 : decode cX7_moverOf 10 = .ok (.iload 5, 2) := by decide +kernel
theorem dX7_moverOf_12 : decode cX7_moverOf 12 = .ok (.aload_n 0, 1) := by decide +kernel
theorem dX7_moverOf_13 : decode cX7_moverOf 13 = .ok (.getfield 112, 3) := by decide +kernel
theorem dX7_moverOf_16 : decode cX7_moverOf 16 = .ok (.if_icmp .ge 94, 3) := by decide +kernel
theorem dX7_moverOf_19 : decode cX7_moverOf 19 = .ok (.aload_n 0, 1) := by decide +kernel
theorem dX7_moverOf_20 : decode cX7_moverOf 20 = .ok (.getfield 47, 3) := by decide +kernel
theorem dX7_moverOf_23 : decode cX7_moverOf 23 = .ok (.iconst 5, 1) := by decide +kernel
theorem dX7_moverOf_24 : decode cX7_moverOf 24 = .ok (.iload 5, 2) := by decide +kernel
theorem dX7_moverOf_26 : decode cX7_moverOf 26 = .ok (.imul, 1) := by decide +kernel
theorem dX7_moverOf_27 : decode cX7_moverOf 27 = .ok (.iload_n 1, 1) := by decide +kernel
theorem dX7_moverOf_28 : decode cX7_moverOf 28 = .ok (.iadd, 1) := by decide +kernel
theorem dX7_moverOf_29 : decode cX7_moverOf 29 = .ok (.iaload, 1) := by decide +kernel
theorem dX7_moverOf_30 : decode cX7_moverOf 30 = .ok (.ifCond .le 74, 3) := by decide +kernel
theorem dX7_moverOf_33 : decode cX7_moverOf 33 = .ok (.aload_n 0, 1) := by decide +kernel
theorem dX7_moverOf_34 : decode cX7_moverOf 34 = .ok (.getfield 44, 3) := by decide +kernel
theorem dX7_moverOf_37 : decode cX7_moverOf 37 = .ok (.iconst 5, 1) := by decide +kernel
theorem dX7_moverOf_38 : decode cX7_moverOf 38 = .ok (.iload 5, 2) := by decide +kernel
theorem dX7_moverOf_40 : decode cX7_moverOf 40 = .ok (.imul, 1) := by decide +kernel
theorem dX7_moverOf_41 : decode cX7_moverOf 41 = .ok (.iload_n 2, 1) := by decide +kernel
theorem dX7_moverOf_42 : decode cX7_moverOf 42 = .ok (.iadd, 1) := by decide +kernel
theorem dX7_moverOf_43 : decode cX7_moverOf 43 = .ok (.iaload, 1) := by decide +kernel
theorem dX7_moverOf_44 : decode cX7_moverOf 44 = .ok (.ldc 185, 2) := by decide +kernel
theorem dX7_moverOf_46 : decode cX7_moverOf 46 = .ok (.if_icmp .ge 58, 3) := by decide +kernel
theorem dX7_moverOf_49 : decode cX7_moverOf 49 = .ok (.aload_n 0, 1) := by decide +kernel
theorem dX7_moverOf_50 : decode cX7_moverOf 50 = .ok (.getfield 44, 3) := by decide +kernel
theorem dX7_moverOf_53 : decode cX7_moverOf 53 = .ok (.iconst 5, 1) := by decide +kernel
theorem dX7_moverOf_54 : decode cX7_moverOf 54 = .ok (.iload 5, 2) := by decide +kernel
theorem dX7_moverOf_56 : decode cX7_moverOf 56 = .ok (.imul, 1) := by decide +kernel
theorem dX7_moverOf_57 : decode cX7_moverOf 57 = .ok (.iload_n 2, 1) := by decide +kernel
theorem dX7_moverOf_58 : decode cX7_moverOf 58 = .ok (.iadd, 1) := by decide +kernel
theorem dX7_moverOf_59 : decode cX7_moverOf 59 = .ok (.iaload, 1) := by decide +kernel
theorem dX7_moverOf_60 : decode cX7_moverOf 60 = .ok (.aload_n 0, 1) := by decide +kernel
theorem dX7_moverOf_61 : decode cX7_moverOf 61 = .ok (.getfield 44, 3) := by decide +kernel
theorem dX7_moverOf_64 : decode cX7_moverOf 64 = .ok (.iconst 5, 1) := by decide +kernel
theorem dX7_moverOf_65 : decode cX7_moverOf 65 = .ok (.iload 5, 2) := by decide +kernel
theorem dX7_moverOf_67 : decode cX7_moverOf 67 = .ok (.imul, 1) := by decide +kernel
theorem dX7_moverOf_68 : decode cX7_moverOf 68 = .ok (.iload_n 1, 1) := by decide +kernel
theorem dX7_moverOf_69 : decode cX7_moverOf 69 = .ok (.iadd, 1) := by decide +kernel
theorem dX7_moverOf_70 : decode cX7_moverOf 70 = .ok (.iaload, 1) := by decide +kernel
theorem dX7_moverOf_71 : decode cX7_moverOf 71 = .ok (.isub, 1) := by decide +kernel
theorem dX7_moverOf_72 : decode cX7_moverOf 72 = .ok (.istore 6, 2) := by decide +kernel
theorem dX7_moverOf_74 : decode cX7_moverOf 74 = .ok (.iload 6, 2) := by decide +kernel
theorem dX7_moverOf_76 : decode cX7_moverOf 76 = .ok (.iload 4, 2) := by decide +kernel
theorem dX7_moverOf_78 : decode cX7_moverOf 78 = .ok (.if_icmp .ge 8, 3) := by decide +kernel
theorem dX7_moverOf_81 : decode cX7_moverOf 81 = .ok (.iload 5, 2) := by decide +kernel
theorem dX7_moverOf_83 : decode cX7_moverOf 83 = .ok (.goto 4, 3) := by decide +kernel
theorem dX7_moverOf_86 : decode cX7_moverOf 86 = .ok (.iload_n 3, 1) := by decide +kernel
theorem dX7_moverOf_87 : decode cX7_moverOf 87 = .ok (.istore_n 3, 1) := by decide +kernel
theorem dX7_moverOf_88 : decode cX7_moverOf 88 = .ok (.iload 6, 2) := by decide +kernel
theorem dX7_moverOf_90 : decode cX7_moverOf 90 = .ok (.iload 4, 2) := by decide +kernel
theorem dX7_moverOf_92 : decode cX7_moverOf 92 = .ok (.if_icmp .ge 8, 3) := by decide +kernel
theorem dX7_moverOf_95 : decode cX7_moverOf 95 = .ok (.iload 6, 2) := by decide +kernel
theorem dX7_moverOf_97 : decode cX7_moverOf 97 = .ok (.goto 5, 3) := by decide +kernel
theorem dX7_moverOf_100 : decode cX7_moverOf 100 = .ok (.iload 4, 2) := by decide +kernel
theorem dX7_moverOf_102 : decode cX7_moverOf 102 = .ok (.istore 4, 2) := by decide +kernel
theorem dX7_moverOf_104 : decode cX7_moverOf 104 = .ok (.iinc 5 1, 3) := by decide +kernel
theorem dX7_moverOf_107 : decode cX7_moverOf 107 = .ok (.goto (-97), 3) := by decide +kernel
theorem dX7_moverOf_110 : decode cX7_moverOf 110 = .ok (.iload_n 3, 1) := by decide +kernel
theorem dX7_moverOf_111 : decode cX7_moverOf 111 = .ok (.ireturn, 1) := by decide +kernel
theorem dX7_layDear_0 : decode cX7_layDear 0 = .ok (.iconst 0, 1) := by decide +kernel
theorem dX7_layDear_1 : decode cX7_layDear 1 = .ok (.istore_n 2, 1) := by decide +kernel
theorem dX7_layDear_2 : decode cX7_layDear 2 = .ok (.iload_n 2, 1) := by decide +kernel
theorem dX7_layDear_3 : decode cX7_layDear 3 = .ok (.aload_n 0, 1) := by decide +kernel
theorem dX7_layDear_4 : decode cX7_layDear 4 = .ok (.getfield 115, 3) := by decide +kernel
theorem dX7_layDear_7 : decode cX7_layDear 7 = .ok (.if_icmp .ge 33, 3) := by decide +kernel
theorem dX7_layDear_10 : decode cX7_layDear 10 = .ok (.aload_n 0, 1) := by decide +kernel
theorem dX7_layDear_11 : decode cX7_layDear 11 = .ok (.getfield 50, 3) := by decide +kernel
theorem dX7_layDear_14 : decode cX7_layDear 14 = .ok (.iload_n 2, 1) := by decide +kernel
theorem dX7_layDear_15 : decode cX7_layDear 15 = .ok (.aload_n 0, 1) := by decide +kernel
theorem dX7_layDear_16 : decode cX7_layDear 16 = .ok (.getfield 44, 3) := by decide +kernel
theorem dX7_layDear_19 : decode cX7_layDear 19 = .ok (.iconst 5, 1) := by decide +kernel
theorem dX7_layDear_20 : decode cX7_layDear 20 = .ok (.iload_n 1, 1) := by decide +kernel
theorem dX7_layDear_21 : decode cX7_layDear 21 = .ok (.imul, 1) := by decide +kernel
theorem dX7_layDear_22 : decode cX7_layDear 22 = .ok (.iload_n 2, 1) := by decide +kernel
theorem dX7_layDear_23 : decode cX7_layDear 23 = .ok (.iadd, 1) := by decide +kernel
theorem dX7_layDear_24 : decode cX7_layDear 24 = .ok (.iaload, 1) := by decide +kernel
theorem dX7_layDear_25 : decode cX7_layDear 25 = .ok (.iastore, 1) := by decide +kernel
theorem dX7_layDear_26 : decode cX7_layDear 26 = .ok (.aload_n 0, 1) := by decide +kernel
theorem dX7_layDear_27 : decode cX7_layDear 27 = .ok (.getfield 53, 3) := by decide +kernel
theorem dX7_layDear_30 : decode cX7_layDear 30 = .ok (.iload_n 2, 1) := by decide +kernel
theorem dX7_layDear_31 : decode cX7_layDear 31 = .ok (.bipush (-9), 2) := by decide +kernel
theorem dX7_layDear_33 : decode cX7_layDear 33 = .ok (.iastore, 1) := by decide +kernel
theorem dX7_layDear_34 : decode cX7_layDear 34 = .ok (.iinc 2 1, 3) := by decide +kernel
theorem dX7_layDear_37 : decode cX7_layDear 37 = .ok (.goto (-35), 3) := by decide +kernel
theorem dX7_layDear_40 : decode cX7_layDear 40 = .ok (.iconst 1, 1) := by decide +kernel
theorem dX7_layDear_41 : decode cX7_layDear 41 = .ok (.istore_n 2, 1) := by decide +kernel
theorem dX7_layDear_42 : decode cX7_layDear 42 = .ok (.iload_n 2, 1) := by decide +kernel
theorem dX7_layDear_43 : decode cX7_layDear 43 = .ok (.ifCond .eq 156, 3) := by decide +kernel
theorem dX7_layDear_46 : decode cX7_layDear 46 = .ok (.iconst 0, 1) := by decide +kernel
theorem dX7_layDear_47 : decode cX7_layDear 47 = .ok (.istore_n 2, 1) := by decide +kernel
theorem dX7_layDear_48 : decode cX7_layDear 48 = .ok (.iconst 0, 1) := by decide +kernel
theorem dX7_layDear_49 : decode cX7_layDear 49 = .ok (.istore_n 3, 1) := by decide +kernel
theorem dX7_layDear_50 : decode cX7_layDear 50 = .ok (.iload_n 3, 1) := by decide +kernel
theorem dX7_layDear_51 : decode cX7_layDear 51 = .ok (.aload_n 0, 1) := by decide +kernel
theorem dX7_layDear_52 : decode cX7_layDear 52 = .ok (.getfield 115, 3) := by decide +kernel
theorem dX7_layDear_55 : decode cX7_layDear 55 = .ok (.if_icmp .ge 141, 3) := by decide +kernel
theorem dX7_layDear_58 : decode cX7_layDear 58 = .ok (.iconst 0, 1) := by decide +kernel
theorem dX7_layDear_59 : decode cX7_layDear 59 = .ok (.istore 4, 2) := by decide +kernel
theorem dX7_layDear_61 : decode cX7_layDear 61 = .ok (.iload 4, 2) := by decide +kernel
theorem dX7_layDear_63 : decode cX7_layDear 63 = .ok (.aload_n 0, 1) := by decide +kernel
theorem dX7_layDear_64 : decode cX7_layDear 64 = .ok (.getfield 115, 3) := by decide +kernel
theorem dX7_layDear_67 : decode cX7_layDear 67 = .ok (.if_icmp .ge 123, 3) := by decide +kernel
theorem dX7_layDear_70 : decode cX7_layDear 70 = .ok (.aload_n 0, 1) := by decide +kernel
theorem dX7_layDear_71 : decode cX7_layDear 71 = .ok (.getfield 50, 3) := by decide +kernel
theorem dX7_layDear_74 : decode cX7_layDear 74 = .ok (.iload_n 3, 1) := by decide +kernel
theorem dX7_layDear_75 : decode cX7_layDear 75 = .ok (.iaload, 1) := by decide +kernel
theorem dX7_layDear_76 : decode cX7_layDear 76 = .ok (.ldc 185, 2) := by decide +kernel
theorem dX7_layDear_78 : decode cX7_layDear 78 = .ok (.if_icmp .ge 112, 3) := by decide +kernel
theorem dX7_layDear_81 : decode cX7_layDear 81 = .ok (.iload 4, 2) := by decide +kernel
theorem dX7_layDear_83 : decode cX7_layDear 83 = .ok (.iload_n 3, 1) := by decide +kernel
theorem dX7_layDear_84 : decode cX7_layDear 84 = .ok (.if_icmp .ne 8, 3) := by decide +kernel
theorem dX7_layDear_87 : decode cX7_layDear 87 = .ok (.bipush (-9), 2) := by decide +kernel
theorem dX7_layDear_89 : decode cX7_layDear 89 = .ok (.goto 10, 3) := by decide +kernel
theorem dX7_layDear_92 : decode cX7_layDear 92 = .ok (.aload_n 0, 1) := by decide +kernel
theorem dX7_layDear_93 : decode cX7_layDear 93 = .ok (.iload_n 3, 1) := by decide +kernel
theorem dX7_layDear_94 : decode cX7_layDear 94 = .ok (.iload 4, 2) := by decide +kernel
theorem dX7_layDear_96 : decode cX7_layDear 96 = .ok (.invokevirtual 186, 3) := by decide +kernel
theorem dX7_layDear_99 : decode cX7_layDear 99 = .ok (.istore 5, 2) := by decide +kernel
theorem dX7_layDear_101 : decode cX7_layDear 101 = .ok (.iload 5, 2) := by decide +kernel
theorem dX7_layDear_103 : decode cX7_layDear 103 = .ok (.ifCond .ge 8, 3) := by decide +kernel
theorem dX7_layDear_106 : decode cX7_layDear 106 = .ok (.ldc 185, 2) := by decide +kernel
theorem dX7_layDear_108 : decode cX7_layDear 108 = .ok (.goto 34, 3) := by decide +kernel
theorem dX7_layDear_111 : decode cX7_layDear 111 = .ok (.aload_n 0, 1) := by decide +kernel
theorem dX7_layDear_112 : decode cX7_layDear 112 = .ok (.getfield 50, 3) := by decide +kernel
theorem dX7_layDear_115 : decode cX7_layDear 115 = .ok (.iload_n 3, 1) := by decide +kernel
theorem dX7_layDear_116 : decode cX7_layDear 116 = .ok (.iaload, 1) := by decide +kernel
theorem dX7_layDear_117 : decode cX7_layDear 117 = .ok (.aload_n 0, 1) := by decide +kernel
theorem dX7_layDear_118 : decode cX7_layDear 118 = .ok (.getfield 44, 3) := by decide +kernel
theorem dX7_layDear_121 : decode cX7_layDear 121 = .ok (.iconst 5, 1) := by decide +kernel
theorem dX7_layDear_122 : decode cX7_layDear 122 = .ok (.iload 5, 2) := by decide +kernel
theorem dX7_layDear_124 : decode cX7_layDear 124 = .ok (.imul, 1) := by decide +kernel
theorem dX7_layDear_125 : decode cX7_layDear 125 = .ok (.iload 4, 2) := by decide +kernel
theorem dX7_layDear_127 : decode cX7_layDear 127 = .ok (.iadd, 1) := by decide +kernel
theorem dX7_layDear_128 : decode cX7_layDear 128 = .ok (.iaload, 1) := by decide +kernel
theorem dX7_layDear_129 : decode cX7_layDear 129 = .ok (.iadd, 1) := by decide +kernel
theorem dX7_layDear_130 : decode cX7_layDear 130 = .ok (.aload_n 0, 1) := by decide +kernel
theorem dX7_layDear_131 : decode cX7_layDear 131 = .ok (.getfield 44, 3) := by decide +kernel
theorem dX7_layDear_134 : decode cX7_layDear 134 = .ok (.iconst 5, 1) := by decide +kernel
theorem dX7_layDear_135 : decode cX7_layDear 135 = .ok (.iload 5, 2) := by decide +kernel
theorem dX7_layDear_137 : decode cX7_layDear 137 = .ok (.imul, 1) := by decide +kernel
theorem dX7_layDear_138 : decode cX7_layDear 138 = .ok (.iload_n 3, 1) := by decide +kernel
theorem dX7_layDear_139 : decode cX7_layDear 139 = .ok (.iadd, 1) := by decide +kernel
theorem dX7_layDear_140 : decode cX7_layDear 140 = .ok (.iaload, 1) := by decide +kernel
theorem dX7_layDear_141 : decode cX7_layDear 141 = .ok (.isub, 1) := by decide +kernel
theorem dX7_layDear_142 : decode cX7_layDear 142 = .ok (.istore 6, 2) := by decide +kernel
theorem dX7_layDear_144 : decode cX7_layDear 144 = .ok (.iload 6, 2) := by decide +kernel
theorem dX7_layDear_146 : decode cX7_layDear 146 = .ok (.aload_n 0, 1) := by decide +kernel
theorem dX7_layDear_147 : decode cX7_layDear 147 = .ok (.getfield 50, 3) := by decide +kernel
theorem dX7_layDear_150 : decode cX7_layDear 150 = .ok (.iload 4, 2) := by decide +kernel
theorem dX7_layDear_152 : decode cX7_layDear 152 = .ok (.iaload, 1) := by decide +kernel
theorem dX7_layDear_153 : decode cX7_layDear 153 = .ok (.if_icmp .ge 31, 3) := by decide +kernel
theorem dX7_layDear_156 : decode cX7_layDear 156 = .ok (.aload_n 0, 1) := by decide +kernel
theorem dX7_layDear_157 : decode cX7_layDear 157 = .ok (.getfield 50, 3) := by decide +kernel
theorem dX7_layDear_160 : decode cX7_layDear 160 = .ok (.iload 4, 2) := by decide +kernel
theorem dX7_layDear_162 : decode cX7_layDear 162 = .ok (.iload 6, 2) := by decide +kernel
theorem dX7_layDear_164 : decode cX7_layDear 164 = .ok (.iastore, 1) := by decide +kernel
theorem dX7_layDear_165 : decode cX7_layDear 165 = .ok (.aload_n 0, 1) := by decide +kernel
theorem dX7_layDear_166 : decode cX7_layDear 166 = .ok (.getfield 53, 3) := by decide +kernel
theorem dX7_layDear_169 : decode cX7_layDear 169 = .ok (.iload 4, 2) := by decide +kernel
theorem dX7_layDear_171 : decode cX7_layDear 171 = .ok (.iload_n 3, 1) := by decide +kernel
theorem dX7_layDear_172 : decode cX7_layDear 172 = .ok (.iastore, 1) := by decide +kernel
theorem dX7_layDear_173 : decode cX7_layDear 173 = .ok (.aload_n 0, 1) := by decide +kernel
theorem dX7_layDear_174 : decode cX7_layDear 174 = .ok (.getfield 56, 3) := by decide +kernel
theorem dX7_layDear_177 : decode cX7_layDear 177 = .ok (.iload 4, 2) := by decide +kernel
theorem dX7_layDear_179 : decode cX7_layDear 179 = .ok (.iload 5, 2) := by decide +kernel
theorem dX7_layDear_181 : decode cX7_layDear 181 = .ok (.iastore, 1) := by decide +kernel
theorem dX7_layDear_182 : decode cX7_layDear 182 = .ok (.iconst 1, 1) := by decide +kernel
theorem dX7_layDear_183 : decode cX7_layDear 183 = .ok (.istore_n 2, 1) := by decide +kernel
theorem dX7_layDear_184 : decode cX7_layDear 184 = .ok (.iinc 4 1, 3) := by decide +kernel
theorem dX7_layDear_187 : decode cX7_layDear 187 = .ok (.goto (-126), 3) := by decide +kernel
theorem dX7_layDear_190 : decode cX7_layDear 190 = .ok (.iinc 3 1, 3) := by decide +kernel
theorem dX7_layDear_193 : decode cX7_layDear 193 = .ok (.goto (-143), 3) := by decide +kernel
theorem dX7_layDear_196 : decode cX7_layDear 196 = .ok (.goto (-154), 3) := by decide +kernel
theorem dX7_layDear_199 : decode cX7_layDear 199 = .ok (.return_, 1) := by decide +kernel
theorem dX7_seatOne_0 : decode cX7_seatOne 0 = .ok (.aload_n 0, 1) := by decide +kernel
theorem dX7_seatOne_1 : decode cX7_seatOne 1 = .ok (.iload_n 1, 1) := by decide +kernel
theorem dX7_seatOne_2 : decode cX7_seatOne 2 = .ok (.invokevirtual 189, 3) := by decide +kernel
theorem dX7_seatOne_5 : decode cX7_seatOne 5 = .ok (.bipush (-9), 2) := by decide +kernel
theorem dX7_seatOne_7 : decode cX7_seatOne 7 = .ok (.istore_n 2, 1) := by decide +kernel
theorem dX7_seatOne_8 : decode cX7_seatOne 8 = .ok (.iconst 0, 1) := by decide +kernel
theorem dX7_seatOne_9 : decode cX7_seatOne 9 = .ok (.istore_n 3, 1) := by decide +kernel
theorem dX7_seatOne_10 : decode cX7_seatOne 10 = .ok (.iload_n 3, 1) := by decide +kernel
theorem dX7_seatOne_11 : decode cX7_seatOne 11 = .ok (.aload_n 0, 1) := by decide +kernel
theorem dX7_seatOne_12 : decode cX7_seatOne 12 = .ok (.getfield 115, 3) := by decide +kernel
theorem dX7_seatOne_15 : decode cX7_seatOne 15 = .ok (.if_icmp .ge 71, 3) := by decide +kernel
theorem dX7_seatOne_18 : decode cX7_seatOne 18 = .ok (.aload_n 0, 1) := by decide +kernel
theorem dX7_seatOne_19 : decode cX7_seatOne 19 = .ok (.getfield 50, 3) := by decide +kernel
theorem dX7_seatOne_22 : decode cX7_seatOne 22 = .ok (.iload_n 3, 1) := by decide +kernel
theorem dX7_seatOne_23 : decode cX7_seatOne 23 = .ok (.iaload, 1) := by decide +kernel
theorem dX7_seatOne_24 : decode cX7_seatOne 24 = .ok (.ldc 185, 2) := by decide +kernel
theorem dX7_seatOne_26 : decode cX7_seatOne 26 = .ok (.if_icmp .ge 21, 3) := by decide +kernel
theorem dX7_seatOne_29 : decode cX7_seatOne 29 = .ok (.aload_n 0, 1) := by decide +kernel
theorem dX7_seatOne_30 : decode cX7_seatOne 30 = .ok (.iload_n 3, 1) := by decide +kernel
theorem dX7_seatOne_31 : decode cX7_seatOne 31 = .ok (.invokevirtual 193, 3) := by decide +kernel
theorem dX7_seatOne_34 : decode cX7_seatOne 34 = .ok (.aload_n 0, 1) := by decide +kernel
theorem dX7_seatOne_35 : decode cX7_seatOne 35 = .ok (.getfield 41, 3) := by decide +kernel
theorem dX7_seatOne_38 : decode cX7_seatOne 38 = .ok (.iload_n 3, 1) := by decide +kernel
theorem dX7_seatOne_39 : decode cX7_seatOne 39 = .ok (.iaload, 1) := by decide +kernel
theorem dX7_seatOne_40 : decode cX7_seatOne 40 = .ok (.if_icmp .ge 7, 3) := by decide +kernel
theorem dX7_seatOne_43 : decode cX7_seatOne 43 = .ok (.iconst 1, 1) := by decide +kernel
theorem dX7_seatOne_44 : decode cX7_seatOne 44 = .ok (.goto 4, 3) := by decide +kernel
theorem dX7_seatOne_47 : decode cX7_seatOne 47 = .ok (.iconst 0, 1) := by decide +kernel
theorem dX7_seatOne_48 : decode cX7_seatOne 48 = .ok (.istore 4, 2) := by decide +kernel
theorem dX7_seatOne_50 : decode cX7_seatOne 50 = .ok (.iload 4, 2) := by decide +kernel
theorem dX7_seatOne_52 : decode cX7_seatOne 52 = .ok (.ifCond .eq 26, 3) := by decide +kernel
theorem dX7_seatOne_55 : decode cX7_seatOne 55 = .ok (.iload_n 2, 1) := by decide +kernel
theorem dX7_seatOne_56 : decode cX7_seatOne 56 = .ok (.ifCond .lt 18, 3) := by decide +kernel
theorem dX7_seatOne_59 : decode cX7_seatOne 59 = .ok (.aload_n 0, 1) := by decide +kernel
theorem dX7_seatOne_60 : decode cX7_seatOne 60 = .ok (.getfield 50, 3) := by decide +kernel
theorem dX7_seatOne_63 : decode cX7_seatOne 63 = .ok (.iload_n 3, 1) := by decide +kernel
theorem dX7_seatOne_64 : decode cX7_seatOne 64 = .ok (.iaload, 1) := by decide +kernel
theorem dX7_seatOne_65 : decode cX7_seatOne 65 = .ok (.aload_n 0, 1) := by decide +kernel
theorem dX7_seatOne_66 : decode cX7_seatOne 66 = .ok (.getfield 50, 3) := by decide +kernel
theorem dX7_seatOne_69 : decode cX7_seatOne 69 = .ok (.iload_n 2, 1) := by decide +kernel
theorem dX7_seatOne_70 : decode cX7_seatOne 70 = .ok (.iaload, 1) := by decide +kernel
theorem dX7_seatOne_71 : decode cX7_seatOne 71 = .ok (.if_icmp .ge 7, 3) := by decide +kernel
theorem dX7_seatOne_74 : decode cX7_seatOne 74 = .ok (.iload_n 3, 1) := by decide +kernel
theorem dX7_seatOne_75 : decode cX7_seatOne 75 = .ok (.goto 4, 3) := by decide +kernel
theorem dX7_seatOne_78 : decode cX7_seatOne 78 = .ok (.iload_n 2, 1) := by decide +kernel
theorem dX7_seatOne_79 : decode cX7_seatOne 79 = .ok (.istore_n 2, 1) := by decide +kernel
theorem dX7_seatOne_80 : decode cX7_seatOne 80 = .ok (.iinc 3 1, 3) := by decide +kernel
theorem dX7_seatOne_83 : decode cX7_seatOne 83 = .ok (.goto (-73), 3) := by decide +kernel
theorem dX7_seatOne_86 : decode cX7_seatOne 86 = .ok (.iload_n 2, 1) := by decide +kernel
theorem dX7_seatOne_87 : decode cX7_seatOne 87 = .ok (.ifCond .ge 6, 3) := by decide +kernel
theorem dX7_seatOne_90 : decode cX7_seatOne 90 = .ok (.ldc 185, 2) := by decide +kernel
theorem dX7_seatOne_92 : decode cX7_seatOne 92 = .ok (.ireturn, 1) := by decide +kernel
theorem dX7_seatOne_93 : decode cX7_seatOne 93 = .ok (.aload_n 0, 1) := by decide +kernel
theorem dX7_seatOne_94 : decode cX7_seatOne 94 = .ok (.getfield 50, 3) := by decide +kernel
theorem dX7_seatOne_97 : decode cX7_seatOne 97 = .ok (.iload_n 2, 1) := by decide +kernel
theorem dX7_seatOne_98 : decode cX7_seatOne 98 = .ok (.iaload, 1) := by decide +kernel
theorem dX7_seatOne_99 : decode cX7_seatOne 99 = .ok (.istore_n 3, 1) := by decide +kernel
theorem dX7_seatOne_100 : decode cX7_seatOne 100 = .ok (.iload_n 2, 1) := by decide +kernel
theorem dX7_seatOne_101 : decode cX7_seatOne 101 = .ok (.istore 4, 2) := by decide +kernel
theorem dX7_seatOne_103 : decode cX7_seatOne 103 = .ok (.aload_n 0, 1) := by decide +kernel
theorem dX7_seatOne_104 : decode cX7_seatOne 104 = .ok (.getfield 53, 3) := by decide +kernel
theorem dX7_seatOne_107 : decode cX7_seatOne 107 = .ok (.iload 4, 2) := by decide +kernel
theorem dX7_seatOne_109 : decode cX7_seatOne 109 = .ok (.iaload, 1) := by decide +kernel
theorem dX7_seatOne_110 : decode cX7_seatOne 110 = .ok (.ifCond .lt 62, 3) := by decide +kernel
theorem dX7_seatOne_113 : decode cX7_seatOne 113 = .ok (.aload_n 0, 1) := by decide +kernel
theorem dX7_seatOne_114 : decode cX7_seatOne 114 = .ok (.getfield 47, 3) := by decide +kernel
theorem dX7_seatOne_117 : decode cX7_seatOne 117 = .ok (.iconst 5, 1) := by decide +kernel
theorem dX7_seatOne_118 : decode cX7_seatOne 118 = .ok (.aload_n 0, 1) := by decide +kernel
theorem dX7_seatOne_119 : decode cX7_seatOne 119 = .ok (.getfield 56, 3) := by decide +kernel
theorem dX7_seatOne_122 : decode cX7_seatOne 122 = .ok (.iload 4, 2) := by decide +kernel
theorem dX7_seatOne_124 : decode cX7_seatOne 124 = .ok (.iaload, 1) := by decide +kernel
theorem dX7_seatOne_125 : decode cX7_seatOne 125 = .ok (.imul, 1) := by decide +kernel
theorem dX7_seatOne_126 : decode cX7_seatOne 126 = .ok (.iload 4, 2) := by decide +kernel
theorem dX7_seatOne_128 : decode cX7_seatOne 128 = .ok (.iadd, 1) := by decide +kernel
theorem dX7_seatOne_129 : decode cX7_seatOne 129 = .ok (.dup2, 1) := by decide +kernel
theorem dX7_seatOne_130 : decode cX7_seatOne 130 = .ok (.iaload, 1) := by decide +kernel
theorem dX7_seatOne_131 : decode cX7_seatOne 131 = .ok (.iconst 1, 1) := by decide +kernel
theorem dX7_seatOne_132 : decode cX7_seatOne 132 = .ok (.iadd, 1) := by decide +kernel
theorem dX7_seatOne_133 : decode cX7_seatOne 133 = .ok (.iastore, 1) := by decide +kernel
theorem dX7_seatOne_134 : decode cX7_seatOne 134 = .ok (.aload_n 0, 1) := by decide +kernel
theorem dX7_seatOne_135 : decode cX7_seatOne 135 = .ok (.getfield 47, 3) := by decide +kernel
theorem dX7_seatOne_138 : decode cX7_seatOne 138 = .ok (.iconst 5, 1) := by decide +kernel
theorem dX7_seatOne_139 : decode cX7_seatOne 139 = .ok (.aload_n 0, 1) := by decide +kernel
theorem dX7_seatOne_140 : decode cX7_seatOne 140 = .ok (.getfield 56, 3) := by decide +kernel
theorem dX7_seatOne_143 : decode cX7_seatOne 143 = .ok (.iload 4, 2) := by decide +kernel
theorem dX7_seatOne_145 : decode cX7_seatOne 145 = .ok (.iaload, 1) := by decide +kernel
theorem dX7_seatOne_146 : decode cX7_seatOne 146 = .ok (.imul, 1) := by decide +kernel
theorem dX7_seatOne_147 : decode cX7_seatOne 147 = .ok (.aload_n 0, 1) := by decide +kernel
theorem dX7_seatOne_148 : decode cX7_seatOne 148 = .ok (.getfield 53, 3) := by decide +kernel
theorem dX7_seatOne_151 : decode cX7_seatOne 151 = .ok (.iload 4, 2) := by decide +kernel
theorem dX7_seatOne_153 : decode cX7_seatOne 153 = .ok (.iaload, 1) := by decide +kernel
theorem dX7_seatOne_154 : decode cX7_seatOne 154 = .ok (.iadd, 1) := by decide +kernel
theorem dX7_seatOne_155 : decode cX7_seatOne 155 = .ok (.dup2, 1) := by decide +kernel
theorem dX7_seatOne_156 : decode cX7_seatOne 156 = .ok (.iaload, 1) := by decide +kernel
theorem dX7_seatOne_157 : decode cX7_seatOne 157 = .ok (.iconst 1, 1) := by decide +kernel
theorem dX7_seatOne_158 : decode cX7_seatOne 158 = .ok (.isub, 1) := by decide +kernel
theorem dX7_seatOne_159 : decode cX7_seatOne 159 = .ok (.iastore, 1) := by decide +kernel
theorem dX7_seatOne_160 : decode cX7_seatOne 160 = .ok (.aload_n 0, 1) := by decide +kernel
theorem dX7_seatOne_161 : decode cX7_seatOne 161 = .ok (.getfield 53, 3) := by decide +kernel
theorem dX7_seatOne_164 : decode cX7_seatOne 164 = .ok (.iload 4, 2) := by decide +kernel
theorem dX7_seatOne_166 : decode cX7_seatOne 166 = .ok (.iaload, 1) := by decide +kernel
theorem dX7_seatOne_167 : decode cX7_seatOne 167 = .ok (.istore 4, 2) := by decide +kernel
theorem dX7_seatOne_169 : decode cX7_seatOne 169 = .ok (.goto (-66), 3) := by decide +kernel
theorem dX7_seatOne_172 : decode cX7_seatOne 172 = .ok (.aload_n 0, 1) := by decide +kernel
theorem dX7_seatOne_173 : decode cX7_seatOne 173 = .ok (.getfield 47, 3) := by decide +kernel
theorem dX7_seatOne_176 : decode cX7_seatOne 176 = .ok (.iconst 5, 1) := by decide +kernel
theorem dX7_seatOne_177 : decode cX7_seatOne 177 = .ok (.iload_n 1, 1) := by decide +kernel
theorem dX7_seatOne_178 : decode cX7_seatOne 178 = .ok (.imul, 1) := by decide +kernel
theorem dX7_seatOne_179 : decode cX7_seatOne 179 = .ok (.iload 4, 2) := by decide +kernel
theorem dX7_seatOne_181 : decode cX7_seatOne 181 = .ok (.iadd, 1) := by decide +kernel
theorem dX7_seatOne_182 : decode cX7_seatOne 182 = .ok (.dup2, 1) := by decide +kernel
theorem dX7_seatOne_183 : decode cX7_seatOne 183 = .ok (.iaload, 1) := by decide +kernel
theorem dX7_seatOne_184 : decode cX7_seatOne 184 = .ok (.iconst 1, 1) := by decide +kernel
theorem dX7_seatOne_185 : decode cX7_seatOne 185 = .ok (.iadd, 1) := by decide +kernel
theorem dX7_seatOne_186 : decode cX7_seatOne 186 = .ok (.iastore, 1) := by decide +kernel
theorem dX7_seatOne_187 : decode cX7_seatOne 187 = .ok (.iload_n 3, 1) := by decide +kernel
theorem dX7_seatOne_188 : decode cX7_seatOne 188 = .ok (.ireturn, 1) := by decide +kernel
theorem dX7_leastMiles_0 : decode cX7_leastMiles 0 = .ok (.iconst 0, 1) := by decide +kernel
theorem dX7_leastMiles_1 : decode cX7_leastMiles 1 = .ok (.istore_n 1, 1) := by decide +kernel
theorem dX7_leastMiles_2 : decode cX7_leastMiles 2 = .ok (.iload_n 1, 1) := by decide +kernel
theorem dX7_leastMiles_3 : decode cX7_leastMiles 3 = .ok (.bipush 50, 2) := by decide +kernel
theorem dX7_leastMiles_5 : decode cX7_leastMiles 5 = .ok (.if_icmp .ge 16, 3) := by decide +kernel
theorem dX7_leastMiles_8 : decode cX7_leastMiles 8 = .ok (.aload_n 0, 1) := by decide +kernel
theorem dX7_leastMiles_9 : decode cX7_leastMiles 9 = .ok (.getfield 47, 3) := by decide +kernel
theorem dX7_leastMiles_12 : decode cX7_leastMiles 12 = .ok (.iload_n 1, 1) := by decide +kernel
theorem dX7_leastMiles_13 : decode cX7_leastMiles 13 = .ok (.iconst 0, 1) := by decide +kernel
theorem dX7_leastMiles_14 : decode cX7_leastMiles 14 = .ok (.iastore, 1) := by decide +kernel
theorem dX7_leastMiles_15 : decode cX7_leastMiles 15 = .ok (.iinc 1 1, 3) := by decide +kernel
theorem dX7_leastMiles_18 : decode cX7_leastMiles 18 = .ok (.goto (-16), 3) := by decide +kernel
theorem dX7_leastMiles_21 : decode cX7_leastMiles 21 = .ok (.iconst 0, 1) := by decide +kernel
theorem dX7_leastMiles_22 : decode cX7_leastMiles 22 = .ok (.istore_n 1, 1) := by decide +kernel
theorem dX7_leastMiles_23 : decode cX7_leastMiles 23 = .ok (.iconst 0, 1) := by decide +kernel
theorem dX7_leastMiles_24 : decode cX7_leastMiles 24 = .ok (.istore_n 2, 1) := by decide +kernel
theorem dX7_leastMiles_25 : decode cX7_leastMiles 25 = .ok (.iload_n 2, 1) := by decide +kernel
theorem dX7_leastMiles_26 : decode cX7_leastMiles 26 = .ok (.aload_n 0, 1) := by decide +kernel
theorem dX7_leastMiles_27 : decode cX7_leastMiles 27 = .ok (.getfield 112, 3) := by decide +kernel
theorem dX7_leastMiles_30 : decode cX7_leastMiles 30 = .ok (.if_icmp .ge 49, 3) := by decide +kernel
theorem dX7_leastMiles_33 : decode cX7_leastMiles 33 = .ok (.iconst 0, 1) := by decide +kernel
theorem dX7_leastMiles_34 : decode cX7_leastMiles 34 = .ok (.istore_n 3, 1) := by decide +kernel
theorem dX7_leastMiles_35 : decode cX7_leastMiles 35 = .ok (.iload_n 3, 1) := by decide +kernel
theorem dX7_leastMiles_36 : decode cX7_leastMiles 36 = .ok (.aload_n 0, 1) := by decide +kernel
theorem dX7_leastMiles_37 : decode cX7_leastMiles 37 = .ok (.getfield 16, 3) := by decide +kernel
theorem dX7_leastMiles_40 : decode cX7_leastMiles 40 = .ok (.iload_n 2, 1) := by decide +kernel
theorem dX7_leastMiles_41 : decode cX7_leastMiles 41 = .ok (.iaload, 1) := by decide +kernel
theorem dX7_leastMiles_42 : decode cX7_leastMiles 42 = .ok (.if_icmp .ge 31, 3) := by decide +kernel
theorem dX7_leastMiles_45 : decode cX7_leastMiles 45 = .ok (.aload_n 0, 1) := by decide +kernel
theorem dX7_leastMiles_46 : decode cX7_leastMiles 46 = .ok (.iload_n 2, 1) := by decide +kernel
theorem dX7_leastMiles_47 : decode cX7_leastMiles 47 = .ok (.invokevirtual 196, 3) := by decide +kernel
theorem dX7_leastMiles_50 : decode cX7_leastMiles 50 = .ok (.istore 4, 2) := by decide +kernel
theorem dX7_leastMiles_52 : decode cX7_leastMiles 52 = .ok (.iload 4, 2) := by decide +kernel
theorem dX7_leastMiles_54 : decode cX7_leastMiles 54 = .ok (.ldc 185, 2) := by decide +kernel
theorem dX7_leastMiles_56 : decode cX7_leastMiles 56 = .ok (.if_icmp .ne 6, 3) := by decide +kernel
theorem dX7_leastMiles_59 : decode cX7_leastMiles 59 = .ok (.bipush (-9), 2) := by decide +kernel
theorem dX7_leastMiles_61 : decode cX7_leastMiles 61 = .ok (.ireturn, 1) := by decide +kernel
theorem dX7_leastMiles_62 : decode cX7_leastMiles 62 = .ok (.iload_n 1, 1) := by decide +kernel
theorem dX7_leastMiles_63 : decode cX7_leastMiles 63 = .ok (.iload 4, 2) := by decide +kernel
theorem dX7_leastMiles_65 : decode cX7_leastMiles 65 = .ok (.iadd, 1) := by decide +kernel
theorem dX7_leastMiles_66 : decode cX7_leastMiles 66 = .ok (.istore_n 1, 1) := by decide +kernel
theorem dX7_leastMiles_67 : decode cX7_leastMiles 67 = .ok (.iinc 3 1, 3) := by decide +kernel
theorem dX7_leastMiles_70 : decode cX7_leastMiles 70 = .ok (.goto (-35), 3) := by decide +kernel
theorem dX7_leastMiles_73 : decode cX7_leastMiles 73 = .ok (.iinc 2 1, 3) := by decide +kernel
theorem dX7_leastMiles_76 : decode cX7_leastMiles 76 = .ok (.goto (-51), 3) := by decide +kernel
theorem dX7_leastMiles_79 : decode cX7_leastMiles 79 = .ok (.iload_n 1, 1) := by decide +kernel
theorem dX7_leastMiles_80 : decode cX7_leastMiles 80 = .ok (.ireturn, 1) := by decide +kernel
theorem dX7_milesNow_0 : decode cX7_milesNow 0 = .ok (.aload_n 0, 1) := by decide +kernel
theorem dX7_milesNow_1 : decode cX7_milesNow 1 = .ok (.ldc 199, 2) := by decide +kernel
theorem dX7_milesNow_3 : decode cX7_milesNow 3 = .ok (.invokevirtual 200, 3) := by decide +kernel
theorem dX7_milesNow_6 : decode cX7_milesNow 6 = .ok (.aload_n 0, 1) := by decide +kernel
theorem dX7_milesNow_7 : decode cX7_milesNow 7 = .ok (.invokevirtual 203, 3) := by decide +kernel
theorem dX7_milesNow_10 : decode cX7_milesNow 10 = .ok (.ireturn, 1) := by decide +kernel
theorem dX7_miles_0 : decode cX7_miles 0 = .ok (.aload_n 0, 1) := by decide +kernel
theorem dX7_miles_1 : decode cX7_miles 1 = .ok (.invokevirtual 207, 3) := by decide +kernel
theorem dX7_miles_4 : decode cX7_miles 4 = .ok (.ireturn, 1) := by decide +kernel
theorem dX7_few_0 : decode cX7_few 0 = .ok (.iconst 1, 1) := by decide +kernel
theorem dX7_few_1 : decode cX7_few 1 = .ok (.istore_n 1, 1) := by decide +kernel
theorem dX7_few_2 : decode cX7_few 2 = .ok (.iload_n 1, 1) := by decide +kernel
theorem dX7_few_3 : decode cX7_few 3 = .ok (.iconst 1, 1) := by decide +kernel
theorem dX7_few_4 : decode cX7_few 4 = .ok (.aload_n 0, 1) := by decide +kernel
theorem dX7_few_5 : decode cX7_few 5 = .ok (.getfield 112, 3) := by decide +kernel
theorem dX7_few_8 : decode cX7_few 8 = .ok (.ishl, 1) := by decide +kernel
theorem dX7_few_9 : decode cX7_few 9 = .ok (.if_icmp .ge 155, 3) := by decide +kernel
theorem dX7_few_12 : decode cX7_few 12 = .ok (.iconst 0, 1) := by decide +kernel
theorem dX7_few_13 : decode cX7_few 13 = .ok (.istore_n 2, 1) := by decide +kernel
theorem dX7_few_14 : decode cX7_few 14 = .ok (.iconst 0, 1) := by decide +kernel
theorem dX7_few_15 : decode cX7_few 15 = .ok (.istore_n 3, 1) := by decide +kernel
theorem dX7_few_16 : decode cX7_few 16 = .ok (.iconst 0, 1) := by decide +kernel
theorem dX7_few_17 : decode cX7_few 17 = .ok (.istore 4, 2) := by decide +kernel
theorem dX7_few_19 : decode cX7_few 19 = .ok (.iload 4, 2) := by decide +kernel
theorem dX7_few_21 : decode cX7_few 21 = .ok (.aload_n 0, 1) := by decide +kernel
theorem dX7_few_22 : decode cX7_few 22 = .ok (.getfield 112, 3) := by decide +kernel
theorem dX7_few_25 : decode cX7_few 25 = .ok (.if_icmp .ge 32, 3) := by decide +kernel
theorem dX7_few_28 : decode cX7_few 28 = .ok (.iload_n 2, 1) := by decide +kernel
theorem dX7_few_29 : decode cX7_few 29 = .ok (.iload_n 1, 1) := by decide +kernel
theorem dX7_few_30 : decode cX7_few 30 = .ok (.iload 4, 2) := by decide +kernel
theorem dX7_few_32 : decode cX7_few 32 = .ok (.invokestatic 210, 3) := by decide +kernel
theorem dX7_few_35 : decode cX7_few 35 = .ok (.ifCond .eq 13, 3) := by decide +kernel
theorem dX7_few_38 : decode cX7_few 38 = .ok (.aload_n 0, 1) := by decide +kernel
theorem dX7_few_39 : decode cX7_few 39 = .ok (.getfield 16, 3) := by decide +kernel
theorem dX7_few_42 : decode cX7_few 42 = .ok (.iload 4, 2) := by decide +kernel
theorem dX7_few_44 : decode cX7_few 44 = .ok (.iaload, 1) := by decide +kernel
theorem dX7_few_45 : decode cX7_few 45 = .ok (.goto 4, 3) := by decide +kernel
theorem dX7_few_48 : decode cX7_few 48 = .ok (.iconst 0, 1) := by decide +kernel
theorem dX7_few_49 : decode cX7_few 49 = .ok (.iadd, 1) := by decide +kernel
theorem dX7_few_50 : decode cX7_few 50 = .ok (.istore_n 2, 1) := by decide +kernel
theorem dX7_few_51 : decode cX7_few 51 = .ok (.iinc 4 1, 3) := by decide +kernel
theorem dX7_few_54 : decode cX7_few 54 = .ok (.goto (-35), 3) := by decide +kernel
theorem dX7_few_57 : decode cX7_few 57 = .ok (.iconst 0, 1) := by decide +kernel
theorem dX7_few_58 : decode cX7_few 58 = .ok (.istore 4, 2) := by decide +kernel
theorem dX7_few_60 : decode cX7_few 60 = .ok (.iload 4, 2) := by decide +kernel
theorem dX7_few_62 : decode cX7_few 62 = .ok (.aload_n 0, 1) := by decide +kernel
theorem dX7_few_63 : decode cX7_few 63 = .ok (.getfield 115, 3) := by decide +kernel
theorem dX7_few_66 : decode cX7_few 66 = .ok (.if_icmp .ge 85, 3) := by decide +kernel
theorem dX7_few_69 : decode cX7_few 69 = .ok (.iconst 0, 1) := by decide +kernel
theorem dX7_few_70 : decode cX7_few 70 = .ok (.istore 5, 2) := by decide +kernel
theorem dX7_few_72 : decode cX7_few 72 = .ok (.iconst 0, 1) := by decide +kernel
theorem dX7_few_73 : decode cX7_few 73 = .ok (.istore 6, 2) := by decide +kernel
theorem dX7_few_75 : decode cX7_few 75 = .ok (.iload 6, 2) := by decide +kernel
theorem dX7_few_77 : decode cX7_few 77 = .ok (.aload_n 0, 1) := by decide +kernel
theorem dX7_few_78 : decode cX7_few 78 = .ok (.getfield 112, 3) := by decide +kernel
theorem dX7_few_81 : decode cX7_few 81 = .ok (.if_icmp .ge 45, 3) := by decide +kernel
theorem dX7_few_84 : decode cX7_few 84 = .ok (.iload 5, 2) := by decide +kernel
theorem dX7_few_86 : decode cX7_few 86 = .ok (.ifCond .ne 27, 3) := by decide +kernel
theorem dX7_few_89 : decode cX7_few 89 = .ok (.iload_n 1, 1) := by decide +kernel
theorem dX7_few_90 : decode cX7_few 90 = .ok (.iload 6, 2) := by decide +kernel
theorem dX7_few_92 : decode cX7_few 92 = .ok (.invokestatic 210, 3) := by decide +kernel
theorem dX7_few_95 : decode cX7_few 95 = .ok (.ifCond .eq 22, 3) := by decide +kernel
theorem dX7_few_98 : decode cX7_few 98 = .ok (.aload_n 0, 1) := by decide +kernel
theorem dX7_few_99 : decode cX7_few 99 = .ok (.getfield 31, 3) := by decide +kernel
theorem dX7_few_102 : decode cX7_few 102 = .ok (.iconst 5, 1) := by decide +kernel
theorem dX7_few_103 : decode cX7_few 103 = .ok (.iload 6, 2) := by decide +kernel
theorem dX7_few_105 : decode cX7_few 105 = .ok (.imul, 1) := by decide +kernel
theorem dX7_few_106 : decode cX7_few 106 = .ok (.iload 4, 2) := by decide +kernel
theorem dX7_few_108 : decode cX7_few 108 = .ok (.iadd, 1) := by decide +kernel
theorem dX7_few_109 : decode cX7_few 109 = .ok (.baload, 1) := by decide +kernel
theorem dX7_few_110 : decode cX7_few 110 = .ok (.ifCond .ne 7, 3) := by decide +kernel
theorem dX7_few_113 : decode cX7_few 113 = .ok (.iconst 1, 1) := by decide +kernel
theorem dX7_few_114 : decode cX7_few 114 = .ok (.goto 4, 3) := by decide +kernel
theorem dX7_few_117 : decode cX7_few 117 = .ok (.iconst 0, 1) := by decide +kernel
theorem dX7_few_118 : decode cX7_few 118 = .ok (.istore 5, 2) := by decide +kernel
theorem dX7_few_120 : decode cX7_few 120 = .ok (.iinc 6 1, 3) := by decide +kernel
theorem dX7_few_123 : decode cX7_few 123 = .ok (.goto (-48), 3) := by decide +kernel
theorem dX7_few_126 : decode cX7_few 126 = .ok (.iload_n 3, 1) := by decide +kernel
theorem dX7_few_127 : decode cX7_few 127 = .ok (.iload 5, 2) := by decide +kernel
theorem dX7_few_129 : decode cX7_few 129 = .ok (.ifCond .eq 13, 3) := by decide +kernel
theorem dX7_few_132 : decode cX7_few 132 = .ok (.aload_n 0, 1) := by decide +kernel
theorem dX7_few_133 : decode cX7_few 133 = .ok (.getfield 28, 3) := by decide +kernel
theorem dX7_few_136 : decode cX7_few 136 = .ok (.iload 4, 2) := by decide +kernel
theorem dX7_few_138 : decode cX7_few 138 = .ok (.iaload, 1) := by decide +kernel
theorem dX7_few_139 : decode cX7_few 139 = .ok (.goto 4, 3) := by decide +kernel
theorem dX7_few_142 : decode cX7_few 142 = .ok (.iconst 0, 1) := by decide +kernel
theorem dX7_few_143 : decode cX7_few 143 = .ok (.iadd, 1) := by decide +kernel
theorem dX7_few_144 : decode cX7_few 144 = .ok (.istore_n 3, 1) := by decide +kernel
theorem dX7_few_145 : decode cX7_few 145 = .ok (.iinc 4 1, 3) := by decide +kernel
theorem dX7_few_148 : decode cX7_few 148 = .ok (.goto (-88), 3) := by decide +kernel
theorem dX7_few_151 : decode cX7_few 151 = .ok (.iload_n 2, 1) := by decide +kernel
theorem dX7_few_152 : decode cX7_few 152 = .ok (.iload_n 3, 1) := by decide +kernel
theorem dX7_few_153 : decode cX7_few 153 = .ok (.if_icmp .le 5, 3) := by decide +kernel
theorem dX7_few_156 : decode cX7_few 156 = .ok (.iload_n 1, 1) := by decide +kernel
theorem dX7_few_157 : decode cX7_few 157 = .ok (.ireturn, 1) := by decide +kernel
theorem dX7_few_158 : decode cX7_few 158 = .ok (.iinc 1 1, 3) := by decide +kernel
theorem dX7_few_161 : decode cX7_few 161 = .ok (.goto (-159), 3) := by decide +kernel
theorem dX7_few_164 : decode cX7_few 164 = .ok (.iconst 0, 1) := by decide +kernel
theorem dX7_few_165 : decode cX7_few 165 = .ok (.ireturn, 1) := by decide +kernel
theorem dX7_layWeights_0 : decode cX7_layWeights 0 = .ok (.aload_n 0, 1) := by decide +kernel
theorem dX7_layWeights_1 : decode cX7_layWeights 1 = .ok (.invokevirtual 207, 3) := by decide +kernel
theorem dX7_layWeights_4 : decode cX7_layWeights 4 = .ok (.istore_n 1, 1) := by decide +kernel
theorem dX7_layWeights_5 : decode cX7_layWeights 5 = .ok (.iconst 0, 1) := by decide +kernel
theorem dX7_layWeights_6 : decode cX7_layWeights 6 = .ok (.istore_n 2, 1) := by decide +kernel
theorem dX7_layWeights_7 : decode cX7_layWeights 7 = .ok (.iload_n 2, 1) := by decide +kernel
theorem dX7_layWeights_8 : decode cX7_layWeights 8 = .ok (.aload_n 0, 1) := by decide +kernel
theorem dX7_layWeights_9 : decode cX7_layWeights 9 = .ok (.getfield 115, 3) := by decide +kernel
theorem dX7_layWeights_12 : decode cX7_layWeights 12 = .ok (.if_icmp .ge 41, 3) := by decide +kernel
theorem dX7_layWeights_15 : decode cX7_layWeights 15 = .ok (.iload_n 1, 1) := by decide +kernel
theorem dX7_layWeights_16 : decode cX7_layWeights 16 = .ok (.ifCond .lt 37, 3) := by decide +kernel
theorem dX7_layWeights_19 : decode cX7_layWeights 19 = .ok (.aload_n 0, 1) := by decide +kernel
theorem dX7_layWeights_20 : decode cX7_layWeights 20 = .ok (.ldc 199, 2) := by decide +kernel
theorem dX7_layWeights_22 : decode cX7_layWeights 22 = .ok (.invokevirtual 200, 3) := by decide +kernel
theorem dX7_layWeights_25 : decode cX7_layWeights 25 = .ok (.aload_n 0, 1) := by decide +kernel
theorem dX7_layWeights_26 : decode cX7_layWeights 26 = .ok (.getfield 41, 3) := by decide +kernel
theorem dX7_layWeights_29 : decode cX7_layWeights 29 = .ok (.iload_n 2, 1) := by decide +kernel
theorem dX7_layWeights_30 : decode cX7_layWeights 30 = .ok (.dup2, 1) := by decide +kernel
theorem dX7_layWeights_31 : decode cX7_layWeights 31 = .ok (.iaload, 1) := by decide +kernel
theorem dX7_layWeights_32 : decode cX7_layWeights 32 = .ok (.iconst 1, 1) := by decide +kernel
theorem dX7_layWeights_33 : decode cX7_layWeights 33 = .ok (.iadd, 1) := by decide +kernel
theorem dX7_layWeights_34 : decode cX7_layWeights 34 = .ok (.iastore, 1) := by decide +kernel
theorem dX7_layWeights_35 : decode cX7_layWeights 35 = .ok (.aload_n 0, 1) := by decide +kernel
theorem dX7_layWeights_36 : decode cX7_layWeights 36 = .ok (.getfield 59, 3) := by decide +kernel
theorem dX7_layWeights_39 : decode cX7_layWeights 39 = .ok (.iload_n 2, 1) := by decide +kernel
theorem dX7_layWeights_40 : decode cX7_layWeights 40 = .ok (.iload_n 1, 1) := by decide +kernel
theorem dX7_layWeights_41 : decode cX7_layWeights 41 = .ok (.aload_n 0, 1) := by decide +kernel
theorem dX7_layWeights_42 : decode cX7_layWeights 42 = .ok (.invokevirtual 203, 3) := by decide +kernel
theorem dX7_layWeights_45 : decode cX7_layWeights 45 = .ok (.isub, 1) := by decide +kernel
theorem dX7_layWeights_46 : decode cX7_layWeights 46 = .ok (.iastore, 1) := by decide +kernel
theorem dX7_layWeights_47 : decode cX7_layWeights 47 = .ok (.iinc 2 1, 3) := by decide +kernel
theorem dX7_layWeights_50 : decode cX7_layWeights 50 = .ok (.goto (-43), 3) := by decide +kernel
theorem dX7_layWeights_53 : decode cX7_layWeights 53 = .ok (.iload_n 1, 1) := by decide +kernel
theorem dX7_layWeights_54 : decode cX7_layWeights 54 = .ok (.ifCond .lt 7, 3) := by decide +kernel
theorem dX7_layWeights_57 : decode cX7_layWeights 57 = .ok (.iconst 1, 1) := by decide +kernel
theorem dX7_layWeights_58 : decode cX7_layWeights 58 = .ok (.goto 4, 3) := by decide +kernel
theorem dX7_layWeights_61 : decode cX7_layWeights 61 = .ok (.iconst 0, 1) := by decide +kernel
theorem dX7_layWeights_62 : decode cX7_layWeights 62 = .ok (.ireturn, 1) := by decide +kernel
theorem dX7_weight_0 : decode cX7_weight 0 = .ok (.aload_n 0, 1) := by decide +kernel
theorem dX7_weight_1 : decode cX7_weight 1 = .ok (.iload_n 1, 1) := by decide +kernel
theorem dX7_weight_2 : decode cX7_weight 2 = .ok (.invokevirtual 173, 3) := by decide +kernel
theorem dX7_weight_5 : decode cX7_weight 5 = .ok (.ifCond .eq 5, 3) := by decide +kernel
theorem dX7_weight_8 : decode cX7_weight 8 = .ok (.iconst (-1), 1) := by decide +kernel
theorem dX7_weight_9 : decode cX7_weight 9 = .ok (.ireturn, 1) := by decide +kernel
theorem dX7_weight_10 : decode cX7_weight 10 = .ok (.aload_n 0, 1) := by decide +kernel
theorem dX7_weight_11 : decode cX7_weight 11 = .ok (.invokevirtual 213, 3) := by decide +kernel
theorem dX7_weight_14 : decode cX7_weight 14 = .ok (.ifCond .eq 12, 3) := by decide +kernel
theorem dX7_weight_17 : decode cX7_weight 17 = .ok (.aload_n 0, 1) := by decide +kernel
theorem dX7_weight_18 : decode cX7_weight 18 = .ok (.getfield 59, 3) := by decide +kernel
theorem dX7_weight_21 : decode cX7_weight 21 = .ok (.iload_n 1, 1) := by decide +kernel
theorem dX7_weight_22 : decode cX7_weight 22 = .ok (.iaload, 1) := by decide +kernel
theorem dX7_weight_23 : decode cX7_weight 23 = .ok (.goto 5, 3) := by decide +kernel
theorem dX7_weight_26 : decode cX7_weight 26 = .ok (.bipush (-9), 2) := by decide +kernel
theorem dX7_weight_28 : decode cX7_weight 28 = .ok (.ireturn, 1) := by decide +kernel
theorem dX7_line_0 : decode cX7_line 0 = .ok (.aload_n 0, 1) := by decide +kernel
theorem dX7_line_1 : decode cX7_line 1 = .ok (.iload_n 1, 1) := by decide +kernel
theorem dX7_line_2 : decode cX7_line 2 = .ok (.invokevirtual 170, 3) := by decide +kernel
theorem dX7_line_5 : decode cX7_line 5 = .ok (.ifCond .eq 5, 3) := by decide +kernel
theorem dX7_line_8 : decode cX7_line 8 = .ok (.iconst (-1), 1) := by decide +kernel
theorem dX7_line_9 : decode cX7_line 9 = .ok (.ireturn, 1) := by decide +kernel
theorem dX7_line_10 : decode cX7_line 10 = .ok (.aload_n 0, 1) := by decide +kernel
theorem dX7_line_11 : decode cX7_line 11 = .ok (.invokevirtual 213, 3) := by decide +kernel
theorem dX7_line_14 : decode cX7_line 14 = .ok (.ifCond .ne 6, 3) := by decide +kernel
theorem dX7_line_17 : decode cX7_line 17 = .ok (.bipush (-9), 2) := by decide +kernel
theorem dX7_line_19 : decode cX7_line 19 = .ok (.ireturn, 1) := by decide +kernel
theorem dX7_line_20 : decode cX7_line 20 = .ok (.iconst 0, 1) := by decide +kernel
theorem dX7_line_21 : decode cX7_line 21 = .ok (.istore_n 2, 1) := by decide +kernel
theorem dX7_line_22 : decode cX7_line 22 = .ok (.ldc 185, 2) := by decide +kernel
theorem dX7_line_24 : decode cX7_line 24 = .ok (.istore_n 3, 1) := by decide +kernel
theorem dX7_line_25 : decode cX7_line 25 = .ok (.iconst 0, 1) := by decide +kernel
theorem dX7_line_26 : decode cX7_line 26 = .ok (.istore 4, 2) := by decide +kernel
theorem dX7_line_28 : decode cX7_line 28 = .ok (.iload 4, 2) := by decide +kernel
theorem dX7_line_30 : decode cX7_line 30 = .ok (.aload_n 0, 1) := by decide +kernel
theorem dX7_line_31 : decode cX7_line 31 = .ok (.getfield 115, 3) := by decide +kernel
theorem dX7_line_34 : decode cX7_line 34 = .ok (.if_icmp .ge 106, 3) := by decide +kernel
theorem dX7_line_37 : decode cX7_line 37 = .ok (.aload_n 0, 1) := by decide +kernel
theorem dX7_line_38 : decode cX7_line 38 = .ok (.getfield 31, 3) := by decide +kernel
theorem dX7_line_41 : decode cX7_line 41 = .ok (.iconst 5, 1) := by decide +kernel
theorem dX7_line_42 : decode cX7_line 42 = .ok (.iload_n 1, 1) := by decide +kernel
theorem dX7_line_43 : decode cX7_line 43 = .ok (.imul, 1) := by decide +kernel
theorem dX7_line_44 : decode cX7_line 44 = .ok (.iload 4, 2) := by decide +kernel
theorem dX7_line_46 : decode cX7_line 46 = .ok (.iadd, 1) := by decide +kernel
theorem dX7_line_47 : decode cX7_line 47 = .ok (.baload, 1) := by decide +kernel
theorem dX7_line_48 : decode cX7_line 48 = .ok (.ifCond .eq 8, 3) := by decide +kernel
theorem dX7_line_51 : decode cX7_line 51 = .ok (.ldc 185, 2) := by decide +kernel
theorem dX7_line_53 : decode cX7_line 53 = .ok (.goto 29, 3) := by decide +kernel
theorem dX7_line_56 : decode cX7_line 56 = .ok (.aload_n 0, 1) := by decide +kernel
theorem dX7_line_57 : decode cX7_line 57 = .ok (.aload_n 0, 1) := by decide +kernel
theorem dX7_line_58 : decode cX7_line 58 = .ok (.getfield 7, 3) := by decide +kernel
theorem dX7_line_61 : decode cX7_line 61 = .ok (.iload_n 1, 1) := by decide +kernel
theorem dX7_line_62 : decode cX7_line 62 = .ok (.iaload, 1) := by decide +kernel
theorem dX7_line_63 : decode cX7_line 63 = .ok (.aload_n 0, 1) := by decide +kernel
theorem dX7_line_64 : decode cX7_line 64 = .ok (.getfield 13, 3) := by decide +kernel
theorem dX7_line_67 : decode cX7_line 67 = .ok (.iload_n 1, 1) := by decide +kernel
theorem dX7_line_68 : decode cX7_line 68 = .ok (.iaload, 1) := by decide +kernel
theorem dX7_line_69 : decode cX7_line 69 = .ok (.iload 4, 2) := by decide +kernel
theorem dX7_line_71 : decode cX7_line 71 = .ok (.invokevirtual 181, 3) := by decide +kernel
theorem dX7_line_74 : decode cX7_line 74 = .ok (.aload_n 0, 1) := by decide +kernel
theorem dX7_line_75 : decode cX7_line 75 = .ok (.getfield 59, 3) := by decide +kernel
theorem dX7_line_78 : decode cX7_line 78 = .ok (.iload 4, 2) := by decide +kernel
theorem dX7_line_80 : decode cX7_line 80 = .ok (.iaload, 1) := by decide +kernel
theorem dX7_line_81 : decode cX7_line 81 = .ok (.iadd, 1) := by decide +kernel
theorem dX7_line_82 : decode cX7_line 82 = .ok (.istore 5, 2) := by decide +kernel
theorem dX7_line_84 : decode cX7_line 84 = .ok (.iload 5, 2) := by decide +kernel
theorem dX7_line_86 : decode cX7_line 86 = .ok (.iload_n 3, 1) := by decide +kernel
theorem dX7_line_87 : decode cX7_line 87 = .ok (.if_icmp .ge 10, 3) := by decide +kernel
theorem dX7_line_90 : decode cX7_line 90 = .ok (.iconst 1, 1) := by decide +kernel
theorem dX7_line_91 : decode cX7_line 91 = .ok (.iload 4, 2) := by decide +kernel
theorem dX7_line_93 : decode cX7_line 93 = .ok (.ishl, 1) := by decide +kernel
theorem dX7_line_94 : decode cX7_line 94 = .ok (.goto 26, 3) := by decide +kernel
theorem dX7_line_97 : decode cX7_line 97 = .ok (.iload 5, 2) := by decide +kernel
theorem dX7_line_99 : decode cX7_line 99 = .ok (.iload_n 3, 1) := by decide +kernel
theorem dX7_line_100 : decode cX7_line 100 = .ok (.if_icmp .ne 19, 3) := by decide +kernel
theorem dX7_line_103 : decode cX7_line 103 = .ok (.iload 5, 2) := by decide +kernel
theorem dX7_line_105 : decode cX7_line 105 = .ok (.ldc 185, 2) := by decide +kernel
theorem dX7_line_107 : decode cX7_line 107 = .ok (.if_icmp .ge 12, 3) := by decide +kernel
theorem dX7_line_110 : decode cX7_line 110 = .ok (.iload_n 2, 1) := by decide +kernel
theorem dX7_line_111 : decode cX7_line 111 = .ok (.iconst 1, 1) := by decide +kernel
theorem dX7_line_112 : decode cX7_line 112 = .ok (.iload 4, 2) := by decide +kernel
theorem dX7_line_114 : decode cX7_line 114 = .ok (.ishl, 1) := by decide +kernel
theorem dX7_line_115 : decode cX7_line 115 = .ok (.ior, 1) := by decide +kernel
theorem dX7_line_116 : decode cX7_line 116 = .ok (.goto 4, 3) := by decide +kernel
theorem dX7_line_119 : decode cX7_line 119 = .ok (.iload_n 2, 1) := by decide +kernel
theorem dX7_line_120 : decode cX7_line 120 = .ok (.istore_n 2, 1) := by decide +kernel
theorem dX7_line_121 : decode cX7_line 121 = .ok (.iload 5, 2) := by decide +kernel
theorem dX7_line_123 : decode cX7_line 123 = .ok (.iload_n 3, 1) := by decide +kernel
theorem dX7_line_124 : decode cX7_line 124 = .ok (.if_icmp .ge 8, 3) := by decide +kernel
theorem dX7_line_127 : decode cX7_line 127 = .ok (.iload 5, 2) := by decide +kernel
theorem dX7_line_129 : decode cX7_line 129 = .ok (.goto 4, 3) := by decide +kernel
theorem dX7_line_132 : decode cX7_line 132 = .ok (.iload_n 3, 1) := by decide +kernel
theorem dX7_line_133 : decode cX7_line 133 = .ok (.istore_n 3, 1) := by decide +kernel
theorem dX7_line_134 : decode cX7_line 134 = .ok (.iinc 4 1, 3) := by decide +kernel
theorem dX7_line_137 : decode cX7_line 137 = .ok (.goto (-109), 3) := by decide +kernel
theorem dX7_line_140 : decode cX7_line 140 = .ok (.iload_n 2, 1) := by decide +kernel
theorem dX7_line_141 : decode cX7_line 141 = .ok (.ireturn, 1) := by decide +kernel
theorem dX7_holdsFor_0 : decode cX7_holdsFor 0 = .ok (.ldc2_w 217, 3) := by decide +kernel
theorem dX7_holdsFor_3 : decode cX7_holdsFor 3 = .ok (.lstore 4, 2) := by decide +kernel
theorem dX7_holdsFor_5 : decode cX7_holdsFor 5 = .ok (.iconst 0, 1) := by decide +kernel
theorem dX7_holdsFor_6 : decode cX7_holdsFor 6 = .ok (.istore 6, 2) := by decide +kernel
theorem dX7_holdsFor_8 : decode cX7_holdsFor 8 = .ok (.iload 6, 2) := by decide +kernel
theorem dX7_holdsFor_10 : decode cX7_holdsFor 10 = .ok (.aload_n 0, 1) := by decide +kernel
theorem dX7_holdsFor_11 : decode cX7_holdsFor 11 = .ok (.getfield 115, 3) := by decide +kernel
theorem dX7_holdsFor_14 : decode cX7_holdsFor 14 = .ok (.if_icmp .ge 72, 3) := by decide +kernel
theorem dX7_holdsFor_17 : decode cX7_holdsFor 17 = .ok (.aload_n 0, 1) := by decide +kernel
theorem dX7_holdsFor_18 : decode cX7_holdsFor 18 = .ok (.aload_n 0, 1) := by decide +kernel
theorem dX7_holdsFor_19 : decode cX7_holdsFor 19 = .ok (.getfield 7, 3) := by decide +kernel
theorem dX7_holdsFor_22 : decode cX7_holdsFor 22 = .ok (.iload_n 1, 1) := by decide +kernel
theorem dX7_holdsFor_23 : decode cX7_holdsFor 23 = .ok (.iaload, 1) := by decide +kernel
theorem dX7_holdsFor_24 : decode cX7_holdsFor 24 = .ok (.aload_n 0, 1) := by decide +kernel
theorem dX7_holdsFor_25 : decode cX7_holdsFor 25 = .ok (.getfield 13, 3) := by decide +kernel
theorem dX7_holdsFor_28 : decode cX7_holdsFor 28 = .ok (.iload_n 1, 1) := by decide +kernel
theorem dX7_holdsFor_29 : decode cX7_holdsFor 29 = .ok (.iaload, 1) := by decide +kernel
theorem dX7_holdsFor_30 : decode cX7_holdsFor 30 = .ok (.iload 6, 2) := by decide +kernel
theorem dX7_holdsFor_32 : decode cX7_holdsFor 32 = .ok (.invokevirtual 181, 3) := by decide +kernel
theorem dX7_holdsFor_35 : decode cX7_holdsFor 35 = .ok (.i2l, 1) := by decide +kernel
theorem dX7_holdsFor_36 : decode cX7_holdsFor 36 = .ok (.aload_n 0, 1) := by decide +kernel
theorem dX7_holdsFor_37 : decode cX7_holdsFor 37 = .ok (.getfield 74, 3) := by decide +kernel
theorem dX7_holdsFor_40 : decode cX7_holdsFor 40 = .ok (.iload_n 3, 1) := by decide +kernel
theorem dX7_holdsFor_41 : decode cX7_holdsFor 41 = .ok (.iload 6, 2) := by decide +kernel
theorem dX7_holdsFor_43 : decode cX7_holdsFor 43 = .ok (.iadd, 1) := by decide +kernel
theorem dX7_holdsFor_44 : decode cX7_holdsFor 44 = .ok (.iaload, 1) := by decide +kernel
theorem dX7_holdsFor_45 : decode cX7_holdsFor 45 = .ok (.i2l, 1) := by decide +kernel
theorem dX7_holdsFor_46 : decode cX7_holdsFor 46 = .ok (.ladd, 1) := by decide +kernel
theorem dX7_holdsFor_47 : decode cX7_holdsFor 47 = .ok (.lstore 7, 2) := by decide +kernel
theorem dX7_holdsFor_49 : decode cX7_holdsFor 49 = .ok (.aload_n 0, 1) := by decide +kernel
theorem dX7_holdsFor_50 : decode cX7_holdsFor 50 = .ok (.getfield 31, 3) := by decide +kernel
theorem dX7_holdsFor_53 : decode cX7_holdsFor 53 = .ok (.iconst 5, 1) := by decide +kernel
theorem dX7_holdsFor_54 : decode cX7_holdsFor 54 = .ok (.iload_n 1, 1) := by decide +kernel
theorem dX7_holdsFor_55 : decode cX7_holdsFor 55 = .ok (.imul, 1) := by decide +kernel
theorem dX7_holdsFor_56 : decode cX7_holdsFor 56 = .ok (.iload 6, 2) := by decide +kernel
theorem dX7_holdsFor_58 : decode cX7_holdsFor 58 = .ok (.iadd, 1) := by decide +kernel
theorem dX7_holdsFor_59 : decode cX7_holdsFor 59 = .ok (.baload, 1) := by decide +kernel
theorem dX7_holdsFor_60 : decode cX7_holdsFor 60 = .ok (.ifCond .ne 16, 3) := by decide +kernel
theorem dX7_holdsFor_63 : decode cX7_holdsFor 63 = .ok (.lload 7, 2) := by decide +kernel
theorem dX7_holdsFor_65 : decode cX7_holdsFor 65 = .ok (.lload 4, 2) := by decide +kernel
theorem dX7_holdsFor_67 : decode cX7_holdsFor 67 = .ok (.lcmp, 1) := by decide +kernel
theorem dX7_holdsFor_68 : decode cX7_holdsFor 68 = .ok (.ifCond .ge 8, 3) := by decide +kernel
theorem dX7_holdsFor_71 : decode cX7_holdsFor 71 = .ok (.lload 7, 2) := by decide +kernel
theorem dX7_holdsFor_73 : decode cX7_holdsFor 73 = .ok (.goto 5, 3) := by decide +kernel
theorem dX7_holdsFor_76 : decode cX7_holdsFor 76 = .ok (.lload 4, 2) := by decide +kernel
theorem dX7_holdsFor_78 : decode cX7_holdsFor 78 = .ok (.lstore 4, 2) := by decide +kernel
theorem dX7_holdsFor_80 : decode cX7_holdsFor 80 = .ok (.iinc 6 1, 3) := by decide +kernel
theorem dX7_holdsFor_83 : decode cX7_holdsFor 83 = .ok (.goto (-75), 3) := by decide +kernel
theorem dX7_holdsFor_86 : decode cX7_holdsFor 86 = .ok (.lconst 0, 1) := by decide +kernel
theorem dX7_holdsFor_87 : decode cX7_holdsFor 87 = .ok (.lstore 6, 2) := by decide +kernel
theorem dX7_holdsFor_89 : decode cX7_holdsFor 89 = .ok (.iconst 1, 1) := by decide +kernel
theorem dX7_holdsFor_90 : decode cX7_holdsFor 90 = .ok (.istore 8, 2) := by decide +kernel
theorem dX7_holdsFor_92 : decode cX7_holdsFor 92 = .ok (.iconst 0, 1) := by decide +kernel
theorem dX7_holdsFor_93 : decode cX7_holdsFor 93 = .ok (.istore 9, 2) := by decide +kernel
theorem dX7_holdsFor_95 : decode cX7_holdsFor 95 = .ok (.iload 9, 2) := by decide +kernel
theorem dX7_holdsFor_97 : decode cX7_holdsFor 97 = .ok (.aload_n 0, 1) := by decide +kernel
theorem dX7_holdsFor_98 : decode cX7_holdsFor 98 = .ok (.getfield 115, 3) := by decide +kernel
theorem dX7_holdsFor_101 : decode cX7_holdsFor 101 = .ok (.if_icmp .ge 111, 3) := by decide +kernel
theorem dX7_holdsFor_104 : decode cX7_holdsFor 104 = .ok (.aload_n 0, 1) := by decide +kernel
theorem dX7_holdsFor_105 : decode cX7_holdsFor 105 = .ok (.getfield 74, 3) := by decide +kernel
theorem dX7_holdsFor_108 : decode cX7_holdsFor 108 = .ok (.iload_n 2, 1) := by decide +kernel
theorem dX7_holdsFor_109 : decode cX7_holdsFor 109 = .ok (.aload_n 0, 1) := by decide +kernel
theorem dX7_holdsFor_110 : decode cX7_holdsFor 110 = .ok (.getfield 115, 3) := by decide +kernel
theorem dX7_holdsFor_113 : decode cX7_holdsFor 113 = .ok (.iload_n 1, 1) := by decide +kernel
theorem dX7_holdsFor_114 : decode cX7_holdsFor 114 = .ok (.imul, 1) := by decide +kernel
theorem dX7_holdsFor_115 : decode cX7_holdsFor 115 = .ok (.iadd, 1) := by decide +kernel
theorem dX7_holdsFor_116 : decode cX7_holdsFor 116 = .ok (.iload 9, 2) := by decide +kernel
theorem dX7_holdsFor_118 : decode cX7_holdsFor 118 = .ok (.iadd, 1) := by decide +kernel
theorem dX7_holdsFor_119 : decode cX7_holdsFor 119 = .ok (.iaload, 1) := by decide +kernel
theorem dX7_holdsFor_120 : decode cX7_holdsFor 120 = .ok (.istore 10, 2) := by decide +kernel
theorem dX7_holdsFor_122 : decode cX7_holdsFor 122 = .ok (.aload_n 0, 1) := by decide +kernel
theorem dX7_holdsFor_123 : decode cX7_holdsFor 123 = .ok (.aload_n 0, 1) := by decide +kernel
theorem dX7_holdsFor_124 : decode cX7_holdsFor 124 = .ok (.getfield 7, 3) := by decide +kernel
theorem dX7_holdsFor_127 : decode cX7_holdsFor 127 = .ok (.iload_n 1, 1) := by decide +kernel
theorem dX7_holdsFor_128 : decode cX7_holdsFor 128 = .ok (.iaload, 1) := by decide +kernel
theorem dX7_holdsFor_129 : decode cX7_holdsFor 129 = .ok (.aload_n 0, 1) := by decide +kernel
theorem dX7_holdsFor_130 : decode cX7_holdsFor 130 = .ok (.getfield 13, 3) := by decide +kernel
theorem dX7_holdsFor_133 : decode cX7_holdsFor 133 = .ok (.iload_n 1, 1) := by decide +kernel
theorem dX7_holdsFor_134 : decode cX7_holdsFor 134 = .ok (.iaload, 1) := by decide +kernel
theorem dX7_holdsFor_135 : decode cX7_holdsFor 135 = .ok (.iload 9, 2) := by decide +kernel
theorem dX7_holdsFor_137 : decode cX7_holdsFor 137 = .ok (.invokevirtual 181, 3) := by decide +kernel
theorem dX7_holdsFor_140 : decode cX7_holdsFor 140 = .ok (.i2l, 1) := by decide +kernel
theorem dX7_holdsFor_141 : decode cX7_holdsFor 141 = .ok (.aload_n 0, 1) := by decide +kernel
theorem dX7_holdsFor_142 : decode cX7_holdsFor 142 = .ok (.getfield 74, 3) := by decide +kernel
theorem dX7_holdsFor_145 : decode cX7_holdsFor 145 = .ok (.iload_n 3, 1) := by decide +kernel
theorem dX7_holdsFor_146 : decode cX7_holdsFor 146 = .ok (.iload 9, 2) := by decide +kernel
theorem dX7_holdsFor_148 : decode cX7_holdsFor 148 = .ok (.iadd, 1) := by decide +kernel
theorem dX7_holdsFor_149 : decode cX7_holdsFor 149 = .ok (.iaload, 1) := by decide +kernel
theorem dX7_holdsFor_150 : decode cX7_holdsFor 150 = .ok (.i2l, 1) := by decide +kernel
theorem dX7_holdsFor_151 : decode cX7_holdsFor 151 = .ok (.ladd, 1) := by decide +kernel
theorem dX7_holdsFor_152 : decode cX7_holdsFor 152 = .ok (.lstore 11, 2) := by decide +kernel
theorem dX7_holdsFor_154 : decode cX7_holdsFor 154 = .ok (.iload 8, 2) := by decide +kernel
theorem dX7_holdsFor_156 : decode cX7_holdsFor 156 = .ok (.ifCond .eq 39, 3) := by decide +kernel
theorem dX7_holdsFor_159 : decode cX7_holdsFor 159 = .ok (.iload 10, 2) := by decide +kernel
theorem dX7_holdsFor_161 : decode cX7_holdsFor 161 = .ok (.ifCond .lt 34, 3) := by decide +kernel
theorem dX7_holdsFor_164 : decode cX7_holdsFor 164 = .ok (.iload 10, 2) := by decide +kernel
theorem dX7_holdsFor_166 : decode cX7_holdsFor 166 = .ok (.ifCond .eq 25, 3) := by decide +kernel
theorem dX7_holdsFor_169 : decode cX7_holdsFor 169 = .ok (.aload_n 0, 1) := by decide +kernel
theorem dX7_holdsFor_170 : decode cX7_holdsFor 170 = .ok (.getfield 31, 3) := by decide +kernel
theorem dX7_holdsFor_173 : decode cX7_holdsFor 173 = .ok (.iconst 5, 1) := by decide +kernel
theorem dX7_holdsFor_174 : decode cX7_holdsFor 174 = .ok (.iload_n 1, 1) := by decide +kernel
theorem dX7_holdsFor_175 : decode cX7_holdsFor 175 = .ok (.imul, 1) := by decide +kernel
theorem dX7_holdsFor_176 : decode cX7_holdsFor 176 = .ok (.iload 9, 2) := by decide +kernel
theorem dX7_holdsFor_178 : decode cX7_holdsFor 178 = .ok (.iadd, 1) := by decide +kernel
theorem dX7_holdsFor_179 : decode cX7_holdsFor 179 = .ok (.baload, 1) := by decide +kernel
theorem dX7_holdsFor_180 : decode cX7_holdsFor 180 = .ok (.ifCond .ne 15, 3) := by decide +kernel
theorem dX7_holdsFor_183 : decode cX7_holdsFor 183 = .ok (.lload 11, 2) := by decide +kernel
theorem dX7_holdsFor_185 : decode cX7_holdsFor 185 = .ok (.lload 4, 2) := by decide +kernel
theorem dX7_holdsFor_187 : decode cX7_holdsFor 187 = .ok (.lcmp, 1) := by decide +kernel
theorem dX7_holdsFor_188 : decode cX7_holdsFor 188 = .ok (.ifCond .ne 7, 3) := by decide +kernel
theorem dX7_holdsFor_191 : decode cX7_holdsFor 191 = .ok (.iconst 1, 1) := by decide +kernel
theorem dX7_holdsFor_192 : decode cX7_holdsFor 192 = .ok (.goto 4, 3) := by decide +kernel
theorem dX7_holdsFor_195 : decode cX7_holdsFor 195 = .ok (.iconst 0, 1) := by decide +kernel
theorem dX7_holdsFor_196 : decode cX7_holdsFor 196 = .ok (.istore 8, 2) := by decide +kernel
theorem dX7_holdsFor_198 : decode cX7_holdsFor 198 = .ok (.lload 6, 2) := by decide +kernel
theorem dX7_holdsFor_200 : decode cX7_holdsFor 200 = .ok (.iload 10, 2) := by decide +kernel
theorem dX7_holdsFor_202 : decode cX7_holdsFor 202 = .ok (.i2l, 1) := by decide +kernel
theorem dX7_holdsFor_203 : decode cX7_holdsFor 203 = .ok (.ladd, 1) := by decide +kernel
theorem dX7_holdsFor_204 : decode cX7_holdsFor 204 = .ok (.lstore 6, 2) := by decide +kernel
theorem dX7_holdsFor_206 : decode cX7_holdsFor 206 = .ok (.iinc 9 1, 3) := by decide +kernel
theorem dX7_holdsFor_209 : decode cX7_holdsFor 209 = .ok (.goto (-114), 3) := by decide +kernel
theorem dX7_holdsFor_212 : decode cX7_holdsFor 212 = .ok (.iload 8, 2) := by decide +kernel
theorem dX7_holdsFor_214 : decode cX7_holdsFor 214 = .ok (.ifCond .eq 20, 3) := by decide +kernel
theorem dX7_holdsFor_217 : decode cX7_holdsFor 217 = .ok (.lload 6, 2) := by decide +kernel
theorem dX7_holdsFor_219 : decode cX7_holdsFor 219 = .ok (.aload_n 0, 1) := by decide +kernel
theorem dX7_holdsFor_220 : decode cX7_holdsFor 220 = .ok (.getfield 16, 3) := by decide +kernel
theorem dX7_holdsFor_223 : decode cX7_holdsFor 223 = .ok (.iload_n 1, 1) := by decide +kernel
theorem dX7_holdsFor_224 : decode cX7_holdsFor 224 = .ok (.iaload, 1) := by decide +kernel
theorem dX7_holdsFor_225 : decode cX7_holdsFor 225 = .ok (.i2l, 1) := by decide +kernel
theorem dX7_holdsFor_226 : decode cX7_holdsFor 226 = .ok (.lcmp, 1) := by decide +kernel
theorem dX7_holdsFor_227 : decode cX7_holdsFor 227 = .ok (.ifCond .ne 7, 3) := by decide +kernel
theorem dX7_holdsFor_230 : decode cX7_holdsFor 230 = .ok (.iconst 1, 1) := by decide +kernel
theorem dX7_holdsFor_231 : decode cX7_holdsFor 231 = .ok (.goto 4, 3) := by decide +kernel
theorem dX7_holdsFor_234 : decode cX7_holdsFor 234 = .ok (.iconst 0, 1) := by decide +kernel
theorem dX7_holdsFor_235 : decode cX7_holdsFor 235 = .ok (.ireturn, 1) := by decide +kernel
theorem dX7_holdsIn_0 : decode cX7_holdsIn 0 = .ok (.lconst 0, 1) := by decide +kernel
theorem dX7_holdsIn_1 : decode cX7_holdsIn 1 = .ok (.lstore 4, 2) := by decide +kernel
theorem dX7_holdsIn_3 : decode cX7_holdsIn 3 = .ok (.iconst 0, 1) := by decide +kernel
theorem dX7_holdsIn_4 : decode cX7_holdsIn 4 = .ok (.istore 6, 2) := by decide +kernel
theorem dX7_holdsIn_6 : decode cX7_holdsIn 6 = .ok (.iload 6, 2) := by decide +kernel
theorem dX7_holdsIn_8 : decode cX7_holdsIn 8 = .ok (.aload_n 0, 1) := by decide +kernel
theorem dX7_holdsIn_9 : decode cX7_holdsIn 9 = .ok (.getfield 112, 3) := by decide +kernel
theorem dX7_holdsIn_12 : decode cX7_holdsIn 12 = .ok (.if_icmp .ge 31, 3) := by decide +kernel
theorem dX7_holdsIn_15 : decode cX7_holdsIn 15 = .ok (.lload 4, 2) := by decide +kernel
theorem dX7_holdsIn_17 : decode cX7_holdsIn 17 = .ok (.aload_n 0, 1) := by decide +kernel
theorem dX7_holdsIn_18 : decode cX7_holdsIn 18 = .ok (.getfield 74, 3) := by decide +kernel
theorem dX7_holdsIn_21 : decode cX7_holdsIn 21 = .ok (.iload_n 2, 1) := by decide +kernel
theorem dX7_holdsIn_22 : decode cX7_holdsIn 22 = .ok (.aload_n 0, 1) := by decide +kernel
theorem dX7_holdsIn_23 : decode cX7_holdsIn 23 = .ok (.getfield 115, 3) := by decide +kernel
theorem dX7_holdsIn_26 : decode cX7_holdsIn 26 = .ok (.iload 6, 2) := by decide +kernel
theorem dX7_holdsIn_28 : decode cX7_holdsIn 28 = .ok (.imul, 1) := by decide +kernel
theorem dX7_holdsIn_29 : decode cX7_holdsIn 29 = .ok (.iadd, 1) := by decide +kernel
theorem dX7_holdsIn_30 : decode cX7_holdsIn 30 = .ok (.iload_n 1, 1) := by decide +kernel
theorem dX7_holdsIn_31 : decode cX7_holdsIn 31 = .ok (.iadd, 1) := by decide +kernel
theorem dX7_holdsIn_32 : decode cX7_holdsIn 32 = .ok (.iaload, 1) := by decide +kernel
theorem dX7_holdsIn_33 : decode cX7_holdsIn 33 = .ok (.i2l, 1) := by decide +kernel
theorem dX7_holdsIn_34 : decode cX7_holdsIn 34 = .ok (.ladd, 1) := by decide +kernel
theorem dX7_holdsIn_35 : decode cX7_holdsIn 35 = .ok (.lstore 4, 2) := by decide +kernel
theorem dX7_holdsIn_37 : decode cX7_holdsIn 37 = .ok (.iinc 6 1, 3) := by decide +kernel
theorem dX7_holdsIn_40 : decode cX7_holdsIn 40 = .ok (.goto (-34), 3) := by decide +kernel
theorem dX7_holdsIn_43 : decode cX7_holdsIn 43 = .ok (.aload_n 0, 1) := by decide +kernel
theorem dX7_holdsIn_44 : decode cX7_holdsIn 44 = .ok (.getfield 74, 3) := by decide +kernel
theorem dX7_holdsIn_47 : decode cX7_holdsIn 47 = .ok (.iload_n 3, 1) := by decide +kernel
theorem dX7_holdsIn_48 : decode cX7_holdsIn 48 = .ok (.iload_n 1, 1) := by decide +kernel
theorem dX7_holdsIn_49 : decode cX7_holdsIn 49 = .ok (.iadd, 1) := by decide +kernel
theorem dX7_holdsIn_50 : decode cX7_holdsIn 50 = .ok (.iaload, 1) := by decide +kernel
theorem dX7_holdsIn_51 : decode cX7_holdsIn 51 = .ok (.istore 6, 2) := by decide +kernel
theorem dX7_holdsIn_53 : decode cX7_holdsIn 53 = .ok (.lload 4, 2) := by decide +kernel
theorem dX7_holdsIn_55 : decode cX7_holdsIn 55 = .ok (.aload_n 0, 1) := by decide +kernel
theorem dX7_holdsIn_56 : decode cX7_holdsIn 56 = .ok (.getfield 28, 3) := by decide +kernel
theorem dX7_holdsIn_59 : decode cX7_holdsIn 59 = .ok (.iload_n 1, 1) := by decide +kernel
theorem dX7_holdsIn_60 : decode cX7_holdsIn 60 = .ok (.iaload, 1) := by decide +kernel
theorem dX7_holdsIn_61 : decode cX7_holdsIn 61 = .ok (.i2l, 1) := by decide +kernel
theorem dX7_holdsIn_62 : decode cX7_holdsIn 62 = .ok (.lcmp, 1) := by decide +kernel
theorem dX7_holdsIn_63 : decode cX7_holdsIn 63 = .ok (.ifCond .gt 38, 3) := by decide +kernel
theorem dX7_holdsIn_66 : decode cX7_holdsIn 66 = .ok (.iload 6, 2) := by decide +kernel
theorem dX7_holdsIn_68 : decode cX7_holdsIn 68 = .ok (.i2l, 1) := by decide +kernel
theorem dX7_holdsIn_69 : decode cX7_holdsIn 69 = .ok (.lconst 0, 1) := by decide +kernel
theorem dX7_holdsIn_70 : decode cX7_holdsIn 70 = .ok (.ldc2_w 219, 3) := by decide +kernel
theorem dX7_holdsIn_73 : decode cX7_holdsIn 73 = .ok (.invokestatic 88, 3) := by decide +kernel
theorem dX7_holdsIn_76 : decode cX7_holdsIn 76 = .ok (.ifCond .eq 25, 3) := by decide +kernel
theorem dX7_holdsIn_79 : decode cX7_holdsIn 79 = .ok (.iload 6, 2) := by decide +kernel
theorem dX7_holdsIn_81 : decode cX7_holdsIn 81 = .ok (.ifCond .eq 16, 3) := by decide +kernel
theorem dX7_holdsIn_84 : decode cX7_holdsIn 84 = .ok (.lload 4, 2) := by decide +kernel
theorem dX7_holdsIn_86 : decode cX7_holdsIn 86 = .ok (.aload_n 0, 1) := by decide +kernel
theorem dX7_holdsIn_87 : decode cX7_holdsIn 87 = .ok (.getfield 28, 3) := by decide +kernel
theorem dX7_holdsIn_90 : decode cX7_holdsIn 90 = .ok (.iload_n 1, 1) := by decide +kernel
theorem dX7_holdsIn_91 : decode cX7_holdsIn 91 = .ok (.iaload, 1) := by decide +kernel
theorem dX7_holdsIn_92 : decode cX7_holdsIn 92 = .ok (.i2l, 1) := by decide +kernel
theorem dX7_holdsIn_93 : decode cX7_holdsIn 93 = .ok (.lcmp, 1) := by decide +kernel
theorem dX7_holdsIn_94 : decode cX7_holdsIn 94 = .ok (.ifCond .ne 7, 3) := by decide +kernel
theorem dX7_holdsIn_97 : decode cX7_holdsIn 97 = .ok (.iconst 1, 1) := by decide +kernel
theorem dX7_holdsIn_98 : decode cX7_holdsIn 98 = .ok (.goto 4, 3) := by decide +kernel
theorem dX7_holdsIn_101 : decode cX7_holdsIn 101 = .ok (.iconst 0, 1) := by decide +kernel
theorem dX7_holdsIn_102 : decode cX7_holdsIn 102 = .ok (.ireturn, 1) := by decide +kernel
theorem dX7_check_0 : decode cX7_check 0 = .ok (.iload_n 1, 1) := by decide +kernel
theorem dX7_check_1 : decode cX7_check 1 = .ok (.invokestatic 158, 3) := by decide +kernel
theorem dX7_check_4 : decode cX7_check 4 = .ok (.ifCond .eq 9, 3) := by decide +kernel
theorem dX7_check_7 : decode cX7_check 7 = .ok (.aload_n 0, 1) := by decide +kernel
theorem dX7_check_8 : decode cX7_check 8 = .ok (.iconst (-1), 1) := by decide +kernel
theorem dX7_check_9 : decode cX7_check 9 = .ok (.invokevirtual 101, 3) := by decide +kernel
theorem dX7_check_12 : decode cX7_check 12 = .ok (.ireturn, 1) := by decide +kernel
theorem dX7_check_13 : decode cX7_check 13 = .ok (.aload_n 0, 1) := by decide +kernel
theorem dX7_check_14 : decode cX7_check 14 = .ok (.iload_n 1, 1) := by decide +kernel
theorem dX7_check_15 : decode cX7_check 15 = .ok (.iload_n 2, 1) := by decide +kernel
theorem dX7_check_16 : decode cX7_check 16 = .ok (.iload_n 3, 1) := by decide +kernel
theorem dX7_check_17 : decode cX7_check 17 = .ok (.iload 4, 2) := by decide +kernel
theorem dX7_check_19 : decode cX7_check 19 = .ok (.i2l, 1) := by decide +kernel
theorem dX7_check_20 : decode cX7_check 20 = .ok (.invokevirtual 162, 3) := by decide +kernel
theorem dX7_check_23 : decode cX7_check 23 = .ok (.istore 5, 2) := by decide +kernel
theorem dX7_check_25 : decode cX7_check 25 = .ok (.iload 5, 2) := by decide +kernel
theorem dX7_check_27 : decode cX7_check 27 = .ok (.ifCond .ge 6, 3) := by decide +kernel
theorem dX7_check_30 : decode cX7_check 30 = .ok (.iload 5, 2) := by decide +kernel
theorem dX7_check_32 : decode cX7_check 32 = .ok (.ireturn, 1) := by decide +kernel
theorem dX7_check_33 : decode cX7_check 33 = .ok (.iload 4, 2) := by decide +kernel
theorem dX7_check_35 : decode cX7_check 35 = .ok (.aload_n 0, 1) := by decide +kernel
theorem dX7_check_36 : decode cX7_check 36 = .ok (.getfield 112, 3) := by decide +kernel
theorem dX7_check_39 : decode cX7_check 39 = .ok (.aload_n 0, 1) := by decide +kernel
theorem dX7_check_40 : decode cX7_check 40 = .ok (.getfield 115, 3) := by decide +kernel
theorem dX7_check_43 : decode cX7_check 43 = .ok (.imul, 1) := by decide +kernel
theorem dX7_check_44 : decode cX7_check 44 = .ok (.aload_n 0, 1) := by decide +kernel
theorem dX7_check_45 : decode cX7_check 45 = .ok (.getfield 115, 3) := by decide +kernel
theorem dX7_check_48 : decode cX7_check 48 = .ok (.iadd, 1) := by decide +kernel
theorem dX7_check_49 : decode cX7_check 49 = .ok (.if_icmp .eq 10, 3) := by decide +kernel
theorem dX7_check_52 : decode cX7_check 52 = .ok (.aload_n 0, 1) := by decide +kernel
theorem dX7_check_53 : decode cX7_check 53 = .ok (.bipush (-2), 2) := by decide +kernel
theorem dX7_check_55 : decode cX7_check 55 = .ok (.invokevirtual 101, 3) := by decide +kernel
theorem dX7_check_58 : decode cX7_check 58 = .ok (.ireturn, 1) := by decide +kernel
theorem dX7_check_59 : decode cX7_check 59 = .ok (.bipush 80, 2) := by decide +kernel
theorem dX7_check_61 : decode cX7_check 61 = .ok (.iload_n 1, 1) := by decide +kernel
theorem dX7_check_62 : decode cX7_check 62 = .ok (.imul, 1) := by decide +kernel
theorem dX7_check_63 : decode cX7_check 63 = .ok (.iload_n 3, 1) := by decide +kernel
theorem dX7_check_64 : decode cX7_check 64 = .ok (.iadd, 1) := by decide +kernel
theorem dX7_check_65 : decode cX7_check 65 = .ok (.istore 6, 2) := by decide +kernel
theorem dX7_check_67 : decode cX7_check 67 = .ok (.iload 6, 2) := by decide +kernel
theorem dX7_check_69 : decode cX7_check 69 = .ok (.aload_n 0, 1) := by decide +kernel
theorem dX7_check_70 : decode cX7_check 70 = .ok (.getfield 112, 3) := by decide +kernel
theorem dX7_check_73 : decode cX7_check 73 = .ok (.aload_n 0, 1) := by decide +kernel
theorem dX7_check_74 : decode cX7_check 74 = .ok (.getfield 115, 3) := by decide +kernel
theorem dX7_check_77 : decode cX7_check 77 = .ok (.imul, 1) := by decide +kernel
theorem dX7_check_78 : decode cX7_check 78 = .ok (.iadd, 1) := by decide +kernel
theorem dX7_check_79 : decode cX7_check 79 = .ok (.istore 7, 2) := by decide +kernel
theorem dX7_check_81 : decode cX7_check 81 = .ok (.iconst 1, 1) := by decide +kernel
theorem dX7_check_82 : decode cX7_check 82 = .ok (.istore 8, 2) := by decide +kernel
theorem dX7_check_84 : decode cX7_check 84 = .ok (.iconst 0, 1) := by decide +kernel
theorem dX7_check_85 : decode cX7_check 85 = .ok (.istore 9, 2) := by decide +kernel
theorem dX7_check_87 : decode cX7_check 87 = .ok (.iload 9, 2) := by decide +kernel
theorem dX7_check_89 : decode cX7_check 89 = .ok (.aload_n 0, 1) := by decide +kernel
theorem dX7_check_90 : decode cX7_check 90 = .ok (.getfield 115, 3) := by decide +kernel
theorem dX7_check_93 : decode cX7_check 93 = .ok (.if_icmp .ge 34, 3) := by decide +kernel
theorem dX7_check_96 : decode cX7_check 96 = .ok (.iload 8, 2) := by decide +kernel
theorem dX7_check_98 : decode cX7_check 98 = .ok (.ifCond .eq 20, 3) := by decide +kernel
theorem dX7_check_101 : decode cX7_check 101 = .ok (.aload_n 0, 1) := by decide +kernel
theorem dX7_check_102 : decode cX7_check 102 = .ok (.iload 9, 2) := by decide +kernel
theorem dX7_check_104 : decode cX7_check 104 = .ok (.iload 6, 2) := by decide +kernel
theorem dX7_check_106 : decode cX7_check 106 = .ok (.iload 7, 2) := by decide +kernel
theorem dX7_check_108 : decode cX7_check 108 = .ok (.invokevirtual 221, 3) := by decide +kernel
theorem dX7_check_111 : decode cX7_check 111 = .ok (.ifCond .eq 7, 3) := by decide +kernel
theorem dX7_check_114 : decode cX7_check 114 = .ok (.iconst 1, 1) := by decide +kernel
theorem dX7_check_115 : decode cX7_check 115 = .ok (.goto 4, 3) := by decide +kernel
theorem dX7_check_118 : decode cX7_check 118 = .ok (.iconst 0, 1) := by decide +kernel
theorem dX7_check_119 : decode cX7_check 119 = .ok (.istore 8, 2) := by decide +kernel
theorem dX7_check_121 : decode cX7_check 121 = .ok (.iinc 9 1, 3) := by decide +kernel
theorem dX7_check_124 : decode cX7_check 124 = .ok (.goto (-37), 3) := by decide +kernel
theorem dX7_check_127 : decode cX7_check 127 = .ok (.iconst 0, 1) := by decide +kernel
theorem dX7_check_128 : decode cX7_check 128 = .ok (.istore 9, 2) := by decide +kernel
theorem dX7_check_130 : decode cX7_check 130 = .ok (.iload 9, 2) := by decide +kernel
theorem dX7_check_132 : decode cX7_check 132 = .ok (.aload_n 0, 1) := by decide +kernel
theorem dX7_check_133 : decode cX7_check 133 = .ok (.getfield 112, 3) := by decide +kernel
theorem dX7_check_136 : decode cX7_check 136 = .ok (.if_icmp .ge 34, 3) := by decide +kernel
theorem dX7_check_139 : decode cX7_check 139 = .ok (.iload 8, 2) := by decide +kernel
theorem dX7_check_141 : decode cX7_check 141 = .ok (.ifCond .eq 20, 3) := by decide +kernel
theorem dX7_check_144 : decode cX7_check 144 = .ok (.aload_n 0, 1) := by decide +kernel
theorem dX7_check_145 : decode cX7_check 145 = .ok (.iload 9, 2) := by decide +kernel
theorem dX7_check_147 : decode cX7_check 147 = .ok (.iload 6, 2) := by decide +kernel
theorem dX7_check_149 : decode cX7_check 149 = .ok (.iload 7, 2) := by decide +kernel
theorem dX7_check_151 : decode cX7_check 151 = .ok (.invokevirtual 224, 3) := by decide +kernel
theorem dX7_check_154 : decode cX7_check 154 = .ok (.ifCond .eq 7, 3) := by decide +kernel
theorem dX7_check_157 : decode cX7_check 157 = .ok (.iconst 1, 1) := by decide +kernel
theorem dX7_check_158 : decode cX7_check 158 = .ok (.goto 4, 3) := by decide +kernel
theorem dX7_check_161 : decode cX7_check 161 = .ok (.iconst 0, 1) := by decide +kernel
theorem dX7_check_162 : decode cX7_check 162 = .ok (.istore 8, 2) := by decide +kernel
theorem dX7_check_164 : decode cX7_check 164 = .ok (.iinc 9 1, 3) := by decide +kernel
theorem dX7_check_167 : decode cX7_check 167 = .ok (.goto (-37), 3) := by decide +kernel
theorem dX7_check_170 : decode cX7_check 170 = .ok (.aload_n 0, 1) := by decide +kernel
theorem dX7_check_171 : decode cX7_check 171 = .ok (.iload 8, 2) := by decide +kernel
theorem dX7_check_173 : decode cX7_check 173 = .ok (.ifCond .eq 7, 3) := by decide +kernel
theorem dX7_check_176 : decode cX7_check 176 = .ok (.iconst 1, 1) := by decide +kernel
theorem dX7_check_177 : decode cX7_check 177 = .ok (.goto 4, 3) := by decide +kernel
theorem dX7_check_180 : decode cX7_check 180 = .ok (.iconst 0, 1) := by decide +kernel
theorem dX7_check_181 : decode cX7_check 181 = .ok (.invokevirtual 101, 3) := by decide +kernel
theorem dX7_check_184 : decode cX7_check 184 = .ok (.ireturn, 1) := by decide +kernel
theorem dX7_churchIn_0 : decode cX7_churchIn 0 = .ok (.iload_n 1, 1) := by decide +kernel
theorem dX7_churchIn_1 : decode cX7_churchIn 1 = .ok (.istore_n 3, 1) := by decide +kernel
theorem dX7_churchIn_2 : decode cX7_churchIn 2 = .ok (.aload_n 0, 1) := by decide +kernel
theorem dX7_churchIn_3 : decode cX7_churchIn 3 = .ok (.getfield 112, 3) := by decide +kernel
theorem dX7_churchIn_6 : decode cX7_churchIn 6 = .ok (.iconst 1, 1) := by decide +kernel
theorem dX7_churchIn_7 : decode cX7_churchIn 7 = .ok (.isub, 1) := by decide +kernel
theorem dX7_churchIn_8 : decode cX7_churchIn 8 = .ok (.istore 4, 2) := by decide +kernel
theorem dX7_churchIn_10 : decode cX7_churchIn 10 = .ok (.iload 4, 2) := by decide +kernel
theorem dX7_churchIn_12 : decode cX7_churchIn 12 = .ok (.iload_n 2, 1) := by decide +kernel
theorem dX7_churchIn_13 : decode cX7_churchIn 13 = .ok (.if_icmp .le 16, 3) := by decide +kernel
theorem dX7_churchIn_16 : decode cX7_churchIn 16 = .ok (.iload_n 3, 1) := by decide +kernel
theorem dX7_churchIn_17 : decode cX7_churchIn 17 = .ok (.aload_n 0, 1) := by decide +kernel
theorem dX7_churchIn_18 : decode cX7_churchIn 18 = .ok (.getfield 115, 3) := by decide +kernel
theorem dX7_churchIn_21 : decode cX7_churchIn 21 = .ok (.idiv, 1) := by decide +kernel
theorem dX7_churchIn_22 : decode cX7_churchIn 22 = .ok (.istore_n 3, 1) := by decide +kernel
theorem dX7_churchIn_23 : decode cX7_churchIn 23 = .ok (.iinc 4 (-1), 3) := by decide +kernel
theorem dX7_churchIn_26 : decode cX7_churchIn 26 = .ok (.goto (-16), 3) := by decide +kernel
theorem dX7_churchIn_29 : decode cX7_churchIn 29 = .ok (.iload_n 3, 1) := by decide +kernel
theorem dX7_churchIn_30 : decode cX7_churchIn 30 = .ok (.aload_n 0, 1) := by decide +kernel
theorem dX7_churchIn_31 : decode cX7_churchIn 31 = .ok (.getfield 115, 3) := by decide +kernel
theorem dX7_churchIn_34 : decode cX7_churchIn 34 = .ok (.irem, 1) := by decide +kernel
theorem dX7_churchIn_35 : decode cX7_churchIn 35 = .ok (.ireturn, 1) := by decide +kernel
theorem dX7_rowMiles_0 : decode cX7_rowMiles 0 = .ok (.iconst 0, 1) := by decide +kernel
theorem dX7_rowMiles_1 : decode cX7_rowMiles 1 = .ok (.istore_n 2, 1) := by decide +kernel
theorem dX7_rowMiles_2 : decode cX7_rowMiles 2 = .ok (.iconst 0, 1) := by decide +kernel
theorem dX7_rowMiles_3 : decode cX7_rowMiles 3 = .ok (.istore_n 3, 1) := by decide +kernel
theorem dX7_rowMiles_4 : decode cX7_rowMiles 4 = .ok (.iload_n 3, 1) := by decide +kernel
theorem dX7_rowMiles_5 : decode cX7_rowMiles 5 = .ok (.aload_n 0, 1) := by decide +kernel
theorem dX7_rowMiles_6 : decode cX7_rowMiles 6 = .ok (.getfield 115, 3) := by decide +kernel
theorem dX7_rowMiles_9 : decode cX7_rowMiles 9 = .ok (.if_icmp .ge 21, 3) := by decide +kernel
theorem dX7_rowMiles_12 : decode cX7_rowMiles 12 = .ok (.aload_n 0, 1) := by decide +kernel
theorem dX7_rowMiles_13 : decode cX7_rowMiles 13 = .ok (.getfield 41, 3) := by decide +kernel
theorem dX7_rowMiles_16 : decode cX7_rowMiles 16 = .ok (.iload_n 3, 1) := by decide +kernel
theorem dX7_rowMiles_17 : decode cX7_rowMiles 17 = .ok (.aload_n 0, 1) := by decide +kernel
theorem dX7_rowMiles_18 : decode cX7_rowMiles 18 = .ok (.getfield 28, 3) := by decide +kernel
theorem dX7_rowMiles_21 : decode cX7_rowMiles 21 = .ok (.iload_n 3, 1) := by decide +kernel
theorem dX7_rowMiles_22 : decode cX7_rowMiles 22 = .ok (.iaload, 1) := by decide +kernel
theorem dX7_rowMiles_23 : decode cX7_rowMiles 23 = .ok (.iastore, 1) := by decide +kernel
theorem dX7_rowMiles_24 : decode cX7_rowMiles 24 = .ok (.iinc 3 1, 3) := by decide +kernel
theorem dX7_rowMiles_27 : decode cX7_rowMiles 27 = .ok (.goto (-23), 3) := by decide +kernel
theorem dX7_rowMiles_30 : decode cX7_rowMiles 30 = .ok (.iconst 0, 1) := by decide +kernel
theorem dX7_rowMiles_31 : decode cX7_rowMiles 31 = .ok (.istore_n 3, 1) := by decide +kernel
theorem dX7_rowMiles_32 : decode cX7_rowMiles 32 = .ok (.iload_n 3, 1) := by decide +kernel
theorem dX7_rowMiles_33 : decode cX7_rowMiles 33 = .ok (.aload_n 0, 1) := by decide +kernel
theorem dX7_rowMiles_34 : decode cX7_rowMiles 34 = .ok (.getfield 112, 3) := by decide +kernel
theorem dX7_rowMiles_37 : decode cX7_rowMiles 37 = .ok (.if_icmp .ge 88, 3) := by decide +kernel
theorem dX7_rowMiles_40 : decode cX7_rowMiles 40 = .ok (.aload_n 0, 1) := by decide +kernel
theorem dX7_rowMiles_41 : decode cX7_rowMiles 41 = .ok (.iload_n 1, 1) := by decide +kernel
theorem dX7_rowMiles_42 : decode cX7_rowMiles 42 = .ok (.iload_n 3, 1) := by decide +kernel
theorem dX7_rowMiles_43 : decode cX7_rowMiles 43 = .ok (.invokevirtual 227, 3) := by decide +kernel
theorem dX7_rowMiles_46 : decode cX7_rowMiles 46 = .ok (.istore 4, 2) := by decide +kernel
theorem dX7_rowMiles_48 : decode cX7_rowMiles 48 = .ok (.aload_n 0, 1) := by decide +kernel
theorem dX7_rowMiles_49 : decode cX7_rowMiles 49 = .ok (.getfield 41, 3) := by decide +kernel
theorem dX7_rowMiles_52 : decode cX7_rowMiles 52 = .ok (.iload 4, 2) := by decide +kernel
theorem dX7_rowMiles_54 : decode cX7_rowMiles 54 = .ok (.dup2, 1) := by decide +kernel
theorem dX7_rowMiles_55 : decode cX7_rowMiles 55 = .ok (.iaload, 1) := by decide +kernel
theorem dX7_rowMiles_56 : decode cX7_rowMiles 56 = .ok (.aload_n 0, 1) := by decide +kernel
theorem dX7_rowMiles_57 : decode cX7_rowMiles 57 = .ok (.getfield 16, 3) := by decide +kernel
theorem dX7_rowMiles_60 : decode cX7_rowMiles 60 = .ok (.iload_n 3, 1) := by decide +kernel
theorem dX7_rowMiles_61 : decode cX7_rowMiles 61 = .ok (.iaload, 1) := by decide +kernel
theorem dX7_rowMiles_62 : decode cX7_rowMiles 62 = .ok (.isub, 1) := by decide +kernel
theorem dX7_rowMiles_63 : decode cX7_rowMiles 63 = .ok (.iastore, 1) := by decide +kernel
theorem dX7_rowMiles_64 : decode cX7_rowMiles 64 = .ok (.aload_n 0, 1) := by decide +kernel
theorem dX7_rowMiles_65 : decode cX7_rowMiles 65 = .ok (.getfield 41, 3) := by decide +kernel
theorem dX7_rowMiles_68 : decode cX7_rowMiles 68 = .ok (.iload 4, 2) := by decide +kernel
theorem dX7_rowMiles_70 : decode cX7_rowMiles 70 = .ok (.iaload, 1) := by decide +kernel
theorem dX7_rowMiles_71 : decode cX7_rowMiles 71 = .ok (.ifCond .lt 17, 3) := by decide +kernel
theorem dX7_rowMiles_74 : decode cX7_rowMiles 74 = .ok (.aload_n 0, 1) := by decide +kernel
theorem dX7_rowMiles_75 : decode cX7_rowMiles 75 = .ok (.getfield 31, 3) := by decide +kernel
theorem dX7_rowMiles_78 : decode cX7_rowMiles 78 = .ok (.iconst 5, 1) := by decide +kernel
theorem dX7_rowMiles_79 : decode cX7_rowMiles 79 = .ok (.iload_n 3, 1) := by decide +kernel
theorem dX7_rowMiles_80 : decode cX7_rowMiles 80 = .ok (.imul, 1) := by decide +kernel
theorem dX7_rowMiles_81 : decode cX7_rowMiles 81 = .ok (.iload 4, 2) := by decide +kernel
theorem dX7_rowMiles_83 : decode cX7_rowMiles 83 = .ok (.iadd, 1) := by decide +kernel
theorem dX7_rowMiles_84 : decode cX7_rowMiles 84 = .ok (.baload, 1) := by decide +kernel
theorem dX7_rowMiles_85 : decode cX7_rowMiles 85 = .ok (.ifCond .eq 6, 3) := by decide +kernel
theorem dX7_rowMiles_88 : decode cX7_rowMiles 88 = .ok (.bipush (-9), 2) := by decide +kernel
theorem dX7_rowMiles_90 : decode cX7_rowMiles 90 = .ok (.ireturn, 1) := by decide +kernel
theorem dX7_rowMiles_91 : decode cX7_rowMiles 91 = .ok (.iload_n 2, 1) := by decide +kernel
theorem dX7_rowMiles_92 : decode cX7_rowMiles 92 = .ok (.aload_n 0, 1) := by decide +kernel
theorem dX7_rowMiles_93 : decode cX7_rowMiles 93 = .ok (.getfield 16, 3) := by decide +kernel
theorem dX7_rowMiles_96 : decode cX7_rowMiles 96 = .ok (.iload_n 3, 1) := by decide +kernel
theorem dX7_rowMiles_97 : decode cX7_rowMiles 97 = .ok (.iaload, 1) := by decide +kernel
theorem dX7_rowMiles_98 : decode cX7_rowMiles 98 = .ok (.aload_n 0, 1) := by decide +kernel
theorem dX7_rowMiles_99 : decode cX7_rowMiles 99 = .ok (.aload_n 0, 1) := by decide +kernel
theorem dX7_rowMiles_100 : decode cX7_rowMiles 100 = .ok (.getfield 7, 3) := by decide +kernel
theorem dX7_rowMiles_103 : decode cX7_rowMiles 103 = .ok (.iload_n 3, 1) := by decide +kernel
theorem dX7_rowMiles_104 : decode cX7_rowMiles 104 = .ok (.iaload, 1) := by decide +kernel
theorem dX7_rowMiles_105 : decode cX7_rowMiles 105 = .ok (.aload_n 0, 1) := by decide +kernel
theorem dX7_rowMiles_106 : decode cX7_rowMiles 106 = .ok (.getfield 13, 3) := by decide +kernel
theorem dX7_rowMiles_109 : decode cX7_rowMiles 109 = .ok (.iload_n 3, 1) := by decide +kernel
theorem dX7_rowMiles_110 : decode cX7_rowMiles 110 = .ok (.iaload, 1) := by decide +kernel
theorem dX7_rowMiles_111 : decode cX7_rowMiles 111 = .ok (.iload 4, 2) := by decide +kernel
theorem dX7_rowMiles_113 : decode cX7_rowMiles 113 = .ok (.invokevirtual 181, 3) := by decide +kernel
theorem dX7_rowMiles_116 : decode cX7_rowMiles 116 = .ok (.imul, 1) := by decide +kernel
theorem dX7_rowMiles_117 : decode cX7_rowMiles 117 = .ok (.iadd, 1) := by decide +kernel
theorem dX7_rowMiles_118 : decode cX7_rowMiles 118 = .ok (.istore_n 2, 1) := by decide +kernel
theorem dX7_rowMiles_119 : decode cX7_rowMiles 119 = .ok (.iinc 3 1, 3) := by decide +kernel
theorem dX7_rowMiles_122 : decode cX7_rowMiles 122 = .ok (.goto (-90), 3) := by decide +kernel
theorem dX7_rowMiles_125 : decode cX7_rowMiles 125 = .ok (.iload_n 2, 1) := by decide +kernel
theorem dX7_rowMiles_126 : decode cX7_rowMiles 126 = .ok (.ireturn, 1) := by decide +kernel
theorem dX7_family_0 : decode cX7_family 0 = .ok (.iload_n 1, 1) := by decide +kernel
theorem dX7_family_1 : decode cX7_family 1 = .ok (.i2l, 1) := by decide +kernel
theorem dX7_family_2 : decode cX7_family 2 = .ok (.ldc2_w 230, 3) := by decide +kernel
theorem dX7_family_5 : decode cX7_family 5 = .ok (.aload_n 0, 1) := by decide +kernel
theorem dX7_family_6 : decode cX7_family 6 = .ok (.getfield 112, 3) := by decide +kernel
theorem dX7_family_9 : decode cX7_family 9 = .ok (.i2l, 1) := by decide +kernel
theorem dX7_family_10 : decode cX7_family 10 = .ok (.lconst 1, 1) := by decide +kernel
theorem dX7_family_11 : decode cX7_family 11 = .ok (.lsub, 1) := by decide +kernel
theorem dX7_family_12 : decode cX7_family 12 = .ok (.invokestatic 88, 3) := by decide +kernel
theorem dX7_family_15 : decode cX7_family 15 = .ok (.ifCond .ne 5, 3) := by decide +kernel
theorem dX7_family_18 : decode cX7_family 18 = .ok (.iconst (-1), 1) := by decide +kernel
theorem dX7_family_19 : decode cX7_family 19 = .ok (.ireturn, 1) := by decide +kernel
theorem dX7_family_20 : decode cX7_family 20 = .ok (.aload_n 0, 1) := by decide +kernel
theorem dX7_family_21 : decode cX7_family 21 = .ok (.getfield 112, 3) := by decide +kernel
theorem dX7_family_24 : decode cX7_family 24 = .ok (.bipush 7, 2) := by decide +kernel
theorem dX7_family_26 : decode cX7_family 26 = .ok (.if_icmp .le 6, 3) := by decide +kernel
theorem dX7_family_29 : decode cX7_family 29 = .ok (.bipush (-3), 2) := by decide +kernel
theorem dX7_family_31 : decode cX7_family 31 = .ok (.ireturn, 1) := by decide +kernel
theorem dX7_family_32 : decode cX7_family 32 = .ok (.iconst 1, 1) := by decide +kernel
theorem dX7_family_33 : decode cX7_family 33 = .ok (.istore_n 2, 1) := by decide +kernel
theorem dX7_family_34 : decode cX7_family 34 = .ok (.iconst 0, 1) := by decide +kernel
theorem dX7_family_35 : decode cX7_family 35 = .ok (.istore_n 3, 1) := by decide +kernel
theorem dX7_family_36 : decode cX7_family 36 = .ok (.iload_n 3, 1) := by decide +kernel
theorem dX7_family_37 : decode cX7_family 37 = .ok (.aload_n 0, 1) := by decide +kernel
theorem dX7_family_38 : decode cX7_family 38 = .ok (.getfield 112, 3) := by decide +kernel
theorem dX7_family_41 : decode cX7_family 41 = .ok (.if_icmp .ge 16, 3) := by decide +kernel
theorem dX7_family_44 : decode cX7_family 44 = .ok (.iload_n 2, 1) := by decide +kernel
theorem dX7_family_45 : decode cX7_family 45 = .ok (.aload_n 0, 1) := by decide +kernel
theorem dX7_family_46 : decode cX7_family 46 = .ok (.getfield 115, 3) := by decide +kernel
theorem dX7_family_49 : decode cX7_family 49 = .ok (.imul, 1) := by decide +kernel
theorem dX7_family_50 : decode cX7_family 50 = .ok (.istore_n 2, 1) := by decide +kernel
theorem dX7_family_51 : decode cX7_family 51 = .ok (.iinc 3 1, 3) := by decide +kernel
theorem dX7_family_54 : decode cX7_family 54 = .ok (.goto (-18), 3) := by decide +kernel
theorem dX7_family_57 : decode cX7_family 57 = .ok (.bipush (-9), 2) := by decide +kernel
theorem dX7_family_59 : decode cX7_family 59 = .ok (.istore_n 3, 1) := by decide +kernel
theorem dX7_family_60 : decode cX7_family 60 = .ok (.iconst 0, 1) := by decide +kernel
theorem dX7_family_61 : decode cX7_family 61 = .ok (.istore 4, 2) := by decide +kernel
theorem dX7_family_63 : decode cX7_family 63 = .ok (.iconst 0, 1) := by decide +kernel
theorem dX7_family_64 : decode cX7_family 64 = .ok (.istore 5, 2) := by decide +kernel
theorem dX7_family_66 : decode cX7_family 66 = .ok (.iload 5, 2) := by decide +kernel
theorem dX7_family_68 : decode cX7_family 68 = .ok (.iload_n 2, 1) := by decide +kernel
theorem dX7_family_69 : decode cX7_family 69 = .ok (.if_icmp .ge 40, 3) := by decide +kernel
theorem dX7_family_72 : decode cX7_family 72 = .ok (.aload_n 0, 1) := by decide +kernel
theorem dX7_family_73 : decode cX7_family 73 = .ok (.iload 5, 2) := by decide +kernel
theorem dX7_family_75 : decode cX7_family 75 = .ok (.invokevirtual 232, 3) := by decide +kernel
theorem dX7_family_78 : decode cX7_family 78 = .ok (.istore 6, 2) := by decide +kernel
theorem dX7_family_80 : decode cX7_family 80 = .ok (.iload 6, 2) := by decide +kernel
theorem dX7_family_82 : decode cX7_family 82 = .ok (.ifCond .lt 21, 3) := by decide +kernel
theorem dX7_family_85 : decode cX7_family 85 = .ok (.iload_n 3, 1) := by decide +kernel
theorem dX7_family_86 : decode cX7_family 86 = .ok (.ifCond .lt 10, 3) := by decide +kernel
theorem dX7_family_89 : decode cX7_family 89 = .ok (.iload 6, 2) := by decide +kernel
theorem dX7_family_91 : decode cX7_family 91 = .ok (.iload 4, 2) := by decide +kernel
theorem dX7_family_93 : decode cX7_family 93 = .ok (.if_icmp .ge 10, 3) := by decide +kernel
theorem dX7_family_96 : decode cX7_family 96 = .ok (.iload 5, 2) := by decide +kernel
theorem dX7_family_98 : decode cX7_family 98 = .ok (.istore_n 3, 1) := by decide +kernel
theorem dX7_family_99 : decode cX7_family 99 = .ok (.iload 6, 2) := by decide +kernel
theorem dX7_family_101 : decode cX7_family 101 = .ok (.istore 4, 2) := by decide +kernel
theorem dX7_family_103 : decode cX7_family 103 = .ok (.iinc 5 1, 3) := by decide +kernel
theorem dX7_family_106 : decode cX7_family 106 = .ok (.goto (-40), 3) := by decide +kernel
theorem dX7_family_109 : decode cX7_family 109 = .ok (.iload_n 3, 1) := by decide +kernel
theorem dX7_family_110 : decode cX7_family 110 = .ok (.ifCond .ge 8, 3) := by decide +kernel
theorem dX7_family_113 : decode cX7_family 113 = .ok (.bipush (-9), 2) := by decide +kernel
theorem dX7_family_115 : decode cX7_family 115 = .ok (.goto 18, 3) := by decide +kernel
theorem dX7_family_118 : decode cX7_family 118 = .ok (.iload_n 1, 1) := by decide +kernel
theorem dX7_family_119 : decode cX7_family 119 = .ok (.ifCond .ge 8, 3) := by decide +kernel
theorem dX7_family_122 : decode cX7_family 122 = .ok (.iload 4, 2) := by decide +kernel
theorem dX7_family_124 : decode cX7_family 124 = .ok (.goto 9, 3) := by decide +kernel
theorem dX7_family_127 : decode cX7_family 127 = .ok (.aload_n 0, 1) := by decide +kernel
theorem dX7_family_128 : decode cX7_family 128 = .ok (.iload_n 3, 1) := by decide +kernel
theorem dX7_family_129 : decode cX7_family 129 = .ok (.iload_n 1, 1) := by decide +kernel
theorem dX7_family_130 : decode cX7_family 130 = .ok (.invokevirtual 227, 3) := by decide +kernel
theorem dX7_family_133 : decode cX7_family 133 = .ok (.ireturn, 1) := by decide +kernel
theorem dX7_even_0 : decode cX7_even 0 = .ok (.iload_n 1, 1) := by decide +kernel
theorem dX7_even_1 : decode cX7_even 1 = .ok (.i2l, 1) := by decide +kernel
theorem dX7_even_2 : decode cX7_even 2 = .ok (.lconst 0, 1) := by decide +kernel
theorem dX7_even_3 : decode cX7_even 3 = .ok (.lconst 1, 1) := by decide +kernel
theorem dX7_even_4 : decode cX7_even 4 = .ok (.invokestatic 88, 3) := by decide +kernel
theorem dX7_even_7 : decode cX7_even 7 = .ok (.ifCond .ne 6, 3) := by decide +kernel
theorem dX7_even_10 : decode cX7_even 10 = .ok (.bipush (-2), 2) := by decide +kernel
theorem dX7_even_12 : decode cX7_even 12 = .ok (.ireturn, 1) := by decide +kernel
theorem dX7_even_13 : decode cX7_even 13 = .ok (.bipush (-9), 2) := by decide +kernel
theorem dX7_even_15 : decode cX7_even 15 = .ok (.istore_n 2, 1) := by decide +kernel
theorem dX7_even_16 : decode cX7_even 16 = .ok (.bipush (-9), 2) := by decide +kernel
theorem dX7_even_18 : decode cX7_even 18 = .ok (.istore_n 3, 1) := by decide +kernel
theorem dX7_even_19 : decode cX7_even 19 = .ok (.aload_n 0, 1) := by decide +kernel
theorem dX7_even_20 : decode cX7_even 20 = .ok (.getfield 112, 3) := by decide +kernel
theorem dX7_even_23 : decode cX7_even 23 = .ok (.ifCond .ne 5, 3) := by decide +kernel
theorem dX7_even_26 : decode cX7_even 26 = .ok (.iconst 0, 1) := by decide +kernel
theorem dX7_even_27 : decode cX7_even 27 = .ok (.ireturn, 1) := by decide +kernel
theorem dX7_even_28 : decode cX7_even 28 = .ok (.iconst 0, 1) := by decide +kernel
theorem dX7_even_29 : decode cX7_even 29 = .ok (.istore 4, 2) := by decide +kernel
theorem dX7_even_31 : decode cX7_even 31 = .ok (.iload 4, 2) := by decide +kernel
theorem dX7_even_33 : decode cX7_even 33 = .ok (.aload_n 0, 1) := by decide +kernel
theorem dX7_even_34 : decode cX7_even 34 = .ok (.getfield 112, 3) := by decide +kernel
theorem dX7_even_37 : decode cX7_even 37 = .ok (.if_icmp .ge 95, 3) := by decide +kernel
theorem dX7_even_40 : decode cX7_even 40 = .ok (.iconst 0, 1) := by decide +kernel
theorem dX7_even_41 : decode cX7_even 41 = .ok (.istore 5, 2) := by decide +kernel
theorem dX7_even_43 : decode cX7_even 43 = .ok (.iload 5, 2) := by decide +kernel
theorem dX7_even_45 : decode cX7_even 45 = .ok (.aload_n 0, 1) := by decide +kernel
theorem dX7_even_46 : decode cX7_even 46 = .ok (.getfield 115, 3) := by decide +kernel
theorem dX7_even_49 : decode cX7_even 49 = .ok (.if_icmp .ge 77, 3) := by decide +kernel
theorem dX7_even_52 : decode cX7_even 52 = .ok (.aload_n 0, 1) := by decide +kernel
theorem dX7_even_53 : decode cX7_even 53 = .ok (.aload_n 0, 1) := by decide +kernel
theorem dX7_even_54 : decode cX7_even 54 = .ok (.getfield 7, 3) := by decide +kernel
theorem dX7_even_57 : decode cX7_even 57 = .ok (.iload 4, 2) := by decide +kernel
theorem dX7_even_59 : decode cX7_even 59 = .ok (.iaload, 1) := by decide +kernel
theorem dX7_even_60 : decode cX7_even 60 = .ok (.aload_n 0, 1) := by decide +kernel
theorem dX7_even_61 : decode cX7_even 61 = .ok (.getfield 13, 3) := by decide +kernel
theorem dX7_even_64 : decode cX7_even 64 = .ok (.iload 4, 2) := by decide +kernel
theorem dX7_even_66 : decode cX7_even 66 = .ok (.iaload, 1) := by decide +kernel
theorem dX7_even_67 : decode cX7_even 67 = .ok (.iload 5, 2) := by decide +kernel
theorem dX7_even_69 : decode cX7_even 69 = .ok (.invokevirtual 181, 3) := by decide +kernel
theorem dX7_even_72 : decode cX7_even 72 = .ok (.istore 6, 2) := by decide +kernel
theorem dX7_even_74 : decode cX7_even 74 = .ok (.iload_n 2, 1) := by decide +kernel
theorem dX7_even_75 : decode cX7_even 75 = .ok (.ifCond .lt 9, 3) := by decide +kernel
theorem dX7_even_78 : decode cX7_even 78 = .ok (.iload 6, 2) := by decide +kernel
theorem dX7_even_80 : decode cX7_even 80 = .ok (.iload_n 2, 1) := by decide +kernel
theorem dX7_even_81 : decode cX7_even 81 = .ok (.if_icmp .ge 39, 3) := by decide +kernel
theorem dX7_even_84 : decode cX7_even 84 = .ok (.aload_n 0, 1) := by decide +kernel
theorem dX7_even_85 : decode cX7_even 85 = .ok (.iload 6, 2) := by decide +kernel
theorem dX7_even_87 : decode cX7_even 87 = .ok (.invokevirtual 200, 3) := by decide +kernel
theorem dX7_even_90 : decode cX7_even 90 = .ok (.aload_n 0, 1) := by decide +kernel
theorem dX7_even_91 : decode cX7_even 91 = .ok (.invokevirtual 203, 3) := by decide +kernel
theorem dX7_even_94 : decode cX7_even 94 = .ok (.istore 7, 2) := by decide +kernel
theorem dX7_even_96 : decode cX7_even 96 = .ok (.iload 7, 2) := by decide +kernel
theorem dX7_even_98 : decode cX7_even 98 = .ok (.ifCond .ge 7, 3) := by decide +kernel
theorem dX7_even_101 : decode cX7_even 101 = .ok (.iload_n 2, 1) := by decide +kernel
theorem dX7_even_102 : decode cX7_even 102 = .ok (.goto 5, 3) := by decide +kernel
theorem dX7_even_105 : decode cX7_even 105 = .ok (.iload 6, 2) := by decide +kernel
theorem dX7_even_107 : decode cX7_even 107 = .ok (.istore_n 2, 1) := by decide +kernel
theorem dX7_even_108 : decode cX7_even 108 = .ok (.iload 7, 2) := by decide +kernel
theorem dX7_even_110 : decode cX7_even 110 = .ok (.ifCond .ge 7, 3) := by decide +kernel
theorem dX7_even_113 : decode cX7_even 113 = .ok (.iload_n 3, 1) := by decide +kernel
theorem dX7_even_114 : decode cX7_even 114 = .ok (.goto 5, 3) := by decide +kernel
theorem dX7_even_117 : decode cX7_even 117 = .ok (.iload 7, 2) := by decide +kernel
theorem dX7_even_119 : decode cX7_even 119 = .ok (.istore_n 3, 1) := by decide +kernel
theorem dX7_even_120 : decode cX7_even 120 = .ok (.iinc 5 1, 3) := by decide +kernel
theorem dX7_even_123 : decode cX7_even 123 = .ok (.goto (-80), 3) := by decide +kernel
theorem dX7_even_126 : decode cX7_even 126 = .ok (.iinc 4 1, 3) := by decide +kernel
theorem dX7_even_129 : decode cX7_even 129 = .ok (.goto (-98), 3) := by decide +kernel
theorem dX7_even_132 : decode cX7_even 132 = .ok (.iload_n 1, 1) := by decide +kernel
theorem dX7_even_133 : decode cX7_even 133 = .ok (.ifCond .ne 7, 3) := by decide +kernel
theorem dX7_even_136 : decode cX7_even 136 = .ok (.iload_n 2, 1) := by decide +kernel
theorem dX7_even_137 : decode cX7_even 137 = .ok (.goto 4, 3) := by decide +kernel
theorem dX7_even_140 : decode cX7_even 140 = .ok (.iload_n 3, 1) := by decide +kernel
theorem dX7_even_141 : decode cX7_even 141 = .ok (.ireturn, 1) := by decide +kernel
theorem dX7_common_0 : decode cX7_common 0 = .ok (.lload_n 0, 1) := by decide +kernel
theorem dX7_common_1 : decode cX7_common 1 = .ok (.lconst 0, 1) := by decide +kernel
theorem dX7_common_2 : decode cX7_common 2 = .ok (.lcmp, 1) := by decide +kernel
theorem dX7_common_3 : decode cX7_common 3 = .ok (.ifCond .ge 8, 3) := by decide +kernel
theorem dX7_common_6 : decode cX7_common 6 = .ok (.lload_n 0, 1) := by decide +kernel
theorem dX7_common_7 : decode cX7_common 7 = .ok (.lneg, 1) := by decide +kernel
theorem dX7_common_8 : decode cX7_common 8 = .ok (.goto 4, 3) := by decide +kernel
theorem dX7_common_11 : decode cX7_common 11 = .ok (.lload_n 0, 1) := by decide +kernel
theorem dX7_common_12 : decode cX7_common 12 = .ok (.lstore 4, 2) := by decide +kernel
theorem dX7_common_14 : decode cX7_common 14 = .ok (.lload_n 2, 1) := by decide +kernel
theorem dX7_common_15 : decode cX7_common 15 = .ok (.lconst 0, 1) := by decide +kernel
theorem dX7_common_16 : decode cX7_common 16 = .ok (.lcmp, 1) := by decide +kernel
theorem dX7_common_17 : decode cX7_common 17 = .ok (.ifCond .ge 8, 3) := by decide +kernel
theorem dX7_common_20 : decode cX7_common 20 = .ok (.lload_n 2, 1) := by decide +kernel
theorem dX7_common_21 : decode cX7_common 21 = .ok (.lneg, 1) := by decide +kernel
theorem dX7_common_22 : decode cX7_common 22 = .ok (.goto 4, 3) := by decide +kernel
theorem dX7_common_25 : decode cX7_common 25 = .ok (.lload_n 2, 1) := by decide +kernel
theorem dX7_common_26 : decode cX7_common 26 = .ok (.lstore 6, 2) := by decide +kernel
theorem dX7_common_28 : decode cX7_common 28 = .ok (.lload 6, 2) := by decide +kernel
theorem dX7_common_30 : decode cX7_common 30 = .ok (.lconst 0, 1) := by decide +kernel
theorem dX7_common_31 : decode cX7_common 31 = .ok (.lcmp, 1) := by decide +kernel
theorem dX7_common_32 : decode cX7_common 32 = .ok (.ifCond .eq 21, 3) := by decide +kernel
theorem dX7_common_35 : decode cX7_common 35 = .ok (.lload 4, 2) := by decide +kernel
theorem dX7_common_37 : decode cX7_common 37 = .ok (.lload 6, 2) := by decide +kernel
theorem dX7_common_39 : decode cX7_common 39 = .ok (.lrem, 1) := by decide +kernel
theorem dX7_common_40 : decode cX7_common 40 = .ok (.lstore 8, 2) := by decide +kernel
theorem dX7_common_42 : decode cX7_common 42 = .ok (.lload 6, 2) := by decide +kernel
theorem dX7_common_44 : decode cX7_common 44 = .ok (.lstore 4, 2) := by decide +kernel
theorem dX7_common_46 : decode cX7_common 46 = .ok (.lload 8, 2) := by decide +kernel
theorem dX7_common_48 : decode cX7_common 48 = .ok (.lstore 6, 2) := by decide +kernel
theorem dX7_common_50 : decode cX7_common 50 = .ok (.goto (-22), 3) := by decide +kernel
theorem dX7_common_53 : decode cX7_common 53 = .ok (.lload 4, 2) := by decide +kernel
theorem dX7_common_55 : decode cX7_common 55 = .ok (.lreturn, 1) := by decide +kernel
theorem dX7_border_0 : decode cX7_border 0 = .ok (.aload_n 0, 1) := by decide +kernel
theorem dX7_border_1 : decode cX7_border 1 = .ok (.iload_n 1, 1) := by decide +kernel
theorem dX7_border_2 : decode cX7_border 2 = .ok (.invokevirtual 173, 3) := by decide +kernel
theorem dX7_border_5 : decode cX7_border 5 = .ok (.ifCond .ne 28, 3) := by decide +kernel
theorem dX7_border_8 : decode cX7_border 8 = .ok (.aload_n 0, 1) := by decide +kernel
theorem dX7_border_9 : decode cX7_border 9 = .ok (.iload_n 2, 1) := by decide +kernel
theorem dX7_border_10 : decode cX7_border 10 = .ok (.invokevirtual 173, 3) := by decide +kernel
theorem dX7_border_13 : decode cX7_border 13 = .ok (.ifCond .ne 20, 3) := by decide +kernel
theorem dX7_border_16 : decode cX7_border 16 = .ok (.iload_n 3, 1) := by decide +kernel
theorem dX7_border_17 : decode cX7_border 17 = .ok (.i2l, 1) := by decide +kernel
theorem dX7_border_18 : decode cX7_border 18 = .ok (.lconst 0, 1) := by decide +kernel
theorem dX7_border_19 : decode cX7_border 19 = .ok (.ldc2_w 99, 3) := by decide +kernel
theorem dX7_border_22 : decode cX7_border 22 = .ok (.invokestatic 88, 3) := by decide +kernel
theorem dX7_border_25 : decode cX7_border 25 = .ok (.ifCond .eq 8, 3) := by decide +kernel
theorem dX7_border_28 : decode cX7_border 28 = .ok (.iload_n 1, 1) := by decide +kernel
theorem dX7_border_29 : decode cX7_border 29 = .ok (.iload_n 2, 1) := by decide +kernel
theorem dX7_border_30 : decode cX7_border 30 = .ok (.if_icmp .ne 7, 3) := by decide +kernel
theorem dX7_border_33 : decode cX7_border 33 = .ok (.invokestatic 95, 3) := by decide +kernel
theorem dX7_border_36 : decode cX7_border 36 = .ok (.lreturn, 1) := by decide +kernel
theorem dX7_border_37 : decode cX7_border 37 = .ok (.ldc2_w 99, 3) := by decide +kernel
theorem dX7_border_40 : decode cX7_border 40 = .ok (.aload_n 0, 1) := by decide +kernel
theorem dX7_border_41 : decode cX7_border 41 = .ok (.getfield 22, 3) := by decide +kernel
theorem dX7_border_44 : decode cX7_border 44 = .ok (.iload_n 2, 1) := by decide +kernel
theorem dX7_border_45 : decode cX7_border 45 = .ok (.iaload, 1) := by decide +kernel
theorem dX7_border_46 : decode cX7_border 46 = .ok (.aload_n 0, 1) := by decide +kernel
theorem dX7_border_47 : decode cX7_border 47 = .ok (.getfield 22, 3) := by decide +kernel
theorem dX7_border_50 : decode cX7_border 50 = .ok (.iload_n 1, 1) := by decide +kernel
theorem dX7_border_51 : decode cX7_border 51 = .ok (.iaload, 1) := by decide +kernel
theorem dX7_border_52 : decode cX7_border 52 = .ok (.isub, 1) := by decide +kernel
theorem dX7_border_53 : decode cX7_border 53 = .ok (.i2l, 1) := by decide +kernel
theorem dX7_border_54 : decode cX7_border 54 = .ok (.lmul, 1) := by decide +kernel
theorem dX7_border_55 : decode cX7_border 55 = .ok (.lstore 4, 2) := by decide +kernel
theorem dX7_border_57 : decode cX7_border 57 = .ok (.ldc2_w 99, 3) := by decide +kernel
theorem dX7_border_60 : decode cX7_border 60 = .ok (.aload_n 0, 1) := by decide +kernel
theorem dX7_border_61 : decode cX7_border 61 = .ok (.getfield 25, 3) := by decide +kernel
theorem dX7_border_64 : decode cX7_border 64 = .ok (.iload_n 2, 1) := by decide +kernel
theorem dX7_border_65 : decode cX7_border 65 = .ok (.iaload, 1) := by decide +kernel
theorem dX7_border_66 : decode cX7_border 66 = .ok (.aload_n 0, 1) := by decide +kernel
theorem dX7_border_67 : decode cX7_border 67 = .ok (.getfield 25, 3) := by decide +kernel
theorem dX7_border_70 : decode cX7_border 70 = .ok (.iload_n 1, 1) := by decide +kernel
theorem dX7_border_71 : decode cX7_border 71 = .ok (.iaload, 1) := by decide +kernel
theorem dX7_border_72 : decode cX7_border 72 = .ok (.isub, 1) := by decide +kernel
theorem dX7_border_73 : decode cX7_border 73 = .ok (.i2l, 1) := by decide +kernel
theorem dX7_border_74 : decode cX7_border 74 = .ok (.lmul, 1) := by decide +kernel
theorem dX7_border_75 : decode cX7_border 75 = .ok (.lstore 6, 2) := by decide +kernel
theorem dX7_border_77 : decode cX7_border 77 = .ok (.aload_n 0, 1) := by decide +kernel
theorem dX7_border_78 : decode cX7_border 78 = .ok (.getfield 19, 3) := by decide +kernel
theorem dX7_border_81 : decode cX7_border 81 = .ok (.iload_n 1, 1) := by decide +kernel
theorem dX7_border_82 : decode cX7_border 82 = .ok (.iaload, 1) := by decide +kernel
theorem dX7_border_83 : decode cX7_border 83 = .ok (.ifCond .ne 33, 3) := by decide +kernel
theorem dX7_border_86 : decode cX7_border 86 = .ok (.aload_n 0, 1) := by decide +kernel
theorem dX7_border_87 : decode cX7_border 87 = .ok (.getfield 19, 3) := by decide +kernel
theorem dX7_border_90 : decode cX7_border 90 = .ok (.iload_n 2, 1) := by decide +kernel
theorem dX7_border_91 : decode cX7_border 91 = .ok (.iaload, 1) := by decide +kernel
theorem dX7_border_92 : decode cX7_border 92 = .ok (.ifCond .ne 24, 3) := by decide +kernel
theorem dX7_border_95 : decode cX7_border 95 = .ok (.lload 4, 2) := by decide +kernel
theorem dX7_border_97 : decode cX7_border 97 = .ok (.lconst 0, 1) := by decide +kernel
theorem dX7_border_98 : decode cX7_border 98 = .ok (.lcmp, 1) := by decide +kernel
theorem dX7_border_99 : decode cX7_border 99 = .ok (.ifCond .ne 10, 3) := by decide +kernel
theorem dX7_border_102 : decode cX7_border 102 = .ok (.lload 6, 2) := by decide +kernel
theorem dX7_border_104 : decode cX7_border 104 = .ok (.lconst 0, 1) := by decide +kernel
theorem dX7_border_105 : decode cX7_border 105 = .ok (.lcmp, 1) := by decide +kernel
theorem dX7_border_106 : decode cX7_border 106 = .ok (.ifCond .eq 10, 3) := by decide +kernel
theorem dX7_border_109 : decode cX7_border 109 = .ok (.aload_n 0, 1) := by decide +kernel
theorem dX7_border_110 : decode cX7_border 110 = .ok (.invokevirtual 213, 3) := by decide +kernel
theorem dX7_border_113 : decode cX7_border 113 = .ok (.ifCond .ne 7, 3) := by decide +kernel
theorem dX7_border_116 : decode cX7_border 116 = .ok (.invokestatic 95, 3) := by decide +kernel
theorem dX7_border_119 : decode cX7_border 119 = .ok (.lreturn, 1) := by decide +kernel
theorem dX7_border_120 : decode cX7_border 120 = .ok (.lconst 0, 1) := by decide +kernel
theorem dX7_border_121 : decode cX7_border 121 = .ok (.aload_n 0, 1) := by decide +kernel
theorem dX7_border_122 : decode cX7_border 122 = .ok (.getfield 22, 3) := by decide +kernel
theorem dX7_border_125 : decode cX7_border 125 = .ok (.iload_n 2, 1) := by decide +kernel
theorem dX7_border_126 : decode cX7_border 126 = .ok (.iaload, 1) := by decide +kernel
theorem dX7_border_127 : decode cX7_border 127 = .ok (.aload_n 0, 1) := by decide +kernel
theorem dX7_border_128 : decode cX7_border 128 = .ok (.getfield 22, 3) := by decide +kernel
theorem dX7_border_131 : decode cX7_border 131 = .ok (.iload_n 2, 1) := by decide +kernel
theorem dX7_border_132 : decode cX7_border 132 = .ok (.iaload, 1) := by decide +kernel
theorem dX7_border_133 : decode cX7_border 133 = .ok (.imul, 1) := by decide +kernel
theorem dX7_border_134 : decode cX7_border 134 = .ok (.i2l, 1) := by decide +kernel
theorem dX7_border_135 : decode cX7_border 135 = .ok (.ladd, 1) := by decide +kernel
theorem dX7_border_136 : decode cX7_border 136 = .ok (.aload_n 0, 1) := by decide +kernel
theorem dX7_border_137 : decode cX7_border 137 = .ok (.getfield 25, 3) := by decide +kernel
theorem dX7_border_140 : decode cX7_border 140 = .ok (.iload_n 2, 1) := by decide +kernel
theorem dX7_border_141 : decode cX7_border 141 = .ok (.iaload, 1) := by decide +kernel
theorem dX7_border_142 : decode cX7_border 142 = .ok (.aload_n 0, 1) := by decide +kernel
theorem dX7_border_143 : decode cX7_border 143 = .ok (.getfield 25, 3) := by decide +kernel
theorem dX7_border_146 : decode cX7_border 146 = .ok (.iload_n 2, 1) := by decide +kernel
theorem dX7_border_147 : decode cX7_border 147 = .ok (.iaload, 1) := by decide +kernel
theorem dX7_border_148 : decode cX7_border 148 = .ok (.imul, 1) := by decide +kernel
theorem dX7_border_149 : decode cX7_border 149 = .ok (.i2l, 1) := by decide +kernel
theorem dX7_border_150 : decode cX7_border 150 = .ok (.ladd, 1) := by decide +kernel
theorem dX7_border_151 : decode cX7_border 151 = .ok (.aload_n 0, 1) := by decide +kernel
theorem dX7_border_152 : decode cX7_border 152 = .ok (.getfield 59, 3) := by decide +kernel
theorem dX7_border_155 : decode cX7_border 155 = .ok (.iload_n 2, 1) := by decide +kernel
theorem dX7_border_156 : decode cX7_border 156 = .ok (.iaload, 1) := by decide +kernel
theorem dX7_border_157 : decode cX7_border 157 = .ok (.i2l, 1) := by decide +kernel
theorem dX7_border_158 : decode cX7_border 158 = .ok (.ladd, 1) := by decide +kernel
theorem dX7_border_159 : decode cX7_border 159 = .ok (.lstore 8, 2) := by decide +kernel
theorem dX7_border_161 : decode cX7_border 161 = .ok (.lload 8, 2) := by decide +kernel
theorem dX7_border_163 : decode cX7_border 163 = .ok (.lconst 0, 1) := by decide +kernel
theorem dX7_border_164 : decode cX7_border 164 = .ok (.aload_n 0, 1) := by decide +kernel
theorem dX7_border_165 : decode cX7_border 165 = .ok (.getfield 22, 3) := by decide +kernel
theorem dX7_border_168 : decode cX7_border 168 = .ok (.iload_n 1, 1) := by decide +kernel
theorem dX7_border_169 : decode cX7_border 169 = .ok (.iaload, 1) := by decide +kernel
theorem dX7_border_170 : decode cX7_border 170 = .ok (.aload_n 0, 1) := by decide +kernel
theorem dX7_border_171 : decode cX7_border 171 = .ok (.getfield 22, 3) := by decide +kernel
theorem dX7_border_174 : decode cX7_border 174 = .ok (.iload_n 1, 1) := by decide +kernel
theorem dX7_border_175 : decode cX7_border 175 = .ok (.iaload, 1) := by decide +kernel
theorem dX7_border_176 : decode cX7_border 176 = .ok (.imul, 1) := by decide +kernel
theorem dX7_border_177 : decode cX7_border 177 = .ok (.i2l, 1) := by decide +kernel
theorem dX7_border_178 : decode cX7_border 178 = .ok (.ladd, 1) := by decide +kernel
theorem dX7_border_179 : decode cX7_border 179 = .ok (.aload_n 0, 1) := by decide +kernel
theorem dX7_border_180 : decode cX7_border 180 = .ok (.getfield 25, 3) := by decide +kernel
theorem dX7_border_183 : decode cX7_border 183 = .ok (.iload_n 1, 1) := by decide +kernel
theorem dX7_border_184 : decode cX7_border 184 = .ok (.iaload, 1) := by decide +kernel
theorem dX7_border_185 : decode cX7_border 185 = .ok (.aload_n 0, 1) := by decide +kernel
theorem dX7_border_186 : decode cX7_border 186 = .ok (.getfield 25, 3) := by decide +kernel
theorem dX7_border_189 : decode cX7_border 189 = .ok (.iload_n 1, 1) := by decide +kernel
theorem dX7_border_190 : decode cX7_border 190 = .ok (.iaload, 1) := by decide +kernel
theorem dX7_border_191 : decode cX7_border 191 = .ok (.imul, 1) := by decide +kernel
theorem dX7_border_192 : decode cX7_border 192 = .ok (.i2l, 1) := by decide +kernel
theorem dX7_border_193 : decode cX7_border 193 = .ok (.ladd, 1) := by decide +kernel
theorem dX7_border_194 : decode cX7_border 194 = .ok (.aload_n 0, 1) := by decide +kernel
theorem dX7_border_195 : decode cX7_border 195 = .ok (.getfield 59, 3) := by decide +kernel
theorem dX7_border_198 : decode cX7_border 198 = .ok (.iload_n 1, 1) := by decide +kernel
theorem dX7_border_199 : decode cX7_border 199 = .ok (.iaload, 1) := by decide +kernel
theorem dX7_border_200 : decode cX7_border 200 = .ok (.i2l, 1) := by decide +kernel
theorem dX7_border_201 : decode cX7_border 201 = .ok (.ladd, 1) := by decide +kernel
theorem dX7_border_202 : decode cX7_border 202 = .ok (.lsub, 1) := by decide +kernel
theorem dX7_border_203 : decode cX7_border 203 = .ok (.lstore 8, 2) := by decide +kernel
theorem dX7_border_205 : decode cX7_border 205 = .ok (.lload 4, 2) := by decide +kernel
theorem dX7_border_207 : decode cX7_border 207 = .ok (.lload 6, 2) := by decide +kernel
theorem dX7_border_209 : decode cX7_border 209 = .ok (.invokestatic 235, 3) := by decide +kernel
theorem dX7_border_212 : decode cX7_border 212 = .ok (.lload 8, 2) := by decide +kernel
theorem dX7_border_214 : decode cX7_border 214 = .ok (.invokestatic 235, 3) := by decide +kernel
theorem dX7_border_217 : decode cX7_border 217 = .ok (.lstore 10, 2) := by decide +kernel
theorem dX7_border_219 : decode cX7_border 219 = .ok (.lload 4, 2) := by decide +kernel
theorem dX7_border_221 : decode cX7_border 221 = .ok (.lconst 0, 1) := by decide +kernel
theorem dX7_border_222 : decode cX7_border 222 = .ok (.lcmp, 1) := by decide +kernel
theorem dX7_border_223 : decode cX7_border 223 = .ok (.ifCond .lt 17, 3) := by decide +kernel
theorem dX7_border_226 : decode cX7_border 226 = .ok (.lload 4, 2) := by decide +kernel
theorem dX7_border_228 : decode cX7_border 228 = .ok (.lconst 0, 1) := by decide +kernel
theorem dX7_border_229 : decode cX7_border 229 = .ok (.lcmp, 1) := by decide +kernel
theorem dX7_border_230 : decode cX7_border 230 = .ok (.ifCond .ne 16, 3) := by decide +kernel
theorem dX7_border_233 : decode cX7_border 233 = .ok (.lload 6, 2) := by decide +kernel
theorem dX7_border_235 : decode cX7_border 235 = .ok (.lconst 0, 1) := by decide +kernel
theorem dX7_border_236 : decode cX7_border 236 = .ok (.lcmp, 1) := by decide +kernel
theorem dX7_border_237 : decode cX7_border 237 = .ok (.ifCond .ge 9, 3) := by decide +kernel
theorem dX7_border_240 : decode cX7_border 240 = .ok (.lload 10, 2) := by decide +kernel
theorem dX7_border_242 : decode cX7_border 242 = .ok (.lneg, 1) := by decide +kernel
theorem dX7_border_243 : decode cX7_border 243 = .ok (.goto 5, 3) := by decide +kernel
theorem dX7_border_246 : decode cX7_border 246 = .ok (.lload 10, 2) := by decide +kernel
theorem dX7_border_248 : decode cX7_border 248 = .ok (.lstore 10, 2) := by decide +kernel
theorem dX7_border_250 : decode cX7_border 250 = .ok (.iload_n 3, 1) := by decide +kernel
theorem dX7_border_251 : decode cX7_border 251 = .ok (.ifCond .ne 11, 3) := by decide +kernel
theorem dX7_border_254 : decode cX7_border 254 = .ok (.lload 4, 2) := by decide +kernel
theorem dX7_border_256 : decode cX7_border 256 = .ok (.lload 10, 2) := by decide +kernel
theorem dX7_border_258 : decode cX7_border 258 = .ok (.ldiv, 1) := by decide +kernel
theorem dX7_border_259 : decode cX7_border 259 = .ok (.goto 21, 3) := by decide +kernel
theorem dX7_border_262 : decode cX7_border 262 = .ok (.iload_n 3, 1) := by decide +kernel
theorem dX7_border_263 : decode cX7_border 263 = .ok (.iconst 1, 1) := by decide +kernel
theorem dX7_border_264 : decode cX7_border 264 = .ok (.if_icmp .ne 11, 3) := by decide +kernel
theorem dX7_border_267 : decode cX7_border 267 = .ok (.lload 6, 2) := by decide +kernel
theorem dX7_border_269 : decode cX7_border 269 = .ok (.lload 10, 2) := by decide +kernel
theorem dX7_border_271 : decode cX7_border 271 = .ok (.ldiv, 1) := by decide +kernel
theorem dX7_border_272 : decode cX7_border 272 = .ok (.goto 8, 3) := by decide +kernel
theorem dX7_border_275 : decode cX7_border 275 = .ok (.lload 8, 2) := by decide +kernel
theorem dX7_border_277 : decode cX7_border 277 = .ok (.lload 10, 2) := by decide +kernel
theorem dX7_border_279 : decode cX7_border 279 = .ok (.ldiv, 1) := by decide +kernel
theorem dX7_border_280 : decode cX7_border 280 = .ok (.lreturn, 1) := by decide +kernel
theorem dX7_who_0 : decode cX7_who 0 = .ok (.iload_n 1, 1) := by decide +kernel
theorem dX7_who_1 : decode cX7_who 1 = .ok (.iload_n 2, 1) := by decide +kernel
theorem dX7_who_2 : decode cX7_who 2 = .ok (.invokestatic 118, 3) := by decide +kernel
theorem dX7_who_5 : decode cX7_who 5 = .ok (.ifCond .ne 6, 3) := by decide +kernel
theorem dX7_who_8 : decode cX7_who 8 = .ok (.bipush (-2), 2) := by decide +kernel
theorem dX7_who_10 : decode cX7_who 10 = .ok (.ireturn, 1) := by decide +kernel
theorem dX7_who_11 : decode cX7_who 11 = .ok (.aload_n 0, 1) := by decide +kernel
theorem dX7_who_12 : decode cX7_who 12 = .ok (.invokevirtual 213, 3) := by decide +kernel
theorem dX7_who_15 : decode cX7_who 15 = .ok (.ifCond .ne 6, 3) := by decide +kernel
theorem dX7_who_18 : decode cX7_who 18 = .ok (.bipush (-3), 2) := by decide +kernel
theorem dX7_who_20 : decode cX7_who 20 = .ok (.ireturn, 1) := by decide +kernel
theorem dX7_who_21 : decode cX7_who 21 = .ok (.bipush (-9), 2) := by decide +kernel
theorem dX7_who_23 : decode cX7_who 23 = .ok (.istore_n 3, 1) := by decide +kernel
theorem dX7_who_24 : decode cX7_who 24 = .ok (.iconst 0, 1) := by decide +kernel
theorem dX7_who_25 : decode cX7_who 25 = .ok (.istore 4, 2) := by decide +kernel
theorem dX7_who_27 : decode cX7_who 27 = .ok (.iconst 0, 1) := by decide +kernel
theorem dX7_who_28 : decode cX7_who 28 = .ok (.istore 5, 2) := by decide +kernel
theorem dX7_who_30 : decode cX7_who 30 = .ok (.iload 5, 2) := by decide +kernel
theorem dX7_who_32 : decode cX7_who 32 = .ok (.aload_n 0, 1) := by decide +kernel
theorem dX7_who_33 : decode cX7_who 33 = .ok (.getfield 115, 3) := by decide +kernel
theorem dX7_who_36 : decode cX7_who 36 = .ok (.if_icmp .ge 45, 3) := by decide +kernel
theorem dX7_who_39 : decode cX7_who 39 = .ok (.aload_n 0, 1) := by decide +kernel
theorem dX7_who_40 : decode cX7_who 40 = .ok (.iload_n 1, 1) := by decide +kernel
theorem dX7_who_41 : decode cX7_who 41 = .ok (.iload_n 2, 1) := by decide +kernel
theorem dX7_who_42 : decode cX7_who 42 = .ok (.iload 5, 2) := by decide +kernel
theorem dX7_who_44 : decode cX7_who 44 = .ok (.invokevirtual 181, 3) := by decide +kernel
theorem dX7_who_47 : decode cX7_who 47 = .ok (.aload_n 0, 1) := by decide +kernel
theorem dX7_who_48 : decode cX7_who 48 = .ok (.getfield 59, 3) := by decide +kernel
theorem dX7_who_51 : decode cX7_who 51 = .ok (.iload 5, 2) := by decide +kernel
theorem dX7_who_53 : decode cX7_who 53 = .ok (.iaload, 1) := by decide +kernel
theorem dX7_who_54 : decode cX7_who 54 = .ok (.iadd, 1) := by decide +kernel
theorem dX7_who_55 : decode cX7_who 55 = .ok (.istore 6, 2) := by decide +kernel
theorem dX7_who_57 : decode cX7_who 57 = .ok (.iload_n 3, 1) := by decide +kernel
theorem dX7_who_58 : decode cX7_who 58 = .ok (.ifCond .lt 10, 3) := by decide +kernel
theorem dX7_who_61 : decode cX7_who 61 = .ok (.iload 6, 2) := by decide +kernel
theorem dX7_who_63 : decode cX7_who 63 = .ok (.iload 4, 2) := by decide +kernel
theorem dX7_who_65 : decode cX7_who 65 = .ok (.if_icmp .ge 10, 3) := by decide +kernel
theorem dX7_who_68 : decode cX7_who 68 = .ok (.iload 5, 2) := by decide +kernel
theorem dX7_who_70 : decode cX7_who 70 = .ok (.istore_n 3, 1) := by decide +kernel
theorem dX7_who_71 : decode cX7_who 71 = .ok (.iload 6, 2) := by decide +kernel
theorem dX7_who_73 : decode cX7_who 73 = .ok (.istore 4, 2) := by decide +kernel
theorem dX7_who_75 : decode cX7_who 75 = .ok (.iinc 5 1, 3) := by decide +kernel
theorem dX7_who_78 : decode cX7_who 78 = .ok (.goto (-48), 3) := by decide +kernel
theorem dX7_who_81 : decode cX7_who 81 = .ok (.iload_n 3, 1) := by decide +kernel
theorem dX7_who_82 : decode cX7_who 82 = .ok (.ireturn, 1) := by decide +kernel
theorem dX7_place_0 : decode cX7_place 0 = .ok (.iload_n 1, 1) := by decide +kernel
theorem dX7_place_1 : decode cX7_place 1 = .ok (.iload_n 2, 1) := by decide +kernel
theorem dX7_place_2 : decode cX7_place 2 = .ok (.invokestatic 118, 3) := by decide +kernel
theorem dX7_place_5 : decode cX7_place 5 = .ok (.ifCond .ne 6, 3) := by decide +kernel
theorem dX7_place_8 : decode cX7_place 8 = .ok (.bipush (-2), 2) := by decide +kernel
theorem dX7_place_10 : decode cX7_place 10 = .ok (.ireturn, 1) := by decide +kernel
theorem dX7_place_11 : decode cX7_place 11 = .ok (.aload_n 0, 1) := by decide +kernel
theorem dX7_place_12 : decode cX7_place 12 = .ok (.getfield 239, 3) := by decide +kernel
theorem dX7_place_15 : decode cX7_place 15 = .ok (.bipush 8, 2) := by decide +kernel
theorem dX7_place_17 : decode cX7_place 17 = .ok (.if_icmp .ne 6, 3) := by decide +kernel
theorem dX7_place_20 : decode cX7_place 20 = .ok (.bipush (-4), 2) := by decide +kernel
theorem dX7_place_22 : decode cX7_place 22 = .ok (.ireturn, 1) := by decide +kernel
theorem dX7_place_23 : decode cX7_place 23 = .ok (.aload_n 0, 1) := by decide +kernel
theorem dX7_place_24 : decode cX7_place 24 = .ok (.getfield 62, 3) := by decide +kernel
theorem dX7_place_27 : decode cX7_place 27 = .ok (.aload_n 0, 1) := by decide +kernel
theorem dX7_place_28 : decode cX7_place 28 = .ok (.getfield 239, 3) := by decide +kernel
theorem dX7_place_31 : decode cX7_place 31 = .ok (.iload_n 1, 1) := by decide +kernel
theorem dX7_place_32 : decode cX7_place 32 = .ok (.iastore, 1) := by decide +kernel
theorem dX7_place_33 : decode cX7_place 33 = .ok (.aload_n 0, 1) := by decide +kernel
theorem dX7_place_34 : decode cX7_place 34 = .ok (.getfield 65, 3) := by decide +kernel
theorem dX7_place_37 : decode cX7_place 37 = .ok (.aload_n 0, 1) := by decide +kernel
theorem dX7_place_38 : decode cX7_place 38 = .ok (.getfield 239, 3) := by decide +kernel
theorem dX7_place_41 : decode cX7_place 41 = .ok (.iload_n 2, 1) := by decide +kernel
theorem dX7_place_42 : decode cX7_place 42 = .ok (.iastore, 1) := by decide +kernel
theorem dX7_place_43 : decode cX7_place 43 = .ok (.aload_n 0, 1) := by decide +kernel
theorem dX7_place_44 : decode cX7_place 44 = .ok (.dup, 1) := by decide +kernel
theorem dX7_place_45 : decode cX7_place 45 = .ok (.getfield 239, 3) := by decide +kernel
theorem dX7_place_48 : decode cX7_place 48 = .ok (.iconst 1, 1) := by decide +kernel
theorem dX7_place_49 : decode cX7_place 49 = .ok (.iadd, 1) := by decide +kernel
theorem dX7_place_50 : decode cX7_place 50 = .ok (.putfield 239, 3) := by decide +kernel
theorem dX7_place_53 : decode cX7_place 53 = .ok (.aload_n 0, 1) := by decide +kernel
theorem dX7_place_54 : decode cX7_place 54 = .ok (.getfield 239, 3) := by decide +kernel
theorem dX7_place_57 : decode cX7_place 57 = .ok (.iconst 1, 1) := by decide +kernel
theorem dX7_place_58 : decode cX7_place 58 = .ok (.isub, 1) := by decide +kernel
theorem dX7_place_59 : decode cX7_place 59 = .ok (.ireturn, 1) := by decide +kernel
theorem dX7_move_0 : decode cX7_move 0 = .ok (.aload_n 0, 1) := by decide +kernel
theorem dX7_move_1 : decode cX7_move 1 = .ok (.iload_n 1, 1) := by decide +kernel
theorem dX7_move_2 : decode cX7_move 2 = .ok (.invokevirtual 173, 3) := by decide +kernel
theorem dX7_move_5 : decode cX7_move 5 = .ok (.ifCond .eq 5, 3) := by decide +kernel
theorem dX7_move_8 : decode cX7_move 8 = .ok (.iconst (-1), 1) := by decide +kernel
theorem dX7_move_9 : decode cX7_move 9 = .ok (.ireturn, 1) := by decide +kernel
theorem dX7_move_10 : decode cX7_move 10 = .ok (.aload_n 0, 1) := by decide +kernel
theorem dX7_move_11 : decode cX7_move 11 = .ok (.getfield 22, 3) := by decide +kernel
theorem dX7_move_14 : decode cX7_move 14 = .ok (.iload_n 1, 1) := by decide +kernel
theorem dX7_move_15 : decode cX7_move 15 = .ok (.iaload, 1) := by decide +kernel
theorem dX7_move_16 : decode cX7_move 16 = .ok (.istore_n 2, 1) := by decide +kernel
theorem dX7_move_17 : decode cX7_move 17 = .ok (.aload_n 0, 1) := by decide +kernel
theorem dX7_move_18 : decode cX7_move 18 = .ok (.getfield 25, 3) := by decide +kernel
theorem dX7_move_21 : decode cX7_move 21 = .ok (.iload_n 1, 1) := by decide +kernel
theorem dX7_move_22 : decode cX7_move 22 = .ok (.iaload, 1) := by decide +kernel
theorem dX7_move_23 : decode cX7_move 23 = .ok (.istore_n 3, 1) := by decide +kernel
theorem dX7_move_24 : decode cX7_move 24 = .ok (.aload_n 0, 1) := by decide +kernel
theorem dX7_move_25 : decode cX7_move 25 = .ok (.invokevirtual 207, 3) := by decide +kernel
theorem dX7_move_28 : decode cX7_move 28 = .ok (.istore 4, 2) := by decide +kernel
theorem dX7_move_30 : decode cX7_move 30 = .ok (.bipush (-9), 2) := by decide +kernel
theorem dX7_move_32 : decode cX7_move 32 = .ok (.istore 5, 2) := by decide +kernel
theorem dX7_move_34 : decode cX7_move 34 = .ok (.iconst 0, 1) := by decide +kernel
theorem dX7_move_35 : decode cX7_move 35 = .ok (.istore 6, 2) := by decide +kernel
theorem dX7_move_37 : decode cX7_move 37 = .ok (.iload 6, 2) := by decide +kernel
theorem dX7_move_39 : decode cX7_move 39 = .ok (.aload_n 0, 1) := by decide +kernel
theorem dX7_move_40 : decode cX7_move 40 = .ok (.getfield 239, 3) := by decide +kernel
theorem dX7_move_43 : decode cX7_move 43 = .ok (.if_icmp .ge 66, 3) := by decide +kernel
theorem dX7_move_46 : decode cX7_move 46 = .ok (.aload_n 0, 1) := by decide +kernel
theorem dX7_move_47 : decode cX7_move 47 = .ok (.getfield 22, 3) := by decide +kernel
theorem dX7_move_50 : decode cX7_move 50 = .ok (.iload_n 1, 1) := by decide +kernel
theorem dX7_move_51 : decode cX7_move 51 = .ok (.aload_n 0, 1) := by decide +kernel
theorem dX7_move_52 : decode cX7_move 52 = .ok (.getfield 62, 3) := by decide +kernel
theorem dX7_move_55 : decode cX7_move 55 = .ok (.iload 6, 2) := by decide +kernel
theorem dX7_move_57 : decode cX7_move 57 = .ok (.iaload, 1) := by decide +kernel
theorem dX7_move_58 : decode cX7_move 58 = .ok (.iastore, 1) := by decide +kernel
theorem dX7_move_59 : decode cX7_move 59 = .ok (.aload_n 0, 1) := by decide +kernel
theorem dX7_move_60 : decode cX7_move 60 = .ok (.getfield 25, 3) := by decide +kernel
theorem dX7_move_63 : decode cX7_move 63 = .ok (.iload_n 1, 1) := by decide +kernel
theorem dX7_move_64 : decode cX7_move 64 = .ok (.aload_n 0, 1) := by decide +kernel
theorem dX7_move_65 : decode cX7_move 65 = .ok (.getfield 65, 3) := by decide +kernel
theorem dX7_move_68 : decode cX7_move 68 = .ok (.iload 6, 2) := by decide +kernel
theorem dX7_move_70 : decode cX7_move 70 = .ok (.iaload, 1) := by decide +kernel
theorem dX7_move_71 : decode cX7_move 71 = .ok (.iastore, 1) := by decide +kernel
theorem dX7_move_72 : decode cX7_move 72 = .ok (.aload_n 0, 1) := by decide +kernel
theorem dX7_move_73 : decode cX7_move 73 = .ok (.invokevirtual 207, 3) := by decide +kernel
theorem dX7_move_76 : decode cX7_move 76 = .ok (.istore 7, 2) := by decide +kernel
theorem dX7_move_78 : decode cX7_move 78 = .ok (.iload 7, 2) := by decide +kernel
theorem dX7_move_80 : decode cX7_move 80 = .ok (.ifCond .lt 23, 3) := by decide +kernel
theorem dX7_move_83 : decode cX7_move 83 = .ok (.iload 4, 2) := by decide +kernel
theorem dX7_move_85 : decode cX7_move 85 = .ok (.ifCond .lt 10, 3) := by decide +kernel
theorem dX7_move_88 : decode cX7_move 88 = .ok (.iload 7, 2) := by decide +kernel
theorem dX7_move_90 : decode cX7_move 90 = .ok (.iload 4, 2) := by decide +kernel
theorem dX7_move_92 : decode cX7_move 92 = .ok (.if_icmp .ge 11, 3) := by decide +kernel
theorem dX7_move_95 : decode cX7_move 95 = .ok (.iload 6, 2) := by decide +kernel
theorem dX7_move_97 : decode cX7_move 97 = .ok (.istore 5, 2) := by decide +kernel
theorem dX7_move_99 : decode cX7_move 99 = .ok (.iload 7, 2) := by decide +kernel
theorem dX7_move_101 : decode cX7_move 101 = .ok (.istore 4, 2) := by decide +kernel
theorem dX7_move_103 : decode cX7_move 103 = .ok (.iinc 6 1, 3) := by decide +kernel
theorem dX7_move_106 : decode cX7_move 106 = .ok (.goto (-69), 3) := by decide +kernel
theorem dX7_move_109 : decode cX7_move 109 = .ok (.aload_n 0, 1) := by decide +kernel
theorem dX7_move_110 : decode cX7_move 110 = .ok (.getfield 22, 3) := by decide +kernel
theorem dX7_move_113 : decode cX7_move 113 = .ok (.iload_n 1, 1) := by decide +kernel
theorem dX7_move_114 : decode cX7_move 114 = .ok (.iload 5, 2) := by decide +kernel
theorem dX7_move_116 : decode cX7_move 116 = .ok (.ifCond .ge 7, 3) := by decide +kernel
theorem dX7_move_119 : decode cX7_move 119 = .ok (.iload_n 2, 1) := by decide +kernel
theorem dX7_move_120 : decode cX7_move 120 = .ok (.goto 10, 3) := by decide +kernel
theorem dX7_move_123 : decode cX7_move 123 = .ok (.aload_n 0, 1) := by decide +kernel
theorem dX7_move_124 : decode cX7_move 124 = .ok (.getfield 62, 3) := by decide +kernel
theorem dX7_move_127 : decode cX7_move 127 = .ok (.iload 5, 2) := by decide +kernel
theorem dX7_move_129 : decode cX7_move 129 = .ok (.iaload, 1) := by decide +kernel
theorem dX7_move_130 : decode cX7_move 130 = .ok (.iastore, 1) := by decide +kernel
theorem dX7_move_131 : decode cX7_move 131 = .ok (.aload_n 0, 1) := by decide +kernel
theorem dX7_move_132 : decode cX7_move 132 = .ok (.getfield 25, 3) := by decide +kernel
theorem dX7_move_135 : decode cX7_move 135 = .ok (.iload_n 1, 1) := by decide +kernel
theorem dX7_move_136 : decode cX7_move 136 = .ok (.iload 5, 2) := by decide +kernel
theorem dX7_move_138 : decode cX7_move 138 = .ok (.ifCond .ge 7, 3) := by decide +kernel
theorem dX7_move_141 : decode cX7_move 141 = .ok (.iload_n 3, 1) := by decide +kernel
theorem dX7_move_142 : decode cX7_move 142 = .ok (.goto 10, 3) := by decide +kernel
theorem dX7_move_145 : decode cX7_move 145 = .ok (.aload_n 0, 1) := by decide +kernel
theorem dX7_move_146 : decode cX7_move 146 = .ok (.getfield 65, 3) := by decide +kernel
theorem dX7_move_149 : decode cX7_move 149 = .ok (.iload 5, 2) := by decide +kernel
theorem dX7_move_151 : decode cX7_move 151 = .ok (.iaload, 1) := by decide +kernel
theorem dX7_move_152 : decode cX7_move 152 = .ok (.iastore, 1) := by decide +kernel
theorem dX7_move_153 : decode cX7_move 153 = .ok (.iload 5, 2) := by decide +kernel
theorem dX7_move_155 : decode cX7_move 155 = .ok (.ireturn, 1) := by decide +kernel
theorem dX7_openMiles_0 : decode cX7_openMiles 0 = .ok (.aload_n 0, 1) := by decide +kernel
theorem dX7_openMiles_1 : decode cX7_openMiles 1 = .ok (.ldc 199, 2) := by decide +kernel
theorem dX7_openMiles_3 : decode cX7_openMiles 3 = .ok (.invokevirtual 200, 3) := by decide +kernel
theorem dX7_openMiles_6 : decode cX7_openMiles 6 = .ok (.iconst 0, 1) := by decide +kernel
theorem dX7_openMiles_7 : decode cX7_openMiles 7 = .ok (.istore_n 2, 1) := by decide +kernel
theorem dX7_openMiles_8 : decode cX7_openMiles 8 = .ok (.iload_n 2, 1) := by decide +kernel
theorem dX7_openMiles_9 : decode cX7_openMiles 9 = .ok (.aload_n 0, 1) := by decide +kernel
theorem dX7_openMiles_10 : decode cX7_openMiles 10 = .ok (.getfield 115, 3) := by decide +kernel
theorem dX7_openMiles_13 : decode cX7_openMiles 13 = .ok (.if_icmp .ge 33, 3) := by decide +kernel
theorem dX7_openMiles_16 : decode cX7_openMiles 16 = .ok (.aload_n 0, 1) := by decide +kernel
theorem dX7_openMiles_17 : decode cX7_openMiles 17 = .ok (.getfield 41, 3) := by decide +kernel
theorem dX7_openMiles_20 : decode cX7_openMiles 20 = .ok (.iload_n 2, 1) := by decide +kernel
theorem dX7_openMiles_21 : decode cX7_openMiles 21 = .ok (.iload_n 1, 1) := by decide +kernel
theorem dX7_openMiles_22 : decode cX7_openMiles 22 = .ok (.iload_n 2, 1) := by decide +kernel
theorem dX7_openMiles_23 : decode cX7_openMiles 23 = .ok (.invokestatic 210, 3) := by decide +kernel
theorem dX7_openMiles_26 : decode cX7_openMiles 26 = .ok (.ifCond .eq 12, 3) := by decide +kernel
theorem dX7_openMiles_29 : decode cX7_openMiles 29 = .ok (.aload_n 0, 1) := by decide +kernel
theorem dX7_openMiles_30 : decode cX7_openMiles 30 = .ok (.getfield 41, 3) := by decide +kernel
theorem dX7_openMiles_33 : decode cX7_openMiles 33 = .ok (.iload_n 2, 1) := by decide +kernel
theorem dX7_openMiles_34 : decode cX7_openMiles 34 = .ok (.iaload, 1) := by decide +kernel
theorem dX7_openMiles_35 : decode cX7_openMiles 35 = .ok (.goto 4, 3) := by decide +kernel
theorem dX7_openMiles_38 : decode cX7_openMiles 38 = .ok (.iconst 0, 1) := by decide +kernel
theorem dX7_openMiles_39 : decode cX7_openMiles 39 = .ok (.iastore, 1) := by decide +kernel
theorem dX7_openMiles_40 : decode cX7_openMiles 40 = .ok (.iinc 2 1, 3) := by decide +kernel
theorem dX7_openMiles_43 : decode cX7_openMiles 43 = .ok (.goto (-35), 3) := by decide +kernel
theorem dX7_openMiles_46 : decode cX7_openMiles 46 = .ok (.aload_n 0, 1) := by decide +kernel
theorem dX7_openMiles_47 : decode cX7_openMiles 47 = .ok (.invokevirtual 203, 3) := by decide +kernel
theorem dX7_openMiles_50 : decode cX7_openMiles 50 = .ok (.ireturn, 1) := by decide +kernel
theorem dX7_open_0 : decode cX7_open 0 = .ok (.iload_n 1, 1) := by decide +kernel
theorem dX7_open_1 : decode cX7_open 1 = .ok (.i2l, 1) := by decide +kernel
theorem dX7_open_2 : decode cX7_open 2 = .ok (.lconst 0, 1) := by decide +kernel
theorem dX7_open_3 : decode cX7_open 3 = .ok (.lconst 1, 1) := by decide +kernel
theorem dX7_open_4 : decode cX7_open 4 = .ok (.aload_n 0, 1) := by decide +kernel
theorem dX7_open_5 : decode cX7_open 5 = .ok (.getfield 115, 3) := by decide +kernel
theorem dX7_open_8 : decode cX7_open 8 = .ok (.lshl, 1) := by decide +kernel
theorem dX7_open_9 : decode cX7_open 9 = .ok (.lconst 1, 1) := by decide +kernel
theorem dX7_open_10 : decode cX7_open 10 = .ok (.lsub, 1) := by decide +kernel
theorem dX7_open_11 : decode cX7_open 11 = .ok (.invokestatic 88, 3) := by decide +kernel
theorem dX7_open_14 : decode cX7_open 14 = .ok (.ifCond .eq 11, 3) := by decide +kernel
theorem dX7_open_17 : decode cX7_open 17 = .ok (.aload_n 0, 1) := by decide +kernel
theorem dX7_open_18 : decode cX7_open 18 = .ok (.iload_n 1, 1) := by decide +kernel
theorem dX7_open_19 : decode cX7_open 19 = .ok (.invokevirtual 242, 3) := by decide +kernel
theorem dX7_open_22 : decode cX7_open 22 = .ok (.goto 5, 3) := by decide +kernel
theorem dX7_open_25 : decode cX7_open 25 = .ok (.bipush (-2), 2) := by decide +kernel
theorem dX7_open_27 : decode cX7_open 27 = .ok (.ireturn, 1) := by decide +kernel
theorem dX7_best_0 : decode cX7_best 0 = .ok (.iload_n 1, 1) := by decide +kernel
theorem dX7_best_1 : decode cX7_best 1 = .ok (.i2l, 1) := by decide +kernel
theorem dX7_best_2 : decode cX7_best 2 = .ok (.lconst 0, 1) := by decide +kernel
theorem dX7_best_3 : decode cX7_best 3 = .ok (.aload_n 0, 1) := by decide +kernel
theorem dX7_best_4 : decode cX7_best 4 = .ok (.getfield 115, 3) := by decide +kernel
theorem dX7_best_7 : decode cX7_best 7 = .ok (.i2l, 1) := by decide +kernel
theorem dX7_best_8 : decode cX7_best 8 = .ok (.invokestatic 88, 3) := by decide +kernel
theorem dX7_best_11 : decode cX7_best 11 = .ok (.ifCond .ne 6, 3) := by decide +kernel
theorem dX7_best_14 : decode cX7_best 14 = .ok (.bipush (-2), 2) := by decide +kernel
theorem dX7_best_16 : decode cX7_best 16 = .ok (.ireturn, 1) := by decide +kernel
theorem dX7_best_17 : decode cX7_best 17 = .ok (.bipush (-9), 2) := by decide +kernel
theorem dX7_best_19 : decode cX7_best 19 = .ok (.istore_n 2, 1) := by decide +kernel
theorem dX7_best_20 : decode cX7_best 20 = .ok (.iconst 0, 1) := by decide +kernel
theorem dX7_best_21 : decode cX7_best 21 = .ok (.istore_n 3, 1) := by decide +kernel
theorem dX7_best_22 : decode cX7_best 22 = .ok (.iconst 0, 1) := by decide +kernel
theorem dX7_best_23 : decode cX7_best 23 = .ok (.istore 4, 2) := by decide +kernel
theorem dX7_best_25 : decode cX7_best 25 = .ok (.iload 4, 2) := by decide +kernel
theorem dX7_best_27 : decode cX7_best 27 = .ok (.iconst 1, 1) := by decide +kernel
theorem dX7_best_28 : decode cX7_best 28 = .ok (.aload_n 0, 1) := by decide +kernel
theorem dX7_best_29 : decode cX7_best 29 = .ok (.getfield 115, 3) := by decide +kernel
theorem dX7_best_32 : decode cX7_best 32 = .ok (.ishl, 1) := by decide +kernel
theorem dX7_best_33 : decode cX7_best 33 = .ok (.if_icmp .ge 52, 3) := by decide +kernel
theorem dX7_best_36 : decode cX7_best 36 = .ok (.iload 4, 2) := by decide +kernel
theorem dX7_best_38 : decode cX7_best 38 = .ok (.invokestatic 245, 3) := by decide +kernel
theorem dX7_best_41 : decode cX7_best 41 = .ok (.iload_n 1, 1) := by decide +kernel
theorem dX7_best_42 : decode cX7_best 42 = .ok (.if_icmp .ne 12, 3) := by decide +kernel
theorem dX7_best_45 : decode cX7_best 45 = .ok (.aload_n 0, 1) := by decide +kernel
theorem dX7_best_46 : decode cX7_best 46 = .ok (.iload 4, 2) := by decide +kernel
theorem dX7_best_48 : decode cX7_best 48 = .ok (.invokevirtual 242, 3) := by decide +kernel
theorem dX7_best_51 : decode cX7_best 51 = .ok (.goto 5, 3) := by decide +kernel
theorem dX7_best_54 : decode cX7_best 54 = .ok (.bipush (-9), 2) := by decide +kernel
theorem dX7_best_56 : decode cX7_best 56 = .ok (.istore 5, 2) := by decide +kernel
theorem dX7_best_58 : decode cX7_best 58 = .ok (.iload 5, 2) := by decide +kernel
theorem dX7_best_60 : decode cX7_best 60 = .ok (.ifCond .lt 19, 3) := by decide +kernel
theorem dX7_best_63 : decode cX7_best 63 = .ok (.iload_n 2, 1) := by decide +kernel
theorem dX7_best_64 : decode cX7_best 64 = .ok (.ifCond .lt 9, 3) := by decide +kernel
theorem dX7_best_67 : decode cX7_best 67 = .ok (.iload 5, 2) := by decide +kernel
theorem dX7_best_69 : decode cX7_best 69 = .ok (.iload_n 3, 1) := by decide +kernel
theorem dX7_best_70 : decode cX7_best 70 = .ok (.if_icmp .ge 9, 3) := by decide +kernel
theorem dX7_best_73 : decode cX7_best 73 = .ok (.iload 4, 2) := by decide +kernel
theorem dX7_best_75 : decode cX7_best 75 = .ok (.istore_n 2, 1) := by decide +kernel
theorem dX7_best_76 : decode cX7_best 76 = .ok (.iload 5, 2) := by decide +kernel
theorem dX7_best_78 : decode cX7_best 78 = .ok (.istore_n 3, 1) := by decide +kernel
theorem dX7_best_79 : decode cX7_best 79 = .ok (.iinc 4 1, 3) := by decide +kernel
theorem dX7_best_82 : decode cX7_best 82 = .ok (.goto (-57), 3) := by decide +kernel
theorem dX7_best_85 : decode cX7_best 85 = .ok (.iload_n 2, 1) := by decide +kernel
theorem dX7_best_86 : decode cX7_best 86 = .ok (.ireturn, 1) := by decide +kernel
theorem dX7_noSheet_0 : decode cX7_noSheet 0 = .ok (.iload_n 0, 1) := by decide +kernel
theorem dX7_noSheet_1 : decode cX7_noSheet 1 = .ok (.i2l, 1) := by decide +kernel
theorem dX7_noSheet_2 : decode cX7_noSheet 2 = .ok (.lconst 0, 1) := by decide +kernel
theorem dX7_noSheet_3 : decode cX7_noSheet 3 = .ok (.ldc2_w 248, 3) := by decide +kernel
theorem dX7_noSheet_6 : decode cX7_noSheet 6 = .ok (.invokestatic 88, 3) := by decide +kernel
theorem dX7_noSheet_9 : decode cX7_noSheet 9 = .ok (.ifCond .ne 7, 3) := by decide +kernel
theorem dX7_noSheet_12 : decode cX7_noSheet 12 = .ok (.iconst 1, 1) := by decide +kernel
theorem dX7_noSheet_13 : decode cX7_noSheet 13 = .ok (.goto 4, 3) := by decide +kernel
theorem dX7_noSheet_16 : decode cX7_noSheet 16 = .ok (.iconst 0, 1) := by decide +kernel
theorem dX7_noSheet_17 : decode cX7_noSheet 17 = .ok (.ireturn, 1) := by decide +kernel
theorem dX7_sheet_0 : decode cX7_sheet 0 = .ok (.iload_n 1, 1) := by decide +kernel
theorem dX7_sheet_1 : decode cX7_sheet 1 = .ok (.invokestatic 158, 3) := by decide +kernel
theorem dX7_sheet_4 : decode cX7_sheet 4 = .ok (.ifCond .eq 9, 3) := by decide +kernel
theorem dX7_sheet_7 : decode cX7_sheet 7 = .ok (.aload_n 0, 1) := by decide +kernel
theorem dX7_sheet_8 : decode cX7_sheet 8 = .ok (.iconst (-1), 1) := by decide +kernel
theorem dX7_sheet_9 : decode cX7_sheet 9 = .ok (.invokevirtual 101, 3) := by decide +kernel
theorem dX7_sheet_12 : decode cX7_sheet 12 = .ok (.ireturn, 1) := by decide +kernel
theorem dX7_sheet_13 : decode cX7_sheet 13 = .ok (.iload_n 2, 1) := by decide +kernel
theorem dX7_sheet_14 : decode cX7_sheet 14 = .ok (.i2l, 1) := by decide +kernel
theorem dX7_sheet_15 : decode cX7_sheet 15 = .ok (.lconst 0, 1) := by decide +kernel
theorem dX7_sheet_16 : decode cX7_sheet 16 = .ok (.ldc2_w 99, 3) := by decide +kernel
theorem dX7_sheet_19 : decode cX7_sheet 19 = .ok (.invokestatic 88, 3) := by decide +kernel
theorem dX7_sheet_22 : decode cX7_sheet 22 = .ok (.ifCond .eq 9, 3) := by decide +kernel
theorem dX7_sheet_25 : decode cX7_sheet 25 = .ok (.iload_n 3, 1) := by decide +kernel
theorem dX7_sheet_26 : decode cX7_sheet 26 = .ok (.bipush 80, 2) := by decide +kernel
theorem dX7_sheet_28 : decode cX7_sheet 28 = .ok (.if_icmp .le 10, 3) := by decide +kernel
theorem dX7_sheet_31 : decode cX7_sheet 31 = .ok (.aload_n 0, 1) := by decide +kernel
theorem dX7_sheet_32 : decode cX7_sheet 32 = .ok (.bipush (-2), 2) := by decide +kernel
theorem dX7_sheet_34 : decode cX7_sheet 34 = .ok (.invokevirtual 101, 3) := by decide +kernel
theorem dX7_sheet_37 : decode cX7_sheet 37 = .ok (.ireturn, 1) := by decide +kernel
theorem dX7_sheet_38 : decode cX7_sheet 38 = .ok (.iload_n 3, 1) := by decide +kernel
theorem dX7_sheet_39 : decode cX7_sheet 39 = .ok (.ifCond .ge 9, 3) := by decide +kernel
theorem dX7_sheet_42 : decode cX7_sheet 42 = .ok (.aload_n 0, 1) := by decide +kernel
theorem dX7_sheet_43 : decode cX7_sheet 43 = .ok (.iconst 4, 1) := by decide +kernel
theorem dX7_sheet_44 : decode cX7_sheet 44 = .ok (.invokevirtual 105, 3) := by decide +kernel
theorem dX7_sheet_47 : decode cX7_sheet 47 = .ok (.ireturn, 1) := by decide +kernel
theorem dX7_sheet_48 : decode cX7_sheet 48 = .ok (.aload_n 0, 1) := by decide +kernel
theorem dX7_sheet_49 : decode cX7_sheet 49 = .ok (.getfield 68, 3) := by decide +kernel
theorem dX7_sheet_52 : decode cX7_sheet 52 = .ok (.iload_n 1, 1) := by decide +kernel
theorem dX7_sheet_53 : decode cX7_sheet 53 = .ok (.iload_n 3, 1) := by decide +kernel
theorem dX7_sheet_54 : decode cX7_sheet 54 = .ok (.iastore, 1) := by decide +kernel
theorem dX7_sheet_55 : decode cX7_sheet 55 = .ok (.aload_n 0, 1) := by decide +kernel
theorem dX7_sheet_56 : decode cX7_sheet 56 = .ok (.getfield 71, 3) := by decide +kernel
theorem dX7_sheet_59 : decode cX7_sheet 59 = .ok (.iload_n 1, 1) := by decide +kernel
theorem dX7_sheet_60 : decode cX7_sheet 60 = .ok (.iload_n 2, 1) := by decide +kernel
theorem dX7_sheet_61 : decode cX7_sheet 61 = .ok (.iastore, 1) := by decide +kernel
theorem dX7_sheet_62 : decode cX7_sheet 62 = .ok (.iconst 0, 1) := by decide +kernel
theorem dX7_sheet_63 : decode cX7_sheet 63 = .ok (.istore 4, 2) := by decide +kernel
theorem dX7_sheet_65 : decode cX7_sheet 65 = .ok (.iload 4, 2) := by decide +kernel
theorem dX7_sheet_67 : decode cX7_sheet 67 = .ok (.iload_n 3, 1) := by decide +kernel
theorem dX7_sheet_68 : decode cX7_sheet 68 = .ok (.if_icmp .ge 22, 3) := by decide +kernel
theorem dX7_sheet_71 : decode cX7_sheet 71 = .ok (.aload_n 0, 1) := by decide +kernel
theorem dX7_sheet_72 : decode cX7_sheet 72 = .ok (.getfield 74, 3) := by decide +kernel
theorem dX7_sheet_75 : decode cX7_sheet 75 = .ok (.bipush 80, 2) := by decide +kernel
theorem dX7_sheet_77 : decode cX7_sheet 77 = .ok (.iload_n 1, 1) := by decide +kernel
theorem dX7_sheet_78 : decode cX7_sheet 78 = .ok (.imul, 1) := by decide +kernel
theorem dX7_sheet_79 : decode cX7_sheet 79 = .ok (.iload 4, 2) := by decide +kernel
theorem dX7_sheet_81 : decode cX7_sheet 81 = .ok (.iadd, 1) := by decide +kernel
theorem dX7_sheet_82 : decode cX7_sheet 82 = .ok (.iconst 0, 1) := by decide +kernel
theorem dX7_sheet_83 : decode cX7_sheet 83 = .ok (.iastore, 1) := by decide +kernel
theorem dX7_sheet_84 : decode cX7_sheet 84 = .ok (.iinc 4 1, 3) := by decide +kernel
theorem dX7_sheet_87 : decode cX7_sheet 87 = .ok (.goto (-22), 3) := by decide +kernel
theorem dX7_sheet_90 : decode cX7_sheet 90 = .ok (.aload_n 0, 1) := by decide +kernel
theorem dX7_sheet_91 : decode cX7_sheet 91 = .ok (.iconst 1, 1) := by decide +kernel
theorem dX7_sheet_92 : decode cX7_sheet 92 = .ok (.invokevirtual 101, 3) := by decide +kernel
theorem dX7_sheet_95 : decode cX7_sheet 95 = .ok (.ireturn, 1) := by decide +kernel
theorem dX7_lose_0 : decode cX7_lose 0 = .ok (.iload_n 1, 1) := by decide +kernel
theorem dX7_lose_1 : decode cX7_lose 1 = .ok (.invokestatic 158, 3) := by decide +kernel
theorem dX7_lose_4 : decode cX7_lose 4 = .ok (.ifCond .eq 5, 3) := by decide +kernel
theorem dX7_lose_7 : decode cX7_lose 7 = .ok (.iconst (-1), 1) := by decide +kernel
theorem dX7_lose_8 : decode cX7_lose 8 = .ok (.ireturn, 1) := by decide +kernel
theorem dX7_lose_9 : decode cX7_lose 9 = .ok (.aload_n 0, 1) := by decide +kernel
theorem dX7_lose_10 : decode cX7_lose 10 = .ok (.getfield 68, 3) := by decide +kernel
theorem dX7_lose_13 : decode cX7_lose 13 = .ok (.iload_n 1, 1) := by decide +kernel
theorem dX7_lose_14 : decode cX7_lose 14 = .ok (.iaload, 1) := by decide +kernel
theorem dX7_lose_15 : decode cX7_lose 15 = .ok (.ifCond .ge 7, 3) := by decide +kernel
theorem dX7_lose_18 : decode cX7_lose 18 = .ok (.iconst 0, 1) := by decide +kernel
theorem dX7_lose_19 : decode cX7_lose 19 = .ok (.goto 4, 3) := by decide +kernel
theorem dX7_lose_22 : decode cX7_lose 22 = .ok (.iconst 1, 1) := by decide +kernel
theorem dX7_lose_23 : decode cX7_lose 23 = .ok (.istore_n 2, 1) := by decide +kernel
theorem dX7_lose_24 : decode cX7_lose 24 = .ok (.aload_n 0, 1) := by decide +kernel
theorem dX7_lose_25 : decode cX7_lose 25 = .ok (.getfield 68, 3) := by decide +kernel
theorem dX7_lose_28 : decode cX7_lose 28 = .ok (.iload_n 1, 1) := by decide +kernel
theorem dX7_lose_29 : decode cX7_lose 29 = .ok (.iconst (-1), 1) := by decide +kernel
theorem dX7_lose_30 : decode cX7_lose 30 = .ok (.iastore, 1) := by decide +kernel
theorem dX7_lose_31 : decode cX7_lose 31 = .ok (.iload_n 2, 1) := by decide +kernel
theorem dX7_lose_32 : decode cX7_lose 32 = .ok (.ireturn, 1) := by decide +kernel
theorem dX7_noCell_0 : decode cX7_noCell 0 = .ok (.aload_n 0, 1) := by decide +kernel
theorem dX7_noCell_1 : decode cX7_noCell 1 = .ok (.getfield 68, 3) := by decide +kernel
theorem dX7_noCell_4 : decode cX7_noCell 4 = .ok (.iload_n 1, 1) := by decide +kernel
theorem dX7_noCell_5 : decode cX7_noCell 5 = .ok (.iaload, 1) := by decide +kernel
theorem dX7_noCell_6 : decode cX7_noCell 6 = .ok (.ifCond .ge 7, 3) := by decide +kernel
theorem dX7_noCell_9 : decode cX7_noCell 9 = .ok (.iconst 1, 1) := by decide +kernel
theorem dX7_noCell_10 : decode cX7_noCell 10 = .ok (.goto 26, 3) := by decide +kernel
theorem dX7_noCell_13 : decode cX7_noCell 13 = .ok (.iload_n 2, 1) := by decide +kernel
theorem dX7_noCell_14 : decode cX7_noCell 14 = .ok (.i2l, 1) := by decide +kernel
theorem dX7_noCell_15 : decode cX7_noCell 15 = .ok (.lconst 0, 1) := by decide +kernel
theorem dX7_noCell_16 : decode cX7_noCell 16 = .ok (.aload_n 0, 1) := by decide +kernel
theorem dX7_noCell_17 : decode cX7_noCell 17 = .ok (.getfield 68, 3) := by decide +kernel
theorem dX7_noCell_20 : decode cX7_noCell 20 = .ok (.iload_n 1, 1) := by decide +kernel
theorem dX7_noCell_21 : decode cX7_noCell 21 = .ok (.iaload, 1) := by decide +kernel
theorem dX7_noCell_22 : decode cX7_noCell 22 = .ok (.i2l, 1) := by decide +kernel
theorem dX7_noCell_23 : decode cX7_noCell 23 = .ok (.lconst 1, 1) := by decide +kernel
theorem dX7_noCell_24 : decode cX7_noCell 24 = .ok (.lsub, 1) := by decide +kernel
theorem dX7_noCell_25 : decode cX7_noCell 25 = .ok (.invokestatic 88, 3) := by decide +kernel
theorem dX7_noCell_28 : decode cX7_noCell 28 = .ok (.ifCond .eq 7, 3) := by decide +kernel
theorem dX7_noCell_31 : decode cX7_noCell 31 = .ok (.iconst 0, 1) := by decide +kernel
theorem dX7_noCell_32 : decode cX7_noCell 32 = .ok (.goto 4, 3) := by decide +kernel
theorem dX7_noCell_35 : decode cX7_noCell 35 = .ok (.iconst 3, 1) := by decide +kernel
theorem dX7_noCell_36 : decode cX7_noCell 36 = .ok (.ireturn, 1) := by decide +kernel
theorem dX7_put_0 : decode cX7_put 0 = .ok (.iload_n 1, 1) := by decide +kernel
theorem dX7_put_1 : decode cX7_put 1 = .ok (.invokestatic 158, 3) := by decide +kernel
theorem dX7_put_4 : decode cX7_put 4 = .ok (.ifCond .eq 9, 3) := by decide +kernel
theorem dX7_put_7 : decode cX7_put 7 = .ok (.aload_n 0, 1) := by decide +kernel
theorem dX7_put_8 : decode cX7_put 8 = .ok (.iconst (-1), 1) := by decide +kernel
theorem dX7_put_9 : decode cX7_put 9 = .ok (.invokevirtual 101, 3) := by decide +kernel
theorem dX7_put_12 : decode cX7_put 12 = .ok (.ireturn, 1) := by decide +kernel
theorem dX7_put_13 : decode cX7_put 13 = .ok (.aload_n 0, 1) := by decide +kernel
theorem dX7_put_14 : decode cX7_put 14 = .ok (.iload_n 1, 1) := by decide +kernel
theorem dX7_put_15 : decode cX7_put 15 = .ok (.iload_n 2, 1) := by decide +kernel
theorem dX7_put_16 : decode cX7_put 16 = .ok (.invokevirtual 250, 3) := by decide +kernel
theorem dX7_put_19 : decode cX7_put 19 = .ok (.ifCond .le 14, 3) := by decide +kernel
theorem dX7_put_22 : decode cX7_put 22 = .ok (.aload_n 0, 1) := by decide +kernel
theorem dX7_put_23 : decode cX7_put 23 = .ok (.aload_n 0, 1) := by decide +kernel
theorem dX7_put_24 : decode cX7_put 24 = .ok (.iload_n 1, 1) := by decide +kernel
theorem dX7_put_25 : decode cX7_put 25 = .ok (.iload_n 2, 1) := by decide +kernel
theorem dX7_put_26 : decode cX7_put 26 = .ok (.invokevirtual 250, 3) := by decide +kernel
theorem dX7_put_29 : decode cX7_put 29 = .ok (.invokevirtual 105, 3) := by decide +kernel
theorem dX7_put_32 : decode cX7_put 32 = .ok (.ireturn, 1) := by decide +kernel
theorem dX7_put_33 : decode cX7_put 33 = .ok (.aload_n 0, 1) := by decide +kernel
theorem dX7_put_34 : decode cX7_put 34 = .ok (.getfield 74, 3) := by decide +kernel
theorem dX7_put_37 : decode cX7_put 37 = .ok (.bipush 80, 2) := by decide +kernel
theorem dX7_put_39 : decode cX7_put 39 = .ok (.iload_n 1, 1) := by decide +kernel
theorem dX7_put_40 : decode cX7_put 40 = .ok (.imul, 1) := by decide +kernel
theorem dX7_put_41 : decode cX7_put 41 = .ok (.iload_n 2, 1) := by decide +kernel
theorem dX7_put_42 : decode cX7_put 42 = .ok (.iadd, 1) := by decide +kernel
theorem dX7_put_43 : decode cX7_put 43 = .ok (.aload_n 0, 1) := by decide +kernel
theorem dX7_put_44 : decode cX7_put 44 = .ok (.getfield 71, 3) := by decide +kernel
theorem dX7_put_47 : decode cX7_put 47 = .ok (.iload_n 1, 1) := by decide +kernel
theorem dX7_put_48 : decode cX7_put 48 = .ok (.iaload, 1) := by decide +kernel
theorem dX7_put_49 : decode cX7_put 49 = .ok (.ifCond .ne 8, 3) := by decide +kernel
theorem dX7_put_52 : decode cX7_put 52 = .ok (.iload_n 3, 1) := by decide +kernel
theorem dX7_put_53 : decode cX7_put 53 = .ok (.i2b, 1) := by decide +kernel
theorem dX7_put_54 : decode cX7_put 54 = .ok (.goto 19, 3) := by decide +kernel
theorem dX7_put_57 : decode cX7_put 57 = .ok (.aload_n 0, 1) := by decide +kernel
theorem dX7_put_58 : decode cX7_put 58 = .ok (.getfield 71, 3) := by decide +kernel
theorem dX7_put_61 : decode cX7_put 61 = .ok (.iload_n 1, 1) := by decide +kernel
theorem dX7_put_62 : decode cX7_put 62 = .ok (.iaload, 1) := by decide +kernel
theorem dX7_put_63 : decode cX7_put 63 = .ok (.iconst 1, 1) := by decide +kernel
theorem dX7_put_64 : decode cX7_put 64 = .ok (.if_icmp .ne 8, 3) := by decide +kernel
theorem dX7_put_67 : decode cX7_put 67 = .ok (.iload_n 3, 1) := by decide +kernel
theorem dX7_put_68 : decode cX7_put 68 = .ok (.i2s, 1) := by decide +kernel
theorem dX7_put_69 : decode cX7_put 69 = .ok (.goto 4, 3) := by decide +kernel
theorem dX7_put_72 : decode cX7_put 72 = .ok (.iload_n 3, 1) := by decide +kernel
theorem dX7_put_73 : decode cX7_put 73 = .ok (.iastore, 1) := by decide +kernel
theorem dX7_put_74 : decode cX7_put 74 = .ok (.aload_n 0, 1) := by decide +kernel
theorem dX7_put_75 : decode cX7_put 75 = .ok (.iconst 1, 1) := by decide +kernel
theorem dX7_put_76 : decode cX7_put 76 = .ok (.invokevirtual 101, 3) := by decide +kernel
theorem dX7_put_79 : decode cX7_put 79 = .ok (.ireturn, 1) := by decide +kernel
theorem dX7_cell_0 : decode cX7_cell 0 = .ok (.aload_n 0, 1) := by decide +kernel
theorem dX7_cell_1 : decode cX7_cell 1 = .ok (.iconst 0, 1) := by decide +kernel
theorem dX7_cell_2 : decode cX7_cell 2 = .ok (.putfield 92, 3) := by decide +kernel
theorem dX7_cell_5 : decode cX7_cell 5 = .ok (.iload_n 1, 1) := by decide +kernel
theorem dX7_cell_6 : decode cX7_cell 6 = .ok (.invokestatic 158, 3) := by decide +kernel
theorem dX7_cell_9 : decode cX7_cell 9 = .ok (.ifCond .ne 15, 3) := by decide +kernel
theorem dX7_cell_12 : decode cX7_cell 12 = .ok (.iload_n 3, 1) := by decide +kernel
theorem dX7_cell_13 : decode cX7_cell 13 = .ok (.i2l, 1) := by decide +kernel
theorem dX7_cell_14 : decode cX7_cell 14 = .ok (.lconst 0, 1) := by decide +kernel
theorem dX7_cell_15 : decode cX7_cell 15 = .ok (.ldc2_w 99, 3) := by decide +kernel
theorem dX7_cell_18 : decode cX7_cell 18 = .ok (.invokestatic 88, 3) := by decide +kernel
theorem dX7_cell_21 : decode cX7_cell 21 = .ok (.ifCond .ne 7, 3) := by decide +kernel
theorem dX7_cell_24 : decode cX7_cell 24 = .ok (.invokestatic 95, 3) := by decide +kernel
theorem dX7_cell_27 : decode cX7_cell 27 = .ok (.lreturn, 1) := by decide +kernel
theorem dX7_cell_28 : decode cX7_cell 28 = .ok (.aload_n 0, 1) := by decide +kernel
theorem dX7_cell_29 : decode cX7_cell 29 = .ok (.getfield 68, 3) := by decide +kernel
theorem dX7_cell_32 : decode cX7_cell 32 = .ok (.iload_n 1, 1) := by decide +kernel
theorem dX7_cell_33 : decode cX7_cell 33 = .ok (.iaload, 1) := by decide +kernel
theorem dX7_cell_34 : decode cX7_cell 34 = .ok (.ifCond .lt 19, 3) := by decide +kernel
theorem dX7_cell_37 : decode cX7_cell 37 = .ok (.aload_n 0, 1) := by decide +kernel
theorem dX7_cell_38 : decode cX7_cell 38 = .ok (.getfield 71, 3) := by decide +kernel
theorem dX7_cell_41 : decode cX7_cell 41 = .ok (.iload_n 1, 1) := by decide +kernel
theorem dX7_cell_42 : decode cX7_cell 42 = .ok (.iaload, 1) := by decide +kernel
theorem dX7_cell_43 : decode cX7_cell 43 = .ok (.iload_n 3, 1) := by decide +kernel
theorem dX7_cell_44 : decode cX7_cell 44 = .ok (.if_icmp .eq 9, 3) := by decide +kernel
theorem dX7_cell_47 : decode cX7_cell 47 = .ok (.aload_n 0, 1) := by decide +kernel
theorem dX7_cell_48 : decode cX7_cell 48 = .ok (.iconst 2, 1) := by decide +kernel
theorem dX7_cell_49 : decode cX7_cell 49 = .ok (.invokevirtual 253, 3) := by decide +kernel
theorem dX7_cell_52 : decode cX7_cell 52 = .ok (.lreturn, 1) := by decide +kernel
theorem dX7_cell_53 : decode cX7_cell 53 = .ok (.aload_n 0, 1) := by decide +kernel
theorem dX7_cell_54 : decode cX7_cell 54 = .ok (.iload_n 1, 1) := by decide +kernel
theorem dX7_cell_55 : decode cX7_cell 55 = .ok (.iload_n 2, 1) := by decide +kernel
theorem dX7_cell_56 : decode cX7_cell 56 = .ok (.invokevirtual 250, 3) := by decide +kernel
theorem dX7_cell_59 : decode cX7_cell 59 = .ok (.ifCond .le 16, 3) := by decide +kernel
theorem dX7_cell_62 : decode cX7_cell 62 = .ok (.aload_n 0, 1) := by decide +kernel
theorem dX7_cell_63 : decode cX7_cell 63 = .ok (.aload_n 0, 1) := by decide +kernel
theorem dX7_cell_64 : decode cX7_cell 64 = .ok (.iload_n 1, 1) := by decide +kernel
theorem dX7_cell_65 : decode cX7_cell 65 = .ok (.iload_n 2, 1) := by decide +kernel
theorem dX7_cell_66 : decode cX7_cell 66 = .ok (.invokevirtual 250, 3) := by decide +kernel
theorem dX7_cell_69 : decode cX7_cell 69 = .ok (.invokevirtual 253, 3) := by decide +kernel
theorem dX7_cell_72 : decode cX7_cell 72 = .ok (.goto 15, 3) := by decide +kernel
theorem dX7_cell_75 : decode cX7_cell 75 = .ok (.aload_n 0, 1) := by decide +kernel
theorem dX7_cell_76 : decode cX7_cell 76 = .ok (.getfield 74, 3) := by decide +kernel
theorem dX7_cell_79 : decode cX7_cell 79 = .ok (.bipush 80, 2) := by decide +kernel
theorem dX7_cell_81 : decode cX7_cell 81 = .ok (.iload_n 1, 1) := by decide +kernel
theorem dX7_cell_82 : decode cX7_cell 82 = .ok (.imul, 1) := by decide +kernel
theorem dX7_cell_83 : decode cX7_cell 83 = .ok (.iload_n 2, 1) := by decide +kernel
theorem dX7_cell_84 : decode cX7_cell 84 = .ok (.iadd, 1) := by decide +kernel
theorem dX7_cell_85 : decode cX7_cell 85 = .ok (.iaload, 1) := by decide +kernel
theorem dX7_cell_86 : decode cX7_cell 86 = .ok (.i2l, 1) := by decide +kernel
theorem dX7_cell_87 : decode cX7_cell 87 = .ok (.lreturn, 1) := by decide +kernel
theorem dX7_isBeyond_0 : decode cX7_isBeyond 0 = .ok (.iload_n 0, 1) := by decide +kernel
theorem dX7_isBeyond_1 : decode cX7_isBeyond 1 = .ok (.ifCond .lt 19, 3) := by decide +kernel
theorem dX7_isBeyond_4 : decode cX7_isBeyond 4 = .ok (.lload_n 1, 1) := by decide +kernel
theorem dX7_isBeyond_5 : decode cX7_isBeyond 5 = .ok (.lconst 0, 1) := by decide +kernel
theorem dX7_isBeyond_6 : decode cX7_isBeyond 6 = .ok (.lcmp, 1) := by decide +kernel
theorem dX7_isBeyond_7 : decode cX7_isBeyond 7 = .ok (.ifCond .lt 13, 3) := by decide +kernel
theorem dX7_isBeyond_10 : decode cX7_isBeyond 10 = .ok (.iload_n 0, 1) := by decide +kernel
theorem dX7_isBeyond_11 : decode cX7_isBeyond 11 = .ok (.i2l, 1) := by decide +kernel
theorem dX7_isBeyond_12 : decode cX7_isBeyond 12 = .ok (.lload_n 1, 1) := by decide +kernel
theorem dX7_isBeyond_13 : decode cX7_isBeyond 13 = .ok (.ladd, 1) := by decide +kernel
theorem dX7_isBeyond_14 : decode cX7_isBeyond 14 = .ok (.iload_n 3, 1) := by decide +kernel
theorem dX7_isBeyond_15 : decode cX7_isBeyond 15 = .ok (.i2l, 1) := by decide +kernel
theorem dX7_isBeyond_16 : decode cX7_isBeyond 16 = .ok (.lcmp, 1) := by decide +kernel
theorem dX7_isBeyond_17 : decode cX7_isBeyond 17 = .ok (.ifCond .le 7, 3) := by decide +kernel
theorem dX7_isBeyond_20 : decode cX7_isBeyond 20 = .ok (.iconst 1, 1) := by decide +kernel
theorem dX7_isBeyond_21 : decode cX7_isBeyond 21 = .ok (.goto 4, 3) := by decide +kernel
theorem dX7_isBeyond_24 : decode cX7_isBeyond 24 = .ok (.iconst 0, 1) := by decide +kernel
theorem dX7_isBeyond_25 : decode cX7_isBeyond 25 = .ok (.ireturn, 1) := by decide +kernel
theorem dX7_copy_0 : decode cX7_copy 0 = .ok (.iload_n 1, 1) := by decide +kernel
theorem dX7_copy_1 : decode cX7_copy 1 = .ok (.invokestatic 158, 3) := by decide +kernel
theorem dX7_copy_4 : decode cX7_copy 4 = .ok (.ifCond .ne 10, 3) := by decide +kernel
theorem dX7_copy_7 : decode cX7_copy 7 = .ok (.iload_n 3, 1) := by decide +kernel
theorem dX7_copy_8 : decode cX7_copy 8 = .ok (.invokestatic 158, 3) := by decide +kernel
theorem dX7_copy_11 : decode cX7_copy 11 = .ok (.ifCond .eq 9, 3) := by decide +kernel
theorem dX7_copy_14 : decode cX7_copy 14 = .ok (.aload_n 0, 1) := by decide +kernel
theorem dX7_copy_15 : decode cX7_copy 15 = .ok (.iconst (-1), 1) := by decide +kernel
theorem dX7_copy_16 : decode cX7_copy 16 = .ok (.invokevirtual 101, 3) := by decide +kernel
theorem dX7_copy_19 : decode cX7_copy 19 = .ok (.ireturn, 1) := by decide +kernel
theorem dX7_copy_20 : decode cX7_copy 20 = .ok (.aload_n 0, 1) := by decide +kernel
theorem dX7_copy_21 : decode cX7_copy 21 = .ok (.getfield 68, 3) := by decide +kernel
theorem dX7_copy_24 : decode cX7_copy 24 = .ok (.iload_n 1, 1) := by decide +kernel
theorem dX7_copy_25 : decode cX7_copy 25 = .ok (.iaload, 1) := by decide +kernel
theorem dX7_copy_26 : decode cX7_copy 26 = .ok (.ifCond .lt 12, 3) := by decide +kernel
theorem dX7_copy_29 : decode cX7_copy 29 = .ok (.aload_n 0, 1) := by decide +kernel
theorem dX7_copy_30 : decode cX7_copy 30 = .ok (.getfield 68, 3) := by decide +kernel
theorem dX7_copy_33 : decode cX7_copy 33 = .ok (.iload_n 3, 1) := by decide +kernel
theorem dX7_copy_34 : decode cX7_copy 34 = .ok (.iaload, 1) := by decide +kernel
theorem dX7_copy_35 : decode cX7_copy 35 = .ok (.ifCond .ge 9, 3) := by decide +kernel
theorem dX7_copy_38 : decode cX7_copy 38 = .ok (.aload_n 0, 1) := by decide +kernel
theorem dX7_copy_39 : decode cX7_copy 39 = .ok (.iconst 1, 1) := by decide +kernel
theorem dX7_copy_40 : decode cX7_copy 40 = .ok (.invokevirtual 105, 3) := by decide +kernel
theorem dX7_copy_43 : decode cX7_copy 43 = .ok (.ireturn, 1) := by decide +kernel
theorem dX7_copy_44 : decode cX7_copy 44 = .ok (.aload_n 0, 1) := by decide +kernel
theorem dX7_copy_45 : decode cX7_copy 45 = .ok (.getfield 71, 3) := by decide +kernel
theorem dX7_copy_48 : decode cX7_copy 48 = .ok (.iload_n 1, 1) := by decide +kernel
theorem dX7_copy_49 : decode cX7_copy 49 = .ok (.iaload, 1) := by decide +kernel
theorem dX7_copy_50 : decode cX7_copy 50 = .ok (.aload_n 0, 1) := by decide +kernel
theorem dX7_copy_51 : decode cX7_copy 51 = .ok (.getfield 71, 3) := by decide +kernel
theorem dX7_copy_54 : decode cX7_copy 54 = .ok (.iload_n 3, 1) := by decide +kernel
theorem dX7_copy_55 : decode cX7_copy 55 = .ok (.iaload, 1) := by decide +kernel
theorem dX7_copy_56 : decode cX7_copy 56 = .ok (.if_icmp .eq 9, 3) := by decide +kernel
theorem dX7_copy_59 : decode cX7_copy 59 = .ok (.aload_n 0, 1) := by decide +kernel
theorem dX7_copy_60 : decode cX7_copy 60 = .ok (.iconst 2, 1) := by decide +kernel
theorem dX7_copy_61 : decode cX7_copy 61 = .ok (.invokevirtual 105, 3) := by decide +kernel
theorem dX7_copy_64 : decode cX7_copy 64 = .ok (.ireturn, 1) := by decide +kernel
theorem dX7_copy_65 : decode cX7_copy 65 = .ok (.iload_n 2, 1) := by decide +kernel
theorem dX7_copy_66 : decode cX7_copy 66 = .ok (.iload 5, 2) := by decide +kernel
theorem dX7_copy_68 : decode cX7_copy 68 = .ok (.i2l, 1) := by decide +kernel
theorem dX7_copy_69 : decode cX7_copy 69 = .ok (.aload_n 0, 1) := by decide +kernel
theorem dX7_copy_70 : decode cX7_copy 70 = .ok (.getfield 68, 3) := by decide +kernel
theorem dX7_copy_73 : decode cX7_copy 73 = .ok (.iload_n 1, 1) := by decide +kernel
theorem dX7_copy_74 : decode cX7_copy 74 = .ok (.iaload, 1) := by decide +kernel
theorem dX7_copy_75 : decode cX7_copy 75 = .ok (.invokestatic 108, 3) := by decide +kernel
theorem dX7_copy_78 : decode cX7_copy 78 = .ok (.ifCond .ne 20, 3) := by decide +kernel
theorem dX7_copy_81 : decode cX7_copy 81 = .ok (.iload 4, 2) := by decide +kernel
theorem dX7_copy_83 : decode cX7_copy 83 = .ok (.iload 5, 2) := by decide +kernel
theorem dX7_copy_85 : decode cX7_copy 85 = .ok (.i2l, 1) := by decide +kernel
theorem dX7_copy_86 : decode cX7_copy 86 = .ok (.aload_n 0, 1) := by decide +kernel
theorem dX7_copy_87 : decode cX7_copy 87 = .ok (.getfield 68, 3) := by decide +kernel
theorem dX7_copy_90 : decode cX7_copy 90 = .ok (.iload_n 3, 1) := by decide +kernel
theorem dX7_copy_91 : decode cX7_copy 91 = .ok (.iaload, 1) := by decide +kernel
theorem dX7_copy_92 : decode cX7_copy 92 = .ok (.invokestatic 108, 3) := by decide +kernel
theorem dX7_copy_95 : decode cX7_copy 95 = .ok (.ifCond .eq 9, 3) := by decide +kernel
theorem dX7_copy_98 : decode cX7_copy 98 = .ok (.aload_n 0, 1) := by decide +kernel
theorem dX7_copy_99 : decode cX7_copy 99 = .ok (.iconst 3, 1) := by decide +kernel
theorem dX7_copy_100 : decode cX7_copy 100 = .ok (.invokevirtual 105, 3) := by decide +kernel
theorem dX7_copy_103 : decode cX7_copy 103 = .ok (.ireturn, 1) := by decide +kernel
theorem dX7_copy_104 : decode cX7_copy 104 = .ok (.iconst 0, 1) := by decide +kernel
theorem dX7_copy_105 : decode cX7_copy 105 = .ok (.istore 6, 2) := by decide +kernel
theorem dX7_copy_107 : decode cX7_copy 107 = .ok (.iload 6, 2) := by decide +kernel
theorem dX7_copy_109 : decode cX7_copy 109 = .ok (.iload 5, 2) := by decide +kernel
theorem dX7_copy_111 : decode cX7_copy 111 = .ok (.if_icmp .ge 30, 3) := by decide +kernel
theorem dX7_copy_114 : decode cX7_copy 114 = .ok (.aload_n 0, 1) := by decide +kernel
theorem dX7_copy_115 : decode cX7_copy 115 = .ok (.getfield 77, 3) := by decide +kernel
theorem dX7_copy_118 : decode cX7_copy 118 = .ok (.iload 6, 2) := by decide +kernel
theorem dX7_copy_120 : decode cX7_copy 120 = .ok (.aload_n 0, 1) := by decide +kernel
theorem dX7_copy_121 : decode cX7_copy 121 = .ok (.getfield 74, 3) := by decide +kernel
theorem dX7_copy_124 : decode cX7_copy 124 = .ok (.bipush 80, 2) := by decide +kernel
theorem dX7_copy_126 : decode cX7_copy 126 = .ok (.iload_n 1, 1) := by decide +kernel
theorem dX7_copy_127 : decode cX7_copy 127 = .ok (.imul, 1) := by decide +kernel
theorem dX7_copy_128 : decode cX7_copy 128 = .ok (.iload_n 2, 1) := by decide +kernel
theorem dX7_copy_129 : decode cX7_copy 129 = .ok (.iadd, 1) := by decide +kernel
theorem dX7_copy_130 : decode cX7_copy 130 = .ok (.iload 6, 2) := by decide +kernel
theorem dX7_copy_132 : decode cX7_copy 132 = .ok (.iadd, 1) := by decide +kernel
theorem dX7_copy_133 : decode cX7_copy 133 = .ok (.iaload, 1) := by decide +kernel
theorem dX7_copy_134 : decode cX7_copy 134 = .ok (.iastore, 1) := by decide +kernel
theorem dX7_copy_135 : decode cX7_copy 135 = .ok (.iinc 6 1, 3) := by decide +kernel
theorem dX7_copy_138 : decode cX7_copy 138 = .ok (.goto (-31), 3) := by decide +kernel
theorem dX7_copy_141 : decode cX7_copy 141 = .ok (.iconst 0, 1) := by decide +kernel
theorem dX7_copy_142 : decode cX7_copy 142 = .ok (.istore 6, 2) := by decide +kernel
theorem dX7_copy_144 : decode cX7_copy 144 = .ok (.iload 6, 2) := by decide +kernel
theorem dX7_copy_146 : decode cX7_copy 146 = .ok (.iload 5, 2) := by decide +kernel
theorem dX7_copy_148 : decode cX7_copy 148 = .ok (.if_icmp .ge 31, 3) := by decide +kernel
theorem dX7_copy_151 : decode cX7_copy 151 = .ok (.aload_n 0, 1) := by decide +kernel
theorem dX7_copy_152 : decode cX7_copy 152 = .ok (.getfield 74, 3) := by decide +kernel
theorem dX7_copy_155 : decode cX7_copy 155 = .ok (.bipush 80, 2) := by decide +kernel
theorem dX7_copy_157 : decode cX7_copy 157 = .ok (.iload_n 3, 1) := by decide +kernel
theorem dX7_copy_158 : decode cX7_copy 158 = .ok (.imul, 1) := by decide +kernel
theorem dX7_copy_159 : decode cX7_copy 159 = .ok (.iload 4, 2) := by decide +kernel
theorem dX7_copy_161 : decode cX7_copy 161 = .ok (.iadd, 1) := by decide +kernel
theorem dX7_copy_162 : decode cX7_copy 162 = .ok (.iload 6, 2) := by decide +kernel
theorem dX7_copy_164 : decode cX7_copy 164 = .ok (.iadd, 1) := by decide +kernel
theorem dX7_copy_165 : decode cX7_copy 165 = .ok (.aload_n 0, 1) := by decide +kernel
theorem dX7_copy_166 : decode cX7_copy 166 = .ok (.getfield 77, 3) := by decide +kernel
theorem dX7_copy_169 : decode cX7_copy 169 = .ok (.iload 6, 2) := by decide +kernel
theorem dX7_copy_171 : decode cX7_copy 171 = .ok (.iaload, 1) := by decide +kernel
theorem dX7_copy_172 : decode cX7_copy 172 = .ok (.iastore, 1) := by decide +kernel
theorem dX7_copy_173 : decode cX7_copy 173 = .ok (.iinc 6 1, 3) := by decide +kernel
theorem dX7_copy_176 : decode cX7_copy 176 = .ok (.goto (-32), 3) := by decide +kernel
theorem dX7_copy_179 : decode cX7_copy 179 = .ok (.aload_n 0, 1) := by decide +kernel
theorem dX7_copy_180 : decode cX7_copy 180 = .ok (.iload 5, 2) := by decide +kernel
theorem dX7_copy_182 : decode cX7_copy 182 = .ok (.invokevirtual 101, 3) := by decide +kernel
theorem dX7_copy_185 : decode cX7_copy 185 = .ok (.ireturn, 1) := by decide +kernel
theorem dX7_traced_0 : decode cX7_traced 0 = .ok (.aload_n 0, 1) := by decide +kernel
theorem dX7_traced_1 : decode cX7_traced 1 = .ok (.bipush 31, 2) := by decide +kernel
theorem dX7_traced_3 : decode cX7_traced 3 = .ok (.aload_n 0, 1) := by decide +kernel
theorem dX7_traced_4 : decode cX7_traced 4 = .ok (.getfield 257, 3) := by decide +kernel
theorem dX7_traced_7 : decode cX7_traced 7 = .ok (.imul, 1) := by decide +kernel
theorem dX7_traced_8 : decode cX7_traced 8 = .ok (.iload_n 1, 1) := by decide +kernel
theorem dX7_traced_9 : decode cX7_traced 9 = .ok (.iadd, 1) := by decide +kernel
theorem dX7_traced_10 : decode cX7_traced 10 = .ok (.putfield 257, 3) := by decide +kernel
theorem dX7_traced_13 : decode cX7_traced 13 = .ok (.return_, 1) := by decide +kernel
theorem dX7_tell_0 : decode cX7_tell 0 = .ok (.aload_n 0, 1) := by decide +kernel
theorem dX7_tell_1 : decode cX7_tell 1 = .ok (.iload_n 1, 1) := by decide +kernel
theorem dX7_tell_2 : decode cX7_tell 2 = .ok (.invokevirtual 173, 3) := by decide +kernel
theorem dX7_tell_5 : decode cX7_tell 5 = .ok (.ifCond .eq 5, 3) := by decide +kernel
theorem dX7_tell_8 : decode cX7_tell 8 = .ok (.iconst (-1), 1) := by decide +kernel
theorem dX7_tell_9 : decode cX7_tell 9 = .ok (.ireturn, 1) := by decide +kernel
theorem dX7_tell_10 : decode cX7_tell 10 = .ok (.aload_n 0, 1) := by decide +kernel
theorem dX7_tell_11 : decode cX7_tell 11 = .ok (.getfield 19, 3) := by decide +kernel
theorem dX7_tell_14 : decode cX7_tell 14 = .ok (.iload_n 1, 1) := by decide +kernel
theorem dX7_tell_15 : decode cX7_tell 15 = .ok (.iaload, 1) := by decide +kernel
theorem dX7_tell_16 : decode cX7_tell 16 = .ok (.istore_n 2, 1) := by decide +kernel
theorem dX7_tell_17 : decode cX7_tell 17 = .ok (.iload_n 2, 1) := by decide +kernel
theorem dX7_tell_18 : decode cX7_tell 18 = .ok (.iconst 2, 1) := by decide +kernel
theorem dX7_tell_19 : decode cX7_tell 19 = .ok (.if_icmp .ne 8, 3) := by decide +kernel
theorem dX7_tell_22 : decode cX7_tell 22 = .ok (.aload_n 0, 1) := by decide +kernel
theorem dX7_tell_23 : decode cX7_tell 23 = .ok (.iconst 3, 1) := by decide +kernel
theorem dX7_tell_24 : decode cX7_tell 24 = .ok (.invokevirtual 260, 3) := by decide +kernel
theorem dX7_tell_27 : decode cX7_tell 27 = .ok (.iload_n 2, 1) := by decide +kernel
theorem dX7_tell_28 : decode cX7_tell 28 = .ok (.ifCond .le 8, 3) := by decide +kernel
theorem dX7_tell_31 : decode cX7_tell 31 = .ok (.aload_n 0, 1) := by decide +kernel
theorem dX7_tell_32 : decode cX7_tell 32 = .ok (.iconst 2, 1) := by decide +kernel
theorem dX7_tell_33 : decode cX7_tell 33 = .ok (.invokevirtual 260, 3) := by decide +kernel
theorem dX7_tell_36 : decode cX7_tell 36 = .ok (.aload_n 0, 1) := by decide +kernel
theorem dX7_tell_37 : decode cX7_tell 37 = .ok (.iconst 1, 1) := by decide +kernel
theorem dX7_tell_38 : decode cX7_tell 38 = .ok (.invokevirtual 260, 3) := by decide +kernel
theorem dX7_tell_41 : decode cX7_tell 41 = .ok (.iload_n 2, 1) := by decide +kernel
theorem dX7_tell_42 : decode cX7_tell 42 = .ok (.iconst 2, 1) := by decide +kernel
theorem dX7_tell_43 : decode cX7_tell 43 = .ok (.if_icmp .ne 8, 3) := by decide +kernel
theorem dX7_tell_46 : decode cX7_tell 46 = .ok (.aload_n 0, 1) := by decide +kernel
theorem dX7_tell_47 : decode cX7_tell 47 = .ok (.iconst 1, 1) := by decide +kernel
theorem dX7_tell_48 : decode cX7_tell 48 = .ok (.invokevirtual 260, 3) := by decide +kernel
theorem dX7_tell_51 : decode cX7_tell 51 = .ok (.iload_n 2, 1) := by decide +kernel
theorem dX7_tell_52 : decode cX7_tell 52 = .ok (.ifCond .ne 12, 3) := by decide +kernel
theorem dX7_tell_55 : decode cX7_tell 55 = .ok (.aload_n 0, 1) := by decide +kernel
theorem dX7_tell_56 : decode cX7_tell 56 = .ok (.getfield 28, 3) := by decide +kernel
theorem dX7_tell_59 : decode cX7_tell 59 = .ok (.iload_n 1, 1) := by decide +kernel
theorem dX7_tell_60 : decode cX7_tell 60 = .ok (.iaload, 1) := by decide +kernel
theorem dX7_tell_61 : decode cX7_tell 61 = .ok (.goto 31, 3) := by decide +kernel
theorem dX7_tell_64 : decode cX7_tell 64 = .ok (.iload_n 2, 1) := by decide +kernel
theorem dX7_tell_65 : decode cX7_tell 65 = .ok (.iconst 1, 1) := by decide +kernel
theorem dX7_tell_66 : decode cX7_tell 66 = .ok (.if_icmp .ne 15, 3) := by decide +kernel
theorem dX7_tell_69 : decode cX7_tell 69 = .ok (.aload_n 0, 1) := by decide +kernel
theorem dX7_tell_70 : decode cX7_tell 70 = .ok (.getfield 28, 3) := by decide +kernel
theorem dX7_tell_73 : decode cX7_tell 73 = .ok (.iload_n 1, 1) := by decide +kernel
theorem dX7_tell_74 : decode cX7_tell 74 = .ok (.iaload, 1) := by decide +kernel
theorem dX7_tell_75 : decode cX7_tell 75 = .ok (.bipush 100, 2) := by decide +kernel
theorem dX7_tell_77 : decode cX7_tell 77 = .ok (.iadd, 1) := by decide +kernel
theorem dX7_tell_78 : decode cX7_tell 78 = .ok (.goto 14, 3) := by decide +kernel
theorem dX7_tell_81 : decode cX7_tell 81 = .ok (.iconst 2, 1) := by decide +kernel
theorem dX7_tell_82 : decode cX7_tell 82 = .ok (.aload_n 0, 1) := by decide +kernel
theorem dX7_tell_83 : decode cX7_tell 83 = .ok (.getfield 28, 3) := by decide +kernel
theorem dX7_tell_86 : decode cX7_tell 86 = .ok (.iload_n 1, 1) := by decide +kernel
theorem dX7_tell_87 : decode cX7_tell 87 = .ok (.iaload, 1) := by decide +kernel
theorem dX7_tell_88 : decode cX7_tell 88 = .ok (.imul, 1) := by decide +kernel
theorem dX7_tell_89 : decode cX7_tell 89 = .ok (.bipush 100, 2) := by decide +kernel
theorem dX7_tell_91 : decode cX7_tell 91 = .ok (.iadd, 1) := by decide +kernel
theorem dX7_tell_92 : decode cX7_tell 92 = .ok (.ireturn, 1) := by decide +kernel
theorem dX7_ring_0 : decode cX7_ring 0 = .ok (.aload_n 0, 1) := by decide +kernel
theorem dX7_ring_1 : decode cX7_ring 1 = .ok (.iload_n 1, 1) := by decide +kernel
theorem dX7_ring_2 : decode cX7_ring 2 = .ok (.invokevirtual 173, 3) := by decide +kernel
theorem dX7_ring_5 : decode cX7_ring 5 = .ok (.ifCond .eq 5, 3) := by decide +kernel
theorem dX7_ring_8 : decode cX7_ring 8 = .ok (.iconst (-1), 1) := by decide +kernel
theorem dX7_ring_9 : decode cX7_ring 9 = .ok (.ireturn, 1) := by decide +kernel
theorem dX7_ring_10 : decode cX7_ring 10 = .ok (.aload_n 0, 1) := by decide +kernel
theorem dX7_ring_11 : decode cX7_ring 11 = .ok (.aload_n 0, 1) := by decide +kernel
theorem dX7_ring_12 : decode cX7_ring 12 = .ok (.getfield 19, 3) := by decide +kernel
theorem dX7_ring_15 : decode cX7_ring 15 = .ok (.iload_n 1, 1) := by decide +kernel
theorem dX7_ring_16 : decode cX7_ring 16 = .ok (.iaload, 1) := by decide +kernel
theorem dX7_ring_17 : decode cX7_ring 17 = .ok (.iconst 2, 1) := by decide +kernel
theorem dX7_ring_18 : decode cX7_ring 18 = .ok (.if_icmp .ne 7, 3) := by decide +kernel
theorem dX7_ring_21 : decode cX7_ring 21 = .ok (.iconst 5, 1) := by decide +kernel
theorem dX7_ring_22 : decode cX7_ring 22 = .ok (.goto 4, 3) := by decide +kernel
theorem dX7_ring_25 : decode cX7_ring 25 = .ok (.iconst 4, 1) := by decide +kernel
theorem dX7_ring_26 : decode cX7_ring 26 = .ok (.invokevirtual 260, 3) := by decide +kernel
theorem dX7_ring_29 : decode cX7_ring 29 = .ok (.aload_n 0, 1) := by decide +kernel
theorem dX7_ring_30 : decode cX7_ring 30 = .ok (.getfield 19, 3) := by decide +kernel
theorem dX7_ring_33 : decode cX7_ring 33 = .ok (.iload_n 1, 1) := by decide +kernel
theorem dX7_ring_34 : decode cX7_ring 34 = .ok (.iaload, 1) := by decide +kernel
theorem dX7_ring_35 : decode cX7_ring 35 = .ok (.iconst 2, 1) := by decide +kernel
theorem dX7_ring_36 : decode cX7_ring 36 = .ok (.if_icmp .ne 8, 3) := by decide +kernel
theorem dX7_ring_39 : decode cX7_ring 39 = .ok (.bipush 44, 2) := by decide +kernel
theorem dX7_ring_41 : decode cX7_ring 41 = .ok (.goto 4, 3) := by decide +kernel
theorem dX7_ring_44 : decode cX7_ring 44 = .ok (.iload_n 1, 1) := by decide +kernel
theorem dX7_ring_45 : decode cX7_ring 45 = .ok (.ireturn, 1) := by decide +kernel
theorem dX7_as_0 : decode cX7_as 0 = .ok (.aload_n 0, 1) := by decide +kernel
theorem dX7_as_1 : decode cX7_as 1 = .ok (.iload_n 1, 1) := by decide +kernel
theorem dX7_as_2 : decode cX7_as 2 = .ok (.invokevirtual 173, 3) := by decide +kernel
theorem dX7_as_5 : decode cX7_as 5 = .ok (.ifCond .eq 9, 3) := by decide +kernel
theorem dX7_as_8 : decode cX7_as 8 = .ok (.aload_n 0, 1) := by decide +kernel
theorem dX7_as_9 : decode cX7_as 9 = .ok (.iconst (-1), 1) := by decide +kernel
theorem dX7_as_10 : decode cX7_as 10 = .ok (.invokevirtual 101, 3) := by decide +kernel
theorem dX7_as_13 : decode cX7_as 13 = .ok (.ireturn, 1) := by decide +kernel
theorem dX7_as_14 : decode cX7_as 14 = .ok (.iload_n 2, 1) := by decide +kernel
theorem dX7_as_15 : decode cX7_as 15 = .ok (.i2l, 1) := by decide +kernel
theorem dX7_as_16 : decode cX7_as 16 = .ok (.lconst 0, 1) := by decide +kernel
theorem dX7_as_17 : decode cX7_as 17 = .ok (.ldc2_w 99, 3) := by decide +kernel
theorem dX7_as_20 : decode cX7_as 20 = .ok (.invokestatic 88, 3) := by decide +kernel
theorem dX7_as_23 : decode cX7_as 23 = .ok (.ifCond .ne 10, 3) := by decide +kernel
theorem dX7_as_26 : decode cX7_as 26 = .ok (.aload_n 0, 1) := by decide +kernel
theorem dX7_as_27 : decode cX7_as 27 = .ok (.bipush (-2), 2) := by decide +kernel
theorem dX7_as_29 : decode cX7_as 29 = .ok (.invokevirtual 101, 3) := by decide +kernel
theorem dX7_as_32 : decode cX7_as 32 = .ok (.ireturn, 1) := by decide +kernel
theorem dX7_as_33 : decode cX7_as 33 = .ok (.aload_n 0, 1) := by decide +kernel
theorem dX7_as_34 : decode cX7_as 34 = .ok (.getfield 19, 3) := by decide +kernel
theorem dX7_as_37 : decode cX7_as 37 = .ok (.iload_n 1, 1) := by decide +kernel
theorem dX7_as_38 : decode cX7_as 38 = .ok (.iaload, 1) := by decide +kernel
theorem dX7_as_39 : decode cX7_as 39 = .ok (.iload_n 2, 1) := by decide +kernel
theorem dX7_as_40 : decode cX7_as 40 = .ok (.if_icmp .lt 11, 3) := by decide +kernel
theorem dX7_as_43 : decode cX7_as 43 = .ok (.aload_n 0, 1) := by decide +kernel
theorem dX7_as_44 : decode cX7_as 44 = .ok (.iconst 1, 1) := by decide +kernel
theorem dX7_as_45 : decode cX7_as 45 = .ok (.invokevirtual 101, 3) := by decide +kernel
theorem dX7_as_48 : decode cX7_as 48 = .ok (.goto 8, 3) := by decide +kernel
theorem dX7_as_51 : decode cX7_as 51 = .ok (.aload_n 0, 1) := by decide +kernel
theorem dX7_as_52 : decode cX7_as 52 = .ok (.iconst 2, 1) := by decide +kernel
theorem dX7_as_53 : decode cX7_as 53 = .ok (.invokevirtual 105, 3) := by decide +kernel
theorem dX7_as_56 : decode cX7_as 56 = .ok (.ireturn, 1) := by decide +kernel
theorem dX7_trace_0 : decode cX7_trace 0 = .ok (.aload_n 0, 1) := by decide +kernel
theorem dX7_trace_1 : decode cX7_trace 1 = .ok (.getfield 257, 3) := by decide +kernel
theorem dX7_trace_4 : decode cX7_trace 4 = .ok (.ireturn, 1) := by decide +kernel
theorem dX7_fault_0 : decode cX7_fault 0 = .ok (.aload_n 0, 1) := by decide +kernel
theorem dX7_fault_1 : decode cX7_fault 1 = .ok (.getfield 92, 3) := by decide +kernel
theorem dX7_fault_4 : decode cX7_fault 4 = .ok (.ireturn, 1) := by decide +kernel
theorem dX7_many_0 : decode cX7_many 0 = .ok (.iconst 0, 1) := by decide +kernel
theorem dX7_many_1 : decode cX7_many 1 = .ok (.istore_n 2, 1) := by decide +kernel
theorem dX7_many_2 : decode cX7_many 2 = .ok (.iconst 0, 1) := by decide +kernel
theorem dX7_many_3 : decode cX7_many 3 = .ok (.istore_n 3, 1) := by decide +kernel
theorem dX7_many_4 : decode cX7_many 4 = .ok (.iconst 0, 1) := by decide +kernel
theorem dX7_many_5 : decode cX7_many 5 = .ok (.istore 4, 2) := by decide +kernel
theorem dX7_many_7 : decode cX7_many 7 = .ok (.iload 4, 2) := by decide +kernel
theorem dX7_many_9 : decode cX7_many 9 = .ok (.aload_n 0, 1) := by decide +kernel
theorem dX7_many_10 : decode cX7_many 10 = .ok (.getfield 112, 3) := by decide +kernel
theorem dX7_many_13 : decode cX7_many 13 = .ok (.if_icmp .ge 19, 3) := by decide +kernel
theorem dX7_many_16 : decode cX7_many 16 = .ok (.iload_n 2, 1) := by decide +kernel
theorem dX7_many_17 : decode cX7_many 17 = .ok (.aload_n 0, 1) := by decide +kernel
theorem dX7_many_18 : decode cX7_many 18 = .ok (.getfield 16, 3) := by decide +kernel
theorem dX7_many_21 : decode cX7_many 21 = .ok (.iload 4, 2) := by decide +kernel
theorem dX7_many_23 : decode cX7_many 23 = .ok (.iaload, 1) := by decide +kernel
theorem dX7_many_24 : decode cX7_many 24 = .ok (.iadd, 1) := by decide +kernel
theorem dX7_many_25 : decode cX7_many 25 = .ok (.istore_n 2, 1) := by decide +kernel
theorem dX7_many_26 : decode cX7_many 26 = .ok (.iinc 4 1, 3) := by decide +kernel
theorem dX7_many_29 : decode cX7_many 29 = .ok (.goto (-22), 3) := by decide +kernel
theorem dX7_many_32 : decode cX7_many 32 = .ok (.iconst 0, 1) := by decide +kernel
theorem dX7_many_33 : decode cX7_many 33 = .ok (.istore 4, 2) := by decide +kernel
theorem dX7_many_35 : decode cX7_many 35 = .ok (.iload 4, 2) := by decide +kernel
theorem dX7_many_37 : decode cX7_many 37 = .ok (.aload_n 0, 1) := by decide +kernel
theorem dX7_many_38 : decode cX7_many 38 = .ok (.getfield 115, 3) := by decide +kernel
theorem dX7_many_41 : decode cX7_many 41 = .ok (.if_icmp .ge 19, 3) := by decide +kernel
theorem dX7_many_44 : decode cX7_many 44 = .ok (.iload_n 3, 1) := by decide +kernel
theorem dX7_many_45 : decode cX7_many 45 = .ok (.aload_n 0, 1) := by decide +kernel
theorem dX7_many_46 : decode cX7_many 46 = .ok (.getfield 28, 3) := by decide +kernel
theorem dX7_many_49 : decode cX7_many 49 = .ok (.iload 4, 2) := by decide +kernel
theorem dX7_many_51 : decode cX7_many 51 = .ok (.iaload, 1) := by decide +kernel
theorem dX7_many_52 : decode cX7_many 52 = .ok (.iadd, 1) := by decide +kernel
theorem dX7_many_53 : decode cX7_many 53 = .ok (.istore_n 3, 1) := by decide +kernel
theorem dX7_many_54 : decode cX7_many 54 = .ok (.iinc 4 1, 3) := by decide +kernel
theorem dX7_many_57 : decode cX7_many 57 = .ok (.goto (-22), 3) := by decide +kernel
theorem dX7_many_60 : decode cX7_many 60 = .ok (.iload_n 1, 1) := by decide +kernel
theorem dX7_many_61 : decode cX7_many 61 = .ok (.ifCond .ne 10, 3) := by decide +kernel
theorem dX7_many_64 : decode cX7_many 64 = .ok (.aload_n 0, 1) := by decide +kernel
theorem dX7_many_65 : decode cX7_many 65 = .ok (.getfield 112, 3) := by decide +kernel
theorem dX7_many_68 : decode cX7_many 68 = .ok (.goto 47, 3) := by decide +kernel
theorem dX7_many_71 : decode cX7_many 71 = .ok (.iload_n 1, 1) := by decide +kernel
theorem dX7_many_72 : decode cX7_many 72 = .ok (.iconst 1, 1) := by decide +kernel
theorem dX7_many_73 : decode cX7_many 73 = .ok (.if_icmp .ne 10, 3) := by decide +kernel
theorem dX7_many_76 : decode cX7_many 76 = .ok (.aload_n 0, 1) := by decide +kernel
theorem dX7_many_77 : decode cX7_many 77 = .ok (.getfield 115, 3) := by decide +kernel
theorem dX7_many_80 : decode cX7_many 80 = .ok (.goto 35, 3) := by decide +kernel
theorem dX7_many_83 : decode cX7_many 83 = .ok (.iload_n 1, 1) := by decide +kernel
theorem dX7_many_84 : decode cX7_many 84 = .ok (.iconst 2, 1) := by decide +kernel
theorem dX7_many_85 : decode cX7_many 85 = .ok (.if_icmp .ne 10, 3) := by decide +kernel
theorem dX7_many_88 : decode cX7_many 88 = .ok (.aload_n 0, 1) := by decide +kernel
theorem dX7_many_89 : decode cX7_many 89 = .ok (.getfield 239, 3) := by decide +kernel
theorem dX7_many_92 : decode cX7_many 92 = .ok (.goto 23, 3) := by decide +kernel
theorem dX7_many_95 : decode cX7_many 95 = .ok (.iload_n 1, 1) := by decide +kernel
theorem dX7_many_96 : decode cX7_many 96 = .ok (.iconst 3, 1) := by decide +kernel
theorem dX7_many_97 : decode cX7_many 97 = .ok (.if_icmp .ne 7, 3) := by decide +kernel
theorem dX7_many_100 : decode cX7_many 100 = .ok (.iload_n 2, 1) := by decide +kernel
theorem dX7_many_101 : decode cX7_many 101 = .ok (.goto 14, 3) := by decide +kernel
theorem dX7_many_104 : decode cX7_many 104 = .ok (.iload_n 1, 1) := by decide +kernel
theorem dX7_many_105 : decode cX7_many 105 = .ok (.iconst 4, 1) := by decide +kernel
theorem dX7_many_106 : decode cX7_many 106 = .ok (.if_icmp .ne 7, 3) := by decide +kernel
theorem dX7_many_109 : decode cX7_many 109 = .ok (.iload_n 3, 1) := by decide +kernel
theorem dX7_many_110 : decode cX7_many 110 = .ok (.goto 5, 3) := by decide +kernel
theorem dX7_many_113 : decode cX7_many 113 = .ok (.bipush (-2), 2) := by decide +kernel
theorem dX7_many_115 : decode cX7_many 115 = .ok (.ireturn, 1) := by decide +kernel
