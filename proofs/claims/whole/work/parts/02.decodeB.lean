theorem dX10_init_0 : decode cX10_init 0 = .ok (.aload_n 0, 1) := by decide +kernel
theorem dX10_init_1 : decode cX10_init 1 = .ok (.invokespecial 1, 3) := by decide +kernel
theorem dX10_init_4 : decode cX10_init 4 = .ok (.aload_n 0, 1) := by decide +kernel
theorem dX10_init_5 : decode cX10_init 5 = .ok (.bipush 12, 2) := by decide +kernel
theorem dX10_init_7 : decode cX10_init 7 = .ok (.newarray .int, 2) := by decide +kernel
theorem dX10_init_9 : decode cX10_init 9 = .ok (.putfield 7, 3) := by decide +kernel
theorem dX10_init_12 : decode cX10_init 12 = .ok (.aload_n 0, 1) := by decide +kernel
theorem dX10_init_13 : decode cX10_init 13 = .ok (.bipush 12, 2) := by decide +kernel
theorem dX10_init_15 : decode cX10_init 15 = .ok (.newarray .int, 2) := by decide +kernel
theorem dX10_init_17 : decode cX10_init 17 = .ok (.putfield 13, 3) := by decide +kernel
theorem dX10_init_20 : decode cX10_init 20 = .ok (.aload_n 0, 1) := by decide +kernel
theorem dX10_init_21 : decode cX10_init 21 = .ok (.bipush 12, 2) := by decide +kernel
theorem dX10_init_23 : decode cX10_init 23 = .ok (.newarray .int, 2) := by decide +kernel
theorem dX10_init_25 : decode cX10_init 25 = .ok (.putfield 16, 3) := by decide +kernel
theorem dX10_init_28 : decode cX10_init 28 = .ok (.aload_n 0, 1) := by decide +kernel
theorem dX10_init_29 : decode cX10_init 29 = .ok (.bipush 12, 2) := by decide +kernel
theorem dX10_init_31 : decode cX10_init 31 = .ok (.newarray .int, 2) := by decide +kernel
theorem dX10_init_33 : decode cX10_init 33 = .ok (.putfield 19, 3) := by decide +kernel
theorem dX10_init_36 : decode cX10_init 36 = .ok (.aload_n 0, 1) := by decide +kernel
theorem dX10_init_37 : decode cX10_init 37 = .ok (.bipush 6, 2) := by decide +kernel
theorem dX10_init_39 : decode cX10_init 39 = .ok (.newarray .int, 2) := by decide +kernel
theorem dX10_init_41 : decode cX10_init 41 = .ok (.putfield 22, 3) := by decide +kernel
theorem dX10_init_44 : decode cX10_init 44 = .ok (.aload_n 0, 1) := by decide +kernel
theorem dX10_init_45 : decode cX10_init 45 = .ok (.bipush 72, 2) := by decide +kernel
theorem dX10_init_47 : decode cX10_init 47 = .ok (.newarray .int, 2) := by decide +kernel
theorem dX10_init_49 : decode cX10_init 49 = .ok (.putfield 25, 3) := by decide +kernel
theorem dX10_init_52 : decode cX10_init 52 = .ok (.aload_n 0, 1) := by decide +kernel
theorem dX10_init_53 : decode cX10_init 53 = .ok (.bipush 6, 2) := by decide +kernel
theorem dX10_init_55 : decode cX10_init 55 = .ok (.newarray .int, 2) := by decide +kernel
theorem dX10_init_57 : decode cX10_init 57 = .ok (.putfield 28, 3) := by decide +kernel
theorem dX10_init_60 : decode cX10_init 60 = .ok (.aload_n 0, 1) := by decide +kernel
theorem dX10_init_61 : decode cX10_init 61 = .ok (.bipush 120, 2) := by decide +kernel
theorem dX10_init_63 : decode cX10_init 63 = .ok (.newarray .int, 2) := by decide +kernel
theorem dX10_init_65 : decode cX10_init 65 = .ok (.putfield 31, 3) := by decide +kernel
theorem dX10_init_68 : decode cX10_init 68 = .ok (.aload_n 0, 1) := by decide +kernel
theorem dX10_init_69 : decode cX10_init 69 = .ok (.bipush 12, 2) := by decide +kernel
theorem dX10_init_71 : decode cX10_init 71 = .ok (.newarray .int, 2) := by decide +kernel
theorem dX10_init_73 : decode cX10_init 73 = .ok (.putfield 34, 3) := by decide +kernel
theorem dX10_init_76 : decode cX10_init 76 = .ok (.aload_n 0, 1) := by decide +kernel
theorem dX10_init_77 : decode cX10_init 77 = .ok (.bipush 12, 2) := by decide +kernel
theorem dX10_init_79 : decode cX10_init 79 = .ok (.newarray .int, 2) := by decide +kernel
theorem dX10_init_81 : decode cX10_init 81 = .ok (.putfield 37, 3) := by decide +kernel
theorem dX10_init_84 : decode cX10_init 84 = .ok (.aload_n 0, 1) := by decide +kernel
theorem dX10_init_85 : decode cX10_init 85 = .ok (.bipush 12, 2) := by decide +kernel
theorem dX10_init_87 : decode cX10_init 87 = .ok (.newarray .int, 2) := by decide +kernel
theorem dX10_init_89 : decode cX10_init 89 = .ok (.putfield 40, 3) := by decide +kernel
theorem dX10_init_92 : decode cX10_init 92 = .ok (.aload_n 0, 1) := by decide +kernel
theorem dX10_init_93 : decode cX10_init 93 = .ok (.bipush 12, 2) := by decide +kernel
theorem dX10_init_95 : decode cX10_init 95 = .ok (.newarray .int, 2) := by decide +kernel
theorem dX10_init_97 : decode cX10_init 97 = .ok (.putfield 43, 3) := by decide +kernel
theorem dX10_init_100 : decode cX10_init 100 = .ok (.aload_n 0, 1) := by decide +kernel
theorem dX10_init_101 : decode cX10_init 101 = .ok (.bipush 60, 2) := by decide +kernel
theorem dX10_init_103 : decode cX10_init 103 = .ok (.newarray .int, 2) := by decide +kernel
theorem dX10_init_105 : decode cX10_init 105 = .ok (.putfield 46, 3) := by decide +kernel
theorem dX10_init_108 : decode cX10_init 108 = .ok (.aload_n 0, 1) := by decide +kernel
theorem dX10_init_109 : decode cX10_init 109 = .ok (.bipush 72, 2) := by decide +kernel
theorem dX10_init_111 : decode cX10_init 111 = .ok (.newarray .int, 2) := by decide +kernel
theorem dX10_init_113 : decode cX10_init 113 = .ok (.putfield 49, 3) := by decide +kernel
theorem dX10_init_116 : decode cX10_init 116 = .ok (.aload_n 0, 1) := by decide +kernel
theorem dX10_init_117 : decode cX10_init 117 = .ok (.bipush 6, 2) := by decide +kernel
theorem dX10_init_119 : decode cX10_init 119 = .ok (.newarray .int, 2) := by decide +kernel
theorem dX10_init_121 : decode cX10_init 121 = .ok (.putfield 52, 3) := by decide +kernel
theorem dX10_init_124 : decode cX10_init 124 = .ok (.aload_n 0, 1) := by decide +kernel
theorem dX10_init_125 : decode cX10_init 125 = .ok (.bipush 36, 2) := by decide +kernel
theorem dX10_init_127 : decode cX10_init 127 = .ok (.newarray .int, 2) := by decide +kernel
theorem dX10_init_129 : decode cX10_init 129 = .ok (.putfield 55, 3) := by decide +kernel
theorem dX10_init_132 : decode cX10_init 132 = .ok (.aload_n 0, 1) := by decide +kernel
theorem dX10_init_133 : decode cX10_init 133 = .ok (.bipush 18, 2) := by decide +kernel
theorem dX10_init_135 : decode cX10_init 135 = .ok (.newarray .int, 2) := by decide +kernel
theorem dX10_init_137 : decode cX10_init 137 = .ok (.putfield 58, 3) := by decide +kernel
theorem dX10_init_140 : decode cX10_init 140 = .ok (.aload_n 0, 1) := by decide +kernel
theorem dX10_init_141 : decode cX10_init 141 = .ok (.sipush 216, 3) := by decide +kernel
theorem dX10_init_144 : decode cX10_init 144 = .ok (.newarray .int, 2) := by decide +kernel
theorem dX10_init_146 : decode cX10_init 146 = .ok (.putfield 61, 3) := by decide +kernel
theorem dX10_init_149 : decode cX10_init 149 = .ok (.aload_n 0, 1) := by decide +kernel
theorem dX10_init_150 : decode cX10_init 150 = .ok (.iconst 3, 1) := by decide +kernel
theorem dX10_init_151 : decode cX10_init 151 = .ok (.newarray .int, 2) := by decide +kernel
theorem dX10_init_153 : decode cX10_init 153 = .ok (.putfield 64, 3) := by decide +kernel
theorem dX10_init_156 : decode cX10_init 156 = .ok (.aload_n 0, 1) := by decide +kernel
theorem dX10_init_157 : decode cX10_init 157 = .ok (.sipush 138, 3) := by decide +kernel
theorem dX10_init_160 : decode cX10_init 160 = .ok (.newarray .int, 2) := by decide +kernel
theorem dX10_init_162 : decode cX10_init 162 = .ok (.putfield 67, 3) := by decide +kernel
theorem dX10_init_165 : decode cX10_init 165 = .ok (.aload_n 0, 1) := by decide +kernel
theorem dX10_init_166 : decode cX10_init 166 = .ok (.iconst 4, 1) := by decide +kernel
theorem dX10_init_167 : decode cX10_init 167 = .ok (.newarray .int, 2) := by decide +kernel
theorem dX10_init_169 : decode cX10_init 169 = .ok (.putfield 70, 3) := by decide +kernel
theorem dX10_init_172 : decode cX10_init 172 = .ok (.aload_n 0, 1) := by decide +kernel
theorem dX10_init_173 : decode cX10_init 173 = .ok (.iconst 4, 1) := by decide +kernel
theorem dX10_init_174 : decode cX10_init 174 = .ok (.newarray .int, 2) := by decide +kernel
theorem dX10_init_176 : decode cX10_init 176 = .ok (.putfield 73, 3) := by decide +kernel
theorem dX10_init_179 : decode cX10_init 179 = .ok (.aload_n 0, 1) := by decide +kernel
theorem dX10_init_180 : decode cX10_init 180 = .ok (.bipush 96, 2) := by decide +kernel
theorem dX10_init_182 : decode cX10_init 182 = .ok (.newarray .long, 2) := by decide +kernel
theorem dX10_init_184 : decode cX10_init 184 = .ok (.putfield 76, 3) := by decide +kernel
theorem dX10_init_187 : decode cX10_init 187 = .ok (.aload_n 0, 1) := by decide +kernel
theorem dX10_init_188 : decode cX10_init 188 = .ok (.bipush 24, 2) := by decide +kernel
theorem dX10_init_190 : decode cX10_init 190 = .ok (.newarray .long, 2) := by decide +kernel
theorem dX10_init_192 : decode cX10_init 192 = .ok (.putfield 80, 3) := by decide +kernel
theorem dX10_init_195 : decode cX10_init 195 = .ok (.iconst 0, 1) := by decide +kernel
theorem dX10_init_196 : decode cX10_init 196 = .ok (.istore_n 1, 1) := by decide +kernel
theorem dX10_init_197 : decode cX10_init 197 = .ok (.iload_n 1, 1) := by decide +kernel
theorem dX10_init_198 : decode cX10_init 198 = .ok (.bipush 6, 2) := by decide +kernel
theorem dX10_init_200 : decode cX10_init 200 = .ok (.if_icmp .ge 16, 3) := by decide +kernel
theorem dX10_init_203 : decode cX10_init 203 = .ok (.aload_n 0, 1) := by decide +kernel
theorem dX10_init_204 : decode cX10_init 204 = .ok (.getfield 28, 3) := by decide +kernel
theorem dX10_init_207 : decode cX10_init 207 = .ok (.iload_n 1, 1) := by decide +kernel
theorem dX10_init_208 : decode cX10_init 208 = .ok (.iconst 3, 1) := by decide +kernel
theorem dX10_init_209 : decode cX10_init 209 = .ok (.iastore, 1) := by decide +kernel
theorem dX10_init_210 : decode cX10_init 210 = .ok (.iinc 1 1, 3) := by decide +kernel
theorem dX10_init_213 : decode cX10_init 213 = .ok (.goto (-16), 3) := by decide +kernel
theorem dX10_init_216 : decode cX10_init 216 = .ok (.iconst 0, 1) := by decide +kernel
theorem dX10_init_217 : decode cX10_init 217 = .ok (.istore_n 1, 1) := by decide +kernel
theorem dX10_init_218 : decode cX10_init 218 = .ok (.iload_n 1, 1) := by decide +kernel
theorem dX10_init_219 : decode cX10_init 219 = .ok (.iconst 4, 1) := by decide +kernel
theorem dX10_init_220 : decode cX10_init 220 = .ok (.if_icmp .ge 16, 3) := by decide +kernel
theorem dX10_init_223 : decode cX10_init 223 = .ok (.aload_n 0, 1) := by decide +kernel
theorem dX10_init_224 : decode cX10_init 224 = .ok (.getfield 70, 3) := by decide +kernel
theorem dX10_init_227 : decode cX10_init 227 = .ok (.iload_n 1, 1) := by decide +kernel
theorem dX10_init_228 : decode cX10_init 228 = .ok (.iconst (-1), 1) := by decide +kernel
theorem dX10_init_229 : decode cX10_init 229 = .ok (.iastore, 1) := by decide +kernel
theorem dX10_init_230 : decode cX10_init 230 = .ok (.iinc 1 1, 3) := by decide +kernel
theorem dX10_init_233 : decode cX10_init 233 = .ok (.goto (-15), 3) := by decide +kernel
theorem dX10_init_236 : decode cX10_init 236 = .ok (.return_, 1) := by decide +kernel
theorem dX10_in_0 : decode cX10_in 0 = .ok (.lload_n 0, 1) := by decide +kernel
theorem dX10_in_1 : decode cX10_in 1 = .ok (.lload_n 2, 1) := by decide +kernel
theorem dX10_in_2 : decode cX10_in 2 = .ok (.lcmp, 1) := by decide +kernel
theorem dX10_in_3 : decode cX10_in 3 = .ok (.ifCond .lt 14, 3) := by decide +kernel
theorem dX10_in_6 : decode cX10_in 6 = .ok (.lload_n 0, 1) := by decide +kernel
theorem dX10_in_7 : decode cX10_in 7 = .ok (.lload 4, 2) := by decide +kernel
theorem dX10_in_9 : decode cX10_in 9 = .ok (.lcmp, 1) := by decide +kernel
theorem dX10_in_10 : decode cX10_in 10 = .ok (.ifCond .gt 7, 3) := by decide +kernel
theorem dX10_in_13 : decode cX10_in 13 = .ok (.iconst 1, 1) := by decide +kernel
theorem dX10_in_14 : decode cX10_in 14 = .ok (.goto 4, 3) := by decide +kernel
theorem dX10_in_17 : decode cX10_in 17 = .ok (.iconst 0, 1) := by decide +kernel
theorem dX10_in_18 : decode cX10_in 18 = .ok (.ireturn, 1) := by decide +kernel
theorem dX10_isPiece_0 : decode cX10_isPiece 0 = .ok (.iload_n 1, 1) := by decide +kernel
theorem dX10_isPiece_1 : decode cX10_isPiece 1 = .ok (.i2l, 1) := by decide +kernel
theorem dX10_isPiece_2 : decode cX10_isPiece 2 = .ok (.lconst 0, 1) := by decide +kernel
theorem dX10_isPiece_3 : decode cX10_isPiece 3 = .ok (.aload_n 0, 1) := by decide +kernel
theorem dX10_isPiece_4 : decode cX10_isPiece 4 = .ok (.getfield 83, 3) := by decide +kernel
theorem dX10_isPiece_7 : decode cX10_isPiece 7 = .ok (.iconst 1, 1) := by decide +kernel
theorem dX10_isPiece_8 : decode cX10_isPiece 8 = .ok (.isub, 1) := by decide +kernel
theorem dX10_isPiece_9 : decode cX10_isPiece 9 = .ok (.i2l, 1) := by decide +kernel
theorem dX10_isPiece_10 : decode cX10_isPiece 10 = .ok (.invokestatic 87, 3) := by decide +kernel
theorem dX10_isPiece_13 : decode cX10_isPiece 13 = .ok (.ireturn, 1) := by decide +kernel
theorem dX10_isPlace_0 : decode cX10_isPlace 0 = .ok (.iload_n 0, 1) := by decide +kernel
theorem dX10_isPlace_1 : decode cX10_isPlace 1 = .ok (.i2l, 1) := by decide +kernel
theorem dX10_isPlace_2 : decode cX10_isPlace 2 = .ok (.lconst 0, 1) := by decide +kernel
theorem dX10_isPlace_3 : decode cX10_isPlace 3 = .ok (.ldc2_w 91, 3) := by decide +kernel
theorem dX10_isPlace_6 : decode cX10_isPlace 6 = .ok (.invokestatic 87, 3) := by decide +kernel
theorem dX10_isPlace_9 : decode cX10_isPlace 9 = .ok (.ireturn, 1) := by decide +kernel
theorem dX10_weighs_0 : decode cX10_weighs 0 = .ok (.aload_n 0, 1) := by decide +kernel
theorem dX10_weighs_1 : decode cX10_weighs 1 = .ok (.getfield 13, 3) := by decide +kernel
theorem dX10_weighs_4 : decode cX10_weighs 4 = .ok (.iload_n 1, 1) := by decide +kernel
theorem dX10_weighs_5 : decode cX10_weighs 5 = .ok (.iaload, 1) := by decide +kernel
theorem dX10_weighs_6 : decode cX10_weighs 6 = .ok (.aload_n 0, 1) := by decide +kernel
theorem dX10_weighs_7 : decode cX10_weighs 7 = .ok (.getfield 7, 3) := by decide +kernel
theorem dX10_weighs_10 : decode cX10_weighs 10 = .ok (.iload_n 1, 1) := by decide +kernel
theorem dX10_weighs_11 : decode cX10_weighs 11 = .ok (.iaload, 1) := by decide +kernel
theorem dX10_weighs_12 : decode cX10_weighs 12 = .ok (.iconst 1, 1) := by decide +kernel
theorem dX10_weighs_13 : decode cX10_weighs 13 = .ok (.if_icmp .ne 7, 3) := by decide +kernel
theorem dX10_weighs_16 : decode cX10_weighs 16 = .ok (.iconst 2, 1) := by decide +kernel
theorem dX10_weighs_17 : decode cX10_weighs 17 = .ok (.goto 4, 3) := by decide +kernel
theorem dX10_weighs_20 : decode cX10_weighs 20 = .ok (.iconst 0, 1) := by decide +kernel
theorem dX10_weighs_21 : decode cX10_weighs 21 = .ok (.iadd, 1) := by decide +kernel
theorem dX10_weighs_22 : decode cX10_weighs 22 = .ok (.ireturn, 1) := by decide +kernel
theorem dX10_townOf_0 : decode cX10_townOf 0 = .ok (.aload_n 0, 1) := by decide +kernel
theorem dX10_townOf_1 : decode cX10_townOf 1 = .ok (.getfield 7, 3) := by decide +kernel
theorem dX10_townOf_4 : decode cX10_townOf 4 = .ok (.iload_n 1, 1) := by decide +kernel
theorem dX10_townOf_5 : decode cX10_townOf 5 = .ok (.iaload, 1) := by decide +kernel
theorem dX10_townOf_6 : decode cX10_townOf 6 = .ok (.iconst 2, 1) := by decide +kernel
theorem dX10_townOf_7 : decode cX10_townOf 7 = .ok (.if_icmp .ne 7, 3) := by decide +kernel
theorem dX10_townOf_10 : decode cX10_townOf 10 = .ok (.iconst 4, 1) := by decide +kernel
theorem dX10_townOf_11 : decode cX10_townOf 11 = .ok (.goto 9, 3) := by decide +kernel
theorem dX10_townOf_14 : decode cX10_townOf 14 = .ok (.aload_n 0, 1) := by decide +kernel
theorem dX10_townOf_15 : decode cX10_townOf 15 = .ok (.getfield 16, 3) := by decide +kernel
theorem dX10_townOf_18 : decode cX10_townOf 18 = .ok (.iload_n 1, 1) := by decide +kernel
theorem dX10_townOf_19 : decode cX10_townOf 19 = .ok (.iaload, 1) := by decide +kernel
theorem dX10_townOf_20 : decode cX10_townOf 20 = .ok (.ireturn, 1) := by decide +kernel
theorem dX10_topOf_0 : decode cX10_topOf 0 = .ok (.aload_n 0, 1) := by decide +kernel
theorem dX10_topOf_1 : decode cX10_topOf 1 = .ok (.getfield 22, 3) := by decide +kernel
theorem dX10_topOf_4 : decode cX10_topOf 4 = .ok (.iload_n 1, 1) := by decide +kernel
theorem dX10_topOf_5 : decode cX10_topOf 5 = .ok (.iaload, 1) := by decide +kernel
theorem dX10_topOf_6 : decode cX10_topOf 6 = .ok (.ifCond .ne 8, 3) := by decide +kernel
theorem dX10_topOf_9 : decode cX10_topOf 9 = .ok (.bipush 12, 2) := by decide +kernel
theorem dX10_topOf_11 : decode cX10_topOf 11 = .ok (.goto 21, 3) := by decide +kernel
theorem dX10_topOf_14 : decode cX10_topOf 14 = .ok (.aload_n 0, 1) := by decide +kernel
theorem dX10_topOf_15 : decode cX10_topOf 15 = .ok (.getfield 25, 3) := by decide +kernel
theorem dX10_topOf_18 : decode cX10_topOf 18 = .ok (.bipush 12, 2) := by decide +kernel
theorem dX10_topOf_20 : decode cX10_topOf 20 = .ok (.iload_n 1, 1) := by decide +kernel
theorem dX10_topOf_21 : decode cX10_topOf 21 = .ok (.imul, 1) := by decide +kernel
theorem dX10_topOf_22 : decode cX10_topOf 22 = .ok (.aload_n 0, 1) := by decide +kernel
theorem dX10_topOf_23 : decode cX10_topOf 23 = .ok (.getfield 22, 3) := by decide +kernel
theorem dX10_topOf_26 : decode cX10_topOf 26 = .ok (.iload_n 1, 1) := by decide +kernel
theorem dX10_topOf_27 : decode cX10_topOf 27 = .ok (.iaload, 1) := by decide +kernel
theorem dX10_topOf_28 : decode cX10_topOf 28 = .ok (.iadd, 1) := by decide +kernel
theorem dX10_topOf_29 : decode cX10_topOf 29 = .ok (.iconst 1, 1) := by decide +kernel
theorem dX10_topOf_30 : decode cX10_topOf 30 = .ok (.isub, 1) := by decide +kernel
theorem dX10_topOf_31 : decode cX10_topOf 31 = .ok (.iaload, 1) := by decide +kernel
theorem dX10_topOf_32 : decode cX10_topOf 32 = .ok (.ireturn, 1) := by decide +kernel
theorem dX10_put_0 : decode cX10_put 0 = .ok (.aload_n 0, 1) := by decide +kernel
theorem dX10_put_1 : decode cX10_put 1 = .ok (.getfield 19, 3) := by decide +kernel
theorem dX10_put_4 : decode cX10_put 4 = .ok (.iload_n 1, 1) := by decide +kernel
theorem dX10_put_5 : decode cX10_put 5 = .ok (.iload_n 2, 1) := by decide +kernel
theorem dX10_put_6 : decode cX10_put 6 = .ok (.iastore, 1) := by decide +kernel
theorem dX10_put_7 : decode cX10_put 7 = .ok (.aload_n 0, 1) := by decide +kernel
theorem dX10_put_8 : decode cX10_put 8 = .ok (.getfield 25, 3) := by decide +kernel
theorem dX10_put_11 : decode cX10_put 11 = .ok (.bipush 12, 2) := by decide +kernel
theorem dX10_put_13 : decode cX10_put 13 = .ok (.iload_n 2, 1) := by decide +kernel
theorem dX10_put_14 : decode cX10_put 14 = .ok (.imul, 1) := by decide +kernel
theorem dX10_put_15 : decode cX10_put 15 = .ok (.aload_n 0, 1) := by decide +kernel
theorem dX10_put_16 : decode cX10_put 16 = .ok (.getfield 22, 3) := by decide +kernel
theorem dX10_put_19 : decode cX10_put 19 = .ok (.iload_n 2, 1) := by decide +kernel
theorem dX10_put_20 : decode cX10_put 20 = .ok (.iaload, 1) := by decide +kernel
theorem dX10_put_21 : decode cX10_put 21 = .ok (.iadd, 1) := by decide +kernel
theorem dX10_put_22 : decode cX10_put 22 = .ok (.iload_n 1, 1) := by decide +kernel
theorem dX10_put_23 : decode cX10_put 23 = .ok (.iastore, 1) := by decide +kernel
theorem dX10_put_24 : decode cX10_put 24 = .ok (.aload_n 0, 1) := by decide +kernel
theorem dX10_put_25 : decode cX10_put 25 = .ok (.getfield 22, 3) := by decide +kernel
theorem dX10_put_28 : decode cX10_put 28 = .ok (.iload_n 2, 1) := by decide +kernel
theorem dX10_put_29 : decode cX10_put 29 = .ok (.dup2, 1) := by decide +kernel
theorem dX10_put_30 : decode cX10_put 30 = .ok (.iaload, 1) := by decide +kernel
theorem dX10_put_31 : decode cX10_put 31 = .ok (.iconst 1, 1) := by decide +kernel
theorem dX10_put_32 : decode cX10_put 32 = .ok (.iadd, 1) := by decide +kernel
theorem dX10_put_33 : decode cX10_put 33 = .ok (.iastore, 1) := by decide +kernel
theorem dX10_put_34 : decode cX10_put 34 = .ok (.return_, 1) := by decide +kernel
theorem dX10_takeTop_0 : decode cX10_takeTop 0 = .ok (.aload_n 0, 1) := by decide +kernel
theorem dX10_takeTop_1 : decode cX10_takeTop 1 = .ok (.iload_n 1, 1) := by decide +kernel
theorem dX10_takeTop_2 : decode cX10_takeTop 2 = .ok (.invokevirtual 93, 3) := by decide +kernel
theorem dX10_takeTop_5 : decode cX10_takeTop 5 = .ok (.istore_n 2, 1) := by decide +kernel
theorem dX10_takeTop_6 : decode cX10_takeTop 6 = .ok (.aload_n 0, 1) := by decide +kernel
theorem dX10_takeTop_7 : decode cX10_takeTop 7 = .ok (.getfield 22, 3) := by decide +kernel
theorem dX10_takeTop_10 : decode cX10_takeTop 10 = .ok (.iload_n 1, 1) := by decide +kernel
theorem dX10_takeTop_11 : decode cX10_takeTop 11 = .ok (.dup2, 1) := by decide +kernel
theorem dX10_takeTop_12 : decode cX10_takeTop 12 = .ok (.iaload, 1) := by decide +kernel
theorem dX10_takeTop_13 : decode cX10_takeTop 13 = .ok (.iconst 1, 1) := by decide +kernel
theorem dX10_takeTop_14 : decode cX10_takeTop 14 = .ok (.isub, 1) := by decide +kernel
theorem dX10_takeTop_15 : decode cX10_takeTop 15 = .ok (.iastore, 1) := by decide +kernel
theorem dX10_takeTop_16 : decode cX10_takeTop 16 = .ok (.aload_n 0, 1) := by decide +kernel
theorem dX10_takeTop_17 : decode cX10_takeTop 17 = .ok (.getfield 19, 3) := by decide +kernel
theorem dX10_takeTop_20 : decode cX10_takeTop 20 = .ok (.iload_n 2, 1) := by decide +kernel
theorem dX10_takeTop_21 : decode cX10_takeTop 21 = .ok (.bipush 6, 2) := by decide +kernel
theorem dX10_takeTop_23 : decode cX10_takeTop 23 = .ok (.iastore, 1) := by decide +kernel
theorem dX10_takeTop_24 : decode cX10_takeTop 24 = .ok (.iload_n 2, 1) := by decide +kernel
theorem dX10_takeTop_25 : decode cX10_takeTop 25 = .ok (.ireturn, 1) := by decide +kernel
theorem dX10_loadOf_0 : decode cX10_loadOf 0 = .ok (.iconst 0, 1) := by decide +kernel
theorem dX10_loadOf_1 : decode cX10_loadOf 1 = .ok (.istore_n 2, 1) := by decide +kernel
theorem dX10_loadOf_2 : decode cX10_loadOf 2 = .ok (.iconst 0, 1) := by decide +kernel
theorem dX10_loadOf_3 : decode cX10_loadOf 3 = .ok (.istore_n 3, 1) := by decide +kernel
theorem dX10_loadOf_4 : decode cX10_loadOf 4 = .ok (.iload_n 3, 1) := by decide +kernel
theorem dX10_loadOf_5 : decode cX10_loadOf 5 = .ok (.aload_n 0, 1) := by decide +kernel
theorem dX10_loadOf_6 : decode cX10_loadOf 6 = .ok (.getfield 22, 3) := by decide +kernel
theorem dX10_loadOf_9 : decode cX10_loadOf 9 = .ok (.iload_n 1, 1) := by decide +kernel
theorem dX10_loadOf_10 : decode cX10_loadOf 10 = .ok (.iaload, 1) := by decide +kernel
theorem dX10_loadOf_11 : decode cX10_loadOf 11 = .ok (.if_icmp .ge 27, 3) := by decide +kernel
theorem dX10_loadOf_14 : decode cX10_loadOf 14 = .ok (.iload_n 2, 1) := by decide +kernel
theorem dX10_loadOf_15 : decode cX10_loadOf 15 = .ok (.aload_n 0, 1) := by decide +kernel
theorem dX10_loadOf_16 : decode cX10_loadOf 16 = .ok (.aload_n 0, 1) := by decide +kernel
theorem dX10_loadOf_17 : decode cX10_loadOf 17 = .ok (.getfield 25, 3) := by decide +kernel
theorem dX10_loadOf_20 : decode cX10_loadOf 20 = .ok (.bipush 12, 2) := by decide +kernel
theorem dX10_loadOf_22 : decode cX10_loadOf 22 = .ok (.iload_n 1, 1) := by decide +kernel
theorem dX10_loadOf_23 : decode cX10_loadOf 23 = .ok (.imul, 1) := by decide +kernel
theorem dX10_loadOf_24 : decode cX10_loadOf 24 = .ok (.iload_n 3, 1) := by decide +kernel
theorem dX10_loadOf_25 : decode cX10_loadOf 25 = .ok (.iadd, 1) := by decide +kernel
theorem dX10_loadOf_26 : decode cX10_loadOf 26 = .ok (.iaload, 1) := by decide +kernel
theorem dX10_loadOf_27 : decode cX10_loadOf 27 = .ok (.invokevirtual 97, 3) := by decide +kernel
theorem dX10_loadOf_30 : decode cX10_loadOf 30 = .ok (.iadd, 1) := by decide +kernel
theorem dX10_loadOf_31 : decode cX10_loadOf 31 = .ok (.istore_n 2, 1) := by decide +kernel
theorem dX10_loadOf_32 : decode cX10_loadOf 32 = .ok (.iinc 3 1, 3) := by decide +kernel
theorem dX10_loadOf_35 : decode cX10_loadOf 35 = .ok (.goto (-31), 3) := by decide +kernel
theorem dX10_loadOf_38 : decode cX10_loadOf 38 = .ok (.iload_n 2, 1) := by decide +kernel
theorem dX10_loadOf_39 : decode cX10_loadOf 39 = .ok (.ireturn, 1) := by decide +kernel
theorem dX10_addPiece_0 : decode cX10_addPiece 0 = .ok (.aload_n 0, 1) := by decide +kernel
theorem dX10_addPiece_1 : decode cX10_addPiece 1 = .ok (.getfield 7, 3) := by decide +kernel
theorem dX10_addPiece_4 : decode cX10_addPiece 4 = .ok (.aload_n 0, 1) := by decide +kernel
theorem dX10_addPiece_5 : decode cX10_addPiece 5 = .ok (.getfield 83, 3) := by decide +kernel
theorem dX10_addPiece_8 : decode cX10_addPiece 8 = .ok (.iload_n 1, 1) := by decide +kernel
theorem dX10_addPiece_9 : decode cX10_addPiece 9 = .ok (.iastore, 1) := by decide +kernel
theorem dX10_addPiece_10 : decode cX10_addPiece 10 = .ok (.aload_n 0, 1) := by decide +kernel
theorem dX10_addPiece_11 : decode cX10_addPiece 11 = .ok (.getfield 13, 3) := by decide +kernel
theorem dX10_addPiece_14 : decode cX10_addPiece 14 = .ok (.aload_n 0, 1) := by decide +kernel
theorem dX10_addPiece_15 : decode cX10_addPiece 15 = .ok (.getfield 83, 3) := by decide +kernel
theorem dX10_addPiece_18 : decode cX10_addPiece 18 = .ok (.iload_n 2, 1) := by decide +kernel
theorem dX10_addPiece_19 : decode cX10_addPiece 19 = .ok (.iastore, 1) := by decide +kernel
theorem dX10_addPiece_20 : decode cX10_addPiece 20 = .ok (.aload_n 0, 1) := by decide +kernel
theorem dX10_addPiece_21 : decode cX10_addPiece 21 = .ok (.getfield 16, 3) := by decide +kernel
theorem dX10_addPiece_24 : decode cX10_addPiece 24 = .ok (.aload_n 0, 1) := by decide +kernel
theorem dX10_addPiece_25 : decode cX10_addPiece 25 = .ok (.getfield 83, 3) := by decide +kernel
theorem dX10_addPiece_28 : decode cX10_addPiece 28 = .ok (.iload_n 3, 1) := by decide +kernel
theorem dX10_addPiece_29 : decode cX10_addPiece 29 = .ok (.iastore, 1) := by decide +kernel
theorem dX10_addPiece_30 : decode cX10_addPiece 30 = .ok (.aload_n 0, 1) := by decide +kernel
theorem dX10_addPiece_31 : decode cX10_addPiece 31 = .ok (.getfield 19, 3) := by decide +kernel
theorem dX10_addPiece_34 : decode cX10_addPiece 34 = .ok (.aload_n 0, 1) := by decide +kernel
theorem dX10_addPiece_35 : decode cX10_addPiece 35 = .ok (.getfield 83, 3) := by decide +kernel
theorem dX10_addPiece_38 : decode cX10_addPiece 38 = .ok (.bipush 6, 2) := by decide +kernel
theorem dX10_addPiece_40 : decode cX10_addPiece 40 = .ok (.iastore, 1) := by decide +kernel
theorem dX10_addPiece_41 : decode cX10_addPiece 41 = .ok (.aload_n 0, 1) := by decide +kernel
theorem dX10_addPiece_42 : decode cX10_addPiece 42 = .ok (.dup, 1) := by decide +kernel
theorem dX10_addPiece_43 : decode cX10_addPiece 43 = .ok (.getfield 83, 3) := by decide +kernel
theorem dX10_addPiece_46 : decode cX10_addPiece 46 = .ok (.iconst 1, 1) := by decide +kernel
theorem dX10_addPiece_47 : decode cX10_addPiece 47 = .ok (.iadd, 1) := by decide +kernel
theorem dX10_addPiece_48 : decode cX10_addPiece 48 = .ok (.putfield 83, 3) := by decide +kernel
theorem dX10_addPiece_51 : decode cX10_addPiece 51 = .ok (.iload 4, 2) := by decide +kernel
theorem dX10_addPiece_53 : decode cX10_addPiece 53 = .ok (.bipush 6, 2) := by decide +kernel
theorem dX10_addPiece_55 : decode cX10_addPiece 55 = .ok (.if_icmp .ge 15, 3) := by decide +kernel
theorem dX10_addPiece_58 : decode cX10_addPiece 58 = .ok (.aload_n 0, 1) := by decide +kernel
theorem dX10_addPiece_59 : decode cX10_addPiece 59 = .ok (.aload_n 0, 1) := by decide +kernel
theorem dX10_addPiece_60 : decode cX10_addPiece 60 = .ok (.getfield 83, 3) := by decide +kernel
theorem dX10_addPiece_63 : decode cX10_addPiece 63 = .ok (.iconst 1, 1) := by decide +kernel
theorem dX10_addPiece_64 : decode cX10_addPiece 64 = .ok (.isub, 1) := by decide +kernel
theorem dX10_addPiece_65 : decode cX10_addPiece 65 = .ok (.iload 4, 2) := by decide +kernel
theorem dX10_addPiece_67 : decode cX10_addPiece 67 = .ok (.invokevirtual 100, 3) := by decide +kernel
theorem dX10_addPiece_70 : decode cX10_addPiece 70 = .ok (.return_, 1) := by decide +kernel
theorem dX10_piece_0 : decode cX10_piece 0 = .ok (.iload_n 1, 1) := by decide +kernel
theorem dX10_piece_1 : decode cX10_piece 1 = .ok (.i2l, 1) := by decide +kernel
theorem dX10_piece_2 : decode cX10_piece 2 = .ok (.lconst 0, 1) := by decide +kernel
theorem dX10_piece_3 : decode cX10_piece 3 = .ok (.ldc2_w 104, 3) := by decide +kernel
theorem dX10_piece_6 : decode cX10_piece 6 = .ok (.invokestatic 87, 3) := by decide +kernel
theorem dX10_piece_9 : decode cX10_piece 9 = .ok (.ifCond .eq 40, 3) := by decide +kernel
theorem dX10_piece_12 : decode cX10_piece 12 = .ok (.iload_n 2, 1) := by decide +kernel
theorem dX10_piece_13 : decode cX10_piece 13 = .ok (.i2l, 1) := by decide +kernel
theorem dX10_piece_14 : decode cX10_piece 14 = .ok (.lconst 1, 1) := by decide +kernel
theorem dX10_piece_15 : decode cX10_piece 15 = .ok (.ldc2_w 106, 3) := by decide +kernel
theorem dX10_piece_18 : decode cX10_piece 18 = .ok (.invokestatic 87, 3) := by decide +kernel
theorem dX10_piece_21 : decode cX10_piece 21 = .ok (.ifCond .eq 28, 3) := by decide +kernel
theorem dX10_piece_24 : decode cX10_piece 24 = .ok (.iload_n 3, 1) := by decide +kernel
theorem dX10_piece_25 : decode cX10_piece 25 = .ok (.i2l, 1) := by decide +kernel
theorem dX10_piece_26 : decode cX10_piece 26 = .ok (.lconst 0, 1) := by decide +kernel
theorem dX10_piece_27 : decode cX10_piece 27 = .ok (.ldc2_w 104, 3) := by decide +kernel
theorem dX10_piece_30 : decode cX10_piece 30 = .ok (.invokestatic 87, 3) := by decide +kernel
theorem dX10_piece_33 : decode cX10_piece 33 = .ok (.ifCond .eq 16, 3) := by decide +kernel
theorem dX10_piece_36 : decode cX10_piece 36 = .ok (.iload 4, 2) := by decide +kernel
theorem dX10_piece_38 : decode cX10_piece 38 = .ok (.i2l, 1) := by decide +kernel
theorem dX10_piece_39 : decode cX10_piece 39 = .ok (.lconst 0, 1) := by decide +kernel
theorem dX10_piece_40 : decode cX10_piece 40 = .ok (.ldc2_w 108, 3) := by decide +kernel
theorem dX10_piece_43 : decode cX10_piece 43 = .ok (.invokestatic 87, 3) := by decide +kernel
theorem dX10_piece_46 : decode cX10_piece 46 = .ok (.ifCond .ne 5, 3) := by decide +kernel
theorem dX10_piece_49 : decode cX10_piece 49 = .ok (.iconst (-1), 1) := by decide +kernel
theorem dX10_piece_50 : decode cX10_piece 50 = .ok (.ireturn, 1) := by decide +kernel
theorem dX10_piece_51 : decode cX10_piece 51 = .ok (.aload_n 0, 1) := by decide +kernel
theorem dX10_piece_52 : decode cX10_piece 52 = .ok (.getfield 83, 3) := by decide +kernel
theorem dX10_piece_55 : decode cX10_piece 55 = .ok (.bipush 12, 2) := by decide +kernel
theorem dX10_piece_57 : decode cX10_piece 57 = .ok (.if_icmp .ne 6, 3) := by decide +kernel
theorem dX10_piece_60 : decode cX10_piece 60 = .ok (.bipush (-3), 2) := by decide +kernel
theorem dX10_piece_62 : decode cX10_piece 62 = .ok (.ireturn, 1) := by decide +kernel
theorem dX10_piece_63 : decode cX10_piece 63 = .ok (.aload_n 0, 1) := by decide +kernel
theorem dX10_piece_64 : decode cX10_piece 64 = .ok (.iload_n 1, 1) := by decide +kernel
theorem dX10_piece_65 : decode cX10_piece 65 = .ok (.iload_n 2, 1) := by decide +kernel
theorem dX10_piece_66 : decode cX10_piece 66 = .ok (.iload_n 3, 1) := by decide +kernel
theorem dX10_piece_67 : decode cX10_piece 67 = .ok (.iload 4, 2) := by decide +kernel
theorem dX10_piece_69 : decode cX10_piece 69 = .ok (.invokevirtual 110, 3) := by decide +kernel
theorem dX10_piece_72 : decode cX10_piece 72 = .ok (.aload_n 0, 1) := by decide +kernel
theorem dX10_piece_73 : decode cX10_piece 73 = .ok (.getfield 83, 3) := by decide +kernel
theorem dX10_piece_76 : decode cX10_piece 76 = .ok (.iconst 1, 1) := by decide +kernel
theorem dX10_piece_77 : decode cX10_piece 77 = .ok (.isub, 1) := by decide +kernel
theorem dX10_piece_78 : decode cX10_piece 78 = .ok (.ireturn, 1) := by decide +kernel
theorem dX10_offOf_0 : decode cX10_offOf 0 = .ok (.aload_n 0, 1) := by decide +kernel
theorem dX10_offOf_1 : decode cX10_offOf 1 = .ok (.getfield 19, 3) := by decide +kernel
theorem dX10_offOf_4 : decode cX10_offOf 4 = .ok (.iload_n 1, 1) := by decide +kernel
theorem dX10_offOf_5 : decode cX10_offOf 5 = .ok (.iaload, 1) := by decide +kernel
theorem dX10_offOf_6 : decode cX10_offOf 6 = .ok (.istore_n 2, 1) := by decide +kernel
theorem dX10_offOf_7 : decode cX10_offOf 7 = .ok (.iconst 0, 1) := by decide +kernel
theorem dX10_offOf_8 : decode cX10_offOf 8 = .ok (.istore_n 3, 1) := by decide +kernel
theorem dX10_offOf_9 : decode cX10_offOf 9 = .ok (.iconst 0, 1) := by decide +kernel
theorem dX10_offOf_10 : decode cX10_offOf 10 = .ok (.istore 4, 2) := by decide +kernel
theorem dX10_offOf_12 : decode cX10_offOf 12 = .ok (.iload_n 2, 1) := by decide +kernel
theorem dX10_offOf_13 : decode cX10_offOf 13 = .ok (.bipush 6, 2) := by decide +kernel
theorem dX10_offOf_15 : decode cX10_offOf 15 = .ok (.if_icmp .ge 52, 3) := by decide +kernel
theorem dX10_offOf_18 : decode cX10_offOf 18 = .ok (.iload 4, 2) := by decide +kernel
theorem dX10_offOf_20 : decode cX10_offOf 20 = .ok (.aload_n 0, 1) := by decide +kernel
theorem dX10_offOf_21 : decode cX10_offOf 21 = .ok (.getfield 22, 3) := by decide +kernel
theorem dX10_offOf_24 : decode cX10_offOf 24 = .ok (.iload_n 2, 1) := by decide +kernel
theorem dX10_offOf_25 : decode cX10_offOf 25 = .ok (.iaload, 1) := by decide +kernel
theorem dX10_offOf_26 : decode cX10_offOf 26 = .ok (.if_icmp .ge 41, 3) := by decide +kernel
theorem dX10_offOf_29 : decode cX10_offOf 29 = .ok (.aload_n 0, 1) := by decide +kernel
theorem dX10_offOf_30 : decode cX10_offOf 30 = .ok (.getfield 25, 3) := by decide +kernel
theorem dX10_offOf_33 : decode cX10_offOf 33 = .ok (.bipush 12, 2) := by decide +kernel
theorem dX10_offOf_35 : decode cX10_offOf 35 = .ok (.iload_n 2, 1) := by decide +kernel
theorem dX10_offOf_36 : decode cX10_offOf 36 = .ok (.imul, 1) := by decide +kernel
theorem dX10_offOf_37 : decode cX10_offOf 37 = .ok (.iload 4, 2) := by decide +kernel
theorem dX10_offOf_39 : decode cX10_offOf 39 = .ok (.iadd, 1) := by decide +kernel
theorem dX10_offOf_40 : decode cX10_offOf 40 = .ok (.iaload, 1) := by decide +kernel
theorem dX10_offOf_41 : decode cX10_offOf 41 = .ok (.iload_n 1, 1) := by decide +kernel
theorem dX10_offOf_42 : decode cX10_offOf 42 = .ok (.if_icmp .ne 17, 3) := by decide +kernel
theorem dX10_offOf_45 : decode cX10_offOf 45 = .ok (.aload_n 0, 1) := by decide +kernel
theorem dX10_offOf_46 : decode cX10_offOf 46 = .ok (.getfield 22, 3) := by decide +kernel
theorem dX10_offOf_49 : decode cX10_offOf 49 = .ok (.iload_n 2, 1) := by decide +kernel
theorem dX10_offOf_50 : decode cX10_offOf 50 = .ok (.iaload, 1) := by decide +kernel
theorem dX10_offOf_51 : decode cX10_offOf 51 = .ok (.iconst 1, 1) := by decide +kernel
theorem dX10_offOf_52 : decode cX10_offOf 52 = .ok (.isub, 1) := by decide +kernel
theorem dX10_offOf_53 : decode cX10_offOf 53 = .ok (.iload 4, 2) := by decide +kernel
theorem dX10_offOf_55 : decode cX10_offOf 55 = .ok (.isub, 1) := by decide +kernel
theorem dX10_offOf_56 : decode cX10_offOf 56 = .ok (.goto 4, 3) := by decide +kernel
theorem dX10_offOf_59 : decode cX10_offOf 59 = .ok (.iload_n 3, 1) := by decide +kernel
theorem dX10_offOf_60 : decode cX10_offOf 60 = .ok (.istore_n 3, 1) := by decide +kernel
theorem dX10_offOf_61 : decode cX10_offOf 61 = .ok (.iinc 4 1, 3) := by decide +kernel
theorem dX10_offOf_64 : decode cX10_offOf 64 = .ok (.goto (-52), 3) := by decide +kernel
theorem dX10_offOf_67 : decode cX10_offOf 67 = .ok (.iload_n 3, 1) := by decide +kernel
theorem dX10_offOf_68 : decode cX10_offOf 68 = .ok (.ireturn, 1) := by decide +kernel
theorem dX10_told_0 : decode cX10_told 0 = .ok (.aload_n 0, 1) := by decide +kernel
theorem dX10_told_1 : decode cX10_told 1 = .ok (.iload_n 1, 1) := by decide +kernel
theorem dX10_told_2 : decode cX10_told 2 = .ok (.invokevirtual 114, 3) := by decide +kernel
theorem dX10_told_5 : decode cX10_told 5 = .ok (.ifCond .ne 5, 3) := by decide +kernel
theorem dX10_told_8 : decode cX10_told 8 = .ok (.iconst (-1), 1) := by decide +kernel
theorem dX10_told_9 : decode cX10_told 9 = .ok (.ireturn, 1) := by decide +kernel
theorem dX10_told_10 : decode cX10_told 10 = .ok (.iload_n 2, 1) := by decide +kernel
theorem dX10_told_11 : decode cX10_told 11 = .ok (.tableswitch 65 0 4 #[33, 40, 46, 52, 59], 33) := by decide +kernel
theorem dX10_told_44 : decode cX10_told 44 = .ok (.aload_n 0, 1) := by decide +kernel
theorem dX10_told_45 : decode cX10_told 45 = .ok (.getfield 7, 3) := by decide +kernel
theorem dX10_told_48 : decode cX10_told 48 = .ok (.iload_n 1, 1) := by decide +kernel
theorem dX10_told_49 : decode cX10_told 49 = .ok (.iaload, 1) := by decide +kernel
theorem dX10_told_50 : decode cX10_told 50 = .ok (.ireturn, 1) := by decide +kernel
theorem dX10_told_51 : decode cX10_told 51 = .ok (.aload_n 0, 1) := by decide +kernel
theorem dX10_told_52 : decode cX10_told 52 = .ok (.iload_n 1, 1) := by decide +kernel
theorem dX10_told_53 : decode cX10_told 53 = .ok (.invokevirtual 97, 3) := by decide +kernel
theorem dX10_told_56 : decode cX10_told 56 = .ok (.ireturn, 1) := by decide +kernel
theorem dX10_told_57 : decode cX10_told 57 = .ok (.aload_n 0, 1) := by decide +kernel
theorem dX10_told_58 : decode cX10_told 58 = .ok (.iload_n 1, 1) := by decide +kernel
theorem dX10_told_59 : decode cX10_told 59 = .ok (.invokevirtual 118, 3) := by decide +kernel
theorem dX10_told_62 : decode cX10_told 62 = .ok (.ireturn, 1) := by decide +kernel
theorem dX10_told_63 : decode cX10_told 63 = .ok (.aload_n 0, 1) := by decide +kernel
theorem dX10_told_64 : decode cX10_told 64 = .ok (.getfield 19, 3) := by decide +kernel
theorem dX10_told_67 : decode cX10_told 67 = .ok (.iload_n 1, 1) := by decide +kernel
theorem dX10_told_68 : decode cX10_told 68 = .ok (.iaload, 1) := by decide +kernel
theorem dX10_told_69 : decode cX10_told 69 = .ok (.ireturn, 1) := by decide +kernel
theorem dX10_told_70 : decode cX10_told 70 = .ok (.aload_n 0, 1) := by decide +kernel
theorem dX10_told_71 : decode cX10_told 71 = .ok (.iload_n 1, 1) := by decide +kernel
theorem dX10_told_72 : decode cX10_told 72 = .ok (.invokevirtual 121, 3) := by decide +kernel
theorem dX10_told_75 : decode cX10_told 75 = .ok (.ireturn, 1) := by decide +kernel
theorem dX10_told_76 : decode cX10_told 76 = .ok (.iconst (-1), 1) := by decide +kernel
theorem dX10_told_77 : decode cX10_told 77 = .ok (.ireturn, 1) := by decide +kernel
theorem dX10_of_0 : decode cX10_of 0 = .ok (.iload_n 1, 1) := by decide +kernel
theorem dX10_of_1 : decode cX10_of 1 = .ok (.invokestatic 124, 3) := by decide +kernel
theorem dX10_of_4 : decode cX10_of 4 = .ok (.ifCond .ne 5, 3) := by decide +kernel
theorem dX10_of_7 : decode cX10_of 7 = .ok (.iconst (-1), 1) := by decide +kernel
theorem dX10_of_8 : decode cX10_of 8 = .ok (.ireturn, 1) := by decide +kernel
theorem dX10_of_9 : decode cX10_of 9 = .ok (.iload_n 2, 1) := by decide +kernel
theorem dX10_of_10 : decode cX10_of 10 = .ok (.ifCond .ne 11, 3) := by decide +kernel
theorem dX10_of_13 : decode cX10_of 13 = .ok (.aload_n 0, 1) := by decide +kernel
theorem dX10_of_14 : decode cX10_of 14 = .ok (.iload_n 1, 1) := by decide +kernel
theorem dX10_of_15 : decode cX10_of 15 = .ok (.invokevirtual 127, 3) := by decide +kernel
theorem dX10_of_18 : decode cX10_of 18 = .ok (.goto 45, 3) := by decide +kernel
theorem dX10_of_21 : decode cX10_of 21 = .ok (.iload_n 2, 1) := by decide +kernel
theorem dX10_of_22 : decode cX10_of 22 = .ok (.iconst 1, 1) := by decide +kernel
theorem dX10_of_23 : decode cX10_of 23 = .ok (.if_icmp .ne 12, 3) := by decide +kernel
theorem dX10_of_26 : decode cX10_of 26 = .ok (.aload_n 0, 1) := by decide +kernel
theorem dX10_of_27 : decode cX10_of 27 = .ok (.getfield 22, 3) := by decide +kernel
theorem dX10_of_30 : decode cX10_of 30 = .ok (.iload_n 1, 1) := by decide +kernel
theorem dX10_of_31 : decode cX10_of 31 = .ok (.iaload, 1) := by decide +kernel
theorem dX10_of_32 : decode cX10_of 32 = .ok (.goto 31, 3) := by decide +kernel
theorem dX10_of_35 : decode cX10_of 35 = .ok (.iload_n 2, 1) := by decide +kernel
theorem dX10_of_36 : decode cX10_of 36 = .ok (.iconst 2, 1) := by decide +kernel
theorem dX10_of_37 : decode cX10_of 37 = .ok (.if_icmp .ne 12, 3) := by decide +kernel
theorem dX10_of_40 : decode cX10_of 40 = .ok (.aload_n 0, 1) := by decide +kernel
theorem dX10_of_41 : decode cX10_of 41 = .ok (.getfield 28, 3) := by decide +kernel
theorem dX10_of_44 : decode cX10_of 44 = .ok (.iload_n 1, 1) := by decide +kernel
theorem dX10_of_45 : decode cX10_of 45 = .ok (.iaload, 1) := by decide +kernel
theorem dX10_of_46 : decode cX10_of 46 = .ok (.goto 17, 3) := by decide +kernel
theorem dX10_of_49 : decode cX10_of 49 = .ok (.iload_n 2, 1) := by decide +kernel
theorem dX10_of_50 : decode cX10_of 50 = .ok (.iconst 3, 1) := by decide +kernel
theorem dX10_of_51 : decode cX10_of 51 = .ok (.if_icmp .ne 11, 3) := by decide +kernel
theorem dX10_of_54 : decode cX10_of 54 = .ok (.aload_n 0, 1) := by decide +kernel
theorem dX10_of_55 : decode cX10_of 55 = .ok (.iload_n 1, 1) := by decide +kernel
theorem dX10_of_56 : decode cX10_of 56 = .ok (.invokevirtual 93, 3) := by decide +kernel
theorem dX10_of_59 : decode cX10_of 59 = .ok (.goto 4, 3) := by decide +kernel
theorem dX10_of_62 : decode cX10_of 62 = .ok (.iconst (-1), 1) := by decide +kernel
theorem dX10_of_63 : decode cX10_of 63 = .ok (.ireturn, 1) := by decide +kernel
theorem dX10_sense_0 : decode cX10_sense 0 = .ok (.iload_n 1, 1) := by decide +kernel
theorem dX10_sense_1 : decode cX10_sense 1 = .ok (.invokestatic 124, 3) := by decide +kernel
theorem dX10_sense_4 : decode cX10_sense 4 = .ok (.ifCond .eq 15, 3) := by decide +kernel
theorem dX10_sense_7 : decode cX10_sense 7 = .ok (.iload_n 2, 1) := by decide +kernel
theorem dX10_sense_8 : decode cX10_sense 8 = .ok (.i2l, 1) := by decide +kernel
theorem dX10_sense_9 : decode cX10_sense 9 = .ok (.lconst 0, 1) := by decide +kernel
theorem dX10_sense_10 : decode cX10_sense 10 = .ok (.ldc2_w 106, 3) := by decide +kernel
theorem dX10_sense_13 : decode cX10_sense 13 = .ok (.invokestatic 87, 3) := by decide +kernel
theorem dX10_sense_16 : decode cX10_sense 16 = .ok (.ifCond .ne 5, 3) := by decide +kernel
theorem dX10_sense_19 : decode cX10_sense 19 = .ok (.iconst (-1), 1) := by decide +kernel
theorem dX10_sense_20 : decode cX10_sense 20 = .ok (.ireturn, 1) := by decide +kernel
theorem dX10_sense_21 : decode cX10_sense 21 = .ok (.aload_n 0, 1) := by decide +kernel
theorem dX10_sense_22 : decode cX10_sense 22 = .ok (.getfield 28, 3) := by decide +kernel
theorem dX10_sense_25 : decode cX10_sense 25 = .ok (.iload_n 1, 1) := by decide +kernel
theorem dX10_sense_26 : decode cX10_sense 26 = .ok (.iaload, 1) := by decide +kernel
theorem dX10_sense_27 : decode cX10_sense 27 = .ok (.istore_n 3, 1) := by decide +kernel
theorem dX10_sense_28 : decode cX10_sense 28 = .ok (.aload_n 0, 1) := by decide +kernel
theorem dX10_sense_29 : decode cX10_sense 29 = .ok (.getfield 28, 3) := by decide +kernel
theorem dX10_sense_32 : decode cX10_sense 32 = .ok (.iload_n 1, 1) := by decide +kernel
theorem dX10_sense_33 : decode cX10_sense 33 = .ok (.iload_n 2, 1) := by decide +kernel
theorem dX10_sense_34 : decode cX10_sense 34 = .ok (.iastore, 1) := by decide +kernel
theorem dX10_sense_35 : decode cX10_sense 35 = .ok (.iload_n 3, 1) := by decide +kernel
theorem dX10_sense_36 : decode cX10_sense 36 = .ok (.ireturn, 1) := by decide +kernel
theorem dX10_countIn_0 : decode cX10_countIn 0 = .ok (.iconst 0, 1) := by decide +kernel
theorem dX10_countIn_1 : decode cX10_countIn 1 = .ok (.istore_n 2, 1) := by decide +kernel
theorem dX10_countIn_2 : decode cX10_countIn 2 = .ok (.iconst 0, 1) := by decide +kernel
theorem dX10_countIn_3 : decode cX10_countIn 3 = .ok (.istore_n 3, 1) := by decide +kernel
theorem dX10_countIn_4 : decode cX10_countIn 4 = .ok (.iload_n 3, 1) := by decide +kernel
theorem dX10_countIn_5 : decode cX10_countIn 5 = .ok (.aload_n 0, 1) := by decide +kernel
theorem dX10_countIn_6 : decode cX10_countIn 6 = .ok (.getfield 83, 3) := by decide +kernel
theorem dX10_countIn_9 : decode cX10_countIn 9 = .ok (.if_icmp .ge 27, 3) := by decide +kernel
theorem dX10_countIn_12 : decode cX10_countIn 12 = .ok (.iload_n 2, 1) := by decide +kernel
theorem dX10_countIn_13 : decode cX10_countIn 13 = .ok (.aload_n 0, 1) := by decide +kernel
theorem dX10_countIn_14 : decode cX10_countIn 14 = .ok (.getfield 19, 3) := by decide +kernel
theorem dX10_countIn_17 : decode cX10_countIn 17 = .ok (.iload_n 3, 1) := by decide +kernel
theorem dX10_countIn_18 : decode cX10_countIn 18 = .ok (.iaload, 1) := by decide +kernel
theorem dX10_countIn_19 : decode cX10_countIn 19 = .ok (.iload_n 1, 1) := by decide +kernel
theorem dX10_countIn_20 : decode cX10_countIn 20 = .ok (.if_icmp .ne 7, 3) := by decide +kernel
theorem dX10_countIn_23 : decode cX10_countIn 23 = .ok (.iconst 1, 1) := by decide +kernel
theorem dX10_countIn_24 : decode cX10_countIn 24 = .ok (.goto 4, 3) := by decide +kernel
theorem dX10_countIn_27 : decode cX10_countIn 27 = .ok (.iconst 0, 1) := by decide +kernel
theorem dX10_countIn_28 : decode cX10_countIn 28 = .ok (.iadd, 1) := by decide +kernel
theorem dX10_countIn_29 : decode cX10_countIn 29 = .ok (.istore_n 2, 1) := by decide +kernel
theorem dX10_countIn_30 : decode cX10_countIn 30 = .ok (.iinc 3 1, 3) := by decide +kernel
theorem dX10_countIn_33 : decode cX10_countIn 33 = .ok (.goto (-29), 3) := by decide +kernel
theorem dX10_countIn_36 : decode cX10_countIn 36 = .ok (.iload_n 2, 1) := by decide +kernel
theorem dX10_countIn_37 : decode cX10_countIn 37 = .ok (.ireturn, 1) := by decide +kernel
theorem dX10_bagWeighs_0 : decode cX10_bagWeighs 0 = .ok (.iconst 0, 1) := by decide +kernel
theorem dX10_bagWeighs_1 : decode cX10_bagWeighs 1 = .ok (.istore_n 1, 1) := by decide +kernel
theorem dX10_bagWeighs_2 : decode cX10_bagWeighs 2 = .ok (.iconst 0, 1) := by decide +kernel
theorem dX10_bagWeighs_3 : decode cX10_bagWeighs 3 = .ok (.istore_n 2, 1) := by decide +kernel
theorem dX10_bagWeighs_4 : decode cX10_bagWeighs 4 = .ok (.iload_n 2, 1) := by decide +kernel
theorem dX10_bagWeighs_5 : decode cX10_bagWeighs 5 = .ok (.aload_n 0, 1) := by decide +kernel
theorem dX10_bagWeighs_6 : decode cX10_bagWeighs 6 = .ok (.getfield 83, 3) := by decide +kernel
theorem dX10_bagWeighs_9 : decode cX10_bagWeighs 9 = .ok (.if_icmp .ge 32, 3) := by decide +kernel
theorem dX10_bagWeighs_12 : decode cX10_bagWeighs 12 = .ok (.iload_n 1, 1) := by decide +kernel
theorem dX10_bagWeighs_13 : decode cX10_bagWeighs 13 = .ok (.aload_n 0, 1) := by decide +kernel
theorem dX10_bagWeighs_14 : decode cX10_bagWeighs 14 = .ok (.getfield 19, 3) := by decide +kernel
theorem dX10_bagWeighs_17 : decode cX10_bagWeighs 17 = .ok (.iload_n 2, 1) := by decide +kernel
theorem dX10_bagWeighs_18 : decode cX10_bagWeighs 18 = .ok (.iaload, 1) := by decide +kernel
theorem dX10_bagWeighs_19 : decode cX10_bagWeighs 19 = .ok (.bipush 6, 2) := by decide +kernel
theorem dX10_bagWeighs_21 : decode cX10_bagWeighs 21 = .ok (.if_icmp .ne 11, 3) := by decide +kernel
theorem dX10_bagWeighs_24 : decode cX10_bagWeighs 24 = .ok (.aload_n 0, 1) := by decide +kernel
theorem dX10_bagWeighs_25 : decode cX10_bagWeighs 25 = .ok (.iload_n 2, 1) := by decide +kernel
theorem dX10_bagWeighs_26 : decode cX10_bagWeighs 26 = .ok (.invokevirtual 97, 3) := by decide +kernel
theorem dX10_bagWeighs_29 : decode cX10_bagWeighs 29 = .ok (.goto 4, 3) := by decide +kernel
theorem dX10_bagWeighs_32 : decode cX10_bagWeighs 32 = .ok (.iconst 0, 1) := by decide +kernel
theorem dX10_bagWeighs_33 : decode cX10_bagWeighs 33 = .ok (.iadd, 1) := by decide +kernel
theorem dX10_bagWeighs_34 : decode cX10_bagWeighs 34 = .ok (.istore_n 1, 1) := by decide +kernel
theorem dX10_bagWeighs_35 : decode cX10_bagWeighs 35 = .ok (.iinc 2 1, 3) := by decide +kernel
theorem dX10_bagWeighs_38 : decode cX10_bagWeighs 38 = .ok (.goto (-34), 3) := by decide +kernel
theorem dX10_bagWeighs_41 : decode cX10_bagWeighs 41 = .ok (.iload_n 1, 1) := by decide +kernel
theorem dX10_bagWeighs_42 : decode cX10_bagWeighs 42 = .ok (.ireturn, 1) := by decide +kernel
theorem dX10_placesWeigh_0 : decode cX10_placesWeigh 0 = .ok (.iconst 0, 1) := by decide +kernel
theorem dX10_placesWeigh_1 : decode cX10_placesWeigh 1 = .ok (.istore_n 1, 1) := by decide +kernel
theorem dX10_placesWeigh_2 : decode cX10_placesWeigh 2 = .ok (.iconst 0, 1) := by decide +kernel
theorem dX10_placesWeigh_3 : decode cX10_placesWeigh 3 = .ok (.istore_n 2, 1) := by decide +kernel
theorem dX10_placesWeigh_4 : decode cX10_placesWeigh 4 = .ok (.iload_n 2, 1) := by decide +kernel
theorem dX10_placesWeigh_5 : decode cX10_placesWeigh 5 = .ok (.bipush 6, 2) := by decide +kernel
theorem dX10_placesWeigh_7 : decode cX10_placesWeigh 7 = .ok (.if_icmp .ge 17, 3) := by decide +kernel
theorem dX10_placesWeigh_10 : decode cX10_placesWeigh 10 = .ok (.iload_n 1, 1) := by decide +kernel
theorem dX10_placesWeigh_11 : decode cX10_placesWeigh 11 = .ok (.aload_n 0, 1) := by decide +kernel
theorem dX10_placesWeigh_12 : decode cX10_placesWeigh 12 = .ok (.iload_n 2, 1) := by decide +kernel
theorem dX10_placesWeigh_13 : decode cX10_placesWeigh 13 = .ok (.invokevirtual 127, 3) := by decide +kernel
theorem dX10_placesWeigh_16 : decode cX10_placesWeigh 16 = .ok (.iadd, 1) := by decide +kernel
theorem dX10_placesWeigh_17 : decode cX10_placesWeigh 17 = .ok (.istore_n 1, 1) := by decide +kernel
theorem dX10_placesWeigh_18 : decode cX10_placesWeigh 18 = .ok (.iinc 2 1, 3) := by decide +kernel
theorem dX10_placesWeigh_21 : decode cX10_placesWeigh 21 = .ok (.goto (-17), 3) := by decide +kernel
theorem dX10_placesWeigh_24 : decode cX10_placesWeigh 24 = .ok (.iload_n 1, 1) := by decide +kernel
theorem dX10_placesWeigh_25 : decode cX10_placesWeigh 25 = .ok (.ireturn, 1) := by decide +kernel
theorem dX10_count_0 : decode cX10_count 0 = .ok (.iload_n 1, 1) := by decide +kernel
theorem dX10_count_1 : decode cX10_count 1 = .ok (.tableswitch 73 0 5 #[39, 44, 51, 58, 63, 68], 39) := by decide +kernel
theorem dX10_count_40 : decode cX10_count 40 = .ok (.aload_n 0, 1) := by decide +kernel
theorem dX10_count_41 : decode cX10_count 41 = .ok (.getfield 83, 3) := by decide +kernel
theorem dX10_count_44 : decode cX10_count 44 = .ok (.ireturn, 1) := by decide +kernel
theorem dX10_count_45 : decode cX10_count 45 = .ok (.aload_n 0, 1) := by decide +kernel
theorem dX10_count_46 : decode cX10_count 46 = .ok (.bipush 6, 2) := by decide +kernel
theorem dX10_count_48 : decode cX10_count 48 = .ok (.invokevirtual 130, 3) := by decide +kernel
theorem dX10_count_51 : decode cX10_count 51 = .ok (.ireturn, 1) := by decide +kernel
theorem dX10_count_52 : decode cX10_count 52 = .ok (.aload_n 0, 1) := by decide +kernel
theorem dX10_count_53 : decode cX10_count 53 = .ok (.bipush 7, 2) := by decide +kernel
theorem dX10_count_55 : decode cX10_count 55 = .ok (.invokevirtual 130, 3) := by decide +kernel
theorem dX10_count_58 : decode cX10_count 58 = .ok (.ireturn, 1) := by decide +kernel
theorem dX10_count_59 : decode cX10_count 59 = .ok (.aload_n 0, 1) := by decide +kernel
theorem dX10_count_60 : decode cX10_count 60 = .ok (.getfield 133, 3) := by decide +kernel
theorem dX10_count_63 : decode cX10_count 63 = .ok (.ireturn, 1) := by decide +kernel
theorem dX10_count_64 : decode cX10_count 64 = .ok (.aload_n 0, 1) := by decide +kernel
theorem dX10_count_65 : decode cX10_count 65 = .ok (.invokevirtual 136, 3) := by decide +kernel
theorem dX10_count_68 : decode cX10_count 68 = .ok (.ireturn, 1) := by decide +kernel
theorem dX10_count_69 : decode cX10_count 69 = .ok (.aload_n 0, 1) := by decide +kernel
theorem dX10_count_70 : decode cX10_count 70 = .ok (.invokevirtual 140, 3) := by decide +kernel
theorem dX10_count_73 : decode cX10_count 73 = .ok (.ireturn, 1) := by decide +kernel
theorem dX10_count_74 : decode cX10_count 74 = .ok (.iconst (-1), 1) := by decide +kernel
theorem dX10_count_75 : decode cX10_count 75 = .ok (.ireturn, 1) := by decide +kernel
theorem dX10_type_0 : decode cX10_type 0 = .ok (.iload_n 3, 1) := by decide +kernel
theorem dX10_type_1 : decode cX10_type 1 = .ok (.i2l, 1) := by decide +kernel
theorem dX10_type_2 : decode cX10_type 2 = .ok (.lconst 1, 1) := by decide +kernel
theorem dX10_type_3 : decode cX10_type 3 = .ok (.ldc2_w 143, 3) := by decide +kernel
theorem dX10_type_6 : decode cX10_type 6 = .ok (.invokestatic 87, 3) := by decide +kernel
theorem dX10_type_9 : decode cX10_type 9 = .ok (.ifCond .ne 5, 3) := by decide +kernel
theorem dX10_type_12 : decode cX10_type 12 = .ok (.iconst (-1), 1) := by decide +kernel
theorem dX10_type_13 : decode cX10_type 13 = .ok (.ireturn, 1) := by decide +kernel
theorem dX10_type_14 : decode cX10_type 14 = .ok (.iconst 0, 1) := by decide +kernel
theorem dX10_type_15 : decode cX10_type 15 = .ok (.istore 4, 2) := by decide +kernel
theorem dX10_type_17 : decode cX10_type 17 = .ok (.iload 4, 2) := by decide +kernel
theorem dX10_type_19 : decode cX10_type 19 = .ok (.iload_n 3, 1) := by decide +kernel
theorem dX10_type_20 : decode cX10_type 20 = .ok (.if_icmp .ge 34, 3) := by decide +kernel
theorem dX10_type_23 : decode cX10_type 23 = .ok (.lload_n 1, 1) := by decide +kernel
theorem dX10_type_24 : decode cX10_type 24 = .ok (.bipush 8, 2) := by decide +kernel
theorem dX10_type_26 : decode cX10_type 26 = .ok (.iload 4, 2) := by decide +kernel
theorem dX10_type_28 : decode cX10_type 28 = .ok (.imul, 1) := by decide +kernel
theorem dX10_type_29 : decode cX10_type 29 = .ok (.lshr, 1) := by decide +kernel
theorem dX10_type_30 : decode cX10_type 30 = .ok (.ldc2_w 145, 3) := by decide +kernel
theorem dX10_type_33 : decode cX10_type 33 = .ok (.land, 1) := by decide +kernel
theorem dX10_type_34 : decode cX10_type 34 = .ok (.ldc2_w 147, 3) := by decide +kernel
theorem dX10_type_37 : decode cX10_type 37 = .ok (.ldc2_w 149, 3) := by decide +kernel
theorem dX10_type_40 : decode cX10_type 40 = .ok (.invokestatic 87, 3) := by decide +kernel
theorem dX10_type_43 : decode cX10_type 43 = .ok (.ifCond .ne 5, 3) := by decide +kernel
theorem dX10_type_46 : decode cX10_type 46 = .ok (.iconst (-1), 1) := by decide +kernel
theorem dX10_type_47 : decode cX10_type 47 = .ok (.ireturn, 1) := by decide +kernel
theorem dX10_type_48 : decode cX10_type 48 = .ok (.iinc 4 1, 3) := by decide +kernel
theorem dX10_type_51 : decode cX10_type 51 = .ok (.goto (-34), 3) := by decide +kernel
theorem dX10_type_54 : decode cX10_type 54 = .ok (.aload_n 0, 1) := by decide +kernel
theorem dX10_type_55 : decode cX10_type 55 = .ok (.getfield 151, 3) := by decide +kernel
theorem dX10_type_58 : decode cX10_type 58 = .ok (.iload_n 3, 1) := by decide +kernel
theorem dX10_type_59 : decode cX10_type 59 = .ok (.iadd, 1) := by decide +kernel
theorem dX10_type_60 : decode cX10_type 60 = .ok (.bipush 120, 2) := by decide +kernel
theorem dX10_type_62 : decode cX10_type 62 = .ok (.if_icmp .le 6, 3) := by decide +kernel
theorem dX10_type_65 : decode cX10_type 65 = .ok (.bipush (-3), 2) := by decide +kernel
theorem dX10_type_67 : decode cX10_type 67 = .ok (.ireturn, 1) := by decide +kernel
theorem dX10_type_68 : decode cX10_type 68 = .ok (.iload_n 3, 1) := by decide +kernel
theorem dX10_type_69 : decode cX10_type 69 = .ok (.iconst 1, 1) := by decide +kernel
theorem dX10_type_70 : decode cX10_type 70 = .ok (.isub, 1) := by decide +kernel
theorem dX10_type_71 : decode cX10_type 71 = .ok (.istore 4, 2) := by decide +kernel
theorem dX10_type_73 : decode cX10_type 73 = .ok (.iload 4, 2) := by decide +kernel
theorem dX10_type_75 : decode cX10_type 75 = .ok (.ifCond .lt 40, 3) := by decide +kernel
theorem dX10_type_78 : decode cX10_type 78 = .ok (.aload_n 0, 1) := by decide +kernel
theorem dX10_type_79 : decode cX10_type 79 = .ok (.getfield 31, 3) := by decide +kernel
theorem dX10_type_82 : decode cX10_type 82 = .ok (.aload_n 0, 1) := by decide +kernel
theorem dX10_type_83 : decode cX10_type 83 = .ok (.getfield 151, 3) := by decide +kernel
theorem dX10_type_86 : decode cX10_type 86 = .ok (.lload_n 1, 1) := by decide +kernel
theorem dX10_type_87 : decode cX10_type 87 = .ok (.bipush 8, 2) := by decide +kernel
theorem dX10_type_89 : decode cX10_type 89 = .ok (.iload 4, 2) := by decide +kernel
theorem dX10_type_91 : decode cX10_type 91 = .ok (.imul, 1) := by decide +kernel
theorem dX10_type_92 : decode cX10_type 92 = .ok (.lshr, 1) := by decide +kernel
theorem dX10_type_93 : decode cX10_type 93 = .ok (.ldc2_w 145, 3) := by decide +kernel
theorem dX10_type_96 : decode cX10_type 96 = .ok (.land, 1) := by decide +kernel
theorem dX10_type_97 : decode cX10_type 97 = .ok (.l2i, 1) := by decide +kernel
theorem dX10_type_98 : decode cX10_type 98 = .ok (.iastore, 1) := by decide +kernel
theorem dX10_type_99 : decode cX10_type 99 = .ok (.aload_n 0, 1) := by decide +kernel
theorem dX10_type_100 : decode cX10_type 100 = .ok (.dup, 1) := by decide +kernel
theorem dX10_type_101 : decode cX10_type 101 = .ok (.getfield 151, 3) := by decide +kernel
theorem dX10_type_104 : decode cX10_type 104 = .ok (.iconst 1, 1) := by decide +kernel
theorem dX10_type_105 : decode cX10_type 105 = .ok (.iadd, 1) := by decide +kernel
theorem dX10_type_106 : decode cX10_type 106 = .ok (.putfield 151, 3) := by decide +kernel
theorem dX10_type_109 : decode cX10_type 109 = .ok (.iinc 4 (-1), 3) := by decide +kernel
theorem dX10_type_112 : decode cX10_type 112 = .ok (.goto (-39), 3) := by decide +kernel
theorem dX10_type_115 : decode cX10_type 115 = .ok (.aload_n 0, 1) := by decide +kernel
theorem dX10_type_116 : decode cX10_type 116 = .ok (.getfield 151, 3) := by decide +kernel
theorem dX10_type_119 : decode cX10_type 119 = .ok (.ireturn, 1) := by decide +kernel
theorem dX10_here_0 : decode cX10_here 0 = .ok (.aload_n 0, 1) := by decide +kernel
theorem dX10_here_1 : decode cX10_here 1 = .ok (.getfield 154, 3) := by decide +kernel
theorem dX10_here_4 : decode cX10_here 4 = .ok (.aload_n 0, 1) := by decide +kernel
theorem dX10_here_5 : decode cX10_here 5 = .ok (.getfield 151, 3) := by decide +kernel
theorem dX10_here_8 : decode cX10_here 8 = .ok (.if_icmp .ge 30, 3) := by decide +kernel
theorem dX10_here_11 : decode cX10_here 11 = .ok (.aload_n 0, 1) := by decide +kernel
theorem dX10_here_12 : decode cX10_here 12 = .ok (.getfield 31, 3) := by decide +kernel
theorem dX10_here_15 : decode cX10_here 15 = .ok (.aload_n 0, 1) := by decide +kernel
theorem dX10_here_16 : decode cX10_here 16 = .ok (.getfield 154, 3) := by decide +kernel
theorem dX10_here_19 : decode cX10_here 19 = .ok (.iaload, 1) := by decide +kernel
theorem dX10_here_20 : decode cX10_here 20 = .ok (.bipush 32, 2) := by decide +kernel
theorem dX10_here_22 : decode cX10_here 22 = .ok (.if_icmp .ne 16, 3) := by decide +kernel
theorem dX10_here_25 : decode cX10_here 25 = .ok (.aload_n 0, 1) := by decide +kernel
theorem dX10_here_26 : decode cX10_here 26 = .ok (.dup, 1) := by decide +kernel
theorem dX10_here_27 : decode cX10_here 27 = .ok (.getfield 154, 3) := by decide +kernel
theorem dX10_here_30 : decode cX10_here 30 = .ok (.iconst 1, 1) := by decide +kernel
theorem dX10_here_31 : decode cX10_here 31 = .ok (.iadd, 1) := by decide +kernel
theorem dX10_here_32 : decode cX10_here 32 = .ok (.putfield 154, 3) := by decide +kernel
theorem dX10_here_35 : decode cX10_here 35 = .ok (.goto (-35), 3) := by decide +kernel
theorem dX10_here_38 : decode cX10_here 38 = .ok (.aload_n 0, 1) := by decide +kernel
theorem dX10_here_39 : decode cX10_here 39 = .ok (.getfield 154, 3) := by decide +kernel
theorem dX10_here_42 : decode cX10_here 42 = .ok (.aload_n 0, 1) := by decide +kernel
theorem dX10_here_43 : decode cX10_here 43 = .ok (.getfield 151, 3) := by decide +kernel
theorem dX10_here_46 : decode cX10_here 46 = .ok (.if_icmp .ge 15, 3) := by decide +kernel
theorem dX10_here_49 : decode cX10_here 49 = .ok (.aload_n 0, 1) := by decide +kernel
theorem dX10_here_50 : decode cX10_here 50 = .ok (.getfield 31, 3) := by decide +kernel
theorem dX10_here_53 : decode cX10_here 53 = .ok (.aload_n 0, 1) := by decide +kernel
theorem dX10_here_54 : decode cX10_here 54 = .ok (.getfield 154, 3) := by decide +kernel
theorem dX10_here_57 : decode cX10_here 57 = .ok (.iaload, 1) := by decide +kernel
theorem dX10_here_58 : decode cX10_here 58 = .ok (.goto 4, 3) := by decide +kernel
theorem dX10_here_61 : decode cX10_here 61 = .ok (.iconst (-1), 1) := by decide +kernel
theorem dX10_here_62 : decode cX10_here 62 = .ok (.ireturn, 1) := by decide +kernel
theorem dX10_fails_0 : decode cX10_fails 0 = .ok (.aload_n 0, 1) := by decide +kernel
theorem dX10_fails_1 : decode cX10_fails 1 = .ok (.aload_n 0, 1) := by decide +kernel
theorem dX10_fails_2 : decode cX10_fails 2 = .ok (.getfield 157, 3) := by decide +kernel
theorem dX10_fails_5 : decode cX10_fails 5 = .ok (.ifCond .ne 10, 3) := by decide +kernel
theorem dX10_fails_8 : decode cX10_fails 8 = .ok (.bipush (-20), 2) := by decide +kernel
theorem dX10_fails_10 : decode cX10_fails 10 = .ok (.iload_n 1, 1) := by decide +kernel
theorem dX10_fails_11 : decode cX10_fails 11 = .ok (.isub, 1) := by decide +kernel
theorem dX10_fails_12 : decode cX10_fails 12 = .ok (.goto 7, 3) := by decide +kernel
theorem dX10_fails_15 : decode cX10_fails 15 = .ok (.aload_n 0, 1) := by decide +kernel
theorem dX10_fails_16 : decode cX10_fails 16 = .ok (.getfield 157, 3) := by decide +kernel
theorem dX10_fails_19 : decode cX10_fails 19 = .ok (.putfield 157, 3) := by decide +kernel
theorem dX10_fails_22 : decode cX10_fails 22 = .ok (.return_, 1) := by decide +kernel
theorem dX10_take_0 : decode cX10_take 0 = .ok (.aload_n 0, 1) := by decide +kernel
theorem dX10_take_1 : decode cX10_take 1 = .ok (.invokevirtual 160, 3) := by decide +kernel
theorem dX10_take_4 : decode cX10_take 4 = .ok (.istore_n 3, 1) := by decide +kernel
theorem dX10_take_5 : decode cX10_take 5 = .ok (.aload_n 0, 1) := by decide +kernel
theorem dX10_take_6 : decode cX10_take 6 = .ok (.getfield 157, 3) := by decide +kernel
theorem dX10_take_9 : decode cX10_take 9 = .ok (.ifCond .ne 15, 3) := by decide +kernel
theorem dX10_take_12 : decode cX10_take 12 = .ok (.iload_n 3, 1) := by decide +kernel
theorem dX10_take_13 : decode cX10_take 13 = .ok (.i2l, 1) := by decide +kernel
theorem dX10_take_14 : decode cX10_take 14 = .ok (.iload_n 1, 1) := by decide +kernel
theorem dX10_take_15 : decode cX10_take 15 = .ok (.i2l, 1) := by decide +kernel
theorem dX10_take_16 : decode cX10_take 16 = .ok (.iload_n 2, 1) := by decide +kernel
theorem dX10_take_17 : decode cX10_take 17 = .ok (.i2l, 1) := by decide +kernel
theorem dX10_take_18 : decode cX10_take 18 = .ok (.invokestatic 87, 3) := by decide +kernel
theorem dX10_take_21 : decode cX10_take 21 = .ok (.ifCond .ne 13, 3) := by decide +kernel
theorem dX10_take_24 : decode cX10_take 24 = .ok (.aload_n 0, 1) := by decide +kernel
theorem dX10_take_25 : decode cX10_take 25 = .ok (.aload_n 0, 1) := by decide +kernel
theorem dX10_take_26 : decode cX10_take 26 = .ok (.getfield 154, 3) := by decide +kernel
theorem dX10_take_29 : decode cX10_take 29 = .ok (.invokevirtual 163, 3) := by decide +kernel
theorem dX10_take_32 : decode cX10_take 32 = .ok (.iconst 0, 1) := by decide +kernel
theorem dX10_take_33 : decode cX10_take 33 = .ok (.ireturn, 1) := by decide +kernel
theorem dX10_take_34 : decode cX10_take 34 = .ok (.aload_n 0, 1) := by decide +kernel
theorem dX10_take_35 : decode cX10_take 35 = .ok (.dup, 1) := by decide +kernel
theorem dX10_take_36 : decode cX10_take 36 = .ok (.getfield 154, 3) := by decide +kernel
theorem dX10_take_39 : decode cX10_take 39 = .ok (.iconst 1, 1) := by decide +kernel
theorem dX10_take_40 : decode cX10_take 40 = .ok (.iadd, 1) := by decide +kernel
theorem dX10_take_41 : decode cX10_take 41 = .ok (.putfield 154, 3) := by decide +kernel
theorem dX10_take_44 : decode cX10_take 44 = .ok (.iload_n 3, 1) := by decide +kernel
theorem dX10_take_45 : decode cX10_take 45 = .ok (.iload_n 1, 1) := by decide +kernel
theorem dX10_take_46 : decode cX10_take 46 = .ok (.isub, 1) := by decide +kernel
theorem dX10_take_47 : decode cX10_take 47 = .ok (.ireturn, 1) := by decide +kernel
theorem dX10_takeNumber_0 : decode cX10_takeNumber 0 = .ok (.aload_n 0, 1) := by decide +kernel
theorem dX10_takeNumber_1 : decode cX10_takeNumber 1 = .ok (.invokevirtual 160, 3) := by decide +kernel
theorem dX10_takeNumber_4 : decode cX10_takeNumber 4 = .ok (.istore_n 1, 1) := by decide +kernel
theorem dX10_takeNumber_5 : decode cX10_takeNumber 5 = .ok (.aload_n 0, 1) := by decide +kernel
theorem dX10_takeNumber_6 : decode cX10_takeNumber 6 = .ok (.getfield 154, 3) := by decide +kernel
theorem dX10_takeNumber_9 : decode cX10_takeNumber 9 = .ok (.istore_n 2, 1) := by decide +kernel
theorem dX10_takeNumber_10 : decode cX10_takeNumber 10 = .ok (.iconst 0, 1) := by decide +kernel
theorem dX10_takeNumber_11 : decode cX10_takeNumber 11 = .ok (.istore_n 3, 1) := by decide +kernel
theorem dX10_takeNumber_12 : decode cX10_takeNumber 12 = .ok (.aload_n 0, 1) := by decide +kernel
theorem dX10_takeNumber_13 : decode cX10_takeNumber 13 = .ok (.getfield 157, 3) := by decide +kernel
theorem dX10_takeNumber_16 : decode cX10_takeNumber 16 = .ok (.ifCond .ne 17, 3) := by decide +kernel
theorem dX10_takeNumber_19 : decode cX10_takeNumber 19 = .ok (.iload_n 1, 1) := by decide +kernel
theorem dX10_takeNumber_20 : decode cX10_takeNumber 20 = .ok (.i2l, 1) := by decide +kernel
theorem dX10_takeNumber_21 : decode cX10_takeNumber 21 = .ok (.ldc2_w 167, 3) := by decide +kernel
theorem dX10_takeNumber_24 : decode cX10_takeNumber 24 = .ok (.ldc2_w 169, 3) := by decide +kernel
theorem dX10_takeNumber_27 : decode cX10_takeNumber 27 = .ok (.invokestatic 87, 3) := by decide +kernel
theorem dX10_takeNumber_30 : decode cX10_takeNumber 30 = .ok (.ifCond .ne 13, 3) := by decide +kernel
theorem dX10_takeNumber_33 : decode cX10_takeNumber 33 = .ok (.aload_n 0, 1) := by decide +kernel
theorem dX10_takeNumber_34 : decode cX10_takeNumber 34 = .ok (.aload_n 0, 1) := by decide +kernel
theorem dX10_takeNumber_35 : decode cX10_takeNumber 35 = .ok (.getfield 154, 3) := by decide +kernel
theorem dX10_takeNumber_38 : decode cX10_takeNumber 38 = .ok (.invokevirtual 163, 3) := by decide +kernel
theorem dX10_takeNumber_41 : decode cX10_takeNumber 41 = .ok (.iconst 0, 1) := by decide +kernel
theorem dX10_takeNumber_42 : decode cX10_takeNumber 42 = .ok (.ireturn, 1) := by decide +kernel
theorem dX10_takeNumber_43 : decode cX10_takeNumber 43 = .ok (.aload_n 0, 1) := by decide +kernel
theorem dX10_takeNumber_44 : decode cX10_takeNumber 44 = .ok (.getfield 154, 3) := by decide +kernel
theorem dX10_takeNumber_47 : decode cX10_takeNumber 47 = .ok (.aload_n 0, 1) := by decide +kernel
theorem dX10_takeNumber_48 : decode cX10_takeNumber 48 = .ok (.getfield 151, 3) := by decide +kernel
theorem dX10_takeNumber_51 : decode cX10_takeNumber 51 = .ok (.if_icmp .ge 67, 3) := by decide +kernel
theorem dX10_takeNumber_54 : decode cX10_takeNumber 54 = .ok (.aload_n 0, 1) := by decide +kernel
theorem dX10_takeNumber_55 : decode cX10_takeNumber 55 = .ok (.getfield 31, 3) := by decide +kernel
theorem dX10_takeNumber_58 : decode cX10_takeNumber 58 = .ok (.aload_n 0, 1) := by decide +kernel
theorem dX10_takeNumber_59 : decode cX10_takeNumber 59 = .ok (.getfield 154, 3) := by decide +kernel
theorem dX10_takeNumber_62 : decode cX10_takeNumber 62 = .ok (.iaload, 1) := by decide +kernel
theorem dX10_takeNumber_63 : decode cX10_takeNumber 63 = .ok (.i2l, 1) := by decide +kernel
theorem dX10_takeNumber_64 : decode cX10_takeNumber 64 = .ok (.ldc2_w 167, 3) := by decide +kernel
theorem dX10_takeNumber_67 : decode cX10_takeNumber 67 = .ok (.ldc2_w 169, 3) := by decide +kernel
theorem dX10_takeNumber_70 : decode cX10_takeNumber 70 = .ok (.invokestatic 87, 3) := by decide +kernel
theorem dX10_takeNumber_73 : decode cX10_takeNumber 73 = .ok (.ifCond .eq 45, 3) := by decide +kernel
theorem dX10_takeNumber_76 : decode cX10_takeNumber 76 = .ok (.iload_n 3, 1) := by decide +kernel
theorem dX10_takeNumber_77 : decode cX10_takeNumber 77 = .ok (.sipush 1000, 3) := by decide +kernel
theorem dX10_takeNumber_80 : decode cX10_takeNumber 80 = .ok (.if_icmp .le 7, 3) := by decide +kernel
theorem dX10_takeNumber_83 : decode cX10_takeNumber 83 = .ok (.iload_n 3, 1) := by decide +kernel
theorem dX10_takeNumber_84 : decode cX10_takeNumber 84 = .ok (.goto 20, 3) := by decide +kernel
theorem dX10_takeNumber_87 : decode cX10_takeNumber 87 = .ok (.bipush 10, 2) := by decide +kernel
theorem dX10_takeNumber_89 : decode cX10_takeNumber 89 = .ok (.iload_n 3, 1) := by decide +kernel
theorem dX10_takeNumber_90 : decode cX10_takeNumber 90 = .ok (.imul, 1) := by decide +kernel
theorem dX10_takeNumber_91 : decode cX10_takeNumber 91 = .ok (.aload_n 0, 1) := by decide +kernel
theorem dX10_takeNumber_92 : decode cX10_takeNumber 92 = .ok (.getfield 31, 3) := by decide +kernel
theorem dX10_takeNumber_95 : decode cX10_takeNumber 95 = .ok (.aload_n 0, 1) := by decide +kernel
theorem dX10_takeNumber_96 : decode cX10_takeNumber 96 = .ok (.getfield 154, 3) := by decide +kernel
theorem dX10_takeNumber_99 : decode cX10_takeNumber 99 = .ok (.iaload, 1) := by decide +kernel
theorem dX10_takeNumber_100 : decode cX10_takeNumber 100 = .ok (.iadd, 1) := by decide +kernel
theorem dX10_takeNumber_101 : decode cX10_takeNumber 101 = .ok (.bipush 48, 2) := by decide +kernel
theorem dX10_takeNumber_103 : decode cX10_takeNumber 103 = .ok (.isub, 1) := by decide +kernel
theorem dX10_takeNumber_104 : decode cX10_takeNumber 104 = .ok (.istore_n 3, 1) := by decide +kernel
theorem dX10_takeNumber_105 : decode cX10_takeNumber 105 = .ok (.aload_n 0, 1) := by decide +kernel
theorem dX10_takeNumber_106 : decode cX10_takeNumber 106 = .ok (.dup, 1) := by decide +kernel
theorem dX10_takeNumber_107 : decode cX10_takeNumber 107 = .ok (.getfield 154, 3) := by decide +kernel
theorem dX10_takeNumber_110 : decode cX10_takeNumber 110 = .ok (.iconst 1, 1) := by decide +kernel
theorem dX10_takeNumber_111 : decode cX10_takeNumber 111 = .ok (.iadd, 1) := by decide +kernel
theorem dX10_takeNumber_112 : decode cX10_takeNumber 112 = .ok (.putfield 154, 3) := by decide +kernel
theorem dX10_takeNumber_115 : decode cX10_takeNumber 115 = .ok (.goto (-72), 3) := by decide +kernel
theorem dX10_takeNumber_118 : decode cX10_takeNumber 118 = .ok (.iload_n 3, 1) := by decide +kernel
theorem dX10_takeNumber_119 : decode cX10_takeNumber 119 = .ok (.i2l, 1) := by decide +kernel
theorem dX10_takeNumber_120 : decode cX10_takeNumber 120 = .ok (.lconst 1, 1) := by decide +kernel
theorem dX10_takeNumber_121 : decode cX10_takeNumber 121 = .ok (.ldc2_w 106, 3) := by decide +kernel
theorem dX10_takeNumber_124 : decode cX10_takeNumber 124 = .ok (.invokestatic 87, 3) := by decide +kernel
theorem dX10_takeNumber_127 : decode cX10_takeNumber 127 = .ok (.ifCond .ne 8, 3) := by decide +kernel
theorem dX10_takeNumber_130 : decode cX10_takeNumber 130 = .ok (.aload_n 0, 1) := by decide +kernel
theorem dX10_takeNumber_131 : decode cX10_takeNumber 131 = .ok (.iload_n 2, 1) := by decide +kernel
theorem dX10_takeNumber_132 : decode cX10_takeNumber 132 = .ok (.invokevirtual 163, 3) := by decide +kernel
theorem dX10_takeNumber_135 : decode cX10_takeNumber 135 = .ok (.iload_n 3, 1) := by decide +kernel
theorem dX10_takeNumber_136 : decode cX10_takeNumber 136 = .ok (.ireturn, 1) := by decide +kernel
theorem dX10_takePiece_0 : decode cX10_takePiece 0 = .ok (.aload_n 0, 1) := by decide +kernel
theorem dX10_takePiece_1 : decode cX10_takePiece 1 = .ok (.getfield 171, 3) := by decide +kernel
theorem dX10_takePiece_4 : decode cX10_takePiece 4 = .ok (.istore_n 1, 1) := by decide +kernel
theorem dX10_takePiece_5 : decode cX10_takePiece 5 = .ok (.aload_n 0, 1) := by decide +kernel
theorem dX10_takePiece_6 : decode cX10_takePiece 6 = .ok (.invokevirtual 160, 3) := by decide +kernel
theorem dX10_takePiece_9 : decode cX10_takePiece 9 = .ok (.istore_n 2, 1) := by decide +kernel
theorem dX10_takePiece_10 : decode cX10_takePiece 10 = .ok (.aload_n 0, 1) := by decide +kernel
theorem dX10_takePiece_11 : decode cX10_takePiece 11 = .ok (.getfield 34, 3) := by decide +kernel
theorem dX10_takePiece_14 : decode cX10_takePiece 14 = .ok (.iload_n 1, 1) := by decide +kernel
theorem dX10_takePiece_15 : decode cX10_takePiece 15 = .ok (.iload_n 2, 1) := by decide +kernel
theorem dX10_takePiece_16 : decode cX10_takePiece 16 = .ok (.bipush 99, 2) := by decide +kernel
theorem dX10_takePiece_18 : decode cX10_takePiece 18 = .ok (.if_icmp .ne 7, 3) := by decide +kernel
theorem dX10_takePiece_21 : decode cX10_takePiece 21 = .ok (.iconst 0, 1) := by decide +kernel
theorem dX10_takePiece_22 : decode cX10_takePiece 22 = .ok (.goto 34, 3) := by decide +kernel
theorem dX10_takePiece_25 : decode cX10_takePiece 25 = .ok (.iload_n 2, 1) := by decide +kernel
theorem dX10_takePiece_26 : decode cX10_takePiece 26 = .ok (.bipush 107, 2) := by decide +kernel
theorem dX10_takePiece_28 : decode cX10_takePiece 28 = .ok (.if_icmp .ne 7, 3) := by decide +kernel
theorem dX10_takePiece_31 : decode cX10_takePiece 31 = .ok (.iconst 1, 1) := by decide +kernel
theorem dX10_takePiece_32 : decode cX10_takePiece 32 = .ok (.goto 24, 3) := by decide +kernel
theorem dX10_takePiece_35 : decode cX10_takePiece 35 = .ok (.iload_n 2, 1) := by decide +kernel
theorem dX10_takePiece_36 : decode cX10_takePiece 36 = .ok (.bipush 108, 2) := by decide +kernel
theorem dX10_takePiece_38 : decode cX10_takePiece 38 = .ok (.if_icmp .ne 7, 3) := by decide +kernel
theorem dX10_takePiece_41 : decode cX10_takePiece 41 = .ok (.iconst 2, 1) := by decide +kernel
theorem dX10_takePiece_42 : decode cX10_takePiece 42 = .ok (.goto 14, 3) := by decide +kernel
theorem dX10_takePiece_45 : decode cX10_takePiece 45 = .ok (.iload_n 2, 1) := by decide +kernel
theorem dX10_takePiece_46 : decode cX10_takePiece 46 = .ok (.bipush 114, 2) := by decide +kernel
theorem dX10_takePiece_48 : decode cX10_takePiece 48 = .ok (.if_icmp .ne 7, 3) := by decide +kernel
theorem dX10_takePiece_51 : decode cX10_takePiece 51 = .ok (.iconst 3, 1) := by decide +kernel
theorem dX10_takePiece_52 : decode cX10_takePiece 52 = .ok (.goto 4, 3) := by decide +kernel
theorem dX10_takePiece_55 : decode cX10_takePiece 55 = .ok (.iconst (-1), 1) := by decide +kernel
theorem dX10_takePiece_56 : decode cX10_takePiece 56 = .ok (.iastore, 1) := by decide +kernel
theorem dX10_takePiece_57 : decode cX10_takePiece 57 = .ok (.aload_n 0, 1) := by decide +kernel
theorem dX10_takePiece_58 : decode cX10_takePiece 58 = .ok (.getfield 34, 3) := by decide +kernel
theorem dX10_takePiece_61 : decode cX10_takePiece 61 = .ok (.iload_n 1, 1) := by decide +kernel
theorem dX10_takePiece_62 : decode cX10_takePiece 62 = .ok (.iaload, 1) := by decide +kernel
theorem dX10_takePiece_63 : decode cX10_takePiece 63 = .ok (.ifCond .ge 12, 3) := by decide +kernel
theorem dX10_takePiece_66 : decode cX10_takePiece 66 = .ok (.aload_n 0, 1) := by decide +kernel
theorem dX10_takePiece_67 : decode cX10_takePiece 67 = .ok (.aload_n 0, 1) := by decide +kernel
theorem dX10_takePiece_68 : decode cX10_takePiece 68 = .ok (.getfield 154, 3) := by decide +kernel
theorem dX10_takePiece_71 : decode cX10_takePiece 71 = .ok (.invokevirtual 163, 3) := by decide +kernel
theorem dX10_takePiece_74 : decode cX10_takePiece 74 = .ok (.return_, 1) := by decide +kernel
theorem dX10_takePiece_75 : decode cX10_takePiece 75 = .ok (.aload_n 0, 1) := by decide +kernel
theorem dX10_takePiece_76 : decode cX10_takePiece 76 = .ok (.dup, 1) := by decide +kernel
theorem dX10_takePiece_77 : decode cX10_takePiece 77 = .ok (.getfield 154, 3) := by decide +kernel
theorem dX10_takePiece_80 : decode cX10_takePiece 80 = .ok (.iconst 1, 1) := by decide +kernel
theorem dX10_takePiece_81 : decode cX10_takePiece 81 = .ok (.iadd, 1) := by decide +kernel
theorem dX10_takePiece_82 : decode cX10_takePiece 82 = .ok (.putfield 154, 3) := by decide +kernel
theorem dX10_takePiece_85 : decode cX10_takePiece 85 = .ok (.aload_n 0, 1) := by decide +kernel
theorem dX10_takePiece_86 : decode cX10_takePiece 86 = .ok (.getfield 37, 3) := by decide +kernel
theorem dX10_takePiece_89 : decode cX10_takePiece 89 = .ok (.iload_n 1, 1) := by decide +kernel
theorem dX10_takePiece_90 : decode cX10_takePiece 90 = .ok (.aload_n 0, 1) := by decide +kernel
theorem dX10_takePiece_91 : decode cX10_takePiece 91 = .ok (.invokevirtual 174, 3) := by decide +kernel
theorem dX10_takePiece_94 : decode cX10_takePiece 94 = .ok (.iastore, 1) := by decide +kernel
theorem dX10_takePiece_95 : decode cX10_takePiece 95 = .ok (.aload_n 0, 1) := by decide +kernel
theorem dX10_takePiece_96 : decode cX10_takePiece 96 = .ok (.getfield 40, 3) := by decide +kernel
theorem dX10_takePiece_99 : decode cX10_takePiece 99 = .ok (.iload_n 1, 1) := by decide +kernel
theorem dX10_takePiece_100 : decode cX10_takePiece 100 = .ok (.iconst 0, 1) := by decide +kernel
theorem dX10_takePiece_101 : decode cX10_takePiece 101 = .ok (.iastore, 1) := by decide +kernel
theorem dX10_takePiece_102 : decode cX10_takePiece 102 = .ok (.aload_n 0, 1) := by decide +kernel
theorem dX10_takePiece_103 : decode cX10_takePiece 103 = .ok (.getfield 157, 3) := by decide +kernel
theorem dX10_takePiece_106 : decode cX10_takePiece 106 = .ok (.ifCond .ne 36, 3) := by decide +kernel
theorem dX10_takePiece_109 : decode cX10_takePiece 109 = .ok (.aload_n 0, 1) := by decide +kernel
theorem dX10_takePiece_110 : decode cX10_takePiece 110 = .ok (.invokevirtual 160, 3) := by decide +kernel
theorem dX10_takePiece_113 : decode cX10_takePiece 113 = .ok (.bipush 116, 2) := by decide +kernel
theorem dX10_takePiece_115 : decode cX10_takePiece 115 = .ok (.if_icmp .ne 27, 3) := by decide +kernel
theorem dX10_takePiece_118 : decode cX10_takePiece 118 = .ok (.aload_n 0, 1) := by decide +kernel
theorem dX10_takePiece_119 : decode cX10_takePiece 119 = .ok (.dup, 1) := by decide +kernel
theorem dX10_takePiece_120 : decode cX10_takePiece 120 = .ok (.getfield 154, 3) := by decide +kernel
theorem dX10_takePiece_123 : decode cX10_takePiece 123 = .ok (.iconst 1, 1) := by decide +kernel
theorem dX10_takePiece_124 : decode cX10_takePiece 124 = .ok (.iadd, 1) := by decide +kernel
theorem dX10_takePiece_125 : decode cX10_takePiece 125 = .ok (.putfield 154, 3) := by decide +kernel
theorem dX10_takePiece_128 : decode cX10_takePiece 128 = .ok (.aload_n 0, 1) := by decide +kernel
theorem dX10_takePiece_129 : decode cX10_takePiece 129 = .ok (.getfield 40, 3) := by decide +kernel
theorem dX10_takePiece_132 : decode cX10_takePiece 132 = .ok (.iload_n 1, 1) := by decide +kernel
theorem dX10_takePiece_133 : decode cX10_takePiece 133 = .ok (.aload_n 0, 1) := by decide +kernel
theorem dX10_takePiece_134 : decode cX10_takePiece 134 = .ok (.bipush 48, 2) := by decide +kernel
theorem dX10_takePiece_136 : decode cX10_takePiece 136 = .ok (.bipush 51, 2) := by decide +kernel
theorem dX10_takePiece_138 : decode cX10_takePiece 138 = .ok (.invokevirtual 177, 3) := by decide +kernel
theorem dX10_takePiece_141 : decode cX10_takePiece 141 = .ok (.iastore, 1) := by decide +kernel
theorem dX10_takePiece_142 : decode cX10_takePiece 142 = .ok (.aload_n 0, 1) := by decide +kernel
theorem dX10_takePiece_143 : decode cX10_takePiece 143 = .ok (.getfield 43, 3) := by decide +kernel
theorem dX10_takePiece_146 : decode cX10_takePiece 146 = .ok (.iload_n 1, 1) := by decide +kernel
theorem dX10_takePiece_147 : decode cX10_takePiece 147 = .ok (.bipush 6, 2) := by decide +kernel
theorem dX10_takePiece_149 : decode cX10_takePiece 149 = .ok (.iastore, 1) := by decide +kernel
theorem dX10_takePiece_150 : decode cX10_takePiece 150 = .ok (.aload_n 0, 1) := by decide +kernel
theorem dX10_takePiece_151 : decode cX10_takePiece 151 = .ok (.getfield 157, 3) := by decide +kernel
theorem dX10_takePiece_154 : decode cX10_takePiece 154 = .ok (.ifCond .ne 36, 3) := by decide +kernel
theorem dX10_takePiece_157 : decode cX10_takePiece 157 = .ok (.aload_n 0, 1) := by decide +kernel
theorem dX10_takePiece_158 : decode cX10_takePiece 158 = .ok (.invokevirtual 160, 3) := by decide +kernel
theorem dX10_takePiece_161 : decode cX10_takePiece 161 = .ok (.bipush 64, 2) := by decide +kernel
theorem dX10_takePiece_163 : decode cX10_takePiece 163 = .ok (.if_icmp .ne 27, 3) := by decide +kernel
theorem dX10_takePiece_166 : decode cX10_takePiece 166 = .ok (.aload_n 0, 1) := by decide +kernel
theorem dX10_takePiece_167 : decode cX10_takePiece 167 = .ok (.dup, 1) := by decide +kernel
theorem dX10_takePiece_168 : decode cX10_takePiece 168 = .ok (.getfield 154, 3) := by decide +kernel
theorem dX10_takePiece_171 : decode cX10_takePiece 171 = .ok (.iconst 1, 1) := by decide +kernel
theorem dX10_takePiece_172 : decode cX10_takePiece 172 = .ok (.iadd, 1) := by decide +kernel
theorem dX10_takePiece_173 : decode cX10_takePiece 173 = .ok (.putfield 154, 3) := by decide +kernel
theorem dX10_takePiece_176 : decode cX10_takePiece 176 = .ok (.aload_n 0, 1) := by decide +kernel
theorem dX10_takePiece_177 : decode cX10_takePiece 177 = .ok (.getfield 43, 3) := by decide +kernel
theorem dX10_takePiece_180 : decode cX10_takePiece 180 = .ok (.iload_n 1, 1) := by decide +kernel
theorem dX10_takePiece_181 : decode cX10_takePiece 181 = .ok (.aload_n 0, 1) := by decide +kernel
theorem dX10_takePiece_182 : decode cX10_takePiece 182 = .ok (.bipush 48, 2) := by decide +kernel
theorem dX10_takePiece_184 : decode cX10_takePiece 184 = .ok (.bipush 53, 2) := by decide +kernel
theorem dX10_takePiece_186 : decode cX10_takePiece 186 = .ok (.invokevirtual 177, 3) := by decide +kernel
theorem dX10_takePiece_189 : decode cX10_takePiece 189 = .ok (.iastore, 1) := by decide +kernel
theorem dX10_takePiece_190 : decode cX10_takePiece 190 = .ok (.aload_n 0, 1) := by decide +kernel
theorem dX10_takePiece_191 : decode cX10_takePiece 191 = .ok (.dup, 1) := by decide +kernel
theorem dX10_takePiece_192 : decode cX10_takePiece 192 = .ok (.getfield 171, 3) := by decide +kernel
theorem dX10_takePiece_195 : decode cX10_takePiece 195 = .ok (.iconst 1, 1) := by decide +kernel
theorem dX10_takePiece_196 : decode cX10_takePiece 196 = .ok (.iadd, 1) := by decide +kernel
theorem dX10_takePiece_197 : decode cX10_takePiece 197 = .ok (.putfield 171, 3) := by decide +kernel
theorem dX10_takePiece_200 : decode cX10_takePiece 200 = .ok (.return_, 1) := by decide +kernel
theorem dX10_heap_0 : decode cX10_heap 0 = .ok (.aload_n 0, 1) := by decide +kernel
theorem dX10_heap_1 : decode cX10_heap 1 = .ok (.iconst 0, 1) := by decide +kernel
theorem dX10_heap_2 : decode cX10_heap 2 = .ok (.putfield 154, 3) := by decide +kernel
theorem dX10_heap_5 : decode cX10_heap 5 = .ok (.aload_n 0, 1) := by decide +kernel
theorem dX10_heap_6 : decode cX10_heap 6 = .ok (.iconst 0, 1) := by decide +kernel
theorem dX10_heap_7 : decode cX10_heap 7 = .ok (.putfield 157, 3) := by decide +kernel
theorem dX10_heap_10 : decode cX10_heap 10 = .ok (.aload_n 0, 1) := by decide +kernel
theorem dX10_heap_11 : decode cX10_heap 11 = .ok (.iconst 0, 1) := by decide +kernel
theorem dX10_heap_12 : decode cX10_heap 12 = .ok (.putfield 171, 3) := by decide +kernel
theorem dX10_heap_15 : decode cX10_heap 15 = .ok (.aload_n 0, 1) := by decide +kernel
theorem dX10_heap_16 : decode cX10_heap 16 = .ok (.invokevirtual 181, 3) := by decide +kernel
theorem dX10_heap_19 : decode cX10_heap 19 = .ok (.aload_n 0, 1) := by decide +kernel
theorem dX10_heap_20 : decode cX10_heap 20 = .ok (.getfield 157, 3) := by decide +kernel
theorem dX10_heap_23 : decode cX10_heap 23 = .ok (.ifCond .ne 56, 3) := by decide +kernel
theorem dX10_heap_26 : decode cX10_heap 26 = .ok (.aload_n 0, 1) := by decide +kernel
theorem dX10_heap_27 : decode cX10_heap 27 = .ok (.invokevirtual 160, 3) := by decide +kernel
theorem dX10_heap_30 : decode cX10_heap 30 = .ok (.ifCond .lt 49, 3) := by decide +kernel
theorem dX10_heap_33 : decode cX10_heap 33 = .ok (.aload_n 0, 1) := by decide +kernel
theorem dX10_heap_34 : decode cX10_heap 34 = .ok (.invokevirtual 160, 3) := by decide +kernel
theorem dX10_heap_37 : decode cX10_heap 37 = .ok (.bipush 44, 2) := by decide +kernel
theorem dX10_heap_39 : decode cX10_heap 39 = .ok (.if_icmp .ne 12, 3) := by decide +kernel
theorem dX10_heap_42 : decode cX10_heap 42 = .ok (.aload_n 0, 1) := by decide +kernel
theorem dX10_heap_43 : decode cX10_heap 43 = .ok (.getfield 171, 3) := by decide +kernel
theorem dX10_heap_46 : decode cX10_heap 46 = .ok (.bipush 12, 2) := by decide +kernel
theorem dX10_heap_48 : decode cX10_heap 48 = .ok (.if_icmp .ne 14, 3) := by decide +kernel
theorem dX10_heap_51 : decode cX10_heap 51 = .ok (.aload_n 0, 1) := by decide +kernel
theorem dX10_heap_52 : decode cX10_heap 52 = .ok (.aload_n 0, 1) := by decide +kernel
theorem dX10_heap_53 : decode cX10_heap 53 = .ok (.getfield 154, 3) := by decide +kernel
theorem dX10_heap_56 : decode cX10_heap 56 = .ok (.invokevirtual 163, 3) := by decide +kernel
theorem dX10_heap_59 : decode cX10_heap 59 = .ok (.goto (-40), 3) := by decide +kernel
theorem dX10_heap_62 : decode cX10_heap 62 = .ok (.aload_n 0, 1) := by decide +kernel
theorem dX10_heap_63 : decode cX10_heap 63 = .ok (.dup, 1) := by decide +kernel
theorem dX10_heap_64 : decode cX10_heap 64 = .ok (.getfield 154, 3) := by decide +kernel
theorem dX10_heap_67 : decode cX10_heap 67 = .ok (.iconst 1, 1) := by decide +kernel
theorem dX10_heap_68 : decode cX10_heap 68 = .ok (.iadd, 1) := by decide +kernel
theorem dX10_heap_69 : decode cX10_heap 69 = .ok (.putfield 154, 3) := by decide +kernel
theorem dX10_heap_72 : decode cX10_heap 72 = .ok (.aload_n 0, 1) := by decide +kernel
theorem dX10_heap_73 : decode cX10_heap 73 = .ok (.invokevirtual 181, 3) := by decide +kernel
theorem dX10_heap_76 : decode cX10_heap 76 = .ok (.goto (-57), 3) := by decide +kernel
theorem dX10_heap_79 : decode cX10_heap 79 = .ok (.aload_n 0, 1) := by decide +kernel
theorem dX10_heap_80 : decode cX10_heap 80 = .ok (.iconst 0, 1) := by decide +kernel
theorem dX10_heap_81 : decode cX10_heap 81 = .ok (.putfield 151, 3) := by decide +kernel
theorem dX10_heap_84 : decode cX10_heap 84 = .ok (.aload_n 0, 1) := by decide +kernel
theorem dX10_heap_85 : decode cX10_heap 85 = .ok (.getfield 157, 3) := by decide +kernel
theorem dX10_heap_88 : decode cX10_heap 88 = .ok (.ifCond .eq 8, 3) := by decide +kernel
theorem dX10_heap_91 : decode cX10_heap 91 = .ok (.aload_n 0, 1) := by decide +kernel
theorem dX10_heap_92 : decode cX10_heap 92 = .ok (.getfield 157, 3) := by decide +kernel
theorem dX10_heap_95 : decode cX10_heap 95 = .ok (.ireturn, 1) := by decide +kernel
theorem dX10_heap_96 : decode cX10_heap 96 = .ok (.aload_n 0, 1) := by decide +kernel
theorem dX10_heap_97 : decode cX10_heap 97 = .ok (.iconst 0, 1) := by decide +kernel
theorem dX10_heap_98 : decode cX10_heap 98 = .ok (.putfield 83, 3) := by decide +kernel
theorem dX10_heap_101 : decode cX10_heap 101 = .ok (.iconst 0, 1) := by decide +kernel
theorem dX10_heap_102 : decode cX10_heap 102 = .ok (.istore_n 1, 1) := by decide +kernel
theorem dX10_heap_103 : decode cX10_heap 103 = .ok (.iload_n 1, 1) := by decide +kernel
theorem dX10_heap_104 : decode cX10_heap 104 = .ok (.bipush 6, 2) := by decide +kernel
theorem dX10_heap_106 : decode cX10_heap 106 = .ok (.if_icmp .ge 16, 3) := by decide +kernel
theorem dX10_heap_109 : decode cX10_heap 109 = .ok (.aload_n 0, 1) := by decide +kernel
theorem dX10_heap_110 : decode cX10_heap 110 = .ok (.getfield 22, 3) := by decide +kernel
theorem dX10_heap_113 : decode cX10_heap 113 = .ok (.iload_n 1, 1) := by decide +kernel
theorem dX10_heap_114 : decode cX10_heap 114 = .ok (.iconst 0, 1) := by decide +kernel
theorem dX10_heap_115 : decode cX10_heap 115 = .ok (.iastore, 1) := by decide +kernel
theorem dX10_heap_116 : decode cX10_heap 116 = .ok (.iinc 1 1, 3) := by decide +kernel
theorem dX10_heap_119 : decode cX10_heap 119 = .ok (.goto (-16), 3) := by decide +kernel
theorem dX10_heap_122 : decode cX10_heap 122 = .ok (.iconst 0, 1) := by decide +kernel
theorem dX10_heap_123 : decode cX10_heap 123 = .ok (.istore_n 1, 1) := by decide +kernel
theorem dX10_heap_124 : decode cX10_heap 124 = .ok (.iload_n 1, 1) := by decide +kernel
theorem dX10_heap_125 : decode cX10_heap 125 = .ok (.aload_n 0, 1) := by decide +kernel
theorem dX10_heap_126 : decode cX10_heap 126 = .ok (.getfield 171, 3) := by decide +kernel
theorem dX10_heap_129 : decode cX10_heap 129 = .ok (.if_icmp .ge 37, 3) := by decide +kernel
theorem dX10_heap_132 : decode cX10_heap 132 = .ok (.aload_n 0, 1) := by decide +kernel
theorem dX10_heap_133 : decode cX10_heap 133 = .ok (.aload_n 0, 1) := by decide +kernel
theorem dX10_heap_134 : decode cX10_heap 134 = .ok (.getfield 34, 3) := by decide +kernel
theorem dX10_heap_137 : decode cX10_heap 137 = .ok (.iload_n 1, 1) := by decide +kernel
theorem dX10_heap_138 : decode cX10_heap 138 = .ok (.iaload, 1) := by decide +kernel
theorem dX10_heap_139 : decode cX10_heap 139 = .ok (.aload_n 0, 1) := by decide +kernel
theorem dX10_heap_140 : decode cX10_heap 140 = .ok (.getfield 37, 3) := by decide +kernel
theorem dX10_heap_143 : decode cX10_heap 143 = .ok (.iload_n 1, 1) := by decide +kernel
theorem dX10_heap_144 : decode cX10_heap 144 = .ok (.iaload, 1) := by decide +kernel
theorem dX10_heap_145 : decode cX10_heap 145 = .ok (.aload_n 0, 1) := by decide +kernel
theorem dX10_heap_146 : decode cX10_heap 146 = .ok (.getfield 40, 3) := by decide +kernel
theorem dX10_heap_149 : decode cX10_heap 149 = .ok (.iload_n 1, 1) := by decide +kernel
theorem dX10_heap_150 : decode cX10_heap 150 = .ok (.iaload, 1) := by decide +kernel
theorem dX10_heap_151 : decode cX10_heap 151 = .ok (.aload_n 0, 1) := by decide +kernel
theorem dX10_heap_152 : decode cX10_heap 152 = .ok (.getfield 43, 3) := by decide +kernel
theorem dX10_heap_155 : decode cX10_heap 155 = .ok (.iload_n 1, 1) := by decide +kernel
theorem dX10_heap_156 : decode cX10_heap 156 = .ok (.iaload, 1) := by decide +kernel
theorem dX10_heap_157 : decode cX10_heap 157 = .ok (.invokevirtual 110, 3) := by decide +kernel
theorem dX10_heap_160 : decode cX10_heap 160 = .ok (.iinc 1 1, 3) := by decide +kernel
theorem dX10_heap_163 : decode cX10_heap 163 = .ok (.goto (-39), 3) := by decide +kernel
theorem dX10_heap_166 : decode cX10_heap 166 = .ok (.aload_n 0, 1) := by decide +kernel
theorem dX10_heap_167 : decode cX10_heap 167 = .ok (.getfield 83, 3) := by decide +kernel
theorem dX10_heap_170 : decode cX10_heap 170 = .ok (.ireturn, 1) := by decide +kernel
theorem dX10_takeLetter_0 : decode cX10_takeLetter 0 = .ok (.aload_n 0, 1) := by decide +kernel
theorem dX10_takeLetter_1 : decode cX10_takeLetter 1 = .ok (.invokevirtual 160, 3) := by decide +kernel
theorem dX10_takeLetter_4 : decode cX10_takeLetter 4 = .ok (.istore_n 1, 1) := by decide +kernel
theorem dX10_takeLetter_5 : decode cX10_takeLetter 5 = .ok (.aload_n 0, 1) := by decide +kernel
theorem dX10_takeLetter_6 : decode cX10_takeLetter 6 = .ok (.getfield 157, 3) := by decide +kernel
theorem dX10_takeLetter_9 : decode cX10_takeLetter 9 = .ok (.ifCond .ne 30, 3) := by decide +kernel
theorem dX10_takeLetter_12 : decode cX10_takeLetter 12 = .ok (.iload_n 1, 1) := by decide +kernel
theorem dX10_takeLetter_13 : decode cX10_takeLetter 13 = .ok (.bipush 97, 2) := by decide +kernel
theorem dX10_takeLetter_15 : decode cX10_takeLetter 15 = .ok (.isub, 1) := by decide +kernel
theorem dX10_takeLetter_16 : decode cX10_takeLetter 16 = .ok (.i2l, 1) := by decide +kernel
theorem dX10_takeLetter_17 : decode cX10_takeLetter 17 = .ok (.lconst 0, 1) := by decide +kernel
theorem dX10_takeLetter_18 : decode cX10_takeLetter 18 = .ok (.aload_n 0, 1) := by decide +kernel
theorem dX10_takeLetter_19 : decode cX10_takeLetter 19 = .ok (.getfield 83, 3) := by decide +kernel
theorem dX10_takeLetter_22 : decode cX10_takeLetter 22 = .ok (.iconst 1, 1) := by decide +kernel
theorem dX10_takeLetter_23 : decode cX10_takeLetter 23 = .ok (.isub, 1) := by decide +kernel
theorem dX10_takeLetter_24 : decode cX10_takeLetter 24 = .ok (.i2l, 1) := by decide +kernel
theorem dX10_takeLetter_25 : decode cX10_takeLetter 25 = .ok (.invokestatic 87, 3) := by decide +kernel
theorem dX10_takeLetter_28 : decode cX10_takeLetter 28 = .ok (.ifCond .ne 11, 3) := by decide +kernel
theorem dX10_takeLetter_31 : decode cX10_takeLetter 31 = .ok (.aload_n 0, 1) := by decide +kernel
theorem dX10_takeLetter_32 : decode cX10_takeLetter 32 = .ok (.aload_n 0, 1) := by decide +kernel
theorem dX10_takeLetter_33 : decode cX10_takeLetter 33 = .ok (.getfield 154, 3) := by decide +kernel
theorem dX10_takeLetter_36 : decode cX10_takeLetter 36 = .ok (.invokevirtual 163, 3) := by decide +kernel
theorem dX10_takeLetter_39 : decode cX10_takeLetter 39 = .ok (.aload_n 0, 1) := by decide +kernel
theorem dX10_takeLetter_40 : decode cX10_takeLetter 40 = .ok (.bipush 97, 2) := by decide +kernel
theorem dX10_takeLetter_42 : decode cX10_takeLetter 42 = .ok (.bipush 108, 2) := by decide +kernel
theorem dX10_takeLetter_44 : decode cX10_takeLetter 44 = .ok (.invokevirtual 177, 3) := by decide +kernel
theorem dX10_takeLetter_47 : decode cX10_takeLetter 47 = .ok (.ireturn, 1) := by decide +kernel
theorem dX10_takeMark_0 : decode cX10_takeMark 0 = .ok (.aload_n 0, 1) := by decide +kernel
theorem dX10_takeMark_1 : decode cX10_takeMark 1 = .ok (.iload_n 1, 1) := by decide +kernel
theorem dX10_takeMark_2 : decode cX10_takeMark 2 = .ok (.iload_n 1, 1) := by decide +kernel
theorem dX10_takeMark_3 : decode cX10_takeMark 3 = .ok (.invokevirtual 177, 3) := by decide +kernel
theorem dX10_takeMark_6 : decode cX10_takeMark 6 = .ok (.istore_n 2, 1) := by decide +kernel
theorem dX10_takeMark_7 : decode cX10_takeMark 7 = .ok (.return_, 1) := by decide +kernel
theorem dX10_takeAct_0 : decode cX10_takeAct 0 = .ok (.aload_n 0, 1) := by decide +kernel
theorem dX10_takeAct_1 : decode cX10_takeAct 1 = .ok (.invokevirtual 160, 3) := by decide +kernel
theorem dX10_takeAct_4 : decode cX10_takeAct 4 = .ok (.istore_n 1, 1) := by decide +kernel
theorem dX10_takeAct_5 : decode cX10_takeAct 5 = .ok (.iconst 0, 1) := by decide +kernel
theorem dX10_takeAct_6 : decode cX10_takeAct 6 = .ok (.istore_n 2, 1) := by decide +kernel
theorem dX10_takeAct_7 : decode cX10_takeAct 7 = .ok (.aload_n 0, 1) := by decide +kernel
theorem dX10_takeAct_8 : decode cX10_takeAct 8 = .ok (.dup, 1) := by decide +kernel
theorem dX10_takeAct_9 : decode cX10_takeAct 9 = .ok (.getfield 154, 3) := by decide +kernel
theorem dX10_takeAct_12 : decode cX10_takeAct 12 = .ok (.iconst 1, 1) := by decide +kernel
theorem dX10_takeAct_13 : decode cX10_takeAct 13 = .ok (.iadd, 1) := by decide +kernel
theorem dX10_takeAct_14 : decode cX10_takeAct 14 = .ok (.putfield 154, 3) := by decide +kernel
theorem dX10_takeAct_17 : decode cX10_takeAct 17 = .ok (.iload_n 1, 1) := by decide +kernel
theorem dX10_takeAct_18 : decode cX10_takeAct 18 = .ok (.bipush 108, 2) := by decide +kernel
theorem dX10_takeAct_20 : decode cX10_takeAct 20 = .ok (.if_icmp .ne 18, 3) := by decide +kernel
theorem dX10_takeAct_23 : decode cX10_takeAct 23 = .ok (.bipush 100, 2) := by decide +kernel
theorem dX10_takeAct_25 : decode cX10_takeAct 25 = .ok (.aload_n 0, 1) := by decide +kernel
theorem dX10_takeAct_26 : decode cX10_takeAct 26 = .ok (.bipush 48, 2) := by decide +kernel
theorem dX10_takeAct_28 : decode cX10_takeAct 28 = .ok (.bipush 53, 2) := by decide +kernel
theorem dX10_takeAct_30 : decode cX10_takeAct 30 = .ok (.invokevirtual 177, 3) := by decide +kernel
theorem dX10_takeAct_33 : decode cX10_takeAct 33 = .ok (.imul, 1) := by decide +kernel
theorem dX10_takeAct_34 : decode cX10_takeAct 34 = .ok (.istore_n 2, 1) := by decide +kernel
theorem dX10_takeAct_35 : decode cX10_takeAct 35 = .ok (.goto 198, 3) := by decide +kernel
theorem dX10_takeAct_38 : decode cX10_takeAct 38 = .ok (.iload_n 1, 1) := by decide +kernel
theorem dX10_takeAct_39 : decode cX10_takeAct 39 = .ok (.bipush 100, 2) := by decide +kernel
theorem dX10_takeAct_41 : decode cX10_takeAct 41 = .ok (.if_icmp .ne 35, 3) := by decide +kernel
theorem dX10_takeAct_44 : decode cX10_takeAct 44 = .ok (.aload_n 0, 1) := by decide +kernel
theorem dX10_takeAct_45 : decode cX10_takeAct 45 = .ok (.invokevirtual 184, 3) := by decide +kernel
theorem dX10_takeAct_48 : decode cX10_takeAct 48 = .ok (.istore_n 3, 1) := by decide +kernel
theorem dX10_takeAct_49 : decode cX10_takeAct 49 = .ok (.aload_n 0, 1) := by decide +kernel
theorem dX10_takeAct_50 : decode cX10_takeAct 50 = .ok (.bipush 62, 2) := by decide +kernel
theorem dX10_takeAct_52 : decode cX10_takeAct 52 = .ok (.invokevirtual 187, 3) := by decide +kernel
theorem dX10_takeAct_55 : decode cX10_takeAct 55 = .ok (.sipush 1000, 3) := by decide +kernel
theorem dX10_takeAct_58 : decode cX10_takeAct 58 = .ok (.bipush 100, 2) := by decide +kernel
theorem dX10_takeAct_60 : decode cX10_takeAct 60 = .ok (.aload_n 0, 1) := by decide +kernel
theorem dX10_takeAct_61 : decode cX10_takeAct 61 = .ok (.bipush 48, 2) := by decide +kernel
theorem dX10_takeAct_63 : decode cX10_takeAct 63 = .ok (.bipush 53, 2) := by decide +kernel
theorem dX10_takeAct_65 : decode cX10_takeAct 65 = .ok (.invokevirtual 177, 3) := by decide +kernel
theorem dX10_takeAct_68 : decode cX10_takeAct 68 = .ok (.imul, 1) := by decide +kernel
theorem dX10_takeAct_69 : decode cX10_takeAct 69 = .ok (.iadd, 1) := by decide +kernel
theorem dX10_takeAct_70 : decode cX10_takeAct 70 = .ok (.iload_n 3, 1) := by decide +kernel
theorem dX10_takeAct_71 : decode cX10_takeAct 71 = .ok (.iadd, 1) := by decide +kernel
theorem dX10_takeAct_72 : decode cX10_takeAct 72 = .ok (.istore_n 2, 1) := by decide +kernel
theorem dX10_takeAct_73 : decode cX10_takeAct 73 = .ok (.goto 160, 3) := by decide +kernel
theorem dX10_takeAct_76 : decode cX10_takeAct 76 = .ok (.iload_n 1, 1) := by decide +kernel
theorem dX10_takeAct_77 : decode cX10_takeAct 77 = .ok (.bipush 115, 2) := by decide +kernel
theorem dX10_takeAct_79 : decode cX10_takeAct 79 = .ok (.if_icmp .ne 35, 3) := by decide +kernel
theorem dX10_takeAct_82 : decode cX10_takeAct 82 = .ok (.aload_n 0, 1) := by decide +kernel
theorem dX10_takeAct_83 : decode cX10_takeAct 83 = .ok (.bipush 48, 2) := by decide +kernel
theorem dX10_takeAct_85 : decode cX10_takeAct 85 = .ok (.bipush 53, 2) := by decide +kernel
theorem dX10_takeAct_87 : decode cX10_takeAct 87 = .ok (.invokevirtual 177, 3) := by decide +kernel
theorem dX10_takeAct_90 : decode cX10_takeAct 90 = .ok (.istore_n 3, 1) := by decide +kernel
theorem dX10_takeAct_91 : decode cX10_takeAct 91 = .ok (.aload_n 0, 1) := by decide +kernel
theorem dX10_takeAct_92 : decode cX10_takeAct 92 = .ok (.bipush 61, 2) := by decide +kernel
theorem dX10_takeAct_94 : decode cX10_takeAct 94 = .ok (.invokevirtual 187, 3) := by decide +kernel
theorem dX10_takeAct_97 : decode cX10_takeAct 97 = .ok (.sipush 2000, 3) := by decide +kernel
theorem dX10_takeAct_100 : decode cX10_takeAct 100 = .ok (.bipush 100, 2) := by decide +kernel
theorem dX10_takeAct_102 : decode cX10_takeAct 102 = .ok (.iload_n 3, 1) := by decide +kernel
theorem dX10_takeAct_103 : decode cX10_takeAct 103 = .ok (.imul, 1) := by decide +kernel
theorem dX10_takeAct_104 : decode cX10_takeAct 104 = .ok (.iadd, 1) := by decide +kernel
theorem dX10_takeAct_105 : decode cX10_takeAct 105 = .ok (.aload_n 0, 1) := by decide +kernel
theorem dX10_takeAct_106 : decode cX10_takeAct 106 = .ok (.invokevirtual 184, 3) := by decide +kernel
theorem dX10_takeAct_109 : decode cX10_takeAct 109 = .ok (.iadd, 1) := by decide +kernel
theorem dX10_takeAct_110 : decode cX10_takeAct 110 = .ok (.istore_n 2, 1) := by decide +kernel
theorem dX10_takeAct_111 : decode cX10_takeAct 111 = .ok (.goto 122, 3) := by decide +kernel
theorem dX10_takeAct_114 : decode cX10_takeAct 114 = .ok (.iload_n 1, 1) := by decide +kernel
theorem dX10_takeAct_115 : decode cX10_takeAct 115 = .ok (.bipush 112, 2) := by decide +kernel
theorem dX10_takeAct_117 : decode cX10_takeAct 117 = .ok (.if_icmp .ne 74, 3) := by decide +kernel
theorem dX10_takeAct_120 : decode cX10_takeAct 120 = .ok (.aload_n 0, 1) := by decide +kernel
theorem dX10_takeAct_121 : decode cX10_takeAct 121 = .ok (.bipush 48, 2) := by decide +kernel
theorem dX10_takeAct_123 : decode cX10_takeAct 123 = .ok (.bipush 53, 2) := by decide +kernel
theorem dX10_takeAct_125 : decode cX10_takeAct 125 = .ok (.invokevirtual 177, 3) := by decide +kernel
theorem dX10_takeAct_128 : decode cX10_takeAct 128 = .ok (.istore_n 3, 1) := by decide +kernel
theorem dX10_takeAct_129 : decode cX10_takeAct 129 = .ok (.aload_n 0, 1) := by decide +kernel
theorem dX10_takeAct_130 : decode cX10_takeAct 130 = .ok (.bipush 62, 2) := by decide +kernel
theorem dX10_takeAct_132 : decode cX10_takeAct 132 = .ok (.invokevirtual 187, 3) := by decide +kernel
theorem dX10_takeAct_135 : decode cX10_takeAct 135 = .ok (.aload_n 0, 1) := by decide +kernel
theorem dX10_takeAct_136 : decode cX10_takeAct 136 = .ok (.invokevirtual 160, 3) := by decide +kernel
theorem dX10_takeAct_139 : decode cX10_takeAct 139 = .ok (.istore 4, 2) := by decide +kernel
theorem dX10_takeAct_141 : decode cX10_takeAct 141 = .ok (.aload_n 0, 1) := by decide +kernel
theorem dX10_takeAct_142 : decode cX10_takeAct 142 = .ok (.getfield 154, 3) := by decide +kernel
theorem dX10_takeAct_145 : decode cX10_takeAct 145 = .ok (.istore 5, 2) := by decide +kernel
theorem dX10_takeAct_147 : decode cX10_takeAct 147 = .ok (.aload_n 0, 1) := by decide +kernel
theorem dX10_takeAct_148 : decode cX10_takeAct 148 = .ok (.bipush 48, 2) := by decide +kernel
theorem dX10_takeAct_150 : decode cX10_takeAct 150 = .ok (.bipush 53, 2) := by decide +kernel
theorem dX10_takeAct_152 : decode cX10_takeAct 152 = .ok (.invokevirtual 177, 3) := by decide +kernel
theorem dX10_takeAct_155 : decode cX10_takeAct 155 = .ok (.istore 6, 2) := by decide +kernel
theorem dX10_takeAct_157 : decode cX10_takeAct 157 = .ok (.aload_n 0, 1) := by decide +kernel
theorem dX10_takeAct_158 : decode cX10_takeAct 158 = .ok (.getfield 157, 3) := by decide +kernel
theorem dX10_takeAct_161 : decode cX10_takeAct 161 = .ok (.ifCond .ne 15, 3) := by decide +kernel
theorem dX10_takeAct_164 : decode cX10_takeAct 164 = .ok (.iload 6, 2) := by decide +kernel
theorem dX10_takeAct_166 : decode cX10_takeAct 166 = .ok (.iload_n 3, 1) := by decide +kernel
theorem dX10_takeAct_167 : decode cX10_takeAct 167 = .ok (.if_icmp .ne 9, 3) := by decide +kernel
theorem dX10_takeAct_170 : decode cX10_takeAct 170 = .ok (.aload_n 0, 1) := by decide +kernel
theorem dX10_takeAct_171 : decode cX10_takeAct 171 = .ok (.iload 5, 2) := by decide +kernel
theorem dX10_takeAct_173 : decode cX10_takeAct 173 = .ok (.invokevirtual 163, 3) := by decide +kernel
theorem dX10_takeAct_176 : decode cX10_takeAct 176 = .ok (.sipush 3000, 3) := by decide +kernel
theorem dX10_takeAct_179 : decode cX10_takeAct 179 = .ok (.bipush 100, 2) := by decide +kernel
theorem dX10_takeAct_181 : decode cX10_takeAct 181 = .ok (.iload_n 3, 1) := by decide +kernel
theorem dX10_takeAct_182 : decode cX10_takeAct 182 = .ok (.imul, 1) := by decide +kernel
theorem dX10_takeAct_183 : decode cX10_takeAct 183 = .ok (.iadd, 1) := by decide +kernel
theorem dX10_takeAct_184 : decode cX10_takeAct 184 = .ok (.iload 6, 2) := by decide +kernel
theorem dX10_takeAct_186 : decode cX10_takeAct 186 = .ok (.iadd, 1) := by decide +kernel
theorem dX10_takeAct_187 : decode cX10_takeAct 187 = .ok (.istore_n 2, 1) := by decide +kernel
theorem dX10_takeAct_188 : decode cX10_takeAct 188 = .ok (.goto 45, 3) := by decide +kernel
theorem dX10_takeAct_191 : decode cX10_takeAct 191 = .ok (.aload_n 0, 1) := by decide +kernel
theorem dX10_takeAct_192 : decode cX10_takeAct 192 = .ok (.iload_n 1, 1) := by decide +kernel
theorem dX10_takeAct_193 : decode cX10_takeAct 193 = .ok (.ifCond .ge 12, 3) := by decide +kernel
theorem dX10_takeAct_196 : decode cX10_takeAct 196 = .ok (.aload_n 0, 1) := by decide +kernel
theorem dX10_takeAct_197 : decode cX10_takeAct 197 = .ok (.getfield 154, 3) := by decide +kernel
theorem dX10_takeAct_200 : decode cX10_takeAct 200 = .ok (.iconst 1, 1) := by decide +kernel
theorem dX10_takeAct_201 : decode cX10_takeAct 201 = .ok (.isub, 1) := by decide +kernel
theorem dX10_takeAct_202 : decode cX10_takeAct 202 = .ok (.goto 7, 3) := by decide +kernel
theorem dX10_takeAct_205 : decode cX10_takeAct 205 = .ok (.aload_n 0, 1) := by decide +kernel
theorem dX10_takeAct_206 : decode cX10_takeAct 206 = .ok (.getfield 154, 3) := by decide +kernel
theorem dX10_takeAct_209 : decode cX10_takeAct 209 = .ok (.putfield 154, 3) := by decide +kernel
theorem dX10_takeAct_212 : decode cX10_takeAct 212 = .ok (.aload_n 0, 1) := by decide +kernel
theorem dX10_takeAct_213 : decode cX10_takeAct 213 = .ok (.iload_n 1, 1) := by decide +kernel
theorem dX10_takeAct_214 : decode cX10_takeAct 214 = .ok (.ifCond .ge 10, 3) := by decide +kernel
theorem dX10_takeAct_217 : decode cX10_takeAct 217 = .ok (.aload_n 0, 1) := by decide +kernel
theorem dX10_takeAct_218 : decode cX10_takeAct 218 = .ok (.getfield 154, 3) := by decide +kernel
theorem dX10_takeAct_221 : decode cX10_takeAct 221 = .ok (.goto 9, 3) := by decide +kernel
theorem dX10_takeAct_224 : decode cX10_takeAct 224 = .ok (.aload_n 0, 1) := by decide +kernel
theorem dX10_takeAct_225 : decode cX10_takeAct 225 = .ok (.getfield 154, 3) := by decide +kernel
theorem dX10_takeAct_228 : decode cX10_takeAct 228 = .ok (.iconst 1, 1) := by decide +kernel
theorem dX10_takeAct_229 : decode cX10_takeAct 229 = .ok (.isub, 1) := by decide +kernel
theorem dX10_takeAct_230 : decode cX10_takeAct 230 = .ok (.invokevirtual 163, 3) := by decide +kernel
theorem dX10_takeAct_233 : decode cX10_takeAct 233 = .ok (.aload_n 0, 1) := by decide +kernel
theorem dX10_takeAct_234 : decode cX10_takeAct 234 = .ok (.getfield 157, 3) := by decide +kernel
theorem dX10_takeAct_237 : decode cX10_takeAct 237 = .ok (.ifCond .ne 23, 3) := by decide +kernel
theorem dX10_takeAct_240 : decode cX10_takeAct 240 = .ok (.aload_n 0, 1) := by decide +kernel
theorem dX10_takeAct_241 : decode cX10_takeAct 241 = .ok (.getfield 46, 3) := by decide +kernel
theorem dX10_takeAct_244 : decode cX10_takeAct 244 = .ok (.aload_n 0, 1) := by decide +kernel
theorem dX10_takeAct_245 : decode cX10_takeAct 245 = .ok (.getfield 190, 3) := by decide +kernel
theorem dX10_takeAct_248 : decode cX10_takeAct 248 = .ok (.iload_n 2, 1) := by decide +kernel
theorem dX10_takeAct_249 : decode cX10_takeAct 249 = .ok (.iastore, 1) := by decide +kernel
theorem dX10_takeAct_250 : decode cX10_takeAct 250 = .ok (.aload_n 0, 1) := by decide +kernel
theorem dX10_takeAct_251 : decode cX10_takeAct 251 = .ok (.dup, 1) := by decide +kernel
theorem dX10_takeAct_252 : decode cX10_takeAct 252 = .ok (.getfield 190, 3) := by decide +kernel
theorem dX10_takeAct_255 : decode cX10_takeAct 255 = .ok (.iconst 1, 1) := by decide +kernel
theorem dX10_takeAct_256 : decode cX10_takeAct 256 = .ok (.iadd, 1) := by decide +kernel
theorem dX10_takeAct_257 : decode cX10_takeAct 257 = .ok (.putfield 190, 3) := by decide +kernel
theorem dX10_takeAct_260 : decode cX10_takeAct 260 = .ok (.return_, 1) := by decide +kernel
theorem dX10_night_0 : decode cX10_night 0 = .ok (.aload_n 0, 1) := by decide +kernel
theorem dX10_night_1 : decode cX10_night 1 = .ok (.iconst 0, 1) := by decide +kernel
theorem dX10_night_2 : decode cX10_night 2 = .ok (.putfield 154, 3) := by decide +kernel
theorem dX10_night_5 : decode cX10_night 5 = .ok (.aload_n 0, 1) := by decide +kernel
theorem dX10_night_6 : decode cX10_night 6 = .ok (.iconst 0, 1) := by decide +kernel
theorem dX10_night_7 : decode cX10_night 7 = .ok (.putfield 157, 3) := by decide +kernel
theorem dX10_night_10 : decode cX10_night 10 = .ok (.aload_n 0, 1) := by decide +kernel
theorem dX10_night_11 : decode cX10_night 11 = .ok (.iconst 0, 1) := by decide +kernel
theorem dX10_night_12 : decode cX10_night 12 = .ok (.putfield 190, 3) := by decide +kernel
theorem dX10_night_15 : decode cX10_night 15 = .ok (.aload_n 0, 1) := by decide +kernel
theorem dX10_night_16 : decode cX10_night 16 = .ok (.invokevirtual 193, 3) := by decide +kernel
theorem dX10_night_19 : decode cX10_night 19 = .ok (.aload_n 0, 1) := by decide +kernel
theorem dX10_night_20 : decode cX10_night 20 = .ok (.getfield 157, 3) := by decide +kernel
theorem dX10_night_23 : decode cX10_night 23 = .ok (.ifCond .ne 30, 3) := by decide +kernel
theorem dX10_night_26 : decode cX10_night 26 = .ok (.aload_n 0, 1) := by decide +kernel
theorem dX10_night_27 : decode cX10_night 27 = .ok (.invokevirtual 160, 3) := by decide +kernel
theorem dX10_night_30 : decode cX10_night 30 = .ok (.ifCond .lt 23, 3) := by decide +kernel
theorem dX10_night_33 : decode cX10_night 33 = .ok (.aload_n 0, 1) := by decide +kernel
theorem dX10_night_34 : decode cX10_night 34 = .ok (.bipush 59, 2) := by decide +kernel
theorem dX10_night_36 : decode cX10_night 36 = .ok (.invokevirtual 187, 3) := by decide +kernel
theorem dX10_night_39 : decode cX10_night 39 = .ok (.aload_n 0, 1) := by decide +kernel
theorem dX10_night_40 : decode cX10_night 40 = .ok (.getfield 157, 3) := by decide +kernel
theorem dX10_night_43 : decode cX10_night 43 = .ok (.ifCond .ne (-24), 3) := by decide +kernel
theorem dX10_night_46 : decode cX10_night 46 = .ok (.aload_n 0, 1) := by decide +kernel
theorem dX10_night_47 : decode cX10_night 47 = .ok (.invokevirtual 193, 3) := by decide +kernel
theorem dX10_night_50 : decode cX10_night 50 = .ok (.goto (-31), 3) := by decide +kernel
theorem dX10_night_53 : decode cX10_night 53 = .ok (.aload_n 0, 1) := by decide +kernel
theorem dX10_night_54 : decode cX10_night 54 = .ok (.iconst 0, 1) := by decide +kernel
theorem dX10_night_55 : decode cX10_night 55 = .ok (.putfield 151, 3) := by decide +kernel
theorem dX10_night_58 : decode cX10_night 58 = .ok (.aload_n 0, 1) := by decide +kernel
theorem dX10_night_59 : decode cX10_night 59 = .ok (.getfield 157, 3) := by decide +kernel
theorem dX10_night_62 : decode cX10_night 62 = .ok (.ifCond .eq 8, 3) := by decide +kernel
theorem dX10_night_65 : decode cX10_night 65 = .ok (.aload_n 0, 1) := by decide +kernel
theorem dX10_night_66 : decode cX10_night 66 = .ok (.getfield 157, 3) := by decide +kernel
theorem dX10_night_69 : decode cX10_night 69 = .ok (.ireturn, 1) := by decide +kernel
theorem dX10_night_70 : decode cX10_night 70 = .ok (.iconst 0, 1) := by decide +kernel
theorem dX10_night_71 : decode cX10_night 71 = .ok (.istore_n 1, 1) := by decide +kernel
theorem dX10_night_72 : decode cX10_night 72 = .ok (.iload_n 1, 1) := by decide +kernel
theorem dX10_night_73 : decode cX10_night 73 = .ok (.aload_n 0, 1) := by decide +kernel
theorem dX10_night_74 : decode cX10_night 74 = .ok (.getfield 190, 3) := by decide +kernel
theorem dX10_night_77 : decode cX10_night 77 = .ok (.if_icmp .ge 35, 3) := by decide +kernel
theorem dX10_night_80 : decode cX10_night 80 = .ok (.aload_n 0, 1) := by decide +kernel
theorem dX10_night_81 : decode cX10_night 81 = .ok (.aload_n 0, 1) := by decide +kernel
theorem dX10_night_82 : decode cX10_night 82 = .ok (.getfield 46, 3) := by decide +kernel
theorem dX10_night_85 : decode cX10_night 85 = .ok (.iload_n 1, 1) := by decide +kernel
theorem dX10_night_86 : decode cX10_night 86 = .ok (.iaload, 1) := by decide +kernel
theorem dX10_night_87 : decode cX10_night 87 = .ok (.invokevirtual 196, 3) := by decide +kernel
theorem dX10_night_90 : decode cX10_night 90 = .ok (.ifCond .eq 22, 3) := by decide +kernel
theorem dX10_night_93 : decode cX10_night 93 = .ok (.aload_n 0, 1) := by decide +kernel
theorem dX10_night_94 : decode cX10_night 94 = .ok (.aload_n 0, 1) := by decide +kernel
theorem dX10_night_95 : decode cX10_night 95 = .ok (.getfield 46, 3) := by decide +kernel
theorem dX10_night_98 : decode cX10_night 98 = .ok (.iload_n 1, 1) := by decide +kernel
theorem dX10_night_99 : decode cX10_night 99 = .ok (.iaload, 1) := by decide +kernel
theorem dX10_night_100 : decode cX10_night 100 = .ok (.invokevirtual 199, 3) := by decide +kernel
theorem dX10_night_103 : decode cX10_night 103 = .ok (.ifCond .eq 9, 3) := by decide +kernel
theorem dX10_night_106 : decode cX10_night 106 = .ok (.iinc 1 1, 3) := by decide +kernel
theorem dX10_night_109 : decode cX10_night 109 = .ok (.goto (-37), 3) := by decide +kernel
theorem dX10_night_112 : decode cX10_night 112 = .ok (.iload_n 1, 1) := by decide +kernel
theorem dX10_night_113 : decode cX10_night 113 = .ok (.ireturn, 1) := by decide +kernel
theorem dX10_kindOf_0 : decode cX10_kindOf 0 = .ok (.iload_n 0, 1) := by decide +kernel
theorem dX10_kindOf_1 : decode cX10_kindOf 1 = .ok (.sipush 1000, 3) := by decide +kernel
theorem dX10_kindOf_4 : decode cX10_kindOf 4 = .ok (.idiv, 1) := by decide +kernel
theorem dX10_kindOf_5 : decode cX10_kindOf 5 = .ok (.ireturn, 1) := by decide +kernel
theorem dX10_placeOf_0 : decode cX10_placeOf 0 = .ok (.iload_n 0, 1) := by decide +kernel
theorem dX10_placeOf_1 : decode cX10_placeOf 1 = .ok (.bipush 100, 2) := by decide +kernel
theorem dX10_placeOf_3 : decode cX10_placeOf 3 = .ok (.idiv, 1) := by decide +kernel
theorem dX10_placeOf_4 : decode cX10_placeOf 4 = .ok (.bipush 10, 2) := by decide +kernel
theorem dX10_placeOf_6 : decode cX10_placeOf 6 = .ok (.irem, 1) := by decide +kernel
theorem dX10_placeOf_7 : decode cX10_placeOf 7 = .ok (.ireturn, 1) := by decide +kernel
theorem dX10_otherOf_0 : decode cX10_otherOf 0 = .ok (.iload_n 0, 1) := by decide +kernel
theorem dX10_otherOf_1 : decode cX10_otherOf 1 = .ok (.bipush 100, 2) := by decide +kernel
theorem dX10_otherOf_3 : decode cX10_otherOf 3 = .ok (.irem, 1) := by decide +kernel
theorem dX10_otherOf_4 : decode cX10_otherOf 4 = .ok (.ireturn, 1) := by decide +kernel
theorem dX10_canBe_0 : decode cX10_canBe 0 = .ok (.iload_n 1, 1) := by decide +kernel
theorem dX10_canBe_1 : decode cX10_canBe 1 = .ok (.invokestatic 202, 3) := by decide +kernel
theorem dX10_canBe_4 : decode cX10_canBe 4 = .ok (.istore_n 2, 1) := by decide +kernel
theorem dX10_canBe_5 : decode cX10_canBe 5 = .ok (.iload_n 1, 1) := by decide +kernel
theorem dX10_canBe_6 : decode cX10_canBe 6 = .ok (.invokestatic 205, 3) := by decide +kernel
theorem dX10_canBe_9 : decode cX10_canBe 9 = .ok (.istore_n 3, 1) := by decide +kernel
theorem dX10_canBe_10 : decode cX10_canBe 10 = .ok (.iload_n 1, 1) := by decide +kernel
theorem dX10_canBe_11 : decode cX10_canBe 11 = .ok (.invokestatic 208, 3) := by decide +kernel
theorem dX10_canBe_14 : decode cX10_canBe 14 = .ok (.istore 4, 2) := by decide +kernel
theorem dX10_canBe_16 : decode cX10_canBe 16 = .ok (.iload 4, 2) := by decide +kernel
theorem dX10_canBe_18 : decode cX10_canBe 18 = .ok (.iconst 1, 1) := by decide +kernel
theorem dX10_canBe_19 : decode cX10_canBe 19 = .ok (.if_icmp .eq 12, 3) := by decide +kernel
theorem dX10_canBe_22 : decode cX10_canBe 22 = .ok (.aload_n 0, 1) := by decide +kernel
theorem dX10_canBe_23 : decode cX10_canBe 23 = .ok (.getfield 22, 3) := by decide +kernel
theorem dX10_canBe_26 : decode cX10_canBe 26 = .ok (.iload_n 2, 1) := by decide +kernel
theorem dX10_canBe_27 : decode cX10_canBe 27 = .ok (.iaload, 1) := by decide +kernel
theorem dX10_canBe_28 : decode cX10_canBe 28 = .ok (.ifCond .le 7, 3) := by decide +kernel
theorem dX10_canBe_31 : decode cX10_canBe 31 = .ok (.iconst 1, 1) := by decide +kernel
theorem dX10_canBe_32 : decode cX10_canBe 32 = .ok (.goto 4, 3) := by decide +kernel
theorem dX10_canBe_35 : decode cX10_canBe 35 = .ok (.iconst 0, 1) := by decide +kernel
theorem dX10_canBe_36 : decode cX10_canBe 36 = .ok (.istore 5, 2) := by decide +kernel
theorem dX10_canBe_38 : decode cX10_canBe 38 = .ok (.iload 4, 2) := by decide +kernel
theorem dX10_canBe_40 : decode cX10_canBe 40 = .ok (.iconst 1, 1) := by decide +kernel
theorem dX10_canBe_41 : decode cX10_canBe 41 = .ok (.if_icmp .eq 9, 3) := by decide +kernel
theorem dX10_canBe_44 : decode cX10_canBe 44 = .ok (.iload 4, 2) := by decide +kernel
theorem dX10_canBe_46 : decode cX10_canBe 46 = .ok (.iconst 2, 1) := by decide +kernel
theorem dX10_canBe_47 : decode cX10_canBe 47 = .ok (.if_icmp .ne 22, 3) := by decide +kernel
theorem dX10_canBe_50 : decode cX10_canBe 50 = .ok (.iload_n 3, 1) := by decide +kernel
theorem dX10_canBe_51 : decode cX10_canBe 51 = .ok (.aload_n 0, 1) := by decide +kernel
theorem dX10_canBe_52 : decode cX10_canBe 52 = .ok (.getfield 83, 3) := by decide +kernel
theorem dX10_canBe_55 : decode cX10_canBe 55 = .ok (.if_icmp .ge 18, 3) := by decide +kernel
theorem dX10_canBe_58 : decode cX10_canBe 58 = .ok (.aload_n 0, 1) := by decide +kernel
theorem dX10_canBe_59 : decode cX10_canBe 59 = .ok (.getfield 19, 3) := by decide +kernel
theorem dX10_canBe_62 : decode cX10_canBe 62 = .ok (.iload_n 3, 1) := by decide +kernel
theorem dX10_canBe_63 : decode cX10_canBe 63 = .ok (.iaload, 1) := by decide +kernel
theorem dX10_canBe_64 : decode cX10_canBe 64 = .ok (.bipush 6, 2) := by decide +kernel
theorem dX10_canBe_66 : decode cX10_canBe 66 = .ok (.if_icmp .ne 7, 3) := by decide +kernel
theorem dX10_canBe_69 : decode cX10_canBe 69 = .ok (.iconst 1, 1) := by decide +kernel
theorem dX10_canBe_70 : decode cX10_canBe 70 = .ok (.goto 4, 3) := by decide +kernel
theorem dX10_canBe_73 : decode cX10_canBe 73 = .ok (.iconst 0, 1) := by decide +kernel
theorem dX10_canBe_74 : decode cX10_canBe 74 = .ok (.istore 6, 2) := by decide +kernel
theorem dX10_canBe_76 : decode cX10_canBe 76 = .ok (.iload 5, 2) := by decide +kernel
theorem dX10_canBe_78 : decode cX10_canBe 78 = .ok (.ifCond .eq 23, 3) := by decide +kernel
theorem dX10_canBe_81 : decode cX10_canBe 81 = .ok (.iload 6, 2) := by decide +kernel
theorem dX10_canBe_83 : decode cX10_canBe 83 = .ok (.ifCond .eq 18, 3) := by decide +kernel
theorem dX10_canBe_86 : decode cX10_canBe 86 = .ok (.iload 4, 2) := by decide +kernel
theorem dX10_canBe_88 : decode cX10_canBe 88 = .ok (.iconst 3, 1) := by decide +kernel
theorem dX10_canBe_89 : decode cX10_canBe 89 = .ok (.if_icmp .ne 8, 3) := by decide +kernel
theorem dX10_canBe_92 : decode cX10_canBe 92 = .ok (.iload_n 2, 1) := by decide +kernel
theorem dX10_canBe_93 : decode cX10_canBe 93 = .ok (.iload_n 3, 1) := by decide +kernel
theorem dX10_canBe_94 : decode cX10_canBe 94 = .ok (.if_icmp .eq 7, 3) := by decide +kernel
theorem dX10_canBe_97 : decode cX10_canBe 97 = .ok (.iconst 1, 1) := by decide +kernel
theorem dX10_canBe_98 : decode cX10_canBe 98 = .ok (.goto 4, 3) := by decide +kernel
theorem dX10_canBe_101 : decode cX10_canBe 101 = .ok (.iconst 0, 1) := by decide +kernel
theorem dX10_canBe_102 : decode cX10_canBe 102 = .ok (.ireturn, 1) := by decide +kernel
theorem dX10_size_0 : decode cX10_size 0 = .ok (.iload_n 0, 1) := by decide +kernel
theorem dX10_size_1 : decode cX10_size 1 = .ok (.ifCond .ge 8, 3) := by decide +kernel
theorem dX10_size_4 : decode cX10_size 4 = .ok (.iload_n 0, 1) := by decide +kernel
theorem dX10_size_5 : decode cX10_size 5 = .ok (.ineg, 1) := by decide +kernel
theorem dX10_size_6 : decode cX10_size 6 = .ok (.goto 4, 3) := by decide +kernel
theorem dX10_size_9 : decode cX10_size 9 = .ok (.iload_n 0, 1) := by decide +kernel
theorem dX10_size_10 : decode cX10_size 10 = .ok (.ireturn, 1) := by decide +kernel
theorem dX10_isFelt_0 : decode cX10_isFelt 0 = .ok (.iload_n 1, 1) := by decide +kernel
theorem dX10_isFelt_1 : decode cX10_isFelt 1 = .ok (.invokestatic 202, 3) := by decide +kernel
theorem dX10_isFelt_4 : decode cX10_isFelt 4 = .ok (.istore_n 2, 1) := by decide +kernel
theorem dX10_isFelt_5 : decode cX10_isFelt 5 = .ok (.iload_n 1, 1) := by decide +kernel
theorem dX10_isFelt_6 : decode cX10_isFelt 6 = .ok (.invokestatic 205, 3) := by decide +kernel
theorem dX10_isFelt_9 : decode cX10_isFelt 9 = .ok (.istore_n 3, 1) := by decide +kernel
theorem dX10_isFelt_10 : decode cX10_isFelt 10 = .ok (.iload_n 1, 1) := by decide +kernel
theorem dX10_isFelt_11 : decode cX10_isFelt 11 = .ok (.invokestatic 208, 3) := by decide +kernel
theorem dX10_isFelt_14 : decode cX10_isFelt 14 = .ok (.iconst 1, 1) := by decide +kernel
theorem dX10_isFelt_15 : decode cX10_isFelt 15 = .ok (.if_icmp .ne 7, 3) := by decide +kernel
theorem dX10_isFelt_18 : decode cX10_isFelt 18 = .ok (.iconst 0, 1) := by decide +kernel
theorem dX10_isFelt_19 : decode cX10_isFelt 19 = .ok (.goto 12, 3) := by decide +kernel
theorem dX10_isFelt_22 : decode cX10_isFelt 22 = .ok (.aload_n 0, 1) := by decide +kernel
theorem dX10_isFelt_23 : decode cX10_isFelt 23 = .ok (.aload_n 0, 1) := by decide +kernel
theorem dX10_isFelt_24 : decode cX10_isFelt 24 = .ok (.iload_n 2, 1) := by decide +kernel
theorem dX10_isFelt_25 : decode cX10_isFelt 25 = .ok (.invokevirtual 93, 3) := by decide +kernel
theorem dX10_isFelt_28 : decode cX10_isFelt 28 = .ok (.invokevirtual 97, 3) := by decide +kernel
theorem dX10_isFelt_31 : decode cX10_isFelt 31 = .ok (.istore 4, 2) := by decide +kernel
theorem dX10_isFelt_33 : decode cX10_isFelt 33 = .ok (.iload_n 1, 1) := by decide +kernel
theorem dX10_isFelt_34 : decode cX10_isFelt 34 = .ok (.invokestatic 208, 3) := by decide +kernel
theorem dX10_isFelt_37 : decode cX10_isFelt 37 = .ok (.iconst 1, 1) := by decide +kernel
theorem dX10_isFelt_38 : decode cX10_isFelt 38 = .ok (.if_icmp .eq 11, 3) := by decide +kernel
theorem dX10_isFelt_41 : decode cX10_isFelt 41 = .ok (.iload_n 1, 1) := by decide +kernel
theorem dX10_isFelt_42 : decode cX10_isFelt 42 = .ok (.invokestatic 208, 3) := by decide +kernel
theorem dX10_isFelt_45 : decode cX10_isFelt 45 = .ok (.iconst 2, 1) := by decide +kernel
theorem dX10_isFelt_46 : decode cX10_isFelt 46 = .ok (.if_icmp .ne 11, 3) := by decide +kernel
theorem dX10_isFelt_49 : decode cX10_isFelt 49 = .ok (.aload_n 0, 1) := by decide +kernel
theorem dX10_isFelt_50 : decode cX10_isFelt 50 = .ok (.iload_n 3, 1) := by decide +kernel
theorem dX10_isFelt_51 : decode cX10_isFelt 51 = .ok (.invokevirtual 97, 3) := by decide +kernel
theorem dX10_isFelt_54 : decode cX10_isFelt 54 = .ok (.goto 4, 3) := by decide +kernel
theorem dX10_isFelt_57 : decode cX10_isFelt 57 = .ok (.iconst 0, 1) := by decide +kernel
theorem dX10_isFelt_58 : decode cX10_isFelt 58 = .ok (.istore 5, 2) := by decide +kernel
theorem dX10_isFelt_60 : decode cX10_isFelt 60 = .ok (.iload 4, 2) := by decide +kernel
theorem dX10_isFelt_62 : decode cX10_isFelt 62 = .ok (.iload 5, 2) := by decide +kernel
theorem dX10_isFelt_64 : decode cX10_isFelt 64 = .ok (.isub, 1) := by decide +kernel
theorem dX10_isFelt_65 : decode cX10_isFelt 65 = .ok (.invokestatic 211, 3) := by decide +kernel
theorem dX10_isFelt_68 : decode cX10_isFelt 68 = .ok (.aload_n 0, 1) := by decide +kernel
theorem dX10_isFelt_69 : decode cX10_isFelt 69 = .ok (.getfield 28, 3) := by decide +kernel
theorem dX10_isFelt_72 : decode cX10_isFelt 72 = .ok (.iload_n 2, 1) := by decide +kernel
theorem dX10_isFelt_73 : decode cX10_isFelt 73 = .ok (.iaload, 1) := by decide +kernel
theorem dX10_isFelt_74 : decode cX10_isFelt 74 = .ok (.if_icmp .gt 22, 3) := by decide +kernel
theorem dX10_isFelt_77 : decode cX10_isFelt 77 = .ok (.iload_n 1, 1) := by decide +kernel
theorem dX10_isFelt_78 : decode cX10_isFelt 78 = .ok (.invokestatic 208, 3) := by decide +kernel
theorem dX10_isFelt_81 : decode cX10_isFelt 81 = .ok (.iconst 3, 1) := by decide +kernel
theorem dX10_isFelt_82 : decode cX10_isFelt 82 = .ok (.if_icmp .ne 18, 3) := by decide +kernel
theorem dX10_isFelt_85 : decode cX10_isFelt 85 = .ok (.iload 4, 2) := by decide +kernel
theorem dX10_isFelt_87 : decode cX10_isFelt 87 = .ok (.aload_n 0, 1) := by decide +kernel
theorem dX10_isFelt_88 : decode cX10_isFelt 88 = .ok (.getfield 28, 3) := by decide +kernel
theorem dX10_isFelt_91 : decode cX10_isFelt 91 = .ok (.iload_n 3, 1) := by decide +kernel
theorem dX10_isFelt_92 : decode cX10_isFelt 92 = .ok (.iaload, 1) := by decide +kernel
theorem dX10_isFelt_93 : decode cX10_isFelt 93 = .ok (.if_icmp .le 7, 3) := by decide +kernel
theorem dX10_isFelt_96 : decode cX10_isFelt 96 = .ok (.iconst 1, 1) := by decide +kernel
theorem dX10_isFelt_97 : decode cX10_isFelt 97 = .ok (.goto 4, 3) := by decide +kernel
theorem dX10_isFelt_100 : decode cX10_isFelt 100 = .ok (.iconst 0, 1) := by decide +kernel
theorem dX10_isFelt_101 : decode cX10_isFelt 101 = .ok (.ireturn, 1) := by decide +kernel
theorem dX10_doAct_0 : decode cX10_doAct 0 = .ok (.iload_n 1, 1) := by decide +kernel
theorem dX10_doAct_1 : decode cX10_doAct 1 = .ok (.invokestatic 202, 3) := by decide +kernel
theorem dX10_doAct_4 : decode cX10_doAct 4 = .ok (.istore_n 2, 1) := by decide +kernel
theorem dX10_doAct_5 : decode cX10_doAct 5 = .ok (.iload_n 1, 1) := by decide +kernel
theorem dX10_doAct_6 : decode cX10_doAct 6 = .ok (.invokestatic 205, 3) := by decide +kernel
theorem dX10_doAct_9 : decode cX10_doAct 9 = .ok (.istore_n 3, 1) := by decide +kernel
theorem dX10_doAct_10 : decode cX10_doAct 10 = .ok (.iload_n 1, 1) := by decide +kernel
theorem dX10_doAct_11 : decode cX10_doAct 11 = .ok (.invokestatic 208, 3) := by decide +kernel
theorem dX10_doAct_14 : decode cX10_doAct 14 = .ok (.iconst 1, 1) := by decide +kernel
theorem dX10_doAct_15 : decode cX10_doAct 15 = .ok (.if_icmp .ne 7, 3) := by decide +kernel
theorem dX10_doAct_18 : decode cX10_doAct 18 = .ok (.iload_n 3, 1) := by decide +kernel
theorem dX10_doAct_19 : decode cX10_doAct 19 = .ok (.goto 8, 3) := by decide +kernel
theorem dX10_doAct_22 : decode cX10_doAct 22 = .ok (.aload_n 0, 1) := by decide +kernel
theorem dX10_doAct_23 : decode cX10_doAct 23 = .ok (.iload_n 2, 1) := by decide +kernel
theorem dX10_doAct_24 : decode cX10_doAct 24 = .ok (.invokevirtual 214, 3) := by decide +kernel
theorem dX10_doAct_27 : decode cX10_doAct 27 = .ok (.istore 4, 2) := by decide +kernel
theorem dX10_doAct_29 : decode cX10_doAct 29 = .ok (.iload_n 1, 1) := by decide +kernel
theorem dX10_doAct_30 : decode cX10_doAct 30 = .ok (.invokestatic 208, 3) := by decide +kernel
theorem dX10_doAct_33 : decode cX10_doAct 33 = .ok (.iconst 1, 1) := by decide +kernel
theorem dX10_doAct_34 : decode cX10_doAct 34 = .ok (.if_icmp .eq 11, 3) := by decide +kernel
theorem dX10_doAct_37 : decode cX10_doAct 37 = .ok (.iload_n 1, 1) := by decide +kernel
theorem dX10_doAct_38 : decode cX10_doAct 38 = .ok (.invokestatic 208, 3) := by decide +kernel
theorem dX10_doAct_41 : decode cX10_doAct 41 = .ok (.iconst 2, 1) := by decide +kernel
theorem dX10_doAct_42 : decode cX10_doAct 42 = .ok (.if_icmp .ne 9, 3) := by decide +kernel
theorem dX10_doAct_45 : decode cX10_doAct 45 = .ok (.aload_n 0, 1) := by decide +kernel
theorem dX10_doAct_46 : decode cX10_doAct 46 = .ok (.iload_n 3, 1) := by decide +kernel
theorem dX10_doAct_47 : decode cX10_doAct 47 = .ok (.iload_n 2, 1) := by decide +kernel
theorem dX10_doAct_48 : decode cX10_doAct 48 = .ok (.invokevirtual 100, 3) := by decide +kernel
theorem dX10_doAct_51 : decode cX10_doAct 51 = .ok (.iload_n 1, 1) := by decide +kernel
theorem dX10_doAct_52 : decode cX10_doAct 52 = .ok (.invokestatic 208, 3) := by decide +kernel
theorem dX10_doAct_55 : decode cX10_doAct 55 = .ok (.iconst 3, 1) := by decide +kernel
theorem dX10_doAct_56 : decode cX10_doAct 56 = .ok (.if_icmp .ne 10, 3) := by decide +kernel
theorem dX10_doAct_59 : decode cX10_doAct 59 = .ok (.aload_n 0, 1) := by decide +kernel
theorem dX10_doAct_60 : decode cX10_doAct 60 = .ok (.iload 4, 2) := by decide +kernel
theorem dX10_doAct_62 : decode cX10_doAct 62 = .ok (.iload_n 3, 1) := by decide +kernel
theorem dX10_doAct_63 : decode cX10_doAct 63 = .ok (.invokevirtual 100, 3) := by decide +kernel
theorem dX10_doAct_66 : decode cX10_doAct 66 = .ok (.iload 4, 2) := by decide +kernel
theorem dX10_doAct_68 : decode cX10_doAct 68 = .ok (.ireturn, 1) := by decide +kernel
theorem dX10_wake_0 : decode cX10_wake 0 = .ok (.aload_n 0, 1) := by decide +kernel
theorem dX10_wake_1 : decode cX10_wake 1 = .ok (.dup, 1) := by decide +kernel
theorem dX10_wake_2 : decode cX10_wake 2 = .ok (.getfield 133, 3) := by decide +kernel
theorem dX10_wake_5 : decode cX10_wake 5 = .ok (.iconst 1, 1) := by decide +kernel
theorem dX10_wake_6 : decode cX10_wake 6 = .ok (.iadd, 1) := by decide +kernel
theorem dX10_wake_7 : decode cX10_wake 7 = .ok (.putfield 133, 3) := by decide +kernel
theorem dX10_wake_10 : decode cX10_wake 10 = .ok (.iconst (-1), 1) := by decide +kernel
theorem dX10_wake_11 : decode cX10_wake 11 = .ok (.istore_n 1, 1) := by decide +kernel
theorem dX10_wake_12 : decode cX10_wake 12 = .ok (.iconst 0, 1) := by decide +kernel
theorem dX10_wake_13 : decode cX10_wake 13 = .ok (.istore_n 2, 1) := by decide +kernel
theorem dX10_wake_14 : decode cX10_wake 14 = .ok (.iload_n 2, 1) := by decide +kernel
theorem dX10_wake_15 : decode cX10_wake 15 = .ok (.aload_n 0, 1) := by decide +kernel
theorem dX10_wake_16 : decode cX10_wake 16 = .ok (.getfield 83, 3) := by decide +kernel
theorem dX10_wake_19 : decode cX10_wake 19 = .ok (.if_icmp .ge 63, 3) := by decide +kernel
theorem dX10_wake_22 : decode cX10_wake 22 = .ok (.aload_n 0, 1) := by decide +kernel
theorem dX10_wake_23 : decode cX10_wake 23 = .ok (.getfield 19, 3) := by decide +kernel
theorem dX10_wake_26 : decode cX10_wake 26 = .ok (.iload_n 2, 1) := by decide +kernel
theorem dX10_wake_27 : decode cX10_wake 27 = .ok (.iaload, 1) := by decide +kernel
theorem dX10_wake_28 : decode cX10_wake 28 = .ok (.bipush 6, 2) := by decide +kernel
theorem dX10_wake_30 : decode cX10_wake 30 = .ok (.if_icmp .ne 17, 3) := by decide +kernel
theorem dX10_wake_33 : decode cX10_wake 33 = .ok (.aload_n 0, 1) := by decide +kernel
theorem dX10_wake_34 : decode cX10_wake 34 = .ok (.getfield 7, 3) := by decide +kernel
theorem dX10_wake_37 : decode cX10_wake 37 = .ok (.iload_n 2, 1) := by decide +kernel
theorem dX10_wake_38 : decode cX10_wake 38 = .ok (.iaload, 1) := by decide +kernel
theorem dX10_wake_39 : decode cX10_wake 39 = .ok (.iconst 3, 1) := by decide +kernel
theorem dX10_wake_40 : decode cX10_wake 40 = .ok (.if_icmp .eq 7, 3) := by decide +kernel
theorem dX10_wake_43 : decode cX10_wake 43 = .ok (.iconst 1, 1) := by decide +kernel
theorem dX10_wake_44 : decode cX10_wake 44 = .ok (.goto 4, 3) := by decide +kernel
theorem dX10_wake_47 : decode cX10_wake 47 = .ok (.iconst 0, 1) := by decide +kernel
theorem dX10_wake_48 : decode cX10_wake 48 = .ok (.istore_n 3, 1) := by decide +kernel
theorem dX10_wake_49 : decode cX10_wake 49 = .ok (.iload_n 3, 1) := by decide +kernel
theorem dX10_wake_50 : decode cX10_wake 50 = .ok (.ifCond .eq 24, 3) := by decide +kernel
theorem dX10_wake_53 : decode cX10_wake 53 = .ok (.iload_n 1, 1) := by decide +kernel
theorem dX10_wake_54 : decode cX10_wake 54 = .ok (.ifCond .lt 16, 3) := by decide +kernel
theorem dX10_wake_57 : decode cX10_wake 57 = .ok (.aload_n 0, 1) := by decide +kernel
theorem dX10_wake_58 : decode cX10_wake 58 = .ok (.iload_n 2, 1) := by decide +kernel
theorem dX10_wake_59 : decode cX10_wake 59 = .ok (.invokevirtual 97, 3) := by decide +kernel
theorem dX10_wake_62 : decode cX10_wake 62 = .ok (.aload_n 0, 1) := by decide +kernel
theorem dX10_wake_63 : decode cX10_wake 63 = .ok (.iload_n 1, 1) := by decide +kernel
theorem dX10_wake_64 : decode cX10_wake 64 = .ok (.invokevirtual 97, 3) := by decide +kernel
theorem dX10_wake_67 : decode cX10_wake 67 = .ok (.if_icmp .ge 7, 3) := by decide +kernel
theorem dX10_wake_70 : decode cX10_wake 70 = .ok (.iload_n 2, 1) := by decide +kernel
theorem dX10_wake_71 : decode cX10_wake 71 = .ok (.goto 4, 3) := by decide +kernel
theorem dX10_wake_74 : decode cX10_wake 74 = .ok (.iload_n 1, 1) := by decide +kernel
theorem dX10_wake_75 : decode cX10_wake 75 = .ok (.istore_n 1, 1) := by decide +kernel
theorem dX10_wake_76 : decode cX10_wake 76 = .ok (.iinc 2 1, 3) := by decide +kernel
theorem dX10_wake_79 : decode cX10_wake 79 = .ok (.goto (-65), 3) := by decide +kernel
theorem dX10_wake_82 : decode cX10_wake 82 = .ok (.iload_n 1, 1) := by decide +kernel
theorem dX10_wake_83 : decode cX10_wake 83 = .ok (.ifCond .lt 11, 3) := by decide +kernel
theorem dX10_wake_86 : decode cX10_wake 86 = .ok (.aload_n 0, 1) := by decide +kernel
theorem dX10_wake_87 : decode cX10_wake 87 = .ok (.getfield 19, 3) := by decide +kernel
theorem dX10_wake_90 : decode cX10_wake 90 = .ok (.iload_n 1, 1) := by decide +kernel
theorem dX10_wake_91 : decode cX10_wake 91 = .ok (.bipush 7, 2) := by decide +kernel
theorem dX10_wake_93 : decode cX10_wake 93 = .ok (.iastore, 1) := by decide +kernel
theorem dX10_wake_94 : decode cX10_wake 94 = .ok (.return_, 1) := by decide +kernel
theorem dX10_goes_0 : decode cX10_goes 0 = .ok (.aload_n 0, 1) := by decide +kernel
theorem dX10_goes_1 : decode cX10_goes 1 = .ok (.iload_n 1, 1) := by decide +kernel
theorem dX10_goes_2 : decode cX10_goes 2 = .ok (.invokevirtual 217, 3) := by decide +kernel
theorem dX10_goes_5 : decode cX10_goes 5 = .ok (.ifCond .eq 9, 3) := by decide +kernel
theorem dX10_goes_8 : decode cX10_goes 8 = .ok (.aload_n 0, 1) := by decide +kernel
theorem dX10_goes_9 : decode cX10_goes 9 = .ok (.invokevirtual 220, 3) := by decide +kernel
theorem dX10_goes_12 : decode cX10_goes 12 = .ok (.iconst 0, 1) := by decide +kernel
theorem dX10_goes_13 : decode cX10_goes 13 = .ok (.ireturn, 1) := by decide +kernel
theorem dX10_goes_14 : decode cX10_goes 14 = .ok (.aload_n 0, 1) := by decide +kernel
theorem dX10_goes_15 : decode cX10_goes 15 = .ok (.iload_n 1, 1) := by decide +kernel
theorem dX10_goes_16 : decode cX10_goes 16 = .ok (.invokevirtual 223, 3) := by decide +kernel
theorem dX10_goes_19 : decode cX10_goes 19 = .ok (.istore_n 2, 1) := by decide +kernel
theorem dX10_goes_20 : decode cX10_goes 20 = .ok (.iconst 1, 1) := by decide +kernel
theorem dX10_goes_21 : decode cX10_goes 21 = .ok (.ireturn, 1) := by decide +kernel
theorem dX10_tryAct_0 : decode cX10_tryAct 0 = .ok (.aload_n 0, 1) := by decide +kernel
theorem dX10_tryAct_1 : decode cX10_tryAct 1 = .ok (.iload_n 1, 1) := by decide +kernel
theorem dX10_tryAct_2 : decode cX10_tryAct 2 = .ok (.invokevirtual 196, 3) := by decide +kernel
theorem dX10_tryAct_5 : decode cX10_tryAct 5 = .ok (.ifCond .ne 6, 3) := by decide +kernel
theorem dX10_tryAct_8 : decode cX10_tryAct 8 = .ok (.bipush (-2), 2) := by decide +kernel
theorem dX10_tryAct_10 : decode cX10_tryAct 10 = .ok (.ireturn, 1) := by decide +kernel
theorem dX10_tryAct_11 : decode cX10_tryAct 11 = .ok (.aload_n 0, 1) := by decide +kernel
theorem dX10_tryAct_12 : decode cX10_tryAct 12 = .ok (.iload_n 1, 1) := by decide +kernel
theorem dX10_tryAct_13 : decode cX10_tryAct 13 = .ok (.invokevirtual 217, 3) := by decide +kernel
theorem dX10_tryAct_16 : decode cX10_tryAct 16 = .ok (.ifCond .eq 10, 3) := by decide +kernel
theorem dX10_tryAct_19 : decode cX10_tryAct 19 = .ok (.aload_n 0, 1) := by decide +kernel
theorem dX10_tryAct_20 : decode cX10_tryAct 20 = .ok (.invokevirtual 220, 3) := by decide +kernel
theorem dX10_tryAct_23 : decode cX10_tryAct 23 = .ok (.bipush (-3), 2) := by decide +kernel
theorem dX10_tryAct_25 : decode cX10_tryAct 25 = .ok (.ireturn, 1) := by decide +kernel
theorem dX10_tryAct_26 : decode cX10_tryAct 26 = .ok (.aload_n 0, 1) := by decide +kernel
theorem dX10_tryAct_27 : decode cX10_tryAct 27 = .ok (.iload_n 1, 1) := by decide +kernel
theorem dX10_tryAct_28 : decode cX10_tryAct 28 = .ok (.invokevirtual 223, 3) := by decide +kernel
theorem dX10_tryAct_31 : decode cX10_tryAct 31 = .ok (.ireturn, 1) := by decide +kernel
theorem dX10_lift_0 : decode cX10_lift 0 = .ok (.iload_n 1, 1) := by decide +kernel
theorem dX10_lift_1 : decode cX10_lift 1 = .ok (.invokestatic 124, 3) := by decide +kernel
theorem dX10_lift_4 : decode cX10_lift 4 = .ok (.ifCond .eq 14, 3) := by decide +kernel
theorem dX10_lift_7 : decode cX10_lift 7 = .ok (.aload_n 0, 1) := by decide +kernel
theorem dX10_lift_8 : decode cX10_lift 8 = .ok (.bipush 100, 2) := by decide +kernel
theorem dX10_lift_10 : decode cX10_lift 10 = .ok (.iload_n 1, 1) := by decide +kernel
theorem dX10_lift_11 : decode cX10_lift 11 = .ok (.imul, 1) := by decide +kernel
theorem dX10_lift_12 : decode cX10_lift 12 = .ok (.invokevirtual 226, 3) := by decide +kernel
theorem dX10_lift_15 : decode cX10_lift 15 = .ok (.goto 4, 3) := by decide +kernel
theorem dX10_lift_18 : decode cX10_lift 18 = .ok (.iconst (-1), 1) := by decide +kernel
theorem dX10_lift_19 : decode cX10_lift 19 = .ok (.ireturn, 1) := by decide +kernel
theorem dX10_lay_0 : decode cX10_lay 0 = .ok (.aload_n 0, 1) := by decide +kernel
theorem dX10_lay_1 : decode cX10_lay 1 = .ok (.iload_n 1, 1) := by decide +kernel
theorem dX10_lay_2 : decode cX10_lay 2 = .ok (.invokevirtual 114, 3) := by decide +kernel
theorem dX10_lay_5 : decode cX10_lay 5 = .ok (.ifCond .eq 10, 3) := by decide +kernel
theorem dX10_lay_8 : decode cX10_lay 8 = .ok (.iload_n 2, 1) := by decide +kernel
theorem dX10_lay_9 : decode cX10_lay 9 = .ok (.invokestatic 124, 3) := by decide +kernel
theorem dX10_lay_12 : decode cX10_lay 12 = .ok (.ifCond .ne 5, 3) := by decide +kernel
theorem dX10_lay_15 : decode cX10_lay 15 = .ok (.iconst (-1), 1) := by decide +kernel
theorem dX10_lay_16 : decode cX10_lay 16 = .ok (.ireturn, 1) := by decide +kernel
theorem dX10_lay_17 : decode cX10_lay 17 = .ok (.aload_n 0, 1) := by decide +kernel
theorem dX10_lay_18 : decode cX10_lay 18 = .ok (.sipush 1000, 3) := by decide +kernel
theorem dX10_lay_21 : decode cX10_lay 21 = .ok (.bipush 100, 2) := by decide +kernel
theorem dX10_lay_23 : decode cX10_lay 23 = .ok (.iload_n 2, 1) := by decide +kernel
theorem dX10_lay_24 : decode cX10_lay 24 = .ok (.imul, 1) := by decide +kernel
theorem dX10_lay_25 : decode cX10_lay 25 = .ok (.iadd, 1) := by decide +kernel
theorem dX10_lay_26 : decode cX10_lay 26 = .ok (.iload_n 1, 1) := by decide +kernel
theorem dX10_lay_27 : decode cX10_lay 27 = .ok (.iadd, 1) := by decide +kernel
theorem dX10_lay_28 : decode cX10_lay 28 = .ok (.invokevirtual 226, 3) := by decide +kernel
theorem dX10_lay_31 : decode cX10_lay 31 = .ok (.istore_n 3, 1) := by decide +kernel
theorem dX10_lay_32 : decode cX10_lay 32 = .ok (.iload_n 3, 1) := by decide +kernel
theorem dX10_lay_33 : decode cX10_lay 33 = .ok (.ifCond .ge 7, 3) := by decide +kernel
theorem dX10_lay_36 : decode cX10_lay 36 = .ok (.iload_n 3, 1) := by decide +kernel
theorem dX10_lay_37 : decode cX10_lay 37 = .ok (.goto 8, 3) := by decide +kernel
theorem dX10_lay_40 : decode cX10_lay 40 = .ok (.aload_n 0, 1) := by decide +kernel
theorem dX10_lay_41 : decode cX10_lay 41 = .ok (.iload_n 2, 1) := by decide +kernel
theorem dX10_lay_42 : decode cX10_lay 42 = .ok (.invokevirtual 127, 3) := by decide +kernel
theorem dX10_lay_45 : decode cX10_lay 45 = .ok (.ireturn, 1) := by decide +kernel
theorem dX10_swap_0 : decode cX10_swap 0 = .ok (.aload_n 0, 1) := by decide +kernel
theorem dX10_swap_1 : decode cX10_swap 1 = .ok (.iload_n 2, 1) := by decide +kernel
theorem dX10_swap_2 : decode cX10_swap 2 = .ok (.invokevirtual 114, 3) := by decide +kernel
theorem dX10_swap_5 : decode cX10_swap 5 = .ok (.ifCond .eq 27, 3) := by decide +kernel
theorem dX10_swap_8 : decode cX10_swap 8 = .ok (.iload_n 1, 1) := by decide +kernel
theorem dX10_swap_9 : decode cX10_swap 9 = .ok (.invokestatic 124, 3) := by decide +kernel
theorem dX10_swap_12 : decode cX10_swap 12 = .ok (.ifCond .eq 20, 3) := by decide +kernel
theorem dX10_swap_15 : decode cX10_swap 15 = .ok (.aload_n 0, 1) := by decide +kernel
theorem dX10_swap_16 : decode cX10_swap 16 = .ok (.sipush 2000, 3) := by decide +kernel
theorem dX10_swap_19 : decode cX10_swap 19 = .ok (.bipush 100, 2) := by decide +kernel
theorem dX10_swap_21 : decode cX10_swap 21 = .ok (.iload_n 1, 1) := by decide +kernel
theorem dX10_swap_22 : decode cX10_swap 22 = .ok (.imul, 1) := by decide +kernel
theorem dX10_swap_23 : decode cX10_swap 23 = .ok (.iadd, 1) := by decide +kernel
theorem dX10_swap_24 : decode cX10_swap 24 = .ok (.iload_n 2, 1) := by decide +kernel
theorem dX10_swap_25 : decode cX10_swap 25 = .ok (.iadd, 1) := by decide +kernel
theorem dX10_swap_26 : decode cX10_swap 26 = .ok (.invokevirtual 226, 3) := by decide +kernel
theorem dX10_swap_29 : decode cX10_swap 29 = .ok (.goto 4, 3) := by decide +kernel
theorem dX10_swap_32 : decode cX10_swap 32 = .ok (.iconst (-1), 1) := by decide +kernel
theorem dX10_swap_33 : decode cX10_swap 33 = .ok (.ireturn, 1) := by decide +kernel
theorem dX10_push_0 : decode cX10_push 0 = .ok (.iload_n 1, 1) := by decide +kernel
theorem dX10_push_1 : decode cX10_push 1 = .ok (.invokestatic 124, 3) := by decide +kernel
theorem dX10_push_4 : decode cX10_push 4 = .ok (.ifCond .eq 32, 3) := by decide +kernel
theorem dX10_push_7 : decode cX10_push 7 = .ok (.iload_n 2, 1) := by decide +kernel
theorem dX10_push_8 : decode cX10_push 8 = .ok (.invokestatic 124, 3) := by decide +kernel
theorem dX10_push_11 : decode cX10_push 11 = .ok (.ifCond .eq 25, 3) := by decide +kernel
theorem dX10_push_14 : decode cX10_push 14 = .ok (.iload_n 1, 1) := by decide +kernel
theorem dX10_push_15 : decode cX10_push 15 = .ok (.iload_n 2, 1) := by decide +kernel
theorem dX10_push_16 : decode cX10_push 16 = .ok (.if_icmp .eq 20, 3) := by decide +kernel
theorem dX10_push_19 : decode cX10_push 19 = .ok (.aload_n 0, 1) := by decide +kernel
theorem dX10_push_20 : decode cX10_push 20 = .ok (.sipush 3000, 3) := by decide +kernel
theorem dX10_push_23 : decode cX10_push 23 = .ok (.bipush 100, 2) := by decide +kernel
theorem dX10_push_25 : decode cX10_push 25 = .ok (.iload_n 1, 1) := by decide +kernel
theorem dX10_push_26 : decode cX10_push 26 = .ok (.imul, 1) := by decide +kernel
theorem dX10_push_27 : decode cX10_push 27 = .ok (.iadd, 1) := by decide +kernel
theorem dX10_push_28 : decode cX10_push 28 = .ok (.iload_n 2, 1) := by decide +kernel
theorem dX10_push_29 : decode cX10_push 29 = .ok (.iadd, 1) := by decide +kernel
theorem dX10_push_30 : decode cX10_push 30 = .ok (.invokevirtual 226, 3) := by decide +kernel
theorem dX10_push_33 : decode cX10_push 33 = .ok (.goto 4, 3) := by decide +kernel
theorem dX10_push_36 : decode cX10_push 36 = .ok (.iconst (-1), 1) := by decide +kernel
theorem dX10_push_37 : decode cX10_push 37 = .ok (.ireturn, 1) := by decide +kernel
theorem dX10_turn_0 : decode cX10_turn 0 = .ok (.iconst 0, 1) := by decide +kernel
theorem dX10_turn_1 : decode cX10_turn 1 = .ok (.istore_n 1, 1) := by decide +kernel
theorem dX10_turn_2 : decode cX10_turn 2 = .ok (.iconst 0, 1) := by decide +kernel
theorem dX10_turn_3 : decode cX10_turn 3 = .ok (.istore_n 2, 1) := by decide +kernel
theorem dX10_turn_4 : decode cX10_turn 4 = .ok (.iload_n 2, 1) := by decide +kernel
theorem dX10_turn_5 : decode cX10_turn 5 = .ok (.bipush 72, 2) := by decide +kernel
theorem dX10_turn_7 : decode cX10_turn 7 = .ok (.if_icmp .ge 21, 3) := by decide +kernel
theorem dX10_turn_10 : decode cX10_turn 10 = .ok (.aload_n 0, 1) := by decide +kernel
theorem dX10_turn_11 : decode cX10_turn 11 = .ok (.getfield 49, 3) := by decide +kernel
theorem dX10_turn_14 : decode cX10_turn 14 = .ok (.iload_n 2, 1) := by decide +kernel
theorem dX10_turn_15 : decode cX10_turn 15 = .ok (.aload_n 0, 1) := by decide +kernel
theorem dX10_turn_16 : decode cX10_turn 16 = .ok (.getfield 25, 3) := by decide +kernel
theorem dX10_turn_19 : decode cX10_turn 19 = .ok (.iload_n 2, 1) := by decide +kernel
theorem dX10_turn_20 : decode cX10_turn 20 = .ok (.iaload, 1) := by decide +kernel
theorem dX10_turn_21 : decode cX10_turn 21 = .ok (.iastore, 1) := by decide +kernel
theorem dX10_turn_22 : decode cX10_turn 22 = .ok (.iinc 2 1, 3) := by decide +kernel
theorem dX10_turn_25 : decode cX10_turn 25 = .ok (.goto (-21), 3) := by decide +kernel
theorem dX10_turn_28 : decode cX10_turn 28 = .ok (.iconst 0, 1) := by decide +kernel
theorem dX10_turn_29 : decode cX10_turn 29 = .ok (.istore_n 2, 1) := by decide +kernel
theorem dX10_turn_30 : decode cX10_turn 30 = .ok (.iload_n 2, 1) := by decide +kernel
theorem dX10_turn_31 : decode cX10_turn 31 = .ok (.bipush 6, 2) := by decide +kernel
theorem dX10_turn_33 : decode cX10_turn 33 = .ok (.if_icmp .ge 30, 3) := by decide +kernel
theorem dX10_turn_36 : decode cX10_turn 36 = .ok (.aload_n 0, 1) := by decide +kernel
theorem dX10_turn_37 : decode cX10_turn 37 = .ok (.getfield 52, 3) := by decide +kernel
theorem dX10_turn_40 : decode cX10_turn 40 = .ok (.iload_n 2, 1) := by decide +kernel
theorem dX10_turn_41 : decode cX10_turn 41 = .ok (.aload_n 0, 1) := by decide +kernel
theorem dX10_turn_42 : decode cX10_turn 42 = .ok (.getfield 22, 3) := by decide +kernel
theorem dX10_turn_45 : decode cX10_turn 45 = .ok (.iload_n 2, 1) := by decide +kernel
theorem dX10_turn_46 : decode cX10_turn 46 = .ok (.iaload, 1) := by decide +kernel
theorem dX10_turn_47 : decode cX10_turn 47 = .ok (.iastore, 1) := by decide +kernel
theorem dX10_turn_48 : decode cX10_turn 48 = .ok (.iload_n 1, 1) := by decide +kernel
theorem dX10_turn_49 : decode cX10_turn 49 = .ok (.aload_n 0, 1) := by decide +kernel
theorem dX10_turn_50 : decode cX10_turn 50 = .ok (.getfield 22, 3) := by decide +kernel
theorem dX10_turn_53 : decode cX10_turn 53 = .ok (.iload_n 2, 1) := by decide +kernel
theorem dX10_turn_54 : decode cX10_turn 54 = .ok (.iaload, 1) := by decide +kernel
theorem dX10_turn_55 : decode cX10_turn 55 = .ok (.iadd, 1) := by decide +kernel
theorem dX10_turn_56 : decode cX10_turn 56 = .ok (.istore_n 1, 1) := by decide +kernel
theorem dX10_turn_57 : decode cX10_turn 57 = .ok (.iinc 2 1, 3) := by decide +kernel
theorem dX10_turn_60 : decode cX10_turn 60 = .ok (.goto (-30), 3) := by decide +kernel
theorem dX10_turn_63 : decode cX10_turn 63 = .ok (.iconst 0, 1) := by decide +kernel
theorem dX10_turn_64 : decode cX10_turn 64 = .ok (.istore_n 2, 1) := by decide +kernel
theorem dX10_turn_65 : decode cX10_turn 65 = .ok (.iload_n 2, 1) := by decide +kernel
theorem dX10_turn_66 : decode cX10_turn 66 = .ok (.bipush 6, 2) := by decide +kernel
theorem dX10_turn_68 : decode cX10_turn 68 = .ok (.if_icmp .ge 55, 3) := by decide +kernel
theorem dX10_turn_71 : decode cX10_turn 71 = .ok (.aload_n 0, 1) := by decide +kernel
theorem dX10_turn_72 : decode cX10_turn 72 = .ok (.getfield 22, 3) := by decide +kernel
theorem dX10_turn_75 : decode cX10_turn 75 = .ok (.iload_n 2, 1) := by decide +kernel
theorem dX10_turn_76 : decode cX10_turn 76 = .ok (.iconst 0, 1) := by decide +kernel
theorem dX10_turn_77 : decode cX10_turn 77 = .ok (.iastore, 1) := by decide +kernel
theorem dX10_turn_78 : decode cX10_turn 78 = .ok (.aload_n 0, 1) := by decide +kernel
theorem dX10_turn_79 : decode cX10_turn 79 = .ok (.getfield 52, 3) := by decide +kernel
theorem dX10_turn_82 : decode cX10_turn 82 = .ok (.iconst 5, 1) := by decide +kernel
theorem dX10_turn_83 : decode cX10_turn 83 = .ok (.iload_n 2, 1) := by decide +kernel
theorem dX10_turn_84 : decode cX10_turn 84 = .ok (.isub, 1) := by decide +kernel
theorem dX10_turn_85 : decode cX10_turn 85 = .ok (.iaload, 1) := by decide +kernel
theorem dX10_turn_86 : decode cX10_turn 86 = .ok (.iconst 1, 1) := by decide +kernel
theorem dX10_turn_87 : decode cX10_turn 87 = .ok (.isub, 1) := by decide +kernel
theorem dX10_turn_88 : decode cX10_turn 88 = .ok (.istore_n 3, 1) := by decide +kernel
theorem dX10_turn_89 : decode cX10_turn 89 = .ok (.iload_n 3, 1) := by decide +kernel
theorem dX10_turn_90 : decode cX10_turn 90 = .ok (.ifCond .lt 27, 3) := by decide +kernel
theorem dX10_turn_93 : decode cX10_turn 93 = .ok (.aload_n 0, 1) := by decide +kernel
theorem dX10_turn_94 : decode cX10_turn 94 = .ok (.aload_n 0, 1) := by decide +kernel
theorem dX10_turn_95 : decode cX10_turn 95 = .ok (.getfield 49, 3) := by decide +kernel
theorem dX10_turn_98 : decode cX10_turn 98 = .ok (.bipush 12, 2) := by decide +kernel
theorem dX10_turn_100 : decode cX10_turn 100 = .ok (.iconst 5, 1) := by decide +kernel
theorem dX10_turn_101 : decode cX10_turn 101 = .ok (.iload_n 2, 1) := by decide +kernel
theorem dX10_turn_102 : decode cX10_turn 102 = .ok (.isub, 1) := by decide +kernel
theorem dX10_turn_103 : decode cX10_turn 103 = .ok (.imul, 1) := by decide +kernel
theorem dX10_turn_104 : decode cX10_turn 104 = .ok (.iload_n 3, 1) := by decide +kernel
theorem dX10_turn_105 : decode cX10_turn 105 = .ok (.iadd, 1) := by decide +kernel
theorem dX10_turn_106 : decode cX10_turn 106 = .ok (.iaload, 1) := by decide +kernel
theorem dX10_turn_107 : decode cX10_turn 107 = .ok (.iload_n 2, 1) := by decide +kernel
theorem dX10_turn_108 : decode cX10_turn 108 = .ok (.invokevirtual 100, 3) := by decide +kernel
theorem dX10_turn_111 : decode cX10_turn 111 = .ok (.iinc 3 (-1), 3) := by decide +kernel
theorem dX10_turn_114 : decode cX10_turn 114 = .ok (.goto (-25), 3) := by decide +kernel
theorem dX10_turn_117 : decode cX10_turn 117 = .ok (.iinc 2 1, 3) := by decide +kernel
theorem dX10_turn_120 : decode cX10_turn 120 = .ok (.goto (-55), 3) := by decide +kernel
theorem dX10_turn_123 : decode cX10_turn 123 = .ok (.iload_n 1, 1) := by decide +kernel
theorem dX10_turn_124 : decode cX10_turn 124 = .ok (.ireturn, 1) := by decide +kernel
theorem dX10_save_0 : decode cX10_save 0 = .ok (.iconst 0, 1) := by decide +kernel
theorem dX10_save_1 : decode cX10_save 1 = .ok (.istore_n 2, 1) := by decide +kernel
theorem dX10_save_2 : decode cX10_save 2 = .ok (.iload_n 2, 1) := by decide +kernel
theorem dX10_save_3 : decode cX10_save 3 = .ok (.bipush 12, 2) := by decide +kernel
theorem dX10_save_5 : decode cX10_save 5 = .ok (.if_icmp .ge 26, 3) := by decide +kernel
theorem dX10_save_8 : decode cX10_save 8 = .ok (.aload_n 0, 1) := by decide +kernel
theorem dX10_save_9 : decode cX10_save 9 = .ok (.getfield 55, 3) := by decide +kernel
theorem dX10_save_12 : decode cX10_save 12 = .ok (.bipush 12, 2) := by decide +kernel
theorem dX10_save_14 : decode cX10_save 14 = .ok (.iload_n 1, 1) := by decide +kernel
theorem dX10_save_15 : decode cX10_save 15 = .ok (.imul, 1) := by decide +kernel
theorem dX10_save_16 : decode cX10_save 16 = .ok (.iload_n 2, 1) := by decide +kernel
theorem dX10_save_17 : decode cX10_save 17 = .ok (.iadd, 1) := by decide +kernel
theorem dX10_save_18 : decode cX10_save 18 = .ok (.aload_n 0, 1) := by decide +kernel
theorem dX10_save_19 : decode cX10_save 19 = .ok (.getfield 19, 3) := by decide +kernel
theorem dX10_save_22 : decode cX10_save 22 = .ok (.iload_n 2, 1) := by decide +kernel
theorem dX10_save_23 : decode cX10_save 23 = .ok (.iaload, 1) := by decide +kernel
theorem dX10_save_24 : decode cX10_save 24 = .ok (.iastore, 1) := by decide +kernel
theorem dX10_save_25 : decode cX10_save 25 = .ok (.iinc 2 1, 3) := by decide +kernel
theorem dX10_save_28 : decode cX10_save 28 = .ok (.goto (-26), 3) := by decide +kernel
theorem dX10_save_31 : decode cX10_save 31 = .ok (.iconst 0, 1) := by decide +kernel
theorem dX10_save_32 : decode cX10_save 32 = .ok (.istore_n 2, 1) := by decide +kernel
theorem dX10_save_33 : decode cX10_save 33 = .ok (.iload_n 2, 1) := by decide +kernel
theorem dX10_save_34 : decode cX10_save 34 = .ok (.bipush 6, 2) := by decide +kernel
theorem dX10_save_36 : decode cX10_save 36 = .ok (.if_icmp .ge 26, 3) := by decide +kernel
theorem dX10_save_39 : decode cX10_save 39 = .ok (.aload_n 0, 1) := by decide +kernel
theorem dX10_save_40 : decode cX10_save 40 = .ok (.getfield 58, 3) := by decide +kernel
theorem dX10_save_43 : decode cX10_save 43 = .ok (.bipush 6, 2) := by decide +kernel
theorem dX10_save_45 : decode cX10_save 45 = .ok (.iload_n 1, 1) := by decide +kernel
theorem dX10_save_46 : decode cX10_save 46 = .ok (.imul, 1) := by decide +kernel
theorem dX10_save_47 : decode cX10_save 47 = .ok (.iload_n 2, 1) := by decide +kernel
theorem dX10_save_48 : decode cX10_save 48 = .ok (.iadd, 1) := by decide +kernel
theorem dX10_save_49 : decode cX10_save 49 = .ok (.aload_n 0, 1) := by decide +kernel
theorem dX10_save_50 : decode cX10_save 50 = .ok (.getfield 22, 3) := by decide +kernel
theorem dX10_save_53 : decode cX10_save 53 = .ok (.iload_n 2, 1) := by decide +kernel
theorem dX10_save_54 : decode cX10_save 54 = .ok (.iaload, 1) := by decide +kernel
theorem dX10_save_55 : decode cX10_save 55 = .ok (.iastore, 1) := by decide +kernel
theorem dX10_save_56 : decode cX10_save 56 = .ok (.iinc 2 1, 3) := by decide +kernel
theorem dX10_save_59 : decode cX10_save 59 = .ok (.goto (-26), 3) := by decide +kernel
theorem dX10_save_62 : decode cX10_save 62 = .ok (.iconst 0, 1) := by decide +kernel
theorem dX10_save_63 : decode cX10_save 63 = .ok (.istore_n 2, 1) := by decide +kernel
theorem dX10_save_64 : decode cX10_save 64 = .ok (.iload_n 2, 1) := by decide +kernel
theorem dX10_save_65 : decode cX10_save 65 = .ok (.bipush 72, 2) := by decide +kernel
theorem dX10_save_67 : decode cX10_save 67 = .ok (.if_icmp .ge 26, 3) := by decide +kernel
theorem dX10_save_70 : decode cX10_save 70 = .ok (.aload_n 0, 1) := by decide +kernel
theorem dX10_save_71 : decode cX10_save 71 = .ok (.getfield 61, 3) := by decide +kernel
theorem dX10_save_74 : decode cX10_save 74 = .ok (.bipush 72, 2) := by decide +kernel
theorem dX10_save_76 : decode cX10_save 76 = .ok (.iload_n 1, 1) := by decide +kernel
theorem dX10_save_77 : decode cX10_save 77 = .ok (.imul, 1) := by decide +kernel
theorem dX10_save_78 : decode cX10_save 78 = .ok (.iload_n 2, 1) := by decide +kernel
theorem dX10_save_79 : decode cX10_save 79 = .ok (.iadd, 1) := by decide +kernel
theorem dX10_save_80 : decode cX10_save 80 = .ok (.aload_n 0, 1) := by decide +kernel
theorem dX10_save_81 : decode cX10_save 81 = .ok (.getfield 25, 3) := by decide +kernel
theorem dX10_save_84 : decode cX10_save 84 = .ok (.iload_n 2, 1) := by decide +kernel
theorem dX10_save_85 : decode cX10_save 85 = .ok (.iaload, 1) := by decide +kernel
theorem dX10_save_86 : decode cX10_save 86 = .ok (.iastore, 1) := by decide +kernel
theorem dX10_save_87 : decode cX10_save 87 = .ok (.iinc 2 1, 3) := by decide +kernel
theorem dX10_save_90 : decode cX10_save 90 = .ok (.goto (-26), 3) := by decide +kernel
theorem dX10_save_93 : decode cX10_save 93 = .ok (.return_, 1) := by decide +kernel
theorem dX10_load_0 : decode cX10_load 0 = .ok (.iconst 0, 1) := by decide +kernel
theorem dX10_load_1 : decode cX10_load 1 = .ok (.istore_n 2, 1) := by decide +kernel
theorem dX10_load_2 : decode cX10_load 2 = .ok (.iload_n 2, 1) := by decide +kernel
theorem dX10_load_3 : decode cX10_load 3 = .ok (.bipush 12, 2) := by decide +kernel
theorem dX10_load_5 : decode cX10_load 5 = .ok (.if_icmp .ge 26, 3) := by decide +kernel
theorem dX10_load_8 : decode cX10_load 8 = .ok (.aload_n 0, 1) := by decide +kernel
theorem dX10_load_9 : decode cX10_load 9 = .ok (.getfield 19, 3) := by decide +kernel
theorem dX10_load_12 : decode cX10_load 12 = .ok (.iload_n 2, 1) := by decide +kernel
theorem dX10_load_13 : decode cX10_load 13 = .ok (.aload_n 0, 1) := by decide +kernel
theorem dX10_load_14 : decode cX10_load 14 = .ok (.getfield 55, 3) := by decide +kernel
theorem dX10_load_17 : decode cX10_load 17 = .ok (.bipush 12, 2) := by decide +kernel
theorem dX10_load_19 : decode cX10_load 19 = .ok (.iload_n 1, 1) := by decide +kernel
theorem dX10_load_20 : decode cX10_load 20 = .ok (.imul, 1) := by decide +kernel
theorem dX10_load_21 : decode cX10_load 21 = .ok (.iload_n 2, 1) := by decide +kernel
theorem dX10_load_22 : decode cX10_load 22 = .ok (.iadd, 1) := by decide +kernel
theorem dX10_load_23 : decode cX10_load 23 = .ok (.iaload, 1) := by decide +kernel
theorem dX10_load_24 : decode cX10_load 24 = .ok (.iastore, 1) := by decide +kernel
theorem dX10_load_25 : decode cX10_load 25 = .ok (.iinc 2 1, 3) := by decide +kernel
theorem dX10_load_28 : decode cX10_load 28 = .ok (.goto (-26), 3) := by decide +kernel
theorem dX10_load_31 : decode cX10_load 31 = .ok (.iconst 0, 1) := by decide +kernel
theorem dX10_load_32 : decode cX10_load 32 = .ok (.istore_n 2, 1) := by decide +kernel
theorem dX10_load_33 : decode cX10_load 33 = .ok (.iload_n 2, 1) := by decide +kernel
theorem dX10_load_34 : decode cX10_load 34 = .ok (.bipush 6, 2) := by decide +kernel
theorem dX10_load_36 : decode cX10_load 36 = .ok (.if_icmp .ge 26, 3) := by decide +kernel
theorem dX10_load_39 : decode cX10_load 39 = .ok (.aload_n 0, 1) := by decide +kernel
theorem dX10_load_40 : decode cX10_load 40 = .ok (.getfield 22, 3) := by decide +kernel
theorem dX10_load_43 : decode cX10_load 43 = .ok (.iload_n 2, 1) := by decide +kernel
theorem dX10_load_44 : decode cX10_load 44 = .ok (.aload_n 0, 1) := by decide +kernel
theorem dX10_load_45 : decode cX10_load 45 = .ok (.getfield 58, 3) := by decide +kernel
theorem dX10_load_48 : decode cX10_load 48 = .ok (.bipush 6, 2) := by decide +kernel
theorem dX10_load_50 : decode cX10_load 50 = .ok (.iload_n 1, 1) := by decide +kernel
theorem dX10_load_51 : decode cX10_load 51 = .ok (.imul, 1) := by decide +kernel
theorem dX10_load_52 : decode cX10_load 52 = .ok (.iload_n 2, 1) := by decide +kernel
theorem dX10_load_53 : decode cX10_load 53 = .ok (.iadd, 1) := by decide +kernel
theorem dX10_load_54 : decode cX10_load 54 = .ok (.iaload, 1) := by decide +kernel
theorem dX10_load_55 : decode cX10_load 55 = .ok (.iastore, 1) := by decide +kernel
theorem dX10_load_56 : decode cX10_load 56 = .ok (.iinc 2 1, 3) := by decide +kernel
theorem dX10_load_59 : decode cX10_load 59 = .ok (.goto (-26), 3) := by decide +kernel
theorem dX10_load_62 : decode cX10_load 62 = .ok (.iconst 0, 1) := by decide +kernel
theorem dX10_load_63 : decode cX10_load 63 = .ok (.istore_n 2, 1) := by decide +kernel
theorem dX10_load_64 : decode cX10_load 64 = .ok (.iload_n 2, 1) := by decide +kernel
theorem dX10_load_65 : decode cX10_load 65 = .ok (.bipush 72, 2) := by decide +kernel
theorem dX10_load_67 : decode cX10_load 67 = .ok (.if_icmp .ge 26, 3) := by decide +kernel
theorem dX10_load_70 : decode cX10_load 70 = .ok (.aload_n 0, 1) := by decide +kernel
theorem dX10_load_71 : decode cX10_load 71 = .ok (.getfield 25, 3) := by decide +kernel
theorem dX10_load_74 : decode cX10_load 74 = .ok (.iload_n 2, 1) := by decide +kernel
theorem dX10_load_75 : decode cX10_load 75 = .ok (.aload_n 0, 1) := by decide +kernel
theorem dX10_load_76 : decode cX10_load 76 = .ok (.getfield 61, 3) := by decide +kernel
theorem dX10_load_79 : decode cX10_load 79 = .ok (.bipush 72, 2) := by decide +kernel
theorem dX10_load_81 : decode cX10_load 81 = .ok (.iload_n 1, 1) := by decide +kernel
theorem dX10_load_82 : decode cX10_load 82 = .ok (.imul, 1) := by decide +kernel
theorem dX10_load_83 : decode cX10_load 83 = .ok (.iload_n 2, 1) := by decide +kernel
theorem dX10_load_84 : decode cX10_load 84 = .ok (.iadd, 1) := by decide +kernel
theorem dX10_load_85 : decode cX10_load 85 = .ok (.iaload, 1) := by decide +kernel
theorem dX10_load_86 : decode cX10_load 86 = .ok (.iastore, 1) := by decide +kernel
theorem dX10_load_87 : decode cX10_load 87 = .ok (.iinc 2 1, 3) := by decide +kernel
theorem dX10_load_90 : decode cX10_load 90 = .ok (.goto (-26), 3) := by decide +kernel
theorem dX10_load_93 : decode cX10_load 93 = .ok (.return_, 1) := by decide +kernel
theorem dX10_nextAct_0 : decode cX10_nextAct 0 = .ok (.iload_n 1, 1) := by decide +kernel
theorem dX10_nextAct_1 : decode cX10_nextAct 1 = .ok (.istore_n 2, 1) := by decide +kernel
theorem dX10_nextAct_2 : decode cX10_nextAct 2 = .ok (.iload_n 2, 1) := by decide +kernel
theorem dX10_nextAct_3 : decode cX10_nextAct 3 = .ok (.sipush 3600, 3) := by decide +kernel
theorem dX10_nextAct_6 : decode cX10_nextAct 6 = .ok (.if_icmp .ge 33, 3) := by decide +kernel
theorem dX10_nextAct_9 : decode cX10_nextAct 9 = .ok (.aload_n 0, 1) := by decide +kernel
theorem dX10_nextAct_10 : decode cX10_nextAct 10 = .ok (.iload_n 2, 1) := by decide +kernel
theorem dX10_nextAct_11 : decode cX10_nextAct 11 = .ok (.invokevirtual 229, 3) := by decide +kernel
theorem dX10_nextAct_14 : decode cX10_nextAct 14 = .ok (.ifCond .eq 19, 3) := by decide +kernel
theorem dX10_nextAct_17 : decode cX10_nextAct 17 = .ok (.aload_n 0, 1) := by decide +kernel
theorem dX10_nextAct_18 : decode cX10_nextAct 18 = .ok (.iload_n 2, 1) := by decide +kernel
theorem dX10_nextAct_19 : decode cX10_nextAct 19 = .ok (.invokevirtual 196, 3) := by decide +kernel
theorem dX10_nextAct_22 : decode cX10_nextAct 22 = .ok (.ifCond .eq 11, 3) := by decide +kernel
theorem dX10_nextAct_25 : decode cX10_nextAct 25 = .ok (.aload_n 0, 1) := by decide +kernel
theorem dX10_nextAct_26 : decode cX10_nextAct 26 = .ok (.iload_n 2, 1) := by decide +kernel
theorem dX10_nextAct_27 : decode cX10_nextAct 27 = .ok (.invokevirtual 217, 3) := by decide +kernel
theorem dX10_nextAct_30 : decode cX10_nextAct 30 = .ok (.ifCond .eq 9, 3) := by decide +kernel
theorem dX10_nextAct_33 : decode cX10_nextAct 33 = .ok (.iinc 2 1, 3) := by decide +kernel
theorem dX10_nextAct_36 : decode cX10_nextAct 36 = .ok (.goto (-34), 3) := by decide +kernel
theorem dX10_nextAct_39 : decode cX10_nextAct 39 = .ok (.iload_n 2, 1) := by decide +kernel
theorem dX10_nextAct_40 : decode cX10_nextAct 40 = .ok (.ireturn, 1) := by decide +kernel
theorem dX10_isCode_0 : decode cX10_isCode 0 = .ok (.iload_n 1, 1) := by decide +kernel
theorem dX10_isCode_1 : decode cX10_isCode 1 = .ok (.invokestatic 205, 3) := by decide +kernel
theorem dX10_isCode_4 : decode cX10_isCode 4 = .ok (.istore_n 2, 1) := by decide +kernel
theorem dX10_isCode_5 : decode cX10_isCode 5 = .ok (.iload_n 1, 1) := by decide +kernel
theorem dX10_isCode_6 : decode cX10_isCode 6 = .ok (.invokestatic 208, 3) := by decide +kernel
theorem dX10_isCode_9 : decode cX10_isCode 9 = .ok (.ifCond .ne 15, 3) := by decide +kernel
theorem dX10_isCode_12 : decode cX10_isCode 12 = .ok (.iload_n 2, 1) := by decide +kernel
theorem dX10_isCode_13 : decode cX10_isCode 13 = .ok (.ifCond .ne 7, 3) := by decide +kernel
theorem dX10_isCode_16 : decode cX10_isCode 16 = .ok (.iconst 1, 1) := by decide +kernel
theorem dX10_isCode_17 : decode cX10_isCode 17 = .ok (.goto 42, 3) := by decide +kernel
theorem dX10_isCode_20 : decode cX10_isCode 20 = .ok (.iconst 0, 1) := by decide +kernel
theorem dX10_isCode_21 : decode cX10_isCode 21 = .ok (.goto 38, 3) := by decide +kernel
theorem dX10_isCode_24 : decode cX10_isCode 24 = .ok (.iload_n 1, 1) := by decide +kernel
theorem dX10_isCode_25 : decode cX10_isCode 25 = .ok (.invokestatic 208, 3) := by decide +kernel
theorem dX10_isCode_28 : decode cX10_isCode 28 = .ok (.iconst 3, 1) := by decide +kernel
theorem dX10_isCode_29 : decode cX10_isCode 29 = .ok (.if_icmp .ne 17, 3) := by decide +kernel
theorem dX10_isCode_32 : decode cX10_isCode 32 = .ok (.iload_n 2, 1) := by decide +kernel
theorem dX10_isCode_33 : decode cX10_isCode 33 = .ok (.bipush 6, 2) := by decide +kernel
theorem dX10_isCode_35 : decode cX10_isCode 35 = .ok (.if_icmp .ge 7, 3) := by decide +kernel
theorem dX10_isCode_38 : decode cX10_isCode 38 = .ok (.iconst 1, 1) := by decide +kernel
theorem dX10_isCode_39 : decode cX10_isCode 39 = .ok (.goto 20, 3) := by decide +kernel
theorem dX10_isCode_42 : decode cX10_isCode 42 = .ok (.iconst 0, 1) := by decide +kernel
theorem dX10_isCode_43 : decode cX10_isCode 43 = .ok (.goto 16, 3) := by decide +kernel
theorem dX10_isCode_46 : decode cX10_isCode 46 = .ok (.iload_n 2, 1) := by decide +kernel
theorem dX10_isCode_47 : decode cX10_isCode 47 = .ok (.aload_n 0, 1) := by decide +kernel
theorem dX10_isCode_48 : decode cX10_isCode 48 = .ok (.getfield 83, 3) := by decide +kernel
theorem dX10_isCode_51 : decode cX10_isCode 51 = .ok (.if_icmp .ge 7, 3) := by decide +kernel
theorem dX10_isCode_54 : decode cX10_isCode 54 = .ok (.iconst 1, 1) := by decide +kernel
theorem dX10_isCode_55 : decode cX10_isCode 55 = .ok (.goto 4, 3) := by decide +kernel
theorem dX10_isCode_58 : decode cX10_isCode 58 = .ok (.iconst 0, 1) := by decide +kernel
theorem dX10_isCode_59 : decode cX10_isCode 59 = .ok (.istore_n 3, 1) := by decide +kernel
theorem dX10_isCode_60 : decode cX10_isCode 60 = .ok (.iload_n 3, 1) := by decide +kernel
theorem dX10_isCode_61 : decode cX10_isCode 61 = .ok (.ifCond .eq 16, 3) := by decide +kernel
theorem dX10_isCode_64 : decode cX10_isCode 64 = .ok (.iload_n 1, 1) := by decide +kernel
theorem dX10_isCode_65 : decode cX10_isCode 65 = .ok (.invokestatic 202, 3) := by decide +kernel
theorem dX10_isCode_68 : decode cX10_isCode 68 = .ok (.bipush 6, 2) := by decide +kernel
theorem dX10_isCode_70 : decode cX10_isCode 70 = .ok (.if_icmp .ge 7, 3) := by decide +kernel
theorem dX10_isCode_73 : decode cX10_isCode 73 = .ok (.iconst 1, 1) := by decide +kernel
theorem dX10_isCode_74 : decode cX10_isCode 74 = .ok (.goto 4, 3) := by decide +kernel
theorem dX10_isCode_77 : decode cX10_isCode 77 = .ok (.iconst 0, 1) := by decide +kernel
theorem dX10_isCode_78 : decode cX10_isCode 78 = .ok (.ireturn, 1) := by decide +kernel
theorem dX10_lastAct_0 : decode cX10_lastAct 0 = .ok (.aload_n 0, 1) := by decide +kernel
theorem dX10_lastAct_1 : decode cX10_lastAct 1 = .ok (.getfield 19, 3) := by decide +kernel
theorem dX10_lastAct_4 : decode cX10_lastAct 4 = .ok (.iload_n 1, 1) := by decide +kernel
theorem dX10_lastAct_5 : decode cX10_lastAct 5 = .ok (.iaload, 1) := by decide +kernel
theorem dX10_lastAct_6 : decode cX10_lastAct 6 = .ok (.bipush 6, 2) := by decide +kernel
theorem dX10_lastAct_8 : decode cX10_lastAct 8 = .ok (.if_icmp .ge 17, 3) := by decide +kernel
theorem dX10_lastAct_11 : decode cX10_lastAct 11 = .ok (.aload_n 0, 1) := by decide +kernel
theorem dX10_lastAct_12 : decode cX10_lastAct 12 = .ok (.aload_n 0, 1) := by decide +kernel
theorem dX10_lastAct_13 : decode cX10_lastAct 13 = .ok (.getfield 19, 3) := by decide +kernel
theorem dX10_lastAct_16 : decode cX10_lastAct 16 = .ok (.iload_n 1, 1) := by decide +kernel
theorem dX10_lastAct_17 : decode cX10_lastAct 17 = .ok (.iaload, 1) := by decide +kernel
theorem dX10_lastAct_18 : decode cX10_lastAct 18 = .ok (.invokevirtual 93, 3) := by decide +kernel
theorem dX10_lastAct_21 : decode cX10_lastAct 21 = .ok (.iload_n 1, 1) := by decide +kernel
theorem dX10_lastAct_22 : decode cX10_lastAct 22 = .ok (.if_icmp .eq 5, 3) := by decide +kernel
theorem dX10_lastAct_25 : decode cX10_lastAct 25 = .ok (.iconst (-1), 1) := by decide +kernel
theorem dX10_lastAct_26 : decode cX10_lastAct 26 = .ok (.ireturn, 1) := by decide +kernel
theorem dX10_lastAct_27 : decode cX10_lastAct 27 = .ok (.aload_n 0, 1) := by decide +kernel
theorem dX10_lastAct_28 : decode cX10_lastAct 28 = .ok (.bipush 100, 2) := by decide +kernel
theorem dX10_lastAct_30 : decode cX10_lastAct 30 = .ok (.aload_n 0, 1) := by decide +kernel
theorem dX10_lastAct_31 : decode cX10_lastAct 31 = .ok (.getfield 19, 3) := by decide +kernel
theorem dX10_lastAct_34 : decode cX10_lastAct 34 = .ok (.iload_n 1, 1) := by decide +kernel
theorem dX10_lastAct_35 : decode cX10_lastAct 35 = .ok (.iaload, 1) := by decide +kernel
theorem dX10_lastAct_36 : decode cX10_lastAct 36 = .ok (.imul, 1) := by decide +kernel
theorem dX10_lastAct_37 : decode cX10_lastAct 37 = .ok (.invokevirtual 217, 3) := by decide +kernel
theorem dX10_lastAct_40 : decode cX10_lastAct 40 = .ok (.ifCond .ne 13, 3) := by decide +kernel
theorem dX10_lastAct_43 : decode cX10_lastAct 43 = .ok (.bipush 100, 2) := by decide +kernel
theorem dX10_lastAct_45 : decode cX10_lastAct 45 = .ok (.aload_n 0, 1) := by decide +kernel
theorem dX10_lastAct_46 : decode cX10_lastAct 46 = .ok (.getfield 19, 3) := by decide +kernel
theorem dX10_lastAct_49 : decode cX10_lastAct 49 = .ok (.iload_n 1, 1) := by decide +kernel
theorem dX10_lastAct_50 : decode cX10_lastAct 50 = .ok (.iaload, 1) := by decide +kernel
theorem dX10_lastAct_51 : decode cX10_lastAct 51 = .ok (.imul, 1) := by decide +kernel
theorem dX10_lastAct_52 : decode cX10_lastAct 52 = .ok (.ireturn, 1) := by decide +kernel
theorem dX10_lastAct_53 : decode cX10_lastAct 53 = .ok (.iconst 0, 1) := by decide +kernel
theorem dX10_lastAct_54 : decode cX10_lastAct 54 = .ok (.istore_n 2, 1) := by decide +kernel
theorem dX10_lastAct_55 : decode cX10_lastAct 55 = .ok (.iload_n 2, 1) := by decide +kernel
theorem dX10_lastAct_56 : decode cX10_lastAct 56 = .ok (.aload_n 0, 1) := by decide +kernel
theorem dX10_lastAct_57 : decode cX10_lastAct 57 = .ok (.getfield 83, 3) := by decide +kernel
theorem dX10_lastAct_60 : decode cX10_lastAct 60 = .ok (.if_icmp .ge 43, 3) := by decide +kernel
theorem dX10_lastAct_63 : decode cX10_lastAct 63 = .ok (.sipush 2000, 3) := by decide +kernel
theorem dX10_lastAct_66 : decode cX10_lastAct 66 = .ok (.bipush 100, 2) := by decide +kernel
theorem dX10_lastAct_68 : decode cX10_lastAct 68 = .ok (.aload_n 0, 1) := by decide +kernel
theorem dX10_lastAct_69 : decode cX10_lastAct 69 = .ok (.getfield 19, 3) := by decide +kernel
theorem dX10_lastAct_72 : decode cX10_lastAct 72 = .ok (.iload_n 1, 1) := by decide +kernel
theorem dX10_lastAct_73 : decode cX10_lastAct 73 = .ok (.iaload, 1) := by decide +kernel
theorem dX10_lastAct_74 : decode cX10_lastAct 74 = .ok (.imul, 1) := by decide +kernel
theorem dX10_lastAct_75 : decode cX10_lastAct 75 = .ok (.iadd, 1) := by decide +kernel
theorem dX10_lastAct_76 : decode cX10_lastAct 76 = .ok (.iload_n 2, 1) := by decide +kernel
theorem dX10_lastAct_77 : decode cX10_lastAct 77 = .ok (.iadd, 1) := by decide +kernel
theorem dX10_lastAct_78 : decode cX10_lastAct 78 = .ok (.istore_n 3, 1) := by decide +kernel
theorem dX10_lastAct_79 : decode cX10_lastAct 79 = .ok (.aload_n 0, 1) := by decide +kernel
theorem dX10_lastAct_80 : decode cX10_lastAct 80 = .ok (.iload_n 3, 1) := by decide +kernel
theorem dX10_lastAct_81 : decode cX10_lastAct 81 = .ok (.invokevirtual 196, 3) := by decide +kernel
theorem dX10_lastAct_84 : decode cX10_lastAct 84 = .ok (.ifCond .eq 13, 3) := by decide +kernel
theorem dX10_lastAct_87 : decode cX10_lastAct 87 = .ok (.aload_n 0, 1) := by decide +kernel
theorem dX10_lastAct_88 : decode cX10_lastAct 88 = .ok (.iload_n 3, 1) := by decide +kernel
theorem dX10_lastAct_89 : decode cX10_lastAct 89 = .ok (.invokevirtual 217, 3) := by decide +kernel
theorem dX10_lastAct_92 : decode cX10_lastAct 92 = .ok (.ifCond .ne 5, 3) := by decide +kernel
theorem dX10_lastAct_95 : decode cX10_lastAct 95 = .ok (.iload_n 3, 1) := by decide +kernel
theorem dX10_lastAct_96 : decode cX10_lastAct 96 = .ok (.ireturn, 1) := by decide +kernel
theorem dX10_lastAct_97 : decode cX10_lastAct 97 = .ok (.iinc 2 1, 3) := by decide +kernel
theorem dX10_lastAct_100 : decode cX10_lastAct 100 = .ok (.goto (-45), 3) := by decide +kernel
theorem dX10_lastAct_103 : decode cX10_lastAct 103 = .ok (.iconst (-1), 1) := by decide +kernel
theorem dX10_lastAct_104 : decode cX10_lastAct 104 = .ok (.ireturn, 1) := by decide +kernel
theorem dX10_find_0 : decode cX10_find 0 = .ok (.aload_n 0, 1) := by decide +kernel
theorem dX10_find_1 : decode cX10_find 1 = .ok (.getfield 19, 3) := by decide +kernel
theorem dX10_find_4 : decode cX10_find 4 = .ok (.iload_n 1, 1) := by decide +kernel
theorem dX10_find_5 : decode cX10_find 5 = .ok (.iaload, 1) := by decide +kernel
theorem dX10_find_6 : decode cX10_find 6 = .ok (.bipush 6, 2) := by decide +kernel
theorem dX10_find_8 : decode cX10_find 8 = .ok (.if_icmp .ne 5, 3) := by decide +kernel
theorem dX10_find_11 : decode cX10_find 11 = .ok (.iconst 0, 1) := by decide +kernel
theorem dX10_find_12 : decode cX10_find 12 = .ok (.ireturn, 1) := by decide +kernel
theorem dX10_find_13 : decode cX10_find 13 = .ok (.aload_n 0, 1) := by decide +kernel
theorem dX10_find_14 : decode cX10_find 14 = .ok (.getfield 64, 3) := by decide +kernel
theorem dX10_find_17 : decode cX10_find 17 = .ok (.iconst 0, 1) := by decide +kernel
theorem dX10_find_18 : decode cX10_find 18 = .ok (.aload_n 0, 1) := by decide +kernel
theorem dX10_find_19 : decode cX10_find 19 = .ok (.iload_n 1, 1) := by decide +kernel
theorem dX10_find_20 : decode cX10_find 20 = .ok (.invokevirtual 232, 3) := by decide +kernel
theorem dX10_find_23 : decode cX10_find 23 = .ok (.iastore, 1) := by decide +kernel
theorem dX10_find_24 : decode cX10_find 24 = .ok (.aload_n 0, 1) := by decide +kernel
theorem dX10_find_25 : decode cX10_find 25 = .ok (.getfield 64, 3) := by decide +kernel
theorem dX10_find_28 : decode cX10_find 28 = .ok (.iconst 0, 1) := by decide +kernel
theorem dX10_find_29 : decode cX10_find 29 = .ok (.iaload, 1) := by decide +kernel
theorem dX10_find_30 : decode cX10_find 30 = .ok (.ifCond .lt 5, 3) := by decide +kernel
theorem dX10_find_33 : decode cX10_find 33 = .ok (.iconst 1, 1) := by decide +kernel
theorem dX10_find_34 : decode cX10_find 34 = .ok (.ireturn, 1) := by decide +kernel
theorem dX10_find_35 : decode cX10_find 35 = .ok (.aload_n 0, 1) := by decide +kernel
theorem dX10_find_36 : decode cX10_find 36 = .ok (.iconst 0, 1) := by decide +kernel
theorem dX10_find_37 : decode cX10_find 37 = .ok (.invokevirtual 235, 3) := by decide +kernel
theorem dX10_find_40 : decode cX10_find 40 = .ok (.aload_n 0, 1) := by decide +kernel
theorem dX10_find_41 : decode cX10_find 41 = .ok (.iconst 0, 1) := by decide +kernel
theorem dX10_find_42 : decode cX10_find 42 = .ok (.invokevirtual 238, 3) := by decide +kernel
theorem dX10_find_45 : decode cX10_find 45 = .ok (.istore_n 2, 1) := by decide +kernel
theorem dX10_find_46 : decode cX10_find 46 = .ok (.iload_n 2, 1) := by decide +kernel
theorem dX10_find_47 : decode cX10_find 47 = .ok (.sipush 3600, 3) := by decide +kernel
theorem dX10_find_50 : decode cX10_find 50 = .ok (.if_icmp .ge 54, 3) := by decide +kernel
theorem dX10_find_53 : decode cX10_find 53 = .ok (.aload_n 0, 1) := by decide +kernel
theorem dX10_find_54 : decode cX10_find 54 = .ok (.iload_n 2, 1) := by decide +kernel
theorem dX10_find_55 : decode cX10_find 55 = .ok (.invokevirtual 223, 3) := by decide +kernel
theorem dX10_find_58 : decode cX10_find 58 = .ok (.istore_n 3, 1) := by decide +kernel
theorem dX10_find_59 : decode cX10_find 59 = .ok (.aload_n 0, 1) := by decide +kernel
theorem dX10_find_60 : decode cX10_find 60 = .ok (.getfield 64, 3) := by decide +kernel
theorem dX10_find_63 : decode cX10_find 63 = .ok (.iconst 0, 1) := by decide +kernel
theorem dX10_find_64 : decode cX10_find 64 = .ok (.iload_n 2, 1) := by decide +kernel
theorem dX10_find_65 : decode cX10_find 65 = .ok (.iastore, 1) := by decide +kernel
theorem dX10_find_66 : decode cX10_find 66 = .ok (.aload_n 0, 1) := by decide +kernel
theorem dX10_find_67 : decode cX10_find 67 = .ok (.getfield 64, 3) := by decide +kernel
theorem dX10_find_70 : decode cX10_find 70 = .ok (.iconst 1, 1) := by decide +kernel
theorem dX10_find_71 : decode cX10_find 71 = .ok (.aload_n 0, 1) := by decide +kernel
theorem dX10_find_72 : decode cX10_find 72 = .ok (.iload_n 1, 1) := by decide +kernel
theorem dX10_find_73 : decode cX10_find 73 = .ok (.invokevirtual 232, 3) := by decide +kernel
theorem dX10_find_76 : decode cX10_find 76 = .ok (.iastore, 1) := by decide +kernel
theorem dX10_find_77 : decode cX10_find 77 = .ok (.aload_n 0, 1) := by decide +kernel
theorem dX10_find_78 : decode cX10_find 78 = .ok (.iconst 0, 1) := by decide +kernel
theorem dX10_find_79 : decode cX10_find 79 = .ok (.invokevirtual 241, 3) := by decide +kernel
theorem dX10_find_82 : decode cX10_find 82 = .ok (.aload_n 0, 1) := by decide +kernel
theorem dX10_find_83 : decode cX10_find 83 = .ok (.getfield 64, 3) := by decide +kernel
theorem dX10_find_86 : decode cX10_find 86 = .ok (.iconst 1, 1) := by decide +kernel
theorem dX10_find_87 : decode cX10_find 87 = .ok (.iaload, 1) := by decide +kernel
theorem dX10_find_88 : decode cX10_find 88 = .ok (.ifCond .lt 5, 3) := by decide +kernel
theorem dX10_find_91 : decode cX10_find 91 = .ok (.iconst 2, 1) := by decide +kernel
theorem dX10_find_92 : decode cX10_find 92 = .ok (.ireturn, 1) := by decide +kernel
theorem dX10_find_93 : decode cX10_find 93 = .ok (.aload_n 0, 1) := by decide +kernel
theorem dX10_find_94 : decode cX10_find 94 = .ok (.iload_n 2, 1) := by decide +kernel
theorem dX10_find_95 : decode cX10_find 95 = .ok (.iconst 1, 1) := by decide +kernel
theorem dX10_find_96 : decode cX10_find 96 = .ok (.iadd, 1) := by decide +kernel
theorem dX10_find_97 : decode cX10_find 97 = .ok (.invokevirtual 238, 3) := by decide +kernel
theorem dX10_find_100 : decode cX10_find 100 = .ok (.istore_n 2, 1) := by decide +kernel
theorem dX10_find_101 : decode cX10_find 101 = .ok (.goto (-55), 3) := by decide +kernel
theorem dX10_find_104 : decode cX10_find 104 = .ok (.aload_n 0, 1) := by decide +kernel
theorem dX10_find_105 : decode cX10_find 105 = .ok (.iconst 0, 1) := by decide +kernel
theorem dX10_find_106 : decode cX10_find 106 = .ok (.invokevirtual 238, 3) := by decide +kernel
theorem dX10_find_109 : decode cX10_find 109 = .ok (.istore_n 2, 1) := by decide +kernel
theorem dX10_find_110 : decode cX10_find 110 = .ok (.iload_n 2, 1) := by decide +kernel
theorem dX10_find_111 : decode cX10_find 111 = .ok (.sipush 3600, 3) := by decide +kernel
theorem dX10_find_114 : decode cX10_find 114 = .ok (.if_icmp .ge 113, 3) := by decide +kernel
theorem dX10_find_117 : decode cX10_find 117 = .ok (.aload_n 0, 1) := by decide +kernel
theorem dX10_find_118 : decode cX10_find 118 = .ok (.iload_n 2, 1) := by decide +kernel
theorem dX10_find_119 : decode cX10_find 119 = .ok (.invokevirtual 223, 3) := by decide +kernel
theorem dX10_find_122 : decode cX10_find 122 = .ok (.istore_n 3, 1) := by decide +kernel
theorem dX10_find_123 : decode cX10_find 123 = .ok (.aload_n 0, 1) := by decide +kernel
theorem dX10_find_124 : decode cX10_find 124 = .ok (.iconst 1, 1) := by decide +kernel
theorem dX10_find_125 : decode cX10_find 125 = .ok (.invokevirtual 235, 3) := by decide +kernel
theorem dX10_find_128 : decode cX10_find 128 = .ok (.aload_n 0, 1) := by decide +kernel
theorem dX10_find_129 : decode cX10_find 129 = .ok (.iconst 0, 1) := by decide +kernel
theorem dX10_find_130 : decode cX10_find 130 = .ok (.invokevirtual 238, 3) := by decide +kernel
theorem dX10_find_133 : decode cX10_find 133 = .ok (.istore 4, 2) := by decide +kernel
theorem dX10_find_135 : decode cX10_find 135 = .ok (.iload 4, 2) := by decide +kernel
theorem dX10_find_137 : decode cX10_find 137 = .ok (.sipush 3600, 3) := by decide +kernel
theorem dX10_find_140 : decode cX10_find 140 = .ok (.if_icmp .ge 71, 3) := by decide +kernel
theorem dX10_find_143 : decode cX10_find 143 = .ok (.aload_n 0, 1) := by decide +kernel
theorem dX10_find_144 : decode cX10_find 144 = .ok (.iload 4, 2) := by decide +kernel
theorem dX10_find_146 : decode cX10_find 146 = .ok (.invokevirtual 223, 3) := by decide +kernel
theorem dX10_find_149 : decode cX10_find 149 = .ok (.istore 5, 2) := by decide +kernel
theorem dX10_find_151 : decode cX10_find 151 = .ok (.aload_n 0, 1) := by decide +kernel
theorem dX10_find_152 : decode cX10_find 152 = .ok (.getfield 64, 3) := by decide +kernel
theorem dX10_find_155 : decode cX10_find 155 = .ok (.iconst 0, 1) := by decide +kernel
theorem dX10_find_156 : decode cX10_find 156 = .ok (.iload_n 2, 1) := by decide +kernel
theorem dX10_find_157 : decode cX10_find 157 = .ok (.iastore, 1) := by decide +kernel
theorem dX10_find_158 : decode cX10_find 158 = .ok (.aload_n 0, 1) := by decide +kernel
theorem dX10_find_159 : decode cX10_find 159 = .ok (.getfield 64, 3) := by decide +kernel
theorem dX10_find_162 : decode cX10_find 162 = .ok (.iconst 1, 1) := by decide +kernel
theorem dX10_find_163 : decode cX10_find 163 = .ok (.iload 4, 2) := by decide +kernel
theorem dX10_find_165 : decode cX10_find 165 = .ok (.iastore, 1) := by decide +kernel
theorem dX10_find_166 : decode cX10_find 166 = .ok (.aload_n 0, 1) := by decide +kernel
theorem dX10_find_167 : decode cX10_find 167 = .ok (.getfield 64, 3) := by decide +kernel
theorem dX10_find_170 : decode cX10_find 170 = .ok (.iconst 2, 1) := by decide +kernel
theorem dX10_find_171 : decode cX10_find 171 = .ok (.aload_n 0, 1) := by decide +kernel
theorem dX10_find_172 : decode cX10_find 172 = .ok (.iload_n 1, 1) := by decide +kernel
theorem dX10_find_173 : decode cX10_find 173 = .ok (.invokevirtual 232, 3) := by decide +kernel
theorem dX10_find_176 : decode cX10_find 176 = .ok (.iastore, 1) := by decide +kernel
theorem dX10_find_177 : decode cX10_find 177 = .ok (.aload_n 0, 1) := by decide +kernel
theorem dX10_find_178 : decode cX10_find 178 = .ok (.iconst 1, 1) := by decide +kernel
theorem dX10_find_179 : decode cX10_find 179 = .ok (.invokevirtual 241, 3) := by decide +kernel
theorem dX10_find_182 : decode cX10_find 182 = .ok (.aload_n 0, 1) := by decide +kernel
theorem dX10_find_183 : decode cX10_find 183 = .ok (.getfield 64, 3) := by decide +kernel
theorem dX10_find_186 : decode cX10_find 186 = .ok (.iconst 2, 1) := by decide +kernel
theorem dX10_find_187 : decode cX10_find 187 = .ok (.iaload, 1) := by decide +kernel
theorem dX10_find_188 : decode cX10_find 188 = .ok (.ifCond .lt 10, 3) := by decide +kernel
theorem dX10_find_191 : decode cX10_find 191 = .ok (.aload_n 0, 1) := by decide +kernel
theorem dX10_find_192 : decode cX10_find 192 = .ok (.iconst 0, 1) := by decide +kernel
theorem dX10_find_193 : decode cX10_find 193 = .ok (.invokevirtual 241, 3) := by decide +kernel
theorem dX10_find_196 : decode cX10_find 196 = .ok (.iconst 3, 1) := by decide +kernel
theorem dX10_find_197 : decode cX10_find 197 = .ok (.ireturn, 1) := by decide +kernel
theorem dX10_find_198 : decode cX10_find 198 = .ok (.aload_n 0, 1) := by decide +kernel
theorem dX10_find_199 : decode cX10_find 199 = .ok (.iload 4, 2) := by decide +kernel
theorem dX10_find_201 : decode cX10_find 201 = .ok (.iconst 1, 1) := by decide +kernel
theorem dX10_find_202 : decode cX10_find 202 = .ok (.iadd, 1) := by decide +kernel
theorem dX10_find_203 : decode cX10_find 203 = .ok (.invokevirtual 238, 3) := by decide +kernel
theorem dX10_find_206 : decode cX10_find 206 = .ok (.istore 4, 2) := by decide +kernel
theorem dX10_find_208 : decode cX10_find 208 = .ok (.goto (-73), 3) := by decide +kernel
theorem dX10_find_211 : decode cX10_find 211 = .ok (.aload_n 0, 1) := by decide +kernel
theorem dX10_find_212 : decode cX10_find 212 = .ok (.iconst 0, 1) := by decide +kernel
theorem dX10_find_213 : decode cX10_find 213 = .ok (.invokevirtual 241, 3) := by decide +kernel
theorem dX10_find_216 : decode cX10_find 216 = .ok (.aload_n 0, 1) := by decide +kernel
theorem dX10_find_217 : decode cX10_find 217 = .ok (.iload_n 2, 1) := by decide +kernel
theorem dX10_find_218 : decode cX10_find 218 = .ok (.iconst 1, 1) := by decide +kernel
theorem dX10_find_219 : decode cX10_find 219 = .ok (.iadd, 1) := by decide +kernel
theorem dX10_find_220 : decode cX10_find 220 = .ok (.invokevirtual 238, 3) := by decide +kernel
theorem dX10_find_223 : decode cX10_find 223 = .ok (.istore_n 2, 1) := by decide +kernel
theorem dX10_find_224 : decode cX10_find 224 = .ok (.goto (-114), 3) := by decide +kernel
theorem dX10_find_227 : decode cX10_find 227 = .ok (.iconst 4, 1) := by decide +kernel
theorem dX10_find_228 : decode cX10_find 228 = .ok (.ireturn, 1) := by decide +kernel
theorem dX10_had_0 : decode cX10_had 0 = .ok (.aload_n 0, 1) := by decide +kernel
theorem dX10_had_1 : decode cX10_had 1 = .ok (.iload_n 1, 1) := by decide +kernel
theorem dX10_had_2 : decode cX10_had 2 = .ok (.invokevirtual 114, 3) := by decide +kernel
theorem dX10_had_5 : decode cX10_had 5 = .ok (.ifCond .eq 17, 3) := by decide +kernel
theorem dX10_had_8 : decode cX10_had 8 = .ok (.iload_n 2, 1) := by decide +kernel
theorem dX10_had_9 : decode cX10_had 9 = .ok (.i2l, 1) := by decide +kernel
theorem dX10_had_10 : decode cX10_had 10 = .ok (.ldc2_w 244, 3) := by decide +kernel
theorem dX10_had_13 : decode cX10_had 13 = .ok (.ldc2_w 246, 3) := by decide +kernel
theorem dX10_had_16 : decode cX10_had 16 = .ok (.invokestatic 87, 3) := by decide +kernel
theorem dX10_had_19 : decode cX10_had 19 = .ok (.ifCond .ne 5, 3) := by decide +kernel
theorem dX10_had_22 : decode cX10_had 22 = .ok (.iconst (-1), 1) := by decide +kernel
theorem dX10_had_23 : decode cX10_had 23 = .ok (.ireturn, 1) := by decide +kernel
theorem dX10_had_24 : decode cX10_had 24 = .ok (.aload_n 0, 1) := by decide +kernel
theorem dX10_had_25 : decode cX10_had 25 = .ok (.getfield 19, 3) := by decide +kernel
theorem dX10_had_28 : decode cX10_had 28 = .ok (.iload_n 1, 1) := by decide +kernel
theorem dX10_had_29 : decode cX10_had 29 = .ok (.iaload, 1) := by decide +kernel
theorem dX10_had_30 : decode cX10_had 30 = .ok (.bipush 7, 2) := by decide +kernel
theorem dX10_had_32 : decode cX10_had 32 = .ok (.if_icmp .ne 6, 3) := by decide +kernel
theorem dX10_had_35 : decode cX10_had 35 = .ok (.bipush (-2), 2) := by decide +kernel
theorem dX10_had_37 : decode cX10_had 37 = .ok (.ireturn, 1) := by decide +kernel
theorem dX10_had_38 : decode cX10_had 38 = .ok (.aload_n 0, 1) := by decide +kernel
theorem dX10_had_39 : decode cX10_had 39 = .ok (.iload_n 1, 1) := by decide +kernel
theorem dX10_had_40 : decode cX10_had 40 = .ok (.invokevirtual 248, 3) := by decide +kernel
theorem dX10_had_43 : decode cX10_had 43 = .ok (.istore_n 3, 1) := by decide +kernel
theorem dX10_had_44 : decode cX10_had 44 = .ok (.iload_n 3, 1) := by decide +kernel
theorem dX10_had_45 : decode cX10_had 45 = .ok (.iconst 4, 1) := by decide +kernel
theorem dX10_had_46 : decode cX10_had 46 = .ok (.if_icmp .eq 8, 3) := by decide +kernel
theorem dX10_had_49 : decode cX10_had 49 = .ok (.iload_n 2, 1) := by decide +kernel
theorem dX10_had_50 : decode cX10_had 50 = .ok (.iload_n 3, 1) := by decide +kernel
theorem dX10_had_51 : decode cX10_had 51 = .ok (.if_icmp .lt 6, 3) := by decide +kernel
theorem dX10_had_54 : decode cX10_had 54 = .ok (.bipush (-4), 2) := by decide +kernel
theorem dX10_had_56 : decode cX10_had 56 = .ok (.ireturn, 1) := by decide +kernel
theorem dX10_had_57 : decode cX10_had 57 = .ok (.iload_n 2, 1) := by decide +kernel
theorem dX10_had_58 : decode cX10_had 58 = .ok (.iconst (-1), 1) := by decide +kernel
theorem dX10_had_59 : decode cX10_had 59 = .ok (.if_icmp .ne 7, 3) := by decide +kernel
theorem dX10_had_62 : decode cX10_had 62 = .ok (.iload_n 3, 1) := by decide +kernel
theorem dX10_had_63 : decode cX10_had 63 = .ok (.goto 9, 3) := by decide +kernel
theorem dX10_had_66 : decode cX10_had 66 = .ok (.aload_n 0, 1) := by decide +kernel
theorem dX10_had_67 : decode cX10_had 67 = .ok (.getfield 64, 3) := by decide +kernel
theorem dX10_had_70 : decode cX10_had 70 = .ok (.iload_n 2, 1) := by decide +kernel
theorem dX10_had_71 : decode cX10_had 71 = .ok (.iaload, 1) := by decide +kernel
theorem dX10_had_72 : decode cX10_had 72 = .ok (.ireturn, 1) := by decide +kernel
theorem dX10_under_0 : decode cX10_under 0 = .ok (.iload_n 1, 1) := by decide +kernel
theorem dX10_under_1 : decode cX10_under 1 = .ok (.i2l, 1) := by decide +kernel
theorem dX10_under_2 : decode cX10_under 2 = .ok (.lconst 0, 1) := by decide +kernel
theorem dX10_under_3 : decode cX10_under 3 = .ok (.ldc2_w 104, 3) := by decide +kernel
theorem dX10_under_6 : decode cX10_under 6 = .ok (.invokestatic 87, 3) := by decide +kernel
theorem dX10_under_9 : decode cX10_under 9 = .ok (.ifCond .ne 5, 3) := by decide +kernel
theorem dX10_under_12 : decode cX10_under 12 = .ok (.iconst (-1), 1) := by decide +kernel
theorem dX10_under_13 : decode cX10_under 13 = .ok (.ireturn, 1) := by decide +kernel
theorem dX10_under_14 : decode cX10_under 14 = .ok (.iconst 0, 1) := by decide +kernel
theorem dX10_under_15 : decode cX10_under 15 = .ok (.istore_n 2, 1) := by decide +kernel
theorem dX10_under_16 : decode cX10_under 16 = .ok (.iconst 0, 1) := by decide +kernel
theorem dX10_under_17 : decode cX10_under 17 = .ok (.istore_n 3, 1) := by decide +kernel
theorem dX10_under_18 : decode cX10_under 18 = .ok (.iload_n 3, 1) := by decide +kernel
theorem dX10_under_19 : decode cX10_under 19 = .ok (.bipush 6, 2) := by decide +kernel
theorem dX10_under_21 : decode cX10_under 21 = .ok (.if_icmp .ge 110, 3) := by decide +kernel
theorem dX10_under_24 : decode cX10_under 24 = .ok (.iconst 0, 1) := by decide +kernel
theorem dX10_under_25 : decode cX10_under 25 = .ok (.istore 4, 2) := by decide +kernel
theorem dX10_under_27 : decode cX10_under 27 = .ok (.iload 4, 2) := by decide +kernel
theorem dX10_under_29 : decode cX10_under 29 = .ok (.aload_n 0, 1) := by decide +kernel
theorem dX10_under_30 : decode cX10_under 30 = .ok (.getfield 22, 3) := by decide +kernel
theorem dX10_under_33 : decode cX10_under 33 = .ok (.iload_n 3, 1) := by decide +kernel
theorem dX10_under_34 : decode cX10_under 34 = .ok (.iaload, 1) := by decide +kernel
theorem dX10_under_35 : decode cX10_under 35 = .ok (.if_icmp .ge 90, 3) := by decide +kernel
theorem dX10_under_38 : decode cX10_under 38 = .ok (.iload 4, 2) := by decide +kernel
theorem dX10_under_40 : decode cX10_under 40 = .ok (.iconst 1, 1) := by decide +kernel
theorem dX10_under_41 : decode cX10_under 41 = .ok (.iadd, 1) := by decide +kernel
theorem dX10_under_42 : decode cX10_under 42 = .ok (.istore 5, 2) := by decide +kernel
theorem dX10_under_44 : decode cX10_under 44 = .ok (.iload 5, 2) := by decide +kernel
theorem dX10_under_46 : decode cX10_under 46 = .ok (.aload_n 0, 1) := by decide +kernel
theorem dX10_under_47 : decode cX10_under 47 = .ok (.getfield 22, 3) := by decide +kernel
theorem dX10_under_50 : decode cX10_under 50 = .ok (.iload_n 3, 1) := by decide +kernel
theorem dX10_under_51 : decode cX10_under 51 = .ok (.iaload, 1) := by decide +kernel
theorem dX10_under_52 : decode cX10_under 52 = .ok (.if_icmp .ge 67, 3) := by decide +kernel
theorem dX10_under_55 : decode cX10_under 55 = .ok (.aload_n 0, 1) := by decide +kernel
theorem dX10_under_56 : decode cX10_under 56 = .ok (.aload_n 0, 1) := by decide +kernel
theorem dX10_under_57 : decode cX10_under 57 = .ok (.getfield 25, 3) := by decide +kernel
theorem dX10_under_60 : decode cX10_under 60 = .ok (.bipush 12, 2) := by decide +kernel
theorem dX10_under_62 : decode cX10_under 62 = .ok (.iload_n 3, 1) := by decide +kernel
theorem dX10_under_63 : decode cX10_under 63 = .ok (.imul, 1) := by decide +kernel
theorem dX10_under_64 : decode cX10_under 64 = .ok (.iload 5, 2) := by decide +kernel
theorem dX10_under_66 : decode cX10_under 66 = .ok (.iadd, 1) := by decide +kernel
theorem dX10_under_67 : decode cX10_under 67 = .ok (.iaload, 1) := by decide +kernel
theorem dX10_under_68 : decode cX10_under 68 = .ok (.invokevirtual 118, 3) := by decide +kernel
theorem dX10_under_71 : decode cX10_under 71 = .ok (.istore 6, 2) := by decide +kernel
theorem dX10_under_73 : decode cX10_under 73 = .ok (.iload_n 2, 1) := by decide +kernel
theorem dX10_under_74 : decode cX10_under 74 = .ok (.aload_n 0, 1) := by decide +kernel
theorem dX10_under_75 : decode cX10_under 75 = .ok (.aload_n 0, 1) := by decide +kernel
theorem dX10_under_76 : decode cX10_under 76 = .ok (.getfield 25, 3) := by decide +kernel
theorem dX10_under_79 : decode cX10_under 79 = .ok (.bipush 12, 2) := by decide +kernel
theorem dX10_under_81 : decode cX10_under 81 = .ok (.iload_n 3, 1) := by decide +kernel
theorem dX10_under_82 : decode cX10_under 82 = .ok (.imul, 1) := by decide +kernel
theorem dX10_under_83 : decode cX10_under 83 = .ok (.iload 4, 2) := by decide +kernel
theorem dX10_under_85 : decode cX10_under 85 = .ok (.iadd, 1) := by decide +kernel
theorem dX10_under_86 : decode cX10_under 86 = .ok (.iaload, 1) := by decide +kernel
theorem dX10_under_87 : decode cX10_under 87 = .ok (.invokevirtual 118, 3) := by decide +kernel
theorem dX10_under_90 : decode cX10_under 90 = .ok (.iload_n 1, 1) := by decide +kernel
theorem dX10_under_91 : decode cX10_under 91 = .ok (.if_icmp .ne 19, 3) := by decide +kernel
theorem dX10_under_94 : decode cX10_under 94 = .ok (.iload 6, 2) := by decide +kernel
theorem dX10_under_96 : decode cX10_under 96 = .ok (.iload_n 1, 1) := by decide +kernel
theorem dX10_under_97 : decode cX10_under 97 = .ok (.if_icmp .eq 13, 3) := by decide +kernel
theorem dX10_under_100 : decode cX10_under 100 = .ok (.iload 6, 2) := by decide +kernel
theorem dX10_under_102 : decode cX10_under 102 = .ok (.iconst 4, 1) := by decide +kernel
theorem dX10_under_103 : decode cX10_under 103 = .ok (.if_icmp .eq 7, 3) := by decide +kernel
theorem dX10_under_106 : decode cX10_under 106 = .ok (.iconst 1, 1) := by decide +kernel
theorem dX10_under_107 : decode cX10_under 107 = .ok (.goto 4, 3) := by decide +kernel
theorem dX10_under_110 : decode cX10_under 110 = .ok (.iconst 0, 1) := by decide +kernel
theorem dX10_under_111 : decode cX10_under 111 = .ok (.iadd, 1) := by decide +kernel
theorem dX10_under_112 : decode cX10_under 112 = .ok (.istore_n 2, 1) := by decide +kernel
theorem dX10_under_113 : decode cX10_under 113 = .ok (.iinc 5 1, 3) := by decide +kernel
theorem dX10_under_116 : decode cX10_under 116 = .ok (.goto (-72), 3) := by decide +kernel
theorem dX10_under_119 : decode cX10_under 119 = .ok (.iinc 4 1, 3) := by decide +kernel
theorem dX10_under_122 : decode cX10_under 122 = .ok (.goto (-95), 3) := by decide +kernel
theorem dX10_under_125 : decode cX10_under 125 = .ok (.iinc 3 1, 3) := by decide +kernel
theorem dX10_under_128 : decode cX10_under 128 = .ok (.goto (-110), 3) := by decide +kernel
theorem dX10_under_131 : decode cX10_under 131 = .ok (.iload_n 2, 1) := by decide +kernel
theorem dX10_under_132 : decode cX10_under 132 = .ok (.ireturn, 1) := by decide +kernel
theorem dX10_townsThatLie_0 : decode cX10_townsThatLie 0 = .ok (.iconst 0, 1) := by decide +kernel
theorem dX10_townsThatLie_1 : decode cX10_townsThatLie 1 = .ok (.istore_n 1, 1) := by decide +kernel
theorem dX10_townsThatLie_2 : decode cX10_townsThatLie 2 = .ok (.iconst 0, 1) := by decide +kernel
theorem dX10_townsThatLie_3 : decode cX10_townsThatLie 3 = .ok (.istore_n 2, 1) := by decide +kernel
theorem dX10_townsThatLie_4 : decode cX10_townsThatLie 4 = .ok (.iload_n 2, 1) := by decide +kernel
theorem dX10_townsThatLie_5 : decode cX10_townsThatLie 5 = .ok (.aload_n 0, 1) := by decide +kernel
theorem dX10_townsThatLie_6 : decode cX10_townsThatLie 6 = .ok (.getfield 83, 3) := by decide +kernel
theorem dX10_townsThatLie_9 : decode cX10_townsThatLie 9 = .ok (.if_icmp .ge 44, 3) := by decide +kernel
theorem dX10_townsThatLie_12 : decode cX10_townsThatLie 12 = .ok (.iload_n 1, 1) := by decide +kernel
theorem dX10_townsThatLie_13 : decode cX10_townsThatLie 13 = .ok (.aload_n 0, 1) := by decide +kernel
theorem dX10_townsThatLie_14 : decode cX10_townsThatLie 14 = .ok (.getfield 19, 3) := by decide +kernel
theorem dX10_townsThatLie_17 : decode cX10_townsThatLie 17 = .ok (.iload_n 2, 1) := by decide +kernel
theorem dX10_townsThatLie_18 : decode cX10_townsThatLie 18 = .ok (.iaload, 1) := by decide +kernel
theorem dX10_townsThatLie_19 : decode cX10_townsThatLie 19 = .ok (.bipush 6, 2) := by decide +kernel
theorem dX10_townsThatLie_21 : decode cX10_townsThatLie 21 = .ok (.if_icmp .ge 23, 3) := by decide +kernel
theorem dX10_townsThatLie_24 : decode cX10_townsThatLie 24 = .ok (.aload_n 0, 1) := by decide +kernel
theorem dX10_townsThatLie_25 : decode cX10_townsThatLie 25 = .ok (.iload_n 2, 1) := by decide +kernel
theorem dX10_townsThatLie_26 : decode cX10_townsThatLie 26 = .ok (.invokevirtual 118, 3) := by decide +kernel
theorem dX10_townsThatLie_29 : decode cX10_townsThatLie 29 = .ok (.iconst 4, 1) := by decide +kernel
theorem dX10_townsThatLie_30 : decode cX10_townsThatLie 30 = .ok (.if_icmp .ge 14, 3) := by decide +kernel
theorem dX10_townsThatLie_33 : decode cX10_townsThatLie 33 = .ok (.iconst 1, 1) := by decide +kernel
theorem dX10_townsThatLie_34 : decode cX10_townsThatLie 34 = .ok (.aload_n 0, 1) := by decide +kernel
theorem dX10_townsThatLie_35 : decode cX10_townsThatLie 35 = .ok (.getfield 16, 3) := by decide +kernel
theorem dX10_townsThatLie_38 : decode cX10_townsThatLie 38 = .ok (.iload_n 2, 1) := by decide +kernel
theorem dX10_townsThatLie_39 : decode cX10_townsThatLie 39 = .ok (.iaload, 1) := by decide +kernel
theorem dX10_townsThatLie_40 : decode cX10_townsThatLie 40 = .ok (.ishl, 1) := by decide +kernel
theorem dX10_townsThatLie_41 : decode cX10_townsThatLie 41 = .ok (.goto 4, 3) := by decide +kernel
theorem dX10_townsThatLie_44 : decode cX10_townsThatLie 44 = .ok (.iconst 0, 1) := by decide +kernel
theorem dX10_townsThatLie_45 : decode cX10_townsThatLie 45 = .ok (.ior, 1) := by decide +kernel
theorem dX10_townsThatLie_46 : decode cX10_townsThatLie 46 = .ok (.istore_n 1, 1) := by decide +kernel
theorem dX10_townsThatLie_47 : decode cX10_townsThatLie 47 = .ok (.iinc 2 1, 3) := by decide +kernel
theorem dX10_townsThatLie_50 : decode cX10_townsThatLie 50 = .ok (.goto (-46), 3) := by decide +kernel
theorem dX10_townsThatLie_53 : decode cX10_townsThatLie 53 = .ok (.iload_n 1, 1) := by decide +kernel
theorem dX10_townsThatLie_54 : decode cX10_townsThatLie 54 = .ok (.ireturn, 1) := by decide +kernel
theorem dX10_own_0 : decode cX10_own 0 = .ok (.aload_n 0, 1) := by decide +kernel
theorem dX10_own_1 : decode cX10_own 1 = .ok (.invokevirtual 251, 3) := by decide +kernel
theorem dX10_own_4 : decode cX10_own 4 = .ok (.istore_n 1, 1) := by decide +kernel
theorem dX10_own_5 : decode cX10_own 5 = .ok (.bipush 12, 2) := by decide +kernel
theorem dX10_own_7 : decode cX10_own 7 = .ok (.istore_n 2, 1) := by decide +kernel
theorem dX10_own_8 : decode cX10_own 8 = .ok (.iconst 0, 1) := by decide +kernel
theorem dX10_own_9 : decode cX10_own 9 = .ok (.istore_n 3, 1) := by decide +kernel
theorem dX10_own_10 : decode cX10_own 10 = .ok (.iload_n 3, 1) := by decide +kernel
theorem dX10_own_11 : decode cX10_own 11 = .ok (.sipush 4096, 3) := by decide +kernel
theorem dX10_own_14 : decode cX10_own 14 = .ok (.if_icmp .ge 141, 3) := by decide +kernel
theorem dX10_own_17 : decode cX10_own 17 = .ok (.iconst 0, 1) := by decide +kernel
theorem dX10_own_18 : decode cX10_own 18 = .ok (.istore 4, 2) := by decide +kernel
theorem dX10_own_20 : decode cX10_own 20 = .ok (.iconst 0, 1) := by decide +kernel
theorem dX10_own_21 : decode cX10_own 21 = .ok (.istore 5, 2) := by decide +kernel
theorem dX10_own_23 : decode cX10_own 23 = .ok (.iload 5, 2) := by decide +kernel
theorem dX10_own_25 : decode cX10_own 25 = .ok (.bipush 6, 2) := by decide +kernel
theorem dX10_own_27 : decode cX10_own 27 = .ok (.if_icmp .ge 24, 3) := by decide +kernel
theorem dX10_own_30 : decode cX10_own 30 = .ok (.iload 4, 2) := by decide +kernel
theorem dX10_own_32 : decode cX10_own 32 = .ok (.iconst 1, 1) := by decide +kernel
theorem dX10_own_33 : decode cX10_own 33 = .ok (.iload_n 3, 1) := by decide +kernel
theorem dX10_own_34 : decode cX10_own 34 = .ok (.iconst 2, 1) := by decide +kernel
theorem dX10_own_35 : decode cX10_own 35 = .ok (.iload 5, 2) := by decide +kernel
theorem dX10_own_37 : decode cX10_own 37 = .ok (.imul, 1) := by decide +kernel
theorem dX10_own_38 : decode cX10_own 38 = .ok (.ishr, 1) := by decide +kernel
theorem dX10_own_39 : decode cX10_own 39 = .ok (.iconst 3, 1) := by decide +kernel
theorem dX10_own_40 : decode cX10_own 40 = .ok (.iand, 1) := by decide +kernel
theorem dX10_own_41 : decode cX10_own 41 = .ok (.ishl, 1) := by decide +kernel
theorem dX10_own_42 : decode cX10_own 42 = .ok (.ior, 1) := by decide +kernel
theorem dX10_own_43 : decode cX10_own 43 = .ok (.istore 4, 2) := by decide +kernel
theorem dX10_own_45 : decode cX10_own 45 = .ok (.iinc 5 1, 3) := by decide +kernel
theorem dX10_own_48 : decode cX10_own 48 = .ok (.goto (-25), 3) := by decide +kernel
theorem dX10_own_51 : decode cX10_own 51 = .ok (.iconst 0, 1) := by decide +kernel
theorem dX10_own_52 : decode cX10_own 52 = .ok (.istore 5, 2) := by decide +kernel
theorem dX10_own_54 : decode cX10_own 54 = .ok (.iconst 0, 1) := by decide +kernel
theorem dX10_own_55 : decode cX10_own 55 = .ok (.istore 6, 2) := by decide +kernel
theorem dX10_own_57 : decode cX10_own 57 = .ok (.iload 6, 2) := by decide +kernel
theorem dX10_own_59 : decode cX10_own 59 = .ok (.aload_n 0, 1) := by decide +kernel
theorem dX10_own_60 : decode cX10_own 60 = .ok (.getfield 83, 3) := by decide +kernel
theorem dX10_own_63 : decode cX10_own 63 = .ok (.if_icmp .ge 64, 3) := by decide +kernel
theorem dX10_own_66 : decode cX10_own 66 = .ok (.iload 5, 2) := by decide +kernel
theorem dX10_own_68 : decode cX10_own 68 = .ok (.aload_n 0, 1) := by decide +kernel
theorem dX10_own_69 : decode cX10_own 69 = .ok (.getfield 19, 3) := by decide +kernel
theorem dX10_own_72 : decode cX10_own 72 = .ok (.iload 6, 2) := by decide +kernel
theorem dX10_own_74 : decode cX10_own 74 = .ok (.iaload, 1) := by decide +kernel
theorem dX10_own_75 : decode cX10_own 75 = .ok (.bipush 6, 2) := by decide +kernel
theorem dX10_own_77 : decode cX10_own 77 = .ok (.if_icmp .ge 40, 3) := by decide +kernel
theorem dX10_own_80 : decode cX10_own 80 = .ok (.aload_n 0, 1) := by decide +kernel
theorem dX10_own_81 : decode cX10_own 81 = .ok (.iload 6, 2) := by decide +kernel
theorem dX10_own_83 : decode cX10_own 83 = .ok (.invokevirtual 118, 3) := by decide +kernel
theorem dX10_own_86 : decode cX10_own 86 = .ok (.iconst 4, 1) := by decide +kernel
theorem dX10_own_87 : decode cX10_own 87 = .ok (.if_icmp .ge 30, 3) := by decide +kernel
theorem dX10_own_90 : decode cX10_own 90 = .ok (.iload_n 3, 1) := by decide +kernel
theorem dX10_own_91 : decode cX10_own 91 = .ok (.iconst 2, 1) := by decide +kernel
theorem dX10_own_92 : decode cX10_own 92 = .ok (.aload_n 0, 1) := by decide +kernel
theorem dX10_own_93 : decode cX10_own 93 = .ok (.getfield 19, 3) := by decide +kernel
theorem dX10_own_96 : decode cX10_own 96 = .ok (.iload 6, 2) := by decide +kernel
theorem dX10_own_98 : decode cX10_own 98 = .ok (.iaload, 1) := by decide +kernel
theorem dX10_own_99 : decode cX10_own 99 = .ok (.imul, 1) := by decide +kernel
theorem dX10_own_100 : decode cX10_own 100 = .ok (.ishr, 1) := by decide +kernel
theorem dX10_own_101 : decode cX10_own 101 = .ok (.iconst 3, 1) := by decide +kernel
theorem dX10_own_102 : decode cX10_own 102 = .ok (.iand, 1) := by decide +kernel
theorem dX10_own_103 : decode cX10_own 103 = .ok (.aload_n 0, 1) := by decide +kernel
theorem dX10_own_104 : decode cX10_own 104 = .ok (.getfield 16, 3) := by decide +kernel
theorem dX10_own_107 : decode cX10_own 107 = .ok (.iload 6, 2) := by decide +kernel
theorem dX10_own_109 : decode cX10_own 109 = .ok (.iaload, 1) := by decide +kernel
theorem dX10_own_110 : decode cX10_own 110 = .ok (.if_icmp .eq 7, 3) := by decide +kernel
theorem dX10_own_113 : decode cX10_own 113 = .ok (.iconst 1, 1) := by decide +kernel
theorem dX10_own_114 : decode cX10_own 114 = .ok (.goto 4, 3) := by decide +kernel
theorem dX10_own_117 : decode cX10_own 117 = .ok (.iconst 0, 1) := by decide +kernel
theorem dX10_own_118 : decode cX10_own 118 = .ok (.iadd, 1) := by decide +kernel
theorem dX10_own_119 : decode cX10_own 119 = .ok (.istore 5, 2) := by decide +kernel
theorem dX10_own_121 : decode cX10_own 121 = .ok (.iinc 6 1, 3) := by decide +kernel
theorem dX10_own_124 : decode cX10_own 124 = .ok (.goto (-67), 3) := by decide +kernel
theorem dX10_own_127 : decode cX10_own 127 = .ok (.iload_n 1, 1) := by decide +kernel
theorem dX10_own_128 : decode cX10_own 128 = .ok (.iload 4, 2) := by decide +kernel
theorem dX10_own_130 : decode cX10_own 130 = .ok (.iconst (-1), 1) := by decide +kernel
theorem dX10_own_131 : decode cX10_own 131 = .ok (.ixor, 1) := by decide +kernel
theorem dX10_own_132 : decode cX10_own 132 = .ok (.iand, 1) := by decide +kernel
theorem dX10_own_133 : decode cX10_own 133 = .ok (.ifCond .ne 14, 3) := by decide +kernel
theorem dX10_own_136 : decode cX10_own 136 = .ok (.iload 5, 2) := by decide +kernel
theorem dX10_own_138 : decode cX10_own 138 = .ok (.iload_n 2, 1) := by decide +kernel
theorem dX10_own_139 : decode cX10_own 139 = .ok (.if_icmp .ge 8, 3) := by decide +kernel
theorem dX10_own_142 : decode cX10_own 142 = .ok (.iload 5, 2) := by decide +kernel
theorem dX10_own_144 : decode cX10_own 144 = .ok (.goto 4, 3) := by decide +kernel
theorem dX10_own_147 : decode cX10_own 147 = .ok (.iload_n 2, 1) := by decide +kernel
theorem dX10_own_148 : decode cX10_own 148 = .ok (.istore_n 2, 1) := by decide +kernel
theorem dX10_own_149 : decode cX10_own 149 = .ok (.iinc 3 1, 3) := by decide +kernel
theorem dX10_own_152 : decode cX10_own 152 = .ok (.goto (-142), 3) := by decide +kernel
theorem dX10_own_155 : decode cX10_own 155 = .ok (.iload_n 2, 1) := by decide +kernel
theorem dX10_own_156 : decode cX10_own 156 = .ok (.ireturn, 1) := by decide +kernel
theorem dX10_divisor_0 : decode cX10_divisor 0 = .ok (.iload_n 0, 1) := by decide +kernel
theorem dX10_divisor_1 : decode cX10_divisor 1 = .ok (.istore_n 2, 1) := by decide +kernel
theorem dX10_divisor_2 : decode cX10_divisor 2 = .ok (.iload_n 1, 1) := by decide +kernel
theorem dX10_divisor_3 : decode cX10_divisor 3 = .ok (.istore_n 3, 1) := by decide +kernel
theorem dX10_divisor_4 : decode cX10_divisor 4 = .ok (.iload_n 3, 1) := by decide +kernel
theorem dX10_divisor_5 : decode cX10_divisor 5 = .ok (.ifCond .eq 16, 3) := by decide +kernel
theorem dX10_divisor_8 : decode cX10_divisor 8 = .ok (.iload_n 2, 1) := by decide +kernel
theorem dX10_divisor_9 : decode cX10_divisor 9 = .ok (.iload_n 3, 1) := by decide +kernel
theorem dX10_divisor_10 : decode cX10_divisor 10 = .ok (.irem, 1) := by decide +kernel
theorem dX10_divisor_11 : decode cX10_divisor 11 = .ok (.istore 4, 2) := by decide +kernel
theorem dX10_divisor_13 : decode cX10_divisor 13 = .ok (.iload_n 3, 1) := by decide +kernel
theorem dX10_divisor_14 : decode cX10_divisor 14 = .ok (.istore_n 2, 1) := by decide +kernel
theorem dX10_divisor_15 : decode cX10_divisor 15 = .ok (.iload 4, 2) := by decide +kernel
theorem dX10_divisor_17 : decode cX10_divisor 17 = .ok (.istore_n 3, 1) := by decide +kernel
theorem dX10_divisor_18 : decode cX10_divisor 18 = .ok (.goto (-14), 3) := by decide +kernel
theorem dX10_divisor_21 : decode cX10_divisor 21 = .ok (.iload_n 2, 1) := by decide +kernel
theorem dX10_divisor_22 : decode cX10_divisor 22 = .ok (.ireturn, 1) := by decide +kernel
theorem dX10_partOf_0 : decode cX10_partOf 0 = .ok (.iload_n 0, 1) := by decide +kernel
theorem dX10_partOf_1 : decode cX10_partOf 1 = .ok (.iload_n 1, 1) := by decide +kernel
theorem dX10_partOf_2 : decode cX10_partOf 2 = .ok (.invokestatic 254, 3) := by decide +kernel
theorem dX10_partOf_5 : decode cX10_partOf 5 = .ok (.istore_n 3, 1) := by decide +kernel
theorem dX10_partOf_6 : decode cX10_partOf 6 = .ok (.iload_n 2, 1) := by decide +kernel
theorem dX10_partOf_7 : decode cX10_partOf 7 = .ok (.ifCond .ne 9, 3) := by decide +kernel
theorem dX10_partOf_10 : decode cX10_partOf 10 = .ok (.iload_n 0, 1) := by decide +kernel
theorem dX10_partOf_11 : decode cX10_partOf 11 = .ok (.iload_n 3, 1) := by decide +kernel
theorem dX10_partOf_12 : decode cX10_partOf 12 = .ok (.idiv, 1) := by decide +kernel
theorem dX10_partOf_13 : decode cX10_partOf 13 = .ok (.goto 6, 3) := by decide +kernel
theorem dX10_partOf_16 : decode cX10_partOf 16 = .ok (.iload_n 1, 1) := by decide +kernel
theorem dX10_partOf_17 : decode cX10_partOf 17 = .ok (.iload_n 3, 1) := by decide +kernel
theorem dX10_partOf_18 : decode cX10_partOf 18 = .ok (.idiv, 1) := by decide +kernel
theorem dX10_partOf_19 : decode cX10_partOf 19 = .ok (.ireturn, 1) := by decide +kernel
theorem dX10_odds_0 : decode cX10_odds 0 = .ok (.iload_n 1, 1) := by decide +kernel
theorem dX10_odds_1 : decode cX10_odds 1 = .ok (.invokestatic 124, 3) := by decide +kernel
theorem dX10_odds_4 : decode cX10_odds 4 = .ok (.ifCond .eq 51, 3) := by decide +kernel
theorem dX10_odds_7 : decode cX10_odds 7 = .ok (.iload_n 2, 1) := by decide +kernel
theorem dX10_odds_8 : decode cX10_odds 8 = .ok (.i2l, 1) := by decide +kernel
theorem dX10_odds_9 : decode cX10_odds 9 = .ok (.lconst 0, 1) := by decide +kernel
theorem dX10_odds_10 : decode cX10_odds 10 = .ok (.ldc2_w 106, 3) := by decide +kernel
theorem dX10_odds_13 : decode cX10_odds 13 = .ok (.invokestatic 87, 3) := by decide +kernel
theorem dX10_odds_16 : decode cX10_odds 16 = .ok (.ifCond .eq 39, 3) := by decide +kernel
theorem dX10_odds_19 : decode cX10_odds 19 = .ok (.iload_n 3, 1) := by decide +kernel
theorem dX10_odds_20 : decode cX10_odds 20 = .ok (.i2l, 1) := by decide +kernel
theorem dX10_odds_21 : decode cX10_odds 21 = .ok (.lconst 1, 1) := by decide +kernel
theorem dX10_odds_22 : decode cX10_odds 22 = .ok (.ldc2_w 108, 3) := by decide +kernel
theorem dX10_odds_25 : decode cX10_odds 25 = .ok (.invokestatic 87, 3) := by decide +kernel
theorem dX10_odds_28 : decode cX10_odds 28 = .ok (.ifCond .eq 27, 3) := by decide +kernel
theorem dX10_odds_31 : decode cX10_odds 31 = .ok (.iload 4, 2) := by decide +kernel
theorem dX10_odds_33 : decode cX10_odds 33 = .ok (.i2l, 1) := by decide +kernel
theorem dX10_odds_34 : decode cX10_odds 34 = .ok (.lconst 0, 1) := by decide +kernel
theorem dX10_odds_35 : decode cX10_odds 35 = .ok (.ldc2_w 143, 3) := by decide +kernel
theorem dX10_odds_38 : decode cX10_odds 38 = .ok (.invokestatic 87, 3) := by decide +kernel
theorem dX10_odds_41 : decode cX10_odds 41 = .ok (.ifCond .eq 14, 3) := by decide +kernel
theorem dX10_odds_44 : decode cX10_odds 44 = .ok (.iload 5, 2) := by decide +kernel
theorem dX10_odds_46 : decode cX10_odds 46 = .ok (.i2l, 1) := by decide +kernel
theorem dX10_odds_47 : decode cX10_odds 47 = .ok (.lconst 0, 1) := by decide +kernel
theorem dX10_odds_48 : decode cX10_odds 48 = .ok (.lconst 1, 1) := by decide +kernel
theorem dX10_odds_49 : decode cX10_odds 49 = .ok (.invokestatic 87, 3) := by decide +kernel
theorem dX10_odds_52 : decode cX10_odds 52 = .ok (.ifCond .ne 5, 3) := by decide +kernel
theorem dX10_odds_55 : decode cX10_odds 55 = .ok (.iconst (-1), 1) := by decide +kernel
theorem dX10_odds_56 : decode cX10_odds 56 = .ok (.ireturn, 1) := by decide +kernel
theorem dX10_odds_57 : decode cX10_odds 57 = .ok (.iconst 1, 1) := by decide +kernel
theorem dX10_odds_58 : decode cX10_odds 58 = .ok (.istore 6, 2) := by decide +kernel
theorem dX10_odds_60 : decode cX10_odds 60 = .ok (.iconst 1, 1) := by decide +kernel
theorem dX10_odds_61 : decode cX10_odds 61 = .ok (.istore 7, 2) := by decide +kernel
theorem dX10_odds_63 : decode cX10_odds 63 = .ok (.iconst 0, 1) := by decide +kernel
theorem dX10_odds_64 : decode cX10_odds 64 = .ok (.istore 8, 2) := by decide +kernel
theorem dX10_odds_66 : decode cX10_odds 66 = .ok (.iload 8, 2) := by decide +kernel
theorem dX10_odds_68 : decode cX10_odds 68 = .ok (.iload_n 3, 1) := by decide +kernel
theorem dX10_odds_69 : decode cX10_odds 69 = .ok (.if_icmp .ge 36, 3) := by decide +kernel
theorem dX10_odds_72 : decode cX10_odds 72 = .ok (.iload_n 2, 1) := by decide +kernel
theorem dX10_odds_73 : decode cX10_odds 73 = .ok (.aload_n 0, 1) := by decide +kernel
theorem dX10_odds_74 : decode cX10_odds 74 = .ok (.getfield 28, 3) := by decide +kernel
theorem dX10_odds_77 : decode cX10_odds 77 = .ok (.iload_n 1, 1) := by decide +kernel
theorem dX10_odds_78 : decode cX10_odds 78 = .ok (.iaload, 1) := by decide +kernel
theorem dX10_odds_79 : decode cX10_odds 79 = .ok (.if_icmp .le 26, 3) := by decide +kernel
theorem dX10_odds_82 : decode cX10_odds 82 = .ok (.iload 6, 2) := by decide +kernel
theorem dX10_odds_84 : decode cX10_odds 84 = .ok (.bipush 8, 2) := by decide +kernel
theorem dX10_odds_86 : decode cX10_odds 86 = .ok (.iload 4, 2) := by decide +kernel
theorem dX10_odds_88 : decode cX10_odds 88 = .ok (.isub, 1) := by decide +kernel
theorem dX10_odds_89 : decode cX10_odds 89 = .ok (.imul, 1) := by decide +kernel
theorem dX10_odds_90 : decode cX10_odds 90 = .ok (.istore 6, 2) := by decide +kernel
theorem dX10_odds_92 : decode cX10_odds 92 = .ok (.iload 7, 2) := by decide +kernel
theorem dX10_odds_94 : decode cX10_odds 94 = .ok (.bipush 8, 2) := by decide +kernel
theorem dX10_odds_96 : decode cX10_odds 96 = .ok (.imul, 1) := by decide +kernel
theorem dX10_odds_97 : decode cX10_odds 97 = .ok (.istore 7, 2) := by decide +kernel
theorem dX10_odds_99 : decode cX10_odds 99 = .ok (.iinc 8 1, 3) := by decide +kernel
theorem dX10_odds_102 : decode cX10_odds 102 = .ok (.goto (-36), 3) := by decide +kernel
theorem dX10_odds_105 : decode cX10_odds 105 = .ok (.iload 6, 2) := by decide +kernel
theorem dX10_odds_107 : decode cX10_odds 107 = .ok (.iload 7, 2) := by decide +kernel
theorem dX10_odds_109 : decode cX10_odds 109 = .ok (.iload 5, 2) := by decide +kernel
theorem dX10_odds_111 : decode cX10_odds 111 = .ok (.invokestatic 257, 3) := by decide +kernel
theorem dX10_odds_114 : decode cX10_odds 114 = .ok (.ireturn, 1) := by decide +kernel
theorem dX10_has_0 : decode cX10_has 0 = .ok (.iload_n 0, 1) := by decide +kernel
theorem dX10_has_1 : decode cX10_has 1 = .ok (.iload_n 1, 1) := by decide +kernel
theorem dX10_has_2 : decode cX10_has 2 = .ok (.ishr, 1) := by decide +kernel
theorem dX10_has_3 : decode cX10_has 3 = .ok (.iconst 1, 1) := by decide +kernel
theorem dX10_has_4 : decode cX10_has 4 = .ok (.iand, 1) := by decide +kernel
theorem dX10_has_5 : decode cX10_has 5 = .ok (.iconst 1, 1) := by decide +kernel
theorem dX10_has_6 : decode cX10_has 6 = .ok (.if_icmp .ne 7, 3) := by decide +kernel
theorem dX10_has_9 : decode cX10_has 9 = .ok (.iconst 1, 1) := by decide +kernel
theorem dX10_has_10 : decode cX10_has 10 = .ok (.goto 4, 3) := by decide +kernel
theorem dX10_has_13 : decode cX10_has 13 = .ok (.iconst 0, 1) := by decide +kernel
theorem dX10_has_14 : decode cX10_has 14 = .ok (.ireturn, 1) := by decide +kernel
theorem dX10_share_0 : decode cX10_share 0 = .ok (.iload_n 1, 1) := by decide +kernel
theorem dX10_share_1 : decode cX10_share 1 = .ok (.i2l, 1) := by decide +kernel
theorem dX10_share_2 : decode cX10_share 2 = .ok (.lconst 0, 1) := by decide +kernel
theorem dX10_share_3 : decode cX10_share 3 = .ok (.ldc2_w 104, 3) := by decide +kernel
theorem dX10_share_6 : decode cX10_share 6 = .ok (.invokestatic 87, 3) := by decide +kernel
theorem dX10_share_9 : decode cX10_share 9 = .ok (.ifCond .eq 33, 3) := by decide +kernel
theorem dX10_share_12 : decode cX10_share 12 = .ok (.iload_n 2, 1) := by decide +kernel
theorem dX10_share_13 : decode cX10_share 13 = .ok (.i2l, 1) := by decide +kernel
theorem dX10_share_14 : decode cX10_share 14 = .ok (.lconst 0, 1) := by decide +kernel
theorem dX10_share_15 : decode cX10_share 15 = .ok (.ldc2_w 261, 3) := by decide +kernel
theorem dX10_share_18 : decode cX10_share 18 = .ok (.invokestatic 87, 3) := by decide +kernel
theorem dX10_share_21 : decode cX10_share 21 = .ok (.ifCond .eq 21, 3) := by decide +kernel
theorem dX10_share_24 : decode cX10_share 24 = .ok (.iload_n 2, 1) := by decide +kernel
theorem dX10_share_25 : decode cX10_share 25 = .ok (.iload_n 1, 1) := by decide +kernel
theorem dX10_share_26 : decode cX10_share 26 = .ok (.invokestatic 263, 3) := by decide +kernel
theorem dX10_share_29 : decode cX10_share 29 = .ok (.ifCond .eq 13, 3) := by decide +kernel
theorem dX10_share_32 : decode cX10_share 32 = .ok (.iload_n 3, 1) := by decide +kernel
theorem dX10_share_33 : decode cX10_share 33 = .ok (.i2l, 1) := by decide +kernel
theorem dX10_share_34 : decode cX10_share 34 = .ok (.lconst 0, 1) := by decide +kernel
theorem dX10_share_35 : decode cX10_share 35 = .ok (.lconst 1, 1) := by decide +kernel
theorem dX10_share_36 : decode cX10_share 36 = .ok (.invokestatic 87, 3) := by decide +kernel
theorem dX10_share_39 : decode cX10_share 39 = .ok (.ifCond .ne 5, 3) := by decide +kernel
theorem dX10_share_42 : decode cX10_share 42 = .ok (.iconst (-1), 1) := by decide +kernel
theorem dX10_share_43 : decode cX10_share 43 = .ok (.ireturn, 1) := by decide +kernel
theorem dX10_share_44 : decode cX10_share 44 = .ok (.iconst 0, 1) := by decide +kernel
theorem dX10_share_45 : decode cX10_share 45 = .ok (.istore 4, 2) := by decide +kernel
theorem dX10_share_47 : decode cX10_share 47 = .ok (.iconst 0, 1) := by decide +kernel
theorem dX10_share_48 : decode cX10_share 48 = .ok (.istore 5, 2) := by decide +kernel
theorem dX10_share_50 : decode cX10_share 50 = .ok (.iload 5, 2) := by decide +kernel
theorem dX10_share_52 : decode cX10_share 52 = .ok (.iconst 4, 1) := by decide +kernel
theorem dX10_share_53 : decode cX10_share 53 = .ok (.if_icmp .ge 28, 3) := by decide +kernel
theorem dX10_share_56 : decode cX10_share 56 = .ok (.iload 4, 2) := by decide +kernel
theorem dX10_share_58 : decode cX10_share 58 = .ok (.iload_n 2, 1) := by decide +kernel
theorem dX10_share_59 : decode cX10_share 59 = .ok (.iload 5, 2) := by decide +kernel
theorem dX10_share_61 : decode cX10_share 61 = .ok (.invokestatic 263, 3) := by decide +kernel
theorem dX10_share_64 : decode cX10_share 64 = .ok (.ifCond .eq 7, 3) := by decide +kernel
theorem dX10_share_67 : decode cX10_share 67 = .ok (.iconst 1, 1) := by decide +kernel
theorem dX10_share_68 : decode cX10_share 68 = .ok (.goto 4, 3) := by decide +kernel
theorem dX10_share_71 : decode cX10_share 71 = .ok (.iconst 0, 1) := by decide +kernel
theorem dX10_share_72 : decode cX10_share 72 = .ok (.iadd, 1) := by decide +kernel
theorem dX10_share_73 : decode cX10_share 73 = .ok (.istore 4, 2) := by decide +kernel
theorem dX10_share_75 : decode cX10_share 75 = .ok (.iinc 5 1, 3) := by decide +kernel
theorem dX10_share_78 : decode cX10_share 78 = .ok (.goto (-28), 3) := by decide +kernel
theorem dX10_share_81 : decode cX10_share 81 = .ok (.iconst 0, 1) := by decide +kernel
theorem dX10_share_82 : decode cX10_share 82 = .ok (.istore 5, 2) := by decide +kernel
theorem dX10_share_84 : decode cX10_share 84 = .ok (.iconst 0, 1) := by decide +kernel
theorem dX10_share_85 : decode cX10_share 85 = .ok (.istore 6, 2) := by decide +kernel
theorem dX10_share_87 : decode cX10_share 87 = .ok (.iconst 0, 1) := by decide +kernel
theorem dX10_share_88 : decode cX10_share 88 = .ok (.istore 7, 2) := by decide +kernel
theorem dX10_share_90 : decode cX10_share 90 = .ok (.iload 7, 2) := by decide +kernel
theorem dX10_share_92 : decode cX10_share 92 = .ok (.aload_n 0, 1) := by decide +kernel
theorem dX10_share_93 : decode cX10_share 93 = .ok (.getfield 83, 3) := by decide +kernel
theorem dX10_share_96 : decode cX10_share 96 = .ok (.if_icmp .ge 120, 3) := by decide +kernel
theorem dX10_share_99 : decode cX10_share 99 = .ok (.aload_n 0, 1) := by decide +kernel
theorem dX10_share_100 : decode cX10_share 100 = .ok (.getfield 19, 3) := by decide +kernel
theorem dX10_share_103 : decode cX10_share 103 = .ok (.iload 7, 2) := by decide +kernel
theorem dX10_share_105 : decode cX10_share 105 = .ok (.iaload, 1) := by decide +kernel
theorem dX10_share_106 : decode cX10_share 106 = .ok (.bipush 6, 2) := by decide +kernel
theorem dX10_share_108 : decode cX10_share 108 = .ok (.if_icmp .ne 7, 3) := by decide +kernel
theorem dX10_share_111 : decode cX10_share 111 = .ok (.iconst 1, 1) := by decide +kernel
theorem dX10_share_112 : decode cX10_share 112 = .ok (.goto 4, 3) := by decide +kernel
theorem dX10_share_115 : decode cX10_share 115 = .ok (.iconst 0, 1) := by decide +kernel
theorem dX10_share_116 : decode cX10_share 116 = .ok (.istore 8, 2) := by decide +kernel
theorem dX10_share_118 : decode cX10_share 118 = .ok (.aload_n 0, 1) := by decide +kernel
theorem dX10_share_119 : decode cX10_share 119 = .ok (.iload 7, 2) := by decide +kernel
theorem dX10_share_121 : decode cX10_share 121 = .ok (.invokevirtual 118, 3) := by decide +kernel
theorem dX10_share_124 : decode cX10_share 124 = .ok (.iconst 4, 1) := by decide +kernel
theorem dX10_share_125 : decode cX10_share 125 = .ok (.if_icmp .eq 17, 3) := by decide +kernel
theorem dX10_share_128 : decode cX10_share 128 = .ok (.iload_n 2, 1) := by decide +kernel
theorem dX10_share_129 : decode cX10_share 129 = .ok (.aload_n 0, 1) := by decide +kernel
theorem dX10_share_130 : decode cX10_share 130 = .ok (.getfield 16, 3) := by decide +kernel
theorem dX10_share_133 : decode cX10_share 133 = .ok (.iload 7, 2) := by decide +kernel
theorem dX10_share_135 : decode cX10_share 135 = .ok (.iaload, 1) := by decide +kernel
theorem dX10_share_136 : decode cX10_share 136 = .ok (.invokestatic 263, 3) := by decide +kernel
theorem dX10_share_139 : decode cX10_share 139 = .ok (.ifCond .ne 7, 3) := by decide +kernel
theorem dX10_share_142 : decode cX10_share 142 = .ok (.iconst 1, 1) := by decide +kernel
theorem dX10_share_143 : decode cX10_share 143 = .ok (.goto 4, 3) := by decide +kernel
theorem dX10_share_146 : decode cX10_share 146 = .ok (.iconst 0, 1) := by decide +kernel
theorem dX10_share_147 : decode cX10_share 147 = .ok (.istore 9, 2) := by decide +kernel
theorem dX10_share_149 : decode cX10_share 149 = .ok (.iload 5, 2) := by decide +kernel
theorem dX10_share_151 : decode cX10_share 151 = .ok (.iload 8, 2) := by decide +kernel
theorem dX10_share_153 : decode cX10_share 153 = .ok (.ifCond .eq 28, 3) := by decide +kernel
theorem dX10_share_156 : decode cX10_share 156 = .ok (.iload 9, 2) := by decide +kernel
theorem dX10_share_158 : decode cX10_share 158 = .ok (.ifCond .ne 23, 3) := by decide +kernel
theorem dX10_share_161 : decode cX10_share 161 = .ok (.aload_n 0, 1) := by decide +kernel
theorem dX10_share_162 : decode cX10_share 162 = .ok (.getfield 16, 3) := by decide +kernel
theorem dX10_share_165 : decode cX10_share 165 = .ok (.iload 7, 2) := by decide +kernel
theorem dX10_share_167 : decode cX10_share 167 = .ok (.iaload, 1) := by decide +kernel
theorem dX10_share_168 : decode cX10_share 168 = .ok (.iload_n 1, 1) := by decide +kernel
theorem dX10_share_169 : decode cX10_share 169 = .ok (.if_icmp .ne 12, 3) := by decide +kernel
theorem dX10_share_172 : decode cX10_share 172 = .ok (.aload_n 0, 1) := by decide +kernel
theorem dX10_share_173 : decode cX10_share 173 = .ok (.iload 7, 2) := by decide +kernel
theorem dX10_share_175 : decode cX10_share 175 = .ok (.invokevirtual 97, 3) := by decide +kernel
theorem dX10_share_178 : decode cX10_share 178 = .ok (.goto 4, 3) := by decide +kernel
theorem dX10_share_181 : decode cX10_share 181 = .ok (.iconst 0, 1) := by decide +kernel
theorem dX10_share_182 : decode cX10_share 182 = .ok (.iadd, 1) := by decide +kernel
theorem dX10_share_183 : decode cX10_share 183 = .ok (.istore 5, 2) := by decide +kernel
theorem dX10_share_185 : decode cX10_share 185 = .ok (.iload 6, 2) := by decide +kernel
theorem dX10_share_187 : decode cX10_share 187 = .ok (.iload 8, 2) := by decide +kernel
theorem dX10_share_189 : decode cX10_share 189 = .ok (.ifCond .eq 17, 3) := by decide +kernel
theorem dX10_share_192 : decode cX10_share 192 = .ok (.iload 9, 2) := by decide +kernel
theorem dX10_share_194 : decode cX10_share 194 = .ok (.ifCond .eq 12, 3) := by decide +kernel
theorem dX10_share_197 : decode cX10_share 197 = .ok (.aload_n 0, 1) := by decide +kernel
theorem dX10_share_198 : decode cX10_share 198 = .ok (.iload 7, 2) := by decide +kernel
theorem dX10_share_200 : decode cX10_share 200 = .ok (.invokevirtual 97, 3) := by decide +kernel
theorem dX10_share_203 : decode cX10_share 203 = .ok (.goto 4, 3) := by decide +kernel
theorem dX10_share_206 : decode cX10_share 206 = .ok (.iconst 0, 1) := by decide +kernel
theorem dX10_share_207 : decode cX10_share 207 = .ok (.iadd, 1) := by decide +kernel
theorem dX10_share_208 : decode cX10_share 208 = .ok (.istore 6, 2) := by decide +kernel
theorem dX10_share_210 : decode cX10_share 210 = .ok (.iinc 7 1, 3) := by decide +kernel
theorem dX10_share_213 : decode cX10_share 213 = .ok (.goto (-123), 3) := by decide +kernel
theorem dX10_share_216 : decode cX10_share 216 = .ok (.iload 5, 2) := by decide +kernel
theorem dX10_share_218 : decode cX10_share 218 = .ok (.iload 4, 2) := by decide +kernel
theorem dX10_share_220 : decode cX10_share 220 = .ok (.imul, 1) := by decide +kernel
theorem dX10_share_221 : decode cX10_share 221 = .ok (.iload 6, 2) := by decide +kernel
theorem dX10_share_223 : decode cX10_share 223 = .ok (.iadd, 1) := by decide +kernel
theorem dX10_share_224 : decode cX10_share 224 = .ok (.iload 4, 2) := by decide +kernel
theorem dX10_share_226 : decode cX10_share 226 = .ok (.iload_n 3, 1) := by decide +kernel
theorem dX10_share_227 : decode cX10_share 227 = .ok (.invokestatic 257, 3) := by decide +kernel
theorem dX10_share_230 : decode cX10_share 230 = .ok (.ireturn, 1) := by decide +kernel
theorem dX10_image_0 : decode cX10_image 0 = .ok (.aload_n 0, 1) := by decide +kernel
theorem dX10_image_1 : decode cX10_image 1 = .ok (.iconst 1, 1) := by decide +kernel
theorem dX10_image_2 : decode cX10_image 2 = .ok (.putfield 267, 3) := by decide +kernel
theorem dX10_image_5 : decode cX10_image 5 = .ok (.aload_n 0, 1) := by decide +kernel
theorem dX10_image_6 : decode cX10_image 6 = .ok (.aload_n 0, 1) := by decide +kernel
theorem dX10_image_7 : decode cX10_image 7 = .ok (.getfield 83, 3) := by decide +kernel
theorem dX10_image_10 : decode cX10_image 10 = .ok (.putfield 271, 3) := by decide +kernel
theorem dX10_image_13 : decode cX10_image 13 = .ok (.aload_n 0, 1) := by decide +kernel
theorem dX10_image_14 : decode cX10_image 14 = .ok (.aload_n 0, 1) := by decide +kernel
theorem dX10_image_15 : decode cX10_image 15 = .ok (.getfield 133, 3) := by decide +kernel
theorem dX10_image_18 : decode cX10_image 18 = .ok (.putfield 274, 3) := by decide +kernel
theorem dX10_image_21 : decode cX10_image 21 = .ok (.iconst 0, 1) := by decide +kernel
theorem dX10_image_22 : decode cX10_image 22 = .ok (.istore_n 1, 1) := by decide +kernel
theorem dX10_image_23 : decode cX10_image 23 = .ok (.iload_n 1, 1) := by decide +kernel
theorem dX10_image_24 : decode cX10_image 24 = .ok (.bipush 12, 2) := by decide +kernel
theorem dX10_image_26 : decode cX10_image 26 = .ok (.if_icmp .ge 66, 3) := by decide +kernel
theorem dX10_image_29 : decode cX10_image 29 = .ok (.aload_n 0, 1) := by decide +kernel
theorem dX10_image_30 : decode cX10_image 30 = .ok (.getfield 67, 3) := by decide +kernel
theorem dX10_image_33 : decode cX10_image 33 = .ok (.iload_n 1, 1) := by decide +kernel
theorem dX10_image_34 : decode cX10_image 34 = .ok (.aload_n 0, 1) := by decide +kernel
theorem dX10_image_35 : decode cX10_image 35 = .ok (.getfield 7, 3) := by decide +kernel
theorem dX10_image_38 : decode cX10_image 38 = .ok (.iload_n 1, 1) := by decide +kernel
theorem dX10_image_39 : decode cX10_image 39 = .ok (.iaload, 1) := by decide +kernel
theorem dX10_image_40 : decode cX10_image 40 = .ok (.iastore, 1) := by decide +kernel
theorem dX10_image_41 : decode cX10_image 41 = .ok (.aload_n 0, 1) := by decide +kernel
theorem dX10_image_42 : decode cX10_image 42 = .ok (.getfield 67, 3) := by decide +kernel
theorem dX10_image_45 : decode cX10_image 45 = .ok (.bipush 12, 2) := by decide +kernel
theorem dX10_image_47 : decode cX10_image 47 = .ok (.iload_n 1, 1) := by decide +kernel
theorem dX10_image_48 : decode cX10_image 48 = .ok (.iadd, 1) := by decide +kernel
theorem dX10_image_49 : decode cX10_image 49 = .ok (.aload_n 0, 1) := by decide +kernel
theorem dX10_image_50 : decode cX10_image 50 = .ok (.getfield 13, 3) := by decide +kernel
theorem dX10_image_53 : decode cX10_image 53 = .ok (.iload_n 1, 1) := by decide +kernel
theorem dX10_image_54 : decode cX10_image 54 = .ok (.iaload, 1) := by decide +kernel
theorem dX10_image_55 : decode cX10_image 55 = .ok (.iastore, 1) := by decide +kernel
theorem dX10_image_56 : decode cX10_image 56 = .ok (.aload_n 0, 1) := by decide +kernel
theorem dX10_image_57 : decode cX10_image 57 = .ok (.getfield 67, 3) := by decide +kernel
theorem dX10_image_60 : decode cX10_image 60 = .ok (.bipush 24, 2) := by decide +kernel
theorem dX10_image_62 : decode cX10_image 62 = .ok (.iload_n 1, 1) := by decide +kernel
theorem dX10_image_63 : decode cX10_image 63 = .ok (.iadd, 1) := by decide +kernel
theorem dX10_image_64 : decode cX10_image 64 = .ok (.aload_n 0, 1) := by decide +kernel
theorem dX10_image_65 : decode cX10_image 65 = .ok (.getfield 16, 3) := by decide +kernel
theorem dX10_image_68 : decode cX10_image 68 = .ok (.iload_n 1, 1) := by decide +kernel
theorem dX10_image_69 : decode cX10_image 69 = .ok (.iaload, 1) := by decide +kernel
theorem dX10_image_70 : decode cX10_image 70 = .ok (.iastore, 1) := by decide +kernel
theorem dX10_image_71 : decode cX10_image 71 = .ok (.aload_n 0, 1) := by decide +kernel
theorem dX10_image_72 : decode cX10_image 72 = .ok (.getfield 67, 3) := by decide +kernel
theorem dX10_image_75 : decode cX10_image 75 = .ok (.bipush 36, 2) := by decide +kernel
theorem dX10_image_77 : decode cX10_image 77 = .ok (.iload_n 1, 1) := by decide +kernel
theorem dX10_image_78 : decode cX10_image 78 = .ok (.iadd, 1) := by decide +kernel
theorem dX10_image_79 : decode cX10_image 79 = .ok (.aload_n 0, 1) := by decide +kernel
theorem dX10_image_80 : decode cX10_image 80 = .ok (.getfield 19, 3) := by decide +kernel
theorem dX10_image_83 : decode cX10_image 83 = .ok (.iload_n 1, 1) := by decide +kernel
theorem dX10_image_84 : decode cX10_image 84 = .ok (.iaload, 1) := by decide +kernel
theorem dX10_image_85 : decode cX10_image 85 = .ok (.iastore, 1) := by decide +kernel
theorem dX10_image_86 : decode cX10_image 86 = .ok (.iinc 1 1, 3) := by decide +kernel
theorem dX10_image_89 : decode cX10_image 89 = .ok (.goto (-66), 3) := by decide +kernel
theorem dX10_image_92 : decode cX10_image 92 = .ok (.iconst 0, 1) := by decide +kernel
theorem dX10_image_93 : decode cX10_image 93 = .ok (.istore_n 1, 1) := by decide +kernel
theorem dX10_image_94 : decode cX10_image 94 = .ok (.iload_n 1, 1) := by decide +kernel
theorem dX10_image_95 : decode cX10_image 95 = .ok (.bipush 6, 2) := by decide +kernel
theorem dX10_image_97 : decode cX10_image 97 = .ok (.if_icmp .ge 39, 3) := by decide +kernel
theorem dX10_image_100 : decode cX10_image 100 = .ok (.aload_n 0, 1) := by decide +kernel
theorem dX10_image_101 : decode cX10_image 101 = .ok (.getfield 67, 3) := by decide +kernel
theorem dX10_image_104 : decode cX10_image 104 = .ok (.bipush 48, 2) := by decide +kernel
theorem dX10_image_106 : decode cX10_image 106 = .ok (.iload_n 1, 1) := by decide +kernel
theorem dX10_image_107 : decode cX10_image 107 = .ok (.iadd, 1) := by decide +kernel
theorem dX10_image_108 : decode cX10_image 108 = .ok (.aload_n 0, 1) := by decide +kernel
theorem dX10_image_109 : decode cX10_image 109 = .ok (.getfield 22, 3) := by decide +kernel
theorem dX10_image_112 : decode cX10_image 112 = .ok (.iload_n 1, 1) := by decide +kernel
theorem dX10_image_113 : decode cX10_image 113 = .ok (.iaload, 1) := by decide +kernel
theorem dX10_image_114 : decode cX10_image 114 = .ok (.iastore, 1) := by decide +kernel
theorem dX10_image_115 : decode cX10_image 115 = .ok (.aload_n 0, 1) := by decide +kernel
theorem dX10_image_116 : decode cX10_image 116 = .ok (.getfield 67, 3) := by decide +kernel
theorem dX10_image_119 : decode cX10_image 119 = .ok (.bipush 54, 2) := by decide +kernel
theorem dX10_image_121 : decode cX10_image 121 = .ok (.iload_n 1, 1) := by decide +kernel
theorem dX10_image_122 : decode cX10_image 122 = .ok (.iadd, 1) := by decide +kernel
theorem dX10_image_123 : decode cX10_image 123 = .ok (.aload_n 0, 1) := by decide +kernel
theorem dX10_image_124 : decode cX10_image 124 = .ok (.getfield 28, 3) := by decide +kernel
theorem dX10_image_127 : decode cX10_image 127 = .ok (.iload_n 1, 1) := by decide +kernel
theorem dX10_image_128 : decode cX10_image 128 = .ok (.iaload, 1) := by decide +kernel
theorem dX10_image_129 : decode cX10_image 129 = .ok (.iastore, 1) := by decide +kernel
theorem dX10_image_130 : decode cX10_image 130 = .ok (.iinc 1 1, 3) := by decide +kernel
theorem dX10_image_133 : decode cX10_image 133 = .ok (.goto (-39), 3) := by decide +kernel
theorem dX10_image_136 : decode cX10_image 136 = .ok (.iconst 0, 1) := by decide +kernel
theorem dX10_image_137 : decode cX10_image 137 = .ok (.istore_n 1, 1) := by decide +kernel
theorem dX10_image_138 : decode cX10_image 138 = .ok (.iload_n 1, 1) := by decide +kernel
theorem dX10_image_139 : decode cX10_image 139 = .ok (.bipush 72, 2) := by decide +kernel
theorem dX10_image_141 : decode cX10_image 141 = .ok (.if_icmp .ge 24, 3) := by decide +kernel
theorem dX10_image_144 : decode cX10_image 144 = .ok (.aload_n 0, 1) := by decide +kernel
theorem dX10_image_145 : decode cX10_image 145 = .ok (.getfield 67, 3) := by decide +kernel
theorem dX10_image_148 : decode cX10_image 148 = .ok (.bipush 60, 2) := by decide +kernel
theorem dX10_image_150 : decode cX10_image 150 = .ok (.iload_n 1, 1) := by decide +kernel
theorem dX10_image_151 : decode cX10_image 151 = .ok (.iadd, 1) := by decide +kernel
theorem dX10_image_152 : decode cX10_image 152 = .ok (.aload_n 0, 1) := by decide +kernel
theorem dX10_image_153 : decode cX10_image 153 = .ok (.getfield 25, 3) := by decide +kernel
theorem dX10_image_156 : decode cX10_image 156 = .ok (.iload_n 1, 1) := by decide +kernel
theorem dX10_image_157 : decode cX10_image 157 = .ok (.iaload, 1) := by decide +kernel
theorem dX10_image_158 : decode cX10_image 158 = .ok (.iastore, 1) := by decide +kernel
theorem dX10_image_159 : decode cX10_image 159 = .ok (.iinc 1 1, 3) := by decide +kernel
theorem dX10_image_162 : decode cX10_image 162 = .ok (.goto (-24), 3) := by decide +kernel
theorem dX10_image_165 : decode cX10_image 165 = .ok (.iconst 1, 1) := by decide +kernel
theorem dX10_image_166 : decode cX10_image 166 = .ok (.ireturn, 1) := by decide +kernel
theorem dX10_restore_0 : decode cX10_restore 0 = .ok (.aload_n 0, 1) := by decide +kernel
theorem dX10_restore_1 : decode cX10_restore 1 = .ok (.getfield 267, 3) := by decide +kernel
theorem dX10_restore_4 : decode cX10_restore 4 = .ok (.ifCond .ne 6, 3) := by decide +kernel
theorem dX10_restore_7 : decode cX10_restore 7 = .ok (.bipush (-4), 2) := by decide +kernel
theorem dX10_restore_9 : decode cX10_restore 9 = .ok (.ireturn, 1) := by decide +kernel
theorem dX10_restore_10 : decode cX10_restore 10 = .ok (.aload_n 0, 1) := by decide +kernel
theorem dX10_restore_11 : decode cX10_restore 11 = .ok (.aload_n 0, 1) := by decide +kernel
theorem dX10_restore_12 : decode cX10_restore 12 = .ok (.getfield 271, 3) := by decide +kernel
theorem dX10_restore_15 : decode cX10_restore 15 = .ok (.putfield 83, 3) := by decide +kernel
theorem dX10_restore_18 : decode cX10_restore 18 = .ok (.aload_n 0, 1) := by decide +kernel
theorem dX10_restore_19 : decode cX10_restore 19 = .ok (.aload_n 0, 1) := by decide +kernel
theorem dX10_restore_20 : decode cX10_restore 20 = .ok (.getfield 274, 3) := by decide +kernel
theorem dX10_restore_23 : decode cX10_restore 23 = .ok (.putfield 133, 3) := by decide +kernel
theorem dX10_restore_26 : decode cX10_restore 26 = .ok (.iconst 0, 1) := by decide +kernel
theorem dX10_restore_27 : decode cX10_restore 27 = .ok (.istore_n 1, 1) := by decide +kernel
theorem dX10_restore_28 : decode cX10_restore 28 = .ok (.iload_n 1, 1) := by decide +kernel
theorem dX10_restore_29 : decode cX10_restore 29 = .ok (.bipush 12, 2) := by decide +kernel
theorem dX10_restore_31 : decode cX10_restore 31 = .ok (.if_icmp .ge 66, 3) := by decide +kernel
theorem dX10_restore_34 : decode cX10_restore 34 = .ok (.aload_n 0, 1) := by decide +kernel
theorem dX10_restore_35 : decode cX10_restore 35 = .ok (.getfield 7, 3) := by decide +kernel
theorem dX10_restore_38 : decode cX10_restore 38 = .ok (.iload_n 1, 1) := by decide +kernel
theorem dX10_restore_39 : decode cX10_restore 39 = .ok (.aload_n 0, 1) := by decide +kernel
theorem dX10_restore_40 : decode cX10_restore 40 = .ok (.getfield 67, 3) := by decide +kernel
theorem dX10_restore_43 : decode cX10_restore 43 = .ok (.iload_n 1, 1) := by decide +kernel
theorem dX10_restore_44 : decode cX10_restore 44 = .ok (.iaload, 1) := by decide +kernel
theorem dX10_restore_45 : decode cX10_restore 45 = .ok (.iastore, 1) := by decide +kernel
theorem dX10_restore_46 : decode cX10_restore 46 = .ok (.aload_n 0, 1) := by decide +kernel
theorem dX10_restore_47 : decode cX10_restore 47 = .ok (.getfield 13, 3) := by decide +kernel
theorem dX10_restore_50 : decode cX10_restore 50 = .ok (.iload_n 1, 1) := by decide +kernel
theorem dX10_restore_51 : decode cX10_restore 51 = .ok (.aload_n 0, 1) := by decide +kernel
theorem dX10_restore_52 : decode cX10_restore 52 = .ok (.getfield 67, 3) := by decide +kernel
theorem dX10_restore_55 : decode cX10_restore 55 = .ok (.bipush 12, 2) := by decide +kernel
theorem dX10_restore_57 : decode cX10_restore 57 = .ok (.iload_n 1, 1) := by decide +kernel
theorem dX10_restore_58 : decode cX10_restore 58 = .ok (.iadd, 1) := by decide +kernel
theorem dX10_restore_59 : decode cX10_restore 59 = .ok (.iaload, 1) := by decide +kernel
theorem dX10_restore_60 : decode cX10_restore 60 = .ok (.iastore, 1) := by decide +kernel
theorem dX10_restore_61 : decode cX10_restore 61 = .ok (.aload_n 0, 1) := by decide +kernel
theorem dX10_restore_62 : decode cX10_restore 62 = .ok (.getfield 16, 3) := by decide +kernel
theorem dX10_restore_65 : decode cX10_restore 65 = .ok (.iload_n 1, 1) := by decide +kernel
theorem dX10_restore_66 : decode cX10_restore 66 = .ok (.aload_n 0, 1) := by decide +kernel
theorem dX10_restore_67 : decode cX10_restore 67 = .ok (.getfield 67, 3) := by decide +kernel
theorem dX10_restore_70 : decode cX10_restore 70 = .ok (.bipush 24, 2) := by decide +kernel
theorem dX10_restore_72 : decode cX10_restore 72 = .ok (.iload_n 1, 1) := by decide +kernel
theorem dX10_restore_73 : decode cX10_restore 73 = .ok (.iadd, 1) := by decide +kernel
theorem dX10_restore_74 : decode cX10_restore 74 = .ok (.iaload, 1) := by decide +kernel
theorem dX10_restore_75 : decode cX10_restore 75 = .ok (.iastore, 1) := by decide +kernel
theorem dX10_restore_76 : decode cX10_restore 76 = .ok (.aload_n 0, 1) := by decide +kernel
theorem dX10_restore_77 : decode cX10_restore 77 = .ok (.getfield 19, 3) := by decide +kernel
theorem dX10_restore_80 : decode cX10_restore 80 = .ok (.iload_n 1, 1) := by decide +kernel
theorem dX10_restore_81 : decode cX10_restore 81 = .ok (.aload_n 0, 1) := by decide +kernel
theorem dX10_restore_82 : decode cX10_restore 82 = .ok (.getfield 67, 3) := by decide +kernel
theorem dX10_restore_85 : decode cX10_restore 85 = .ok (.bipush 36, 2) := by decide +kernel
theorem dX10_restore_87 : decode cX10_restore 87 = .ok (.iload_n 1, 1) := by decide +kernel
theorem dX10_restore_88 : decode cX10_restore 88 = .ok (.iadd, 1) := by decide +kernel
theorem dX10_restore_89 : decode cX10_restore 89 = .ok (.iaload, 1) := by decide +kernel
theorem dX10_restore_90 : decode cX10_restore 90 = .ok (.iastore, 1) := by decide +kernel
theorem dX10_restore_91 : decode cX10_restore 91 = .ok (.iinc 1 1, 3) := by decide +kernel
theorem dX10_restore_94 : decode cX10_restore 94 = .ok (.goto (-66), 3) := by decide +kernel
theorem dX10_restore_97 : decode cX10_restore 97 = .ok (.iconst 0, 1) := by decide +kernel
theorem dX10_restore_98 : decode cX10_restore 98 = .ok (.istore_n 1, 1) := by decide +kernel
theorem dX10_restore_99 : decode cX10_restore 99 = .ok (.iload_n 1, 1) := by decide +kernel
theorem dX10_restore_100 : decode cX10_restore 100 = .ok (.bipush 6, 2) := by decide +kernel
theorem dX10_restore_102 : decode cX10_restore 102 = .ok (.if_icmp .ge 39, 3) := by decide +kernel
theorem dX10_restore_105 : decode cX10_restore 105 = .ok (.aload_n 0, 1) := by decide +kernel
theorem dX10_restore_106 : decode cX10_restore 106 = .ok (.getfield 22, 3) := by decide +kernel
theorem dX10_restore_109 : decode cX10_restore 109 = .ok (.iload_n 1, 1) := by decide +kernel
theorem dX10_restore_110 : decode cX10_restore 110 = .ok (.aload_n 0, 1) := by decide +kernel
theorem dX10_restore_111 : decode cX10_restore 111 = .ok (.getfield 67, 3) := by decide +kernel
theorem dX10_restore_114 : decode cX10_restore 114 = .ok (.bipush 48, 2) := by decide +kernel
theorem dX10_restore_116 : decode cX10_restore 116 = .ok (.iload_n 1, 1) := by decide +kernel
theorem dX10_restore_117 : decode cX10_restore 117 = .ok (.iadd, 1) := by decide +kernel
theorem dX10_restore_118 : decode cX10_restore 118 = .ok (.iaload, 1) := by decide +kernel
theorem dX10_restore_119 : decode cX10_restore 119 = .ok (.iastore, 1) := by decide +kernel
theorem dX10_restore_120 : decode cX10_restore 120 = .ok (.aload_n 0, 1) := by decide +kernel
theorem dX10_restore_121 : decode cX10_restore 121 = .ok (.getfield 28, 3) := by decide +kernel
theorem dX10_restore_124 : decode cX10_restore 124 = .ok (.iload_n 1, 1) := by decide +kernel
theorem dX10_restore_125 : decode cX10_restore 125 = .ok (.aload_n 0, 1) := by decide +kernel
theorem dX10_restore_126 : decode cX10_restore 126 = .ok (.getfield 67, 3) := by decide +kernel
theorem dX10_restore_129 : decode cX10_restore 129 = .ok (.bipush 54, 2) := by decide +kernel
theorem dX10_restore_131 : decode cX10_restore 131 = .ok (.iload_n 1, 1) := by decide +kernel
theorem dX10_restore_132 : decode cX10_restore 132 = .ok (.iadd, 1) := by decide +kernel
theorem dX10_restore_133 : decode cX10_restore 133 = .ok (.iaload, 1) := by decide +kernel
theorem dX10_restore_134 : decode cX10_restore 134 = .ok (.iastore, 1) := by decide +kernel
theorem dX10_restore_135 : decode cX10_restore 135 = .ok (.iinc 1 1, 3) := by decide +kernel
theorem dX10_restore_138 : decode cX10_restore 138 = .ok (.goto (-39), 3) := by decide +kernel
theorem dX10_restore_141 : decode cX10_restore 141 = .ok (.iconst 0, 1) := by decide +kernel
theorem dX10_restore_142 : decode cX10_restore 142 = .ok (.istore_n 1, 1) := by decide +kernel
theorem dX10_restore_143 : decode cX10_restore 143 = .ok (.iload_n 1, 1) := by decide +kernel
theorem dX10_restore_144 : decode cX10_restore 144 = .ok (.bipush 72, 2) := by decide +kernel
theorem dX10_restore_146 : decode cX10_restore 146 = .ok (.if_icmp .ge 24, 3) := by decide +kernel
theorem dX10_restore_149 : decode cX10_restore 149 = .ok (.aload_n 0, 1) := by decide +kernel
theorem dX10_restore_150 : decode cX10_restore 150 = .ok (.getfield 25, 3) := by decide +kernel
theorem dX10_restore_153 : decode cX10_restore 153 = .ok (.iload_n 1, 1) := by decide +kernel
theorem dX10_restore_154 : decode cX10_restore 154 = .ok (.aload_n 0, 1) := by decide +kernel
theorem dX10_restore_155 : decode cX10_restore 155 = .ok (.getfield 67, 3) := by decide +kernel
theorem dX10_restore_158 : decode cX10_restore 158 = .ok (.bipush 60, 2) := by decide +kernel
theorem dX10_restore_160 : decode cX10_restore 160 = .ok (.iload_n 1, 1) := by decide +kernel
theorem dX10_restore_161 : decode cX10_restore 161 = .ok (.iadd, 1) := by decide +kernel
theorem dX10_restore_162 : decode cX10_restore 162 = .ok (.iaload, 1) := by decide +kernel
theorem dX10_restore_163 : decode cX10_restore 163 = .ok (.iastore, 1) := by decide +kernel
theorem dX10_restore_164 : decode cX10_restore 164 = .ok (.iinc 1 1, 3) := by decide +kernel
theorem dX10_restore_167 : decode cX10_restore 167 = .ok (.goto (-24), 3) := by decide +kernel
theorem dX10_restore_170 : decode cX10_restore 170 = .ok (.iconst 1, 1) := by decide +kernel
theorem dX10_restore_171 : decode cX10_restore 171 = .ok (.ireturn, 1) := by decide +kernel
theorem dX10_isSheet_0 : decode cX10_isSheet 0 = .ok (.iload_n 0, 1) := by decide +kernel
theorem dX10_isSheet_1 : decode cX10_isSheet 1 = .ok (.i2l, 1) := by decide +kernel
theorem dX10_isSheet_2 : decode cX10_isSheet 2 = .ok (.lconst 0, 1) := by decide +kernel
theorem dX10_isSheet_3 : decode cX10_isSheet 3 = .ok (.ldc2_w 104, 3) := by decide +kernel
theorem dX10_isSheet_6 : decode cX10_isSheet 6 = .ok (.invokestatic 87, 3) := by decide +kernel
theorem dX10_isSheet_9 : decode cX10_isSheet 9 = .ok (.ireturn, 1) := by decide +kernel
theorem dX10_low_0 : decode cX10_low 0 = .ok (.iload_n 0, 1) := by decide +kernel
theorem dX10_low_1 : decode cX10_low 1 = .ok (.ifCond .ne 10, 3) := by decide +kernel
theorem dX10_low_4 : decode cX10_low 4 = .ok (.lload_n 1, 1) := by decide +kernel
theorem dX10_low_5 : decode cX10_low 5 = .ok (.l2i, 1) := by decide +kernel
theorem dX10_low_6 : decode cX10_low 6 = .ok (.i2b, 1) := by decide +kernel
theorem dX10_low_7 : decode cX10_low 7 = .ok (.i2l, 1) := by decide +kernel
theorem dX10_low_8 : decode cX10_low 8 = .ok (.goto 15, 3) := by decide +kernel
theorem dX10_low_11 : decode cX10_low 11 = .ok (.iload_n 0, 1) := by decide +kernel
theorem dX10_low_12 : decode cX10_low 12 = .ok (.iconst 1, 1) := by decide +kernel
theorem dX10_low_13 : decode cX10_low 13 = .ok (.if_icmp .ne 9, 3) := by decide +kernel
theorem dX10_low_16 : decode cX10_low 16 = .ok (.lload_n 1, 1) := by decide +kernel
theorem dX10_low_17 : decode cX10_low 17 = .ok (.l2i, 1) := by decide +kernel
theorem dX10_low_18 : decode cX10_low 18 = .ok (.i2l, 1) := by decide +kernel
theorem dX10_low_19 : decode cX10_low 19 = .ok (.goto 4, 3) := by decide +kernel
theorem dX10_low_22 : decode cX10_low 22 = .ok (.lload_n 1, 1) := by decide +kernel
theorem dX10_low_23 : decode cX10_low 23 = .ok (.lreturn, 1) := by decide +kernel
theorem dX10_against_0 : decode cX10_against 0 = .ok (.aload_n 0, 1) := by decide +kernel
theorem dX10_against_1 : decode cX10_against 1 = .ok (.getfield 70, 3) := by decide +kernel
theorem dX10_against_4 : decode cX10_against 4 = .ok (.iload_n 1, 1) := by decide +kernel
theorem dX10_against_5 : decode cX10_against 5 = .ok (.iaload, 1) := by decide +kernel
theorem dX10_against_6 : decode cX10_against 6 = .ok (.ifCond .ge 6, 3) := by decide +kernel
theorem dX10_against_9 : decode cX10_against 9 = .ok (.bipush (-11), 2) := by decide +kernel
theorem dX10_against_11 : decode cX10_against 11 = .ok (.ireturn, 1) := by decide +kernel
theorem dX10_against_12 : decode cX10_against 12 = .ok (.aload_n 0, 1) := by decide +kernel
theorem dX10_against_13 : decode cX10_against 13 = .ok (.getfield 70, 3) := by decide +kernel
theorem dX10_against_16 : decode cX10_against 16 = .ok (.iload_n 1, 1) := by decide +kernel
theorem dX10_against_17 : decode cX10_against 17 = .ok (.iaload, 1) := by decide +kernel
theorem dX10_against_18 : decode cX10_against 18 = .ok (.iload_n 2, 1) := by decide +kernel
theorem dX10_against_19 : decode cX10_against 19 = .ok (.if_icmp .eq 6, 3) := by decide +kernel
theorem dX10_against_22 : decode cX10_against 22 = .ok (.bipush (-12), 2) := by decide +kernel
theorem dX10_against_24 : decode cX10_against 24 = .ok (.ireturn, 1) := by decide +kernel
theorem dX10_against_25 : decode cX10_against 25 = .ok (.iload_n 3, 1) := by decide +kernel
theorem dX10_against_26 : decode cX10_against 26 = .ok (.ifCond .lt 16, 3) := by decide +kernel
theorem dX10_against_29 : decode cX10_against 29 = .ok (.iload_n 3, 1) := by decide +kernel
theorem dX10_against_30 : decode cX10_against 30 = .ok (.aload_n 0, 1) := by decide +kernel
theorem dX10_against_31 : decode cX10_against 31 = .ok (.getfield 73, 3) := by decide +kernel
theorem dX10_against_34 : decode cX10_against 34 = .ok (.iload_n 1, 1) := by decide +kernel
theorem dX10_against_35 : decode cX10_against 35 = .ok (.iaload, 1) := by decide +kernel
theorem dX10_against_36 : decode cX10_against 36 = .ok (.iload 4, 2) := by decide +kernel
theorem dX10_against_38 : decode cX10_against 38 = .ok (.isub, 1) := by decide +kernel
theorem dX10_against_39 : decode cX10_against 39 = .ok (.if_icmp .le 8, 3) := by decide +kernel
theorem dX10_against_42 : decode cX10_against 42 = .ok (.bipush (-13), 2) := by decide +kernel
theorem dX10_against_44 : decode cX10_against 44 = .ok (.goto 4, 3) := by decide +kernel
theorem dX10_against_47 : decode cX10_against 47 = .ok (.iconst 0, 1) := by decide +kernel
theorem dX10_against_48 : decode cX10_against 48 = .ok (.ireturn, 1) := by decide +kernel
theorem dX10_sumIn_0 : decode cX10_sumIn 0 = .ok (.iconst 0, 1) := by decide +kernel
theorem dX10_sumIn_1 : decode cX10_sumIn 1 = .ok (.istore_n 3, 1) := by decide +kernel
theorem dX10_sumIn_2 : decode cX10_sumIn 2 = .ok (.iconst 0, 1) := by decide +kernel
theorem dX10_sumIn_3 : decode cX10_sumIn 3 = .ok (.istore 4, 2) := by decide +kernel
theorem dX10_sumIn_5 : decode cX10_sumIn 5 = .ok (.iload 4, 2) := by decide +kernel
theorem dX10_sumIn_7 : decode cX10_sumIn 7 = .ok (.aload_n 0, 1) := by decide +kernel
theorem dX10_sumIn_8 : decode cX10_sumIn 8 = .ok (.getfield 22, 3) := by decide +kernel
theorem dX10_sumIn_11 : decode cX10_sumIn 11 = .ok (.iload_n 1, 1) := by decide +kernel
theorem dX10_sumIn_12 : decode cX10_sumIn 12 = .ok (.iaload, 1) := by decide +kernel
theorem dX10_sumIn_13 : decode cX10_sumIn 13 = .ok (.if_icmp .ge 51, 3) := by decide +kernel
theorem dX10_sumIn_16 : decode cX10_sumIn 16 = .ok (.iload_n 3, 1) := by decide +kernel
theorem dX10_sumIn_17 : decode cX10_sumIn 17 = .ok (.iload_n 2, 1) := by decide +kernel
theorem dX10_sumIn_18 : decode cX10_sumIn 18 = .ok (.aload_n 0, 1) := by decide +kernel
theorem dX10_sumIn_19 : decode cX10_sumIn 19 = .ok (.getfield 25, 3) := by decide +kernel
theorem dX10_sumIn_22 : decode cX10_sumIn 22 = .ok (.bipush 12, 2) := by decide +kernel
theorem dX10_sumIn_24 : decode cX10_sumIn 24 = .ok (.iload_n 1, 1) := by decide +kernel
theorem dX10_sumIn_25 : decode cX10_sumIn 25 = .ok (.imul, 1) := by decide +kernel
theorem dX10_sumIn_26 : decode cX10_sumIn 26 = .ok (.iload 4, 2) := by decide +kernel
theorem dX10_sumIn_28 : decode cX10_sumIn 28 = .ok (.iadd, 1) := by decide +kernel
theorem dX10_sumIn_29 : decode cX10_sumIn 29 = .ok (.iaload, 1) := by decide +kernel
theorem dX10_sumIn_30 : decode cX10_sumIn 30 = .ok (.invokestatic 263, 3) := by decide +kernel
theorem dX10_sumIn_33 : decode cX10_sumIn 33 = .ok (.ifCond .eq 22, 3) := by decide +kernel
theorem dX10_sumIn_36 : decode cX10_sumIn 36 = .ok (.aload_n 0, 1) := by decide +kernel
theorem dX10_sumIn_37 : decode cX10_sumIn 37 = .ok (.aload_n 0, 1) := by decide +kernel
theorem dX10_sumIn_38 : decode cX10_sumIn 38 = .ok (.getfield 25, 3) := by decide +kernel
theorem dX10_sumIn_41 : decode cX10_sumIn 41 = .ok (.bipush 12, 2) := by decide +kernel
theorem dX10_sumIn_43 : decode cX10_sumIn 43 = .ok (.iload_n 1, 1) := by decide +kernel
theorem dX10_sumIn_44 : decode cX10_sumIn 44 = .ok (.imul, 1) := by decide +kernel
theorem dX10_sumIn_45 : decode cX10_sumIn 45 = .ok (.iload 4, 2) := by decide +kernel
theorem dX10_sumIn_47 : decode cX10_sumIn 47 = .ok (.iadd, 1) := by decide +kernel
theorem dX10_sumIn_48 : decode cX10_sumIn 48 = .ok (.iaload, 1) := by decide +kernel
theorem dX10_sumIn_49 : decode cX10_sumIn 49 = .ok (.invokevirtual 97, 3) := by decide +kernel
theorem dX10_sumIn_52 : decode cX10_sumIn 52 = .ok (.goto 4, 3) := by decide +kernel
theorem dX10_sumIn_55 : decode cX10_sumIn 55 = .ok (.iconst 0, 1) := by decide +kernel
theorem dX10_sumIn_56 : decode cX10_sumIn 56 = .ok (.iadd, 1) := by decide +kernel
theorem dX10_sumIn_57 : decode cX10_sumIn 57 = .ok (.istore_n 3, 1) := by decide +kernel
theorem dX10_sumIn_58 : decode cX10_sumIn 58 = .ok (.iinc 4 1, 3) := by decide +kernel
theorem dX10_sumIn_61 : decode cX10_sumIn 61 = .ok (.goto (-56), 3) := by decide +kernel
theorem dX10_sumIn_64 : decode cX10_sumIn 64 = .ok (.iload_n 3, 1) := by decide +kernel
theorem dX10_sumIn_65 : decode cX10_sumIn 65 = .ok (.ireturn, 1) := by decide +kernel
theorem dX10_dents_0 : decode cX10_dents 0 = .ok (.iload_n 1, 1) := by decide +kernel
theorem dX10_dents_1 : decode cX10_dents 1 = .ok (.invokestatic 277, 3) := by decide +kernel
theorem dX10_dents_4 : decode cX10_dents 4 = .ok (.ifCond .eq 26, 3) := by decide +kernel
theorem dX10_dents_7 : decode cX10_dents 7 = .ok (.iload_n 2, 1) := by decide +kernel
theorem dX10_dents_8 : decode cX10_dents 8 = .ok (.i2l, 1) := by decide +kernel
theorem dX10_dents_9 : decode cX10_dents 9 = .ok (.lconst 0, 1) := by decide +kernel
theorem dX10_dents_10 : decode cX10_dents 10 = .ok (.ldc2_w 246, 3) := by decide +kernel
theorem dX10_dents_13 : decode cX10_dents 13 = .ok (.invokestatic 87, 3) := by decide +kernel
theorem dX10_dents_16 : decode cX10_dents 16 = .ok (.ifCond .eq 14, 3) := by decide +kernel
theorem dX10_dents_19 : decode cX10_dents 19 = .ok (.iload 4, 2) := by decide +kernel
theorem dX10_dents_21 : decode cX10_dents 21 = .ok (.i2l, 1) := by decide +kernel
theorem dX10_dents_22 : decode cX10_dents 22 = .ok (.lconst 0, 1) := by decide +kernel
theorem dX10_dents_23 : decode cX10_dents 23 = .ok (.lconst 1, 1) := by decide +kernel
theorem dX10_dents_24 : decode cX10_dents 24 = .ok (.invokestatic 87, 3) := by decide +kernel
theorem dX10_dents_27 : decode cX10_dents 27 = .ok (.ifCond .ne 5, 3) := by decide +kernel
theorem dX10_dents_30 : decode cX10_dents 30 = .ok (.iconst (-1), 1) := by decide +kernel
theorem dX10_dents_31 : decode cX10_dents 31 = .ok (.ireturn, 1) := by decide +kernel
theorem dX10_dents_32 : decode cX10_dents 32 = .ok (.aload_n 0, 1) := by decide +kernel
theorem dX10_dents_33 : decode cX10_dents 33 = .ok (.iload_n 1, 1) := by decide +kernel
theorem dX10_dents_34 : decode cX10_dents 34 = .ok (.iload_n 2, 1) := by decide +kernel
theorem dX10_dents_35 : decode cX10_dents 35 = .ok (.iload_n 3, 1) := by decide +kernel
theorem dX10_dents_36 : decode cX10_dents 36 = .ok (.bipush 6, 2) := by decide +kernel
theorem dX10_dents_38 : decode cX10_dents 38 = .ok (.invokevirtual 280, 3) := by decide +kernel
theorem dX10_dents_41 : decode cX10_dents 41 = .ok (.istore 5, 2) := by decide +kernel
theorem dX10_dents_43 : decode cX10_dents 43 = .ok (.iload 5, 2) := by decide +kernel
theorem dX10_dents_45 : decode cX10_dents 45 = .ok (.ifCond .eq 6, 3) := by decide +kernel
theorem dX10_dents_48 : decode cX10_dents 48 = .ok (.iload 5, 2) := by decide +kernel
theorem dX10_dents_50 : decode cX10_dents 50 = .ok (.ireturn, 1) := by decide +kernel
theorem dX10_dents_51 : decode cX10_dents 51 = .ok (.iconst 0, 1) := by decide +kernel
theorem dX10_dents_52 : decode cX10_dents 52 = .ok (.istore 6, 2) := by decide +kernel
theorem dX10_dents_54 : decode cX10_dents 54 = .ok (.iconst 0, 1) := by decide +kernel
theorem dX10_dents_55 : decode cX10_dents 55 = .ok (.istore 7, 2) := by decide +kernel
theorem dX10_dents_57 : decode cX10_dents 57 = .ok (.iload 7, 2) := by decide +kernel
theorem dX10_dents_59 : decode cX10_dents 59 = .ok (.aload_n 0, 1) := by decide +kernel
theorem dX10_dents_60 : decode cX10_dents 60 = .ok (.getfield 83, 3) := by decide +kernel
theorem dX10_dents_63 : decode cX10_dents 63 = .ok (.if_icmp .ge 34, 3) := by decide +kernel
theorem dX10_dents_66 : decode cX10_dents 66 = .ok (.iload 6, 2) := by decide +kernel
theorem dX10_dents_68 : decode cX10_dents 68 = .ok (.aload_n 0, 1) := by decide +kernel
theorem dX10_dents_69 : decode cX10_dents 69 = .ok (.getfield 19, 3) := by decide +kernel
theorem dX10_dents_72 : decode cX10_dents 72 = .ok (.iload 7, 2) := by decide +kernel
theorem dX10_dents_74 : decode cX10_dents 74 = .ok (.iaload, 1) := by decide +kernel
theorem dX10_dents_75 : decode cX10_dents 75 = .ok (.bipush 6, 2) := by decide +kernel
theorem dX10_dents_77 : decode cX10_dents 77 = .ok (.if_icmp .ge 10, 3) := by decide +kernel
theorem dX10_dents_80 : decode cX10_dents 80 = .ok (.iconst 1, 1) := by decide +kernel
theorem dX10_dents_81 : decode cX10_dents 81 = .ok (.iload 7, 2) := by decide +kernel
theorem dX10_dents_83 : decode cX10_dents 83 = .ok (.ishl, 1) := by decide +kernel
theorem dX10_dents_84 : decode cX10_dents 84 = .ok (.goto 4, 3) := by decide +kernel
theorem dX10_dents_87 : decode cX10_dents 87 = .ok (.iconst 0, 1) := by decide +kernel
theorem dX10_dents_88 : decode cX10_dents 88 = .ok (.ior, 1) := by decide +kernel
theorem dX10_dents_89 : decode cX10_dents 89 = .ok (.istore 6, 2) := by decide +kernel
theorem dX10_dents_91 : decode cX10_dents 91 = .ok (.iinc 7 1, 3) := by decide +kernel
theorem dX10_dents_94 : decode cX10_dents 94 = .ok (.goto (-37), 3) := by decide +kernel
theorem dX10_dents_97 : decode cX10_dents 97 = .ok (.iconst 0, 1) := by decide +kernel
theorem dX10_dents_98 : decode cX10_dents 98 = .ok (.istore 7, 2) := by decide +kernel
theorem dX10_dents_100 : decode cX10_dents 100 = .ok (.iconst 0, 1) := by decide +kernel
theorem dX10_dents_101 : decode cX10_dents 101 = .ok (.istore 8, 2) := by decide +kernel
theorem dX10_dents_103 : decode cX10_dents 103 = .ok (.iload 8, 2) := by decide +kernel
theorem dX10_dents_105 : decode cX10_dents 105 = .ok (.iload 6, 2) := by decide +kernel
theorem dX10_dents_107 : decode cX10_dents 107 = .ok (.if_icmp .gt 115, 3) := by decide +kernel
theorem dX10_dents_110 : decode cX10_dents 110 = .ok (.iload 8, 2) := by decide +kernel
theorem dX10_dents_112 : decode cX10_dents 112 = .ok (.iload 6, 2) := by decide +kernel
theorem dX10_dents_114 : decode cX10_dents 114 = .ok (.iconst (-1), 1) := by decide +kernel
theorem dX10_dents_115 : decode cX10_dents 115 = .ok (.ixor, 1) := by decide +kernel
theorem dX10_dents_116 : decode cX10_dents 116 = .ok (.iand, 1) := by decide +kernel
theorem dX10_dents_117 : decode cX10_dents 117 = .ok (.ifCond .ne 7, 3) := by decide +kernel
theorem dX10_dents_120 : decode cX10_dents 120 = .ok (.iconst 1, 1) := by decide +kernel
theorem dX10_dents_121 : decode cX10_dents 121 = .ok (.goto 4, 3) := by decide +kernel
theorem dX10_dents_124 : decode cX10_dents 124 = .ok (.iconst 0, 1) := by decide +kernel
theorem dX10_dents_125 : decode cX10_dents 125 = .ok (.istore 9, 2) := by decide +kernel
theorem dX10_dents_127 : decode cX10_dents 127 = .ok (.iconst 0, 1) := by decide +kernel
theorem dX10_dents_128 : decode cX10_dents 128 = .ok (.istore 10, 2) := by decide +kernel
theorem dX10_dents_130 : decode cX10_dents 130 = .ok (.iload 10, 2) := by decide +kernel
theorem dX10_dents_132 : decode cX10_dents 132 = .ok (.bipush 6, 2) := by decide +kernel
theorem dX10_dents_134 : decode cX10_dents 134 = .ok (.if_icmp .ge 48, 3) := by decide +kernel
theorem dX10_dents_137 : decode cX10_dents 137 = .ok (.iload 9, 2) := by decide +kernel
theorem dX10_dents_139 : decode cX10_dents 139 = .ok (.ifCond .eq 43, 3) := by decide +kernel
theorem dX10_dents_142 : decode cX10_dents 142 = .ok (.aload_n 0, 1) := by decide +kernel
theorem dX10_dents_143 : decode cX10_dents 143 = .ok (.iload 10, 2) := by decide +kernel
theorem dX10_dents_145 : decode cX10_dents 145 = .ok (.iload 8, 2) := by decide +kernel
theorem dX10_dents_147 : decode cX10_dents 147 = .ok (.invokevirtual 284, 3) := by decide +kernel
theorem dX10_dents_150 : decode cX10_dents 150 = .ok (.i2l, 1) := by decide +kernel
theorem dX10_dents_151 : decode cX10_dents 151 = .ok (.aload_n 0, 1) := by decide +kernel
theorem dX10_dents_152 : decode cX10_dents 152 = .ok (.getfield 76, 3) := by decide +kernel
theorem dX10_dents_155 : decode cX10_dents 155 = .ok (.bipush 24, 2) := by decide +kernel
theorem dX10_dents_157 : decode cX10_dents 157 = .ok (.iload_n 1, 1) := by decide +kernel
theorem dX10_dents_158 : decode cX10_dents 158 = .ok (.imul, 1) := by decide +kernel
theorem dX10_dents_159 : decode cX10_dents 159 = .ok (.iload_n 3, 1) := by decide +kernel
theorem dX10_dents_160 : decode cX10_dents 160 = .ok (.iadd, 1) := by decide +kernel
theorem dX10_dents_161 : decode cX10_dents 161 = .ok (.iload 10, 2) := by decide +kernel
theorem dX10_dents_163 : decode cX10_dents 163 = .ok (.iadd, 1) := by decide +kernel
theorem dX10_dents_164 : decode cX10_dents 164 = .ok (.laload, 1) := by decide +kernel
theorem dX10_dents_165 : decode cX10_dents 165 = .ok (.lcmp, 1) := by decide +kernel
theorem dX10_dents_166 : decode cX10_dents 166 = .ok (.ifCond .ne 7, 3) := by decide +kernel
theorem dX10_dents_169 : decode cX10_dents 169 = .ok (.iconst 1, 1) := by decide +kernel
theorem dX10_dents_170 : decode cX10_dents 170 = .ok (.goto 4, 3) := by decide +kernel
theorem dX10_dents_173 : decode cX10_dents 173 = .ok (.iconst 0, 1) := by decide +kernel
theorem dX10_dents_174 : decode cX10_dents 174 = .ok (.istore 9, 2) := by decide +kernel
theorem dX10_dents_176 : decode cX10_dents 176 = .ok (.iinc 10 1, 3) := by decide +kernel
theorem dX10_dents_179 : decode cX10_dents 179 = .ok (.goto (-49), 3) := by decide +kernel
theorem dX10_dents_182 : decode cX10_dents 182 = .ok (.iload 9, 2) := by decide +kernel
theorem dX10_dents_184 : decode cX10_dents 184 = .ok (.ifCond .eq 17, 3) := by decide +kernel
theorem dX10_dents_187 : decode cX10_dents 187 = .ok (.iload 7, 2) := by decide +kernel
theorem dX10_dents_189 : decode cX10_dents 189 = .ok (.ifCond .ne 12, 3) := by decide +kernel
theorem dX10_dents_192 : decode cX10_dents 192 = .ok (.iload 4, 2) := by decide +kernel
theorem dX10_dents_194 : decode cX10_dents 194 = .ok (.iconst 1, 1) := by decide +kernel
theorem dX10_dents_195 : decode cX10_dents 195 = .ok (.if_icmp .ne 6, 3) := by decide +kernel
theorem dX10_dents_198 : decode cX10_dents 198 = .ok (.iload 8, 2) := by decide +kernel
theorem dX10_dents_200 : decode cX10_dents 200 = .ok (.ireturn, 1) := by decide +kernel
theorem dX10_dents_201 : decode cX10_dents 201 = .ok (.iload 7, 2) := by decide +kernel
theorem dX10_dents_203 : decode cX10_dents 203 = .ok (.iload 9, 2) := by decide +kernel
theorem dX10_dents_205 : decode cX10_dents 205 = .ok (.ifCond .eq 7, 3) := by decide +kernel
theorem dX10_dents_208 : decode cX10_dents 208 = .ok (.iconst 1, 1) := by decide +kernel
theorem dX10_dents_209 : decode cX10_dents 209 = .ok (.goto 4, 3) := by decide +kernel
theorem dX10_dents_212 : decode cX10_dents 212 = .ok (.iconst 0, 1) := by decide +kernel
theorem dX10_dents_213 : decode cX10_dents 213 = .ok (.iadd, 1) := by decide +kernel
theorem dX10_dents_214 : decode cX10_dents 214 = .ok (.istore 7, 2) := by decide +kernel
theorem dX10_dents_216 : decode cX10_dents 216 = .ok (.iinc 8 1, 3) := by decide +kernel
theorem dX10_dents_219 : decode cX10_dents 219 = .ok (.goto (-116), 3) := by decide +kernel
theorem dX10_dents_222 : decode cX10_dents 222 = .ok (.iload 4, 2) := by decide +kernel
theorem dX10_dents_224 : decode cX10_dents 224 = .ok (.ifCond .ne 8, 3) := by decide +kernel
theorem dX10_dents_227 : decode cX10_dents 227 = .ok (.iload 7, 2) := by decide +kernel
theorem dX10_dents_229 : decode cX10_dents 229 = .ok (.goto 5, 3) := by decide +kernel
theorem dX10_dents_232 : decode cX10_dents 232 = .ok (.bipush (-4), 2) := by decide +kernel
theorem dX10_dents_234 : decode cX10_dents 234 = .ok (.ireturn, 1) := by decide +kernel
theorem dX10_tried_0 : decode cX10_tried 0 = .ok (.iload_n 1, 1) := by decide +kernel
theorem dX10_tried_1 : decode cX10_tried 1 = .ok (.invokestatic 277, 3) := by decide +kernel
theorem dX10_tried_4 : decode cX10_tried 4 = .ok (.ifCond .eq 41, 3) := by decide +kernel
theorem dX10_tried_7 : decode cX10_tried 7 = .ok (.iload_n 2, 1) := by decide +kernel
theorem dX10_tried_8 : decode cX10_tried 8 = .ok (.i2l, 1) := by decide +kernel
theorem dX10_tried_9 : decode cX10_tried 9 = .ok (.lconst 0, 1) := by decide +kernel
theorem dX10_tried_10 : decode cX10_tried 10 = .ok (.ldc2_w 246, 3) := by decide +kernel
theorem dX10_tried_13 : decode cX10_tried 13 = .ok (.invokestatic 87, 3) := by decide +kernel
theorem dX10_tried_16 : decode cX10_tried 16 = .ok (.ifCond .eq 29, 3) := by decide +kernel
theorem dX10_tried_19 : decode cX10_tried 19 = .ok (.iload 4, 2) := by decide +kernel
theorem dX10_tried_21 : decode cX10_tried 21 = .ok (.i2l, 1) := by decide +kernel
theorem dX10_tried_22 : decode cX10_tried 22 = .ok (.lconst 1, 1) := by decide +kernel
theorem dX10_tried_23 : decode cX10_tried 23 = .ok (.ldc2_w 143, 3) := by decide +kernel
theorem dX10_tried_26 : decode cX10_tried 26 = .ok (.invokestatic 87, 3) := by decide +kernel
theorem dX10_tried_29 : decode cX10_tried 29 = .ok (.ifCond .eq 16, 3) := by decide +kernel
theorem dX10_tried_32 : decode cX10_tried 32 = .ok (.iload 5, 2) := by decide +kernel
theorem dX10_tried_34 : decode cX10_tried 34 = .ok (.i2l, 1) := by decide +kernel
theorem dX10_tried_35 : decode cX10_tried 35 = .ok (.lconst 0, 1) := by decide +kernel
theorem dX10_tried_36 : decode cX10_tried 36 = .ok (.ldc2_w 246, 3) := by decide +kernel
theorem dX10_tried_39 : decode cX10_tried 39 = .ok (.invokestatic 87, 3) := by decide +kernel
theorem dX10_tried_42 : decode cX10_tried 42 = .ok (.ifCond .ne 5, 3) := by decide +kernel
theorem dX10_tried_45 : decode cX10_tried 45 = .ok (.iconst (-1), 1) := by decide +kernel
theorem dX10_tried_46 : decode cX10_tried 46 = .ok (.ireturn, 1) := by decide +kernel
theorem dX10_tried_47 : decode cX10_tried 47 = .ok (.aload_n 0, 1) := by decide +kernel
theorem dX10_tried_48 : decode cX10_tried 48 = .ok (.iload_n 1, 1) := by decide +kernel
theorem dX10_tried_49 : decode cX10_tried 49 = .ok (.iload_n 2, 1) := by decide +kernel
theorem dX10_tried_50 : decode cX10_tried 50 = .ok (.iload_n 3, 1) := by decide +kernel
theorem dX10_tried_51 : decode cX10_tried 51 = .ok (.iconst 2, 1) := by decide +kernel
theorem dX10_tried_52 : decode cX10_tried 52 = .ok (.iload 4, 2) := by decide +kernel
theorem dX10_tried_54 : decode cX10_tried 54 = .ok (.imul, 1) := by decide +kernel
theorem dX10_tried_55 : decode cX10_tried 55 = .ok (.invokevirtual 280, 3) := by decide +kernel
theorem dX10_tried_58 : decode cX10_tried 58 = .ok (.istore 6, 2) := by decide +kernel
theorem dX10_tried_60 : decode cX10_tried 60 = .ok (.iload 6, 2) := by decide +kernel
theorem dX10_tried_62 : decode cX10_tried 62 = .ok (.ifCond .eq 6, 3) := by decide +kernel
theorem dX10_tried_65 : decode cX10_tried 65 = .ok (.iload 6, 2) := by decide +kernel
theorem dX10_tried_67 : decode cX10_tried 67 = .ok (.ireturn, 1) := by decide +kernel
theorem dX10_tried_68 : decode cX10_tried 68 = .ok (.iconst 0, 1) := by decide +kernel
theorem dX10_tried_69 : decode cX10_tried 69 = .ok (.istore 7, 2) := by decide +kernel
theorem dX10_tried_71 : decode cX10_tried 71 = .ok (.bipush 99, 2) := by decide +kernel
theorem dX10_tried_73 : decode cX10_tried 73 = .ok (.istore 8, 2) := by decide +kernel
theorem dX10_tried_75 : decode cX10_tried 75 = .ok (.iconst 0, 1) := by decide +kernel
theorem dX10_tried_76 : decode cX10_tried 76 = .ok (.istore 9, 2) := by decide +kernel
theorem dX10_tried_78 : decode cX10_tried 78 = .ok (.iload 9, 2) := by decide +kernel
theorem dX10_tried_80 : decode cX10_tried 80 = .ok (.iload 4, 2) := by decide +kernel
theorem dX10_tried_82 : decode cX10_tried 82 = .ok (.if_icmp .ge 128, 3) := by decide +kernel
theorem dX10_tried_85 : decode cX10_tried 85 = .ok (.aload_n 0, 1) := by decide +kernel
theorem dX10_tried_86 : decode cX10_tried 86 = .ok (.getfield 76, 3) := by decide +kernel
theorem dX10_tried_89 : decode cX10_tried 89 = .ok (.bipush 24, 2) := by decide +kernel
theorem dX10_tried_91 : decode cX10_tried 91 = .ok (.iload_n 1, 1) := by decide +kernel
theorem dX10_tried_92 : decode cX10_tried 92 = .ok (.imul, 1) := by decide +kernel
theorem dX10_tried_93 : decode cX10_tried 93 = .ok (.iload_n 3, 1) := by decide +kernel
theorem dX10_tried_94 : decode cX10_tried 94 = .ok (.iadd, 1) := by decide +kernel
theorem dX10_tried_95 : decode cX10_tried 95 = .ok (.iconst 2, 1) := by decide +kernel
theorem dX10_tried_96 : decode cX10_tried 96 = .ok (.iload 9, 2) := by decide +kernel
theorem dX10_tried_98 : decode cX10_tried 98 = .ok (.imul, 1) := by decide +kernel
theorem dX10_tried_99 : decode cX10_tried 99 = .ok (.iadd, 1) := by decide +kernel
theorem dX10_tried_100 : decode cX10_tried 100 = .ok (.laload, 1) := by decide +kernel
theorem dX10_tried_101 : decode cX10_tried 101 = .ok (.lstore 10, 2) := by decide +kernel
theorem dX10_tried_103 : decode cX10_tried 103 = .ok (.aload_n 0, 1) := by decide +kernel
theorem dX10_tried_104 : decode cX10_tried 104 = .ok (.getfield 76, 3) := by decide +kernel
theorem dX10_tried_107 : decode cX10_tried 107 = .ok (.bipush 24, 2) := by decide +kernel
theorem dX10_tried_109 : decode cX10_tried 109 = .ok (.iload_n 1, 1) := by decide +kernel
theorem dX10_tried_110 : decode cX10_tried 110 = .ok (.imul, 1) := by decide +kernel
theorem dX10_tried_111 : decode cX10_tried 111 = .ok (.iload_n 3, 1) := by decide +kernel
theorem dX10_tried_112 : decode cX10_tried 112 = .ok (.iadd, 1) := by decide +kernel
theorem dX10_tried_113 : decode cX10_tried 113 = .ok (.iconst 2, 1) := by decide +kernel
theorem dX10_tried_114 : decode cX10_tried 114 = .ok (.iload 9, 2) := by decide +kernel
theorem dX10_tried_116 : decode cX10_tried 116 = .ok (.imul, 1) := by decide +kernel
theorem dX10_tried_117 : decode cX10_tried 117 = .ok (.iadd, 1) := by decide +kernel
theorem dX10_tried_118 : decode cX10_tried 118 = .ok (.iconst 1, 1) := by decide +kernel
theorem dX10_tried_119 : decode cX10_tried 119 = .ok (.iadd, 1) := by decide +kernel
theorem dX10_tried_120 : decode cX10_tried 120 = .ok (.laload, 1) := by decide +kernel
theorem dX10_tried_121 : decode cX10_tried 121 = .ok (.lstore 12, 2) := by decide +kernel
theorem dX10_tried_123 : decode cX10_tried 123 = .ok (.lload 10, 2) := by decide +kernel
theorem dX10_tried_125 : decode cX10_tried 125 = .ok (.lconst 0, 1) := by decide +kernel
theorem dX10_tried_126 : decode cX10_tried 126 = .ok (.ldc2_w 106, 3) := by decide +kernel
theorem dX10_tried_129 : decode cX10_tried 129 = .ok (.invokestatic 87, 3) := by decide +kernel
theorem dX10_tried_132 : decode cX10_tried 132 = .ok (.ifCond .eq 13, 3) := by decide +kernel
theorem dX10_tried_135 : decode cX10_tried 135 = .ok (.lload 12, 2) := by decide +kernel
theorem dX10_tried_137 : decode cX10_tried 137 = .ok (.lconst 0, 1) := by decide +kernel
theorem dX10_tried_138 : decode cX10_tried 138 = .ok (.lconst 1, 1) := by decide +kernel
theorem dX10_tried_139 : decode cX10_tried 139 = .ok (.invokestatic 87, 3) := by decide +kernel
theorem dX10_tried_142 : decode cX10_tried 142 = .ok (.ifCond .ne 6, 3) := by decide +kernel
theorem dX10_tried_145 : decode cX10_tried 145 = .ok (.bipush (-2), 2) := by decide +kernel
theorem dX10_tried_147 : decode cX10_tried 147 = .ok (.ireturn, 1) := by decide +kernel
theorem dX10_tried_148 : decode cX10_tried 148 = .ok (.lload 12, 2) := by decide +kernel
theorem dX10_tried_150 : decode cX10_tried 150 = .ok (.lconst 1, 1) := by decide +kernel
theorem dX10_tried_151 : decode cX10_tried 151 = .ok (.lcmp, 1) := by decide +kernel
theorem dX10_tried_152 : decode cX10_tried 152 = .ok (.ifCond .ne 22, 3) := by decide +kernel
theorem dX10_tried_155 : decode cX10_tried 155 = .ok (.lload 10, 2) := by decide +kernel
theorem dX10_tried_157 : decode cX10_tried 157 = .ok (.lconst 1, 1) := by decide +kernel
theorem dX10_tried_158 : decode cX10_tried 158 = .ok (.lsub, 1) := by decide +kernel
theorem dX10_tried_159 : decode cX10_tried 159 = .ok (.iload 8, 2) := by decide +kernel
theorem dX10_tried_161 : decode cX10_tried 161 = .ok (.i2l, 1) := by decide +kernel
theorem dX10_tried_162 : decode cX10_tried 162 = .ok (.lcmp, 1) := by decide +kernel
theorem dX10_tried_163 : decode cX10_tried 163 = .ok (.ifCond .ge 11, 3) := by decide +kernel
theorem dX10_tried_166 : decode cX10_tried 166 = .ok (.lload 10, 2) := by decide +kernel
theorem dX10_tried_168 : decode cX10_tried 168 = .ok (.l2i, 1) := by decide +kernel
theorem dX10_tried_169 : decode cX10_tried 169 = .ok (.iconst 1, 1) := by decide +kernel
theorem dX10_tried_170 : decode cX10_tried 170 = .ok (.isub, 1) := by decide +kernel
theorem dX10_tried_171 : decode cX10_tried 171 = .ok (.goto 5, 3) := by decide +kernel
theorem dX10_tried_174 : decode cX10_tried 174 = .ok (.iload 8, 2) := by decide +kernel
theorem dX10_tried_176 : decode cX10_tried 176 = .ok (.istore 8, 2) := by decide +kernel
theorem dX10_tried_178 : decode cX10_tried 178 = .ok (.lload 12, 2) := by decide +kernel
theorem dX10_tried_180 : decode cX10_tried 180 = .ok (.lconst 0, 1) := by decide +kernel
theorem dX10_tried_181 : decode cX10_tried 181 = .ok (.lcmp, 1) := by decide +kernel
theorem dX10_tried_182 : decode cX10_tried 182 = .ok (.ifCond .ne 18, 3) := by decide +kernel
theorem dX10_tried_185 : decode cX10_tried 185 = .ok (.lload 10, 2) := by decide +kernel
theorem dX10_tried_187 : decode cX10_tried 187 = .ok (.iload 7, 2) := by decide +kernel
theorem dX10_tried_189 : decode cX10_tried 189 = .ok (.i2l, 1) := by decide +kernel
theorem dX10_tried_190 : decode cX10_tried 190 = .ok (.lcmp, 1) := by decide +kernel
theorem dX10_tried_191 : decode cX10_tried 191 = .ok (.ifCond .le 9, 3) := by decide +kernel
theorem dX10_tried_194 : decode cX10_tried 194 = .ok (.lload 10, 2) := by decide +kernel
theorem dX10_tried_196 : decode cX10_tried 196 = .ok (.l2i, 1) := by decide +kernel
theorem dX10_tried_197 : decode cX10_tried 197 = .ok (.goto 5, 3) := by decide +kernel
theorem dX10_tried_200 : decode cX10_tried 200 = .ok (.iload 7, 2) := by decide +kernel
theorem dX10_tried_202 : decode cX10_tried 202 = .ok (.istore 7, 2) := by decide +kernel
theorem dX10_tried_204 : decode cX10_tried 204 = .ok (.iinc 9 1, 3) := by decide +kernel
theorem dX10_tried_207 : decode cX10_tried 207 = .ok (.goto (-129), 3) := by decide +kernel
theorem dX10_tried_210 : decode cX10_tried 210 = .ok (.iload 8, 2) := by decide +kernel
theorem dX10_tried_212 : decode cX10_tried 212 = .ok (.iload 7, 2) := by decide +kernel
theorem dX10_tried_214 : decode cX10_tried 214 = .ok (.isub, 1) := by decide +kernel
theorem dX10_tried_215 : decode cX10_tried 215 = .ok (.iconst 1, 1) := by decide +kernel
theorem dX10_tried_216 : decode cX10_tried 216 = .ok (.iadd, 1) := by decide +kernel
theorem dX10_tried_217 : decode cX10_tried 217 = .ok (.istore 9, 2) := by decide +kernel
theorem dX10_tried_219 : decode cX10_tried 219 = .ok (.iload 9, 2) := by decide +kernel
theorem dX10_tried_221 : decode cX10_tried 221 = .ok (.iconst 1, 1) := by decide +kernel
theorem dX10_tried_222 : decode cX10_tried 222 = .ok (.if_icmp .lt 15, 3) := by decide +kernel
theorem dX10_tried_225 : decode cX10_tried 225 = .ok (.iload 5, 2) := by decide +kernel
theorem dX10_tried_227 : decode cX10_tried 227 = .ok (.iconst 2, 1) := by decide +kernel
theorem dX10_tried_228 : decode cX10_tried 228 = .ok (.if_icmp .ne 12, 3) := by decide +kernel
theorem dX10_tried_231 : decode cX10_tried 231 = .ok (.iload 9, 2) := by decide +kernel
theorem dX10_tried_233 : decode cX10_tried 233 = .ok (.iconst 2, 1) := by decide +kernel
theorem dX10_tried_234 : decode cX10_tried 234 = .ok (.if_icmp .ge 6, 3) := by decide +kernel
theorem dX10_tried_237 : decode cX10_tried 237 = .ok (.bipush (-4), 2) := by decide +kernel
theorem dX10_tried_239 : decode cX10_tried 239 = .ok (.ireturn, 1) := by decide +kernel
theorem dX10_tried_240 : decode cX10_tried 240 = .ok (.iload 5, 2) := by decide +kernel
theorem dX10_tried_242 : decode cX10_tried 242 = .ok (.ifCond .ne 8, 3) := by decide +kernel
theorem dX10_tried_245 : decode cX10_tried 245 = .ok (.iload 7, 2) := by decide +kernel
theorem dX10_tried_247 : decode cX10_tried 247 = .ok (.goto 21, 3) := by decide +kernel
theorem dX10_tried_250 : decode cX10_tried 250 = .ok (.iload 5, 2) := by decide +kernel
theorem dX10_tried_252 : decode cX10_tried 252 = .ok (.iconst 1, 1) := by decide +kernel
theorem dX10_tried_253 : decode cX10_tried 253 = .ok (.if_icmp .ne 8, 3) := by decide +kernel
theorem dX10_tried_256 : decode cX10_tried 256 = .ok (.iload 8, 2) := by decide +kernel
theorem dX10_tried_258 : decode cX10_tried 258 = .ok (.goto 10, 3) := by decide +kernel
theorem dX10_tried_261 : decode cX10_tried 261 = .ok (.iload 7, 2) := by decide +kernel
theorem dX10_tried_263 : decode cX10_tried 263 = .ok (.iload 8, 2) := by decide +kernel
theorem dX10_tried_265 : decode cX10_tried 265 = .ok (.invokestatic 287, 3) := by decide +kernel
theorem dX10_tried_268 : decode cX10_tried 268 = .ok (.ireturn, 1) := by decide +kernel
theorem dX10_nextOf_0 : decode cX10_nextOf 0 = .ok (.iconst (-1), 1) := by decide +kernel
theorem dX10_nextOf_1 : decode cX10_nextOf 1 = .ok (.istore_n 2, 1) := by decide +kernel
theorem dX10_nextOf_2 : decode cX10_nextOf 2 = .ok (.iconst 0, 1) := by decide +kernel
theorem dX10_nextOf_3 : decode cX10_nextOf 3 = .ok (.istore_n 3, 1) := by decide +kernel
theorem dX10_nextOf_4 : decode cX10_nextOf 4 = .ok (.iconst 0, 1) := by decide +kernel
theorem dX10_nextOf_5 : decode cX10_nextOf 5 = .ok (.istore 4, 2) := by decide +kernel
theorem dX10_nextOf_7 : decode cX10_nextOf 7 = .ok (.iload 4, 2) := by decide +kernel
theorem dX10_nextOf_9 : decode cX10_nextOf 9 = .ok (.bipush 100, 2) := by decide +kernel
theorem dX10_nextOf_11 : decode cX10_nextOf 11 = .ok (.if_icmp .ge 106, 3) := by decide +kernel
theorem dX10_nextOf_14 : decode cX10_nextOf 14 = .ok (.iload 4, 2) := by decide +kernel
theorem dX10_nextOf_16 : decode cX10_nextOf 16 = .ok (.iload_n 0, 1) := by decide +kernel
theorem dX10_nextOf_17 : decode cX10_nextOf 17 = .ok (.if_icmp .gt 7, 3) := by decide +kernel
theorem dX10_nextOf_20 : decode cX10_nextOf 20 = .ok (.iconst 0, 1) := by decide +kernel
theorem dX10_nextOf_21 : decode cX10_nextOf 21 = .ok (.goto 21, 3) := by decide +kernel
theorem dX10_nextOf_24 : decode cX10_nextOf 24 = .ok (.iload 4, 2) := by decide +kernel
theorem dX10_nextOf_26 : decode cX10_nextOf 26 = .ok (.iload_n 1, 1) := by decide +kernel
theorem dX10_nextOf_27 : decode cX10_nextOf 27 = .ok (.if_icmp .le 11, 3) := by decide +kernel
theorem dX10_nextOf_30 : decode cX10_nextOf 30 = .ok (.iload_n 1, 1) := by decide +kernel
theorem dX10_nextOf_31 : decode cX10_nextOf 31 = .ok (.iload_n 0, 1) := by decide +kernel
theorem dX10_nextOf_32 : decode cX10_nextOf 32 = .ok (.isub, 1) := by decide +kernel
theorem dX10_nextOf_33 : decode cX10_nextOf 33 = .ok (.iconst 1, 1) := by decide +kernel
theorem dX10_nextOf_34 : decode cX10_nextOf 34 = .ok (.iadd, 1) := by decide +kernel
theorem dX10_nextOf_35 : decode cX10_nextOf 35 = .ok (.goto 7, 3) := by decide +kernel
theorem dX10_nextOf_38 : decode cX10_nextOf 38 = .ok (.iload 4, 2) := by decide +kernel
theorem dX10_nextOf_40 : decode cX10_nextOf 40 = .ok (.iload_n 0, 1) := by decide +kernel
theorem dX10_nextOf_41 : decode cX10_nextOf 41 = .ok (.isub, 1) := by decide +kernel
theorem dX10_nextOf_42 : decode cX10_nextOf 42 = .ok (.istore 5, 2) := by decide +kernel
theorem dX10_nextOf_44 : decode cX10_nextOf 44 = .ok (.iload_n 1, 1) := by decide +kernel
theorem dX10_nextOf_45 : decode cX10_nextOf 45 = .ok (.iload_n 0, 1) := by decide +kernel
theorem dX10_nextOf_46 : decode cX10_nextOf 46 = .ok (.isub, 1) := by decide +kernel
theorem dX10_nextOf_47 : decode cX10_nextOf 47 = .ok (.iconst 1, 1) := by decide +kernel
theorem dX10_nextOf_48 : decode cX10_nextOf 48 = .ok (.iadd, 1) := by decide +kernel
theorem dX10_nextOf_49 : decode cX10_nextOf 49 = .ok (.iload 5, 2) := by decide +kernel
theorem dX10_nextOf_51 : decode cX10_nextOf 51 = .ok (.isub, 1) := by decide +kernel
theorem dX10_nextOf_52 : decode cX10_nextOf 52 = .ok (.istore 6, 2) := by decide +kernel
theorem dX10_nextOf_54 : decode cX10_nextOf 54 = .ok (.iload 5, 2) := by decide +kernel
theorem dX10_nextOf_56 : decode cX10_nextOf 56 = .ok (.iload 6, 2) := by decide +kernel
theorem dX10_nextOf_58 : decode cX10_nextOf 58 = .ok (.if_icmp .le 8, 3) := by decide +kernel
theorem dX10_nextOf_61 : decode cX10_nextOf 61 = .ok (.iload 5, 2) := by decide +kernel
theorem dX10_nextOf_63 : decode cX10_nextOf 63 = .ok (.goto 5, 3) := by decide +kernel
theorem dX10_nextOf_66 : decode cX10_nextOf 66 = .ok (.iload 6, 2) := by decide +kernel
theorem dX10_nextOf_68 : decode cX10_nextOf 68 = .ok (.istore 7, 2) := by decide +kernel
theorem dX10_nextOf_70 : decode cX10_nextOf 70 = .ok (.iload_n 2, 1) := by decide +kernel
theorem dX10_nextOf_71 : decode cX10_nextOf 71 = .ok (.ifCond .lt 9, 3) := by decide +kernel
theorem dX10_nextOf_74 : decode cX10_nextOf 74 = .ok (.iload 7, 2) := by decide +kernel
theorem dX10_nextOf_76 : decode cX10_nextOf 76 = .ok (.iload_n 3, 1) := by decide +kernel
theorem dX10_nextOf_77 : decode cX10_nextOf 77 = .ok (.if_icmp .ge 7, 3) := by decide +kernel
theorem dX10_nextOf_80 : decode cX10_nextOf 80 = .ok (.iconst 1, 1) := by decide +kernel
theorem dX10_nextOf_81 : decode cX10_nextOf 81 = .ok (.goto 4, 3) := by decide +kernel
theorem dX10_nextOf_84 : decode cX10_nextOf 84 = .ok (.iconst 0, 1) := by decide +kernel
theorem dX10_nextOf_85 : decode cX10_nextOf 85 = .ok (.istore 8, 2) := by decide +kernel
theorem dX10_nextOf_87 : decode cX10_nextOf 87 = .ok (.iload 8, 2) := by decide +kernel
theorem dX10_nextOf_89 : decode cX10_nextOf 89 = .ok (.ifCond .eq 8, 3) := by decide +kernel
theorem dX10_nextOf_92 : decode cX10_nextOf 92 = .ok (.iload 4, 2) := by decide +kernel
theorem dX10_nextOf_94 : decode cX10_nextOf 94 = .ok (.goto 4, 3) := by decide +kernel
theorem dX10_nextOf_97 : decode cX10_nextOf 97 = .ok (.iload_n 2, 1) := by decide +kernel
theorem dX10_nextOf_98 : decode cX10_nextOf 98 = .ok (.istore_n 2, 1) := by decide +kernel
theorem dX10_nextOf_99 : decode cX10_nextOf 99 = .ok (.iload 8, 2) := by decide +kernel
theorem dX10_nextOf_101 : decode cX10_nextOf 101 = .ok (.ifCond .eq 8, 3) := by decide +kernel
theorem dX10_nextOf_104 : decode cX10_nextOf 104 = .ok (.iload 7, 2) := by decide +kernel
theorem dX10_nextOf_106 : decode cX10_nextOf 106 = .ok (.goto 4, 3) := by decide +kernel
theorem dX10_nextOf_109 : decode cX10_nextOf 109 = .ok (.iload_n 3, 1) := by decide +kernel
theorem dX10_nextOf_110 : decode cX10_nextOf 110 = .ok (.istore_n 3, 1) := by decide +kernel
theorem dX10_nextOf_111 : decode cX10_nextOf 111 = .ok (.iinc 4 1, 3) := by decide +kernel
theorem dX10_nextOf_114 : decode cX10_nextOf 114 = .ok (.goto (-107), 3) := by decide +kernel
theorem dX10_nextOf_117 : decode cX10_nextOf 117 = .ok (.iload_n 2, 1) := by decide +kernel
theorem dX10_nextOf_118 : decode cX10_nextOf 118 = .ok (.ireturn, 1) := by decide +kernel
theorem dX10_film_0 : decode cX10_film 0 = .ok (.iload_n 1, 1) := by decide +kernel
theorem dX10_film_1 : decode cX10_film 1 = .ok (.invokestatic 277, 3) := by decide +kernel
theorem dX10_film_4 : decode cX10_film 4 = .ok (.ifCond .eq 15, 3) := by decide +kernel
theorem dX10_film_7 : decode cX10_film 7 = .ok (.iload_n 2, 1) := by decide +kernel
theorem dX10_film_8 : decode cX10_film 8 = .ok (.i2l, 1) := by decide +kernel
theorem dX10_film_9 : decode cX10_film 9 = .ok (.lconst 0, 1) := by decide +kernel
theorem dX10_film_10 : decode cX10_film 10 = .ok (.ldc2_w 246, 3) := by decide +kernel
theorem dX10_film_13 : decode cX10_film 13 = .ok (.invokestatic 87, 3) := by decide +kernel
theorem dX10_film_16 : decode cX10_film 16 = .ok (.ifCond .ne 5, 3) := by decide +kernel
theorem dX10_film_19 : decode cX10_film 19 = .ok (.iconst (-1), 1) := by decide +kernel
theorem dX10_film_20 : decode cX10_film 20 = .ok (.ireturn, 1) := by decide +kernel
theorem dX10_film_21 : decode cX10_film 21 = .ok (.aload_n 0, 1) := by decide +kernel
theorem dX10_film_22 : decode cX10_film 22 = .ok (.iload_n 1, 1) := by decide +kernel
theorem dX10_film_23 : decode cX10_film 23 = .ok (.iload_n 2, 1) := by decide +kernel
theorem dX10_film_24 : decode cX10_film 24 = .ok (.iload_n 3, 1) := by decide +kernel
theorem dX10_film_25 : decode cX10_film 25 = .ok (.bipush 6, 2) := by decide +kernel
theorem dX10_film_27 : decode cX10_film 27 = .ok (.invokevirtual 280, 3) := by decide +kernel
theorem dX10_film_30 : decode cX10_film 30 = .ok (.istore 4, 2) := by decide +kernel
theorem dX10_film_32 : decode cX10_film 32 = .ok (.iload 4, 2) := by decide +kernel
theorem dX10_film_34 : decode cX10_film 34 = .ok (.ifCond .eq 6, 3) := by decide +kernel
theorem dX10_film_37 : decode cX10_film 37 = .ok (.iload 4, 2) := by decide +kernel
theorem dX10_film_39 : decode cX10_film 39 = .ok (.ireturn, 1) := by decide +kernel
theorem dX10_film_40 : decode cX10_film 40 = .ok (.iconst 0, 1) := by decide +kernel
theorem dX10_film_41 : decode cX10_film 41 = .ok (.istore 5, 2) := by decide +kernel
theorem dX10_film_43 : decode cX10_film 43 = .ok (.iload 5, 2) := by decide +kernel
theorem dX10_film_45 : decode cX10_film 45 = .ok (.bipush 6, 2) := by decide +kernel
theorem dX10_film_47 : decode cX10_film 47 = .ok (.if_icmp .ge 34, 3) := by decide +kernel
theorem dX10_film_50 : decode cX10_film 50 = .ok (.aload_n 0, 1) := by decide +kernel
theorem dX10_film_51 : decode cX10_film 51 = .ok (.getfield 76, 3) := by decide +kernel
theorem dX10_film_54 : decode cX10_film 54 = .ok (.bipush 24, 2) := by decide +kernel
theorem dX10_film_56 : decode cX10_film 56 = .ok (.iload_n 1, 1) := by decide +kernel
theorem dX10_film_57 : decode cX10_film 57 = .ok (.imul, 1) := by decide +kernel
theorem dX10_film_58 : decode cX10_film 58 = .ok (.iload_n 3, 1) := by decide +kernel
theorem dX10_film_59 : decode cX10_film 59 = .ok (.iadd, 1) := by decide +kernel
theorem dX10_film_60 : decode cX10_film 60 = .ok (.iload 5, 2) := by decide +kernel
theorem dX10_film_62 : decode cX10_film 62 = .ok (.iadd, 1) := by decide +kernel
theorem dX10_film_63 : decode cX10_film 63 = .ok (.iload_n 2, 1) := by decide +kernel
theorem dX10_film_64 : decode cX10_film 64 = .ok (.aload_n 0, 1) := by decide +kernel
theorem dX10_film_65 : decode cX10_film 65 = .ok (.iload 5, 2) := by decide +kernel
theorem dX10_film_67 : decode cX10_film 67 = .ok (.invokevirtual 127, 3) := by decide +kernel
theorem dX10_film_70 : decode cX10_film 70 = .ok (.i2l, 1) := by decide +kernel
theorem dX10_film_71 : decode cX10_film 71 = .ok (.invokestatic 290, 3) := by decide +kernel
theorem dX10_film_74 : decode cX10_film 74 = .ok (.lastore, 1) := by decide +kernel
theorem dX10_film_75 : decode cX10_film 75 = .ok (.iinc 5 1, 3) := by decide +kernel
theorem dX10_film_78 : decode cX10_film 78 = .ok (.goto (-35), 3) := by decide +kernel
theorem dX10_film_81 : decode cX10_film 81 = .ok (.bipush 6, 2) := by decide +kernel
theorem dX10_film_83 : decode cX10_film 83 = .ok (.ireturn, 1) := by decide +kernel
theorem dX10_sheet_0 : decode cX10_sheet 0 = .ok (.iload_n 1, 1) := by decide +kernel
theorem dX10_sheet_1 : decode cX10_sheet 1 = .ok (.invokestatic 277, 3) := by decide +kernel
theorem dX10_sheet_4 : decode cX10_sheet 4 = .ok (.ifCond .eq 21, 3) := by decide +kernel
theorem dX10_sheet_7 : decode cX10_sheet 7 = .ok (.iload_n 2, 1) := by decide +kernel
theorem dX10_sheet_8 : decode cX10_sheet 8 = .ok (.i2l, 1) := by decide +kernel
theorem dX10_sheet_9 : decode cX10_sheet 9 = .ok (.lconst 0, 1) := by decide +kernel
theorem dX10_sheet_10 : decode cX10_sheet 10 = .ok (.ldc2_w 246, 3) := by decide +kernel
theorem dX10_sheet_13 : decode cX10_sheet 13 = .ok (.invokestatic 87, 3) := by decide +kernel
theorem dX10_sheet_16 : decode cX10_sheet 16 = .ok (.ifCond .eq 9, 3) := by decide +kernel
theorem dX10_sheet_19 : decode cX10_sheet 19 = .ok (.iload_n 3, 1) := by decide +kernel
theorem dX10_sheet_20 : decode cX10_sheet 20 = .ok (.bipush 24, 2) := by decide +kernel
theorem dX10_sheet_22 : decode cX10_sheet 22 = .ok (.if_icmp .le 5, 3) := by decide +kernel
theorem dX10_sheet_25 : decode cX10_sheet 25 = .ok (.iconst (-1), 1) := by decide +kernel
theorem dX10_sheet_26 : decode cX10_sheet 26 = .ok (.ireturn, 1) := by decide +kernel
theorem dX10_sheet_27 : decode cX10_sheet 27 = .ok (.iload_n 3, 1) := by decide +kernel
theorem dX10_sheet_28 : decode cX10_sheet 28 = .ok (.ifCond .ge 6, 3) := by decide +kernel
theorem dX10_sheet_31 : decode cX10_sheet 31 = .ok (.bipush (-14), 2) := by decide +kernel
theorem dX10_sheet_33 : decode cX10_sheet 33 = .ok (.ireturn, 1) := by decide +kernel
theorem dX10_sheet_34 : decode cX10_sheet 34 = .ok (.aload_n 0, 1) := by decide +kernel
theorem dX10_sheet_35 : decode cX10_sheet 35 = .ok (.getfield 70, 3) := by decide +kernel
theorem dX10_sheet_38 : decode cX10_sheet 38 = .ok (.iload_n 1, 1) := by decide +kernel
theorem dX10_sheet_39 : decode cX10_sheet 39 = .ok (.iload_n 2, 1) := by decide +kernel
theorem dX10_sheet_40 : decode cX10_sheet 40 = .ok (.iastore, 1) := by decide +kernel
theorem dX10_sheet_41 : decode cX10_sheet 41 = .ok (.aload_n 0, 1) := by decide +kernel
theorem dX10_sheet_42 : decode cX10_sheet 42 = .ok (.getfield 73, 3) := by decide +kernel
theorem dX10_sheet_45 : decode cX10_sheet 45 = .ok (.iload_n 1, 1) := by decide +kernel
theorem dX10_sheet_46 : decode cX10_sheet 46 = .ok (.iload_n 3, 1) := by decide +kernel
theorem dX10_sheet_47 : decode cX10_sheet 47 = .ok (.iastore, 1) := by decide +kernel
theorem dX10_sheet_48 : decode cX10_sheet 48 = .ok (.iconst 0, 1) := by decide +kernel
theorem dX10_sheet_49 : decode cX10_sheet 49 = .ok (.istore 4, 2) := by decide +kernel
theorem dX10_sheet_51 : decode cX10_sheet 51 = .ok (.iload 4, 2) := by decide +kernel
theorem dX10_sheet_53 : decode cX10_sheet 53 = .ok (.bipush 24, 2) := by decide +kernel
theorem dX10_sheet_55 : decode cX10_sheet 55 = .ok (.if_icmp .ge 22, 3) := by decide +kernel
theorem dX10_sheet_58 : decode cX10_sheet 58 = .ok (.aload_n 0, 1) := by decide +kernel
theorem dX10_sheet_59 : decode cX10_sheet 59 = .ok (.getfield 76, 3) := by decide +kernel
theorem dX10_sheet_62 : decode cX10_sheet 62 = .ok (.bipush 24, 2) := by decide +kernel
theorem dX10_sheet_64 : decode cX10_sheet 64 = .ok (.iload_n 1, 1) := by decide +kernel
theorem dX10_sheet_65 : decode cX10_sheet 65 = .ok (.imul, 1) := by decide +kernel
theorem dX10_sheet_66 : decode cX10_sheet 66 = .ok (.iload 4, 2) := by decide +kernel
theorem dX10_sheet_68 : decode cX10_sheet 68 = .ok (.iadd, 1) := by decide +kernel
theorem dX10_sheet_69 : decode cX10_sheet 69 = .ok (.lconst 0, 1) := by decide +kernel
theorem dX10_sheet_70 : decode cX10_sheet 70 = .ok (.lastore, 1) := by decide +kernel
theorem dX10_sheet_71 : decode cX10_sheet 71 = .ok (.iinc 4 1, 3) := by decide +kernel
theorem dX10_sheet_74 : decode cX10_sheet 74 = .ok (.goto (-23), 3) := by decide +kernel
theorem dX10_sheet_77 : decode cX10_sheet 77 = .ok (.iload_n 3, 1) := by decide +kernel
theorem dX10_sheet_78 : decode cX10_sheet 78 = .ok (.ireturn, 1) := by decide +kernel
theorem dX10_drop_0 : decode cX10_drop 0 = .ok (.iload_n 1, 1) := by decide +kernel
theorem dX10_drop_1 : decode cX10_drop 1 = .ok (.invokestatic 277, 3) := by decide +kernel
theorem dX10_drop_4 : decode cX10_drop 4 = .ok (.ifCond .ne 5, 3) := by decide +kernel
theorem dX10_drop_7 : decode cX10_drop 7 = .ok (.iconst (-1), 1) := by decide +kernel
theorem dX10_drop_8 : decode cX10_drop 8 = .ok (.ireturn, 1) := by decide +kernel
theorem dX10_drop_9 : decode cX10_drop 9 = .ok (.aload_n 0, 1) := by decide +kernel
theorem dX10_drop_10 : decode cX10_drop 10 = .ok (.getfield 70, 3) := by decide +kernel
theorem dX10_drop_13 : decode cX10_drop 13 = .ok (.iload_n 1, 1) := by decide +kernel
theorem dX10_drop_14 : decode cX10_drop 14 = .ok (.iaload, 1) := by decide +kernel
theorem dX10_drop_15 : decode cX10_drop 15 = .ok (.ifCond .ge 6, 3) := by decide +kernel
theorem dX10_drop_18 : decode cX10_drop 18 = .ok (.bipush (-11), 2) := by decide +kernel
theorem dX10_drop_20 : decode cX10_drop 20 = .ok (.ireturn, 1) := by decide +kernel
theorem dX10_drop_21 : decode cX10_drop 21 = .ok (.aload_n 0, 1) := by decide +kernel
theorem dX10_drop_22 : decode cX10_drop 22 = .ok (.getfield 70, 3) := by decide +kernel
theorem dX10_drop_25 : decode cX10_drop 25 = .ok (.iload_n 1, 1) := by decide +kernel
theorem dX10_drop_26 : decode cX10_drop 26 = .ok (.iconst (-1), 1) := by decide +kernel
theorem dX10_drop_27 : decode cX10_drop 27 = .ok (.iastore, 1) := by decide +kernel
theorem dX10_drop_28 : decode cX10_drop 28 = .ok (.aload_n 0, 1) := by decide +kernel
theorem dX10_drop_29 : decode cX10_drop 29 = .ok (.getfield 73, 3) := by decide +kernel
theorem dX10_drop_32 : decode cX10_drop 32 = .ok (.iload_n 1, 1) := by decide +kernel
theorem dX10_drop_33 : decode cX10_drop 33 = .ok (.iaload, 1) := by decide +kernel
theorem dX10_drop_34 : decode cX10_drop 34 = .ok (.ireturn, 1) := by decide +kernel
theorem dX10_item_0 : decode cX10_item 0 = .ok (.iload_n 1, 1) := by decide +kernel
theorem dX10_item_1 : decode cX10_item 1 = .ok (.invokestatic 277, 3) := by decide +kernel
theorem dX10_item_4 : decode cX10_item 4 = .ok (.ifCond .eq 15, 3) := by decide +kernel
theorem dX10_item_7 : decode cX10_item 7 = .ok (.iload_n 2, 1) := by decide +kernel
theorem dX10_item_8 : decode cX10_item 8 = .ok (.i2l, 1) := by decide +kernel
theorem dX10_item_9 : decode cX10_item 9 = .ok (.lconst 0, 1) := by decide +kernel
theorem dX10_item_10 : decode cX10_item 10 = .ok (.ldc2_w 246, 3) := by decide +kernel
theorem dX10_item_13 : decode cX10_item 13 = .ok (.invokestatic 87, 3) := by decide +kernel
theorem dX10_item_16 : decode cX10_item 16 = .ok (.ifCond .ne 5, 3) := by decide +kernel
theorem dX10_item_19 : decode cX10_item 19 = .ok (.iconst (-1), 1) := by decide +kernel
theorem dX10_item_20 : decode cX10_item 20 = .ok (.ireturn, 1) := by decide +kernel
theorem dX10_item_21 : decode cX10_item 21 = .ok (.aload_n 0, 1) := by decide +kernel
theorem dX10_item_22 : decode cX10_item 22 = .ok (.iload_n 1, 1) := by decide +kernel
theorem dX10_item_23 : decode cX10_item 23 = .ok (.iload_n 2, 1) := by decide +kernel
theorem dX10_item_24 : decode cX10_item 24 = .ok (.iload_n 3, 1) := by decide +kernel
theorem dX10_item_25 : decode cX10_item 25 = .ok (.iconst 1, 1) := by decide +kernel
theorem dX10_item_26 : decode cX10_item 26 = .ok (.invokevirtual 280, 3) := by decide +kernel
theorem dX10_item_29 : decode cX10_item 29 = .ok (.istore 6, 2) := by decide +kernel
theorem dX10_item_31 : decode cX10_item 31 = .ok (.iload 6, 2) := by decide +kernel
theorem dX10_item_33 : decode cX10_item 33 = .ok (.ifCond .eq 6, 3) := by decide +kernel
theorem dX10_item_36 : decode cX10_item 36 = .ok (.iload 6, 2) := by decide +kernel
theorem dX10_item_38 : decode cX10_item 38 = .ok (.ireturn, 1) := by decide +kernel
theorem dX10_item_39 : decode cX10_item 39 = .ok (.aload_n 0, 1) := by decide +kernel
theorem dX10_item_40 : decode cX10_item 40 = .ok (.getfield 76, 3) := by decide +kernel
theorem dX10_item_43 : decode cX10_item 43 = .ok (.bipush 24, 2) := by decide +kernel
theorem dX10_item_45 : decode cX10_item 45 = .ok (.iload_n 1, 1) := by decide +kernel
theorem dX10_item_46 : decode cX10_item 46 = .ok (.imul, 1) := by decide +kernel
theorem dX10_item_47 : decode cX10_item 47 = .ok (.iload_n 3, 1) := by decide +kernel
theorem dX10_item_48 : decode cX10_item 48 = .ok (.iadd, 1) := by decide +kernel
theorem dX10_item_49 : decode cX10_item 49 = .ok (.iload_n 2, 1) := by decide +kernel
theorem dX10_item_50 : decode cX10_item 50 = .ok (.lload 4, 2) := by decide +kernel
theorem dX10_item_52 : decode cX10_item 52 = .ok (.invokestatic 290, 3) := by decide +kernel
theorem dX10_item_55 : decode cX10_item 55 = .ok (.lastore, 1) := by decide +kernel
theorem dX10_item_56 : decode cX10_item 56 = .ok (.iconst 1, 1) := by decide +kernel
theorem dX10_item_57 : decode cX10_item 57 = .ok (.ireturn, 1) := by decide +kernel
theorem dX10_copy_0 : decode cX10_copy 0 = .ok (.iload_n 1, 1) := by decide +kernel
theorem dX10_copy_1 : decode cX10_copy 1 = .ok (.invokestatic 277, 3) := by decide +kernel
theorem dX10_copy_4 : decode cX10_copy 4 = .ok (.ifCond .eq 10, 3) := by decide +kernel
theorem dX10_copy_7 : decode cX10_copy 7 = .ok (.iload_n 3, 1) := by decide +kernel
theorem dX10_copy_8 : decode cX10_copy 8 = .ok (.invokestatic 277, 3) := by decide +kernel
theorem dX10_copy_11 : decode cX10_copy 11 = .ok (.ifCond .ne 5, 3) := by decide +kernel
theorem dX10_copy_14 : decode cX10_copy 14 = .ok (.iconst (-1), 1) := by decide +kernel
theorem dX10_copy_15 : decode cX10_copy 15 = .ok (.ireturn, 1) := by decide +kernel
theorem dX10_copy_16 : decode cX10_copy 16 = .ok (.aload_n 0, 1) := by decide +kernel
theorem dX10_copy_17 : decode cX10_copy 17 = .ok (.getfield 70, 3) := by decide +kernel
theorem dX10_copy_20 : decode cX10_copy 20 = .ok (.iload_n 1, 1) := by decide +kernel
theorem dX10_copy_21 : decode cX10_copy 21 = .ok (.iaload, 1) := by decide +kernel
theorem dX10_copy_22 : decode cX10_copy 22 = .ok (.ifCond .lt 12, 3) := by decide +kernel
theorem dX10_copy_25 : decode cX10_copy 25 = .ok (.aload_n 0, 1) := by decide +kernel
theorem dX10_copy_26 : decode cX10_copy 26 = .ok (.getfield 70, 3) := by decide +kernel
theorem dX10_copy_29 : decode cX10_copy 29 = .ok (.iload_n 3, 1) := by decide +kernel
theorem dX10_copy_30 : decode cX10_copy 30 = .ok (.iaload, 1) := by decide +kernel
theorem dX10_copy_31 : decode cX10_copy 31 = .ok (.ifCond .ge 6, 3) := by decide +kernel
theorem dX10_copy_34 : decode cX10_copy 34 = .ok (.bipush (-11), 2) := by decide +kernel
theorem dX10_copy_36 : decode cX10_copy 36 = .ok (.ireturn, 1) := by decide +kernel
theorem dX10_copy_37 : decode cX10_copy 37 = .ok (.aload_n 0, 1) := by decide +kernel
theorem dX10_copy_38 : decode cX10_copy 38 = .ok (.getfield 70, 3) := by decide +kernel
theorem dX10_copy_41 : decode cX10_copy 41 = .ok (.iload_n 1, 1) := by decide +kernel
theorem dX10_copy_42 : decode cX10_copy 42 = .ok (.iaload, 1) := by decide +kernel
theorem dX10_copy_43 : decode cX10_copy 43 = .ok (.aload_n 0, 1) := by decide +kernel
theorem dX10_copy_44 : decode cX10_copy 44 = .ok (.getfield 70, 3) := by decide +kernel
theorem dX10_copy_47 : decode cX10_copy 47 = .ok (.iload_n 3, 1) := by decide +kernel
theorem dX10_copy_48 : decode cX10_copy 48 = .ok (.iaload, 1) := by decide +kernel
theorem dX10_copy_49 : decode cX10_copy 49 = .ok (.if_icmp .eq 6, 3) := by decide +kernel
theorem dX10_copy_52 : decode cX10_copy 52 = .ok (.bipush (-12), 2) := by decide +kernel
theorem dX10_copy_54 : decode cX10_copy 54 = .ok (.ireturn, 1) := by decide +kernel
theorem dX10_copy_55 : decode cX10_copy 55 = .ok (.iload 5, 2) := by decide +kernel
theorem dX10_copy_57 : decode cX10_copy 57 = .ok (.ifCond .lt 46, 3) := by decide +kernel
theorem dX10_copy_60 : decode cX10_copy 60 = .ok (.iload 5, 2) := by decide +kernel
theorem dX10_copy_62 : decode cX10_copy 62 = .ok (.bipush 24, 2) := by decide +kernel
theorem dX10_copy_64 : decode cX10_copy 64 = .ok (.if_icmp .gt 39, 3) := by decide +kernel
theorem dX10_copy_67 : decode cX10_copy 67 = .ok (.iload_n 2, 1) := by decide +kernel
theorem dX10_copy_68 : decode cX10_copy 68 = .ok (.ifCond .lt 35, 3) := by decide +kernel
theorem dX10_copy_71 : decode cX10_copy 71 = .ok (.iload 4, 2) := by decide +kernel
theorem dX10_copy_73 : decode cX10_copy 73 = .ok (.ifCond .lt 30, 3) := by decide +kernel
theorem dX10_copy_76 : decode cX10_copy 76 = .ok (.iload_n 2, 1) := by decide +kernel
theorem dX10_copy_77 : decode cX10_copy 77 = .ok (.aload_n 0, 1) := by decide +kernel
theorem dX10_copy_78 : decode cX10_copy 78 = .ok (.getfield 73, 3) := by decide +kernel
theorem dX10_copy_81 : decode cX10_copy 81 = .ok (.iload_n 1, 1) := by decide +kernel
theorem dX10_copy_82 : decode cX10_copy 82 = .ok (.iaload, 1) := by decide +kernel
theorem dX10_copy_83 : decode cX10_copy 83 = .ok (.iload 5, 2) := by decide +kernel
theorem dX10_copy_85 : decode cX10_copy 85 = .ok (.isub, 1) := by decide +kernel
theorem dX10_copy_86 : decode cX10_copy 86 = .ok (.if_icmp .gt 17, 3) := by decide +kernel
theorem dX10_copy_89 : decode cX10_copy 89 = .ok (.iload 4, 2) := by decide +kernel
theorem dX10_copy_91 : decode cX10_copy 91 = .ok (.aload_n 0, 1) := by decide +kernel
theorem dX10_copy_92 : decode cX10_copy 92 = .ok (.getfield 73, 3) := by decide +kernel
theorem dX10_copy_95 : decode cX10_copy 95 = .ok (.iload_n 3, 1) := by decide +kernel
theorem dX10_copy_96 : decode cX10_copy 96 = .ok (.iaload, 1) := by decide +kernel
theorem dX10_copy_97 : decode cX10_copy 97 = .ok (.iload 5, 2) := by decide +kernel
theorem dX10_copy_99 : decode cX10_copy 99 = .ok (.isub, 1) := by decide +kernel
theorem dX10_copy_100 : decode cX10_copy 100 = .ok (.if_icmp .le 6, 3) := by decide +kernel
theorem dX10_copy_103 : decode cX10_copy 103 = .ok (.bipush (-13), 2) := by decide +kernel
theorem dX10_copy_105 : decode cX10_copy 105 = .ok (.ireturn, 1) := by decide +kernel
theorem dX10_copy_106 : decode cX10_copy 106 = .ok (.iconst 0, 1) := by decide +kernel
theorem dX10_copy_107 : decode cX10_copy 107 = .ok (.istore 6, 2) := by decide +kernel
theorem dX10_copy_109 : decode cX10_copy 109 = .ok (.iload 6, 2) := by decide +kernel
theorem dX10_copy_111 : decode cX10_copy 111 = .ok (.iload 5, 2) := by decide +kernel
theorem dX10_copy_113 : decode cX10_copy 113 = .ok (.if_icmp .ge 30, 3) := by decide +kernel
theorem dX10_copy_116 : decode cX10_copy 116 = .ok (.aload_n 0, 1) := by decide +kernel
theorem dX10_copy_117 : decode cX10_copy 117 = .ok (.getfield 80, 3) := by decide +kernel
theorem dX10_copy_120 : decode cX10_copy 120 = .ok (.iload 6, 2) := by decide +kernel
theorem dX10_copy_122 : decode cX10_copy 122 = .ok (.aload_n 0, 1) := by decide +kernel
theorem dX10_copy_123 : decode cX10_copy 123 = .ok (.getfield 76, 3) := by decide +kernel
theorem dX10_copy_126 : decode cX10_copy 126 = .ok (.bipush 24, 2) := by decide +kernel
theorem dX10_copy_128 : decode cX10_copy 128 = .ok (.iload_n 1, 1) := by decide +kernel
theorem dX10_copy_129 : decode cX10_copy 129 = .ok (.imul, 1) := by decide +kernel
theorem dX10_copy_130 : decode cX10_copy 130 = .ok (.iload_n 2, 1) := by decide +kernel
theorem dX10_copy_131 : decode cX10_copy 131 = .ok (.iadd, 1) := by decide +kernel
theorem dX10_copy_132 : decode cX10_copy 132 = .ok (.iload 6, 2) := by decide +kernel
theorem dX10_copy_134 : decode cX10_copy 134 = .ok (.iadd, 1) := by decide +kernel
theorem dX10_copy_135 : decode cX10_copy 135 = .ok (.laload, 1) := by decide +kernel
theorem dX10_copy_136 : decode cX10_copy 136 = .ok (.lastore, 1) := by decide +kernel
theorem dX10_copy_137 : decode cX10_copy 137 = .ok (.iinc 6 1, 3) := by decide +kernel
theorem dX10_copy_140 : decode cX10_copy 140 = .ok (.goto (-31), 3) := by decide +kernel
theorem dX10_copy_143 : decode cX10_copy 143 = .ok (.iconst 0, 1) := by decide +kernel
theorem dX10_copy_144 : decode cX10_copy 144 = .ok (.istore 6, 2) := by decide +kernel
theorem dX10_copy_146 : decode cX10_copy 146 = .ok (.iload 6, 2) := by decide +kernel
theorem dX10_copy_148 : decode cX10_copy 148 = .ok (.iload 5, 2) := by decide +kernel
theorem dX10_copy_150 : decode cX10_copy 150 = .ok (.if_icmp .ge 31, 3) := by decide +kernel
theorem dX10_copy_153 : decode cX10_copy 153 = .ok (.aload_n 0, 1) := by decide +kernel
theorem dX10_copy_154 : decode cX10_copy 154 = .ok (.getfield 76, 3) := by decide +kernel
theorem dX10_copy_157 : decode cX10_copy 157 = .ok (.bipush 24, 2) := by decide +kernel
theorem dX10_copy_159 : decode cX10_copy 159 = .ok (.iload_n 3, 1) := by decide +kernel
theorem dX10_copy_160 : decode cX10_copy 160 = .ok (.imul, 1) := by decide +kernel
theorem dX10_copy_161 : decode cX10_copy 161 = .ok (.iload 4, 2) := by decide +kernel
theorem dX10_copy_163 : decode cX10_copy 163 = .ok (.iadd, 1) := by decide +kernel
theorem dX10_copy_164 : decode cX10_copy 164 = .ok (.iload 6, 2) := by decide +kernel
theorem dX10_copy_166 : decode cX10_copy 166 = .ok (.iadd, 1) := by decide +kernel
theorem dX10_copy_167 : decode cX10_copy 167 = .ok (.aload_n 0, 1) := by decide +kernel
theorem dX10_copy_168 : decode cX10_copy 168 = .ok (.getfield 80, 3) := by decide +kernel
theorem dX10_copy_171 : decode cX10_copy 171 = .ok (.iload 6, 2) := by decide +kernel
theorem dX10_copy_173 : decode cX10_copy 173 = .ok (.laload, 1) := by decide +kernel
theorem dX10_copy_174 : decode cX10_copy 174 = .ok (.lastore, 1) := by decide +kernel
theorem dX10_copy_175 : decode cX10_copy 175 = .ok (.iinc 6 1, 3) := by decide +kernel
theorem dX10_copy_178 : decode cX10_copy 178 = .ok (.goto (-32), 3) := by decide +kernel
theorem dX10_copy_181 : decode cX10_copy 181 = .ok (.iload 5, 2) := by decide +kernel
theorem dX10_copy_183 : decode cX10_copy 183 = .ok (.ireturn, 1) := by decide +kernel
theorem dL_law_0 : decode code 0 = .ok (.new 7, 3) := by decide +kernel
theorem dL_law_3 : decode code 3 = .ok (.dup, 1) := by decide +kernel
theorem dL_law_4 : decode code 4 = .ok (.invokespecial 9, 3) := by decide +kernel
theorem dL_law_7 : decode code 7 = .ok (.astore_n 1, 1) := by decide +kernel
theorem dL_law_8 : decode code 8 = .ok (.new 10, 3) := by decide +kernel
theorem dL_law_11 : decode code 11 = .ok (.dup, 1) := by decide +kernel
theorem dL_law_12 : decode code 12 = .ok (.invokespecial 12, 3) := by decide +kernel
theorem dL_law_15 : decode code 15 = .ok (.astore_n 2, 1) := by decide +kernel
theorem dL_law_16 : decode code 16 = .ok (.iconst 0, 1) := by decide +kernel
theorem dL_law_17 : decode code 17 = .ok (.istore_n 3, 1) := by decide +kernel
theorem dL_law_18 : decode code 18 = .ok (.iload_n 3, 1) := by decide +kernel
theorem dL_law_19 : decode code 19 = .ok (.aload_n 0, 1) := by decide +kernel
theorem dL_law_20 : decode code 20 = .ok (.arraylength, 1) := by decide +kernel
theorem dL_law_21 : decode code 21 = .ok (.bipush 6, 2) := by decide +kernel
theorem dL_law_23 : decode code 23 = .ok (.isub, 1) := by decide +kernel
theorem dL_law_24 : decode code 24 = .ok (.if_icmp .gt 1109, 3) := by decide +kernel
theorem dL_law_27 : decode code 27 = .ok (.aload_n 0, 1) := by decide +kernel
theorem dL_law_28 : decode code 28 = .ok (.iload_n 3, 1) := by decide +kernel
theorem dL_law_29 : decode code 29 = .ok (.iaload, 1) := by decide +kernel
theorem dL_law_30 : decode code 30 = .ok (.bipush 31, 2) := by decide +kernel
theorem dL_law_32 : decode code 32 = .ok (.iand, 1) := by decide +kernel
theorem dL_law_33 : decode code 33 = .ok (.tableswitch 1094 0 26 #[123, 176, 209, 242, 275, 338, 351, 364, 387, 410, 443, 476, 509, 522, 555, 578, 591, 654, 697, 710, 723, 776, 839, 882, 925, 948, 1031], 123) := by decide +kernel
theorem dL_law_156 : decode code 156 = .ok (.aload_n 1, 1) := by decide +kernel
theorem dL_law_157 : decode code 157 = .ok (.aload_n 0, 1) := by decide +kernel
theorem dL_law_158 : decode code 158 = .ok (.iload_n 3, 1) := by decide +kernel
theorem dL_law_159 : decode code 159 = .ok (.iconst 1, 1) := by decide +kernel
theorem dL_law_160 : decode code 160 = .ok (.iadd, 1) := by decide +kernel
theorem dL_law_161 : decode code 161 = .ok (.iaload, 1) := by decide +kernel
theorem dL_law_162 : decode code 162 = .ok (.aload_n 0, 1) := by decide +kernel
theorem dL_law_163 : decode code 163 = .ok (.iload_n 3, 1) := by decide +kernel
theorem dL_law_164 : decode code 164 = .ok (.iconst 2, 1) := by decide +kernel
theorem dL_law_165 : decode code 165 = .ok (.iadd, 1) := by decide +kernel
theorem dL_law_166 : decode code 166 = .ok (.iaload, 1) := by decide +kernel
theorem dL_law_167 : decode code 167 = .ok (.aload_n 0, 1) := by decide +kernel
theorem dL_law_168 : decode code 168 = .ok (.iload_n 3, 1) := by decide +kernel
theorem dL_law_169 : decode code 169 = .ok (.iconst 3, 1) := by decide +kernel
theorem dL_law_170 : decode code 170 = .ok (.iadd, 1) := by decide +kernel
theorem dL_law_171 : decode code 171 = .ok (.iaload, 1) := by decide +kernel
theorem dL_law_172 : decode code 172 = .ok (.aload_n 0, 1) := by decide +kernel
theorem dL_law_173 : decode code 173 = .ok (.iload_n 3, 1) := by decide +kernel
theorem dL_law_174 : decode code 174 = .ok (.iconst 4, 1) := by decide +kernel
theorem dL_law_175 : decode code 175 = .ok (.iadd, 1) := by decide +kernel
theorem dL_law_176 : decode code 176 = .ok (.iaload, 1) := by decide +kernel
theorem dL_law_177 : decode code 177 = .ok (.invokevirtual 13, 3) := by decide +kernel
theorem dL_law_180 : decode code 180 = .ok (.aload_n 2, 1) := by decide +kernel
theorem dL_law_181 : decode code 181 = .ok (.aload_n 0, 1) := by decide +kernel
theorem dL_law_182 : decode code 182 = .ok (.iload_n 3, 1) := by decide +kernel
theorem dL_law_183 : decode code 183 = .ok (.iconst 1, 1) := by decide +kernel
theorem dL_law_184 : decode code 184 = .ok (.iadd, 1) := by decide +kernel
theorem dL_law_185 : decode code 185 = .ok (.iaload, 1) := by decide +kernel
theorem dL_law_186 : decode code 186 = .ok (.aload_n 0, 1) := by decide +kernel
theorem dL_law_187 : decode code 187 = .ok (.iload_n 3, 1) := by decide +kernel
theorem dL_law_188 : decode code 188 = .ok (.iconst 2, 1) := by decide +kernel
theorem dL_law_189 : decode code 189 = .ok (.iadd, 1) := by decide +kernel
theorem dL_law_190 : decode code 190 = .ok (.iaload, 1) := by decide +kernel
theorem dL_law_191 : decode code 191 = .ok (.aload_n 0, 1) := by decide +kernel
theorem dL_law_192 : decode code 192 = .ok (.iload_n 3, 1) := by decide +kernel
theorem dL_law_193 : decode code 193 = .ok (.iconst 3, 1) := by decide +kernel
theorem dL_law_194 : decode code 194 = .ok (.iadd, 1) := by decide +kernel
theorem dL_law_195 : decode code 195 = .ok (.iaload, 1) := by decide +kernel
theorem dL_law_196 : decode code 196 = .ok (.aload_n 0, 1) := by decide +kernel
theorem dL_law_197 : decode code 197 = .ok (.iload_n 3, 1) := by decide +kernel
theorem dL_law_198 : decode code 198 = .ok (.iconst 4, 1) := by decide +kernel
theorem dL_law_199 : decode code 199 = .ok (.iadd, 1) := by decide +kernel
theorem dL_law_200 : decode code 200 = .ok (.iaload, 1) := by decide +kernel
theorem dL_law_201 : decode code 201 = .ok (.invokevirtual 17, 3) := by decide +kernel
theorem dL_law_204 : decode code 204 = .ok (.if_icmp .eq 923, 3) := by decide +kernel
theorem dL_law_207 : decode code 207 = .ok (.iconst 0, 1) := by decide +kernel
theorem dL_law_208 : decode code 208 = .ok (.ireturn, 1) := by decide +kernel
theorem dL_law_209 : decode code 209 = .ok (.aload_n 1, 1) := by decide +kernel
theorem dL_law_210 : decode code 210 = .ok (.aload_n 0, 1) := by decide +kernel
theorem dL_law_211 : decode code 211 = .ok (.iload_n 3, 1) := by decide +kernel
theorem dL_law_212 : decode code 212 = .ok (.iconst 1, 1) := by decide +kernel
theorem dL_law_213 : decode code 213 = .ok (.iadd, 1) := by decide +kernel
theorem dL_law_214 : decode code 214 = .ok (.iaload, 1) := by decide +kernel
theorem dL_law_215 : decode code 215 = .ok (.aload_n 0, 1) := by decide +kernel
theorem dL_law_216 : decode code 216 = .ok (.iload_n 3, 1) := by decide +kernel
theorem dL_law_217 : decode code 217 = .ok (.iconst 2, 1) := by decide +kernel
theorem dL_law_218 : decode code 218 = .ok (.iadd, 1) := by decide +kernel
theorem dL_law_219 : decode code 219 = .ok (.iaload, 1) := by decide +kernel
theorem dL_law_220 : decode code 220 = .ok (.invokevirtual 18, 3) := by decide +kernel
theorem dL_law_223 : decode code 223 = .ok (.aload_n 2, 1) := by decide +kernel
theorem dL_law_224 : decode code 224 = .ok (.aload_n 0, 1) := by decide +kernel
theorem dL_law_225 : decode code 225 = .ok (.iload_n 3, 1) := by decide +kernel
theorem dL_law_226 : decode code 226 = .ok (.iconst 1, 1) := by decide +kernel
theorem dL_law_227 : decode code 227 = .ok (.iadd, 1) := by decide +kernel
theorem dL_law_228 : decode code 228 = .ok (.iaload, 1) := by decide +kernel
theorem dL_law_229 : decode code 229 = .ok (.aload_n 0, 1) := by decide +kernel
theorem dL_law_230 : decode code 230 = .ok (.iload_n 3, 1) := by decide +kernel
theorem dL_law_231 : decode code 231 = .ok (.iconst 2, 1) := by decide +kernel
theorem dL_law_232 : decode code 232 = .ok (.iadd, 1) := by decide +kernel
theorem dL_law_233 : decode code 233 = .ok (.iaload, 1) := by decide +kernel
theorem dL_law_234 : decode code 234 = .ok (.invokevirtual 22, 3) := by decide +kernel
theorem dL_law_237 : decode code 237 = .ok (.if_icmp .eq 890, 3) := by decide +kernel
theorem dL_law_240 : decode code 240 = .ok (.iconst 0, 1) := by decide +kernel
theorem dL_law_241 : decode code 241 = .ok (.ireturn, 1) := by decide +kernel
theorem dL_law_242 : decode code 242 = .ok (.aload_n 1, 1) := by decide +kernel
theorem dL_law_243 : decode code 243 = .ok (.aload_n 0, 1) := by decide +kernel
theorem dL_law_244 : decode code 244 = .ok (.iload_n 3, 1) := by decide +kernel
theorem dL_law_245 : decode code 245 = .ok (.iconst 1, 1) := by decide +kernel
theorem dL_law_246 : decode code 246 = .ok (.iadd, 1) := by decide +kernel
theorem dL_law_247 : decode code 247 = .ok (.iaload, 1) := by decide +kernel
theorem dL_law_248 : decode code 248 = .ok (.aload_n 0, 1) := by decide +kernel
theorem dL_law_249 : decode code 249 = .ok (.iload_n 3, 1) := by decide +kernel
theorem dL_law_250 : decode code 250 = .ok (.iconst 2, 1) := by decide +kernel
theorem dL_law_251 : decode code 251 = .ok (.iadd, 1) := by decide +kernel
theorem dL_law_252 : decode code 252 = .ok (.iaload, 1) := by decide +kernel
theorem dL_law_253 : decode code 253 = .ok (.invokevirtual 23, 3) := by decide +kernel
theorem dL_law_256 : decode code 256 = .ok (.aload_n 2, 1) := by decide +kernel
theorem dL_law_257 : decode code 257 = .ok (.aload_n 0, 1) := by decide +kernel
theorem dL_law_258 : decode code 258 = .ok (.iload_n 3, 1) := by decide +kernel
theorem dL_law_259 : decode code 259 = .ok (.iconst 1, 1) := by decide +kernel
theorem dL_law_260 : decode code 260 = .ok (.iadd, 1) := by decide +kernel
theorem dL_law_261 : decode code 261 = .ok (.iaload, 1) := by decide +kernel
theorem dL_law_262 : decode code 262 = .ok (.aload_n 0, 1) := by decide +kernel
theorem dL_law_263 : decode code 263 = .ok (.iload_n 3, 1) := by decide +kernel
theorem dL_law_264 : decode code 264 = .ok (.iconst 2, 1) := by decide +kernel
theorem dL_law_265 : decode code 265 = .ok (.iadd, 1) := by decide +kernel
theorem dL_law_266 : decode code 266 = .ok (.iaload, 1) := by decide +kernel
theorem dL_law_267 : decode code 267 = .ok (.invokevirtual 26, 3) := by decide +kernel
theorem dL_law_270 : decode code 270 = .ok (.if_icmp .eq 857, 3) := by decide +kernel
theorem dL_law_273 : decode code 273 = .ok (.iconst 0, 1) := by decide +kernel
theorem dL_law_274 : decode code 274 = .ok (.ireturn, 1) := by decide +kernel
theorem dL_law_275 : decode code 275 = .ok (.aload_n 1, 1) := by decide +kernel
theorem dL_law_276 : decode code 276 = .ok (.aload_n 0, 1) := by decide +kernel
theorem dL_law_277 : decode code 277 = .ok (.iload_n 3, 1) := by decide +kernel
theorem dL_law_278 : decode code 278 = .ok (.iconst 1, 1) := by decide +kernel
theorem dL_law_279 : decode code 279 = .ok (.iadd, 1) := by decide +kernel
theorem dL_law_280 : decode code 280 = .ok (.iaload, 1) := by decide +kernel
theorem dL_law_281 : decode code 281 = .ok (.aload_n 0, 1) := by decide +kernel
theorem dL_law_282 : decode code 282 = .ok (.iload_n 3, 1) := by decide +kernel
theorem dL_law_283 : decode code 283 = .ok (.iconst 2, 1) := by decide +kernel
theorem dL_law_284 : decode code 284 = .ok (.iadd, 1) := by decide +kernel
theorem dL_law_285 : decode code 285 = .ok (.iaload, 1) := by decide +kernel
theorem dL_law_286 : decode code 286 = .ok (.invokevirtual 27, 3) := by decide +kernel
theorem dL_law_289 : decode code 289 = .ok (.aload_n 2, 1) := by decide +kernel
theorem dL_law_290 : decode code 290 = .ok (.aload_n 0, 1) := by decide +kernel
theorem dL_law_291 : decode code 291 = .ok (.iload_n 3, 1) := by decide +kernel
theorem dL_law_292 : decode code 292 = .ok (.iconst 1, 1) := by decide +kernel
theorem dL_law_293 : decode code 293 = .ok (.iadd, 1) := by decide +kernel
theorem dL_law_294 : decode code 294 = .ok (.iaload, 1) := by decide +kernel
theorem dL_law_295 : decode code 295 = .ok (.aload_n 0, 1) := by decide +kernel
theorem dL_law_296 : decode code 296 = .ok (.iload_n 3, 1) := by decide +kernel
theorem dL_law_297 : decode code 297 = .ok (.iconst 2, 1) := by decide +kernel
theorem dL_law_298 : decode code 298 = .ok (.iadd, 1) := by decide +kernel
theorem dL_law_299 : decode code 299 = .ok (.iaload, 1) := by decide +kernel
theorem dL_law_300 : decode code 300 = .ok (.invokevirtual 30, 3) := by decide +kernel
theorem dL_law_303 : decode code 303 = .ok (.if_icmp .eq 824, 3) := by decide +kernel
theorem dL_law_306 : decode code 306 = .ok (.iconst 0, 1) := by decide +kernel
theorem dL_law_307 : decode code 307 = .ok (.ireturn, 1) := by decide +kernel
theorem dL_law_308 : decode code 308 = .ok (.aload_n 1, 1) := by decide +kernel
theorem dL_law_309 : decode code 309 = .ok (.aload_n 0, 1) := by decide +kernel
theorem dL_law_310 : decode code 310 = .ok (.iload_n 3, 1) := by decide +kernel
theorem dL_law_311 : decode code 311 = .ok (.iconst 1, 1) := by decide +kernel
theorem dL_law_312 : decode code 312 = .ok (.iadd, 1) := by decide +kernel
theorem dL_law_313 : decode code 313 = .ok (.iaload, 1) := by decide +kernel
theorem dL_law_314 : decode code 314 = .ok (.i2l, 1) := by decide +kernel
theorem dL_law_315 : decode code 315 = .ok (.bipush 32, 2) := by decide +kernel
theorem dL_law_317 : decode code 317 = .ok (.lshl, 1) := by decide +kernel
theorem dL_law_318 : decode code 318 = .ok (.aload_n 0, 1) := by decide +kernel
theorem dL_law_319 : decode code 319 = .ok (.iload_n 3, 1) := by decide +kernel
theorem dL_law_320 : decode code 320 = .ok (.iconst 2, 1) := by decide +kernel
theorem dL_law_321 : decode code 321 = .ok (.iadd, 1) := by decide +kernel
theorem dL_law_322 : decode code 322 = .ok (.iaload, 1) := by decide +kernel
theorem dL_law_323 : decode code 323 = .ok (.i2l, 1) := by decide +kernel
theorem dL_law_324 : decode code 324 = .ok (.ldc2_w 31, 3) := by decide +kernel
theorem dL_law_327 : decode code 327 = .ok (.land, 1) := by decide +kernel
theorem dL_law_328 : decode code 328 = .ok (.lor, 1) := by decide +kernel
theorem dL_law_329 : decode code 329 = .ok (.aload_n 0, 1) := by decide +kernel
theorem dL_law_330 : decode code 330 = .ok (.iload_n 3, 1) := by decide +kernel
theorem dL_law_331 : decode code 331 = .ok (.iconst 3, 1) := by decide +kernel
theorem dL_law_332 : decode code 332 = .ok (.iadd, 1) := by decide +kernel
theorem dL_law_333 : decode code 333 = .ok (.iaload, 1) := by decide +kernel
theorem dL_law_334 : decode code 334 = .ok (.invokevirtual 33, 3) := by decide +kernel
theorem dL_law_337 : decode code 337 = .ok (.aload_n 2, 1) := by decide +kernel
theorem dL_law_338 : decode code 338 = .ok (.aload_n 0, 1) := by decide +kernel
theorem dL_law_339 : decode code 339 = .ok (.iload_n 3, 1) := by decide +kernel
theorem dL_law_340 : decode code 340 = .ok (.iconst 1, 1) := by decide +kernel
theorem dL_law_341 : decode code 341 = .ok (.iadd, 1) := by decide +kernel
theorem dL_law_342 : decode code 342 = .ok (.iaload, 1) := by decide +kernel
theorem dL_law_343 : decode code 343 = .ok (.i2l, 1) := by decide +kernel
theorem dL_law_344 : decode code 344 = .ok (.bipush 32, 2) := by decide +kernel
theorem dL_law_346 : decode code 346 = .ok (.lshl, 1) := by decide +kernel
theorem dL_law_347 : decode code 347 = .ok (.aload_n 0, 1) := by decide +kernel
theorem dL_law_348 : decode code 348 = .ok (.iload_n 3, 1) := by decide +kernel
theorem dL_law_349 : decode code 349 = .ok (.iconst 2, 1) := by decide +kernel
theorem dL_law_350 : decode code 350 = .ok (.iadd, 1) := by decide +kernel
theorem dL_law_351 : decode code 351 = .ok (.iaload, 1) := by decide +kernel
theorem dL_law_352 : decode code 352 = .ok (.i2l, 1) := by decide +kernel
theorem dL_law_353 : decode code 353 = .ok (.ldc2_w 31, 3) := by decide +kernel
theorem dL_law_356 : decode code 356 = .ok (.land, 1) := by decide +kernel
theorem dL_law_357 : decode code 357 = .ok (.lor, 1) := by decide +kernel
theorem dL_law_358 : decode code 358 = .ok (.aload_n 0, 1) := by decide +kernel
theorem dL_law_359 : decode code 359 = .ok (.iload_n 3, 1) := by decide +kernel
theorem dL_law_360 : decode code 360 = .ok (.iconst 3, 1) := by decide +kernel
theorem dL_law_361 : decode code 361 = .ok (.iadd, 1) := by decide +kernel
theorem dL_law_362 : decode code 362 = .ok (.iaload, 1) := by decide +kernel
theorem dL_law_363 : decode code 363 = .ok (.invokevirtual 37, 3) := by decide +kernel
theorem dL_law_366 : decode code 366 = .ok (.if_icmp .eq 761, 3) := by decide +kernel
theorem dL_law_369 : decode code 369 = .ok (.iconst 0, 1) := by decide +kernel
theorem dL_law_370 : decode code 370 = .ok (.ireturn, 1) := by decide +kernel
theorem dL_law_371 : decode code 371 = .ok (.aload_n 1, 1) := by decide +kernel
theorem dL_law_372 : decode code 372 = .ok (.invokevirtual 38, 3) := by decide +kernel
theorem dL_law_375 : decode code 375 = .ok (.aload_n 2, 1) := by decide +kernel
theorem dL_law_376 : decode code 376 = .ok (.invokevirtual 42, 3) := by decide +kernel
theorem dL_law_379 : decode code 379 = .ok (.if_icmp .eq 748, 3) := by decide +kernel
theorem dL_law_382 : decode code 382 = .ok (.iconst 0, 1) := by decide +kernel
theorem dL_law_383 : decode code 383 = .ok (.ireturn, 1) := by decide +kernel
theorem dL_law_384 : decode code 384 = .ok (.aload_n 1, 1) := by decide +kernel
theorem dL_law_385 : decode code 385 = .ok (.invokevirtual 43, 3) := by decide +kernel
theorem dL_law_388 : decode code 388 = .ok (.aload_n 2, 1) := by decide +kernel
theorem dL_law_389 : decode code 389 = .ok (.invokevirtual 46, 3) := by decide +kernel
theorem dL_law_392 : decode code 392 = .ok (.if_icmp .eq 735, 3) := by decide +kernel
theorem dL_law_395 : decode code 395 = .ok (.iconst 0, 1) := by decide +kernel
theorem dL_law_396 : decode code 396 = .ok (.ireturn, 1) := by decide +kernel
theorem dL_law_397 : decode code 397 = .ok (.aload_n 1, 1) := by decide +kernel
theorem dL_law_398 : decode code 398 = .ok (.aload_n 0, 1) := by decide +kernel
theorem dL_law_399 : decode code 399 = .ok (.iload_n 3, 1) := by decide +kernel
theorem dL_law_400 : decode code 400 = .ok (.iconst 1, 1) := by decide +kernel
theorem dL_law_401 : decode code 401 = .ok (.iadd, 1) := by decide +kernel
theorem dL_law_402 : decode code 402 = .ok (.iaload, 1) := by decide +kernel
theorem dL_law_403 : decode code 403 = .ok (.invokevirtual 47, 3) := by decide +kernel
theorem dL_law_406 : decode code 406 = .ok (.aload_n 2, 1) := by decide +kernel
theorem dL_law_407 : decode code 407 = .ok (.aload_n 0, 1) := by decide +kernel
theorem dL_law_408 : decode code 408 = .ok (.iload_n 3, 1) := by decide +kernel
theorem dL_law_409 : decode code 409 = .ok (.iconst 1, 1) := by decide +kernel
theorem dL_law_410 : decode code 410 = .ok (.iadd, 1) := by decide +kernel
theorem dL_law_411 : decode code 411 = .ok (.iaload, 1) := by decide +kernel
theorem dL_law_412 : decode code 412 = .ok (.invokevirtual 51, 3) := by decide +kernel
theorem dL_law_415 : decode code 415 = .ok (.if_icmp .eq 712, 3) := by decide +kernel
theorem dL_law_418 : decode code 418 = .ok (.iconst 0, 1) := by decide +kernel
theorem dL_law_419 : decode code 419 = .ok (.ireturn, 1) := by decide +kernel
theorem dL_law_420 : decode code 420 = .ok (.aload_n 1, 1) := by decide +kernel
theorem dL_law_421 : decode code 421 = .ok (.aload_n 0, 1) := by decide +kernel
theorem dL_law_422 : decode code 422 = .ok (.iload_n 3, 1) := by decide +kernel
theorem dL_law_423 : decode code 423 = .ok (.iconst 1, 1) := by decide +kernel
theorem dL_law_424 : decode code 424 = .ok (.iadd, 1) := by decide +kernel
theorem dL_law_425 : decode code 425 = .ok (.iaload, 1) := by decide +kernel
theorem dL_law_426 : decode code 426 = .ok (.invokevirtual 52, 3) := by decide +kernel
theorem dL_law_429 : decode code 429 = .ok (.aload_n 2, 1) := by decide +kernel
theorem dL_law_430 : decode code 430 = .ok (.aload_n 0, 1) := by decide +kernel
theorem dL_law_431 : decode code 431 = .ok (.iload_n 3, 1) := by decide +kernel
theorem dL_law_432 : decode code 432 = .ok (.iconst 1, 1) := by decide +kernel
theorem dL_law_433 : decode code 433 = .ok (.iadd, 1) := by decide +kernel
theorem dL_law_434 : decode code 434 = .ok (.iaload, 1) := by decide +kernel
theorem dL_law_435 : decode code 435 = .ok (.invokevirtual 55, 3) := by decide +kernel
theorem dL_law_438 : decode code 438 = .ok (.if_icmp .eq 689, 3) := by decide +kernel
theorem dL_law_441 : decode code 441 = .ok (.iconst 0, 1) := by decide +kernel
theorem dL_law_442 : decode code 442 = .ok (.ireturn, 1) := by decide +kernel
theorem dL_law_443 : decode code 443 = .ok (.aload_n 1, 1) := by decide +kernel
theorem dL_law_444 : decode code 444 = .ok (.aload_n 0, 1) := by decide +kernel
theorem dL_law_445 : decode code 445 = .ok (.iload_n 3, 1) := by decide +kernel
theorem dL_law_446 : decode code 446 = .ok (.iconst 1, 1) := by decide +kernel
theorem dL_law_447 : decode code 447 = .ok (.iadd, 1) := by decide +kernel
theorem dL_law_448 : decode code 448 = .ok (.iaload, 1) := by decide +kernel
theorem dL_law_449 : decode code 449 = .ok (.aload_n 0, 1) := by decide +kernel
theorem dL_law_450 : decode code 450 = .ok (.iload_n 3, 1) := by decide +kernel
theorem dL_law_451 : decode code 451 = .ok (.iconst 2, 1) := by decide +kernel
theorem dL_law_452 : decode code 452 = .ok (.iadd, 1) := by decide +kernel
theorem dL_law_453 : decode code 453 = .ok (.iaload, 1) := by decide +kernel
theorem dL_law_454 : decode code 454 = .ok (.invokevirtual 56, 3) := by decide +kernel
theorem dL_law_457 : decode code 457 = .ok (.aload_n 2, 1) := by decide +kernel
theorem dL_law_458 : decode code 458 = .ok (.aload_n 0, 1) := by decide +kernel
theorem dL_law_459 : decode code 459 = .ok (.iload_n 3, 1) := by decide +kernel
theorem dL_law_460 : decode code 460 = .ok (.iconst 1, 1) := by decide +kernel
theorem dL_law_461 : decode code 461 = .ok (.iadd, 1) := by decide +kernel
theorem dL_law_462 : decode code 462 = .ok (.iaload, 1) := by decide +kernel
theorem dL_law_463 : decode code 463 = .ok (.aload_n 0, 1) := by decide +kernel
theorem dL_law_464 : decode code 464 = .ok (.iload_n 3, 1) := by decide +kernel
theorem dL_law_465 : decode code 465 = .ok (.iconst 2, 1) := by decide +kernel
theorem dL_law_466 : decode code 466 = .ok (.iadd, 1) := by decide +kernel
theorem dL_law_467 : decode code 467 = .ok (.iaload, 1) := by decide +kernel
theorem dL_law_468 : decode code 468 = .ok (.invokevirtual 59, 3) := by decide +kernel
theorem dL_law_471 : decode code 471 = .ok (.if_icmp .eq 656, 3) := by decide +kernel
theorem dL_law_474 : decode code 474 = .ok (.iconst 0, 1) := by decide +kernel
theorem dL_law_475 : decode code 475 = .ok (.ireturn, 1) := by decide +kernel
theorem dL_law_476 : decode code 476 = .ok (.aload_n 1, 1) := by decide +kernel
theorem dL_law_477 : decode code 477 = .ok (.aload_n 0, 1) := by decide +kernel
theorem dL_law_478 : decode code 478 = .ok (.iload_n 3, 1) := by decide +kernel
theorem dL_law_479 : decode code 479 = .ok (.iconst 1, 1) := by decide +kernel
theorem dL_law_480 : decode code 480 = .ok (.iadd, 1) := by decide +kernel
theorem dL_law_481 : decode code 481 = .ok (.iaload, 1) := by decide +kernel
theorem dL_law_482 : decode code 482 = .ok (.aload_n 0, 1) := by decide +kernel
theorem dL_law_483 : decode code 483 = .ok (.iload_n 3, 1) := by decide +kernel
theorem dL_law_484 : decode code 484 = .ok (.iconst 2, 1) := by decide +kernel
theorem dL_law_485 : decode code 485 = .ok (.iadd, 1) := by decide +kernel
theorem dL_law_486 : decode code 486 = .ok (.iaload, 1) := by decide +kernel
theorem dL_law_487 : decode code 487 = .ok (.invokevirtual 60, 3) := by decide +kernel
theorem dL_law_490 : decode code 490 = .ok (.aload_n 2, 1) := by decide +kernel
theorem dL_law_491 : decode code 491 = .ok (.aload_n 0, 1) := by decide +kernel
theorem dL_law_492 : decode code 492 = .ok (.iload_n 3, 1) := by decide +kernel
theorem dL_law_493 : decode code 493 = .ok (.iconst 1, 1) := by decide +kernel
theorem dL_law_494 : decode code 494 = .ok (.iadd, 1) := by decide +kernel
theorem dL_law_495 : decode code 495 = .ok (.iaload, 1) := by decide +kernel
theorem dL_law_496 : decode code 496 = .ok (.aload_n 0, 1) := by decide +kernel
theorem dL_law_497 : decode code 497 = .ok (.iload_n 3, 1) := by decide +kernel
theorem dL_law_498 : decode code 498 = .ok (.iconst 2, 1) := by decide +kernel
theorem dL_law_499 : decode code 499 = .ok (.iadd, 1) := by decide +kernel
theorem dL_law_500 : decode code 500 = .ok (.iaload, 1) := by decide +kernel
theorem dL_law_501 : decode code 501 = .ok (.invokevirtual 63, 3) := by decide +kernel
theorem dL_law_504 : decode code 504 = .ok (.if_icmp .eq 623, 3) := by decide +kernel
theorem dL_law_507 : decode code 507 = .ok (.iconst 0, 1) := by decide +kernel
theorem dL_law_508 : decode code 508 = .ok (.ireturn, 1) := by decide +kernel
theorem dL_law_509 : decode code 509 = .ok (.aload_n 1, 1) := by decide +kernel
theorem dL_law_510 : decode code 510 = .ok (.aload_n 0, 1) := by decide +kernel
theorem dL_law_511 : decode code 511 = .ok (.iload_n 3, 1) := by decide +kernel
theorem dL_law_512 : decode code 512 = .ok (.iconst 1, 1) := by decide +kernel
theorem dL_law_513 : decode code 513 = .ok (.iadd, 1) := by decide +kernel
theorem dL_law_514 : decode code 514 = .ok (.iaload, 1) := by decide +kernel
theorem dL_law_515 : decode code 515 = .ok (.aload_n 0, 1) := by decide +kernel
theorem dL_law_516 : decode code 516 = .ok (.iload_n 3, 1) := by decide +kernel
theorem dL_law_517 : decode code 517 = .ok (.iconst 2, 1) := by decide +kernel
theorem dL_law_518 : decode code 518 = .ok (.iadd, 1) := by decide +kernel
theorem dL_law_519 : decode code 519 = .ok (.iaload, 1) := by decide +kernel
theorem dL_law_520 : decode code 520 = .ok (.invokevirtual 64, 3) := by decide +kernel
theorem dL_law_523 : decode code 523 = .ok (.aload_n 2, 1) := by decide +kernel
theorem dL_law_524 : decode code 524 = .ok (.aload_n 0, 1) := by decide +kernel
theorem dL_law_525 : decode code 525 = .ok (.iload_n 3, 1) := by decide +kernel
theorem dL_law_526 : decode code 526 = .ok (.iconst 1, 1) := by decide +kernel
theorem dL_law_527 : decode code 527 = .ok (.iadd, 1) := by decide +kernel
theorem dL_law_528 : decode code 528 = .ok (.iaload, 1) := by decide +kernel
theorem dL_law_529 : decode code 529 = .ok (.aload_n 0, 1) := by decide +kernel
theorem dL_law_530 : decode code 530 = .ok (.iload_n 3, 1) := by decide +kernel
theorem dL_law_531 : decode code 531 = .ok (.iconst 2, 1) := by decide +kernel
theorem dL_law_532 : decode code 532 = .ok (.iadd, 1) := by decide +kernel
theorem dL_law_533 : decode code 533 = .ok (.iaload, 1) := by decide +kernel
theorem dL_law_534 : decode code 534 = .ok (.invokevirtual 67, 3) := by decide +kernel
theorem dL_law_537 : decode code 537 = .ok (.if_icmp .eq 590, 3) := by decide +kernel
theorem dL_law_540 : decode code 540 = .ok (.iconst 0, 1) := by decide +kernel
theorem dL_law_541 : decode code 541 = .ok (.ireturn, 1) := by decide +kernel
theorem dL_law_542 : decode code 542 = .ok (.aload_n 1, 1) := by decide +kernel
theorem dL_law_543 : decode code 543 = .ok (.invokevirtual 68, 3) := by decide +kernel
theorem dL_law_546 : decode code 546 = .ok (.aload_n 2, 1) := by decide +kernel
theorem dL_law_547 : decode code 547 = .ok (.invokevirtual 71, 3) := by decide +kernel
theorem dL_law_550 : decode code 550 = .ok (.if_icmp .eq 577, 3) := by decide +kernel
theorem dL_law_553 : decode code 553 = .ok (.iconst 0, 1) := by decide +kernel
theorem dL_law_554 : decode code 554 = .ok (.ireturn, 1) := by decide +kernel
theorem dL_law_555 : decode code 555 = .ok (.aload_n 1, 1) := by decide +kernel
theorem dL_law_556 : decode code 556 = .ok (.aload_n 0, 1) := by decide +kernel
theorem dL_law_557 : decode code 557 = .ok (.iload_n 3, 1) := by decide +kernel
theorem dL_law_558 : decode code 558 = .ok (.iconst 1, 1) := by decide +kernel
theorem dL_law_559 : decode code 559 = .ok (.iadd, 1) := by decide +kernel
theorem dL_law_560 : decode code 560 = .ok (.iaload, 1) := by decide +kernel
theorem dL_law_561 : decode code 561 = .ok (.aload_n 0, 1) := by decide +kernel
theorem dL_law_562 : decode code 562 = .ok (.iload_n 3, 1) := by decide +kernel
theorem dL_law_563 : decode code 563 = .ok (.iconst 2, 1) := by decide +kernel
theorem dL_law_564 : decode code 564 = .ok (.iadd, 1) := by decide +kernel
theorem dL_law_565 : decode code 565 = .ok (.iaload, 1) := by decide +kernel
theorem dL_law_566 : decode code 566 = .ok (.invokevirtual 72, 3) := by decide +kernel
theorem dL_law_569 : decode code 569 = .ok (.aload_n 2, 1) := by decide +kernel
theorem dL_law_570 : decode code 570 = .ok (.aload_n 0, 1) := by decide +kernel
theorem dL_law_571 : decode code 571 = .ok (.iload_n 3, 1) := by decide +kernel
theorem dL_law_572 : decode code 572 = .ok (.iconst 1, 1) := by decide +kernel
theorem dL_law_573 : decode code 573 = .ok (.iadd, 1) := by decide +kernel
theorem dL_law_574 : decode code 574 = .ok (.iaload, 1) := by decide +kernel
theorem dL_law_575 : decode code 575 = .ok (.aload_n 0, 1) := by decide +kernel
theorem dL_law_576 : decode code 576 = .ok (.iload_n 3, 1) := by decide +kernel
theorem dL_law_577 : decode code 577 = .ok (.iconst 2, 1) := by decide +kernel
theorem dL_law_578 : decode code 578 = .ok (.iadd, 1) := by decide +kernel
theorem dL_law_579 : decode code 579 = .ok (.iaload, 1) := by decide +kernel
theorem dL_law_580 : decode code 580 = .ok (.invokevirtual 75, 3) := by decide +kernel
theorem dL_law_583 : decode code 583 = .ok (.if_icmp .eq 544, 3) := by decide +kernel
theorem dL_law_586 : decode code 586 = .ok (.iconst 0, 1) := by decide +kernel
theorem dL_law_587 : decode code 587 = .ok (.ireturn, 1) := by decide +kernel
theorem dL_law_588 : decode code 588 = .ok (.aload_n 1, 1) := by decide +kernel
theorem dL_law_589 : decode code 589 = .ok (.aload_n 0, 1) := by decide +kernel
theorem dL_law_590 : decode code 590 = .ok (.iload_n 3, 1) := by decide +kernel
theorem dL_law_591 : decode code 591 = .ok (.iconst 1, 1) := by decide +kernel
theorem dL_law_592 : decode code 592 = .ok (.iadd, 1) := by decide +kernel
theorem dL_law_593 : decode code 593 = .ok (.iaload, 1) := by decide +kernel
theorem dL_law_594 : decode code 594 = .ok (.invokevirtual 76, 3) := by decide +kernel
theorem dL_law_597 : decode code 597 = .ok (.aload_n 2, 1) := by decide +kernel
theorem dL_law_598 : decode code 598 = .ok (.aload_n 0, 1) := by decide +kernel
theorem dL_law_599 : decode code 599 = .ok (.iload_n 3, 1) := by decide +kernel
theorem dL_law_600 : decode code 600 = .ok (.iconst 1, 1) := by decide +kernel
theorem dL_law_601 : decode code 601 = .ok (.iadd, 1) := by decide +kernel
theorem dL_law_602 : decode code 602 = .ok (.iaload, 1) := by decide +kernel
theorem dL_law_603 : decode code 603 = .ok (.invokevirtual 79, 3) := by decide +kernel
theorem dL_law_606 : decode code 606 = .ok (.if_icmp .eq 521, 3) := by decide +kernel
theorem dL_law_609 : decode code 609 = .ok (.iconst 0, 1) := by decide +kernel
theorem dL_law_610 : decode code 610 = .ok (.ireturn, 1) := by decide +kernel
theorem dL_law_611 : decode code 611 = .ok (.aload_n 1, 1) := by decide +kernel
theorem dL_law_612 : decode code 612 = .ok (.invokevirtual 80, 3) := by decide +kernel
theorem dL_law_615 : decode code 615 = .ok (.aload_n 2, 1) := by decide +kernel
theorem dL_law_616 : decode code 616 = .ok (.invokevirtual 83, 3) := by decide +kernel
theorem dL_law_619 : decode code 619 = .ok (.if_icmp .eq 508, 3) := by decide +kernel
theorem dL_law_622 : decode code 622 = .ok (.iconst 0, 1) := by decide +kernel
theorem dL_law_623 : decode code 623 = .ok (.ireturn, 1) := by decide +kernel
theorem dL_law_624 : decode code 624 = .ok (.aload_n 1, 1) := by decide +kernel
theorem dL_law_625 : decode code 625 = .ok (.aload_n 0, 1) := by decide +kernel
theorem dL_law_626 : decode code 626 = .ok (.iload_n 3, 1) := by decide +kernel
theorem dL_law_627 : decode code 627 = .ok (.iconst 1, 1) := by decide +kernel
theorem dL_law_628 : decode code 628 = .ok (.iadd, 1) := by decide +kernel
theorem dL_law_629 : decode code 629 = .ok (.iaload, 1) := by decide +kernel
theorem dL_law_630 : decode code 630 = .ok (.aload_n 0, 1) := by decide +kernel
theorem dL_law_631 : decode code 631 = .ok (.iload_n 3, 1) := by decide +kernel
theorem dL_law_632 : decode code 632 = .ok (.iconst 2, 1) := by decide +kernel
theorem dL_law_633 : decode code 633 = .ok (.iadd, 1) := by decide +kernel
theorem dL_law_634 : decode code 634 = .ok (.iaload, 1) := by decide +kernel
theorem dL_law_635 : decode code 635 = .ok (.aload_n 0, 1) := by decide +kernel
theorem dL_law_636 : decode code 636 = .ok (.iload_n 3, 1) := by decide +kernel
theorem dL_law_637 : decode code 637 = .ok (.iconst 3, 1) := by decide +kernel
theorem dL_law_638 : decode code 638 = .ok (.iadd, 1) := by decide +kernel
theorem dL_law_639 : decode code 639 = .ok (.iaload, 1) := by decide +kernel
theorem dL_law_640 : decode code 640 = .ok (.aload_n 0, 1) := by decide +kernel
theorem dL_law_641 : decode code 641 = .ok (.iload_n 3, 1) := by decide +kernel
theorem dL_law_642 : decode code 642 = .ok (.iconst 4, 1) := by decide +kernel
theorem dL_law_643 : decode code 643 = .ok (.iadd, 1) := by decide +kernel
theorem dL_law_644 : decode code 644 = .ok (.iaload, 1) := by decide +kernel
theorem dL_law_645 : decode code 645 = .ok (.aload_n 0, 1) := by decide +kernel
theorem dL_law_646 : decode code 646 = .ok (.iload_n 3, 1) := by decide +kernel
theorem dL_law_647 : decode code 647 = .ok (.iconst 5, 1) := by decide +kernel
theorem dL_law_648 : decode code 648 = .ok (.iadd, 1) := by decide +kernel
theorem dL_law_649 : decode code 649 = .ok (.iaload, 1) := by decide +kernel
theorem dL_law_650 : decode code 650 = .ok (.invokevirtual 84, 3) := by decide +kernel
theorem dL_law_653 : decode code 653 = .ok (.aload_n 2, 1) := by decide +kernel
theorem dL_law_654 : decode code 654 = .ok (.aload_n 0, 1) := by decide +kernel
theorem dL_law_655 : decode code 655 = .ok (.iload_n 3, 1) := by decide +kernel
theorem dL_law_656 : decode code 656 = .ok (.iconst 1, 1) := by decide +kernel
theorem dL_law_657 : decode code 657 = .ok (.iadd, 1) := by decide +kernel
theorem dL_law_658 : decode code 658 = .ok (.iaload, 1) := by decide +kernel
theorem dL_law_659 : decode code 659 = .ok (.aload_n 0, 1) := by decide +kernel
theorem dL_law_660 : decode code 660 = .ok (.iload_n 3, 1) := by decide +kernel
theorem dL_law_661 : decode code 661 = .ok (.iconst 2, 1) := by decide +kernel
theorem dL_law_662 : decode code 662 = .ok (.iadd, 1) := by decide +kernel
theorem dL_law_663 : decode code 663 = .ok (.iaload, 1) := by decide +kernel
theorem dL_law_664 : decode code 664 = .ok (.aload_n 0, 1) := by decide +kernel
theorem dL_law_665 : decode code 665 = .ok (.iload_n 3, 1) := by decide +kernel
theorem dL_law_666 : decode code 666 = .ok (.iconst 3, 1) := by decide +kernel
theorem dL_law_667 : decode code 667 = .ok (.iadd, 1) := by decide +kernel
theorem dL_law_668 : decode code 668 = .ok (.iaload, 1) := by decide +kernel
theorem dL_law_669 : decode code 669 = .ok (.aload_n 0, 1) := by decide +kernel
theorem dL_law_670 : decode code 670 = .ok (.iload_n 3, 1) := by decide +kernel
theorem dL_law_671 : decode code 671 = .ok (.iconst 4, 1) := by decide +kernel
theorem dL_law_672 : decode code 672 = .ok (.iadd, 1) := by decide +kernel
theorem dL_law_673 : decode code 673 = .ok (.iaload, 1) := by decide +kernel
theorem dL_law_674 : decode code 674 = .ok (.aload_n 0, 1) := by decide +kernel
theorem dL_law_675 : decode code 675 = .ok (.iload_n 3, 1) := by decide +kernel
theorem dL_law_676 : decode code 676 = .ok (.iconst 5, 1) := by decide +kernel
theorem dL_law_677 : decode code 677 = .ok (.iadd, 1) := by decide +kernel
theorem dL_law_678 : decode code 678 = .ok (.iaload, 1) := by decide +kernel
theorem dL_law_679 : decode code 679 = .ok (.invokevirtual 88, 3) := by decide +kernel
theorem dL_law_682 : decode code 682 = .ok (.if_icmp .eq 445, 3) := by decide +kernel
theorem dL_law_685 : decode code 685 = .ok (.iconst 0, 1) := by decide +kernel
theorem dL_law_686 : decode code 686 = .ok (.ireturn, 1) := by decide +kernel
theorem dL_law_687 : decode code 687 = .ok (.aload_n 1, 1) := by decide +kernel
theorem dL_law_688 : decode code 688 = .ok (.aload_n 0, 1) := by decide +kernel
theorem dL_law_689 : decode code 689 = .ok (.iload_n 3, 1) := by decide +kernel
theorem dL_law_690 : decode code 690 = .ok (.iconst 1, 1) := by decide +kernel
theorem dL_law_691 : decode code 691 = .ok (.iadd, 1) := by decide +kernel
theorem dL_law_692 : decode code 692 = .ok (.iaload, 1) := by decide +kernel
theorem dL_law_693 : decode code 693 = .ok (.aload_n 0, 1) := by decide +kernel
theorem dL_law_694 : decode code 694 = .ok (.iload_n 3, 1) := by decide +kernel
theorem dL_law_695 : decode code 695 = .ok (.iconst 2, 1) := by decide +kernel
theorem dL_law_696 : decode code 696 = .ok (.iadd, 1) := by decide +kernel
theorem dL_law_697 : decode code 697 = .ok (.iaload, 1) := by decide +kernel
theorem dL_law_698 : decode code 698 = .ok (.aload_n 0, 1) := by decide +kernel
theorem dL_law_699 : decode code 699 = .ok (.iload_n 3, 1) := by decide +kernel
theorem dL_law_700 : decode code 700 = .ok (.iconst 3, 1) := by decide +kernel
theorem dL_law_701 : decode code 701 = .ok (.iadd, 1) := by decide +kernel
theorem dL_law_702 : decode code 702 = .ok (.iaload, 1) := by decide +kernel
theorem dL_law_703 : decode code 703 = .ok (.invokevirtual 89, 3) := by decide +kernel
theorem dL_law_706 : decode code 706 = .ok (.aload_n 2, 1) := by decide +kernel
theorem dL_law_707 : decode code 707 = .ok (.aload_n 0, 1) := by decide +kernel
theorem dL_law_708 : decode code 708 = .ok (.iload_n 3, 1) := by decide +kernel
theorem dL_law_709 : decode code 709 = .ok (.iconst 1, 1) := by decide +kernel
theorem dL_law_710 : decode code 710 = .ok (.iadd, 1) := by decide +kernel
theorem dL_law_711 : decode code 711 = .ok (.iaload, 1) := by decide +kernel
theorem dL_law_712 : decode code 712 = .ok (.aload_n 0, 1) := by decide +kernel
theorem dL_law_713 : decode code 713 = .ok (.iload_n 3, 1) := by decide +kernel
theorem dL_law_714 : decode code 714 = .ok (.iconst 2, 1) := by decide +kernel
theorem dL_law_715 : decode code 715 = .ok (.iadd, 1) := by decide +kernel
theorem dL_law_716 : decode code 716 = .ok (.iaload, 1) := by decide +kernel
theorem dL_law_717 : decode code 717 = .ok (.aload_n 0, 1) := by decide +kernel
theorem dL_law_718 : decode code 718 = .ok (.iload_n 3, 1) := by decide +kernel
theorem dL_law_719 : decode code 719 = .ok (.iconst 3, 1) := by decide +kernel
theorem dL_law_720 : decode code 720 = .ok (.iadd, 1) := by decide +kernel
theorem dL_law_721 : decode code 721 = .ok (.iaload, 1) := by decide +kernel
theorem dL_law_722 : decode code 722 = .ok (.invokevirtual 93, 3) := by decide +kernel
theorem dL_law_725 : decode code 725 = .ok (.if_icmp .eq 402, 3) := by decide +kernel
theorem dL_law_728 : decode code 728 = .ok (.iconst 0, 1) := by decide +kernel
theorem dL_law_729 : decode code 729 = .ok (.ireturn, 1) := by decide +kernel
theorem dL_law_730 : decode code 730 = .ok (.aload_n 1, 1) := by decide +kernel
theorem dL_law_731 : decode code 731 = .ok (.invokevirtual 94, 3) := by decide +kernel
theorem dL_law_734 : decode code 734 = .ok (.aload_n 2, 1) := by decide +kernel
theorem dL_law_735 : decode code 735 = .ok (.invokevirtual 97, 3) := by decide +kernel
theorem dL_law_738 : decode code 738 = .ok (.if_icmp .eq 389, 3) := by decide +kernel
theorem dL_law_741 : decode code 741 = .ok (.iconst 0, 1) := by decide +kernel
theorem dL_law_742 : decode code 742 = .ok (.ireturn, 1) := by decide +kernel
theorem dL_law_743 : decode code 743 = .ok (.aload_n 1, 1) := by decide +kernel
theorem dL_law_744 : decode code 744 = .ok (.invokevirtual 98, 3) := by decide +kernel
theorem dL_law_747 : decode code 747 = .ok (.aload_n 2, 1) := by decide +kernel
theorem dL_law_748 : decode code 748 = .ok (.invokevirtual 101, 3) := by decide +kernel
theorem dL_law_751 : decode code 751 = .ok (.if_icmp .eq 376, 3) := by decide +kernel
theorem dL_law_754 : decode code 754 = .ok (.iconst 0, 1) := by decide +kernel
theorem dL_law_755 : decode code 755 = .ok (.ireturn, 1) := by decide +kernel
theorem dL_law_756 : decode code 756 = .ok (.aload_n 1, 1) := by decide +kernel
theorem dL_law_757 : decode code 757 = .ok (.aload_n 0, 1) := by decide +kernel
theorem dL_law_758 : decode code 758 = .ok (.iload_n 3, 1) := by decide +kernel
theorem dL_law_759 : decode code 759 = .ok (.iconst 1, 1) := by decide +kernel
theorem dL_law_760 : decode code 760 = .ok (.iadd, 1) := by decide +kernel
theorem dL_law_761 : decode code 761 = .ok (.iaload, 1) := by decide +kernel
theorem dL_law_762 : decode code 762 = .ok (.aload_n 0, 1) := by decide +kernel
theorem dL_law_763 : decode code 763 = .ok (.iload_n 3, 1) := by decide +kernel
theorem dL_law_764 : decode code 764 = .ok (.iconst 2, 1) := by decide +kernel
theorem dL_law_765 : decode code 765 = .ok (.iadd, 1) := by decide +kernel
theorem dL_law_766 : decode code 766 = .ok (.iaload, 1) := by decide +kernel
theorem dL_law_767 : decode code 767 = .ok (.aload_n 0, 1) := by decide +kernel
theorem dL_law_768 : decode code 768 = .ok (.iload_n 3, 1) := by decide +kernel
theorem dL_law_769 : decode code 769 = .ok (.iconst 3, 1) := by decide +kernel
theorem dL_law_770 : decode code 770 = .ok (.iadd, 1) := by decide +kernel
theorem dL_law_771 : decode code 771 = .ok (.iaload, 1) := by decide +kernel
theorem dL_law_772 : decode code 772 = .ok (.aload_n 0, 1) := by decide +kernel
theorem dL_law_773 : decode code 773 = .ok (.iload_n 3, 1) := by decide +kernel
theorem dL_law_774 : decode code 774 = .ok (.iconst 4, 1) := by decide +kernel
theorem dL_law_775 : decode code 775 = .ok (.iadd, 1) := by decide +kernel
theorem dL_law_776 : decode code 776 = .ok (.iaload, 1) := by decide +kernel
theorem dL_law_777 : decode code 777 = .ok (.invokevirtual 102, 3) := by decide +kernel
theorem dL_law_780 : decode code 780 = .ok (.aload_n 2, 1) := by decide +kernel
theorem dL_law_781 : decode code 781 = .ok (.aload_n 0, 1) := by decide +kernel
theorem dL_law_782 : decode code 782 = .ok (.iload_n 3, 1) := by decide +kernel
theorem dL_law_783 : decode code 783 = .ok (.iconst 1, 1) := by decide +kernel
theorem dL_law_784 : decode code 784 = .ok (.iadd, 1) := by decide +kernel
theorem dL_law_785 : decode code 785 = .ok (.iaload, 1) := by decide +kernel
theorem dL_law_786 : decode code 786 = .ok (.aload_n 0, 1) := by decide +kernel
theorem dL_law_787 : decode code 787 = .ok (.iload_n 3, 1) := by decide +kernel
theorem dL_law_788 : decode code 788 = .ok (.iconst 2, 1) := by decide +kernel
theorem dL_law_789 : decode code 789 = .ok (.iadd, 1) := by decide +kernel
theorem dL_law_790 : decode code 790 = .ok (.iaload, 1) := by decide +kernel
theorem dL_law_791 : decode code 791 = .ok (.aload_n 0, 1) := by decide +kernel
theorem dL_law_792 : decode code 792 = .ok (.iload_n 3, 1) := by decide +kernel
theorem dL_law_793 : decode code 793 = .ok (.iconst 3, 1) := by decide +kernel
theorem dL_law_794 : decode code 794 = .ok (.iadd, 1) := by decide +kernel
theorem dL_law_795 : decode code 795 = .ok (.iaload, 1) := by decide +kernel
theorem dL_law_796 : decode code 796 = .ok (.aload_n 0, 1) := by decide +kernel
theorem dL_law_797 : decode code 797 = .ok (.iload_n 3, 1) := by decide +kernel
theorem dL_law_798 : decode code 798 = .ok (.iconst 4, 1) := by decide +kernel
theorem dL_law_799 : decode code 799 = .ok (.iadd, 1) := by decide +kernel
theorem dL_law_800 : decode code 800 = .ok (.iaload, 1) := by decide +kernel
theorem dL_law_801 : decode code 801 = .ok (.invokevirtual 105, 3) := by decide +kernel
theorem dL_law_804 : decode code 804 = .ok (.if_icmp .eq 323, 3) := by decide +kernel
theorem dL_law_807 : decode code 807 = .ok (.iconst 0, 1) := by decide +kernel
theorem dL_law_808 : decode code 808 = .ok (.ireturn, 1) := by decide +kernel
theorem dL_law_809 : decode code 809 = .ok (.aload_n 1, 1) := by decide +kernel
theorem dL_law_810 : decode code 810 = .ok (.aload_n 0, 1) := by decide +kernel
theorem dL_law_811 : decode code 811 = .ok (.iload_n 3, 1) := by decide +kernel
theorem dL_law_812 : decode code 812 = .ok (.iconst 1, 1) := by decide +kernel
theorem dL_law_813 : decode code 813 = .ok (.iadd, 1) := by decide +kernel
theorem dL_law_814 : decode code 814 = .ok (.iaload, 1) := by decide +kernel
theorem dL_law_815 : decode code 815 = .ok (.aload_n 0, 1) := by decide +kernel
theorem dL_law_816 : decode code 816 = .ok (.iload_n 3, 1) := by decide +kernel
theorem dL_law_817 : decode code 817 = .ok (.iconst 2, 1) := by decide +kernel
theorem dL_law_818 : decode code 818 = .ok (.iadd, 1) := by decide +kernel
theorem dL_law_819 : decode code 819 = .ok (.iaload, 1) := by decide +kernel
theorem dL_law_820 : decode code 820 = .ok (.aload_n 0, 1) := by decide +kernel
theorem dL_law_821 : decode code 821 = .ok (.iload_n 3, 1) := by decide +kernel
theorem dL_law_822 : decode code 822 = .ok (.iconst 3, 1) := by decide +kernel
theorem dL_law_823 : decode code 823 = .ok (.iadd, 1) := by decide +kernel
theorem dL_law_824 : decode code 824 = .ok (.iaload, 1) := by decide +kernel
theorem dL_law_825 : decode code 825 = .ok (.aload_n 0, 1) := by decide +kernel
theorem dL_law_826 : decode code 826 = .ok (.iload_n 3, 1) := by decide +kernel
theorem dL_law_827 : decode code 827 = .ok (.iconst 4, 1) := by decide +kernel
theorem dL_law_828 : decode code 828 = .ok (.iadd, 1) := by decide +kernel
theorem dL_law_829 : decode code 829 = .ok (.iaload, 1) := by decide +kernel
theorem dL_law_830 : decode code 830 = .ok (.aload_n 0, 1) := by decide +kernel
theorem dL_law_831 : decode code 831 = .ok (.iload_n 3, 1) := by decide +kernel
theorem dL_law_832 : decode code 832 = .ok (.iconst 5, 1) := by decide +kernel
theorem dL_law_833 : decode code 833 = .ok (.iadd, 1) := by decide +kernel
theorem dL_law_834 : decode code 834 = .ok (.iaload, 1) := by decide +kernel
theorem dL_law_835 : decode code 835 = .ok (.invokevirtual 106, 3) := by decide +kernel
theorem dL_law_838 : decode code 838 = .ok (.aload_n 2, 1) := by decide +kernel
theorem dL_law_839 : decode code 839 = .ok (.aload_n 0, 1) := by decide +kernel
theorem dL_law_840 : decode code 840 = .ok (.iload_n 3, 1) := by decide +kernel
theorem dL_law_841 : decode code 841 = .ok (.iconst 1, 1) := by decide +kernel
theorem dL_law_842 : decode code 842 = .ok (.iadd, 1) := by decide +kernel
theorem dL_law_843 : decode code 843 = .ok (.iaload, 1) := by decide +kernel
theorem dL_law_844 : decode code 844 = .ok (.aload_n 0, 1) := by decide +kernel
theorem dL_law_845 : decode code 845 = .ok (.iload_n 3, 1) := by decide +kernel
theorem dL_law_846 : decode code 846 = .ok (.iconst 2, 1) := by decide +kernel
theorem dL_law_847 : decode code 847 = .ok (.iadd, 1) := by decide +kernel
theorem dL_law_848 : decode code 848 = .ok (.iaload, 1) := by decide +kernel
theorem dL_law_849 : decode code 849 = .ok (.aload_n 0, 1) := by decide +kernel
theorem dL_law_850 : decode code 850 = .ok (.iload_n 3, 1) := by decide +kernel
theorem dL_law_851 : decode code 851 = .ok (.iconst 3, 1) := by decide +kernel
theorem dL_law_852 : decode code 852 = .ok (.iadd, 1) := by decide +kernel
theorem dL_law_853 : decode code 853 = .ok (.iaload, 1) := by decide +kernel
theorem dL_law_854 : decode code 854 = .ok (.aload_n 0, 1) := by decide +kernel
theorem dL_law_855 : decode code 855 = .ok (.iload_n 3, 1) := by decide +kernel
theorem dL_law_856 : decode code 856 = .ok (.iconst 4, 1) := by decide +kernel
theorem dL_law_857 : decode code 857 = .ok (.iadd, 1) := by decide +kernel
theorem dL_law_858 : decode code 858 = .ok (.iaload, 1) := by decide +kernel
theorem dL_law_859 : decode code 859 = .ok (.aload_n 0, 1) := by decide +kernel
theorem dL_law_860 : decode code 860 = .ok (.iload_n 3, 1) := by decide +kernel
theorem dL_law_861 : decode code 861 = .ok (.iconst 5, 1) := by decide +kernel
theorem dL_law_862 : decode code 862 = .ok (.iadd, 1) := by decide +kernel
theorem dL_law_863 : decode code 863 = .ok (.iaload, 1) := by decide +kernel
theorem dL_law_864 : decode code 864 = .ok (.invokevirtual 109, 3) := by decide +kernel
theorem dL_law_867 : decode code 867 = .ok (.if_icmp .eq 260, 3) := by decide +kernel
theorem dL_law_870 : decode code 870 = .ok (.iconst 0, 1) := by decide +kernel
theorem dL_law_871 : decode code 871 = .ok (.ireturn, 1) := by decide +kernel
theorem dL_law_872 : decode code 872 = .ok (.aload_n 1, 1) := by decide +kernel
theorem dL_law_873 : decode code 873 = .ok (.aload_n 0, 1) := by decide +kernel
theorem dL_law_874 : decode code 874 = .ok (.iload_n 3, 1) := by decide +kernel
theorem dL_law_875 : decode code 875 = .ok (.iconst 1, 1) := by decide +kernel
theorem dL_law_876 : decode code 876 = .ok (.iadd, 1) := by decide +kernel
theorem dL_law_877 : decode code 877 = .ok (.iaload, 1) := by decide +kernel
theorem dL_law_878 : decode code 878 = .ok (.aload_n 0, 1) := by decide +kernel
theorem dL_law_879 : decode code 879 = .ok (.iload_n 3, 1) := by decide +kernel
theorem dL_law_880 : decode code 880 = .ok (.iconst 2, 1) := by decide +kernel
theorem dL_law_881 : decode code 881 = .ok (.iadd, 1) := by decide +kernel
theorem dL_law_882 : decode code 882 = .ok (.iaload, 1) := by decide +kernel
theorem dL_law_883 : decode code 883 = .ok (.aload_n 0, 1) := by decide +kernel
theorem dL_law_884 : decode code 884 = .ok (.iload_n 3, 1) := by decide +kernel
theorem dL_law_885 : decode code 885 = .ok (.iconst 3, 1) := by decide +kernel
theorem dL_law_886 : decode code 886 = .ok (.iadd, 1) := by decide +kernel
theorem dL_law_887 : decode code 887 = .ok (.iaload, 1) := by decide +kernel
theorem dL_law_888 : decode code 888 = .ok (.invokevirtual 110, 3) := by decide +kernel
theorem dL_law_891 : decode code 891 = .ok (.aload_n 2, 1) := by decide +kernel
theorem dL_law_892 : decode code 892 = .ok (.aload_n 0, 1) := by decide +kernel
theorem dL_law_893 : decode code 893 = .ok (.iload_n 3, 1) := by decide +kernel
theorem dL_law_894 : decode code 894 = .ok (.iconst 1, 1) := by decide +kernel
theorem dL_law_895 : decode code 895 = .ok (.iadd, 1) := by decide +kernel
theorem dL_law_896 : decode code 896 = .ok (.iaload, 1) := by decide +kernel
theorem dL_law_897 : decode code 897 = .ok (.aload_n 0, 1) := by decide +kernel
theorem dL_law_898 : decode code 898 = .ok (.iload_n 3, 1) := by decide +kernel
theorem dL_law_899 : decode code 899 = .ok (.iconst 2, 1) := by decide +kernel
theorem dL_law_900 : decode code 900 = .ok (.iadd, 1) := by decide +kernel
theorem dL_law_901 : decode code 901 = .ok (.iaload, 1) := by decide +kernel
theorem dL_law_902 : decode code 902 = .ok (.aload_n 0, 1) := by decide +kernel
theorem dL_law_903 : decode code 903 = .ok (.iload_n 3, 1) := by decide +kernel
theorem dL_law_904 : decode code 904 = .ok (.iconst 3, 1) := by decide +kernel
theorem dL_law_905 : decode code 905 = .ok (.iadd, 1) := by decide +kernel
theorem dL_law_906 : decode code 906 = .ok (.iaload, 1) := by decide +kernel
theorem dL_law_907 : decode code 907 = .ok (.invokevirtual 113, 3) := by decide +kernel
theorem dL_law_910 : decode code 910 = .ok (.if_icmp .eq 217, 3) := by decide +kernel
theorem dL_law_913 : decode code 913 = .ok (.iconst 0, 1) := by decide +kernel
theorem dL_law_914 : decode code 914 = .ok (.ireturn, 1) := by decide +kernel
theorem dL_law_915 : decode code 915 = .ok (.aload_n 1, 1) := by decide +kernel
theorem dL_law_916 : decode code 916 = .ok (.aload_n 0, 1) := by decide +kernel
theorem dL_law_917 : decode code 917 = .ok (.iload_n 3, 1) := by decide +kernel
theorem dL_law_918 : decode code 918 = .ok (.iconst 1, 1) := by decide +kernel
theorem dL_law_919 : decode code 919 = .ok (.iadd, 1) := by decide +kernel
theorem dL_law_920 : decode code 920 = .ok (.iaload, 1) := by decide +kernel
theorem dL_law_921 : decode code 921 = .ok (.aload_n 0, 1) := by decide +kernel
theorem dL_law_922 : decode code 922 = .ok (.iload_n 3, 1) := by decide +kernel
theorem dL_law_923 : decode code 923 = .ok (.iconst 2, 1) := by decide +kernel
theorem dL_law_924 : decode code 924 = .ok (.iadd, 1) := by decide +kernel
theorem dL_law_925 : decode code 925 = .ok (.iaload, 1) := by decide +kernel
theorem dL_law_926 : decode code 926 = .ok (.aload_n 0, 1) := by decide +kernel
theorem dL_law_927 : decode code 927 = .ok (.iload_n 3, 1) := by decide +kernel
theorem dL_law_928 : decode code 928 = .ok (.iconst 3, 1) := by decide +kernel
theorem dL_law_929 : decode code 929 = .ok (.iadd, 1) := by decide +kernel
theorem dL_law_930 : decode code 930 = .ok (.iaload, 1) := by decide +kernel
theorem dL_law_931 : decode code 931 = .ok (.invokevirtual 114, 3) := by decide +kernel
theorem dL_law_934 : decode code 934 = .ok (.aload_n 2, 1) := by decide +kernel
theorem dL_law_935 : decode code 935 = .ok (.aload_n 0, 1) := by decide +kernel
theorem dL_law_936 : decode code 936 = .ok (.iload_n 3, 1) := by decide +kernel
theorem dL_law_937 : decode code 937 = .ok (.iconst 1, 1) := by decide +kernel
theorem dL_law_938 : decode code 938 = .ok (.iadd, 1) := by decide +kernel
theorem dL_law_939 : decode code 939 = .ok (.iaload, 1) := by decide +kernel
theorem dL_law_940 : decode code 940 = .ok (.aload_n 0, 1) := by decide +kernel
theorem dL_law_941 : decode code 941 = .ok (.iload_n 3, 1) := by decide +kernel
theorem dL_law_942 : decode code 942 = .ok (.iconst 2, 1) := by decide +kernel
theorem dL_law_943 : decode code 943 = .ok (.iadd, 1) := by decide +kernel
theorem dL_law_944 : decode code 944 = .ok (.iaload, 1) := by decide +kernel
theorem dL_law_945 : decode code 945 = .ok (.aload_n 0, 1) := by decide +kernel
theorem dL_law_946 : decode code 946 = .ok (.iload_n 3, 1) := by decide +kernel
theorem dL_law_947 : decode code 947 = .ok (.iconst 3, 1) := by decide +kernel
theorem dL_law_948 : decode code 948 = .ok (.iadd, 1) := by decide +kernel
theorem dL_law_949 : decode code 949 = .ok (.iaload, 1) := by decide +kernel
theorem dL_law_950 : decode code 950 = .ok (.invokevirtual 117, 3) := by decide +kernel
theorem dL_law_953 : decode code 953 = .ok (.if_icmp .eq 174, 3) := by decide +kernel
theorem dL_law_956 : decode code 956 = .ok (.iconst 0, 1) := by decide +kernel
theorem dL_law_957 : decode code 957 = .ok (.ireturn, 1) := by decide +kernel
theorem dL_law_958 : decode code 958 = .ok (.aload_n 1, 1) := by decide +kernel
theorem dL_law_959 : decode code 959 = .ok (.aload_n 0, 1) := by decide +kernel
theorem dL_law_960 : decode code 960 = .ok (.iload_n 3, 1) := by decide +kernel
theorem dL_law_961 : decode code 961 = .ok (.iconst 1, 1) := by decide +kernel
theorem dL_law_962 : decode code 962 = .ok (.iadd, 1) := by decide +kernel
theorem dL_law_963 : decode code 963 = .ok (.iaload, 1) := by decide +kernel
theorem dL_law_964 : decode code 964 = .ok (.invokevirtual 118, 3) := by decide +kernel
theorem dL_law_967 : decode code 967 = .ok (.aload_n 2, 1) := by decide +kernel
theorem dL_law_968 : decode code 968 = .ok (.aload_n 0, 1) := by decide +kernel
theorem dL_law_969 : decode code 969 = .ok (.iload_n 3, 1) := by decide +kernel
theorem dL_law_970 : decode code 970 = .ok (.iconst 1, 1) := by decide +kernel
theorem dL_law_971 : decode code 971 = .ok (.iadd, 1) := by decide +kernel
theorem dL_law_972 : decode code 972 = .ok (.iaload, 1) := by decide +kernel
theorem dL_law_973 : decode code 973 = .ok (.invokevirtual 121, 3) := by decide +kernel
theorem dL_law_976 : decode code 976 = .ok (.if_icmp .eq 151, 3) := by decide +kernel
theorem dL_law_979 : decode code 979 = .ok (.iconst 0, 1) := by decide +kernel
theorem dL_law_980 : decode code 980 = .ok (.ireturn, 1) := by decide +kernel
theorem dL_law_981 : decode code 981 = .ok (.aload_n 1, 1) := by decide +kernel
theorem dL_law_982 : decode code 982 = .ok (.aload_n 0, 1) := by decide +kernel
theorem dL_law_983 : decode code 983 = .ok (.iload_n 3, 1) := by decide +kernel
theorem dL_law_984 : decode code 984 = .ok (.iconst 1, 1) := by decide +kernel
theorem dL_law_985 : decode code 985 = .ok (.iadd, 1) := by decide +kernel
theorem dL_law_986 : decode code 986 = .ok (.iaload, 1) := by decide +kernel
theorem dL_law_987 : decode code 987 = .ok (.aload_n 0, 1) := by decide +kernel
theorem dL_law_988 : decode code 988 = .ok (.iload_n 3, 1) := by decide +kernel
theorem dL_law_989 : decode code 989 = .ok (.iconst 2, 1) := by decide +kernel
theorem dL_law_990 : decode code 990 = .ok (.iadd, 1) := by decide +kernel
theorem dL_law_991 : decode code 991 = .ok (.iaload, 1) := by decide +kernel
theorem dL_law_992 : decode code 992 = .ok (.aload_n 0, 1) := by decide +kernel
theorem dL_law_993 : decode code 993 = .ok (.iload_n 3, 1) := by decide +kernel
theorem dL_law_994 : decode code 994 = .ok (.iconst 3, 1) := by decide +kernel
theorem dL_law_995 : decode code 995 = .ok (.iadd, 1) := by decide +kernel
theorem dL_law_996 : decode code 996 = .ok (.iaload, 1) := by decide +kernel
theorem dL_law_997 : decode code 997 = .ok (.aload_n 0, 1) := by decide +kernel
theorem dL_law_998 : decode code 998 = .ok (.iload_n 3, 1) := by decide +kernel
theorem dL_law_999 : decode code 999 = .ok (.iconst 4, 1) := by decide +kernel
theorem dL_law_1000 : decode code 1000 = .ok (.iadd, 1) := by decide +kernel
theorem dL_law_1001 : decode code 1001 = .ok (.iaload, 1) := by decide +kernel
theorem dL_law_1002 : decode code 1002 = .ok (.i2l, 1) := by decide +kernel
theorem dL_law_1003 : decode code 1003 = .ok (.bipush 32, 2) := by decide +kernel
theorem dL_law_1005 : decode code 1005 = .ok (.lshl, 1) := by decide +kernel
theorem dL_law_1006 : decode code 1006 = .ok (.aload_n 0, 1) := by decide +kernel
theorem dL_law_1007 : decode code 1007 = .ok (.iload_n 3, 1) := by decide +kernel
theorem dL_law_1008 : decode code 1008 = .ok (.iconst 5, 1) := by decide +kernel
theorem dL_law_1009 : decode code 1009 = .ok (.iadd, 1) := by decide +kernel
theorem dL_law_1010 : decode code 1010 = .ok (.iaload, 1) := by decide +kernel
theorem dL_law_1011 : decode code 1011 = .ok (.i2l, 1) := by decide +kernel
theorem dL_law_1012 : decode code 1012 = .ok (.ldc2_w 31, 3) := by decide +kernel
theorem dL_law_1015 : decode code 1015 = .ok (.land, 1) := by decide +kernel
theorem dL_law_1016 : decode code 1016 = .ok (.lor, 1) := by decide +kernel
theorem dL_law_1017 : decode code 1017 = .ok (.invokevirtual 122, 3) := by decide +kernel
theorem dL_law_1020 : decode code 1020 = .ok (.aload_n 2, 1) := by decide +kernel
theorem dL_law_1021 : decode code 1021 = .ok (.aload_n 0, 1) := by decide +kernel
theorem dL_law_1022 : decode code 1022 = .ok (.iload_n 3, 1) := by decide +kernel
theorem dL_law_1023 : decode code 1023 = .ok (.iconst 1, 1) := by decide +kernel
theorem dL_law_1024 : decode code 1024 = .ok (.iadd, 1) := by decide +kernel
theorem dL_law_1025 : decode code 1025 = .ok (.iaload, 1) := by decide +kernel
theorem dL_law_1026 : decode code 1026 = .ok (.aload_n 0, 1) := by decide +kernel
theorem dL_law_1027 : decode code 1027 = .ok (.iload_n 3, 1) := by decide +kernel
theorem dL_law_1028 : decode code 1028 = .ok (.iconst 2, 1) := by decide +kernel
theorem dL_law_1029 : decode code 1029 = .ok (.iadd, 1) := by decide +kernel
theorem dL_law_1030 : decode code 1030 = .ok (.iaload, 1) := by decide +kernel
theorem dL_law_1031 : decode code 1031 = .ok (.aload_n 0, 1) := by decide +kernel
theorem dL_law_1032 : decode code 1032 = .ok (.iload_n 3, 1) := by decide +kernel
theorem dL_law_1033 : decode code 1033 = .ok (.iconst 3, 1) := by decide +kernel
theorem dL_law_1034 : decode code 1034 = .ok (.iadd, 1) := by decide +kernel
theorem dL_law_1035 : decode code 1035 = .ok (.iaload, 1) := by decide +kernel
theorem dL_law_1036 : decode code 1036 = .ok (.aload_n 0, 1) := by decide +kernel
theorem dL_law_1037 : decode code 1037 = .ok (.iload_n 3, 1) := by decide +kernel
theorem dL_law_1038 : decode code 1038 = .ok (.iconst 4, 1) := by decide +kernel
theorem dL_law_1039 : decode code 1039 = .ok (.iadd, 1) := by decide +kernel
theorem dL_law_1040 : decode code 1040 = .ok (.iaload, 1) := by decide +kernel
theorem dL_law_1041 : decode code 1041 = .ok (.i2l, 1) := by decide +kernel
theorem dL_law_1042 : decode code 1042 = .ok (.bipush 32, 2) := by decide +kernel
theorem dL_law_1044 : decode code 1044 = .ok (.lshl, 1) := by decide +kernel
theorem dL_law_1045 : decode code 1045 = .ok (.aload_n 0, 1) := by decide +kernel
theorem dL_law_1046 : decode code 1046 = .ok (.iload_n 3, 1) := by decide +kernel
theorem dL_law_1047 : decode code 1047 = .ok (.iconst 5, 1) := by decide +kernel
theorem dL_law_1048 : decode code 1048 = .ok (.iadd, 1) := by decide +kernel
theorem dL_law_1049 : decode code 1049 = .ok (.iaload, 1) := by decide +kernel
theorem dL_law_1050 : decode code 1050 = .ok (.i2l, 1) := by decide +kernel
theorem dL_law_1051 : decode code 1051 = .ok (.ldc2_w 31, 3) := by decide +kernel
theorem dL_law_1054 : decode code 1054 = .ok (.land, 1) := by decide +kernel
theorem dL_law_1055 : decode code 1055 = .ok (.lor, 1) := by decide +kernel
theorem dL_law_1056 : decode code 1056 = .ok (.invokevirtual 126, 3) := by decide +kernel
theorem dL_law_1059 : decode code 1059 = .ok (.if_icmp .eq 68, 3) := by decide +kernel
theorem dL_law_1062 : decode code 1062 = .ok (.iconst 0, 1) := by decide +kernel
theorem dL_law_1063 : decode code 1063 = .ok (.ireturn, 1) := by decide +kernel
theorem dL_law_1064 : decode code 1064 = .ok (.aload_n 1, 1) := by decide +kernel
theorem dL_law_1065 : decode code 1065 = .ok (.aload_n 0, 1) := by decide +kernel
theorem dL_law_1066 : decode code 1066 = .ok (.iload_n 3, 1) := by decide +kernel
theorem dL_law_1067 : decode code 1067 = .ok (.iconst 1, 1) := by decide +kernel
theorem dL_law_1068 : decode code 1068 = .ok (.iadd, 1) := by decide +kernel
theorem dL_law_1069 : decode code 1069 = .ok (.iaload, 1) := by decide +kernel
theorem dL_law_1070 : decode code 1070 = .ok (.aload_n 0, 1) := by decide +kernel
theorem dL_law_1071 : decode code 1071 = .ok (.iload_n 3, 1) := by decide +kernel
theorem dL_law_1072 : decode code 1072 = .ok (.iconst 2, 1) := by decide +kernel
theorem dL_law_1073 : decode code 1073 = .ok (.iadd, 1) := by decide +kernel
theorem dL_law_1074 : decode code 1074 = .ok (.iaload, 1) := by decide +kernel
theorem dL_law_1075 : decode code 1075 = .ok (.aload_n 0, 1) := by decide +kernel
theorem dL_law_1076 : decode code 1076 = .ok (.iload_n 3, 1) := by decide +kernel
theorem dL_law_1077 : decode code 1077 = .ok (.iconst 3, 1) := by decide +kernel
theorem dL_law_1078 : decode code 1078 = .ok (.iadd, 1) := by decide +kernel
theorem dL_law_1079 : decode code 1079 = .ok (.iaload, 1) := by decide +kernel
theorem dL_law_1080 : decode code 1080 = .ok (.aload_n 0, 1) := by decide +kernel
theorem dL_law_1081 : decode code 1081 = .ok (.iload_n 3, 1) := by decide +kernel
theorem dL_law_1082 : decode code 1082 = .ok (.iconst 4, 1) := by decide +kernel
theorem dL_law_1083 : decode code 1083 = .ok (.iadd, 1) := by decide +kernel
theorem dL_law_1084 : decode code 1084 = .ok (.iaload, 1) := by decide +kernel
theorem dL_law_1085 : decode code 1085 = .ok (.aload_n 0, 1) := by decide +kernel
theorem dL_law_1086 : decode code 1086 = .ok (.iload_n 3, 1) := by decide +kernel
theorem dL_law_1087 : decode code 1087 = .ok (.iconst 5, 1) := by decide +kernel
theorem dL_law_1088 : decode code 1088 = .ok (.iadd, 1) := by decide +kernel
theorem dL_law_1089 : decode code 1089 = .ok (.iaload, 1) := by decide +kernel
theorem dL_law_1090 : decode code 1090 = .ok (.invokevirtual 127, 3) := by decide +kernel
theorem dL_law_1093 : decode code 1093 = .ok (.aload_n 2, 1) := by decide +kernel
theorem dL_law_1094 : decode code 1094 = .ok (.aload_n 0, 1) := by decide +kernel
theorem dL_law_1095 : decode code 1095 = .ok (.iload_n 3, 1) := by decide +kernel
theorem dL_law_1096 : decode code 1096 = .ok (.iconst 1, 1) := by decide +kernel
theorem dL_law_1097 : decode code 1097 = .ok (.iadd, 1) := by decide +kernel
theorem dL_law_1098 : decode code 1098 = .ok (.iaload, 1) := by decide +kernel
theorem dL_law_1099 : decode code 1099 = .ok (.aload_n 0, 1) := by decide +kernel
theorem dL_law_1100 : decode code 1100 = .ok (.iload_n 3, 1) := by decide +kernel
theorem dL_law_1101 : decode code 1101 = .ok (.iconst 2, 1) := by decide +kernel
theorem dL_law_1102 : decode code 1102 = .ok (.iadd, 1) := by decide +kernel
theorem dL_law_1103 : decode code 1103 = .ok (.iaload, 1) := by decide +kernel
theorem dL_law_1104 : decode code 1104 = .ok (.aload_n 0, 1) := by decide +kernel
theorem dL_law_1105 : decode code 1105 = .ok (.iload_n 3, 1) := by decide +kernel
theorem dL_law_1106 : decode code 1106 = .ok (.iconst 3, 1) := by decide +kernel
theorem dL_law_1107 : decode code 1107 = .ok (.iadd, 1) := by decide +kernel
theorem dL_law_1108 : decode code 1108 = .ok (.iaload, 1) := by decide +kernel
theorem dL_law_1109 : decode code 1109 = .ok (.aload_n 0, 1) := by decide +kernel
theorem dL_law_1110 : decode code 1110 = .ok (.iload_n 3, 1) := by decide +kernel
theorem dL_law_1111 : decode code 1111 = .ok (.iconst 4, 1) := by decide +kernel
theorem dL_law_1112 : decode code 1112 = .ok (.iadd, 1) := by decide +kernel
theorem dL_law_1113 : decode code 1113 = .ok (.iaload, 1) := by decide +kernel
theorem dL_law_1114 : decode code 1114 = .ok (.aload_n 0, 1) := by decide +kernel
theorem dL_law_1115 : decode code 1115 = .ok (.iload_n 3, 1) := by decide +kernel
theorem dL_law_1116 : decode code 1116 = .ok (.iconst 5, 1) := by decide +kernel
theorem dL_law_1117 : decode code 1117 = .ok (.iadd, 1) := by decide +kernel
theorem dL_law_1118 : decode code 1118 = .ok (.iaload, 1) := by decide +kernel
theorem dL_law_1119 : decode code 1119 = .ok (.invokevirtual 130, 3) := by decide +kernel
theorem dL_law_1122 : decode code 1122 = .ok (.if_icmp .eq 5, 3) := by decide +kernel
theorem dL_law_1125 : decode code 1125 = .ok (.iconst 0, 1) := by decide +kernel
theorem dL_law_1126 : decode code 1126 = .ok (.ireturn, 1) := by decide +kernel
theorem dL_law_1127 : decode code 1127 = .ok (.iinc 3 6, 3) := by decide +kernel
theorem dL_law_1130 : decode code 1130 = .ok (.goto (-1112), 3) := by decide +kernel
theorem dL_law_1133 : decode code 1133 = .ok (.iconst 1, 1) := by decide +kernel
theorem dL_law_1134 : decode code 1134 = .ok (.ireturn, 1) := by decide +kernel
