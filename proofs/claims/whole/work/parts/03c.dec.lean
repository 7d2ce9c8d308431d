theorem dX12_goesOn_22 : decode cX12_goesOn 22 = .ok (.aload_n 0, 1) := by decide +kernel
theorem dX12_goesOn_23 : decode cX12_goesOn 23 = .ok (.dup, 1) := by decide +kernel
theorem dX12_goesOn_24 : decode cX12_goesOn 24 = .ok (.getfield 83, 3) := by decide +kernel
theorem dX12_goesOn_27 : decode cX12_goesOn 27 = .ok (.iconst 1, 1) := by decide +kernel
theorem dX12_goesOn_28 : decode cX12_goesOn 28 = .ok (.iadd, 1) := by decide +kernel
theorem dX12_goesOn_29 : decode cX12_goesOn 29 = .ok (.putfield 83, 3) := by decide +kernel
theorem dX12_goesOn_32 : decode cX12_goesOn 32 = .ok (.goto (-23), 3) := by decide +kernel
theorem dX12_goesOn_35 : decode cX12_goesOn 35 = .ok (.aload_n 0, 1) := by decide +kernel
theorem dX12_goesOn_36 : decode cX12_goesOn 36 = .ok (.aload_n 0, 1) := by decide +kernel
theorem dX12_goesOn_37 : decode cX12_goesOn 37 = .ok (.getfield 83, 3) := by decide +kernel
theorem dX12_goesOn_40 : decode cX12_goesOn 40 = .ok (.putfield 89, 3) := by decide +kernel
theorem dX12_goesOn_43 : decode cX12_goesOn 43 = .ok (.aload_n 0, 1) := by decide +kernel
theorem dX12_goesOn_44 : decode cX12_goesOn 44 = .ok (.iconst 0, 1) := by decide +kernel
theorem dX12_goesOn_45 : decode cX12_goesOn 45 = .ok (.putfield 80, 3) := by decide +kernel
theorem dX12_goesOn_48 : decode cX12_goesOn 48 = .ok (.aload_n 0, 1) := by decide +kernel
theorem dX12_goesOn_49 : decode cX12_goesOn 49 = .ok (.aload_n 0, 1) := by decide +kernel
theorem dX12_goesOn_50 : decode cX12_goesOn 50 = .ok (.getfield 83, 3) := by decide +kernel
theorem dX12_goesOn_53 : decode cX12_goesOn 53 = .ok (.invokevirtual 86, 3) := by decide +kernel
theorem dX12_goesOn_56 : decode cX12_goesOn 56 = .ok (.istore_n 1, 1) := by decide +kernel
theorem dX12_goesOn_57 : decode cX12_goesOn 57 = .ok (.iconst 0, 1) := by decide +kernel
theorem dX12_goesOn_58 : decode cX12_goesOn 58 = .ok (.istore_n 2, 1) := by decide +kernel
theorem dX12_goesOn_59 : decode cX12_goesOn 59 = .ok (.iload_n 1, 1) := by decide +kernel
theorem dX12_goesOn_60 : decode cX12_goesOn 60 = .ok (.iconst (-1), 1) := by decide +kernel
theorem dX12_goesOn_61 : decode cX12_goesOn 61 = .ok (.if_icmp .ne 11, 3) := by decide +kernel
theorem dX12_goesOn_64 : decode cX12_goesOn 64 = .ok (.aload_n 0, 1) := by decide +kernel
theorem dX12_goesOn_65 : decode cX12_goesOn 65 = .ok (.iconst 1, 1) := by decide +kernel
theorem dX12_goesOn_66 : decode cX12_goesOn 66 = .ok (.putfield 80, 3) := by decide +kernel
theorem dX12_goesOn_69 : decode cX12_goesOn 69 = .ok (.goto 196, 3) := by decide +kernel
theorem dX12_goesOn_72 : decode cX12_goesOn 72 = .ok (.iload_n 1, 1) := by decide +kernel
theorem dX12_goesOn_73 : decode cX12_goesOn 73 = .ok (.invokestatic 92, 3) := by decide +kernel
theorem dX12_goesOn_76 : decode cX12_goesOn 76 = .ok (.ifCond .eq 85, 3) := by decide +kernel
theorem dX12_goesOn_79 : decode cX12_goesOn 79 = .ok (.aload_n 0, 1) := by decide +kernel
theorem dX12_goesOn_80 : decode cX12_goesOn 80 = .ok (.lconst 0, 1) := by decide +kernel
theorem dX12_goesOn_81 : decode cX12_goesOn 81 = .ok (.putfield 96, 3) := by decide +kernel
theorem dX12_goesOn_84 : decode cX12_goesOn 84 = .ok (.aload_n 0, 1) := by decide +kernel
theorem dX12_goesOn_85 : decode cX12_goesOn 85 = .ok (.aload_n 0, 1) := by decide +kernel
theorem dX12_goesOn_86 : decode cX12_goesOn 86 = .ok (.getfield 83, 3) := by decide +kernel
theorem dX12_goesOn_89 : decode cX12_goesOn 89 = .ok (.invokevirtual 86, 3) := by decide +kernel
theorem dX12_goesOn_92 : decode cX12_goesOn 92 = .ok (.invokestatic 92, 3) := by decide +kernel
theorem dX12_goesOn_95 : decode cX12_goesOn 95 = .ok (.ifCond .eq 52, 3) := by decide +kernel
theorem dX12_goesOn_98 : decode cX12_goesOn 98 = .ok (.iload_n 2, 1) := by decide +kernel
theorem dX12_goesOn_99 : decode cX12_goesOn 99 = .ok (.bipush 8, 2) := by decide +kernel
theorem dX12_goesOn_101 : decode cX12_goesOn 101 = .ok (.if_icmp .ge 30, 3) := by decide +kernel
theorem dX12_goesOn_104 : decode cX12_goesOn 104 = .ok (.aload_n 0, 1) := by decide +kernel
theorem dX12_goesOn_105 : decode cX12_goesOn 105 = .ok (.ldc2_w 74, 3) := by decide +kernel
theorem dX12_goesOn_108 : decode cX12_goesOn 108 = .ok (.aload_n 0, 1) := by decide +kernel
theorem dX12_goesOn_109 : decode cX12_goesOn 109 = .ok (.getfield 96, 3) := by decide +kernel
theorem dX12_goesOn_112 : decode cX12_goesOn 112 = .ok (.lmul, 1) := by decide +kernel
theorem dX12_goesOn_113 : decode cX12_goesOn 113 = .ok (.aload_n 0, 1) := by decide +kernel
theorem dX12_goesOn_114 : decode cX12_goesOn 114 = .ok (.aload_n 0, 1) := by decide +kernel
theorem dX12_goesOn_115 : decode cX12_goesOn 115 = .ok (.getfield 83, 3) := by decide +kernel
theorem dX12_goesOn_118 : decode cX12_goesOn 118 = .ok (.invokevirtual 86, 3) := by decide +kernel
theorem dX12_goesOn_121 : decode cX12_goesOn 121 = .ok (.bipush 97, 2) := by decide +kernel
theorem dX12_goesOn_123 : decode cX12_goesOn 123 = .ok (.isub, 1) := by decide +kernel
theorem dX12_goesOn_124 : decode cX12_goesOn 124 = .ok (.iconst 1, 1) := by decide +kernel
theorem dX12_goesOn_125 : decode cX12_goesOn 125 = .ok (.iadd, 1) := by decide +kernel
theorem dX12_goesOn_126 : decode cX12_goesOn 126 = .ok (.i2l, 1) := by decide +kernel
theorem dX12_goesOn_127 : decode cX12_goesOn 127 = .ok (.ladd, 1) := by decide +kernel
theorem dX12_goesOn_128 : decode cX12_goesOn 128 = .ok (.putfield 96, 3) := by decide +kernel
theorem dX12_goesOn_131 : decode cX12_goesOn 131 = .ok (.iinc 2 1, 3) := by decide +kernel
theorem dX12_goesOn_134 : decode cX12_goesOn 134 = .ok (.aload_n 0, 1) := by decide +kernel
theorem dX12_goesOn_135 : decode cX12_goesOn 135 = .ok (.dup, 1) := by decide +kernel
theorem dX12_goesOn_136 : decode cX12_goesOn 136 = .ok (.getfield 83, 3) := by decide +kernel
theorem dX12_goesOn_139 : decode cX12_goesOn 139 = .ok (.iconst 1, 1) := by decide +kernel
theorem dX12_goesOn_140 : decode cX12_goesOn 140 = .ok (.iadd, 1) := by decide +kernel
theorem dX12_goesOn_141 : decode cX12_goesOn 141 = .ok (.putfield 83, 3) := by decide +kernel
theorem dX12_goesOn_144 : decode cX12_goesOn 144 = .ok (.goto (-60), 3) := by decide +kernel
theorem dX12_goesOn_147 : decode cX12_goesOn 147 = .ok (.iload_n 2, 1) := by decide +kernel
theorem dX12_goesOn_148 : decode cX12_goesOn 148 = .ok (.bipush 8, 2) := by decide +kernel
theorem dX12_goesOn_150 : decode cX12_goesOn 150 = .ok (.if_icmp .gt 115, 3) := by decide +kernel
theorem dX12_goesOn_153 : decode cX12_goesOn 153 = .ok (.aload_n 0, 1) := by decide +kernel
theorem dX12_goesOn_154 : decode cX12_goesOn 154 = .ok (.iconst 2, 1) := by decide +kernel
theorem dX12_goesOn_155 : decode cX12_goesOn 155 = .ok (.putfield 80, 3) := by decide +kernel
theorem dX12_goesOn_158 : decode cX12_goesOn 158 = .ok (.goto 107, 3) := by decide +kernel
theorem dX12_goesOn_161 : decode cX12_goesOn 161 = .ok (.iload_n 1, 1) := by decide +kernel
theorem dX12_goesOn_162 : decode cX12_goesOn 162 = .ok (.invokestatic 100, 3) := by decide +kernel
theorem dX12_goesOn_165 : decode cX12_goesOn 165 = .ok (.ifCond .eq 79, 3) := by decide +kernel
theorem dX12_goesOn_168 : decode cX12_goesOn 168 = .ok (.aload_n 0, 1) := by decide +kernel
theorem dX12_goesOn_169 : decode cX12_goesOn 169 = .ok (.iconst 0, 1) := by decide +kernel
theorem dX12_goesOn_170 : decode cX12_goesOn 170 = .ok (.putfield 103, 3) := by decide +kernel
theorem dX12_goesOn_173 : decode cX12_goesOn 173 = .ok (.aload_n 0, 1) := by decide +kernel
theorem dX12_goesOn_174 : decode cX12_goesOn 174 = .ok (.aload_n 0, 1) := by decide +kernel
theorem dX12_goesOn_175 : decode cX12_goesOn 175 = .ok (.getfield 83, 3) := by decide +kernel
theorem dX12_goesOn_178 : decode cX12_goesOn 178 = .ok (.invokevirtual 86, 3) := by decide +kernel
theorem dX12_goesOn_181 : decode cX12_goesOn 181 = .ok (.invokestatic 100, 3) := by decide +kernel
theorem dX12_goesOn_184 : decode cX12_goesOn 184 = .ok (.ifCond .eq 47, 3) := by decide +kernel
theorem dX12_goesOn_187 : decode cX12_goesOn 187 = .ok (.iload_n 2, 1) := by decide +kernel
theorem dX12_goesOn_188 : decode cX12_goesOn 188 = .ok (.iconst 3, 1) := by decide +kernel
theorem dX12_goesOn_189 : decode cX12_goesOn 189 = .ok (.if_icmp .ge 26, 3) := by decide +kernel
theorem dX12_goesOn_192 : decode cX12_goesOn 192 = .ok (.aload_n 0, 1) := by decide +kernel
theorem dX12_goesOn_193 : decode cX12_goesOn 193 = .ok (.bipush 10, 2) := by decide +kernel
theorem dX12_goesOn_195 : decode cX12_goesOn 195 = .ok (.aload_n 0, 1) := by decide +kernel
theorem dX12_goesOn_196 : decode cX12_goesOn 196 = .ok (.getfield 103, 3) := by decide +kernel
theorem dX12_goesOn_199 : decode cX12_goesOn 199 = .ok (.imul, 1) := by decide +kernel
theorem dX12_goesOn_200 : decode cX12_goesOn 200 = .ok (.aload_n 0, 1) := by decide +kernel
theorem dX12_goesOn_201 : decode cX12_goesOn 201 = .ok (.aload_n 0, 1) := by decide +kernel
theorem dX12_goesOn_202 : decode cX12_goesOn 202 = .ok (.getfield 83, 3) := by decide +kernel
theorem dX12_goesOn_205 : decode cX12_goesOn 205 = .ok (.invokevirtual 86, 3) := by decide +kernel
theorem dX12_goesOn_208 : decode cX12_goesOn 208 = .ok (.iadd, 1) := by decide +kernel
theorem dX12_goesOn_209 : decode cX12_goesOn 209 = .ok (.bipush 48, 2) := by decide +kernel
theorem dX12_goesOn_211 : decode cX12_goesOn 211 = .ok (.isub, 1) := by decide +kernel
theorem dX12_goesOn_212 : decode cX12_goesOn 212 = .ok (.putfield 103, 3) := by decide +kernel
theorem dX12_goesOn_215 : decode cX12_goesOn 215 = .ok (.iinc 2 1, 3) := by decide +kernel
theorem dX12_goesOn_218 : decode cX12_goesOn 218 = .ok (.aload_n 0, 1) := by decide +kernel
theorem dX12_goesOn_219 : decode cX12_goesOn 219 = .ok (.dup, 1) := by decide +kernel
theorem dX12_goesOn_220 : decode cX12_goesOn 220 = .ok (.getfield 83, 3) := by decide +kernel
theorem dX12_goesOn_223 : decode cX12_goesOn 223 = .ok (.iconst 1, 1) := by decide +kernel
theorem dX12_goesOn_224 : decode cX12_goesOn 224 = .ok (.iadd, 1) := by decide +kernel
theorem dX12_goesOn_225 : decode cX12_goesOn 225 = .ok (.putfield 83, 3) := by decide +kernel
theorem dX12_goesOn_228 : decode cX12_goesOn 228 = .ok (.goto (-55), 3) := by decide +kernel
theorem dX12_goesOn_231 : decode cX12_goesOn 231 = .ok (.iload_n 2, 1) := by decide +kernel
theorem dX12_goesOn_232 : decode cX12_goesOn 232 = .ok (.iconst 3, 1) := by decide +kernel
theorem dX12_goesOn_233 : decode cX12_goesOn 233 = .ok (.if_icmp .gt 32, 3) := by decide +kernel
theorem dX12_goesOn_236 : decode cX12_goesOn 236 = .ok (.aload_n 0, 1) := by decide +kernel
theorem dX12_goesOn_237 : decode cX12_goesOn 237 = .ok (.iconst 3, 1) := by decide +kernel
theorem dX12_goesOn_238 : decode cX12_goesOn 238 = .ok (.putfield 80, 3) := by decide +kernel
theorem dX12_goesOn_241 : decode cX12_goesOn 241 = .ok (.goto 24, 3) := by decide +kernel
theorem dX12_goesOn_244 : decode cX12_goesOn 244 = .ok (.iload_n 1, 1) := by decide +kernel
theorem dX12_goesOn_245 : decode cX12_goesOn 245 = .ok (.bipush 59, 2) := by decide +kernel
theorem dX12_goesOn_247 : decode cX12_goesOn 247 = .ok (.if_icmp .ne 18, 3) := by decide +kernel
theorem dX12_goesOn_250 : decode cX12_goesOn 250 = .ok (.aload_n 0, 1) := by decide +kernel
theorem dX12_goesOn_251 : decode cX12_goesOn 251 = .ok (.iconst 4, 1) := by decide +kernel
theorem dX12_goesOn_252 : decode cX12_goesOn 252 = .ok (.putfield 80, 3) := by decide +kernel
theorem dX12_goesOn_255 : decode cX12_goesOn 255 = .ok (.aload_n 0, 1) := by decide +kernel
theorem dX12_goesOn_256 : decode cX12_goesOn 256 = .ok (.dup, 1) := by decide +kernel
theorem dX12_goesOn_257 : decode cX12_goesOn 257 = .ok (.getfield 83, 3) := by decide +kernel
theorem dX12_goesOn_260 : decode cX12_goesOn 260 = .ok (.iconst 1, 1) := by decide +kernel
theorem dX12_goesOn_261 : decode cX12_goesOn 261 = .ok (.iadd, 1) := by decide +kernel
theorem dX12_goesOn_262 : decode cX12_goesOn 262 = .ok (.putfield 83, 3) := by decide +kernel
theorem dX12_goesOn_265 : decode cX12_goesOn 265 = .ok (.return_, 1) := by decide +kernel
theorem dX12_flaw_0 : decode cX12_flaw 0 = .ok (.aload_n 0, 1) := by decide +kernel
theorem dX12_flaw_1 : decode cX12_flaw 1 = .ok (.getfield 80, 3) := by decide +kernel
theorem dX12_flaw_4 : decode cX12_flaw 4 = .ok (.iconst 5, 1) := by decide +kernel
theorem dX12_flaw_5 : decode cX12_flaw 5 = .ok (.if_icmp .ne 4, 3) := by decide +kernel
theorem dX12_flaw_8 : decode cX12_flaw 8 = .ok (.return_, 1) := by decide +kernel
theorem dX12_flaw_9 : decode cX12_flaw 9 = .ok (.aload_n 0, 1) := by decide +kernel
theorem dX12_flaw_10 : decode cX12_flaw 10 = .ok (.iload_n 1, 1) := by decide +kernel
theorem dX12_flaw_11 : decode cX12_flaw 11 = .ok (.putfield 106, 3) := by decide +kernel
theorem dX12_flaw_14 : decode cX12_flaw 14 = .ok (.aload_n 0, 1) := by decide +kernel
theorem dX12_flaw_15 : decode cX12_flaw 15 = .ok (.aload_n 0, 1) := by decide +kernel
theorem dX12_flaw_16 : decode cX12_flaw 16 = .ok (.getfield 89, 3) := by decide +kernel
theorem dX12_flaw_19 : decode cX12_flaw 19 = .ok (.putfield 109, 3) := by decide +kernel
theorem dX12_flaw_22 : decode cX12_flaw 22 = .ok (.aload_n 0, 1) := by decide +kernel
theorem dX12_flaw_23 : decode cX12_flaw 23 = .ok (.iconst 5, 1) := by decide +kernel
theorem dX12_flaw_24 : decode cX12_flaw 24 = .ok (.putfield 80, 3) := by decide +kernel
theorem dX12_flaw_27 : decode cX12_flaw 27 = .ok (.return_, 1) := by decide +kernel
theorem dX12_isWord_0 : decode cX12_isWord 0 = .ok (.aload_n 0, 1) := by decide +kernel
theorem dX12_isWord_1 : decode cX12_isWord 1 = .ok (.getfield 80, 3) := by decide +kernel
theorem dX12_isWord_4 : decode cX12_isWord 4 = .ok (.iconst 2, 1) := by decide +kernel
theorem dX12_isWord_5 : decode cX12_isWord 5 = .ok (.if_icmp .ne 19, 3) := by decide +kernel
theorem dX12_isWord_8 : decode cX12_isWord 8 = .ok (.aload_n 0, 1) := by decide +kernel
theorem dX12_isWord_9 : decode cX12_isWord 9 = .ok (.getfield 96, 3) := by decide +kernel
theorem dX12_isWord_12 : decode cX12_isWord 12 = .ok (.aload_n 1, 1) := by decide +kernel
theorem dX12_isWord_13 : decode cX12_isWord 13 = .ok (.invokestatic 112, 3) := by decide +kernel
theorem dX12_isWord_16 : decode cX12_isWord 16 = .ok (.lcmp, 1) := by decide +kernel
theorem dX12_isWord_17 : decode cX12_isWord 17 = .ok (.ifCond .ne 7, 3) := by decide +kernel
theorem dX12_isWord_20 : decode cX12_isWord 20 = .ok (.iconst 1, 1) := by decide +kernel
theorem dX12_isWord_21 : decode cX12_isWord 21 = .ok (.goto 4, 3) := by decide +kernel
theorem dX12_isWord_24 : decode cX12_isWord 24 = .ok (.iconst 0, 1) := by decide +kernel
theorem dX12_isWord_25 : decode cX12_isWord 25 = .ok (.ireturn, 1) := by decide +kernel
theorem dX12_eatsSemicolon_0 : decode cX12_eatsSemicolon 0 = .ok (.aload_n 0, 1) := by decide +kernel
theorem dX12_eatsSemicolon_1 : decode cX12_eatsSemicolon 1 = .ok (.getfield 80, 3) := by decide +kernel
theorem dX12_eatsSemicolon_4 : decode cX12_eatsSemicolon 4 = .ok (.iconst 4, 1) := by decide +kernel
theorem dX12_eatsSemicolon_5 : decode cX12_eatsSemicolon 5 = .ok (.if_icmp .ne 7, 3) := by decide +kernel
theorem dX12_eatsSemicolon_8 : decode cX12_eatsSemicolon 8 = .ok (.iconst 1, 1) := by decide +kernel
theorem dX12_eatsSemicolon_9 : decode cX12_eatsSemicolon 9 = .ok (.goto 4, 3) := by decide +kernel
theorem dX12_eatsSemicolon_12 : decode cX12_eatsSemicolon 12 = .ok (.iconst 0, 1) := by decide +kernel
theorem dX12_eatsSemicolon_13 : decode cX12_eatsSemicolon 13 = .ok (.istore_n 1, 1) := by decide +kernel
theorem dX12_eatsSemicolon_14 : decode cX12_eatsSemicolon 14 = .ok (.iload_n 1, 1) := by decide +kernel
theorem dX12_eatsSemicolon_15 : decode cX12_eatsSemicolon 15 = .ok (.ifCond .eq 7, 3) := by decide +kernel
theorem dX12_eatsSemicolon_18 : decode cX12_eatsSemicolon 18 = .ok (.aload_n 0, 1) := by decide +kernel
theorem dX12_eatsSemicolon_19 : decode cX12_eatsSemicolon 19 = .ok (.invokevirtual 116, 3) := by decide +kernel
theorem dX12_eatsSemicolon_22 : decode cX12_eatsSemicolon 22 = .ok (.iload_n 1, 1) := by decide +kernel
theorem dX12_eatsSemicolon_23 : decode cX12_eatsSemicolon 23 = .ok (.ireturn, 1) := by decide +kernel
theorem dX12_needs_0 : decode cX12_needs 0 = .ok (.aload_n 0, 1) := by decide +kernel
theorem dX12_needs_1 : decode cX12_needs 1 = .ok (.aload_n 1, 1) := by decide +kernel
theorem dX12_needs_2 : decode cX12_needs 2 = .ok (.invokevirtual 119, 3) := by decide +kernel
theorem dX12_needs_5 : decode cX12_needs 5 = .ok (.ifCond .ne 8, 3) := by decide +kernel
theorem dX12_needs_8 : decode cX12_needs 8 = .ok (.aload_n 0, 1) := by decide +kernel
theorem dX12_needs_9 : decode cX12_needs 9 = .ok (.iconst 1, 1) := by decide +kernel
theorem dX12_needs_10 : decode cX12_needs 10 = .ok (.invokevirtual 123, 3) := by decide +kernel
theorem dX12_needs_13 : decode cX12_needs 13 = .ok (.aload_n 0, 1) := by decide +kernel
theorem dX12_needs_14 : decode cX12_needs 14 = .ok (.invokevirtual 116, 3) := by decide +kernel
theorem dX12_needs_17 : decode cX12_needs 17 = .ok (.return_, 1) := by decide +kernel
theorem dX12_bounded_0 : decode cX12_bounded 0 = .ok (.aload_n 0, 1) := by decide +kernel
theorem dX12_bounded_1 : decode cX12_bounded 1 = .ok (.getfield 80, 3) := by decide +kernel
theorem dX12_bounded_4 : decode cX12_bounded 4 = .ok (.iconst 3, 1) := by decide +kernel
theorem dX12_bounded_5 : decode cX12_bounded 5 = .ok (.if_icmp .eq 11, 3) := by decide +kernel
theorem dX12_bounded_8 : decode cX12_bounded 8 = .ok (.aload_n 0, 1) := by decide +kernel
theorem dX12_bounded_9 : decode cX12_bounded 9 = .ok (.iconst 1, 1) := by decide +kernel
theorem dX12_bounded_10 : decode cX12_bounded 10 = .ok (.invokevirtual 123, 3) := by decide +kernel
theorem dX12_bounded_13 : decode cX12_bounded 13 = .ok (.goto 20, 3) := by decide +kernel
theorem dX12_bounded_16 : decode cX12_bounded 16 = .ok (.aload_n 0, 1) := by decide +kernel
theorem dX12_bounded_17 : decode cX12_bounded 17 = .ok (.getfield 103, 3) := by decide +kernel
theorem dX12_bounded_20 : decode cX12_bounded 20 = .ok (.iload_n 1, 1) := by decide +kernel
theorem dX12_bounded_21 : decode cX12_bounded 21 = .ok (.iload_n 2, 1) := by decide +kernel
theorem dX12_bounded_22 : decode cX12_bounded 22 = .ok (.invokestatic 127, 3) := by decide +kernel
theorem dX12_bounded_25 : decode cX12_bounded 25 = .ok (.ifCond .ne 8, 3) := by decide +kernel
theorem dX12_bounded_28 : decode cX12_bounded 28 = .ok (.aload_n 0, 1) := by decide +kernel
theorem dX12_bounded_29 : decode cX12_bounded 29 = .ok (.iconst 4, 1) := by decide +kernel
theorem dX12_bounded_30 : decode cX12_bounded 30 = .ok (.invokevirtual 123, 3) := by decide +kernel
theorem dX12_bounded_33 : decode cX12_bounded 33 = .ok (.aload_n 0, 1) := by decide +kernel
theorem dX12_bounded_34 : decode cX12_bounded 34 = .ok (.getfield 80, 3) := by decide +kernel
theorem dX12_bounded_37 : decode cX12_bounded 37 = .ok (.iconst 5, 1) := by decide +kernel
theorem dX12_bounded_38 : decode cX12_bounded 38 = .ok (.if_icmp .ne 7, 3) := by decide +kernel
theorem dX12_bounded_41 : decode cX12_bounded 41 = .ok (.iload_n 1, 1) := by decide +kernel
theorem dX12_bounded_42 : decode cX12_bounded 42 = .ok (.goto 7, 3) := by decide +kernel
theorem dX12_bounded_45 : decode cX12_bounded 45 = .ok (.aload_n 0, 1) := by decide +kernel
theorem dX12_bounded_46 : decode cX12_bounded 46 = .ok (.getfield 103, 3) := by decide +kernel
theorem dX12_bounded_49 : decode cX12_bounded 49 = .ok (.ireturn, 1) := by decide +kernel
theorem dX12_readWhole_0 : decode cX12_readWhole 0 = .ok (.aload_n 0, 1) := by decide +kernel
theorem dX12_readWhole_1 : decode cX12_readWhole 1 = .ok (.iload_n 1, 1) := by decide +kernel
theorem dX12_readWhole_2 : decode cX12_readWhole 2 = .ok (.iload_n 2, 1) := by decide +kernel
theorem dX12_readWhole_3 : decode cX12_readWhole 3 = .ok (.invokevirtual 131, 3) := by decide +kernel
theorem dX12_readWhole_6 : decode cX12_readWhole 6 = .ok (.istore_n 3, 1) := by decide +kernel
theorem dX12_readWhole_7 : decode cX12_readWhole 7 = .ok (.aload_n 0, 1) := by decide +kernel
theorem dX12_readWhole_8 : decode cX12_readWhole 8 = .ok (.invokevirtual 116, 3) := by decide +kernel
theorem dX12_readWhole_11 : decode cX12_readWhole 11 = .ok (.iload_n 3, 1) := by decide +kernel
theorem dX12_readWhole_12 : decode cX12_readWhole 12 = .ok (.ireturn, 1) := by decide +kernel
theorem dX12_readPart_0 : decode cX12_readPart 0 = .ok (.aload_n 0, 1) := by decide +kernel
theorem dX12_readPart_1 : decode cX12_readPart 1 = .ok (.aload_n 1, 1) := by decide +kernel
theorem dX12_readPart_2 : decode cX12_readPart 2 = .ok (.invokevirtual 135, 3) := by decide +kernel
theorem dX12_readPart_5 : decode cX12_readPart 5 = .ok (.aload_n 0, 1) := by decide +kernel
theorem dX12_readPart_6 : decode cX12_readPart 6 = .ok (.iload_n 2, 1) := by decide +kernel
theorem dX12_readPart_7 : decode cX12_readPart 7 = .ok (.iload_n 3, 1) := by decide +kernel
theorem dX12_readPart_8 : decode cX12_readPart 8 = .ok (.invokevirtual 139, 3) := by decide +kernel
theorem dX12_readPart_11 : decode cX12_readPart 11 = .ok (.ireturn, 1) := by decide +kernel
theorem dX12_isName_0 : decode cX12_isName 0 = .ok (.aload_n 0, 1) := by decide +kernel
theorem dX12_isName_1 : decode cX12_isName 1 = .ok (.getfield 80, 3) := by decide +kernel
theorem dX12_isName_4 : decode cX12_isName 4 = .ok (.iconst 2, 1) := by decide +kernel
theorem dX12_isName_5 : decode cX12_isName 5 = .ok (.if_icmp .ne 48, 3) := by decide +kernel
theorem dX12_isName_8 : decode cX12_isName 8 = .ok (.aload_n 0, 1) := by decide +kernel
theorem dX12_isName_9 : decode cX12_isName 9 = .ok (.ldc 142, 2) := by decide +kernel
theorem dX12_isName_11 : decode cX12_isName 11 = .ok (.invokevirtual 119, 3) := by decide +kernel
theorem dX12_isName_14 : decode cX12_isName 14 = .ok (.ifCond .ne 39, 3) := by decide +kernel
theorem dX12_isName_17 : decode cX12_isName 17 = .ok (.aload_n 0, 1) := by decide +kernel
theorem dX12_isName_18 : decode cX12_isName 18 = .ok (.ldc 144, 2) := by decide +kernel
theorem dX12_isName_20 : decode cX12_isName 20 = .ok (.invokevirtual 119, 3) := by decide +kernel
theorem dX12_isName_23 : decode cX12_isName 23 = .ok (.ifCond .ne 30, 3) := by decide +kernel
theorem dX12_isName_26 : decode cX12_isName 26 = .ok (.aload_n 0, 1) := by decide +kernel
theorem dX12_isName_27 : decode cX12_isName 27 = .ok (.ldc 146, 2) := by decide +kernel
theorem dX12_isName_29 : decode cX12_isName 29 = .ok (.invokevirtual 119, 3) := by decide +kernel
theorem dX12_isName_32 : decode cX12_isName 32 = .ok (.ifCond .ne 21, 3) := by decide +kernel
theorem dX12_isName_35 : decode cX12_isName 35 = .ok (.aload_n 0, 1) := by decide +kernel
theorem dX12_isName_36 : decode cX12_isName 36 = .ok (.ldc 148, 2) := by decide +kernel
theorem dX12_isName_38 : decode cX12_isName 38 = .ok (.invokevirtual 119, 3) := by decide +kernel
theorem dX12_isName_41 : decode cX12_isName 41 = .ok (.ifCond .ne 12, 3) := by decide +kernel
theorem dX12_isName_44 : decode cX12_isName 44 = .ok (.aload_n 0, 1) := by decide +kernel
theorem dX12_isName_45 : decode cX12_isName 45 = .ok (.ldc 150, 2) := by decide +kernel
theorem dX12_isName_47 : decode cX12_isName 47 = .ok (.invokevirtual 119, 3) := by decide +kernel
theorem dX12_isName_50 : decode cX12_isName 50 = .ok (.ifCond .eq 5, 3) := by decide +kernel
theorem dX12_isName_53 : decode cX12_isName 53 = .ok (.iconst 0, 1) := by decide +kernel
theorem dX12_isName_54 : decode cX12_isName 54 = .ok (.ireturn, 1) := by decide +kernel
theorem dX12_isName_55 : decode cX12_isName 55 = .ok (.aload_n 0, 1) := by decide +kernel
theorem dX12_isName_56 : decode cX12_isName 56 = .ok (.ldc 152, 2) := by decide +kernel
theorem dX12_isName_58 : decode cX12_isName 58 = .ok (.invokevirtual 119, 3) := by decide +kernel
theorem dX12_isName_61 : decode cX12_isName 61 = .ok (.ifCond .ne 43, 3) := by decide +kernel
theorem dX12_isName_64 : decode cX12_isName 64 = .ok (.aload_n 0, 1) := by decide +kernel
theorem dX12_isName_65 : decode cX12_isName 65 = .ok (.ldc 154, 2) := by decide +kernel
theorem dX12_isName_67 : decode cX12_isName 67 = .ok (.invokevirtual 119, 3) := by decide +kernel
theorem dX12_isName_70 : decode cX12_isName 70 = .ok (.ifCond .ne 34, 3) := by decide +kernel
theorem dX12_isName_73 : decode cX12_isName 73 = .ok (.aload_n 0, 1) := by decide +kernel
theorem dX12_isName_74 : decode cX12_isName 74 = .ok (.ldc 156, 2) := by decide +kernel
theorem dX12_isName_76 : decode cX12_isName 76 = .ok (.invokevirtual 119, 3) := by decide +kernel
theorem dX12_isName_79 : decode cX12_isName 79 = .ok (.ifCond .ne 25, 3) := by decide +kernel
theorem dX12_isName_82 : decode cX12_isName 82 = .ok (.aload_n 0, 1) := by decide +kernel
theorem dX12_isName_83 : decode cX12_isName 83 = .ok (.ldc 158, 2) := by decide +kernel
theorem dX12_isName_85 : decode cX12_isName 85 = .ok (.invokevirtual 119, 3) := by decide +kernel
theorem dX12_isName_88 : decode cX12_isName 88 = .ok (.ifCond .ne 16, 3) := by decide +kernel
theorem dX12_isName_91 : decode cX12_isName 91 = .ok (.aload_n 0, 1) := by decide +kernel
theorem dX12_isName_92 : decode cX12_isName 92 = .ok (.ldc 160, 2) := by decide +kernel
theorem dX12_isName_94 : decode cX12_isName 94 = .ok (.invokevirtual 119, 3) := by decide +kernel
theorem dX12_isName_97 : decode cX12_isName 97 = .ok (.ifCond .ne 7, 3) := by decide +kernel
theorem dX12_isName_100 : decode cX12_isName 100 = .ok (.iconst 1, 1) := by decide +kernel
theorem dX12_isName_101 : decode cX12_isName 101 = .ok (.goto 4, 3) := by decide +kernel
theorem dX12_isName_104 : decode cX12_isName 104 = .ok (.iconst 0, 1) := by decide +kernel
theorem dX12_isName_105 : decode cX12_isName 105 = .ok (.ireturn, 1) := by decide +kernel
theorem dX12_begins_0 : decode cX12_begins 0 = .ok (.iload_n 1, 1) := by decide +kernel
theorem dX12_begins_1 : decode cX12_begins 1 = .ok (.iload_n 2, 1) := by decide +kernel
theorem dX12_begins_2 : decode cX12_begins 2 = .ok (.if_icmp .ne 8, 3) := by decide +kernel
theorem dX12_begins_5 : decode cX12_begins 5 = .ok (.aload_n 0, 1) := by decide +kernel
theorem dX12_begins_6 : decode cX12_begins 6 = .ok (.iconst 5, 1) := by decide +kernel
theorem dX12_begins_7 : decode cX12_begins 7 = .ok (.invokevirtual 123, 3) := by decide +kernel
theorem dX12_begins_10 : decode cX12_begins 10 = .ok (.aload_n 0, 1) := by decide +kernel
theorem dX12_begins_11 : decode cX12_begins 11 = .ok (.getfield 162, 3) := by decide +kernel
theorem dX12_begins_14 : decode cX12_begins 14 = .ok (.getfield 166, 3) := by decide +kernel
theorem dX12_begins_17 : decode cX12_begins 17 = .ok (.ifCond .ne 9, 3) := by decide +kernel
theorem dX12_begins_20 : decode cX12_begins 20 = .ok (.aload_n 0, 1) := by decide +kernel
theorem dX12_begins_21 : decode cX12_begins 21 = .ok (.bipush 6, 2) := by decide +kernel
theorem dX12_begins_23 : decode cX12_begins 23 = .ok (.invokevirtual 123, 3) := by decide +kernel
theorem dX12_begins_26 : decode cX12_begins 26 = .ok (.aload_n 0, 1) := by decide +kernel
theorem dX12_begins_27 : decode cX12_begins 27 = .ok (.invokevirtual 116, 3) := by decide +kernel
theorem dX12_begins_30 : decode cX12_begins 30 = .ok (.return_, 1) := by decide +kernel
theorem dX12_readFresh_0 : decode cX12_readFresh 0 = .ok (.aload_n 0, 1) := by decide +kernel
theorem dX12_readFresh_1 : decode cX12_readFresh 1 = .ok (.invokevirtual 171, 3) := by decide +kernel
theorem dX12_readFresh_4 : decode cX12_readFresh 4 = .ok (.ifCond .ne 8, 3) := by decide +kernel
theorem dX12_readFresh_7 : decode cX12_readFresh 7 = .ok (.aload_n 0, 1) := by decide +kernel
theorem dX12_readFresh_8 : decode cX12_readFresh 8 = .ok (.iconst 1, 1) := by decide +kernel
theorem dX12_readFresh_9 : decode cX12_readFresh 9 = .ok (.invokevirtual 123, 3) := by decide +kernel
theorem dX12_readFresh_12 : decode cX12_readFresh 12 = .ok (.aload_n 0, 1) := by decide +kernel
theorem dX12_readFresh_13 : decode cX12_readFresh 13 = .ok (.getfield 162, 3) := by decide +kernel
theorem dX12_readFresh_16 : decode cX12_readFresh 16 = .ok (.aload_n 0, 1) := by decide +kernel
theorem dX12_readFresh_17 : decode cX12_readFresh 17 = .ok (.getfield 96, 3) := by decide +kernel
theorem dX12_readFresh_20 : decode cX12_readFresh 20 = .ok (.invokevirtual 175, 3) := by decide +kernel
theorem dX12_readFresh_23 : decode cX12_readFresh 23 = .ok (.iconst (-1), 1) := by decide +kernel
theorem dX12_readFresh_24 : decode cX12_readFresh 24 = .ok (.if_icmp .eq 8, 3) := by decide +kernel
theorem dX12_readFresh_27 : decode cX12_readFresh 27 = .ok (.aload_n 0, 1) := by decide +kernel
theorem dX12_readFresh_28 : decode cX12_readFresh 28 = .ok (.iconst 3, 1) := by decide +kernel
theorem dX12_readFresh_29 : decode cX12_readFresh 29 = .ok (.invokevirtual 123, 3) := by decide +kernel
theorem dX12_readFresh_32 : decode cX12_readFresh 32 = .ok (.aload_n 0, 1) := by decide +kernel
theorem dX12_readFresh_33 : decode cX12_readFresh 33 = .ok (.getfield 96, 3) := by decide +kernel
theorem dX12_readFresh_36 : decode cX12_readFresh 36 = .ok (.lstore_n 1, 1) := by decide +kernel
theorem dX12_readFresh_37 : decode cX12_readFresh 37 = .ok (.aload_n 0, 1) := by decide +kernel
theorem dX12_readFresh_38 : decode cX12_readFresh 38 = .ok (.invokevirtual 116, 3) := by decide +kernel
theorem dX12_readFresh_41 : decode cX12_readFresh 41 = .ok (.lload_n 1, 1) := by decide +kernel
theorem dX12_readFresh_42 : decode cX12_readFresh 42 = .ok (.lreturn, 1) := by decide +kernel
theorem dX12_names_0 : decode cX12_names 0 = .ok (.aload_n 0, 1) := by decide +kernel
theorem dX12_names_1 : decode cX12_names 1 = .ok (.getfield 162, 3) := by decide +kernel
theorem dX12_names_4 : decode cX12_names 4 = .ok (.getfield 179, 3) := by decide +kernel
theorem dX12_names_7 : decode cX12_names 7 = .ok (.aload_n 0, 1) := by decide +kernel
theorem dX12_names_8 : decode cX12_names 8 = .ok (.getfield 162, 3) := by decide +kernel
theorem dX12_names_11 : decode cX12_names 11 = .ok (.getfield 183, 3) := by decide +kernel
theorem dX12_names_14 : decode cX12_names 14 = .ok (.lload_n 1, 1) := by decide +kernel
theorem dX12_names_15 : decode cX12_names 15 = .ok (.lastore, 1) := by decide +kernel
theorem dX12_names_16 : decode cX12_names 16 = .ok (.aload_n 0, 1) := by decide +kernel
theorem dX12_names_17 : decode cX12_names 17 = .ok (.getfield 162, 3) := by decide +kernel
theorem dX12_names_20 : decode cX12_names 20 = .ok (.getfield 186, 3) := by decide +kernel
theorem dX12_names_23 : decode cX12_names 23 = .ok (.aload_n 0, 1) := by decide +kernel
theorem dX12_names_24 : decode cX12_names 24 = .ok (.getfield 162, 3) := by decide +kernel
theorem dX12_names_27 : decode cX12_names 27 = .ok (.getfield 183, 3) := by decide +kernel
theorem dX12_names_30 : decode cX12_names 30 = .ok (.iload_n 3, 1) := by decide +kernel
theorem dX12_names_31 : decode cX12_names 31 = .ok (.iastore, 1) := by decide +kernel
theorem dX12_names_32 : decode cX12_names 32 = .ok (.aload_n 0, 1) := by decide +kernel
theorem dX12_names_33 : decode cX12_names 33 = .ok (.getfield 162, 3) := by decide +kernel
theorem dX12_names_36 : decode cX12_names 36 = .ok (.getfield 189, 3) := by decide +kernel
theorem dX12_names_39 : decode cX12_names 39 = .ok (.aload_n 0, 1) := by decide +kernel
theorem dX12_names_40 : decode cX12_names 40 = .ok (.getfield 162, 3) := by decide +kernel
theorem dX12_names_43 : decode cX12_names 43 = .ok (.getfield 183, 3) := by decide +kernel
theorem dX12_names_46 : decode cX12_names 46 = .ok (.iload 4, 2) := by decide +kernel
theorem dX12_names_48 : decode cX12_names 48 = .ok (.iastore, 1) := by decide +kernel
theorem dX12_names_49 : decode cX12_names 49 = .ok (.aload_n 0, 1) := by decide +kernel
theorem dX12_names_50 : decode cX12_names 50 = .ok (.getfield 162, 3) := by decide +kernel
theorem dX12_names_53 : decode cX12_names 53 = .ok (.dup, 1) := by decide +kernel
theorem dX12_names_54 : decode cX12_names 54 = .ok (.getfield 183, 3) := by decide +kernel
theorem dX12_names_57 : decode cX12_names 57 = .ok (.iconst 1, 1) := by decide +kernel
theorem dX12_names_58 : decode cX12_names 58 = .ok (.iadd, 1) := by decide +kernel
theorem dX12_names_59 : decode cX12_names 59 = .ok (.putfield 183, 3) := by decide +kernel
theorem dX12_names_62 : decode cX12_names 62 = .ok (.return_, 1) := by decide +kernel
theorem dX12_knownOne_0 : decode cX12_knownOne 0 = .ok (.aload_n 0, 1) := by decide +kernel
theorem dX12_knownOne_1 : decode cX12_knownOne 1 = .ok (.invokevirtual 171, 3) := by decide +kernel
theorem dX12_knownOne_4 : decode cX12_knownOne 4 = .ok (.ifCond .ne 8, 3) := by decide +kernel
theorem dX12_knownOne_7 : decode cX12_knownOne 7 = .ok (.aload_n 0, 1) := by decide +kernel
theorem dX12_knownOne_8 : decode cX12_knownOne 8 = .ok (.iconst 1, 1) := by decide +kernel
theorem dX12_knownOne_9 : decode cX12_knownOne 9 = .ok (.invokevirtual 123, 3) := by decide +kernel
theorem dX12_knownOne_12 : decode cX12_knownOne 12 = .ok (.aload_n 0, 1) := by decide +kernel
theorem dX12_knownOne_13 : decode cX12_knownOne 13 = .ok (.getfield 162, 3) := by decide +kernel
theorem dX12_knownOne_16 : decode cX12_knownOne 16 = .ok (.aload_n 0, 1) := by decide +kernel
theorem dX12_knownOne_17 : decode cX12_knownOne 17 = .ok (.getfield 96, 3) := by decide +kernel
theorem dX12_knownOne_20 : decode cX12_knownOne 20 = .ok (.invokevirtual 175, 3) := by decide +kernel
theorem dX12_knownOne_23 : decode cX12_knownOne 23 = .ok (.istore_n 2, 1) := by decide +kernel
theorem dX12_knownOne_24 : decode cX12_knownOne 24 = .ok (.iload_n 2, 1) := by decide +kernel
theorem dX12_knownOne_25 : decode cX12_knownOne 25 = .ok (.iconst (-1), 1) := by decide +kernel
theorem dX12_knownOne_26 : decode cX12_knownOne 26 = .ok (.if_icmp .eq 16, 3) := by decide +kernel
theorem dX12_knownOne_29 : decode cX12_knownOne 29 = .ok (.aload_n 0, 1) := by decide +kernel
theorem dX12_knownOne_30 : decode cX12_knownOne 30 = .ok (.getfield 162, 3) := by decide +kernel
theorem dX12_knownOne_33 : decode cX12_knownOne 33 = .ok (.getfield 186, 3) := by decide +kernel
theorem dX12_knownOne_36 : decode cX12_knownOne 36 = .ok (.iload_n 2, 1) := by decide +kernel
theorem dX12_knownOne_37 : decode cX12_knownOne 37 = .ok (.iaload, 1) := by decide +kernel
theorem dX12_knownOne_38 : decode cX12_knownOne 38 = .ok (.iload_n 1, 1) := by decide +kernel
theorem dX12_knownOne_39 : decode cX12_knownOne 39 = .ok (.if_icmp .eq 8, 3) := by decide +kernel
theorem dX12_knownOne_42 : decode cX12_knownOne 42 = .ok (.aload_n 0, 1) := by decide +kernel
theorem dX12_knownOne_43 : decode cX12_knownOne 43 = .ok (.iconst 2, 1) := by decide +kernel
theorem dX12_knownOne_44 : decode cX12_knownOne 44 = .ok (.invokevirtual 123, 3) := by decide +kernel
theorem dX12_knownOne_47 : decode cX12_knownOne 47 = .ok (.aload_n 0, 1) := by decide +kernel
theorem dX12_knownOne_48 : decode cX12_knownOne 48 = .ok (.getfield 80, 3) := by decide +kernel
theorem dX12_knownOne_51 : decode cX12_knownOne 51 = .ok (.iconst 5, 1) := by decide +kernel
theorem dX12_knownOne_52 : decode cX12_knownOne 52 = .ok (.if_icmp .ne 7, 3) := by decide +kernel
theorem dX12_knownOne_55 : decode cX12_knownOne 55 = .ok (.iconst 0, 1) := by decide +kernel
theorem dX12_knownOne_56 : decode cX12_knownOne 56 = .ok (.goto 12, 3) := by decide +kernel
theorem dX12_knownOne_59 : decode cX12_knownOne 59 = .ok (.aload_n 0, 1) := by decide +kernel
theorem dX12_knownOne_60 : decode cX12_knownOne 60 = .ok (.getfield 162, 3) := by decide +kernel
theorem dX12_knownOne_63 : decode cX12_knownOne 63 = .ok (.getfield 189, 3) := by decide +kernel
theorem dX12_knownOne_66 : decode cX12_knownOne 66 = .ok (.iload_n 2, 1) := by decide +kernel
theorem dX12_knownOne_67 : decode cX12_knownOne 67 = .ok (.iaload, 1) := by decide +kernel
theorem dX12_knownOne_68 : decode cX12_knownOne 68 = .ok (.ireturn, 1) := by decide +kernel
theorem dX12_readKnown_0 : decode cX12_readKnown 0 = .ok (.aload_n 0, 1) := by decide +kernel
theorem dX12_readKnown_1 : decode cX12_readKnown 1 = .ok (.iload_n 1, 1) := by decide +kernel
theorem dX12_readKnown_2 : decode cX12_readKnown 2 = .ok (.invokevirtual 192, 3) := by decide +kernel
theorem dX12_readKnown_5 : decode cX12_readKnown 5 = .ok (.istore_n 2, 1) := by decide +kernel
theorem dX12_readKnown_6 : decode cX12_readKnown 6 = .ok (.aload_n 0, 1) := by decide +kernel
theorem dX12_readKnown_7 : decode cX12_readKnown 7 = .ok (.invokevirtual 116, 3) := by decide +kernel
theorem dX12_readKnown_10 : decode cX12_readKnown 10 = .ok (.iload_n 2, 1) := by decide +kernel
theorem dX12_readKnown_11 : decode cX12_readKnown 11 = .ok (.ireturn, 1) := by decide +kernel
theorem dX12_readAll_0 : decode cX12_readAll 0 = .ok (.iconst 1, 1) := by decide +kernel
theorem dX12_readAll_1 : decode cX12_readAll 1 = .ok (.istore_n 1, 1) := by decide +kernel
theorem dX12_readAll_2 : decode cX12_readAll 2 = .ok (.iload_n 1, 1) := by decide +kernel
theorem dX12_readAll_3 : decode cX12_readAll 3 = .ok (.ifCond .eq 15, 3) := by decide +kernel
theorem dX12_readAll_6 : decode cX12_readAll 6 = .ok (.aload_n 0, 1) := by decide +kernel
theorem dX12_readAll_7 : decode cX12_readAll 7 = .ok (.invokevirtual 195, 3) := by decide +kernel
theorem dX12_readAll_10 : decode cX12_readAll 10 = .ok (.aload_n 0, 1) := by decide +kernel
theorem dX12_readAll_11 : decode cX12_readAll 11 = .ok (.invokevirtual 198, 3) := by decide +kernel
theorem dX12_readAll_14 : decode cX12_readAll 14 = .ok (.istore_n 1, 1) := by decide +kernel
theorem dX12_readAll_15 : decode cX12_readAll 15 = .ok (.goto (-13), 3) := by decide +kernel
theorem dX12_readAll_18 : decode cX12_readAll 18 = .ok (.aload_n 0, 1) := by decide +kernel
theorem dX12_readAll_19 : decode cX12_readAll 19 = .ok (.getfield 80, 3) := by decide +kernel
theorem dX12_readAll_22 : decode cX12_readAll 22 = .ok (.iconst 1, 1) := by decide +kernel
theorem dX12_readAll_23 : decode cX12_readAll 23 = .ok (.if_icmp .eq 8, 3) := by decide +kernel
theorem dX12_readAll_26 : decode cX12_readAll 26 = .ok (.aload_n 0, 1) := by decide +kernel
theorem dX12_readAll_27 : decode cX12_readAll 27 = .ok (.iconst 1, 1) := by decide +kernel
theorem dX12_readAll_28 : decode cX12_readAll 28 = .ok (.invokevirtual 123, 3) := by decide +kernel
theorem dX12_readAll_31 : decode cX12_readAll 31 = .ok (.aload_n 0, 1) := by decide +kernel
theorem dX12_readAll_32 : decode cX12_readAll 32 = .ok (.getfield 162, 3) := by decide +kernel
theorem dX12_readAll_35 : decode cX12_readAll 35 = .ok (.getfield 201, 3) := by decide +kernel
theorem dX12_readAll_38 : decode cX12_readAll 38 = .ok (.ifCond .eq 23, 3) := by decide +kernel
theorem dX12_readAll_41 : decode cX12_readAll 41 = .ok (.aload_n 0, 1) := by decide +kernel
theorem dX12_readAll_42 : decode cX12_readAll 42 = .ok (.getfield 162, 3) := by decide +kernel
theorem dX12_readAll_45 : decode cX12_readAll 45 = .ok (.getfield 204, 3) := by decide +kernel
theorem dX12_readAll_48 : decode cX12_readAll 48 = .ok (.ifCond .eq 13, 3) := by decide +kernel
theorem dX12_readAll_51 : decode cX12_readAll 51 = .ok (.aload_n 0, 1) := by decide +kernel
theorem dX12_readAll_52 : decode cX12_readAll 52 = .ok (.getfield 162, 3) := by decide +kernel
theorem dX12_readAll_55 : decode cX12_readAll 55 = .ok (.getfield 207, 3) := by decide +kernel
theorem dX12_readAll_58 : decode cX12_readAll 58 = .ok (.ifCond .ne 9, 3) := by decide +kernel
theorem dX12_readAll_61 : decode cX12_readAll 61 = .ok (.aload_n 0, 1) := by decide +kernel
theorem dX12_readAll_62 : decode cX12_readAll 62 = .ok (.bipush 6, 2) := by decide +kernel
theorem dX12_readAll_64 : decode cX12_readAll 64 = .ok (.invokevirtual 123, 3) := by decide +kernel
theorem dX12_readAll_67 : decode cX12_readAll 67 = .ok (.return_, 1) := by decide +kernel
theorem dX12_readLine_0 : decode cX12_readLine 0 = .ok (.aload_n 0, 1) := by decide +kernel
theorem dX12_readLine_1 : decode cX12_readLine 1 = .ok (.ldc 142, 2) := by decide +kernel
theorem dX12_readLine_3 : decode cX12_readLine 3 = .ok (.invokevirtual 119, 3) := by decide +kernel
theorem dX12_readLine_6 : decode cX12_readLine 6 = .ok (.ifCond .eq 10, 3) := by decide +kernel
theorem dX12_readLine_9 : decode cX12_readLine 9 = .ok (.aload_n 0, 1) := by decide +kernel
theorem dX12_readLine_10 : decode cX12_readLine 10 = .ok (.invokevirtual 210, 3) := by decide +kernel
theorem dX12_readLine_13 : decode cX12_readLine 13 = .ok (.goto 168, 3) := by decide +kernel
theorem dX12_readLine_16 : decode cX12_readLine 16 = .ok (.aload_n 0, 1) := by decide +kernel
theorem dX12_readLine_17 : decode cX12_readLine 17 = .ok (.ldc 144, 2) := by decide +kernel
theorem dX12_readLine_19 : decode cX12_readLine 19 = .ok (.invokevirtual 119, 3) := by decide +kernel
theorem dX12_readLine_22 : decode cX12_readLine 22 = .ok (.ifCond .eq 10, 3) := by decide +kernel
theorem dX12_readLine_25 : decode cX12_readLine 25 = .ok (.aload_n 0, 1) := by decide +kernel
theorem dX12_readLine_26 : decode cX12_readLine 26 = .ok (.invokevirtual 213, 3) := by decide +kernel
theorem dX12_readLine_29 : decode cX12_readLine 29 = .ok (.goto 152, 3) := by decide +kernel
theorem dX12_readLine_32 : decode cX12_readLine 32 = .ok (.aload_n 0, 1) := by decide +kernel
theorem dX12_readLine_33 : decode cX12_readLine 33 = .ok (.ldc 146, 2) := by decide +kernel
theorem dX12_readLine_35 : decode cX12_readLine 35 = .ok (.invokevirtual 119, 3) := by decide +kernel
theorem dX12_readLine_38 : decode cX12_readLine 38 = .ok (.ifCond .eq 10, 3) := by decide +kernel
theorem dX12_readLine_41 : decode cX12_readLine 41 = .ok (.aload_n 0, 1) := by decide +kernel
theorem dX12_readLine_42 : decode cX12_readLine 42 = .ok (.invokevirtual 216, 3) := by decide +kernel
theorem dX12_readLine_45 : decode cX12_readLine 45 = .ok (.goto 136, 3) := by decide +kernel
theorem dX12_readLine_48 : decode cX12_readLine 48 = .ok (.aload_n 0, 1) := by decide +kernel
theorem dX12_readLine_49 : decode cX12_readLine 49 = .ok (.ldc 148, 2) := by decide +kernel
theorem dX12_readLine_51 : decode cX12_readLine 51 = .ok (.invokevirtual 119, 3) := by decide +kernel
theorem dX12_readLine_54 : decode cX12_readLine 54 = .ok (.ifCond .eq 10, 3) := by decide +kernel
theorem dX12_readLine_57 : decode cX12_readLine 57 = .ok (.aload_n 0, 1) := by decide +kernel
theorem dX12_readLine_58 : decode cX12_readLine 58 = .ok (.invokevirtual 219, 3) := by decide +kernel
theorem dX12_readLine_61 : decode cX12_readLine 61 = .ok (.goto 120, 3) := by decide +kernel
theorem dX12_readLine_64 : decode cX12_readLine 64 = .ok (.aload_n 0, 1) := by decide +kernel
theorem dX12_readLine_65 : decode cX12_readLine 65 = .ok (.ldc 150, 2) := by decide +kernel
theorem dX12_readLine_67 : decode cX12_readLine 67 = .ok (.invokevirtual 119, 3) := by decide +kernel
theorem dX12_readLine_70 : decode cX12_readLine 70 = .ok (.ifCond .eq 10, 3) := by decide +kernel
theorem dX12_readLine_73 : decode cX12_readLine 73 = .ok (.aload_n 0, 1) := by decide +kernel
theorem dX12_readLine_74 : decode cX12_readLine 74 = .ok (.invokevirtual 222, 3) := by decide +kernel
theorem dX12_readLine_77 : decode cX12_readLine 77 = .ok (.goto 104, 3) := by decide +kernel
theorem dX12_readLine_80 : decode cX12_readLine 80 = .ok (.aload_n 0, 1) := by decide +kernel
theorem dX12_readLine_81 : decode cX12_readLine 81 = .ok (.ldc 152, 2) := by decide +kernel
theorem dX12_readLine_83 : decode cX12_readLine 83 = .ok (.invokevirtual 119, 3) := by decide +kernel
theorem dX12_readLine_86 : decode cX12_readLine 86 = .ok (.ifCond .eq 18, 3) := by decide +kernel
theorem dX12_readLine_89 : decode cX12_readLine 89 = .ok (.aload_n 0, 1) := by decide +kernel
theorem dX12_readLine_90 : decode cX12_readLine 90 = .ok (.iconst 1, 1) := by decide +kernel
theorem dX12_readLine_91 : decode cX12_readLine 91 = .ok (.aload_n 0, 1) := by decide +kernel
theorem dX12_readLine_92 : decode cX12_readLine 92 = .ok (.getfield 162, 3) := by decide +kernel
theorem dX12_readLine_95 : decode cX12_readLine 95 = .ok (.getfield 225, 3) := by decide +kernel
theorem dX12_readLine_98 : decode cX12_readLine 98 = .ok (.invokevirtual 227, 3) := by decide +kernel
theorem dX12_readLine_101 : decode cX12_readLine 101 = .ok (.goto 80, 3) := by decide +kernel
theorem dX12_readLine_104 : decode cX12_readLine 104 = .ok (.aload_n 0, 1) := by decide +kernel
theorem dX12_readLine_105 : decode cX12_readLine 105 = .ok (.ldc 154, 2) := by decide +kernel
theorem dX12_readLine_107 : decode cX12_readLine 107 = .ok (.invokevirtual 119, 3) := by decide +kernel
theorem dX12_readLine_110 : decode cX12_readLine 110 = .ok (.ifCond .eq 18, 3) := by decide +kernel
theorem dX12_readLine_113 : decode cX12_readLine 113 = .ok (.aload_n 0, 1) := by decide +kernel
theorem dX12_readLine_114 : decode cX12_readLine 114 = .ok (.iconst 3, 1) := by decide +kernel
theorem dX12_readLine_115 : decode cX12_readLine 115 = .ok (.aload_n 0, 1) := by decide +kernel
theorem dX12_readLine_116 : decode cX12_readLine 116 = .ok (.getfield 162, 3) := by decide +kernel
theorem dX12_readLine_119 : decode cX12_readLine 119 = .ok (.getfield 231, 3) := by decide +kernel
theorem dX12_readLine_122 : decode cX12_readLine 122 = .ok (.invokevirtual 227, 3) := by decide +kernel
theorem dX12_readLine_125 : decode cX12_readLine 125 = .ok (.goto 56, 3) := by decide +kernel
theorem dX12_readLine_128 : decode cX12_readLine 128 = .ok (.aload_n 0, 1) := by decide +kernel
theorem dX12_readLine_129 : decode cX12_readLine 129 = .ok (.ldc 156, 2) := by decide +kernel
theorem dX12_readLine_131 : decode cX12_readLine 131 = .ok (.invokevirtual 119, 3) := by decide +kernel
theorem dX12_readLine_134 : decode cX12_readLine 134 = .ok (.ifCond .eq 10, 3) := by decide +kernel
theorem dX12_readLine_137 : decode cX12_readLine 137 = .ok (.aload_n 0, 1) := by decide +kernel
theorem dX12_readLine_138 : decode cX12_readLine 138 = .ok (.invokevirtual 233, 3) := by decide +kernel
theorem dX12_readLine_141 : decode cX12_readLine 141 = .ok (.goto 40, 3) := by decide +kernel
theorem dX12_readLine_144 : decode cX12_readLine 144 = .ok (.aload_n 0, 1) := by decide +kernel
theorem dX12_readLine_145 : decode cX12_readLine 145 = .ok (.ldc 158, 2) := by decide +kernel
theorem dX12_readLine_147 : decode cX12_readLine 147 = .ok (.invokevirtual 119, 3) := by decide +kernel
theorem dX12_readLine_150 : decode cX12_readLine 150 = .ok (.ifCond .eq 10, 3) := by decide +kernel
theorem dX12_readLine_153 : decode cX12_readLine 153 = .ok (.aload_n 0, 1) := by decide +kernel
theorem dX12_readLine_154 : decode cX12_readLine 154 = .ok (.invokevirtual 236, 3) := by decide +kernel
theorem dX12_readLine_157 : decode cX12_readLine 157 = .ok (.goto 24, 3) := by decide +kernel
theorem dX12_readLine_160 : decode cX12_readLine 160 = .ok (.aload_n 0, 1) := by decide +kernel
theorem dX12_readLine_161 : decode cX12_readLine 161 = .ok (.ldc 160, 2) := by decide +kernel
theorem dX12_readLine_163 : decode cX12_readLine 163 = .ok (.invokevirtual 119, 3) := by decide +kernel
theorem dX12_readLine_166 : decode cX12_readLine 166 = .ok (.ifCond .eq 10, 3) := by decide +kernel
theorem dX12_readLine_169 : decode cX12_readLine 169 = .ok (.aload_n 0, 1) := by decide +kernel
theorem dX12_readLine_170 : decode cX12_readLine 170 = .ok (.invokevirtual 239, 3) := by decide +kernel
theorem dX12_readLine_173 : decode cX12_readLine 173 = .ok (.goto 8, 3) := by decide +kernel
theorem dX12_readLine_176 : decode cX12_readLine 176 = .ok (.aload_n 0, 1) := by decide +kernel
theorem dX12_readLine_177 : decode cX12_readLine 177 = .ok (.iconst 1, 1) := by decide +kernel
theorem dX12_readLine_178 : decode cX12_readLine 178 = .ok (.invokevirtual 123, 3) := by decide +kernel
theorem dX12_readLine_181 : decode cX12_readLine 181 = .ok (.return_, 1) := by decide +kernel
theorem dX12_readCollege_0 : decode cX12_readCollege 0 = .ok (.aload_n 0, 1) := by decide +kernel
theorem dX12_readCollege_1 : decode cX12_readCollege 1 = .ok (.getfield 162, 3) := by decide +kernel
theorem dX12_readCollege_4 : decode cX12_readCollege 4 = .ok (.getfield 166, 3) := by decide +kernel
theorem dX12_readCollege_7 : decode cX12_readCollege 7 = .ok (.ifCond .le 8, 3) := by decide +kernel
theorem dX12_readCollege_10 : decode cX12_readCollege 10 = .ok (.aload_n 0, 1) := by decide +kernel
theorem dX12_readCollege_11 : decode cX12_readCollege 11 = .ok (.iconst 3, 1) := by decide +kernel
theorem dX12_readCollege_12 : decode cX12_readCollege 12 = .ok (.invokevirtual 123, 3) := by decide +kernel
theorem dX12_readCollege_15 : decode cX12_readCollege 15 = .ok (.aload_n 0, 1) := by decide +kernel
theorem dX12_readCollege_16 : decode cX12_readCollege 16 = .ok (.invokevirtual 116, 3) := by decide +kernel
theorem dX12_readCollege_19 : decode cX12_readCollege 19 = .ok (.aload_n 0, 1) := by decide +kernel
theorem dX12_readCollege_20 : decode cX12_readCollege 20 = .ok (.ldc 242, 2) := by decide +kernel
theorem dX12_readCollege_22 : decode cX12_readCollege 22 = .ok (.iconst 2, 1) := by decide +kernel
theorem dX12_readCollege_23 : decode cX12_readCollege 23 = .ok (.bipush 7, 2) := by decide +kernel
theorem dX12_readCollege_25 : decode cX12_readCollege 25 = .ok (.invokevirtual 243, 3) := by decide +kernel
theorem dX12_readCollege_28 : decode cX12_readCollege 28 = .ok (.istore_n 1, 1) := by decide +kernel
theorem dX12_readCollege_29 : decode cX12_readCollege 29 = .ok (.aload_n 0, 1) := by decide +kernel
theorem dX12_readCollege_30 : decode cX12_readCollege 30 = .ok (.ldc 247, 2) := by decide +kernel
theorem dX12_readCollege_32 : decode cX12_readCollege 32 = .ok (.iconst 0, 1) := by decide +kernel
theorem dX12_readCollege_33 : decode cX12_readCollege 33 = .ok (.bipush 100, 2) := by decide +kernel
theorem dX12_readCollege_35 : decode cX12_readCollege 35 = .ok (.invokevirtual 243, 3) := by decide +kernel
theorem dX12_readCollege_38 : decode cX12_readCollege 38 = .ok (.istore_n 2, 1) := by decide +kernel
theorem dX12_readCollege_39 : decode cX12_readCollege 39 = .ok (.aload_n 0, 1) := by decide +kernel
theorem dX12_readCollege_40 : decode cX12_readCollege 40 = .ok (.getfield 80, 3) := by decide +kernel
theorem dX12_readCollege_43 : decode cX12_readCollege 43 = .ok (.iconst 5, 1) := by decide +kernel
theorem dX12_readCollege_44 : decode cX12_readCollege 44 = .ok (.if_icmp .ne 4, 3) := by decide +kernel
theorem dX12_readCollege_47 : decode cX12_readCollege 47 = .ok (.return_, 1) := by decide +kernel
theorem dX12_readCollege_48 : decode cX12_readCollege 48 = .ok (.aload_n 0, 1) := by decide +kernel
theorem dX12_readCollege_49 : decode cX12_readCollege 49 = .ok (.getfield 162, 3) := by decide +kernel
theorem dX12_readCollege_52 : decode cX12_readCollege 52 = .ok (.iload_n 1, 1) := by decide +kernel
theorem dX12_readCollege_53 : decode cX12_readCollege 53 = .ok (.putfield 166, 3) := by decide +kernel
theorem dX12_readCollege_56 : decode cX12_readCollege 56 = .ok (.aload_n 0, 1) := by decide +kernel
theorem dX12_readCollege_57 : decode cX12_readCollege 57 = .ok (.getfield 162, 3) := by decide +kernel
theorem dX12_readCollege_60 : decode cX12_readCollege 60 = .ok (.iload_n 2, 1) := by decide +kernel
theorem dX12_readCollege_61 : decode cX12_readCollege 61 = .ok (.putfield 249, 3) := by decide +kernel
theorem dX12_readCollege_64 : decode cX12_readCollege 64 = .ok (.iconst 0, 1) := by decide +kernel
theorem dX12_readCollege_65 : decode cX12_readCollege 65 = .ok (.istore_n 3, 1) := by decide +kernel
theorem dX12_readCollege_66 : decode cX12_readCollege 66 = .ok (.iload_n 3, 1) := by decide +kernel
theorem dX12_readCollege_67 : decode cX12_readCollege 67 = .ok (.bipush 35, 2) := by decide +kernel
theorem dX12_readCollege_69 : decode cX12_readCollege 69 = .ok (.if_icmp .ge 20, 3) := by decide +kernel
theorem dX12_readCollege_72 : decode cX12_readCollege 72 = .ok (.aload_n 0, 1) := by decide +kernel
theorem dX12_readCollege_73 : decode cX12_readCollege 73 = .ok (.getfield 162, 3) := by decide +kernel
theorem dX12_readCollege_76 : decode cX12_readCollege 76 = .ok (.getfield 225, 3) := by decide +kernel
theorem dX12_readCollege_79 : decode cX12_readCollege 79 = .ok (.iload_n 3, 1) := by decide +kernel
theorem dX12_readCollege_80 : decode cX12_readCollege 80 = .ok (.bipush (-2), 2) := by decide +kernel
theorem dX12_readCollege_82 : decode cX12_readCollege 82 = .ok (.iastore, 1) := by decide +kernel
theorem dX12_readCollege_83 : decode cX12_readCollege 83 = .ok (.iinc 3 1, 3) := by decide +kernel
theorem dX12_readCollege_86 : decode cX12_readCollege 86 = .ok (.goto (-20), 3) := by decide +kernel
theorem dX12_readCollege_89 : decode cX12_readCollege 89 = .ok (.iconst 0, 1) := by decide +kernel
theorem dX12_readCollege_90 : decode cX12_readCollege 90 = .ok (.istore_n 3, 1) := by decide +kernel
theorem dX12_readCollege_91 : decode cX12_readCollege 91 = .ok (.iload_n 3, 1) := by decide +kernel
theorem dX12_readCollege_92 : decode cX12_readCollege 92 = .ok (.bipush 21, 2) := by decide +kernel
theorem dX12_readCollege_94 : decode cX12_readCollege 94 = .ok (.if_icmp .ge 20, 3) := by decide +kernel
theorem dX12_readCollege_97 : decode cX12_readCollege 97 = .ok (.aload_n 0, 1) := by decide +kernel
theorem dX12_readCollege_98 : decode cX12_readCollege 98 = .ok (.getfield 162, 3) := by decide +kernel
theorem dX12_readCollege_101 : decode cX12_readCollege 101 = .ok (.getfield 231, 3) := by decide +kernel
theorem dX12_readCollege_104 : decode cX12_readCollege 104 = .ok (.iload_n 3, 1) := by decide +kernel
theorem dX12_readCollege_105 : decode cX12_readCollege 105 = .ok (.bipush (-2), 2) := by decide +kernel
theorem dX12_readCollege_107 : decode cX12_readCollege 107 = .ok (.iastore, 1) := by decide +kernel
theorem dX12_readCollege_108 : decode cX12_readCollege 108 = .ok (.iinc 3 1, 3) := by decide +kernel
theorem dX12_readCollege_111 : decode cX12_readCollege 111 = .ok (.goto (-20), 3) := by decide +kernel
theorem dX12_readCollege_114 : decode cX12_readCollege 114 = .ok (.iconst 0, 1) := by decide +kernel
theorem dX12_readCollege_115 : decode cX12_readCollege 115 = .ok (.istore_n 3, 1) := by decide +kernel
theorem dX12_readCollege_116 : decode cX12_readCollege 116 = .ok (.iload_n 3, 1) := by decide +kernel
theorem dX12_readCollege_117 : decode cX12_readCollege 117 = .ok (.iconst 4, 1) := by decide +kernel
theorem dX12_readCollege_118 : decode cX12_readCollege 118 = .ok (.if_icmp .ge 20, 3) := by decide +kernel
theorem dX12_readCollege_121 : decode cX12_readCollege 121 = .ok (.aload_n 0, 1) := by decide +kernel
theorem dX12_readCollege_122 : decode cX12_readCollege 122 = .ok (.getfield 162, 3) := by decide +kernel
theorem dX12_readCollege_125 : decode cX12_readCollege 125 = .ok (.getfield 251, 3) := by decide +kernel
theorem dX12_readCollege_128 : decode cX12_readCollege 128 = .ok (.iload_n 3, 1) := by decide +kernel
theorem dX12_readCollege_129 : decode cX12_readCollege 129 = .ok (.bipush (-2), 2) := by decide +kernel
theorem dX12_readCollege_131 : decode cX12_readCollege 131 = .ok (.iastore, 1) := by decide +kernel
theorem dX12_readCollege_132 : decode cX12_readCollege 132 = .ok (.iinc 3 1, 3) := by decide +kernel
theorem dX12_readCollege_135 : decode cX12_readCollege 135 = .ok (.goto (-19), 3) := by decide +kernel
theorem dX12_readCollege_138 : decode cX12_readCollege 138 = .ok (.return_, 1) := by decide +kernel
theorem dX12_readThing_0 : decode cX12_readThing 0 = .ok (.aload_n 0, 1) := by decide +kernel
theorem dX12_readThing_1 : decode cX12_readThing 1 = .ok (.aload_n 0, 1) := by decide +kernel
theorem dX12_readThing_2 : decode cX12_readThing 2 = .ok (.getfield 162, 3) := by decide +kernel
theorem dX12_readThing_5 : decode cX12_readThing 5 = .ok (.getfield 201, 3) := by decide +kernel
theorem dX12_readThing_8 : decode cX12_readThing 8 = .ok (.iconst 4, 1) := by decide +kernel
theorem dX12_readThing_9 : decode cX12_readThing 9 = .ok (.invokevirtual 254, 3) := by decide +kernel
theorem dX12_readThing_12 : decode cX12_readThing 12 = .ok (.aload_n 0, 1) := by decide +kernel
theorem dX12_readThing_13 : decode cX12_readThing 13 = .ok (.invokevirtual 258, 3) := by decide +kernel
theorem dX12_readThing_16 : decode cX12_readThing 16 = .ok (.lstore_n 1, 1) := by decide +kernel
theorem dX12_readThing_17 : decode cX12_readThing 17 = .ok (.aload_n 0, 1) := by decide +kernel
theorem dX12_readThing_18 : decode cX12_readThing 18 = .ok (.ldc_w 262, 3) := by decide +kernel
theorem dX12_readThing_21 : decode cX12_readThing 21 = .ok (.invokevirtual 119, 3) := by decide +kernel
theorem dX12_readThing_24 : decode cX12_readThing 24 = .ok (.ifCond .eq 7, 3) := by decide +kernel
theorem dX12_readThing_27 : decode cX12_readThing 27 = .ok (.iconst 0, 1) := by decide +kernel
theorem dX12_readThing_28 : decode cX12_readThing 28 = .ok (.goto 32, 3) := by decide +kernel
theorem dX12_readThing_31 : decode cX12_readThing 31 = .ok (.aload_n 0, 1) := by decide +kernel
theorem dX12_readThing_32 : decode cX12_readThing 32 = .ok (.ldc_w 264, 3) := by decide +kernel
theorem dX12_readThing_35 : decode cX12_readThing 35 = .ok (.invokevirtual 119, 3) := by decide +kernel
theorem dX12_readThing_38 : decode cX12_readThing 38 = .ok (.ifCond .eq 7, 3) := by decide +kernel
theorem dX12_readThing_41 : decode cX12_readThing 41 = .ok (.iconst 1, 1) := by decide +kernel
theorem dX12_readThing_42 : decode cX12_readThing 42 = .ok (.goto 18, 3) := by decide +kernel
theorem dX12_readThing_45 : decode cX12_readThing 45 = .ok (.aload_n 0, 1) := by decide +kernel
theorem dX12_readThing_46 : decode cX12_readThing 46 = .ok (.ldc_w 266, 3) := by decide +kernel
theorem dX12_readThing_49 : decode cX12_readThing 49 = .ok (.invokevirtual 119, 3) := by decide +kernel
theorem dX12_readThing_52 : decode cX12_readThing 52 = .ok (.ifCond .eq 7, 3) := by decide +kernel
theorem dX12_readThing_55 : decode cX12_readThing 55 = .ok (.iconst 2, 1) := by decide +kernel
theorem dX12_readThing_56 : decode cX12_readThing 56 = .ok (.goto 4, 3) := by decide +kernel
theorem dX12_readThing_59 : decode cX12_readThing 59 = .ok (.iconst (-1), 1) := by decide +kernel
theorem dX12_readThing_60 : decode cX12_readThing 60 = .ok (.istore_n 3, 1) := by decide +kernel
theorem dX12_readThing_61 : decode cX12_readThing 61 = .ok (.iload_n 3, 1) := by decide +kernel
theorem dX12_readThing_62 : decode cX12_readThing 62 = .ok (.iconst (-1), 1) := by decide +kernel
theorem dX12_readThing_63 : decode cX12_readThing 63 = .ok (.if_icmp .ne 8, 3) := by decide +kernel
theorem dX12_readThing_66 : decode cX12_readThing 66 = .ok (.aload_n 0, 1) := by decide +kernel
theorem dX12_readThing_67 : decode cX12_readThing 67 = .ok (.iconst 1, 1) := by decide +kernel
theorem dX12_readThing_68 : decode cX12_readThing 68 = .ok (.invokevirtual 123, 3) := by decide +kernel
theorem dX12_readThing_71 : decode cX12_readThing 71 = .ok (.aload_n 0, 1) := by decide +kernel
theorem dX12_readThing_72 : decode cX12_readThing 72 = .ok (.invokevirtual 116, 3) := by decide +kernel
theorem dX12_readThing_75 : decode cX12_readThing 75 = .ok (.aload_n 0, 1) := by decide +kernel
theorem dX12_readThing_76 : decode cX12_readThing 76 = .ok (.ldc_w 268, 3) := by decide +kernel
theorem dX12_readThing_79 : decode cX12_readThing 79 = .ok (.iconst 0, 1) := by decide +kernel
theorem dX12_readThing_80 : decode cX12_readThing 80 = .ok (.bipush 50, 2) := by decide +kernel
theorem dX12_readThing_82 : decode cX12_readThing 82 = .ok (.invokevirtual 243, 3) := by decide +kernel
theorem dX12_readThing_85 : decode cX12_readThing 85 = .ok (.istore 4, 2) := by decide +kernel
theorem dX12_readThing_87 : decode cX12_readThing 87 = .ok (.aload_n 0, 1) := by decide +kernel
theorem dX12_readThing_88 : decode cX12_readThing 88 = .ok (.getfield 80, 3) := by decide +kernel
theorem dX12_readThing_91 : decode cX12_readThing 91 = .ok (.iconst 5, 1) := by decide +kernel
theorem dX12_readThing_92 : decode cX12_readThing 92 = .ok (.if_icmp .ne 4, 3) := by decide +kernel
theorem dX12_readThing_95 : decode cX12_readThing 95 = .ok (.return_, 1) := by decide +kernel
theorem dX12_readThing_96 : decode cX12_readThing 96 = .ok (.aload_n 0, 1) := by decide +kernel
theorem dX12_readThing_97 : decode cX12_readThing 97 = .ok (.lload_n 1, 1) := by decide +kernel
theorem dX12_readThing_98 : decode cX12_readThing 98 = .ok (.iconst 0, 1) := by decide +kernel
theorem dX12_readThing_99 : decode cX12_readThing 99 = .ok (.aload_n 0, 1) := by decide +kernel
theorem dX12_readThing_100 : decode cX12_readThing 100 = .ok (.getfield 162, 3) := by decide +kernel
theorem dX12_readThing_103 : decode cX12_readThing 103 = .ok (.getfield 201, 3) := by decide +kernel
theorem dX12_readThing_106 : decode cX12_readThing 106 = .ok (.invokevirtual 270, 3) := by decide +kernel
theorem dX12_readThing_109 : decode cX12_readThing 109 = .ok (.aload_n 0, 1) := by decide +kernel
theorem dX12_readThing_110 : decode cX12_readThing 110 = .ok (.getfield 162, 3) := by decide +kernel
theorem dX12_readThing_113 : decode cX12_readThing 113 = .ok (.getfield 273, 3) := by decide +kernel
theorem dX12_readThing_116 : decode cX12_readThing 116 = .ok (.aload_n 0, 1) := by decide +kernel
theorem dX12_readThing_117 : decode cX12_readThing 117 = .ok (.getfield 162, 3) := by decide +kernel
theorem dX12_readThing_120 : decode cX12_readThing 120 = .ok (.getfield 201, 3) := by decide +kernel
theorem dX12_readThing_123 : decode cX12_readThing 123 = .ok (.iload_n 3, 1) := by decide +kernel
theorem dX12_readThing_124 : decode cX12_readThing 124 = .ok (.iastore, 1) := by decide +kernel
theorem dX12_readThing_125 : decode cX12_readThing 125 = .ok (.aload_n 0, 1) := by decide +kernel
theorem dX12_readThing_126 : decode cX12_readThing 126 = .ok (.getfield 162, 3) := by decide +kernel
theorem dX12_readThing_129 : decode cX12_readThing 129 = .ok (.getfield 276, 3) := by decide +kernel
theorem dX12_readThing_132 : decode cX12_readThing 132 = .ok (.aload_n 0, 1) := by decide +kernel
theorem dX12_readThing_133 : decode cX12_readThing 133 = .ok (.getfield 162, 3) := by decide +kernel
theorem dX12_readThing_136 : decode cX12_readThing 136 = .ok (.getfield 201, 3) := by decide +kernel
theorem dX12_readThing_139 : decode cX12_readThing 139 = .ok (.iload 4, 2) := by decide +kernel
theorem dX12_readThing_141 : decode cX12_readThing 141 = .ok (.iastore, 1) := by decide +kernel
theorem dX12_readThing_142 : decode cX12_readThing 142 = .ok (.aload_n 0, 1) := by decide +kernel
theorem dX12_readThing_143 : decode cX12_readThing 143 = .ok (.getfield 162, 3) := by decide +kernel
theorem dX12_readThing_146 : decode cX12_readThing 146 = .ok (.dup, 1) := by decide +kernel
theorem dX12_readThing_147 : decode cX12_readThing 147 = .ok (.getfield 201, 3) := by decide +kernel
theorem dX12_readThing_150 : decode cX12_readThing 150 = .ok (.iconst 1, 1) := by decide +kernel
theorem dX12_readThing_151 : decode cX12_readThing 151 = .ok (.iadd, 1) := by decide +kernel
theorem dX12_readThing_152 : decode cX12_readThing 152 = .ok (.putfield 201, 3) := by decide +kernel
theorem dX12_readThing_155 : decode cX12_readThing 155 = .ok (.return_, 1) := by decide +kernel
theorem dX12_readPersonLine_0 : decode cX12_readPersonLine 0 = .ok (.aload_n 0, 1) := by decide +kernel
theorem dX12_readPersonLine_1 : decode cX12_readPersonLine 1 = .ok (.aload_n 0, 1) := by decide +kernel
theorem dX12_readPersonLine_2 : decode cX12_readPersonLine 2 = .ok (.getfield 162, 3) := by decide +kernel
theorem dX12_readPersonLine_5 : decode cX12_readPersonLine 5 = .ok (.getfield 204, 3) := by decide +kernel
theorem dX12_readPersonLine_8 : decode cX12_readPersonLine 8 = .ok (.iconst 5, 1) := by decide +kernel
theorem dX12_readPersonLine_9 : decode cX12_readPersonLine 9 = .ok (.invokevirtual 254, 3) := by decide +kernel
theorem dX12_readPersonLine_12 : decode cX12_readPersonLine 12 = .ok (.aload_n 0, 1) := by decide +kernel
theorem dX12_readPersonLine_13 : decode cX12_readPersonLine 13 = .ok (.invokevirtual 258, 3) := by decide +kernel
theorem dX12_readPersonLine_16 : decode cX12_readPersonLine 16 = .ok (.lstore_n 1, 1) := by decide +kernel
theorem dX12_readPersonLine_17 : decode cX12_readPersonLine 17 = .ok (.aload_n 0, 1) := by decide +kernel
theorem dX12_readPersonLine_18 : decode cX12_readPersonLine 18 = .ok (.ldc_w 278, 3) := by decide +kernel
theorem dX12_readPersonLine_21 : decode cX12_readPersonLine 21 = .ok (.invokevirtual 119, 3) := by decide +kernel
theorem dX12_readPersonLine_24 : decode cX12_readPersonLine 24 = .ok (.ifCond .eq 7, 3) := by decide +kernel
theorem dX12_readPersonLine_27 : decode cX12_readPersonLine 27 = .ok (.iconst 0, 1) := by decide +kernel
theorem dX12_readPersonLine_28 : decode cX12_readPersonLine 28 = .ok (.goto 46, 3) := by decide +kernel
theorem dX12_readPersonLine_31 : decode cX12_readPersonLine 31 = .ok (.aload_n 0, 1) := by decide +kernel
theorem dX12_readPersonLine_32 : decode cX12_readPersonLine 32 = .ok (.ldc_w 280, 3) := by decide +kernel
theorem dX12_readPersonLine_35 : decode cX12_readPersonLine 35 = .ok (.invokevirtual 119, 3) := by decide +kernel
theorem dX12_readPersonLine_38 : decode cX12_readPersonLine 38 = .ok (.ifCond .eq 7, 3) := by decide +kernel
theorem dX12_readPersonLine_41 : decode cX12_readPersonLine 41 = .ok (.iconst 1, 1) := by decide +kernel
theorem dX12_readPersonLine_42 : decode cX12_readPersonLine 42 = .ok (.goto 32, 3) := by decide +kernel
theorem dX12_readPersonLine_45 : decode cX12_readPersonLine 45 = .ok (.aload_n 0, 1) := by decide +kernel
theorem dX12_readPersonLine_46 : decode cX12_readPersonLine 46 = .ok (.ldc_w 282, 3) := by decide +kernel
theorem dX12_readPersonLine_49 : decode cX12_readPersonLine 49 = .ok (.invokevirtual 119, 3) := by decide +kernel
theorem dX12_readPersonLine_52 : decode cX12_readPersonLine 52 = .ok (.ifCond .eq 7, 3) := by decide +kernel
theorem dX12_readPersonLine_55 : decode cX12_readPersonLine 55 = .ok (.iconst 2, 1) := by decide +kernel
theorem dX12_readPersonLine_56 : decode cX12_readPersonLine 56 = .ok (.goto 18, 3) := by decide +kernel
theorem dX12_readPersonLine_59 : decode cX12_readPersonLine 59 = .ok (.aload_n 0, 1) := by decide +kernel
theorem dX12_readPersonLine_60 : decode cX12_readPersonLine 60 = .ok (.ldc_w 284, 3) := by decide +kernel
theorem dX12_readPersonLine_63 : decode cX12_readPersonLine 63 = .ok (.invokevirtual 119, 3) := by decide +kernel
theorem dX12_readPersonLine_66 : decode cX12_readPersonLine 66 = .ok (.ifCond .eq 7, 3) := by decide +kernel
theorem dX12_readPersonLine_69 : decode cX12_readPersonLine 69 = .ok (.iconst 3, 1) := by decide +kernel
theorem dX12_readPersonLine_70 : decode cX12_readPersonLine 70 = .ok (.goto 4, 3) := by decide +kernel
theorem dX12_readPersonLine_73 : decode cX12_readPersonLine 73 = .ok (.iconst (-1), 1) := by decide +kernel
theorem dX12_readPersonLine_74 : decode cX12_readPersonLine 74 = .ok (.istore_n 3, 1) := by decide +kernel
theorem dX12_readPersonLine_75 : decode cX12_readPersonLine 75 = .ok (.iload_n 3, 1) := by decide +kernel
theorem dX12_readPersonLine_76 : decode cX12_readPersonLine 76 = .ok (.iconst (-1), 1) := by decide +kernel
theorem dX12_readPersonLine_77 : decode cX12_readPersonLine 77 = .ok (.if_icmp .ne 8, 3) := by decide +kernel
theorem dX12_readPersonLine_80 : decode cX12_readPersonLine 80 = .ok (.aload_n 0, 1) := by decide +kernel
theorem dX12_readPersonLine_81 : decode cX12_readPersonLine 81 = .ok (.iconst 1, 1) := by decide +kernel
theorem dX12_readPersonLine_82 : decode cX12_readPersonLine 82 = .ok (.invokevirtual 123, 3) := by decide +kernel
theorem dX12_readPersonLine_85 : decode cX12_readPersonLine 85 = .ok (.aload_n 0, 1) := by decide +kernel
theorem dX12_readPersonLine_86 : decode cX12_readPersonLine 86 = .ok (.invokevirtual 116, 3) := by decide +kernel
theorem dX12_readPersonLine_89 : decode cX12_readPersonLine 89 = .ok (.aload_n 0, 1) := by decide +kernel
theorem dX12_readPersonLine_90 : decode cX12_readPersonLine 90 = .ok (.ldc_w 286, 3) := by decide +kernel
theorem dX12_readPersonLine_93 : decode cX12_readPersonLine 93 = .ok (.iconst 0, 1) := by decide +kernel
theorem dX12_readPersonLine_94 : decode cX12_readPersonLine 94 = .ok (.bipush 9, 2) := by decide +kernel
theorem dX12_readPersonLine_96 : decode cX12_readPersonLine 96 = .ok (.invokevirtual 243, 3) := by decide +kernel
theorem dX12_readPersonLine_99 : decode cX12_readPersonLine 99 = .ok (.istore 4, 2) := by decide +kernel
theorem dX12_readPersonLine_101 : decode cX12_readPersonLine 101 = .ok (.aload_n 0, 1) := by decide +kernel
theorem dX12_readPersonLine_102 : decode cX12_readPersonLine 102 = .ok (.ldc_w 288, 3) := by decide +kernel
theorem dX12_readPersonLine_105 : decode cX12_readPersonLine 105 = .ok (.iconst 0, 1) := by decide +kernel
theorem dX12_readPersonLine_106 : decode cX12_readPersonLine 106 = .ok (.bipush 99, 2) := by decide +kernel
theorem dX12_readPersonLine_108 : decode cX12_readPersonLine 108 = .ok (.invokevirtual 243, 3) := by decide +kernel
theorem dX12_readPersonLine_111 : decode cX12_readPersonLine 111 = .ok (.istore 5, 2) := by decide +kernel
theorem dX12_readPersonLine_113 : decode cX12_readPersonLine 113 = .ok (.aload_n 0, 1) := by decide +kernel
theorem dX12_readPersonLine_114 : decode cX12_readPersonLine 114 = .ok (.getfield 80, 3) := by decide +kernel
theorem dX12_readPersonLine_117 : decode cX12_readPersonLine 117 = .ok (.iconst 5, 1) := by decide +kernel
theorem dX12_readPersonLine_118 : decode cX12_readPersonLine 118 = .ok (.if_icmp .ne 4, 3) := by decide +kernel
theorem dX12_readPersonLine_121 : decode cX12_readPersonLine 121 = .ok (.return_, 1) := by decide +kernel
theorem dX12_readPersonLine_122 : decode cX12_readPersonLine 122 = .ok (.aload_n 0, 1) := by decide +kernel
theorem dX12_readPersonLine_123 : decode cX12_readPersonLine 123 = .ok (.lload_n 1, 1) := by decide +kernel
theorem dX12_readPersonLine_124 : decode cX12_readPersonLine 124 = .ok (.iconst 1, 1) := by decide +kernel
theorem dX12_readPersonLine_125 : decode cX12_readPersonLine 125 = .ok (.aload_n 0, 1) := by decide +kernel
theorem dX12_readPersonLine_126 : decode cX12_readPersonLine 126 = .ok (.getfield 162, 3) := by decide +kernel
theorem dX12_readPersonLine_129 : decode cX12_readPersonLine 129 = .ok (.getfield 204, 3) := by decide +kernel
theorem dX12_readPersonLine_132 : decode cX12_readPersonLine 132 = .ok (.invokevirtual 270, 3) := by decide +kernel
theorem dX12_readPersonLine_135 : decode cX12_readPersonLine 135 = .ok (.aload_n 0, 1) := by decide +kernel
theorem dX12_readPersonLine_136 : decode cX12_readPersonLine 136 = .ok (.getfield 162, 3) := by decide +kernel
theorem dX12_readPersonLine_139 : decode cX12_readPersonLine 139 = .ok (.getfield 290, 3) := by decide +kernel
theorem dX12_readPersonLine_142 : decode cX12_readPersonLine 142 = .ok (.aload_n 0, 1) := by decide +kernel
theorem dX12_readPersonLine_143 : decode cX12_readPersonLine 143 = .ok (.getfield 162, 3) := by decide +kernel
theorem dX12_readPersonLine_146 : decode cX12_readPersonLine 146 = .ok (.getfield 204, 3) := by decide +kernel
theorem dX12_readPersonLine_149 : decode cX12_readPersonLine 149 = .ok (.iload_n 3, 1) := by decide +kernel
theorem dX12_readPersonLine_150 : decode cX12_readPersonLine 150 = .ok (.iastore, 1) := by decide +kernel
theorem dX12_readPersonLine_151 : decode cX12_readPersonLine 151 = .ok (.aload_n 0, 1) := by decide +kernel
theorem dX12_readPersonLine_152 : decode cX12_readPersonLine 152 = .ok (.getfield 162, 3) := by decide +kernel
theorem dX12_readPersonLine_155 : decode cX12_readPersonLine 155 = .ok (.getfield 293, 3) := by decide +kernel
theorem dX12_readPersonLine_158 : decode cX12_readPersonLine 158 = .ok (.aload_n 0, 1) := by decide +kernel
theorem dX12_readPersonLine_159 : decode cX12_readPersonLine 159 = .ok (.getfield 162, 3) := by decide +kernel
theorem dX12_readPersonLine_162 : decode cX12_readPersonLine 162 = .ok (.getfield 204, 3) := by decide +kernel
theorem dX12_readPersonLine_165 : decode cX12_readPersonLine 165 = .ok (.iload 4, 2) := by decide +kernel
theorem dX12_readPersonLine_167 : decode cX12_readPersonLine 167 = .ok (.iastore, 1) := by decide +kernel
theorem dX12_readPersonLine_168 : decode cX12_readPersonLine 168 = .ok (.aload_n 0, 1) := by decide +kernel
theorem dX12_readPersonLine_169 : decode cX12_readPersonLine 169 = .ok (.getfield 162, 3) := by decide +kernel
theorem dX12_readPersonLine_172 : decode cX12_readPersonLine 172 = .ok (.getfield 295, 3) := by decide +kernel
theorem dX12_readPersonLine_175 : decode cX12_readPersonLine 175 = .ok (.aload_n 0, 1) := by decide +kernel
theorem dX12_readPersonLine_176 : decode cX12_readPersonLine 176 = .ok (.getfield 162, 3) := by decide +kernel
theorem dX12_readPersonLine_179 : decode cX12_readPersonLine 179 = .ok (.getfield 204, 3) := by decide +kernel
theorem dX12_readPersonLine_182 : decode cX12_readPersonLine 182 = .ok (.iload 5, 2) := by decide +kernel
theorem dX12_readPersonLine_184 : decode cX12_readPersonLine 184 = .ok (.iastore, 1) := by decide +kernel
theorem dX12_readPersonLine_185 : decode cX12_readPersonLine 185 = .ok (.aload_n 0, 1) := by decide +kernel
theorem dX12_readPersonLine_186 : decode cX12_readPersonLine 186 = .ok (.getfield 162, 3) := by decide +kernel
theorem dX12_readPersonLine_189 : decode cX12_readPersonLine 189 = .ok (.dup, 1) := by decide +kernel
theorem dX12_readPersonLine_190 : decode cX12_readPersonLine 190 = .ok (.getfield 204, 3) := by decide +kernel
theorem dX12_readPersonLine_193 : decode cX12_readPersonLine 193 = .ok (.iconst 1, 1) := by decide +kernel
theorem dX12_readPersonLine_194 : decode cX12_readPersonLine 194 = .ok (.iadd, 1) := by decide +kernel
theorem dX12_readPersonLine_195 : decode cX12_readPersonLine 195 = .ok (.putfield 204, 3) := by decide +kernel
theorem dX12_readPersonLine_198 : decode cX12_readPersonLine 198 = .ok (.return_, 1) := by decide +kernel
theorem dX12_readTram_0 : decode cX12_readTram 0 = .ok (.aload_n 0, 1) := by decide +kernel
theorem dX12_readTram_1 : decode cX12_readTram 1 = .ok (.aload_n 0, 1) := by decide +kernel
theorem dX12_readTram_2 : decode cX12_readTram 2 = .ok (.getfield 162, 3) := by decide +kernel
theorem dX12_readTram_5 : decode cX12_readTram 5 = .ok (.getfield 297, 3) := by decide +kernel
theorem dX12_readTram_8 : decode cX12_readTram 8 = .ok (.iconst 4, 1) := by decide +kernel
theorem dX12_readTram_9 : decode cX12_readTram 9 = .ok (.invokevirtual 254, 3) := by decide +kernel
theorem dX12_readTram_12 : decode cX12_readTram 12 = .ok (.aload_n 0, 1) := by decide +kernel
theorem dX12_readTram_13 : decode cX12_readTram 13 = .ok (.invokevirtual 258, 3) := by decide +kernel
theorem dX12_readTram_16 : decode cX12_readTram 16 = .ok (.lstore_n 1, 1) := by decide +kernel
theorem dX12_readTram_17 : decode cX12_readTram 17 = .ok (.aload_n 0, 1) := by decide +kernel
theorem dX12_readTram_18 : decode cX12_readTram 18 = .ok (.ldc_w 300, 3) := by decide +kernel
theorem dX12_readTram_21 : decode cX12_readTram 21 = .ok (.iconst 0, 1) := by decide +kernel
theorem dX12_readTram_22 : decode cX12_readTram 22 = .ok (.bipush 60, 2) := by decide +kernel
theorem dX12_readTram_24 : decode cX12_readTram 24 = .ok (.invokevirtual 243, 3) := by decide +kernel
theorem dX12_readTram_27 : decode cX12_readTram 27 = .ok (.istore_n 3, 1) := by decide +kernel
theorem dX12_readTram_28 : decode cX12_readTram 28 = .ok (.aload_n 0, 1) := by decide +kernel
theorem dX12_readTram_29 : decode cX12_readTram 29 = .ok (.ldc_w 302, 3) := by decide +kernel
theorem dX12_readTram_32 : decode cX12_readTram 32 = .ok (.iconst 1, 1) := by decide +kernel
theorem dX12_readTram_33 : decode cX12_readTram 33 = .ok (.bipush 60, 2) := by decide +kernel
theorem dX12_readTram_35 : decode cX12_readTram 35 = .ok (.invokevirtual 243, 3) := by decide +kernel
theorem dX12_readTram_38 : decode cX12_readTram 38 = .ok (.istore 4, 2) := by decide +kernel
theorem dX12_readTram_40 : decode cX12_readTram 40 = .ok (.aload_n 0, 1) := by decide +kernel
theorem dX12_readTram_41 : decode cX12_readTram 41 = .ok (.getfield 80, 3) := by decide +kernel
theorem dX12_readTram_44 : decode cX12_readTram 44 = .ok (.iconst 5, 1) := by decide +kernel
theorem dX12_readTram_45 : decode cX12_readTram 45 = .ok (.if_icmp .ne 4, 3) := by decide +kernel
theorem dX12_readTram_48 : decode cX12_readTram 48 = .ok (.return_, 1) := by decide +kernel
theorem dX12_readTram_49 : decode cX12_readTram 49 = .ok (.aload_n 0, 1) := by decide +kernel
theorem dX12_readTram_50 : decode cX12_readTram 50 = .ok (.lload_n 1, 1) := by decide +kernel
theorem dX12_readTram_51 : decode cX12_readTram 51 = .ok (.iconst 2, 1) := by decide +kernel
theorem dX12_readTram_52 : decode cX12_readTram 52 = .ok (.aload_n 0, 1) := by decide +kernel
theorem dX12_readTram_53 : decode cX12_readTram 53 = .ok (.getfield 162, 3) := by decide +kernel
theorem dX12_readTram_56 : decode cX12_readTram 56 = .ok (.getfield 297, 3) := by decide +kernel
theorem dX12_readTram_59 : decode cX12_readTram 59 = .ok (.invokevirtual 270, 3) := by decide +kernel
theorem dX12_readTram_62 : decode cX12_readTram 62 = .ok (.aload_n 0, 1) := by decide +kernel
theorem dX12_readTram_63 : decode cX12_readTram 63 = .ok (.getfield 162, 3) := by decide +kernel
theorem dX12_readTram_66 : decode cX12_readTram 66 = .ok (.getfield 304, 3) := by decide +kernel
theorem dX12_readTram_69 : decode cX12_readTram 69 = .ok (.aload_n 0, 1) := by decide +kernel
theorem dX12_readTram_70 : decode cX12_readTram 70 = .ok (.getfield 162, 3) := by decide +kernel
theorem dX12_readTram_73 : decode cX12_readTram 73 = .ok (.getfield 297, 3) := by decide +kernel
theorem dX12_readTram_76 : decode cX12_readTram 76 = .ok (.iload_n 3, 1) := by decide +kernel
theorem dX12_readTram_77 : decode cX12_readTram 77 = .ok (.iastore, 1) := by decide +kernel
theorem dX12_readTram_78 : decode cX12_readTram 78 = .ok (.aload_n 0, 1) := by decide +kernel
theorem dX12_readTram_79 : decode cX12_readTram 79 = .ok (.getfield 162, 3) := by decide +kernel
theorem dX12_readTram_82 : decode cX12_readTram 82 = .ok (.getfield 306, 3) := by decide +kernel
theorem dX12_readTram_85 : decode cX12_readTram 85 = .ok (.aload_n 0, 1) := by decide +kernel
theorem dX12_readTram_86 : decode cX12_readTram 86 = .ok (.getfield 162, 3) := by decide +kernel
theorem dX12_readTram_89 : decode cX12_readTram 89 = .ok (.getfield 297, 3) := by decide +kernel
theorem dX12_readTram_92 : decode cX12_readTram 92 = .ok (.iload 4, 2) := by decide +kernel
theorem dX12_readTram_94 : decode cX12_readTram 94 = .ok (.iastore, 1) := by decide +kernel
theorem dX12_readTram_95 : decode cX12_readTram 95 = .ok (.aload_n 0, 1) := by decide +kernel
theorem dX12_readTram_96 : decode cX12_readTram 96 = .ok (.getfield 162, 3) := by decide +kernel
theorem dX12_readTram_99 : decode cX12_readTram 99 = .ok (.dup, 1) := by decide +kernel
theorem dX12_readTram_100 : decode cX12_readTram 100 = .ok (.getfield 297, 3) := by decide +kernel
theorem dX12_readTram_103 : decode cX12_readTram 103 = .ok (.iconst 1, 1) := by decide +kernel
theorem dX12_readTram_104 : decode cX12_readTram 104 = .ok (.iadd, 1) := by decide +kernel
theorem dX12_readTram_105 : decode cX12_readTram 105 = .ok (.putfield 297, 3) := by decide +kernel
theorem dX12_readTram_108 : decode cX12_readTram 108 = .ok (.return_, 1) := by decide +kernel
theorem dX12_readGiver_0 : decode cX12_readGiver 0 = .ok (.aload_n 0, 1) := by decide +kernel
theorem dX12_readGiver_1 : decode cX12_readGiver 1 = .ok (.aload_n 0, 1) := by decide +kernel
theorem dX12_readGiver_2 : decode cX12_readGiver 2 = .ok (.getfield 162, 3) := by decide +kernel
theorem dX12_readGiver_5 : decode cX12_readGiver 5 = .ok (.getfield 207, 3) := by decide +kernel
theorem dX12_readGiver_8 : decode cX12_readGiver 8 = .ok (.iconst 3, 1) := by decide +kernel
theorem dX12_readGiver_9 : decode cX12_readGiver 9 = .ok (.invokevirtual 254, 3) := by decide +kernel
theorem dX12_readGiver_12 : decode cX12_readGiver 12 = .ok (.aload_n 0, 1) := by decide +kernel
theorem dX12_readGiver_13 : decode cX12_readGiver 13 = .ok (.invokevirtual 258, 3) := by decide +kernel
theorem dX12_readGiver_16 : decode cX12_readGiver 16 = .ok (.lstore_n 1, 1) := by decide +kernel
theorem dX12_readGiver_17 : decode cX12_readGiver 17 = .ok (.aload_n 0, 1) := by decide +kernel
theorem dX12_readGiver_18 : decode cX12_readGiver 18 = .ok (.ldc_w 308, 3) := by decide +kernel
theorem dX12_readGiver_21 : decode cX12_readGiver 21 = .ok (.iconst 0, 1) := by decide +kernel
theorem dX12_readGiver_22 : decode cX12_readGiver 22 = .ok (.bipush 60, 2) := by decide +kernel
theorem dX12_readGiver_24 : decode cX12_readGiver 24 = .ok (.invokevirtual 243, 3) := by decide +kernel
theorem dX12_readGiver_27 : decode cX12_readGiver 27 = .ok (.istore_n 3, 1) := by decide +kernel
theorem dX12_readGiver_28 : decode cX12_readGiver 28 = .ok (.aload_n 0, 1) := by decide +kernel
theorem dX12_readGiver_29 : decode cX12_readGiver 29 = .ok (.getfield 80, 3) := by decide +kernel
theorem dX12_readGiver_32 : decode cX12_readGiver 32 = .ok (.iconst 5, 1) := by decide +kernel
theorem dX12_readGiver_33 : decode cX12_readGiver 33 = .ok (.if_icmp .ne 4, 3) := by decide +kernel
theorem dX12_readGiver_36 : decode cX12_readGiver 36 = .ok (.return_, 1) := by decide +kernel
theorem dX12_readGiver_37 : decode cX12_readGiver 37 = .ok (.aload_n 0, 1) := by decide +kernel
theorem dX12_readGiver_38 : decode cX12_readGiver 38 = .ok (.lload_n 1, 1) := by decide +kernel
theorem dX12_readGiver_39 : decode cX12_readGiver 39 = .ok (.iconst 3, 1) := by decide +kernel
theorem dX12_readGiver_40 : decode cX12_readGiver 40 = .ok (.aload_n 0, 1) := by decide +kernel
theorem dX12_readGiver_41 : decode cX12_readGiver 41 = .ok (.getfield 162, 3) := by decide +kernel
theorem dX12_readGiver_44 : decode cX12_readGiver 44 = .ok (.getfield 207, 3) := by decide +kernel
theorem dX12_readGiver_47 : decode cX12_readGiver 47 = .ok (.invokevirtual 270, 3) := by decide +kernel
theorem dX12_readGiver_50 : decode cX12_readGiver 50 = .ok (.aload_n 0, 1) := by decide +kernel
theorem dX12_readGiver_51 : decode cX12_readGiver 51 = .ok (.getfield 162, 3) := by decide +kernel
theorem dX12_readGiver_54 : decode cX12_readGiver 54 = .ok (.getfield 310, 3) := by decide +kernel
theorem dX12_readGiver_57 : decode cX12_readGiver 57 = .ok (.aload_n 0, 1) := by decide +kernel
theorem dX12_readGiver_58 : decode cX12_readGiver 58 = .ok (.getfield 162, 3) := by decide +kernel
theorem dX12_readGiver_61 : decode cX12_readGiver 61 = .ok (.getfield 207, 3) := by decide +kernel
theorem dX12_readGiver_64 : decode cX12_readGiver 64 = .ok (.iload_n 3, 1) := by decide +kernel
theorem dX12_readGiver_65 : decode cX12_readGiver 65 = .ok (.iastore, 1) := by decide +kernel
theorem dX12_readGiver_66 : decode cX12_readGiver 66 = .ok (.aload_n 0, 1) := by decide +kernel
theorem dX12_readGiver_67 : decode cX12_readGiver 67 = .ok (.getfield 162, 3) := by decide +kernel
theorem dX12_readGiver_70 : decode cX12_readGiver 70 = .ok (.dup, 1) := by decide +kernel
theorem dX12_readGiver_71 : decode cX12_readGiver 71 = .ok (.getfield 207, 3) := by decide +kernel
theorem dX12_readGiver_74 : decode cX12_readGiver 74 = .ok (.iconst 1, 1) := by decide +kernel
theorem dX12_readGiver_75 : decode cX12_readGiver 75 = .ok (.iadd, 1) := by decide +kernel
theorem dX12_readGiver_76 : decode cX12_readGiver 76 = .ok (.putfield 207, 3) := by decide +kernel
theorem dX12_readGiver_79 : decode cX12_readGiver 79 = .ok (.return_, 1) := by decide +kernel
theorem dX12_readRow_0 : decode cX12_readRow 0 = .ok (.aload_n 0, 1) := by decide +kernel
theorem dX12_readRow_1 : decode cX12_readRow 1 = .ok (.aload_n 0, 1) := by decide +kernel
theorem dX12_readRow_2 : decode cX12_readRow 2 = .ok (.getfield 162, 3) := by decide +kernel
theorem dX12_readRow_5 : decode cX12_readRow 5 = .ok (.getfield 312, 3) := by decide +kernel
theorem dX12_readRow_8 : decode cX12_readRow 8 = .ok (.bipush 16, 2) := by decide +kernel
theorem dX12_readRow_10 : decode cX12_readRow 10 = .ok (.invokevirtual 254, 3) := by decide +kernel
theorem dX12_readRow_13 : decode cX12_readRow 13 = .ok (.aload_n 0, 1) := by decide +kernel
theorem dX12_readRow_14 : decode cX12_readRow 14 = .ok (.iload_n 1, 1) := by decide +kernel
theorem dX12_readRow_15 : decode cX12_readRow 15 = .ok (.invokevirtual 315, 3) := by decide +kernel
theorem dX12_readRow_18 : decode cX12_readRow 18 = .ok (.istore_n 3, 1) := by decide +kernel
theorem dX12_readRow_19 : decode cX12_readRow 19 = .ok (.aload_n 0, 1) := by decide +kernel
theorem dX12_readRow_20 : decode cX12_readRow 20 = .ok (.iconst 2, 1) := by decide +kernel
theorem dX12_readRow_21 : decode cX12_readRow 21 = .ok (.invokevirtual 315, 3) := by decide +kernel
theorem dX12_readRow_24 : decode cX12_readRow 24 = .ok (.istore 4, 2) := by decide +kernel
theorem dX12_readRow_26 : decode cX12_readRow 26 = .ok (.aload_n 0, 1) := by decide +kernel
theorem dX12_readRow_27 : decode cX12_readRow 27 = .ok (.iconst 0, 1) := by decide +kernel
theorem dX12_readRow_28 : decode cX12_readRow 28 = .ok (.aload_n 0, 1) := by decide +kernel
theorem dX12_readRow_29 : decode cX12_readRow 29 = .ok (.getfield 162, 3) := by decide +kernel
theorem dX12_readRow_32 : decode cX12_readRow 32 = .ok (.getfield 166, 3) := by decide +kernel
theorem dX12_readRow_35 : decode cX12_readRow 35 = .ok (.iconst 1, 1) := by decide +kernel
theorem dX12_readRow_36 : decode cX12_readRow 36 = .ok (.isub, 1) := by decide +kernel
theorem dX12_readRow_37 : decode cX12_readRow 37 = .ok (.invokevirtual 131, 3) := by decide +kernel
theorem dX12_readRow_40 : decode cX12_readRow 40 = .ok (.istore 5, 2) := by decide +kernel
theorem dX12_readRow_42 : decode cX12_readRow 42 = .ok (.aload_n 0, 1) := by decide +kernel
theorem dX12_readRow_43 : decode cX12_readRow 43 = .ok (.getfield 80, 3) := by decide +kernel
theorem dX12_readRow_46 : decode cX12_readRow 46 = .ok (.iconst 5, 1) := by decide +kernel
theorem dX12_readRow_47 : decode cX12_readRow 47 = .ok (.if_icmp .eq 22, 3) := by decide +kernel
theorem dX12_readRow_50 : decode cX12_readRow 50 = .ok (.aload_n 2, 1) := by decide +kernel
theorem dX12_readRow_51 : decode cX12_readRow 51 = .ok (.bipush 7, 2) := by decide +kernel
theorem dX12_readRow_53 : decode cX12_readRow 53 = .ok (.iload_n 3, 1) := by decide +kernel
theorem dX12_readRow_54 : decode cX12_readRow 54 = .ok (.imul, 1) := by decide +kernel
theorem dX12_readRow_55 : decode cX12_readRow 55 = .ok (.iload 5, 2) := by decide +kernel
theorem dX12_readRow_57 : decode cX12_readRow 57 = .ok (.iadd, 1) := by decide +kernel
theorem dX12_readRow_58 : decode cX12_readRow 58 = .ok (.iaload, 1) := by decide +kernel
theorem dX12_readRow_59 : decode cX12_readRow 59 = .ok (.bipush (-2), 2) := by decide +kernel
theorem dX12_readRow_61 : decode cX12_readRow 61 = .ok (.if_icmp .eq 8, 3) := by decide +kernel
theorem dX12_readRow_64 : decode cX12_readRow 64 = .ok (.aload_n 0, 1) := by decide +kernel
theorem dX12_readRow_65 : decode cX12_readRow 65 = .ok (.iconst 3, 1) := by decide +kernel
theorem dX12_readRow_66 : decode cX12_readRow 66 = .ok (.invokevirtual 123, 3) := by decide +kernel
theorem dX12_readRow_69 : decode cX12_readRow 69 = .ok (.aload_n 0, 1) := by decide +kernel
theorem dX12_readRow_70 : decode cX12_readRow 70 = .ok (.invokevirtual 116, 3) := by decide +kernel
theorem dX12_readRow_73 : decode cX12_readRow 73 = .ok (.aload_n 0, 1) := by decide +kernel
theorem dX12_readRow_74 : decode cX12_readRow 74 = .ok (.getfield 80, 3) := by decide +kernel
theorem dX12_readRow_77 : decode cX12_readRow 77 = .ok (.iconst 5, 1) := by decide +kernel
theorem dX12_readRow_78 : decode cX12_readRow 78 = .ok (.if_icmp .ne 4, 3) := by decide +kernel
theorem dX12_readRow_81 : decode cX12_readRow 81 = .ok (.return_, 1) := by decide +kernel
theorem dX12_readRow_82 : decode cX12_readRow 82 = .ok (.aload_n 2, 1) := by decide +kernel
theorem dX12_readRow_83 : decode cX12_readRow 83 = .ok (.bipush 7, 2) := by decide +kernel
theorem dX12_readRow_85 : decode cX12_readRow 85 = .ok (.iload_n 3, 1) := by decide +kernel
theorem dX12_readRow_86 : decode cX12_readRow 86 = .ok (.imul, 1) := by decide +kernel
theorem dX12_readRow_87 : decode cX12_readRow 87 = .ok (.iload 5, 2) := by decide +kernel
theorem dX12_readRow_89 : decode cX12_readRow 89 = .ok (.iadd, 1) := by decide +kernel
theorem dX12_readRow_90 : decode cX12_readRow 90 = .ok (.iload 4, 2) := by decide +kernel
theorem dX12_readRow_92 : decode cX12_readRow 92 = .ok (.iastore, 1) := by decide +kernel
theorem dX12_readRow_93 : decode cX12_readRow 93 = .ok (.aload_n 0, 1) := by decide +kernel
theorem dX12_readRow_94 : decode cX12_readRow 94 = .ok (.getfield 162, 3) := by decide +kernel
theorem dX12_readRow_97 : decode cX12_readRow 97 = .ok (.dup, 1) := by decide +kernel
theorem dX12_readRow_98 : decode cX12_readRow 98 = .ok (.getfield 312, 3) := by decide +kernel
theorem dX12_readRow_101 : decode cX12_readRow 101 = .ok (.iconst 1, 1) := by decide +kernel
theorem dX12_readRow_102 : decode cX12_readRow 102 = .ok (.iadd, 1) := by decide +kernel
theorem dX12_readRow_103 : decode cX12_readRow 103 = .ok (.putfield 312, 3) := by decide +kernel
theorem dX12_readRow_106 : decode cX12_readRow 106 = .ok (.return_, 1) := by decide +kernel
theorem dX12_readGives_0 : decode cX12_readGives 0 = .ok (.aload_n 0, 1) := by decide +kernel
theorem dX12_readGives_1 : decode cX12_readGives 1 = .ok (.aload_n 0, 1) := by decide +kernel
theorem dX12_readGives_2 : decode cX12_readGives 2 = .ok (.getfield 162, 3) := by decide +kernel
theorem dX12_readGives_5 : decode cX12_readGives 5 = .ok (.getfield 318, 3) := by decide +kernel
theorem dX12_readGives_8 : decode cX12_readGives 8 = .ok (.bipush 12, 2) := by decide +kernel
theorem dX12_readGives_10 : decode cX12_readGives 10 = .ok (.invokevirtual 254, 3) := by decide +kernel
theorem dX12_readGives_13 : decode cX12_readGives 13 = .ok (.aload_n 0, 1) := by decide +kernel
theorem dX12_readGives_14 : decode cX12_readGives 14 = .ok (.iconst 3, 1) := by decide +kernel
theorem dX12_readGives_15 : decode cX12_readGives 15 = .ok (.invokevirtual 315, 3) := by decide +kernel
theorem dX12_readGives_18 : decode cX12_readGives 18 = .ok (.istore_n 1, 1) := by decide +kernel
theorem dX12_readGives_19 : decode cX12_readGives 19 = .ok (.aload_n 0, 1) := by decide +kernel
theorem dX12_readGives_20 : decode cX12_readGives 20 = .ok (.iconst 0, 1) := by decide +kernel
theorem dX12_readGives_21 : decode cX12_readGives 21 = .ok (.invokevirtual 315, 3) := by decide +kernel
theorem dX12_readGives_24 : decode cX12_readGives 24 = .ok (.istore_n 2, 1) := by decide +kernel
theorem dX12_readGives_25 : decode cX12_readGives 25 = .ok (.aload_n 0, 1) := by decide +kernel
theorem dX12_readGives_26 : decode cX12_readGives 26 = .ok (.iconst 1, 1) := by decide +kernel
theorem dX12_readGives_27 : decode cX12_readGives 27 = .ok (.invokevirtual 315, 3) := by decide +kernel
theorem dX12_readGives_30 : decode cX12_readGives 30 = .ok (.istore_n 3, 1) := by decide +kernel
theorem dX12_readGives_31 : decode cX12_readGives 31 = .ok (.aload_n 0, 1) := by decide +kernel
theorem dX12_readGives_32 : decode cX12_readGives 32 = .ok (.iconst 0, 1) := by decide +kernel
theorem dX12_readGives_33 : decode cX12_readGives 33 = .ok (.aload_n 0, 1) := by decide +kernel
theorem dX12_readGives_34 : decode cX12_readGives 34 = .ok (.getfield 162, 3) := by decide +kernel
theorem dX12_readGives_37 : decode cX12_readGives 37 = .ok (.getfield 166, 3) := by decide +kernel
theorem dX12_readGives_40 : decode cX12_readGives 40 = .ok (.iconst 1, 1) := by decide +kernel
theorem dX12_readGives_41 : decode cX12_readGives 41 = .ok (.isub, 1) := by decide +kernel
theorem dX12_readGives_42 : decode cX12_readGives 42 = .ok (.invokevirtual 139, 3) := by decide +kernel
theorem dX12_readGives_45 : decode cX12_readGives 45 = .ok (.istore 4, 2) := by decide +kernel
theorem dX12_readGives_47 : decode cX12_readGives 47 = .ok (.aload_n 0, 1) := by decide +kernel
theorem dX12_readGives_48 : decode cX12_readGives 48 = .ok (.getfield 80, 3) := by decide +kernel
theorem dX12_readGives_51 : decode cX12_readGives 51 = .ok (.iconst 5, 1) := by decide +kernel
theorem dX12_readGives_52 : decode cX12_readGives 52 = .ok (.if_icmp .ne 4, 3) := by decide +kernel
theorem dX12_readGives_55 : decode cX12_readGives 55 = .ok (.return_, 1) := by decide +kernel
theorem dX12_readGives_56 : decode cX12_readGives 56 = .ok (.aload_n 0, 1) := by decide +kernel
theorem dX12_readGives_57 : decode cX12_readGives 57 = .ok (.getfield 162, 3) := by decide +kernel
theorem dX12_readGives_60 : decode cX12_readGives 60 = .ok (.getfield 321, 3) := by decide +kernel
theorem dX12_readGives_63 : decode cX12_readGives 63 = .ok (.aload_n 0, 1) := by decide +kernel
theorem dX12_readGives_64 : decode cX12_readGives 64 = .ok (.getfield 162, 3) := by decide +kernel
theorem dX12_readGives_67 : decode cX12_readGives 67 = .ok (.getfield 318, 3) := by decide +kernel
theorem dX12_readGives_70 : decode cX12_readGives 70 = .ok (.iload_n 1, 1) := by decide +kernel
theorem dX12_readGives_71 : decode cX12_readGives 71 = .ok (.iastore, 1) := by decide +kernel
theorem dX12_readGives_72 : decode cX12_readGives 72 = .ok (.aload_n 0, 1) := by decide +kernel
theorem dX12_readGives_73 : decode cX12_readGives 73 = .ok (.getfield 162, 3) := by decide +kernel
theorem dX12_readGives_76 : decode cX12_readGives 76 = .ok (.getfield 324, 3) := by decide +kernel
theorem dX12_readGives_79 : decode cX12_readGives 79 = .ok (.aload_n 0, 1) := by decide +kernel
theorem dX12_readGives_80 : decode cX12_readGives 80 = .ok (.getfield 162, 3) := by decide +kernel
theorem dX12_readGives_83 : decode cX12_readGives 83 = .ok (.getfield 318, 3) := by decide +kernel
theorem dX12_readGives_86 : decode cX12_readGives 86 = .ok (.iload_n 2, 1) := by decide +kernel
theorem dX12_readGives_87 : decode cX12_readGives 87 = .ok (.iastore, 1) := by decide +kernel
theorem dX12_readGives_88 : decode cX12_readGives 88 = .ok (.aload_n 0, 1) := by decide +kernel
theorem dX12_readGives_89 : decode cX12_readGives 89 = .ok (.getfield 162, 3) := by decide +kernel
theorem dX12_readGives_92 : decode cX12_readGives 92 = .ok (.getfield 327, 3) := by decide +kernel
theorem dX12_readGives_95 : decode cX12_readGives 95 = .ok (.aload_n 0, 1) := by decide +kernel
theorem dX12_readGives_96 : decode cX12_readGives 96 = .ok (.getfield 162, 3) := by decide +kernel
theorem dX12_readGives_99 : decode cX12_readGives 99 = .ok (.getfield 318, 3) := by decide +kernel
theorem dX12_readGives_102 : decode cX12_readGives 102 = .ok (.iload_n 3, 1) := by decide +kernel
theorem dX12_readGives_103 : decode cX12_readGives 103 = .ok (.iastore, 1) := by decide +kernel
theorem dX12_readGives_104 : decode cX12_readGives 104 = .ok (.aload_n 0, 1) := by decide +kernel
theorem dX12_readGives_105 : decode cX12_readGives 105 = .ok (.getfield 162, 3) := by decide +kernel
theorem dX12_readGives_108 : decode cX12_readGives 108 = .ok (.getfield 330, 3) := by decide +kernel
theorem dX12_readGives_111 : decode cX12_readGives 111 = .ok (.aload_n 0, 1) := by decide +kernel
theorem dX12_readGives_112 : decode cX12_readGives 112 = .ok (.getfield 162, 3) := by decide +kernel
theorem dX12_readGives_115 : decode cX12_readGives 115 = .ok (.getfield 318, 3) := by decide +kernel
theorem dX12_readGives_118 : decode cX12_readGives 118 = .ok (.iload 4, 2) := by decide +kernel
theorem dX12_readGives_120 : decode cX12_readGives 120 = .ok (.iastore, 1) := by decide +kernel
theorem dX12_readGives_121 : decode cX12_readGives 121 = .ok (.aload_n 0, 1) := by decide +kernel
theorem dX12_readGives_122 : decode cX12_readGives 122 = .ok (.getfield 162, 3) := by decide +kernel
theorem dX12_readGives_125 : decode cX12_readGives 125 = .ok (.dup, 1) := by decide +kernel
theorem dX12_readGives_126 : decode cX12_readGives 126 = .ok (.getfield 318, 3) := by decide +kernel
theorem dX12_readGives_129 : decode cX12_readGives 129 = .ok (.iconst 1, 1) := by decide +kernel
theorem dX12_readGives_130 : decode cX12_readGives 130 = .ok (.iadd, 1) := by decide +kernel
theorem dX12_readGives_131 : decode cX12_readGives 131 = .ok (.putfield 318, 3) := by decide +kernel
theorem dX12_readGives_134 : decode cX12_readGives 134 = .ok (.return_, 1) := by decide +kernel
theorem dX12_readFound_0 : decode cX12_readFound 0 = .ok (.aload_n 0, 1) := by decide +kernel
theorem dX12_readFound_1 : decode cX12_readFound 1 = .ok (.iconst 0, 1) := by decide +kernel
theorem dX12_readFound_2 : decode cX12_readFound 2 = .ok (.iconst 1, 1) := by decide +kernel
theorem dX12_readFound_3 : decode cX12_readFound 3 = .ok (.invokevirtual 254, 3) := by decide +kernel
theorem dX12_readFound_6 : decode cX12_readFound 6 = .ok (.aload_n 0, 1) := by decide +kernel
theorem dX12_readFound_7 : decode cX12_readFound 7 = .ok (.iconst 0, 1) := by decide +kernel
theorem dX12_readFound_8 : decode cX12_readFound 8 = .ok (.invokevirtual 192, 3) := by decide +kernel
theorem dX12_readFound_11 : decode cX12_readFound 11 = .ok (.istore_n 1, 1) := by decide +kernel
theorem dX12_readFound_12 : decode cX12_readFound 12 = .ok (.aload_n 0, 1) := by decide +kernel
theorem dX12_readFound_13 : decode cX12_readFound 13 = .ok (.getfield 80, 3) := by decide +kernel
theorem dX12_readFound_16 : decode cX12_readFound 16 = .ok (.iconst 5, 1) := by decide +kernel
theorem dX12_readFound_17 : decode cX12_readFound 17 = .ok (.if_icmp .eq 22, 3) := by decide +kernel
theorem dX12_readFound_20 : decode cX12_readFound 20 = .ok (.aload_n 0, 1) := by decide +kernel
theorem dX12_readFound_21 : decode cX12_readFound 21 = .ok (.getfield 162, 3) := by decide +kernel
theorem dX12_readFound_24 : decode cX12_readFound 24 = .ok (.getfield 251, 3) := by decide +kernel
theorem dX12_readFound_27 : decode cX12_readFound 27 = .ok (.iload_n 1, 1) := by decide +kernel
theorem dX12_readFound_28 : decode cX12_readFound 28 = .ok (.iaload, 1) := by decide +kernel
theorem dX12_readFound_29 : decode cX12_readFound 29 = .ok (.bipush (-2), 2) := by decide +kernel
theorem dX12_readFound_31 : decode cX12_readFound 31 = .ok (.if_icmp .eq 8, 3) := by decide +kernel
theorem dX12_readFound_34 : decode cX12_readFound 34 = .ok (.aload_n 0, 1) := by decide +kernel
theorem dX12_readFound_35 : decode cX12_readFound 35 = .ok (.iconst 3, 1) := by decide +kernel
theorem dX12_readFound_36 : decode cX12_readFound 36 = .ok (.invokevirtual 123, 3) := by decide +kernel
theorem dX12_readFound_39 : decode cX12_readFound 39 = .ok (.aload_n 0, 1) := by decide +kernel
theorem dX12_readFound_40 : decode cX12_readFound 40 = .ok (.invokevirtual 116, 3) := by decide +kernel
theorem dX12_readFound_43 : decode cX12_readFound 43 = .ok (.aload_n 0, 1) := by decide +kernel
theorem dX12_readFound_44 : decode cX12_readFound 44 = .ok (.iconst 1, 1) := by decide +kernel
theorem dX12_readFound_45 : decode cX12_readFound 45 = .ok (.invokevirtual 315, 3) := by decide +kernel
theorem dX12_readFound_48 : decode cX12_readFound 48 = .ok (.istore_n 2, 1) := by decide +kernel
theorem dX12_readFound_49 : decode cX12_readFound 49 = .ok (.aload_n 0, 1) := by decide +kernel
theorem dX12_readFound_50 : decode cX12_readFound 50 = .ok (.getfield 80, 3) := by decide +kernel
theorem dX12_readFound_53 : decode cX12_readFound 53 = .ok (.iconst 5, 1) := by decide +kernel
theorem dX12_readFound_54 : decode cX12_readFound 54 = .ok (.if_icmp .ne 4, 3) := by decide +kernel
theorem dX12_readFound_57 : decode cX12_readFound 57 = .ok (.return_, 1) := by decide +kernel
theorem dX12_readFound_58 : decode cX12_readFound 58 = .ok (.aload_n 0, 1) := by decide +kernel
theorem dX12_readFound_59 : decode cX12_readFound 59 = .ok (.getfield 162, 3) := by decide +kernel
theorem dX12_readFound_62 : decode cX12_readFound 62 = .ok (.getfield 251, 3) := by decide +kernel
theorem dX12_readFound_65 : decode cX12_readFound 65 = .ok (.iload_n 1, 1) := by decide +kernel
theorem dX12_readFound_66 : decode cX12_readFound 66 = .ok (.iload_n 2, 1) := by decide +kernel
theorem dX12_readFound_67 : decode cX12_readFound 67 = .ok (.iastore, 1) := by decide +kernel
theorem dX12_readFound_68 : decode cX12_readFound 68 = .ok (.aload_n 0, 1) := by decide +kernel
theorem dX12_readFound_69 : decode cX12_readFound 69 = .ok (.getfield 162, 3) := by decide +kernel
theorem dX12_readFound_72 : decode cX12_readFound 72 = .ok (.getfield 333, 3) := by decide +kernel
theorem dX12_readFound_75 : decode cX12_readFound 75 = .ok (.aload_n 0, 1) := by decide +kernel
theorem dX12_readFound_76 : decode cX12_readFound 76 = .ok (.getfield 162, 3) := by decide +kernel
theorem dX12_readFound_79 : decode cX12_readFound 79 = .ok (.getfield 336, 3) := by decide +kernel
theorem dX12_readFound_82 : decode cX12_readFound 82 = .ok (.iload_n 1, 1) := by decide +kernel
theorem dX12_readFound_83 : decode cX12_readFound 83 = .ok (.iastore, 1) := by decide +kernel
theorem dX12_readFound_84 : decode cX12_readFound 84 = .ok (.aload_n 0, 1) := by decide +kernel
theorem dX12_readFound_85 : decode cX12_readFound 85 = .ok (.getfield 162, 3) := by decide +kernel
theorem dX12_readFound_88 : decode cX12_readFound 88 = .ok (.dup, 1) := by decide +kernel
theorem dX12_readFound_89 : decode cX12_readFound 89 = .ok (.getfield 336, 3) := by decide +kernel
theorem dX12_readFound_92 : decode cX12_readFound 92 = .ok (.iconst 1, 1) := by decide +kernel
theorem dX12_readFound_93 : decode cX12_readFound 93 = .ok (.iadd, 1) := by decide +kernel
theorem dX12_readFound_94 : decode cX12_readFound 94 = .ok (.putfield 336, 3) := by decide +kernel
theorem dX12_readFound_97 : decode cX12_readFound 97 = .ok (.return_, 1) := by decide +kernel
theorem dX12_readExam_0 : decode cX12_readExam 0 = .ok (.aload_n 0, 1) := by decide +kernel
theorem dX12_readExam_1 : decode cX12_readExam 1 = .ok (.aload_n 0, 1) := by decide +kernel
theorem dX12_readExam_2 : decode cX12_readExam 2 = .ok (.getfield 162, 3) := by decide +kernel
theorem dX12_readExam_5 : decode cX12_readExam 5 = .ok (.getfield 339, 3) := by decide +kernel
theorem dX12_readExam_8 : decode cX12_readExam 8 = .ok (.bipush 8, 2) := by decide +kernel
theorem dX12_readExam_10 : decode cX12_readExam 10 = .ok (.invokevirtual 254, 3) := by decide +kernel
theorem dX12_readExam_13 : decode cX12_readExam 13 = .ok (.aload_n 0, 1) := by decide +kernel
theorem dX12_readExam_14 : decode cX12_readExam 14 = .ok (.iconst 3, 1) := by decide +kernel
theorem dX12_readExam_15 : decode cX12_readExam 15 = .ok (.invokevirtual 315, 3) := by decide +kernel
theorem dX12_readExam_18 : decode cX12_readExam 18 = .ok (.istore_n 1, 1) := by decide +kernel
theorem dX12_readExam_19 : decode cX12_readExam 19 = .ok (.aload_n 0, 1) := by decide +kernel
theorem dX12_readExam_20 : decode cX12_readExam 20 = .ok (.iconst 0, 1) := by decide +kernel
theorem dX12_readExam_21 : decode cX12_readExam 21 = .ok (.invokevirtual 315, 3) := by decide +kernel
theorem dX12_readExam_24 : decode cX12_readExam 24 = .ok (.istore_n 2, 1) := by decide +kernel
theorem dX12_readExam_25 : decode cX12_readExam 25 = .ok (.aload_n 0, 1) := by decide +kernel
theorem dX12_readExam_26 : decode cX12_readExam 26 = .ok (.iconst 1, 1) := by decide +kernel
theorem dX12_readExam_27 : decode cX12_readExam 27 = .ok (.invokevirtual 315, 3) := by decide +kernel
theorem dX12_readExam_30 : decode cX12_readExam 30 = .ok (.istore_n 3, 1) := by decide +kernel
theorem dX12_readExam_31 : decode cX12_readExam 31 = .ok (.aload_n 0, 1) := by decide +kernel
theorem dX12_readExam_32 : decode cX12_readExam 32 = .ok (.iconst 2, 1) := by decide +kernel
theorem dX12_readExam_33 : decode cX12_readExam 33 = .ok (.invokevirtual 315, 3) := by decide +kernel
theorem dX12_readExam_36 : decode cX12_readExam 36 = .ok (.istore 4, 2) := by decide +kernel
theorem dX12_readExam_38 : decode cX12_readExam 38 = .ok (.aload_n 0, 1) := by decide +kernel
theorem dX12_readExam_39 : decode cX12_readExam 39 = .ok (.ldc_w 342, 3) := by decide +kernel
theorem dX12_readExam_42 : decode cX12_readExam 42 = .ok (.invokevirtual 119, 3) := by decide +kernel
theorem dX12_readExam_45 : decode cX12_readExam 45 = .ok (.istore 5, 2) := by decide +kernel
theorem dX12_readExam_47 : decode cX12_readExam 47 = .ok (.iload 5, 2) := by decide +kernel
theorem dX12_readExam_49 : decode cX12_readExam 49 = .ok (.ifCond .ne 18, 3) := by decide +kernel
theorem dX12_readExam_52 : decode cX12_readExam 52 = .ok (.aload_n 0, 1) := by decide +kernel
theorem dX12_readExam_53 : decode cX12_readExam 53 = .ok (.ldc_w 344, 3) := by decide +kernel
theorem dX12_readExam_56 : decode cX12_readExam 56 = .ok (.invokevirtual 119, 3) := by decide +kernel
theorem dX12_readExam_59 : decode cX12_readExam 59 = .ok (.ifCond .ne 8, 3) := by decide +kernel
theorem dX12_readExam_62 : decode cX12_readExam 62 = .ok (.aload_n 0, 1) := by decide +kernel
theorem dX12_readExam_63 : decode cX12_readExam 63 = .ok (.iconst 1, 1) := by decide +kernel
theorem dX12_readExam_64 : decode cX12_readExam 64 = .ok (.invokevirtual 123, 3) := by decide +kernel
theorem dX12_readExam_67 : decode cX12_readExam 67 = .ok (.aload_n 0, 1) := by decide +kernel
theorem dX12_readExam_68 : decode cX12_readExam 68 = .ok (.invokevirtual 116, 3) := by decide +kernel
theorem dX12_readExam_71 : decode cX12_readExam 71 = .ok (.aload_n 0, 1) := by decide +kernel
theorem dX12_readExam_72 : decode cX12_readExam 72 = .ok (.getfield 80, 3) := by decide +kernel
theorem dX12_readExam_75 : decode cX12_readExam 75 = .ok (.iconst 5, 1) := by decide +kernel
theorem dX12_readExam_76 : decode cX12_readExam 76 = .ok (.if_icmp .ne 4, 3) := by decide +kernel
theorem dX12_readExam_79 : decode cX12_readExam 79 = .ok (.return_, 1) := by decide +kernel
theorem dX12_readExam_80 : decode cX12_readExam 80 = .ok (.aload_n 0, 1) := by decide +kernel
theorem dX12_readExam_81 : decode cX12_readExam 81 = .ok (.getfield 162, 3) := by decide +kernel
theorem dX12_readExam_84 : decode cX12_readExam 84 = .ok (.getfield 346, 3) := by decide +kernel
theorem dX12_readExam_87 : decode cX12_readExam 87 = .ok (.aload_n 0, 1) := by decide +kernel
theorem dX12_readExam_88 : decode cX12_readExam 88 = .ok (.getfield 162, 3) := by decide +kernel
theorem dX12_readExam_91 : decode cX12_readExam 91 = .ok (.getfield 339, 3) := by decide +kernel
theorem dX12_readExam_94 : decode cX12_readExam 94 = .ok (.iload_n 1, 1) := by decide +kernel
theorem dX12_readExam_95 : decode cX12_readExam 95 = .ok (.iastore, 1) := by decide +kernel
theorem dX12_readExam_96 : decode cX12_readExam 96 = .ok (.aload_n 0, 1) := by decide +kernel
theorem dX12_readExam_97 : decode cX12_readExam 97 = .ok (.getfield 162, 3) := by decide +kernel
theorem dX12_readExam_100 : decode cX12_readExam 100 = .ok (.getfield 349, 3) := by decide +kernel
theorem dX12_readExam_103 : decode cX12_readExam 103 = .ok (.aload_n 0, 1) := by decide +kernel
theorem dX12_readExam_104 : decode cX12_readExam 104 = .ok (.getfield 162, 3) := by decide +kernel
theorem dX12_readExam_107 : decode cX12_readExam 107 = .ok (.getfield 339, 3) := by decide +kernel
theorem dX12_readExam_110 : decode cX12_readExam 110 = .ok (.iload_n 2, 1) := by decide +kernel
theorem dX12_readExam_111 : decode cX12_readExam 111 = .ok (.iastore, 1) := by decide +kernel
theorem dX12_readExam_112 : decode cX12_readExam 112 = .ok (.aload_n 0, 1) := by decide +kernel
theorem dX12_readExam_113 : decode cX12_readExam 113 = .ok (.getfield 162, 3) := by decide +kernel
theorem dX12_readExam_116 : decode cX12_readExam 116 = .ok (.getfield 352, 3) := by decide +kernel
theorem dX12_readExam_119 : decode cX12_readExam 119 = .ok (.aload_n 0, 1) := by decide +kernel
theorem dX12_readExam_120 : decode cX12_readExam 120 = .ok (.getfield 162, 3) := by decide +kernel
theorem dX12_readExam_123 : decode cX12_readExam 123 = .ok (.getfield 339, 3) := by decide +kernel
theorem dX12_readExam_126 : decode cX12_readExam 126 = .ok (.iload_n 3, 1) := by decide +kernel
theorem dX12_readExam_127 : decode cX12_readExam 127 = .ok (.iastore, 1) := by decide +kernel
theorem dX12_readExam_128 : decode cX12_readExam 128 = .ok (.aload_n 0, 1) := by decide +kernel
theorem dX12_readExam_129 : decode cX12_readExam 129 = .ok (.getfield 162, 3) := by decide +kernel
theorem dX12_readExam_132 : decode cX12_readExam 132 = .ok (.getfield 355, 3) := by decide +kernel
theorem dX12_readExam_135 : decode cX12_readExam 135 = .ok (.aload_n 0, 1) := by decide +kernel
theorem dX12_readExam_136 : decode cX12_readExam 136 = .ok (.getfield 162, 3) := by decide +kernel
theorem dX12_readExam_139 : decode cX12_readExam 139 = .ok (.getfield 339, 3) := by decide +kernel
theorem dX12_readExam_142 : decode cX12_readExam 142 = .ok (.iload 4, 2) := by decide +kernel
theorem dX12_readExam_144 : decode cX12_readExam 144 = .ok (.iastore, 1) := by decide +kernel
theorem dX12_readExam_145 : decode cX12_readExam 145 = .ok (.aload_n 0, 1) := by decide +kernel
theorem dX12_readExam_146 : decode cX12_readExam 146 = .ok (.getfield 162, 3) := by decide +kernel
theorem dX12_readExam_149 : decode cX12_readExam 149 = .ok (.getfield 358, 3) := by decide +kernel
theorem dX12_readExam_152 : decode cX12_readExam 152 = .ok (.aload_n 0, 1) := by decide +kernel
theorem dX12_readExam_153 : decode cX12_readExam 153 = .ok (.getfield 162, 3) := by decide +kernel
theorem dX12_readExam_156 : decode cX12_readExam 156 = .ok (.getfield 339, 3) := by decide +kernel
theorem dX12_readExam_159 : decode cX12_readExam 159 = .ok (.iload 5, 2) := by decide +kernel
theorem dX12_readExam_161 : decode cX12_readExam 161 = .ok (.bastore, 1) := by decide +kernel
theorem dX12_readExam_162 : decode cX12_readExam 162 = .ok (.aload_n 0, 1) := by decide +kernel
theorem dX12_readExam_163 : decode cX12_readExam 163 = .ok (.getfield 162, 3) := by decide +kernel
theorem dX12_readExam_166 : decode cX12_readExam 166 = .ok (.dup, 1) := by decide +kernel
theorem dX12_readExam_167 : decode cX12_readExam 167 = .ok (.getfield 339, 3) := by decide +kernel
theorem dX12_readExam_170 : decode cX12_readExam 170 = .ok (.iconst 1, 1) := by decide +kernel
theorem dX12_readExam_171 : decode cX12_readExam 171 = .ok (.iadd, 1) := by decide +kernel
theorem dX12_readExam_172 : decode cX12_readExam 172 = .ok (.putfield 339, 3) := by decide +kernel
theorem dX12_readExam_175 : decode cX12_readExam 175 = .ok (.return_, 1) := by decide +kernel
theorem dX12_feed_0 : decode cX12_feed 0 = .ok (.aload_n 0, 1) := by decide +kernel
theorem dX12_feed_1 : decode cX12_feed 1 = .ok (.iconst 0, 1) := by decide +kernel
theorem dX12_feed_2 : decode cX12_feed 2 = .ok (.putfield 48, 3) := by decide +kernel
theorem dX12_feed_5 : decode cX12_feed 5 = .ok (.aload_n 0, 1) := by decide +kernel
theorem dX12_feed_6 : decode cX12_feed 6 = .ok (.getfield 362, 3) := by decide +kernel
theorem dX12_feed_9 : decode cX12_feed 9 = .ok (.bipush 20, 2) := by decide +kernel
theorem dX12_feed_11 : decode cX12_feed 11 = .ok (.iadd, 1) := by decide +kernel
theorem dX12_feed_12 : decode cX12_feed 12 = .ok (.sipush 1000, 3) := by decide +kernel
theorem dX12_feed_15 : decode cX12_feed 15 = .ok (.if_icmp .le 5, 3) := by decide +kernel
theorem dX12_feed_18 : decode cX12_feed 18 = .ok (.iconst (-1), 1) := by decide +kernel
theorem dX12_feed_19 : decode cX12_feed 19 = .ok (.ireturn, 1) := by decide +kernel
theorem dX12_feed_20 : decode cX12_feed 20 = .ok (.iconst 0, 1) := by decide +kernel
theorem dX12_feed_21 : decode cX12_feed 21 = .ok (.istore 6, 2) := by decide +kernel
theorem dX12_feed_23 : decode cX12_feed 23 = .ok (.iload 6, 2) := by decide +kernel
theorem dX12_feed_25 : decode cX12_feed 25 = .ok (.bipush 20, 2) := by decide +kernel
theorem dX12_feed_27 : decode cX12_feed 27 = .ok (.if_icmp .ge 90, 3) := by decide +kernel
theorem dX12_feed_30 : decode cX12_feed 30 = .ok (.iload 6, 2) := by decide +kernel
theorem dX12_feed_32 : decode cX12_feed 32 = .ok (.iconst 4, 1) := by decide +kernel
theorem dX12_feed_33 : decode cX12_feed 33 = .ok (.if_icmp .ge 7, 3) := by decide +kernel
theorem dX12_feed_36 : decode cX12_feed 36 = .ok (.iload_n 1, 1) := by decide +kernel
theorem dX12_feed_37 : decode cX12_feed 37 = .ok (.goto 39, 3) := by decide +kernel
theorem dX12_feed_40 : decode cX12_feed 40 = .ok (.iload 6, 2) := by decide +kernel
theorem dX12_feed_42 : decode cX12_feed 42 = .ok (.bipush 8, 2) := by decide +kernel
theorem dX12_feed_44 : decode cX12_feed 44 = .ok (.if_icmp .ge 7, 3) := by decide +kernel
theorem dX12_feed_47 : decode cX12_feed 47 = .ok (.iload_n 2, 1) := by decide +kernel
theorem dX12_feed_48 : decode cX12_feed 48 = .ok (.goto 28, 3) := by decide +kernel
theorem dX12_feed_51 : decode cX12_feed 51 = .ok (.iload 6, 2) := by decide +kernel
theorem dX12_feed_53 : decode cX12_feed 53 = .ok (.bipush 12, 2) := by decide +kernel
theorem dX12_feed_55 : decode cX12_feed 55 = .ok (.if_icmp .ge 7, 3) := by decide +kernel
theorem dX12_feed_58 : decode cX12_feed 58 = .ok (.iload_n 3, 1) := by decide +kernel
theorem dX12_feed_59 : decode cX12_feed 59 = .ok (.goto 17, 3) := by decide +kernel
theorem dX12_feed_62 : decode cX12_feed 62 = .ok (.iload 6, 2) := by decide +kernel
theorem dX12_feed_64 : decode cX12_feed 64 = .ok (.bipush 16, 2) := by decide +kernel
theorem dX12_feed_66 : decode cX12_feed 66 = .ok (.if_icmp .ge 8, 3) := by decide +kernel
theorem dX12_feed_69 : decode cX12_feed 69 = .ok (.iload 4, 2) := by decide +kernel
theorem dX12_feed_71 : decode cX12_feed 71 = .ok (.goto 5, 3) := by decide +kernel
theorem dX12_feed_74 : decode cX12_feed 74 = .ok (.iload 5, 2) := by decide +kernel
theorem dX12_feed_76 : decode cX12_feed 76 = .ok (.istore 7, 2) := by decide +kernel
theorem dX12_feed_78 : decode cX12_feed 78 = .ok (.aload_n 0, 1) := by decide +kernel
theorem dX12_feed_79 : decode cX12_feed 79 = .ok (.getfield 13, 3) := by decide +kernel
theorem dX12_feed_82 : decode cX12_feed 82 = .ok (.aload_n 0, 1) := by decide +kernel
theorem dX12_feed_83 : decode cX12_feed 83 = .ok (.getfield 362, 3) := by decide +kernel
theorem dX12_feed_86 : decode cX12_feed 86 = .ok (.iload 7, 2) := by decide +kernel
theorem dX12_feed_88 : decode cX12_feed 88 = .ok (.bipush 24, 2) := by decide +kernel
theorem dX12_feed_90 : decode cX12_feed 90 = .ok (.bipush 8, 2) := by decide +kernel
theorem dX12_feed_92 : decode cX12_feed 92 = .ok (.iload 6, 2) := by decide +kernel
theorem dX12_feed_94 : decode cX12_feed 94 = .ok (.iconst 4, 1) := by decide +kernel
theorem dX12_feed_95 : decode cX12_feed 95 = .ok (.irem, 1) := by decide +kernel
theorem dX12_feed_96 : decode cX12_feed 96 = .ok (.imul, 1) := by decide +kernel
theorem dX12_feed_97 : decode cX12_feed 97 = .ok (.isub, 1) := by decide +kernel
theorem dX12_feed_98 : decode cX12_feed 98 = .ok (.ishr, 1) := by decide +kernel
theorem dX12_feed_99 : decode cX12_feed 99 = .ok (.i2b, 1) := by decide +kernel
theorem dX12_feed_100 : decode cX12_feed 100 = .ok (.bastore, 1) := by decide +kernel
theorem dX12_feed_101 : decode cX12_feed 101 = .ok (.aload_n 0, 1) := by decide +kernel
theorem dX12_feed_102 : decode cX12_feed 102 = .ok (.dup, 1) := by decide +kernel
theorem dX12_feed_103 : decode cX12_feed 103 = .ok (.getfield 362, 3) := by decide +kernel
theorem dX12_feed_106 : decode cX12_feed 106 = .ok (.iconst 1, 1) := by decide +kernel
theorem dX12_feed_107 : decode cX12_feed 107 = .ok (.iadd, 1) := by decide +kernel
theorem dX12_feed_108 : decode cX12_feed 108 = .ok (.putfield 362, 3) := by decide +kernel
theorem dX12_feed_111 : decode cX12_feed 111 = .ok (.iinc 6 1, 3) := by decide +kernel
theorem dX12_feed_114 : decode cX12_feed 114 = .ok (.goto (-91), 3) := by decide +kernel
theorem dX12_feed_117 : decode cX12_feed 117 = .ok (.aload_n 0, 1) := by decide +kernel
theorem dX12_feed_118 : decode cX12_feed 118 = .ok (.getfield 362, 3) := by decide +kernel
theorem dX12_feed_121 : decode cX12_feed 121 = .ok (.ireturn, 1) := by decide +kernel
theorem dX12_college_0 : decode cX12_college 0 = .ok (.aload_n 0, 1) := by decide +kernel
theorem dX12_college_1 : decode cX12_college 1 = .ok (.iconst 0, 1) := by decide +kernel
theorem dX12_college_2 : decode cX12_college 2 = .ok (.putfield 48, 3) := by decide +kernel
theorem dX12_college_5 : decode cX12_college 5 = .ok (.iload_n 1, 1) := by decide +kernel
theorem dX12_college_6 : decode cX12_college 6 = .ok (.ifCond .lt 11, 3) := by decide +kernel
theorem dX12_college_9 : decode cX12_college 9 = .ok (.iload_n 1, 1) := by decide +kernel
theorem dX12_college_10 : decode cX12_college 10 = .ok (.aload_n 0, 1) := by decide +kernel
theorem dX12_college_11 : decode cX12_college 11 = .ok (.getfield 362, 3) := by decide +kernel
theorem dX12_college_14 : decode cX12_college 14 = .ok (.if_icmp .le 9, 3) := by decide +kernel
theorem dX12_college_17 : decode cX12_college 17 = .ok (.aload_n 0, 1) := by decide +kernel
theorem dX12_college_18 : decode cX12_college 18 = .ok (.iconst 2, 1) := by decide +kernel
theorem dX12_college_19 : decode cX12_college 19 = .ok (.invokevirtual 54, 3) := by decide +kernel
theorem dX12_college_22 : decode cX12_college 22 = .ok (.ireturn, 1) := by decide +kernel
theorem dX12_college_23 : decode cX12_college 23 = .ok (.aload_n 0, 1) := by decide +kernel
theorem dX12_college_24 : decode cX12_college 24 = .ok (.iload_n 1, 1) := by decide +kernel
theorem dX12_college_25 : decode cX12_college 25 = .ok (.putfield 65, 3) := by decide +kernel
theorem dX12_college_28 : decode cX12_college 28 = .ok (.aload_n 0, 1) := by decide +kernel
theorem dX12_college_29 : decode cX12_college 29 = .ok (.iconst 0, 1) := by decide +kernel
theorem dX12_college_30 : decode cX12_college 30 = .ok (.putfield 362, 3) := by decide +kernel
theorem dX12_college_33 : decode cX12_college 33 = .ok (.aload_n 0, 1) := by decide +kernel
theorem dX12_college_34 : decode cX12_college 34 = .ok (.iconst 0, 1) := by decide +kernel
theorem dX12_college_35 : decode cX12_college 35 = .ok (.putfield 83, 3) := by decide +kernel
theorem dX12_college_38 : decode cX12_college 38 = .ok (.aload_n 0, 1) := by decide +kernel
theorem dX12_college_39 : decode cX12_college 39 = .ok (.iconst 0, 1) := by decide +kernel
theorem dX12_college_40 : decode cX12_college 40 = .ok (.putfield 106, 3) := by decide +kernel
theorem dX12_college_43 : decode cX12_college 43 = .ok (.aload_n 0, 1) := by decide +kernel
theorem dX12_college_44 : decode cX12_college 44 = .ok (.new 167, 3) := by decide +kernel
theorem dX12_college_47 : decode cX12_college 47 = .ok (.dup, 1) := by decide +kernel
theorem dX12_college_48 : decode cX12_college 48 = .ok (.invokespecial 365, 3) := by decide +kernel
theorem dX12_college_51 : decode cX12_college 51 = .ok (.putfield 162, 3) := by decide +kernel
theorem dX12_college_54 : decode cX12_college 54 = .ok (.aload_n 0, 1) := by decide +kernel
theorem dX12_college_55 : decode cX12_college 55 = .ok (.iconst 0, 1) := by decide +kernel
theorem dX12_college_56 : decode cX12_college 56 = .ok (.putfield 80, 3) := by decide +kernel
theorem dX12_college_59 : decode cX12_college 59 = .ok (.aload_n 0, 1) := by decide +kernel
theorem dX12_college_60 : decode cX12_college 60 = .ok (.invokevirtual 116, 3) := by decide +kernel
theorem dX12_college_63 : decode cX12_college 63 = .ok (.aload_n 0, 1) := by decide +kernel
theorem dX12_college_64 : decode cX12_college 64 = .ok (.invokevirtual 366, 3) := by decide +kernel
theorem dX12_college_67 : decode cX12_college 67 = .ok (.aload_n 0, 1) := by decide +kernel
theorem dX12_college_68 : decode cX12_college 68 = .ok (.getfield 106, 3) := by decide +kernel
theorem dX12_college_71 : decode cX12_college 71 = .ok (.ifCond .le 18, 3) := by decide +kernel
theorem dX12_college_74 : decode cX12_college 74 = .ok (.aload_n 0, 1) := by decide +kernel
theorem dX12_college_75 : decode cX12_college 75 = .ok (.iconst 4, 1) := by decide +kernel
theorem dX12_college_76 : decode cX12_college 76 = .ok (.putfield 51, 3) := by decide +kernel
theorem dX12_college_79 : decode cX12_college 79 = .ok (.aload_n 0, 1) := by decide +kernel
theorem dX12_college_80 : decode cX12_college 80 = .ok (.aload_n 0, 1) := by decide +kernel
theorem dX12_college_81 : decode cX12_college 81 = .ok (.getfield 109, 3) := by decide +kernel
theorem dX12_college_84 : decode cX12_college 84 = .ok (.putfield 9, 3) := by decide +kernel
theorem dX12_college_87 : decode cX12_college 87 = .ok (.iconst (-1), 1) := by decide +kernel
theorem dX12_college_88 : decode cX12_college 88 = .ok (.ireturn, 1) := by decide +kernel
theorem dX12_college_89 : decode cX12_college 89 = .ok (.aload_n 0, 1) := by decide +kernel
theorem dX12_college_90 : decode cX12_college 90 = .ok (.aload_n 0, 1) := by decide +kernel
theorem dX12_college_91 : decode cX12_college 91 = .ok (.getfield 162, 3) := by decide +kernel
theorem dX12_college_94 : decode cX12_college 94 = .ok (.putfield 369, 3) := by decide +kernel
theorem dX12_college_97 : decode cX12_college 97 = .ok (.iconst 0, 1) := by decide +kernel
theorem dX12_college_98 : decode cX12_college 98 = .ok (.istore_n 2, 1) := by decide +kernel
theorem dX12_college_99 : decode cX12_college 99 = .ok (.iload_n 2, 1) := by decide +kernel
theorem dX12_college_100 : decode cX12_college 100 = .ok (.bipush 16, 2) := by decide +kernel
theorem dX12_college_102 : decode cX12_college 102 = .ok (.if_icmp .ge 26, 3) := by decide +kernel
theorem dX12_college_105 : decode cX12_college 105 = .ok (.aload_n 0, 1) := by decide +kernel
theorem dX12_college_106 : decode cX12_college 106 = .ok (.getfield 17, 3) := by decide +kernel
theorem dX12_college_109 : decode cX12_college 109 = .ok (.iload_n 2, 1) := by decide +kernel
theorem dX12_college_110 : decode cX12_college 110 = .ok (.iload_n 2, 1) := by decide +kernel
theorem dX12_college_111 : decode cX12_college 111 = .ok (.iconst 4, 1) := by decide +kernel
theorem dX12_college_112 : decode cX12_college 112 = .ok (.if_icmp .ge 8, 3) := by decide +kernel
theorem dX12_college_115 : decode cX12_college 115 = .ok (.bipush (-2), 2) := by decide +kernel
theorem dX12_college_117 : decode cX12_college 117 = .ok (.goto 4, 3) := by decide +kernel
theorem dX12_college_120 : decode cX12_college 120 = .ok (.iconst 0, 1) := by decide +kernel
theorem dX12_college_121 : decode cX12_college 121 = .ok (.iastore, 1) := by decide +kernel
theorem dX12_college_122 : decode cX12_college 122 = .ok (.iinc 2 1, 3) := by decide +kernel
theorem dX12_college_125 : decode cX12_college 125 = .ok (.goto (-26), 3) := by decide +kernel
theorem dX12_college_128 : decode cX12_college 128 = .ok (.aload_n 0, 1) := by decide +kernel
theorem dX12_college_129 : decode cX12_college 129 = .ok (.iconst 0, 1) := by decide +kernel
theorem dX12_college_130 : decode cX12_college 130 = .ok (.putfield 371, 3) := by decide +kernel
theorem dX12_college_133 : decode cX12_college 133 = .ok (.aload_n 0, 1) := by decide +kernel
theorem dX12_college_134 : decode cX12_college 134 = .ok (.iconst 0, 1) := by decide +kernel
theorem dX12_college_135 : decode cX12_college 135 = .ok (.putfield 374, 3) := by decide +kernel
theorem dX12_college_138 : decode cX12_college 138 = .ok (.aload_n 0, 1) := by decide +kernel
theorem dX12_college_139 : decode cX12_college 139 = .ok (.aload_n 0, 1) := by decide +kernel
theorem dX12_college_140 : decode cX12_college 140 = .ok (.getfield 369, 3) := by decide +kernel
theorem dX12_college_143 : decode cX12_college 143 = .ok (.getfield 201, 3) := by decide +kernel
theorem dX12_college_146 : decode cX12_college 146 = .ok (.invokevirtual 58, 3) := by decide +kernel
theorem dX12_college_149 : decode cX12_college 149 = .ok (.ireturn, 1) := by decide +kernel
theorem dX12_fault_0 : decode cX12_fault 0 = .ok (.aload_n 0, 1) := by decide +kernel
theorem dX12_fault_1 : decode cX12_fault 1 = .ok (.iconst 0, 1) := by decide +kernel
theorem dX12_fault_2 : decode cX12_fault 2 = .ok (.putfield 48, 3) := by decide +kernel
theorem dX12_fault_5 : decode cX12_fault 5 = .ok (.aload_n 0, 1) := by decide +kernel
theorem dX12_fault_6 : decode cX12_fault 6 = .ok (.getfield 106, 3) := by decide +kernel
theorem dX12_fault_9 : decode cX12_fault 9 = .ok (.ireturn, 1) := by decide +kernel
theorem dX12_where_0 : decode cX12_where 0 = .ok (.aload_n 0, 1) := by decide +kernel
theorem dX12_where_1 : decode cX12_where 1 = .ok (.iconst 0, 1) := by decide +kernel
theorem dX12_where_2 : decode cX12_where 2 = .ok (.putfield 48, 3) := by decide +kernel
theorem dX12_where_5 : decode cX12_where 5 = .ok (.aload_n 0, 1) := by decide +kernel
theorem dX12_where_6 : decode cX12_where 6 = .ok (.getfield 9, 3) := by decide +kernel
theorem dX12_where_9 : decode cX12_where 9 = .ok (.ireturn, 1) := by decide +kernel
theorem dX12_starts_0 : decode cX12_starts 0 = .ok (.iconst 0, 1) := by decide +kernel
theorem dX12_starts_1 : decode cX12_starts 1 = .ok (.istore_n 1, 1) := by decide +kernel
theorem dX12_starts_2 : decode cX12_starts 2 = .ok (.iload_n 1, 1) := by decide +kernel
theorem dX12_starts_3 : decode cX12_starts 3 = .ok (.bipush 16, 2) := by decide +kernel
theorem dX12_starts_5 : decode cX12_starts 5 = .ok (.if_icmp .ge 26, 3) := by decide +kernel
theorem dX12_starts_8 : decode cX12_starts 8 = .ok (.aload_n 0, 1) := by decide +kernel
theorem dX12_starts_9 : decode cX12_starts 9 = .ok (.getfield 21, 3) := by decide +kernel
theorem dX12_starts_12 : decode cX12_starts 12 = .ok (.iload_n 1, 1) := by decide +kernel
theorem dX12_starts_13 : decode cX12_starts 13 = .ok (.iload_n 1, 1) := by decide +kernel
theorem dX12_starts_14 : decode cX12_starts 14 = .ok (.iconst 4, 1) := by decide +kernel
theorem dX12_starts_15 : decode cX12_starts 15 = .ok (.if_icmp .ge 8, 3) := by decide +kernel
theorem dX12_starts_18 : decode cX12_starts 18 = .ok (.bipush (-2), 2) := by decide +kernel
theorem dX12_starts_20 : decode cX12_starts 20 = .ok (.goto 4, 3) := by decide +kernel
theorem dX12_starts_23 : decode cX12_starts 23 = .ok (.iconst 0, 1) := by decide +kernel
theorem dX12_starts_24 : decode cX12_starts 24 = .ok (.iastore, 1) := by decide +kernel
theorem dX12_starts_25 : decode cX12_starts 25 = .ok (.iinc 1 1, 3) := by decide +kernel
theorem dX12_starts_28 : decode cX12_starts 28 = .ok (.goto (-26), 3) := by decide +kernel
theorem dX12_starts_31 : decode cX12_starts 31 = .ok (.return_, 1) := by decide +kernel
theorem dX12_many_0 : decode cX12_many 0 = .ok (.iconst 0, 1) := by decide +kernel
theorem dX12_many_1 : decode cX12_many 1 = .ok (.istore_n 2, 1) := by decide +kernel
theorem dX12_many_2 : decode cX12_many 2 = .ok (.iconst 0, 1) := by decide +kernel
theorem dX12_many_3 : decode cX12_many 3 = .ok (.istore_n 3, 1) := by decide +kernel
theorem dX12_many_4 : decode cX12_many 4 = .ok (.iload_n 3, 1) := by decide +kernel
theorem dX12_many_5 : decode cX12_many 5 = .ok (.iconst 4, 1) := by decide +kernel
theorem dX12_many_6 : decode cX12_many 6 = .ok (.if_icmp .ge 26, 3) := by decide +kernel
theorem dX12_many_9 : decode cX12_many 9 = .ok (.iload_n 2, 1) := by decide +kernel
theorem dX12_many_10 : decode cX12_many 10 = .ok (.aload_n 0, 1) := by decide +kernel
theorem dX12_many_11 : decode cX12_many 11 = .ok (.iconst 0, 1) := by decide +kernel
theorem dX12_many_12 : decode cX12_many 12 = .ok (.iload_n 3, 1) := by decide +kernel
theorem dX12_many_13 : decode cX12_many 13 = .ok (.iadd, 1) := by decide +kernel
theorem dX12_many_14 : decode cX12_many 14 = .ok (.iaload, 1) := by decide +kernel
theorem dX12_many_15 : decode cX12_many 15 = .ok (.iload_n 1, 1) := by decide +kernel
theorem dX12_many_16 : decode cX12_many 16 = .ok (.if_icmp .ne 7, 3) := by decide +kernel
theorem dX12_many_19 : decode cX12_many 19 = .ok (.iconst 1, 1) := by decide +kernel
theorem dX12_many_20 : decode cX12_many 20 = .ok (.goto 4, 3) := by decide +kernel
theorem dX12_many_23 : decode cX12_many 23 = .ok (.iconst 0, 1) := by decide +kernel
theorem dX12_many_24 : decode cX12_many 24 = .ok (.iadd, 1) := by decide +kernel
theorem dX12_many_25 : decode cX12_many 25 = .ok (.istore_n 2, 1) := by decide +kernel
theorem dX12_many_26 : decode cX12_many 26 = .ok (.iinc 3 1, 3) := by decide +kernel
theorem dX12_many_29 : decode cX12_many 29 = .ok (.goto (-25), 3) := by decide +kernel
theorem dX12_many_32 : decode cX12_many 32 = .ok (.iload_n 2, 1) := by decide +kernel
theorem dX12_many_33 : decode cX12_many 33 = .ok (.ireturn, 1) := by decide +kernel
theorem dX12_setOf_0 : decode cX12_setOf 0 = .ok (.iconst 0, 1) := by decide +kernel
theorem dX12_setOf_1 : decode cX12_setOf 1 = .ok (.istore_n 3, 1) := by decide +kernel
theorem dX12_setOf_2 : decode cX12_setOf 2 = .ok (.iconst 0, 1) := by decide +kernel
theorem dX12_setOf_3 : decode cX12_setOf 3 = .ok (.istore 4, 2) := by decide +kernel
theorem dX12_setOf_5 : decode cX12_setOf 5 = .ok (.iload 4, 2) := by decide +kernel
theorem dX12_setOf_7 : decode cX12_setOf 7 = .ok (.iconst 4, 1) := by decide +kernel
theorem dX12_setOf_8 : decode cX12_setOf 8 = .ok (.if_icmp .ge 30, 3) := by decide +kernel
theorem dX12_setOf_11 : decode cX12_setOf 11 = .ok (.iload_n 3, 1) := by decide +kernel
theorem dX12_setOf_12 : decode cX12_setOf 12 = .ok (.aload_n 1, 1) := by decide +kernel
theorem dX12_setOf_13 : decode cX12_setOf 13 = .ok (.iconst 0, 1) := by decide +kernel
theorem dX12_setOf_14 : decode cX12_setOf 14 = .ok (.iload 4, 2) := by decide +kernel
theorem dX12_setOf_16 : decode cX12_setOf 16 = .ok (.iadd, 1) := by decide +kernel
theorem dX12_setOf_17 : decode cX12_setOf 17 = .ok (.iaload, 1) := by decide +kernel
theorem dX12_setOf_18 : decode cX12_setOf 18 = .ok (.iload_n 2, 1) := by decide +kernel
theorem dX12_setOf_19 : decode cX12_setOf 19 = .ok (.if_icmp .ne 10, 3) := by decide +kernel
theorem dX12_setOf_22 : decode cX12_setOf 22 = .ok (.iconst 1, 1) := by decide +kernel
theorem dX12_setOf_23 : decode cX12_setOf 23 = .ok (.iload 4, 2) := by decide +kernel
theorem dX12_setOf_25 : decode cX12_setOf 25 = .ok (.ishl, 1) := by decide +kernel
theorem dX12_setOf_26 : decode cX12_setOf 26 = .ok (.goto 4, 3) := by decide +kernel
theorem dX12_setOf_29 : decode cX12_setOf 29 = .ok (.iconst 0, 1) := by decide +kernel
theorem dX12_setOf_30 : decode cX12_setOf 30 = .ok (.ior, 1) := by decide +kernel
theorem dX12_setOf_31 : decode cX12_setOf 31 = .ok (.istore_n 3, 1) := by decide +kernel
theorem dX12_setOf_32 : decode cX12_setOf 32 = .ok (.iinc 4 1, 3) := by decide +kernel
theorem dX12_setOf_35 : decode cX12_setOf 35 = .ok (.goto (-30), 3) := by decide +kernel
theorem dX12_setOf_38 : decode cX12_setOf 38 = .ok (.iload_n 3, 1) := by decide +kernel
theorem dX12_setOf_39 : decode cX12_setOf 39 = .ok (.ireturn, 1) := by decide +kernel
theorem dX12_roomIn_0 : decode cX12_roomIn 0 = .ok (.aload_n 0, 1) := by decide +kernel
theorem dX12_roomIn_1 : decode cX12_roomIn 1 = .ok (.getfield 369, 3) := by decide +kernel
theorem dX12_roomIn_4 : decode cX12_roomIn 4 = .ok (.iload_n 2, 1) := by decide +kernel
theorem dX12_roomIn_5 : decode cX12_roomIn 5 = .ok (.invokevirtual 377, 3) := by decide +kernel
theorem dX12_roomIn_8 : decode cX12_roomIn 8 = .ok (.aload_n 1, 1) := by decide +kernel
theorem dX12_roomIn_9 : decode cX12_roomIn 9 = .ok (.iconst 4, 1) := by decide +kernel
theorem dX12_roomIn_10 : decode cX12_roomIn 10 = .ok (.iload_n 2, 1) := by decide +kernel
theorem dX12_roomIn_11 : decode cX12_roomIn 11 = .ok (.iadd, 1) := by decide +kernel
theorem dX12_roomIn_12 : decode cX12_roomIn 12 = .ok (.iaload, 1) := by decide +kernel
theorem dX12_roomIn_13 : decode cX12_roomIn 13 = .ok (.isub, 1) := by decide +kernel
theorem dX12_roomIn_14 : decode cX12_roomIn 14 = .ok (.istore_n 3, 1) := by decide +kernel
theorem dX12_roomIn_15 : decode cX12_roomIn 15 = .ok (.iload_n 3, 1) := by decide +kernel
theorem dX12_roomIn_16 : decode cX12_roomIn 16 = .ok (.ifCond .le 7, 3) := by decide +kernel
theorem dX12_roomIn_19 : decode cX12_roomIn 19 = .ok (.iload_n 3, 1) := by decide +kernel
theorem dX12_roomIn_20 : decode cX12_roomIn 20 = .ok (.goto 4, 3) := by decide +kernel
theorem dX12_roomIn_23 : decode cX12_roomIn 23 = .ok (.iconst 0, 1) := by decide +kernel
theorem dX12_roomIn_24 : decode cX12_roomIn 24 = .ok (.ireturn, 1) := by decide +kernel
theorem dX12_nearIn_0 : decode cX12_nearIn 0 = .ok (.aload_n 0, 1) := by decide +kernel
theorem dX12_nearIn_1 : decode cX12_nearIn 1 = .ok (.getfield 369, 3) := by decide +kernel
theorem dX12_nearIn_4 : decode cX12_nearIn 4 = .ok (.iload_n 2, 1) := by decide +kernel
theorem dX12_nearIn_5 : decode cX12_nearIn 5 = .ok (.iload_n 3, 1) := by decide +kernel
theorem dX12_nearIn_6 : decode cX12_nearIn 6 = .ok (.iload 4, 2) := by decide +kernel
theorem dX12_nearIn_8 : decode cX12_nearIn 8 = .ok (.iload 5, 2) := by decide +kernel
theorem dX12_nearIn_10 : decode cX12_nearIn 10 = .ok (.aload_n 1, 1) := by decide +kernel
theorem dX12_nearIn_11 : decode cX12_nearIn 11 = .ok (.iload 4, 2) := by decide +kernel
theorem dX12_nearIn_13 : decode cX12_nearIn 13 = .ok (.invokestatic 380, 3) := by decide +kernel
theorem dX12_nearIn_16 : decode cX12_nearIn 16 = .ok (.invokevirtual 384, 3) := by decide +kernel
theorem dX12_nearIn_19 : decode cX12_nearIn 19 = .ok (.ireturn, 1) := by decide +kernel
theorem dX12_hinders_0 : decode cX12_hinders 0 = .ok (.aload_n 0, 1) := by decide +kernel
theorem dX12_hinders_1 : decode cX12_hinders 1 = .ok (.getfield 369, 3) := by decide +kernel
theorem dX12_hinders_4 : decode cX12_hinders 4 = .ok (.iload_n 2, 1) := by decide +kernel
theorem dX12_hinders_5 : decode cX12_hinders 5 = .ok (.iload 4, 2) := by decide +kernel
theorem dX12_hinders_7 : decode cX12_hinders 7 = .ok (.iload 5, 2) := by decide +kernel
theorem dX12_hinders_9 : decode cX12_hinders 9 = .ok (.invokevirtual 388, 3) := by decide +kernel
theorem dX12_hinders_12 : decode cX12_hinders 12 = .ok (.bipush (-2), 2) := by decide +kernel
theorem dX12_hinders_14 : decode cX12_hinders 14 = .ok (.if_icmp .ne 5, 3) := by decide +kernel
theorem dX12_hinders_17 : decode cX12_hinders 17 = .ok (.iconst 2, 1) := by decide +kernel
theorem dX12_hinders_18 : decode cX12_hinders 18 = .ok (.ireturn, 1) := by decide +kernel
theorem dX12_hinders_19 : decode cX12_hinders 19 = .ok (.aload_n 1, 1) := by decide +kernel
theorem dX12_hinders_20 : decode cX12_hinders 20 = .ok (.iconst 0, 1) := by decide +kernel
theorem dX12_hinders_21 : decode cX12_hinders 21 = .ok (.iload_n 3, 1) := by decide +kernel
theorem dX12_hinders_22 : decode cX12_hinders 22 = .ok (.iadd, 1) := by decide +kernel
theorem dX12_hinders_23 : decode cX12_hinders 23 = .ok (.iaload, 1) := by decide +kernel
theorem dX12_hinders_24 : decode cX12_hinders 24 = .ok (.bipush (-2), 2) := by decide +kernel
theorem dX12_hinders_26 : decode cX12_hinders 26 = .ok (.if_icmp .eq 5, 3) := by decide +kernel
theorem dX12_hinders_29 : decode cX12_hinders 29 = .ok (.iconst 3, 1) := by decide +kernel
theorem dX12_hinders_30 : decode cX12_hinders 30 = .ok (.ireturn, 1) := by decide +kernel
theorem dX12_hinders_31 : decode cX12_hinders 31 = .ok (.aload_n 1, 1) := by decide +kernel
theorem dX12_hinders_32 : decode cX12_hinders 32 = .ok (.iload 4, 2) := by decide +kernel
theorem dX12_hinders_34 : decode cX12_hinders 34 = .ok (.invokestatic 380, 3) := by decide +kernel
theorem dX12_hinders_37 : decode cX12_hinders 37 = .ok (.aload_n 0, 1) := by decide +kernel
theorem dX12_hinders_38 : decode cX12_hinders 38 = .ok (.aload_n 1, 1) := by decide +kernel
theorem dX12_hinders_39 : decode cX12_hinders 39 = .ok (.iload 4, 2) := by decide +kernel
theorem dX12_hinders_41 : decode cX12_hinders 41 = .ok (.invokevirtual 392, 3) := by decide +kernel
theorem dX12_hinders_44 : decode cX12_hinders 44 = .ok (.if_icmp .lt 7, 3) := by decide +kernel
theorem dX12_hinders_47 : decode cX12_hinders 47 = .ok (.iconst 4, 1) := by decide +kernel
theorem dX12_hinders_48 : decode cX12_hinders 48 = .ok (.goto 4, 3) := by decide +kernel
theorem dX12_hinders_51 : decode cX12_hinders 51 = .ok (.iconst 0, 1) := by decide +kernel
theorem dX12_hinders_52 : decode cX12_hinders 52 = .ok (.ireturn, 1) := by decide +kernel
theorem dX12_comes_0 : decode cX12_comes 0 = .ok (.aload_n 0, 1) := by decide +kernel
theorem dX12_comes_1 : decode cX12_comes 1 = .ok (.aload_n 1, 1) := by decide +kernel
theorem dX12_comes_2 : decode cX12_comes 2 = .ok (.iload_n 2, 1) := by decide +kernel
theorem dX12_comes_3 : decode cX12_comes 3 = .ok (.iload_n 3, 1) := by decide +kernel
theorem dX12_comes_4 : decode cX12_comes 4 = .ok (.iload 4, 2) := by decide +kernel
theorem dX12_comes_6 : decode cX12_comes 6 = .ok (.iload 5, 2) := by decide +kernel
theorem dX12_comes_8 : decode cX12_comes 8 = .ok (.invokevirtual 395, 3) := by decide +kernel
theorem dX12_comes_11 : decode cX12_comes 11 = .ok (.istore 6, 2) := by decide +kernel
theorem dX12_comes_13 : decode cX12_comes 13 = .ok (.iload 6, 2) := by decide +kernel
theorem dX12_comes_15 : decode cX12_comes 15 = .ok (.ifCond .eq 6, 3) := by decide +kernel
theorem dX12_comes_18 : decode cX12_comes 18 = .ok (.iload 6, 2) := by decide +kernel
theorem dX12_comes_20 : decode cX12_comes 20 = .ok (.ireturn, 1) := by decide +kernel
theorem dX12_comes_21 : decode cX12_comes 21 = .ok (.aload_n 0, 1) := by decide +kernel
theorem dX12_comes_22 : decode cX12_comes 22 = .ok (.aload_n 1, 1) := by decide +kernel
theorem dX12_comes_23 : decode cX12_comes 23 = .ok (.iload_n 2, 1) := by decide +kernel
theorem dX12_comes_24 : decode cX12_comes 24 = .ok (.iload_n 3, 1) := by decide +kernel
theorem dX12_comes_25 : decode cX12_comes 25 = .ok (.iload 4, 2) := by decide +kernel
theorem dX12_comes_27 : decode cX12_comes 27 = .ok (.aload_n 0, 1) := by decide +kernel
theorem dX12_comes_28 : decode cX12_comes 28 = .ok (.getfield 369, 3) := by decide +kernel
theorem dX12_comes_31 : decode cX12_comes 31 = .ok (.iload_n 2, 1) := by decide +kernel
theorem dX12_comes_32 : decode cX12_comes 32 = .ok (.iload 4, 2) := by decide +kernel
theorem dX12_comes_34 : decode cX12_comes 34 = .ok (.iload 5, 2) := by decide +kernel
theorem dX12_comes_36 : decode cX12_comes 36 = .ok (.invokevirtual 388, 3) := by decide +kernel
theorem dX12_comes_39 : decode cX12_comes 39 = .ok (.invokevirtual 399, 3) := by decide +kernel
theorem dX12_comes_42 : decode cX12_comes 42 = .ok (.aload_n 0, 1) := by decide +kernel
theorem dX12_comes_43 : decode cX12_comes 43 = .ok (.getfield 369, 3) := by decide +kernel
theorem dX12_comes_46 : decode cX12_comes 46 = .ok (.getfield 249, 3) := by decide +kernel
theorem dX12_comes_49 : decode cX12_comes 49 = .ok (.if_icmp .le 7, 3) := by decide +kernel
theorem dX12_comes_52 : decode cX12_comes 52 = .ok (.iconst 1, 1) := by decide +kernel
theorem dX12_comes_53 : decode cX12_comes 53 = .ok (.goto 4, 3) := by decide +kernel
theorem dX12_comes_56 : decode cX12_comes 56 = .ok (.iconst 0, 1) := by decide +kernel
theorem dX12_comes_57 : decode cX12_comes 57 = .ok (.ireturn, 1) := by decide +kernel
theorem dX12_does_0 : decode cX12_does 0 = .ok (.iload_n 2, 1) := by decide +kernel
theorem dX12_does_1 : decode cX12_does 1 = .ok (.iconst 1, 1) := by decide +kernel
theorem dX12_does_2 : decode cX12_does 2 = .ok (.if_icmp .ne 23, 3) := by decide +kernel
theorem dX12_does_5 : decode cX12_does 5 = .ok (.aload_n 1, 1) := by decide +kernel
theorem dX12_does_6 : decode cX12_does 6 = .ok (.bipush 9, 2) := by decide +kernel
theorem dX12_does_8 : decode cX12_does 8 = .ok (.iload_n 3, 1) := by decide +kernel
theorem dX12_does_9 : decode cX12_does 9 = .ok (.iadd, 1) := by decide +kernel
theorem dX12_does_10 : decode cX12_does 10 = .ok (.iconst 0, 1) := by decide +kernel
theorem dX12_does_11 : decode cX12_does 11 = .ok (.iastore, 1) := by decide +kernel
theorem dX12_does_12 : decode cX12_does 12 = .ok (.aload_n 1, 1) := by decide +kernel
theorem dX12_does_13 : decode cX12_does 13 = .ok (.bipush 12, 2) := by decide +kernel
theorem dX12_does_15 : decode cX12_does 15 = .ok (.iload_n 3, 1) := by decide +kernel
theorem dX12_does_16 : decode cX12_does 16 = .ok (.iadd, 1) := by decide +kernel
theorem dX12_does_17 : decode cX12_does 17 = .ok (.dup2, 1) := by decide +kernel
theorem dX12_does_18 : decode cX12_does 18 = .ok (.iaload, 1) := by decide +kernel
theorem dX12_does_19 : decode cX12_does 19 = .ok (.iconst 1, 1) := by decide +kernel
theorem dX12_does_20 : decode cX12_does 20 = .ok (.iadd, 1) := by decide +kernel
theorem dX12_does_21 : decode cX12_does 21 = .ok (.iastore, 1) := by decide +kernel
theorem dX12_does_22 : decode cX12_does 22 = .ok (.goto 61, 3) := by decide +kernel
theorem dX12_does_25 : decode cX12_does 25 = .ok (.iload_n 2, 1) := by decide +kernel
theorem dX12_does_26 : decode cX12_does 26 = .ok (.ifCond .ne 57, 3) := by decide +kernel
theorem dX12_does_29 : decode cX12_does 29 = .ok (.aload_n 1, 1) := by decide +kernel
theorem dX12_does_30 : decode cX12_does 30 = .ok (.iconst 0, 1) := by decide +kernel
theorem dX12_does_31 : decode cX12_does 31 = .ok (.iload 4, 2) := by decide +kernel
theorem dX12_does_33 : decode cX12_does 33 = .ok (.iadd, 1) := by decide +kernel
theorem dX12_does_34 : decode cX12_does 34 = .ok (.iload 5, 2) := by decide +kernel
theorem dX12_does_36 : decode cX12_does 36 = .ok (.iastore, 1) := by decide +kernel
theorem dX12_does_37 : decode cX12_does 37 = .ok (.aload_n 1, 1) := by decide +kernel
theorem dX12_does_38 : decode cX12_does 38 = .ok (.bipush 9, 2) := by decide +kernel
theorem dX12_does_40 : decode cX12_does 40 = .ok (.iload_n 3, 1) := by decide +kernel
theorem dX12_does_41 : decode cX12_does 41 = .ok (.iadd, 1) := by decide +kernel
theorem dX12_does_42 : decode cX12_does 42 = .ok (.dup2, 1) := by decide +kernel
theorem dX12_does_43 : decode cX12_does 43 = .ok (.iaload, 1) := by decide +kernel
theorem dX12_does_44 : decode cX12_does 44 = .ok (.aload_n 0, 1) := by decide +kernel
theorem dX12_does_45 : decode cX12_does 45 = .ok (.getfield 369, 3) := by decide +kernel
theorem dX12_does_48 : decode cX12_does 48 = .ok (.getfield 273, 3) := by decide +kernel
theorem dX12_does_51 : decode cX12_does 51 = .ok (.iload 4, 2) := by decide +kernel
theorem dX12_does_53 : decode cX12_does 53 = .ok (.iaload, 1) := by decide +kernel
theorem dX12_does_54 : decode cX12_does 54 = .ok (.iconst 2, 1) := by decide +kernel
theorem dX12_does_55 : decode cX12_does 55 = .ok (.if_icmp .ne 7, 3) := by decide +kernel
theorem dX12_does_58 : decode cX12_does 58 = .ok (.iconst 4, 1) := by decide +kernel
theorem dX12_does_59 : decode cX12_does 59 = .ok (.goto 22, 3) := by decide +kernel
theorem dX12_does_62 : decode cX12_does 62 = .ok (.aload_n 0, 1) := by decide +kernel
theorem dX12_does_63 : decode cX12_does 63 = .ok (.getfield 369, 3) := by decide +kernel
theorem dX12_does_66 : decode cX12_does 66 = .ok (.getfield 273, 3) := by decide +kernel
theorem dX12_does_69 : decode cX12_does 69 = .ok (.iload 4, 2) := by decide +kernel
theorem dX12_does_71 : decode cX12_does 71 = .ok (.iaload, 1) := by decide +kernel
theorem dX12_does_72 : decode cX12_does 72 = .ok (.iconst 1, 1) := by decide +kernel
theorem dX12_does_73 : decode cX12_does 73 = .ok (.if_icmp .ne 7, 3) := by decide +kernel
theorem dX12_does_76 : decode cX12_does 76 = .ok (.iconst 2, 1) := by decide +kernel
theorem dX12_does_77 : decode cX12_does 77 = .ok (.goto 4, 3) := by decide +kernel
theorem dX12_does_80 : decode cX12_does 80 = .ok (.iconst 1, 1) := by decide +kernel
theorem dX12_does_81 : decode cX12_does 81 = .ok (.iadd, 1) := by decide +kernel
theorem dX12_does_82 : decode cX12_does 82 = .ok (.iastore, 1) := by decide +kernel
theorem dX12_does_83 : decode cX12_does 83 = .ok (.return_, 1) := by decide +kernel
theorem dX12_isThing_0 : decode cX12_isThing 0 = .ok (.aload_n 0, 1) := by decide +kernel
theorem dX12_isThing_1 : decode cX12_isThing 1 = .ok (.getfield 369, 3) := by decide +kernel
theorem dX12_isThing_4 : decode cX12_isThing 4 = .ok (.ifnull 22, 3) := by decide +kernel
theorem dX12_isThing_7 : decode cX12_isThing 7 = .ok (.iload_n 1, 1) := by decide +kernel
theorem dX12_isThing_8 : decode cX12_isThing 8 = .ok (.ifCond .lt 18, 3) := by decide +kernel
theorem dX12_isThing_11 : decode cX12_isThing 11 = .ok (.iload_n 1, 1) := by decide +kernel
theorem dX12_isThing_12 : decode cX12_isThing 12 = .ok (.aload_n 0, 1) := by decide +kernel
theorem dX12_isThing_13 : decode cX12_isThing 13 = .ok (.getfield 369, 3) := by decide +kernel
theorem dX12_isThing_16 : decode cX12_isThing 16 = .ok (.getfield 201, 3) := by decide +kernel
theorem dX12_isThing_19 : decode cX12_isThing 19 = .ok (.if_icmp .ge 7, 3) := by decide +kernel
theorem dX12_isThing_22 : decode cX12_isThing 22 = .ok (.iconst 1, 1) := by decide +kernel
theorem dX12_isThing_23 : decode cX12_isThing 23 = .ok (.goto 4, 3) := by decide +kernel
theorem dX12_isThing_26 : decode cX12_isThing 26 = .ok (.iconst 0, 1) := by decide +kernel
theorem dX12_isThing_27 : decode cX12_isThing 27 = .ok (.ireturn, 1) := by decide +kernel
theorem dX12_isPerson_0 : decode cX12_isPerson 0 = .ok (.aload_n 0, 1) := by decide +kernel
theorem dX12_isPerson_1 : decode cX12_isPerson 1 = .ok (.getfield 369, 3) := by decide +kernel
theorem dX12_isPerson_4 : decode cX12_isPerson 4 = .ok (.ifnull 22, 3) := by decide +kernel
theorem dX12_isPerson_7 : decode cX12_isPerson 7 = .ok (.iload_n 1, 1) := by decide +kernel
theorem dX12_isPerson_8 : decode cX12_isPerson 8 = .ok (.ifCond .lt 18, 3) := by decide +kernel
theorem dX12_isPerson_11 : decode cX12_isPerson 11 = .ok (.iload_n 1, 1) := by decide +kernel
theorem dX12_isPerson_12 : decode cX12_isPerson 12 = .ok (.aload_n 0, 1) := by decide +kernel
theorem dX12_isPerson_13 : decode cX12_isPerson 13 = .ok (.getfield 369, 3) := by decide +kernel
theorem dX12_isPerson_16 : decode cX12_isPerson 16 = .ok (.getfield 204, 3) := by decide +kernel
theorem dX12_isPerson_19 : decode cX12_isPerson 19 = .ok (.if_icmp .ge 7, 3) := by decide +kernel
theorem dX12_isPerson_22 : decode cX12_isPerson 22 = .ok (.iconst 1, 1) := by decide +kernel
theorem dX12_isPerson_23 : decode cX12_isPerson 23 = .ok (.goto 4, 3) := by decide +kernel
theorem dX12_isPerson_26 : decode cX12_isPerson 26 = .ok (.iconst 0, 1) := by decide +kernel
theorem dX12_isPerson_27 : decode cX12_isPerson 27 = .ok (.ireturn, 1) := by decide +kernel
theorem dX12_isTram_0 : decode cX12_isTram 0 = .ok (.aload_n 0, 1) := by decide +kernel
theorem dX12_isTram_1 : decode cX12_isTram 1 = .ok (.getfield 369, 3) := by decide +kernel
theorem dX12_isTram_4 : decode cX12_isTram 4 = .ok (.ifnull 22, 3) := by decide +kernel
theorem dX12_isTram_7 : decode cX12_isTram 7 = .ok (.iload_n 1, 1) := by decide +kernel
theorem dX12_isTram_8 : decode cX12_isTram 8 = .ok (.ifCond .lt 18, 3) := by decide +kernel
theorem dX12_isTram_11 : decode cX12_isTram 11 = .ok (.iload_n 1, 1) := by decide +kernel
theorem dX12_isTram_12 : decode cX12_isTram 12 = .ok (.aload_n 0, 1) := by decide +kernel
theorem dX12_isTram_13 : decode cX12_isTram 13 = .ok (.getfield 369, 3) := by decide +kernel
theorem dX12_isTram_16 : decode cX12_isTram 16 = .ok (.getfield 297, 3) := by decide +kernel
theorem dX12_isTram_19 : decode cX12_isTram 19 = .ok (.if_icmp .ge 7, 3) := by decide +kernel
theorem dX12_isTram_22 : decode cX12_isTram 22 = .ok (.iconst 1, 1) := by decide +kernel
theorem dX12_isTram_23 : decode cX12_isTram 23 = .ok (.goto 4, 3) := by decide +kernel
theorem dX12_isTram_26 : decode cX12_isTram 26 = .ok (.iconst 0, 1) := by decide +kernel
theorem dX12_isTram_27 : decode cX12_isTram 27 = .ok (.ireturn, 1) := by decide +kernel
theorem dX12_isGiver_0 : decode cX12_isGiver 0 = .ok (.aload_n 0, 1) := by decide +kernel
theorem dX12_isGiver_1 : decode cX12_isGiver 1 = .ok (.getfield 369, 3) := by decide +kernel
theorem dX12_isGiver_4 : decode cX12_isGiver 4 = .ok (.ifnull 22, 3) := by decide +kernel
theorem dX12_isGiver_7 : decode cX12_isGiver 7 = .ok (.iload_n 1, 1) := by decide +kernel
theorem dX12_isGiver_8 : decode cX12_isGiver 8 = .ok (.ifCond .lt 18, 3) := by decide +kernel
theorem dX12_isGiver_11 : decode cX12_isGiver 11 = .ok (.iload_n 1, 1) := by decide +kernel
theorem dX12_isGiver_12 : decode cX12_isGiver 12 = .ok (.aload_n 0, 1) := by decide +kernel
theorem dX12_isGiver_13 : decode cX12_isGiver 13 = .ok (.getfield 369, 3) := by decide +kernel
theorem dX12_isGiver_16 : decode cX12_isGiver 16 = .ok (.getfield 207, 3) := by decide +kernel
theorem dX12_isGiver_19 : decode cX12_isGiver 19 = .ok (.if_icmp .ge 7, 3) := by decide +kernel
theorem dX12_isGiver_22 : decode cX12_isGiver 22 = .ok (.iconst 1, 1) := by decide +kernel
theorem dX12_isGiver_23 : decode cX12_isGiver 23 = .ok (.goto 4, 3) := by decide +kernel
theorem dX12_isGiver_26 : decode cX12_isGiver 26 = .ok (.iconst 0, 1) := by decide +kernel
theorem dX12_isGiver_27 : decode cX12_isGiver 27 = .ok (.ireturn, 1) := by decide +kernel
theorem dX12_isDay_0 : decode cX12_isDay 0 = .ok (.aload_n 0, 1) := by decide +kernel
theorem dX12_isDay_1 : decode cX12_isDay 1 = .ok (.getfield 369, 3) := by decide +kernel
theorem dX12_isDay_4 : decode cX12_isDay 4 = .ok (.ifnull 22, 3) := by decide +kernel
theorem dX12_isDay_7 : decode cX12_isDay 7 = .ok (.iload_n 1, 1) := by decide +kernel
theorem dX12_isDay_8 : decode cX12_isDay 8 = .ok (.ifCond .lt 18, 3) := by decide +kernel
theorem dX12_isDay_11 : decode cX12_isDay 11 = .ok (.iload_n 1, 1) := by decide +kernel
theorem dX12_isDay_12 : decode cX12_isDay 12 = .ok (.aload_n 0, 1) := by decide +kernel
theorem dX12_isDay_13 : decode cX12_isDay 13 = .ok (.getfield 369, 3) := by decide +kernel
theorem dX12_isDay_16 : decode cX12_isDay 16 = .ok (.getfield 166, 3) := by decide +kernel
theorem dX12_isDay_19 : decode cX12_isDay 19 = .ok (.if_icmp .ge 7, 3) := by decide +kernel
theorem dX12_isDay_22 : decode cX12_isDay 22 = .ok (.iconst 1, 1) := by decide +kernel
theorem dX12_isDay_23 : decode cX12_isDay 23 = .ok (.goto 4, 3) := by decide +kernel
theorem dX12_isDay_26 : decode cX12_isDay 26 = .ok (.iconst 0, 1) := by decide +kernel
theorem dX12_isDay_27 : decode cX12_isDay 27 = .ok (.ireturn, 1) := by decide +kernel
theorem dX12_refusesDay_0 : decode cX12_refusesDay 0 = .ok (.iload_n 1, 1) := by decide +kernel
theorem dX12_refusesDay_1 : decode cX12_refusesDay 1 = .ok (.ifCond .ne 7, 3) := by decide +kernel
theorem dX12_refusesDay_4 : decode cX12_refusesDay 4 = .ok (.iconst 1, 1) := by decide +kernel
theorem dX12_refusesDay_5 : decode cX12_refusesDay 5 = .ok (.goto 16, 3) := by decide +kernel
theorem dX12_refusesDay_8 : decode cX12_refusesDay 8 = .ok (.aload_n 0, 1) := by decide +kernel
theorem dX12_refusesDay_9 : decode cX12_refusesDay 9 = .ok (.iload_n 2, 1) := by decide +kernel
theorem dX12_refusesDay_10 : decode cX12_refusesDay 10 = .ok (.invokevirtual 402, 3) := by decide +kernel
theorem dX12_refusesDay_13 : decode cX12_refusesDay 13 = .ok (.ifCond .eq 7, 3) := by decide +kernel
theorem dX12_refusesDay_16 : decode cX12_refusesDay 16 = .ok (.iconst 0, 1) := by decide +kernel
theorem dX12_refusesDay_17 : decode cX12_refusesDay 17 = .ok (.goto 4, 3) := by decide +kernel
theorem dX12_refusesDay_20 : decode cX12_refusesDay 20 = .ok (.iconst 2, 1) := by decide +kernel
theorem dX12_refusesDay_21 : decode cX12_refusesDay 21 = .ok (.ireturn, 1) := by decide +kernel
theorem dX12_thing_0 : decode cX12_thing 0 = .ok (.aload_n 0, 1) := by decide +kernel
theorem dX12_thing_1 : decode cX12_thing 1 = .ok (.iconst 0, 1) := by decide +kernel
theorem dX12_thing_2 : decode cX12_thing 2 = .ok (.putfield 48, 3) := by decide +kernel
theorem dX12_thing_5 : decode cX12_thing 5 = .ok (.aload_n 0, 1) := by decide +kernel
theorem dX12_thing_6 : decode cX12_thing 6 = .ok (.iload_n 1, 1) := by decide +kernel
theorem dX12_thing_7 : decode cX12_thing 7 = .ok (.invokevirtual 405, 3) := by decide +kernel
theorem dX12_thing_10 : decode cX12_thing 10 = .ok (.ifCond .eq 12, 3) := by decide +kernel
theorem dX12_thing_13 : decode cX12_thing 13 = .ok (.iload_n 2, 1) := by decide +kernel
theorem dX12_thing_14 : decode cX12_thing 14 = .ok (.iconst 0, 1) := by decide +kernel
theorem dX12_thing_15 : decode cX12_thing 15 = .ok (.iconst 2, 1) := by decide +kernel
theorem dX12_thing_16 : decode cX12_thing 16 = .ok (.invokestatic 127, 3) := by decide +kernel
theorem dX12_thing_19 : decode cX12_thing 19 = .ok (.ifCond .ne 9, 3) := by decide +kernel
theorem dX12_thing_22 : decode cX12_thing 22 = .ok (.aload_n 0, 1) := by decide +kernel
theorem dX12_thing_23 : decode cX12_thing 23 = .ok (.iconst 1, 1) := by decide +kernel
theorem dX12_thing_24 : decode cX12_thing 24 = .ok (.invokevirtual 54, 3) := by decide +kernel
theorem dX12_thing_27 : decode cX12_thing 27 = .ok (.ireturn, 1) := by decide +kernel
theorem dX12_thing_28 : decode cX12_thing 28 = .ok (.aload_n 0, 1) := by decide +kernel
theorem dX12_thing_29 : decode cX12_thing 29 = .ok (.iload_n 2, 1) := by decide +kernel
theorem dX12_thing_30 : decode cX12_thing 30 = .ok (.ifCond .ne 15, 3) := by decide +kernel
theorem dX12_thing_33 : decode cX12_thing 33 = .ok (.aload_n 0, 1) := by decide +kernel
theorem dX12_thing_34 : decode cX12_thing 34 = .ok (.getfield 369, 3) := by decide +kernel
theorem dX12_thing_37 : decode cX12_thing 37 = .ok (.getfield 273, 3) := by decide +kernel
theorem dX12_thing_40 : decode cX12_thing 40 = .ok (.iload_n 1, 1) := by decide +kernel
theorem dX12_thing_41 : decode cX12_thing 41 = .ok (.iaload, 1) := by decide +kernel
theorem dX12_thing_42 : decode cX12_thing 42 = .ok (.goto 28, 3) := by decide +kernel
theorem dX12_thing_45 : decode cX12_thing 45 = .ok (.iload_n 2, 1) := by decide +kernel
theorem dX12_thing_46 : decode cX12_thing 46 = .ok (.iconst 1, 1) := by decide +kernel
theorem dX12_thing_47 : decode cX12_thing 47 = .ok (.if_icmp .ne 15, 3) := by decide +kernel
theorem dX12_thing_50 : decode cX12_thing 50 = .ok (.aload_n 0, 1) := by decide +kernel
theorem dX12_thing_51 : decode cX12_thing 51 = .ok (.getfield 369, 3) := by decide +kernel
theorem dX12_thing_54 : decode cX12_thing 54 = .ok (.getfield 276, 3) := by decide +kernel
theorem dX12_thing_57 : decode cX12_thing 57 = .ok (.iload_n 1, 1) := by decide +kernel
theorem dX12_thing_58 : decode cX12_thing 58 = .ok (.iaload, 1) := by decide +kernel
theorem dX12_thing_59 : decode cX12_thing 59 = .ok (.goto 11, 3) := by decide +kernel
theorem dX12_thing_62 : decode cX12_thing 62 = .ok (.aload_n 0, 1) := by decide +kernel
theorem dX12_thing_63 : decode cX12_thing 63 = .ok (.getfield 17, 3) := by decide +kernel
theorem dX12_thing_66 : decode cX12_thing 66 = .ok (.iconst 0, 1) := by decide +kernel
theorem dX12_thing_67 : decode cX12_thing 67 = .ok (.iload_n 1, 1) := by decide +kernel
theorem dX12_thing_68 : decode cX12_thing 68 = .ok (.iadd, 1) := by decide +kernel
theorem dX12_thing_69 : decode cX12_thing 69 = .ok (.iaload, 1) := by decide +kernel
theorem dX12_thing_70 : decode cX12_thing 70 = .ok (.invokevirtual 58, 3) := by decide +kernel
theorem dX12_thing_73 : decode cX12_thing 73 = .ok (.ireturn, 1) := by decide +kernel
theorem dX12_person_0 : decode cX12_person 0 = .ok (.aload_n 0, 1) := by decide +kernel
theorem dX12_person_1 : decode cX12_person 1 = .ok (.iconst 0, 1) := by decide +kernel
theorem dX12_person_2 : decode cX12_person 2 = .ok (.putfield 48, 3) := by decide +kernel
theorem dX12_person_5 : decode cX12_person 5 = .ok (.aload_n 0, 1) := by decide +kernel
theorem dX12_person_6 : decode cX12_person 6 = .ok (.iload_n 1, 1) := by decide +kernel
theorem dX12_person_7 : decode cX12_person 7 = .ok (.invokevirtual 408, 3) := by decide +kernel
theorem dX12_person_10 : decode cX12_person 10 = .ok (.ifCond .eq 12, 3) := by decide +kernel
theorem dX12_person_13 : decode cX12_person 13 = .ok (.iload_n 2, 1) := by decide +kernel
theorem dX12_person_14 : decode cX12_person 14 = .ok (.iconst 0, 1) := by decide +kernel
theorem dX12_person_15 : decode cX12_person 15 = .ok (.iconst 3, 1) := by decide +kernel
theorem dX12_person_16 : decode cX12_person 16 = .ok (.invokestatic 127, 3) := by decide +kernel
theorem dX12_person_19 : decode cX12_person 19 = .ok (.ifCond .ne 9, 3) := by decide +kernel
theorem dX12_person_22 : decode cX12_person 22 = .ok (.aload_n 0, 1) := by decide +kernel
theorem dX12_person_23 : decode cX12_person 23 = .ok (.iconst 1, 1) := by decide +kernel
theorem dX12_person_24 : decode cX12_person 24 = .ok (.invokevirtual 54, 3) := by decide +kernel
theorem dX12_person_27 : decode cX12_person 27 = .ok (.ireturn, 1) := by decide +kernel
theorem dX12_person_28 : decode cX12_person 28 = .ok (.aload_n 0, 1) := by decide +kernel
theorem dX12_person_29 : decode cX12_person 29 = .ok (.iload_n 2, 1) := by decide +kernel
theorem dX12_person_30 : decode cX12_person 30 = .ok (.ifCond .ne 15, 3) := by decide +kernel
theorem dX12_person_33 : decode cX12_person 33 = .ok (.aload_n 0, 1) := by decide +kernel
theorem dX12_person_34 : decode cX12_person 34 = .ok (.getfield 369, 3) := by decide +kernel
theorem dX12_person_37 : decode cX12_person 37 = .ok (.getfield 290, 3) := by decide +kernel
theorem dX12_person_40 : decode cX12_person 40 = .ok (.iload_n 1, 1) := by decide +kernel
theorem dX12_person_41 : decode cX12_person 41 = .ok (.iaload, 1) := by decide +kernel
theorem dX12_person_42 : decode cX12_person 42 = .ok (.goto 46, 3) := by decide +kernel
theorem dX12_person_45 : decode cX12_person 45 = .ok (.iload_n 2, 1) := by decide +kernel
theorem dX12_person_46 : decode cX12_person 46 = .ok (.iconst 1, 1) := by decide +kernel
theorem dX12_person_47 : decode cX12_person 47 = .ok (.if_icmp .ne 15, 3) := by decide +kernel
theorem dX12_person_50 : decode cX12_person 50 = .ok (.aload_n 0, 1) := by decide +kernel
theorem dX12_person_51 : decode cX12_person 51 = .ok (.aload_n 0, 1) := by decide +kernel
theorem dX12_person_52 : decode cX12_person 52 = .ok (.getfield 17, 3) := by decide +kernel
theorem dX12_person_55 : decode cX12_person 55 = .ok (.iload_n 1, 1) := by decide +kernel
theorem dX12_person_56 : decode cX12_person 56 = .ok (.invokevirtual 392, 3) := by decide +kernel
theorem dX12_person_59 : decode cX12_person 59 = .ok (.goto 29, 3) := by decide +kernel
theorem dX12_person_62 : decode cX12_person 62 = .ok (.iload_n 2, 1) := by decide +kernel
theorem dX12_person_63 : decode cX12_person 63 = .ok (.iconst 2, 1) := by decide +kernel
theorem dX12_person_64 : decode cX12_person 64 = .ok (.if_icmp .ne 15, 3) := by decide +kernel
theorem dX12_person_67 : decode cX12_person 67 = .ok (.aload_n 0, 1) := by decide +kernel
theorem dX12_person_68 : decode cX12_person 68 = .ok (.getfield 369, 3) := by decide +kernel
theorem dX12_person_71 : decode cX12_person 71 = .ok (.getfield 295, 3) := by decide +kernel
theorem dX12_person_74 : decode cX12_person 74 = .ok (.iload_n 1, 1) := by decide +kernel
theorem dX12_person_75 : decode cX12_person 75 = .ok (.iaload, 1) := by decide +kernel
theorem dX12_person_76 : decode cX12_person 76 = .ok (.goto 12, 3) := by decide +kernel
theorem dX12_person_79 : decode cX12_person 79 = .ok (.aload_n 0, 1) := by decide +kernel
theorem dX12_person_80 : decode cX12_person 80 = .ok (.aload_n 0, 1) := by decide +kernel
theorem dX12_person_81 : decode cX12_person 81 = .ok (.getfield 17, 3) := by decide +kernel
theorem dX12_person_84 : decode cX12_person 84 = .ok (.iload_n 1, 1) := by decide +kernel
theorem dX12_person_85 : decode cX12_person 85 = .ok (.invokevirtual 411, 3) := by decide +kernel
theorem dX12_person_88 : decode cX12_person 88 = .ok (.invokevirtual 58, 3) := by decide +kernel
theorem dX12_person_91 : decode cX12_person 91 = .ok (.ireturn, 1) := by decide +kernel
theorem dX12_giver_0 : decode cX12_giver 0 = .ok (.aload_n 0, 1) := by decide +kernel
theorem dX12_giver_1 : decode cX12_giver 1 = .ok (.iconst 0, 1) := by decide +kernel
theorem dX12_giver_2 : decode cX12_giver 2 = .ok (.putfield 48, 3) := by decide +kernel
theorem dX12_giver_5 : decode cX12_giver 5 = .ok (.aload_n 0, 1) := by decide +kernel
theorem dX12_giver_6 : decode cX12_giver 6 = .ok (.iload_n 1, 1) := by decide +kernel
theorem dX12_giver_7 : decode cX12_giver 7 = .ok (.invokevirtual 414, 3) := by decide +kernel
theorem dX12_giver_10 : decode cX12_giver 10 = .ok (.ifCond .eq 12, 3) := by decide +kernel
theorem dX12_giver_13 : decode cX12_giver 13 = .ok (.iload_n 2, 1) := by decide +kernel
theorem dX12_giver_14 : decode cX12_giver 14 = .ok (.iconst 0, 1) := by decide +kernel
theorem dX12_giver_15 : decode cX12_giver 15 = .ok (.iconst 2, 1) := by decide +kernel
theorem dX12_giver_16 : decode cX12_giver 16 = .ok (.invokestatic 127, 3) := by decide +kernel
theorem dX12_giver_19 : decode cX12_giver 19 = .ok (.ifCond .ne 9, 3) := by decide +kernel
theorem dX12_giver_22 : decode cX12_giver 22 = .ok (.aload_n 0, 1) := by decide +kernel
theorem dX12_giver_23 : decode cX12_giver 23 = .ok (.iconst 1, 1) := by decide +kernel
theorem dX12_giver_24 : decode cX12_giver 24 = .ok (.invokevirtual 54, 3) := by decide +kernel
theorem dX12_giver_27 : decode cX12_giver 27 = .ok (.ireturn, 1) := by decide +kernel
theorem dX12_giver_28 : decode cX12_giver 28 = .ok (.aload_n 0, 1) := by decide +kernel
theorem dX12_giver_29 : decode cX12_giver 29 = .ok (.iload_n 2, 1) := by decide +kernel
theorem dX12_giver_30 : decode cX12_giver 30 = .ok (.ifCond .ne 15, 3) := by decide +kernel
theorem dX12_giver_33 : decode cX12_giver 33 = .ok (.aload_n 0, 1) := by decide +kernel
theorem dX12_giver_34 : decode cX12_giver 34 = .ok (.getfield 369, 3) := by decide +kernel
theorem dX12_giver_37 : decode cX12_giver 37 = .ok (.getfield 310, 3) := by decide +kernel
theorem dX12_giver_40 : decode cX12_giver 40 = .ok (.iload_n 1, 1) := by decide +kernel
theorem dX12_giver_41 : decode cX12_giver 41 = .ok (.iaload, 1) := by decide +kernel
theorem dX12_giver_42 : decode cX12_giver 42 = .ok (.goto 29, 3) := by decide +kernel
theorem dX12_giver_45 : decode cX12_giver 45 = .ok (.iload_n 2, 1) := by decide +kernel
theorem dX12_giver_46 : decode cX12_giver 46 = .ok (.iconst 1, 1) := by decide +kernel
theorem dX12_giver_47 : decode cX12_giver 47 = .ok (.if_icmp .ne 15, 3) := by decide +kernel
theorem dX12_giver_50 : decode cX12_giver 50 = .ok (.aload_n 0, 1) := by decide +kernel
theorem dX12_giver_51 : decode cX12_giver 51 = .ok (.getfield 17, 3) := by decide +kernel
theorem dX12_giver_54 : decode cX12_giver 54 = .ok (.bipush 9, 2) := by decide +kernel
theorem dX12_giver_56 : decode cX12_giver 56 = .ok (.iload_n 1, 1) := by decide +kernel
theorem dX12_giver_57 : decode cX12_giver 57 = .ok (.iadd, 1) := by decide +kernel
theorem dX12_giver_58 : decode cX12_giver 58 = .ok (.iaload, 1) := by decide +kernel
theorem dX12_giver_59 : decode cX12_giver 59 = .ok (.goto 12, 3) := by decide +kernel
theorem dX12_giver_62 : decode cX12_giver 62 = .ok (.aload_n 0, 1) := by decide +kernel
theorem dX12_giver_63 : decode cX12_giver 63 = .ok (.getfield 17, 3) := by decide +kernel
theorem dX12_giver_66 : decode cX12_giver 66 = .ok (.bipush 12, 2) := by decide +kernel
theorem dX12_giver_68 : decode cX12_giver 68 = .ok (.iload_n 1, 1) := by decide +kernel
theorem dX12_giver_69 : decode cX12_giver 69 = .ok (.iadd, 1) := by decide +kernel
theorem dX12_giver_70 : decode cX12_giver 70 = .ok (.iaload, 1) := by decide +kernel
theorem dX12_giver_71 : decode cX12_giver 71 = .ok (.invokevirtual 58, 3) := by decide +kernel
theorem dX12_giver_74 : decode cX12_giver 74 = .ok (.ireturn, 1) := by decide +kernel
theorem dX12_rides_0 : decode cX12_rides 0 = .ok (.aload_n 0, 1) := by decide +kernel
theorem dX12_rides_1 : decode cX12_rides 1 = .ok (.iconst 0, 1) := by decide +kernel
theorem dX12_rides_2 : decode cX12_rides 2 = .ok (.putfield 48, 3) := by decide +kernel
theorem dX12_rides_5 : decode cX12_rides 5 = .ok (.aload_n 0, 1) := by decide +kernel
theorem dX12_rides_6 : decode cX12_rides 6 = .ok (.aload_n 0, 1) := by decide +kernel
theorem dX12_rides_7 : decode cX12_rides 7 = .ok (.iload_n 1, 1) := by decide +kernel
theorem dX12_rides_8 : decode cX12_rides 8 = .ok (.invokevirtual 408, 3) := by decide +kernel
theorem dX12_rides_11 : decode cX12_rides 11 = .ok (.iload_n 2, 1) := by decide +kernel
theorem dX12_rides_12 : decode cX12_rides 12 = .ok (.invokevirtual 417, 3) := by decide +kernel
theorem dX12_rides_15 : decode cX12_rides 15 = .ok (.istore_n 3, 1) := by decide +kernel
theorem dX12_rides_16 : decode cX12_rides 16 = .ok (.iload_n 3, 1) := by decide +kernel
theorem dX12_rides_17 : decode cX12_rides 17 = .ok (.ifCond .le 11, 3) := by decide +kernel
theorem dX12_rides_20 : decode cX12_rides 20 = .ok (.aload_n 0, 1) := by decide +kernel
theorem dX12_rides_21 : decode cX12_rides 21 = .ok (.iload_n 3, 1) := by decide +kernel
theorem dX12_rides_22 : decode cX12_rides 22 = .ok (.invokevirtual 54, 3) := by decide +kernel
theorem dX12_rides_25 : decode cX12_rides 25 = .ok (.goto 21, 3) := by decide +kernel
theorem dX12_rides_28 : decode cX12_rides 28 = .ok (.aload_n 0, 1) := by decide +kernel
theorem dX12_rides_29 : decode cX12_rides 29 = .ok (.aload_n 0, 1) := by decide +kernel
theorem dX12_rides_30 : decode cX12_rides 30 = .ok (.getfield 369, 3) := by decide +kernel
theorem dX12_rides_33 : decode cX12_rides 33 = .ok (.getfield 225, 3) := by decide +kernel
theorem dX12_rides_36 : decode cX12_rides 36 = .ok (.bipush 7, 2) := by decide +kernel
theorem dX12_rides_38 : decode cX12_rides 38 = .ok (.iload_n 1, 1) := by decide +kernel
theorem dX12_rides_39 : decode cX12_rides 39 = .ok (.imul, 1) := by decide +kernel
theorem dX12_rides_40 : decode cX12_rides 40 = .ok (.iload_n 2, 1) := by decide +kernel
theorem dX12_rides_41 : decode cX12_rides 41 = .ok (.iadd, 1) := by decide +kernel
theorem dX12_rides_42 : decode cX12_rides 42 = .ok (.iaload, 1) := by decide +kernel
theorem dX12_rides_43 : decode cX12_rides 43 = .ok (.invokevirtual 58, 3) := by decide +kernel
theorem dX12_rides_46 : decode cX12_rides 46 = .ok (.ireturn, 1) := by decide +kernel
theorem dX12_takes_0 : decode cX12_takes 0 = .ok (.aload_n 0, 1) := by decide +kernel
theorem dX12_takes_1 : decode cX12_takes 1 = .ok (.iconst 0, 1) := by decide +kernel
theorem dX12_takes_2 : decode cX12_takes 2 = .ok (.putfield 48, 3) := by decide +kernel
theorem dX12_takes_5 : decode cX12_takes 5 = .ok (.aload_n 0, 1) := by decide +kernel
theorem dX12_takes_6 : decode cX12_takes 6 = .ok (.aload_n 0, 1) := by decide +kernel
theorem dX12_takes_7 : decode cX12_takes 7 = .ok (.iload_n 1, 1) := by decide +kernel
theorem dX12_takes_8 : decode cX12_takes 8 = .ok (.invokevirtual 414, 3) := by decide +kernel
theorem dX12_takes_11 : decode cX12_takes 11 = .ok (.iload_n 2, 1) := by decide +kernel
theorem dX12_takes_12 : decode cX12_takes 12 = .ok (.invokevirtual 417, 3) := by decide +kernel
theorem dX12_takes_15 : decode cX12_takes 15 = .ok (.istore_n 3, 1) := by decide +kernel
theorem dX12_takes_16 : decode cX12_takes 16 = .ok (.iload_n 3, 1) := by decide +kernel
theorem dX12_takes_17 : decode cX12_takes 17 = .ok (.ifCond .le 11, 3) := by decide +kernel
theorem dX12_takes_20 : decode cX12_takes 20 = .ok (.aload_n 0, 1) := by decide +kernel
theorem dX12_takes_21 : decode cX12_takes 21 = .ok (.iload_n 3, 1) := by decide +kernel
theorem dX12_takes_22 : decode cX12_takes 22 = .ok (.invokevirtual 54, 3) := by decide +kernel
theorem dX12_takes_25 : decode cX12_takes 25 = .ok (.goto 21, 3) := by decide +kernel
theorem dX12_takes_28 : decode cX12_takes 28 = .ok (.aload_n 0, 1) := by decide +kernel
theorem dX12_takes_29 : decode cX12_takes 29 = .ok (.aload_n 0, 1) := by decide +kernel
theorem dX12_takes_30 : decode cX12_takes 30 = .ok (.getfield 369, 3) := by decide +kernel
theorem dX12_takes_33 : decode cX12_takes 33 = .ok (.getfield 231, 3) := by decide +kernel
theorem dX12_takes_36 : decode cX12_takes 36 = .ok (.bipush 7, 2) := by decide +kernel
theorem dX12_takes_38 : decode cX12_takes 38 = .ok (.iload_n 1, 1) := by decide +kernel
theorem dX12_takes_39 : decode cX12_takes 39 = .ok (.imul, 1) := by decide +kernel
theorem dX12_takes_40 : decode cX12_takes 40 = .ok (.iload_n 2, 1) := by decide +kernel
theorem dX12_takes_41 : decode cX12_takes 41 = .ok (.iadd, 1) := by decide +kernel
theorem dX12_takes_42 : decode cX12_takes 42 = .ok (.iaload, 1) := by decide +kernel
theorem dX12_takes_43 : decode cX12_takes 43 = .ok (.invokevirtual 58, 3) := by decide +kernel
theorem dX12_takes_46 : decode cX12_takes 46 = .ok (.ireturn, 1) := by decide +kernel
theorem dX12_meet_0 : decode cX12_meet 0 = .ok (.aload_n 0, 1) := by decide +kernel
theorem dX12_meet_1 : decode cX12_meet 1 = .ok (.iconst 0, 1) := by decide +kernel
theorem dX12_meet_2 : decode cX12_meet 2 = .ok (.putfield 48, 3) := by decide +kernel
theorem dX12_meet_5 : decode cX12_meet 5 = .ok (.aload_n 0, 1) := by decide +kernel
theorem dX12_meet_6 : decode cX12_meet 6 = .ok (.iload_n 1, 1) := by decide +kernel
theorem dX12_meet_7 : decode cX12_meet 7 = .ok (.invokevirtual 414, 3) := by decide +kernel
theorem dX12_meet_10 : decode cX12_meet 10 = .ok (.ifCond .eq 16, 3) := by decide +kernel
theorem dX12_meet_13 : decode cX12_meet 13 = .ok (.aload_n 0, 1) := by decide +kernel
theorem dX12_meet_14 : decode cX12_meet 14 = .ok (.iload_n 2, 1) := by decide +kernel
theorem dX12_meet_15 : decode cX12_meet 15 = .ok (.invokevirtual 414, 3) := by decide +kernel
theorem dX12_meet_18 : decode cX12_meet 18 = .ok (.ifCond .eq 8, 3) := by decide +kernel
theorem dX12_meet_21 : decode cX12_meet 21 = .ok (.iload_n 1, 1) := by decide +kernel
theorem dX12_meet_22 : decode cX12_meet 22 = .ok (.iload_n 2, 1) := by decide +kernel
theorem dX12_meet_23 : decode cX12_meet 23 = .ok (.if_icmp .ne 9, 3) := by decide +kernel
theorem dX12_meet_26 : decode cX12_meet 26 = .ok (.aload_n 0, 1) := by decide +kernel
theorem dX12_meet_27 : decode cX12_meet 27 = .ok (.iconst 1, 1) := by decide +kernel
theorem dX12_meet_28 : decode cX12_meet 28 = .ok (.invokevirtual 54, 3) := by decide +kernel
theorem dX12_meet_31 : decode cX12_meet 31 = .ok (.ireturn, 1) := by decide +kernel
theorem dX12_meet_32 : decode cX12_meet 32 = .ok (.iconst 0, 1) := by decide +kernel
theorem dX12_meet_33 : decode cX12_meet 33 = .ok (.istore_n 3, 1) := by decide +kernel
theorem dX12_meet_34 : decode cX12_meet 34 = .ok (.iconst 0, 1) := by decide +kernel
theorem dX12_meet_35 : decode cX12_meet 35 = .ok (.istore 4, 2) := by decide +kernel
theorem dX12_meet_37 : decode cX12_meet 37 = .ok (.iload 4, 2) := by decide +kernel
theorem dX12_meet_39 : decode cX12_meet 39 = .ok (.aload_n 0, 1) := by decide +kernel
theorem dX12_meet_40 : decode cX12_meet 40 = .ok (.getfield 369, 3) := by decide +kernel
theorem dX12_meet_43 : decode cX12_meet 43 = .ok (.getfield 166, 3) := by decide +kernel
theorem dX12_meet_46 : decode cX12_meet 46 = .ok (.if_icmp .ge 73, 3) := by decide +kernel
theorem dX12_meet_49 : decode cX12_meet 49 = .ok (.iload_n 3, 1) := by decide +kernel
theorem dX12_meet_50 : decode cX12_meet 50 = .ok (.aload_n 0, 1) := by decide +kernel
theorem dX12_meet_51 : decode cX12_meet 51 = .ok (.getfield 369, 3) := by decide +kernel
theorem dX12_meet_54 : decode cX12_meet 54 = .ok (.getfield 231, 3) := by decide +kernel
theorem dX12_meet_57 : decode cX12_meet 57 = .ok (.bipush 7, 2) := by decide +kernel
theorem dX12_meet_59 : decode cX12_meet 59 = .ok (.iload_n 1, 1) := by decide +kernel
theorem dX12_meet_60 : decode cX12_meet 60 = .ok (.imul, 1) := by decide +kernel
theorem dX12_meet_61 : decode cX12_meet 61 = .ok (.iload 4, 2) := by decide +kernel
theorem dX12_meet_63 : decode cX12_meet 63 = .ok (.iadd, 1) := by decide +kernel
theorem dX12_meet_64 : decode cX12_meet 64 = .ok (.iaload, 1) := by decide +kernel
theorem dX12_meet_65 : decode cX12_meet 65 = .ok (.bipush (-2), 2) := by decide +kernel
theorem dX12_meet_67 : decode cX12_meet 67 = .ok (.if_icmp .eq 43, 3) := by decide +kernel
theorem dX12_meet_70 : decode cX12_meet 70 = .ok (.aload_n 0, 1) := by decide +kernel
theorem dX12_meet_71 : decode cX12_meet 71 = .ok (.getfield 369, 3) := by decide +kernel
theorem dX12_meet_74 : decode cX12_meet 74 = .ok (.getfield 231, 3) := by decide +kernel
theorem dX12_meet_77 : decode cX12_meet 77 = .ok (.bipush 7, 2) := by decide +kernel
theorem dX12_meet_79 : decode cX12_meet 79 = .ok (.iload_n 1, 1) := by decide +kernel
theorem dX12_meet_80 : decode cX12_meet 80 = .ok (.imul, 1) := by decide +kernel
theorem dX12_meet_81 : decode cX12_meet 81 = .ok (.iload 4, 2) := by decide +kernel
theorem dX12_meet_83 : decode cX12_meet 83 = .ok (.iadd, 1) := by decide +kernel
theorem dX12_meet_84 : decode cX12_meet 84 = .ok (.iaload, 1) := by decide +kernel
theorem dX12_meet_85 : decode cX12_meet 85 = .ok (.aload_n 0, 1) := by decide +kernel
theorem dX12_meet_86 : decode cX12_meet 86 = .ok (.getfield 369, 3) := by decide +kernel
theorem dX12_meet_89 : decode cX12_meet 89 = .ok (.getfield 231, 3) := by decide +kernel
theorem dX12_meet_92 : decode cX12_meet 92 = .ok (.bipush 7, 2) := by decide +kernel
theorem dX12_meet_94 : decode cX12_meet 94 = .ok (.iload_n 2, 1) := by decide +kernel
theorem dX12_meet_95 : decode cX12_meet 95 = .ok (.imul, 1) := by decide +kernel
theorem dX12_meet_96 : decode cX12_meet 96 = .ok (.iload 4, 2) := by decide +kernel
theorem dX12_meet_98 : decode cX12_meet 98 = .ok (.iadd, 1) := by decide +kernel
theorem dX12_meet_99 : decode cX12_meet 99 = .ok (.iaload, 1) := by decide +kernel
theorem dX12_meet_100 : decode cX12_meet 100 = .ok (.if_icmp .ne 10, 3) := by decide +kernel
theorem dX12_meet_103 : decode cX12_meet 103 = .ok (.iconst 1, 1) := by decide +kernel
theorem dX12_meet_104 : decode cX12_meet 104 = .ok (.iload 4, 2) := by decide +kernel
theorem dX12_meet_106 : decode cX12_meet 106 = .ok (.ishl, 1) := by decide +kernel
theorem dX12_meet_107 : decode cX12_meet 107 = .ok (.goto 4, 3) := by decide +kernel
theorem dX12_meet_110 : decode cX12_meet 110 = .ok (.iconst 0, 1) := by decide +kernel
theorem dX12_meet_111 : decode cX12_meet 111 = .ok (.ior, 1) := by decide +kernel
theorem dX12_meet_112 : decode cX12_meet 112 = .ok (.istore_n 3, 1) := by decide +kernel
theorem dX12_meet_113 : decode cX12_meet 113 = .ok (.iinc 4 1, 3) := by decide +kernel
theorem dX12_meet_116 : decode cX12_meet 116 = .ok (.goto (-79), 3) := by decide +kernel
theorem dX12_meet_119 : decode cX12_meet 119 = .ok (.aload_n 0, 1) := by decide +kernel
theorem dX12_meet_120 : decode cX12_meet 120 = .ok (.iload_n 3, 1) := by decide +kernel
theorem dX12_meet_121 : decode cX12_meet 121 = .ok (.invokevirtual 58, 3) := by decide +kernel
theorem dX12_meet_124 : decode cX12_meet 124 = .ok (.ireturn, 1) := by decide +kernel
theorem dX12_near_0 : decode cX12_near 0 = .ok (.aload_n 0, 1) := by decide +kernel
theorem dX12_near_1 : decode cX12_near 1 = .ok (.iconst 0, 1) := by decide +kernel
theorem dX12_near_2 : decode cX12_near 2 = .ok (.putfield 48, 3) := by decide +kernel
theorem dX12_near_5 : decode cX12_near 5 = .ok (.aload_n 0, 1) := by decide +kernel
theorem dX12_near_6 : decode cX12_near 6 = .ok (.iload_n 1, 1) := by decide +kernel
theorem dX12_near_7 : decode cX12_near 7 = .ok (.invokevirtual 414, 3) := by decide +kernel
theorem dX12_near_10 : decode cX12_near 10 = .ok (.ifCond .eq 48, 3) := by decide +kernel
theorem dX12_near_13 : decode cX12_near 13 = .ok (.aload_n 0, 1) := by decide +kernel
theorem dX12_near_14 : decode cX12_near 14 = .ok (.iload_n 2, 1) := by decide +kernel
theorem dX12_near_15 : decode cX12_near 15 = .ok (.invokevirtual 405, 3) := by decide +kernel
theorem dX12_near_18 : decode cX12_near 18 = .ok (.ifCond .eq 40, 3) := by decide +kernel
theorem dX12_near_21 : decode cX12_near 21 = .ok (.aload_n 0, 1) := by decide +kernel
theorem dX12_near_22 : decode cX12_near 22 = .ok (.iload_n 3, 1) := by decide +kernel
theorem dX12_near_23 : decode cX12_near 23 = .ok (.invokevirtual 408, 3) := by decide +kernel
theorem dX12_near_26 : decode cX12_near 26 = .ok (.ifCond .eq 32, 3) := by decide +kernel
theorem dX12_near_29 : decode cX12_near 29 = .ok (.aload_n 0, 1) := by decide +kernel
theorem dX12_near_30 : decode cX12_near 30 = .ok (.iload 4, 2) := by decide +kernel
theorem dX12_near_32 : decode cX12_near 32 = .ok (.invokevirtual 421, 3) := by decide +kernel
theorem dX12_near_35 : decode cX12_near 35 = .ok (.ifCond .eq 23, 3) := by decide +kernel
theorem dX12_near_38 : decode cX12_near 38 = .ok (.aload_n 0, 1) := by decide +kernel
theorem dX12_near_39 : decode cX12_near 39 = .ok (.aload_n 0, 1) := by decide +kernel
theorem dX12_near_40 : decode cX12_near 40 = .ok (.aload_n 0, 1) := by decide +kernel
theorem dX12_near_41 : decode cX12_near 41 = .ok (.getfield 17, 3) := by decide +kernel
theorem dX12_near_44 : decode cX12_near 44 = .ok (.iload_n 1, 1) := by decide +kernel
theorem dX12_near_45 : decode cX12_near 45 = .ok (.iload_n 2, 1) := by decide +kernel
theorem dX12_near_46 : decode cX12_near 46 = .ok (.iload_n 3, 1) := by decide +kernel
theorem dX12_near_47 : decode cX12_near 47 = .ok (.iload 4, 2) := by decide +kernel
theorem dX12_near_49 : decode cX12_near 49 = .ok (.invokevirtual 399, 3) := by decide +kernel
theorem dX12_near_52 : decode cX12_near 52 = .ok (.invokevirtual 58, 3) := by decide +kernel
theorem dX12_near_55 : decode cX12_near 55 = .ok (.goto 8, 3) := by decide +kernel
theorem dX12_near_58 : decode cX12_near 58 = .ok (.aload_n 0, 1) := by decide +kernel
theorem dX12_near_59 : decode cX12_near 59 = .ok (.iconst 1, 1) := by decide +kernel
theorem dX12_near_60 : decode cX12_near 60 = .ok (.invokevirtual 54, 3) := by decide +kernel
theorem dX12_near_63 : decode cX12_near 63 = .ok (.ireturn, 1) := by decide +kernel
theorem dX12_would_0 : decode cX12_would 0 = .ok (.aload_n 0, 1) := by decide +kernel
theorem dX12_would_1 : decode cX12_would 1 = .ok (.iconst 0, 1) := by decide +kernel
theorem dX12_would_2 : decode cX12_would 2 = .ok (.putfield 48, 3) := by decide +kernel
theorem dX12_would_5 : decode cX12_would 5 = .ok (.aload_n 0, 1) := by decide +kernel
theorem dX12_would_6 : decode cX12_would 6 = .ok (.iload_n 1, 1) := by decide +kernel
theorem dX12_would_7 : decode cX12_would 7 = .ok (.invokevirtual 414, 3) := by decide +kernel
theorem dX12_would_10 : decode cX12_would 10 = .ok (.ifCond .eq 44, 3) := by decide +kernel
theorem dX12_would_13 : decode cX12_would 13 = .ok (.aload_n 0, 1) := by decide +kernel
theorem dX12_would_14 : decode cX12_would 14 = .ok (.iload_n 2, 1) := by decide +kernel
theorem dX12_would_15 : decode cX12_would 15 = .ok (.invokevirtual 405, 3) := by decide +kernel
theorem dX12_would_18 : decode cX12_would 18 = .ok (.ifCond .eq 36, 3) := by decide +kernel
theorem dX12_would_21 : decode cX12_would 21 = .ok (.aload_n 0, 1) := by decide +kernel
theorem dX12_would_22 : decode cX12_would 22 = .ok (.iload_n 3, 1) := by decide +kernel
theorem dX12_would_23 : decode cX12_would 23 = .ok (.invokevirtual 408, 3) := by decide +kernel
theorem dX12_would_26 : decode cX12_would 26 = .ok (.ifCond .eq 28, 3) := by decide +kernel
theorem dX12_would_29 : decode cX12_would 29 = .ok (.aload_n 0, 1) := by decide +kernel
theorem dX12_would_30 : decode cX12_would 30 = .ok (.aload_n 0, 1) := by decide +kernel
theorem dX12_would_31 : decode cX12_would 31 = .ok (.aload_n 0, 1) := by decide +kernel
theorem dX12_would_32 : decode cX12_would 32 = .ok (.getfield 17, 3) := by decide +kernel
theorem dX12_would_35 : decode cX12_would 35 = .ok (.iload_n 1, 1) := by decide +kernel
theorem dX12_would_36 : decode cX12_would 36 = .ok (.iload_n 2, 1) := by decide +kernel
theorem dX12_would_37 : decode cX12_would 37 = .ok (.iload_n 3, 1) := by decide +kernel
theorem dX12_would_38 : decode cX12_would 38 = .ok (.aload_n 0, 1) := by decide +kernel
theorem dX12_would_39 : decode cX12_would 39 = .ok (.getfield 17, 3) := by decide +kernel
theorem dX12_would_42 : decode cX12_would 42 = .ok (.bipush 15, 2) := by decide +kernel
theorem dX12_would_44 : decode cX12_would 44 = .ok (.iaload, 1) := by decide +kernel
theorem dX12_would_45 : decode cX12_would 45 = .ok (.invokevirtual 424, 3) := by decide +kernel
theorem dX12_would_48 : decode cX12_would 48 = .ok (.invokevirtual 58, 3) := by decide +kernel
theorem dX12_would_51 : decode cX12_would 51 = .ok (.goto 8, 3) := by decide +kernel
theorem dX12_would_54 : decode cX12_would 54 = .ok (.aload_n 0, 1) := by decide +kernel
theorem dX12_would_55 : decode cX12_would 55 = .ok (.iconst 1, 1) := by decide +kernel
theorem dX12_would_56 : decode cX12_would 56 = .ok (.invokevirtual 54, 3) := by decide +kernel
theorem dX12_would_59 : decode cX12_would 59 = .ok (.ireturn, 1) := by decide +kernel
theorem dX12_riders_0 : decode cX12_riders 0 = .ok (.aload_n 0, 1) := by decide +kernel
theorem dX12_riders_1 : decode cX12_riders 1 = .ok (.iconst 0, 1) := by decide +kernel
theorem dX12_riders_2 : decode cX12_riders 2 = .ok (.putfield 48, 3) := by decide +kernel
theorem dX12_riders_5 : decode cX12_riders 5 = .ok (.aload_n 0, 1) := by decide +kernel
theorem dX12_riders_6 : decode cX12_riders 6 = .ok (.aload_n 0, 1) := by decide +kernel
theorem dX12_riders_7 : decode cX12_riders 7 = .ok (.iload_n 1, 1) := by decide +kernel
theorem dX12_riders_8 : decode cX12_riders 8 = .ok (.invokevirtual 421, 3) := by decide +kernel
theorem dX12_riders_11 : decode cX12_riders 11 = .ok (.iload_n 2, 1) := by decide +kernel
theorem dX12_riders_12 : decode cX12_riders 12 = .ok (.invokevirtual 417, 3) := by decide +kernel
theorem dX12_riders_15 : decode cX12_riders 15 = .ok (.istore_n 3, 1) := by decide +kernel
theorem dX12_riders_16 : decode cX12_riders 16 = .ok (.iload_n 3, 1) := by decide +kernel
theorem dX12_riders_17 : decode cX12_riders 17 = .ok (.ifCond .le 9, 3) := by decide +kernel
theorem dX12_riders_20 : decode cX12_riders 20 = .ok (.aload_n 0, 1) := by decide +kernel
theorem dX12_riders_21 : decode cX12_riders 21 = .ok (.iload_n 3, 1) := by decide +kernel
theorem dX12_riders_22 : decode cX12_riders 22 = .ok (.invokevirtual 54, 3) := by decide +kernel
theorem dX12_riders_25 : decode cX12_riders 25 = .ok (.ireturn, 1) := by decide +kernel
theorem dX12_riders_26 : decode cX12_riders 26 = .ok (.iconst 0, 1) := by decide +kernel
theorem dX12_riders_27 : decode cX12_riders 27 = .ok (.istore 4, 2) := by decide +kernel
theorem dX12_riders_29 : decode cX12_riders 29 = .ok (.iconst 0, 1) := by decide +kernel
theorem dX12_riders_30 : decode cX12_riders 30 = .ok (.istore 5, 2) := by decide +kernel
theorem dX12_riders_32 : decode cX12_riders 32 = .ok (.iload 5, 2) := by decide +kernel
theorem dX12_riders_34 : decode cX12_riders 34 = .ok (.aload_n 0, 1) := by decide +kernel
theorem dX12_riders_35 : decode cX12_riders 35 = .ok (.getfield 369, 3) := by decide +kernel
theorem dX12_riders_38 : decode cX12_riders 38 = .ok (.getfield 204, 3) := by decide +kernel
theorem dX12_riders_41 : decode cX12_riders 41 = .ok (.if_icmp .ge 41, 3) := by decide +kernel
theorem dX12_riders_44 : decode cX12_riders 44 = .ok (.iload 4, 2) := by decide +kernel
theorem dX12_riders_46 : decode cX12_riders 46 = .ok (.aload_n 0, 1) := by decide +kernel
theorem dX12_riders_47 : decode cX12_riders 47 = .ok (.getfield 369, 3) := by decide +kernel
theorem dX12_riders_50 : decode cX12_riders 50 = .ok (.getfield 225, 3) := by decide +kernel
theorem dX12_riders_53 : decode cX12_riders 53 = .ok (.bipush 7, 2) := by decide +kernel
theorem dX12_riders_55 : decode cX12_riders 55 = .ok (.iload 5, 2) := by decide +kernel
theorem dX12_riders_57 : decode cX12_riders 57 = .ok (.imul, 1) := by decide +kernel
theorem dX12_riders_58 : decode cX12_riders 58 = .ok (.iload_n 2, 1) := by decide +kernel
theorem dX12_riders_59 : decode cX12_riders 59 = .ok (.iadd, 1) := by decide +kernel
theorem dX12_riders_60 : decode cX12_riders 60 = .ok (.iaload, 1) := by decide +kernel
theorem dX12_riders_61 : decode cX12_riders 61 = .ok (.iload_n 1, 1) := by decide +kernel
theorem dX12_riders_62 : decode cX12_riders 62 = .ok (.if_icmp .ne 10, 3) := by decide +kernel
theorem dX12_riders_65 : decode cX12_riders 65 = .ok (.iconst 1, 1) := by decide +kernel
theorem dX12_riders_66 : decode cX12_riders 66 = .ok (.iload 5, 2) := by decide +kernel
theorem dX12_riders_68 : decode cX12_riders 68 = .ok (.ishl, 1) := by decide +kernel
theorem dX12_riders_69 : decode cX12_riders 69 = .ok (.goto 4, 3) := by decide +kernel
theorem dX12_riders_72 : decode cX12_riders 72 = .ok (.iconst 0, 1) := by decide +kernel
theorem dX12_riders_73 : decode cX12_riders 73 = .ok (.ior, 1) := by decide +kernel
theorem dX12_riders_74 : decode cX12_riders 74 = .ok (.istore 4, 2) := by decide +kernel
theorem dX12_riders_76 : decode cX12_riders 76 = .ok (.iinc 5 1, 3) := by decide +kernel
theorem dX12_riders_79 : decode cX12_riders 79 = .ok (.goto (-47), 3) := by decide +kernel
theorem dX12_riders_82 : decode cX12_riders 82 = .ok (.aload_n 0, 1) := by decide +kernel
theorem dX12_riders_83 : decode cX12_riders 83 = .ok (.iload 4, 2) := by decide +kernel
theorem dX12_riders_85 : decode cX12_riders 85 = .ok (.invokevirtual 58, 3) := by decide +kernel
theorem dX12_riders_88 : decode cX12_riders 88 = .ok (.ireturn, 1) := by decide +kernel
theorem dX12_spare_0 : decode cX12_spare 0 = .ok (.aload_n 0, 1) := by decide +kernel
theorem dX12_spare_1 : decode cX12_spare 1 = .ok (.iconst 0, 1) := by decide +kernel
theorem dX12_spare_2 : decode cX12_spare 2 = .ok (.putfield 48, 3) := by decide +kernel
theorem dX12_spare_5 : decode cX12_spare 5 = .ok (.aload_n 0, 1) := by decide +kernel
theorem dX12_spare_6 : decode cX12_spare 6 = .ok (.iload_n 1, 1) := by decide +kernel
theorem dX12_spare_7 : decode cX12_spare 7 = .ok (.invokevirtual 408, 3) := by decide +kernel
theorem dX12_spare_10 : decode cX12_spare 10 = .ok (.ifCond .ne 9, 3) := by decide +kernel
theorem dX12_spare_13 : decode cX12_spare 13 = .ok (.aload_n 0, 1) := by decide +kernel
theorem dX12_spare_14 : decode cX12_spare 14 = .ok (.iconst 1, 1) := by decide +kernel
theorem dX12_spare_15 : decode cX12_spare 15 = .ok (.invokevirtual 54, 3) := by decide +kernel
theorem dX12_spare_18 : decode cX12_spare 18 = .ok (.ireturn, 1) := by decide +kernel
theorem dX12_spare_19 : decode cX12_spare 19 = .ok (.aload_n 0, 1) := by decide +kernel
theorem dX12_spare_20 : decode cX12_spare 20 = .ok (.aload_n 0, 1) := by decide +kernel
theorem dX12_spare_21 : decode cX12_spare 21 = .ok (.getfield 17, 3) := by decide +kernel
theorem dX12_spare_24 : decode cX12_spare 24 = .ok (.iload_n 1, 1) := by decide +kernel
theorem dX12_spare_25 : decode cX12_spare 25 = .ok (.invokevirtual 392, 3) := by decide +kernel
theorem dX12_spare_28 : decode cX12_spare 28 = .ok (.aload_n 0, 1) := by decide +kernel
theorem dX12_spare_29 : decode cX12_spare 29 = .ok (.getfield 17, 3) := by decide +kernel
theorem dX12_spare_32 : decode cX12_spare 32 = .ok (.iload_n 1, 1) := by decide +kernel
theorem dX12_spare_33 : decode cX12_spare 33 = .ok (.invokestatic 380, 3) := by decide +kernel
theorem dX12_spare_36 : decode cX12_spare 36 = .ok (.isub, 1) := by decide +kernel
theorem dX12_spare_37 : decode cX12_spare 37 = .ok (.istore_n 2, 1) := by decide +kernel
theorem dX12_spare_38 : decode cX12_spare 38 = .ok (.aload_n 0, 1) := by decide +kernel
theorem dX12_spare_39 : decode cX12_spare 39 = .ok (.iload_n 2, 1) := by decide +kernel
theorem dX12_spare_40 : decode cX12_spare 40 = .ok (.ifCond .le 7, 3) := by decide +kernel
theorem dX12_spare_43 : decode cX12_spare 43 = .ok (.iload_n 2, 1) := by decide +kernel
theorem dX12_spare_44 : decode cX12_spare 44 = .ok (.goto 4, 3) := by decide +kernel
theorem dX12_spare_47 : decode cX12_spare 47 = .ok (.iconst 0, 1) := by decide +kernel
theorem dX12_spare_48 : decode cX12_spare 48 = .ok (.invokevirtual 58, 3) := by decide +kernel
theorem dX12_spare_51 : decode cX12_spare 51 = .ok (.ireturn, 1) := by decide +kernel
theorem dX12_safest_0 : decode cX12_safest 0 = .ok (.aload_n 0, 1) := by decide +kernel
theorem dX12_safest_1 : decode cX12_safest 1 = .ok (.iconst 0, 1) := by decide +kernel
theorem dX12_safest_2 : decode cX12_safest 2 = .ok (.putfield 48, 3) := by decide +kernel
theorem dX12_safest_5 : decode cX12_safest 5 = .ok (.aload_n 0, 1) := by decide +kernel
theorem dX12_safest_6 : decode cX12_safest 6 = .ok (.iload_n 1, 1) := by decide +kernel
theorem dX12_safest_7 : decode cX12_safest 7 = .ok (.invokevirtual 405, 3) := by decide +kernel
theorem dX12_safest_10 : decode cX12_safest 10 = .ok (.ifCond .ne 9, 3) := by decide +kernel
theorem dX12_safest_13 : decode cX12_safest 13 = .ok (.aload_n 0, 1) := by decide +kernel
theorem dX12_safest_14 : decode cX12_safest 14 = .ok (.iconst 1, 1) := by decide +kernel
theorem dX12_safest_15 : decode cX12_safest 15 = .ok (.invokevirtual 54, 3) := by decide +kernel
theorem dX12_safest_18 : decode cX12_safest 18 = .ok (.ireturn, 1) := by decide +kernel
theorem dX12_safest_19 : decode cX12_safest 19 = .ok (.bipush (-2), 2) := by decide +kernel
theorem dX12_safest_21 : decode cX12_safest 21 = .ok (.istore_n 2, 1) := by decide +kernel
theorem dX12_safest_22 : decode cX12_safest 22 = .ok (.bipush 101, 2) := by decide +kernel
theorem dX12_safest_24 : decode cX12_safest 24 = .ok (.istore_n 3, 1) := by decide +kernel
theorem dX12_safest_25 : decode cX12_safest 25 = .ok (.iconst 0, 1) := by decide +kernel
theorem dX12_safest_26 : decode cX12_safest 26 = .ok (.istore 4, 2) := by decide +kernel
theorem dX12_safest_28 : decode cX12_safest 28 = .ok (.iload 4, 2) := by decide +kernel
theorem dX12_safest_30 : decode cX12_safest 30 = .ok (.bipush 105, 2) := by decide +kernel
theorem dX12_safest_32 : decode cX12_safest 32 = .ok (.if_icmp .ge 156, 3) := by decide +kernel
theorem dX12_safest_35 : decode cX12_safest 35 = .ok (.iload 4, 2) := by decide +kernel
theorem dX12_safest_37 : decode cX12_safest 37 = .ok (.invokestatic 427, 3) := by decide +kernel
theorem dX12_safest_40 : decode cX12_safest 40 = .ok (.istore 5, 2) := by decide +kernel
theorem dX12_safest_42 : decode cX12_safest 42 = .ok (.iload 4, 2) := by decide +kernel
theorem dX12_safest_44 : decode cX12_safest 44 = .ok (.invokestatic 430, 3) := by decide +kernel
theorem dX12_safest_47 : decode cX12_safest 47 = .ok (.istore 6, 2) := by decide +kernel
theorem dX12_safest_49 : decode cX12_safest 49 = .ok (.iload 4, 2) := by decide +kernel
theorem dX12_safest_51 : decode cX12_safest 51 = .ok (.invokestatic 433, 3) := by decide +kernel
theorem dX12_safest_54 : decode cX12_safest 54 = .ok (.istore 7, 2) := by decide +kernel
theorem dX12_safest_56 : decode cX12_safest 56 = .ok (.iload 5, 2) := by decide +kernel
theorem dX12_safest_58 : decode cX12_safest 58 = .ok (.aload_n 0, 1) := by decide +kernel
theorem dX12_safest_59 : decode cX12_safest 59 = .ok (.getfield 369, 3) := by decide +kernel
theorem dX12_safest_62 : decode cX12_safest 62 = .ok (.getfield 166, 3) := by decide +kernel
theorem dX12_safest_65 : decode cX12_safest 65 = .ok (.if_icmp .ge 117, 3) := by decide +kernel
theorem dX12_safest_68 : decode cX12_safest 68 = .ok (.iload 6, 2) := by decide +kernel
theorem dX12_safest_70 : decode cX12_safest 70 = .ok (.aload_n 0, 1) := by decide +kernel
theorem dX12_safest_71 : decode cX12_safest 71 = .ok (.getfield 369, 3) := by decide +kernel
theorem dX12_safest_74 : decode cX12_safest 74 = .ok (.getfield 207, 3) := by decide +kernel
theorem dX12_safest_77 : decode cX12_safest 77 = .ok (.if_icmp .ge 105, 3) := by decide +kernel
theorem dX12_safest_80 : decode cX12_safest 80 = .ok (.iload 7, 2) := by decide +kernel
theorem dX12_safest_82 : decode cX12_safest 82 = .ok (.aload_n 0, 1) := by decide +kernel
theorem dX12_safest_83 : decode cX12_safest 83 = .ok (.getfield 369, 3) := by decide +kernel
theorem dX12_safest_86 : decode cX12_safest 86 = .ok (.getfield 204, 3) := by decide +kernel
theorem dX12_safest_89 : decode cX12_safest 89 = .ok (.if_icmp .ge 93, 3) := by decide +kernel
theorem dX12_safest_92 : decode cX12_safest 92 = .ok (.aload_n 0, 1) := by decide +kernel
theorem dX12_safest_93 : decode cX12_safest 93 = .ok (.getfield 369, 3) := by decide +kernel
theorem dX12_safest_96 : decode cX12_safest 96 = .ok (.iload 7, 2) := by decide +kernel
theorem dX12_safest_98 : decode cX12_safest 98 = .ok (.invokevirtual 377, 3) := by decide +kernel
theorem dX12_safest_101 : decode cX12_safest 101 = .ok (.ifCond .ne 6, 3) := by decide +kernel
theorem dX12_safest_104 : decode cX12_safest 104 = .ok (.goto 78, 3) := by decide +kernel
theorem dX12_safest_107 : decode cX12_safest 107 = .ok (.aload_n 0, 1) := by decide +kernel
theorem dX12_safest_108 : decode cX12_safest 108 = .ok (.getfield 369, 3) := by decide +kernel
theorem dX12_safest_111 : decode cX12_safest 111 = .ok (.iload 6, 2) := by decide +kernel
theorem dX12_safest_113 : decode cX12_safest 113 = .ok (.iload 7, 2) := by decide +kernel
theorem dX12_safest_115 : decode cX12_safest 115 = .ok (.iload 5, 2) := by decide +kernel
theorem dX12_safest_117 : decode cX12_safest 117 = .ok (.invokevirtual 388, 3) := by decide +kernel
theorem dX12_safest_120 : decode cX12_safest 120 = .ok (.istore 8, 2) := by decide +kernel
theorem dX12_safest_122 : decode cX12_safest 122 = .ok (.iload 8, 2) := by decide +kernel
theorem dX12_safest_124 : decode cX12_safest 124 = .ok (.bipush (-2), 2) := by decide +kernel
theorem dX12_safest_126 : decode cX12_safest 126 = .ok (.if_icmp .eq 56, 3) := by decide +kernel
theorem dX12_safest_129 : decode cX12_safest 129 = .ok (.aload_n 0, 1) := by decide +kernel
theorem dX12_safest_130 : decode cX12_safest 130 = .ok (.getfield 369, 3) := by decide +kernel
theorem dX12_safest_133 : decode cX12_safest 133 = .ok (.iload 6, 2) := by decide +kernel
theorem dX12_safest_135 : decode cX12_safest 135 = .ok (.iload_n 1, 1) := by decide +kernel
theorem dX12_safest_136 : decode cX12_safest 136 = .ok (.iload 7, 2) := by decide +kernel
theorem dX12_safest_138 : decode cX12_safest 138 = .ok (.iload 8, 2) := by decide +kernel
theorem dX12_safest_140 : decode cX12_safest 140 = .ok (.iconst 0, 1) := by decide +kernel
theorem dX12_safest_141 : decode cX12_safest 141 = .ok (.invokevirtual 384, 3) := by decide +kernel
theorem dX12_safest_144 : decode cX12_safest 144 = .ok (.iload_n 3, 1) := by decide +kernel
theorem dX12_safest_145 : decode cX12_safest 145 = .ok (.if_icmp .lt 6, 3) := by decide +kernel
theorem dX12_safest_148 : decode cX12_safest 148 = .ok (.goto 34, 3) := by decide +kernel
theorem dX12_safest_151 : decode cX12_safest 151 = .ok (.aload_n 0, 1) := by decide +kernel
theorem dX12_safest_152 : decode cX12_safest 152 = .ok (.getfield 369, 3) := by decide +kernel
theorem dX12_safest_155 : decode cX12_safest 155 = .ok (.iload 6, 2) := by decide +kernel
theorem dX12_safest_157 : decode cX12_safest 157 = .ok (.iload_n 1, 1) := by decide +kernel
theorem dX12_safest_158 : decode cX12_safest 158 = .ok (.iload 7, 2) := by decide +kernel
theorem dX12_safest_160 : decode cX12_safest 160 = .ok (.iload 8, 2) := by decide +kernel
theorem dX12_safest_162 : decode cX12_safest 162 = .ok (.iconst 0, 1) := by decide +kernel
theorem dX12_safest_163 : decode cX12_safest 163 = .ok (.invokevirtual 384, 3) := by decide +kernel
theorem dX12_safest_166 : decode cX12_safest 166 = .ok (.istore_n 3, 1) := by decide +kernel
theorem dX12_safest_167 : decode cX12_safest 167 = .ok (.bipush 100, 2) := by decide +kernel
theorem dX12_safest_169 : decode cX12_safest 169 = .ok (.iload 5, 2) := by decide +kernel
theorem dX12_safest_171 : decode cX12_safest 171 = .ok (.imul, 1) := by decide +kernel
theorem dX12_safest_172 : decode cX12_safest 172 = .ok (.bipush 10, 2) := by decide +kernel
theorem dX12_safest_174 : decode cX12_safest 174 = .ok (.iload 6, 2) := by decide +kernel
theorem dX12_safest_176 : decode cX12_safest 176 = .ok (.imul, 1) := by decide +kernel
theorem dX12_safest_177 : decode cX12_safest 177 = .ok (.iadd, 1) := by decide +kernel
theorem dX12_safest_178 : decode cX12_safest 178 = .ok (.iload 7, 2) := by decide +kernel
theorem dX12_safest_180 : decode cX12_safest 180 = .ok (.iadd, 1) := by decide +kernel
theorem dX12_safest_181 : decode cX12_safest 181 = .ok (.istore_n 2, 1) := by decide +kernel
theorem dX12_safest_182 : decode cX12_safest 182 = .ok (.iinc 4 1, 3) := by decide +kernel
theorem dX12_safest_185 : decode cX12_safest 185 = .ok (.goto (-157), 3) := by decide +kernel
theorem dX12_safest_188 : decode cX12_safest 188 = .ok (.aload_n 0, 1) := by decide +kernel
theorem dX12_safest_189 : decode cX12_safest 189 = .ok (.iload_n 2, 1) := by decide +kernel
theorem dX12_safest_190 : decode cX12_safest 190 = .ok (.invokevirtual 58, 3) := by decide +kernel
theorem dX12_safest_193 : decode cX12_safest 193 = .ok (.ireturn, 1) := by decide +kernel
theorem dX12_plans_0 : decode cX12_plans 0 = .ok (.aload_n 0, 1) := by decide +kernel
theorem dX12_plans_1 : decode cX12_plans 1 = .ok (.invokevirtual 436, 3) := by decide +kernel
theorem dX12_plans_4 : decode cX12_plans 4 = .ok (.iconst 0, 1) := by decide +kernel
theorem dX12_plans_5 : decode cX12_plans 5 = .ok (.istore_n 2, 1) := by decide +kernel
theorem dX12_plans_6 : decode cX12_plans 6 = .ok (.iload_n 2, 1) := by decide +kernel
theorem dX12_plans_7 : decode cX12_plans 7 = .ok (.iload_n 1, 1) := by decide +kernel
theorem dX12_plans_8 : decode cX12_plans 8 = .ok (.if_icmp .gt 127, 3) := by decide +kernel
theorem dX12_plans_11 : decode cX12_plans 11 = .ok (.iconst 0, 1) := by decide +kernel
theorem dX12_plans_12 : decode cX12_plans 12 = .ok (.istore_n 3, 1) := by decide +kernel
theorem dX12_plans_13 : decode cX12_plans 13 = .ok (.iload_n 3, 1) := by decide +kernel
theorem dX12_plans_14 : decode cX12_plans 14 = .ok (.aload_n 0, 1) := by decide +kernel
theorem dX12_plans_15 : decode cX12_plans 15 = .ok (.getfield 369, 3) := by decide +kernel
theorem dX12_plans_18 : decode cX12_plans 18 = .ok (.getfield 318, 3) := by decide +kernel
theorem dX12_plans_21 : decode cX12_plans 21 = .ok (.if_icmp .ge 108, 3) := by decide +kernel
theorem dX12_plans_24 : decode cX12_plans 24 = .ok (.aload_n 0, 1) := by decide +kernel
theorem dX12_plans_25 : decode cX12_plans 25 = .ok (.getfield 369, 3) := by decide +kernel
theorem dX12_plans_28 : decode cX12_plans 28 = .ok (.getfield 330, 3) := by decide +kernel
theorem dX12_plans_31 : decode cX12_plans 31 = .ok (.iload_n 3, 1) := by decide +kernel
theorem dX12_plans_32 : decode cX12_plans 32 = .ok (.iaload, 1) := by decide +kernel
theorem dX12_plans_33 : decode cX12_plans 33 = .ok (.iload_n 2, 1) := by decide +kernel
theorem dX12_plans_34 : decode cX12_plans 34 = .ok (.if_icmp .eq 6, 3) := by decide +kernel
theorem dX12_plans_37 : decode cX12_plans 37 = .ok (.goto 86, 3) := by decide +kernel
theorem dX12_plans_40 : decode cX12_plans 40 = .ok (.aload_n 0, 1) := by decide +kernel
theorem dX12_plans_41 : decode cX12_plans 41 = .ok (.getfield 30, 3) := by decide +kernel
theorem dX12_plans_44 : decode cX12_plans 44 = .ok (.iload_n 3, 1) := by decide +kernel
theorem dX12_plans_45 : decode cX12_plans 45 = .ok (.aload_n 0, 1) := by decide +kernel
theorem dX12_plans_46 : decode cX12_plans 46 = .ok (.aload_n 0, 1) := by decide +kernel
theorem dX12_plans_47 : decode cX12_plans 47 = .ok (.getfield 21, 3) := by decide +kernel
theorem dX12_plans_50 : decode cX12_plans 50 = .ok (.aload_n 0, 1) := by decide +kernel
theorem dX12_plans_51 : decode cX12_plans 51 = .ok (.getfield 369, 3) := by decide +kernel
theorem dX12_plans_54 : decode cX12_plans 54 = .ok (.getfield 321, 3) := by decide +kernel
theorem dX12_plans_57 : decode cX12_plans 57 = .ok (.iload_n 3, 1) := by decide +kernel
theorem dX12_plans_58 : decode cX12_plans 58 = .ok (.iaload, 1) := by decide +kernel
theorem dX12_plans_59 : decode cX12_plans 59 = .ok (.aload_n 0, 1) := by decide +kernel
theorem dX12_plans_60 : decode cX12_plans 60 = .ok (.getfield 369, 3) := by decide +kernel
theorem dX12_plans_63 : decode cX12_plans 63 = .ok (.getfield 324, 3) := by decide +kernel
theorem dX12_plans_66 : decode cX12_plans 66 = .ok (.iload_n 3, 1) := by decide +kernel
theorem dX12_plans_67 : decode cX12_plans 67 = .ok (.iaload, 1) := by decide +kernel
theorem dX12_plans_68 : decode cX12_plans 68 = .ok (.aload_n 0, 1) := by decide +kernel
theorem dX12_plans_69 : decode cX12_plans 69 = .ok (.getfield 369, 3) := by decide +kernel
theorem dX12_plans_72 : decode cX12_plans 72 = .ok (.getfield 327, 3) := by decide +kernel
theorem dX12_plans_75 : decode cX12_plans 75 = .ok (.iload_n 3, 1) := by decide +kernel
theorem dX12_plans_76 : decode cX12_plans 76 = .ok (.iaload, 1) := by decide +kernel
theorem dX12_plans_77 : decode cX12_plans 77 = .ok (.iload_n 2, 1) := by decide +kernel
theorem dX12_plans_78 : decode cX12_plans 78 = .ok (.invokevirtual 424, 3) := by decide +kernel
theorem dX12_plans_81 : decode cX12_plans 81 = .ok (.iastore, 1) := by decide +kernel
theorem dX12_plans_82 : decode cX12_plans 82 = .ok (.aload_n 0, 1) := by decide +kernel
theorem dX12_plans_83 : decode cX12_plans 83 = .ok (.aload_n 0, 1) := by decide +kernel
theorem dX12_plans_84 : decode cX12_plans 84 = .ok (.getfield 21, 3) := by decide +kernel
theorem dX12_plans_87 : decode cX12_plans 87 = .ok (.aload_n 0, 1) := by decide +kernel
theorem dX12_plans_88 : decode cX12_plans 88 = .ok (.getfield 30, 3) := by decide +kernel
theorem dX12_plans_91 : decode cX12_plans 91 = .ok (.iload_n 3, 1) := by decide +kernel
theorem dX12_plans_92 : decode cX12_plans 92 = .ok (.iaload, 1) := by decide +kernel
theorem dX12_plans_93 : decode cX12_plans 93 = .ok (.aload_n 0, 1) := by decide +kernel
theorem dX12_plans_94 : decode cX12_plans 94 = .ok (.getfield 369, 3) := by decide +kernel
theorem dX12_plans_97 : decode cX12_plans 97 = .ok (.getfield 321, 3) := by decide +kernel
theorem dX12_plans_100 : decode cX12_plans 100 = .ok (.iload_n 3, 1) := by decide +kernel
theorem dX12_plans_101 : decode cX12_plans 101 = .ok (.iaload, 1) := by decide +kernel
theorem dX12_plans_102 : decode cX12_plans 102 = .ok (.aload_n 0, 1) := by decide +kernel
theorem dX12_plans_103 : decode cX12_plans 103 = .ok (.getfield 369, 3) := by decide +kernel
theorem dX12_plans_106 : decode cX12_plans 106 = .ok (.getfield 324, 3) := by decide +kernel
theorem dX12_plans_109 : decode cX12_plans 109 = .ok (.iload_n 3, 1) := by decide +kernel
theorem dX12_plans_110 : decode cX12_plans 110 = .ok (.iaload, 1) := by decide +kernel
theorem dX12_plans_111 : decode cX12_plans 111 = .ok (.aload_n 0, 1) := by decide +kernel
theorem dX12_plans_112 : decode cX12_plans 112 = .ok (.getfield 369, 3) := by decide +kernel
theorem dX12_plans_115 : decode cX12_plans 115 = .ok (.getfield 327, 3) := by decide +kernel
theorem dX12_plans_118 : decode cX12_plans 118 = .ok (.iload_n 3, 1) := by decide +kernel
theorem dX12_plans_119 : decode cX12_plans 119 = .ok (.iaload, 1) := by decide +kernel
theorem dX12_plans_120 : decode cX12_plans 120 = .ok (.invokevirtual 439, 3) := by decide +kernel
theorem dX12_plans_123 : decode cX12_plans 123 = .ok (.iinc 3 1, 3) := by decide +kernel
theorem dX12_plans_126 : decode cX12_plans 126 = .ok (.goto (-113), 3) := by decide +kernel
theorem dX12_plans_129 : decode cX12_plans 129 = .ok (.iinc 2 1, 3) := by decide +kernel
theorem dX12_plans_132 : decode cX12_plans 132 = .ok (.goto (-126), 3) := by decide +kernel
theorem dX12_plans_135 : decode cX12_plans 135 = .ok (.return_, 1) := by decide +kernel
theorem dX12_planned_0 : decode cX12_planned 0 = .ok (.aload_n 0, 1) := by decide +kernel
theorem dX12_planned_1 : decode cX12_planned 1 = .ok (.iconst 0, 1) := by decide +kernel
theorem dX12_planned_2 : decode cX12_planned 2 = .ok (.putfield 48, 3) := by decide +kernel
theorem dX12_planned_5 : decode cX12_planned 5 = .ok (.aload_n 0, 1) := by decide +kernel
theorem dX12_planned_6 : decode cX12_planned 6 = .ok (.getfield 369, 3) := by decide +kernel
theorem dX12_planned_9 : decode cX12_planned 9 = .ok (.ifnull 18, 3) := by decide +kernel
theorem dX12_planned_12 : decode cX12_planned 12 = .ok (.iload_n 1, 1) := by decide +kernel
theorem dX12_planned_13 : decode cX12_planned 13 = .ok (.ifCond .lt 14, 3) := by decide +kernel
theorem dX12_planned_16 : decode cX12_planned 16 = .ok (.iload_n 1, 1) := by decide +kernel
theorem dX12_planned_17 : decode cX12_planned 17 = .ok (.aload_n 0, 1) := by decide +kernel
theorem dX12_planned_18 : decode cX12_planned 18 = .ok (.getfield 369, 3) := by decide +kernel
theorem dX12_planned_21 : decode cX12_planned 21 = .ok (.getfield 318, 3) := by decide +kernel
theorem dX12_planned_24 : decode cX12_planned 24 = .ok (.if_icmp .lt 9, 3) := by decide +kernel
theorem dX12_planned_27 : decode cX12_planned 27 = .ok (.aload_n 0, 1) := by decide +kernel
theorem dX12_planned_28 : decode cX12_planned 28 = .ok (.iconst 1, 1) := by decide +kernel
theorem dX12_planned_29 : decode cX12_planned 29 = .ok (.invokevirtual 54, 3) := by decide +kernel
theorem dX12_planned_32 : decode cX12_planned 32 = .ok (.ireturn, 1) := by decide +kernel
theorem dX12_planned_33 : decode cX12_planned 33 = .ok (.aload_n 0, 1) := by decide +kernel
theorem dX12_planned_34 : decode cX12_planned 34 = .ok (.aload_n 0, 1) := by decide +kernel
theorem dX12_planned_35 : decode cX12_planned 35 = .ok (.getfield 369, 3) := by decide +kernel
theorem dX12_planned_38 : decode cX12_planned 38 = .ok (.getfield 166, 3) := by decide +kernel
theorem dX12_planned_41 : decode cX12_planned 41 = .ok (.iconst 1, 1) := by decide +kernel
theorem dX12_planned_42 : decode cX12_planned 42 = .ok (.isub, 1) := by decide +kernel
theorem dX12_planned_43 : decode cX12_planned 43 = .ok (.invokevirtual 443, 3) := by decide +kernel
theorem dX12_planned_46 : decode cX12_planned 46 = .ok (.aload_n 0, 1) := by decide +kernel
theorem dX12_planned_47 : decode cX12_planned 47 = .ok (.aload_n 0, 1) := by decide +kernel
theorem dX12_planned_48 : decode cX12_planned 48 = .ok (.getfield 30, 3) := by decide +kernel
theorem dX12_planned_51 : decode cX12_planned 51 = .ok (.iload_n 1, 1) := by decide +kernel
theorem dX12_planned_52 : decode cX12_planned 52 = .ok (.iaload, 1) := by decide +kernel
theorem dX12_planned_53 : decode cX12_planned 53 = .ok (.invokevirtual 58, 3) := by decide +kernel
theorem dX12_planned_56 : decode cX12_planned 56 = .ok (.ireturn, 1) := by decide +kernel
theorem dX12_planHas_0 : decode cX12_planHas 0 = .ok (.aload_n 0, 1) := by decide +kernel
theorem dX12_planHas_1 : decode cX12_planHas 1 = .ok (.iconst 0, 1) := by decide +kernel
theorem dX12_planHas_2 : decode cX12_planHas 2 = .ok (.putfield 48, 3) := by decide +kernel
theorem dX12_planHas_5 : decode cX12_planHas 5 = .ok (.aload_n 0, 1) := by decide +kernel
theorem dX12_planHas_6 : decode cX12_planHas 6 = .ok (.aload_n 0, 1) := by decide +kernel
theorem dX12_planHas_7 : decode cX12_planHas 7 = .ok (.iload_n 1, 1) := by decide +kernel
theorem dX12_planHas_8 : decode cX12_planHas 8 = .ok (.invokevirtual 408, 3) := by decide +kernel
theorem dX12_planHas_11 : decode cX12_planHas 11 = .ok (.iload_n 2, 1) := by decide +kernel
theorem dX12_planHas_12 : decode cX12_planHas 12 = .ok (.invokevirtual 417, 3) := by decide +kernel
theorem dX12_planHas_15 : decode cX12_planHas 15 = .ok (.istore_n 3, 1) := by decide +kernel
theorem dX12_planHas_16 : decode cX12_planHas 16 = .ok (.iload_n 3, 1) := by decide +kernel
theorem dX12_planHas_17 : decode cX12_planHas 17 = .ok (.ifCond .le 9, 3) := by decide +kernel
theorem dX12_planHas_20 : decode cX12_planHas 20 = .ok (.aload_n 0, 1) := by decide +kernel
theorem dX12_planHas_21 : decode cX12_planHas 21 = .ok (.iload_n 3, 1) := by decide +kernel
theorem dX12_planHas_22 : decode cX12_planHas 22 = .ok (.invokevirtual 54, 3) := by decide +kernel
theorem dX12_planHas_25 : decode cX12_planHas 25 = .ok (.ireturn, 1) := by decide +kernel
theorem dX12_planHas_26 : decode cX12_planHas 26 = .ok (.aload_n 0, 1) := by decide +kernel
theorem dX12_planHas_27 : decode cX12_planHas 27 = .ok (.iload_n 2, 1) := by decide +kernel
theorem dX12_planHas_28 : decode cX12_planHas 28 = .ok (.invokevirtual 443, 3) := by decide +kernel
theorem dX12_planHas_31 : decode cX12_planHas 31 = .ok (.aload_n 0, 1) := by decide +kernel
theorem dX12_planHas_32 : decode cX12_planHas 32 = .ok (.aload_n 0, 1) := by decide +kernel
theorem dX12_planHas_33 : decode cX12_planHas 33 = .ok (.aload_n 0, 1) := by decide +kernel
theorem dX12_planHas_34 : decode cX12_planHas 34 = .ok (.getfield 21, 3) := by decide +kernel
theorem dX12_planHas_37 : decode cX12_planHas 37 = .ok (.iload_n 1, 1) := by decide +kernel
theorem dX12_planHas_38 : decode cX12_planHas 38 = .ok (.invokevirtual 411, 3) := by decide +kernel
theorem dX12_planHas_41 : decode cX12_planHas 41 = .ok (.invokevirtual 58, 3) := by decide +kernel
theorem dX12_planHas_44 : decode cX12_planHas 44 = .ok (.ireturn, 1) := by decide +kernel
theorem dX12_planScore_0 : decode cX12_planScore 0 = .ok (.aload_n 0, 1) := by decide +kernel
theorem dX12_planScore_1 : decode cX12_planScore 1 = .ok (.iconst 0, 1) := by decide +kernel
theorem dX12_planScore_2 : decode cX12_planScore 2 = .ok (.putfield 48, 3) := by decide +kernel
theorem dX12_planScore_5 : decode cX12_planScore 5 = .ok (.aload_n 0, 1) := by decide +kernel
theorem dX12_planScore_6 : decode cX12_planScore 6 = .ok (.aload_n 0, 1) := by decide +kernel
theorem dX12_planScore_7 : decode cX12_planScore 7 = .ok (.iload_n 1, 1) := by decide +kernel
theorem dX12_planScore_8 : decode cX12_planScore 8 = .ok (.invokevirtual 414, 3) := by decide +kernel
theorem dX12_planScore_11 : decode cX12_planScore 11 = .ok (.iload_n 2, 1) := by decide +kernel
theorem dX12_planScore_12 : decode cX12_planScore 12 = .ok (.invokevirtual 417, 3) := by decide +kernel
theorem dX12_planScore_15 : decode cX12_planScore 15 = .ok (.istore_n 3, 1) := by decide +kernel
theorem dX12_planScore_16 : decode cX12_planScore 16 = .ok (.iload_n 3, 1) := by decide +kernel
theorem dX12_planScore_17 : decode cX12_planScore 17 = .ok (.ifCond .le 9, 3) := by decide +kernel
theorem dX12_planScore_20 : decode cX12_planScore 20 = .ok (.aload_n 0, 1) := by decide +kernel
theorem dX12_planScore_21 : decode cX12_planScore 21 = .ok (.iload_n 3, 1) := by decide +kernel
theorem dX12_planScore_22 : decode cX12_planScore 22 = .ok (.invokevirtual 54, 3) := by decide +kernel
theorem dX12_planScore_25 : decode cX12_planScore 25 = .ok (.ireturn, 1) := by decide +kernel
theorem dX12_planScore_26 : decode cX12_planScore 26 = .ok (.aload_n 0, 1) := by decide +kernel
theorem dX12_planScore_27 : decode cX12_planScore 27 = .ok (.iload_n 2, 1) := by decide +kernel
theorem dX12_planScore_28 : decode cX12_planScore 28 = .ok (.invokevirtual 443, 3) := by decide +kernel
theorem dX12_planScore_31 : decode cX12_planScore 31 = .ok (.aload_n 0, 1) := by decide +kernel
theorem dX12_planScore_32 : decode cX12_planScore 32 = .ok (.aload_n 0, 1) := by decide +kernel
theorem dX12_planScore_33 : decode cX12_planScore 33 = .ok (.getfield 21, 3) := by decide +kernel
theorem dX12_planScore_36 : decode cX12_planScore 36 = .ok (.bipush 9, 2) := by decide +kernel
theorem dX12_planScore_38 : decode cX12_planScore 38 = .ok (.iload_n 1, 1) := by decide +kernel
theorem dX12_planScore_39 : decode cX12_planScore 39 = .ok (.iadd, 1) := by decide +kernel
theorem dX12_planScore_40 : decode cX12_planScore 40 = .ok (.iaload, 1) := by decide +kernel
theorem dX12_planScore_41 : decode cX12_planScore 41 = .ok (.invokevirtual 58, 3) := by decide +kernel
theorem dX12_planScore_44 : decode cX12_planScore 44 = .ok (.ireturn, 1) := by decide +kernel
theorem dX12_first_0 : decode cX12_first 0 = .ok (.aload_n 0, 1) := by decide +kernel
theorem dX12_first_1 : decode cX12_first 1 = .ok (.iconst 0, 1) := by decide +kernel
theorem dX12_first_2 : decode cX12_first 2 = .ok (.putfield 48, 3) := by decide +kernel
theorem dX12_first_5 : decode cX12_first 5 = .ok (.aload_n 0, 1) := by decide +kernel
theorem dX12_first_6 : decode cX12_first 6 = .ok (.getfield 369, 3) := by decide +kernel
theorem dX12_first_9 : decode cX12_first 9 = .ok (.ifnonnull 9, 3) := by decide +kernel
theorem dX12_first_12 : decode cX12_first 12 = .ok (.aload_n 0, 1) := by decide +kernel
theorem dX12_first_13 : decode cX12_first 13 = .ok (.iconst 1, 1) := by decide +kernel
theorem dX12_first_14 : decode cX12_first 14 = .ok (.invokevirtual 54, 3) := by decide +kernel
theorem dX12_first_17 : decode cX12_first 17 = .ok (.ireturn, 1) := by decide +kernel
theorem dX12_first_18 : decode cX12_first 18 = .ok (.aload_n 0, 1) := by decide +kernel
theorem dX12_first_19 : decode cX12_first 19 = .ok (.aload_n 0, 1) := by decide +kernel
theorem dX12_first_20 : decode cX12_first 20 = .ok (.getfield 369, 3) := by decide +kernel
theorem dX12_first_23 : decode cX12_first 23 = .ok (.getfield 166, 3) := by decide +kernel
theorem dX12_first_26 : decode cX12_first 26 = .ok (.iconst 1, 1) := by decide +kernel
theorem dX12_first_27 : decode cX12_first 27 = .ok (.isub, 1) := by decide +kernel
theorem dX12_first_28 : decode cX12_first 28 = .ok (.invokevirtual 443, 3) := by decide +kernel
theorem dX12_first_31 : decode cX12_first 31 = .ok (.iconst 0, 1) := by decide +kernel
theorem dX12_first_32 : decode cX12_first 32 = .ok (.istore_n 1, 1) := by decide +kernel
theorem dX12_first_33 : decode cX12_first 33 = .ok (.iconst 1, 1) := by decide +kernel
theorem dX12_first_34 : decode cX12_first 34 = .ok (.istore_n 2, 1) := by decide +kernel
theorem dX12_first_35 : decode cX12_first 35 = .ok (.iload_n 2, 1) := by decide +kernel
theorem dX12_first_36 : decode cX12_first 36 = .ok (.aload_n 0, 1) := by decide +kernel
theorem dX12_first_37 : decode cX12_first 37 = .ok (.getfield 369, 3) := by decide +kernel
theorem dX12_first_40 : decode cX12_first 40 = .ok (.getfield 207, 3) := by decide +kernel
theorem dX12_first_43 : decode cX12_first 43 = .ok (.if_icmp .ge 32, 3) := by decide +kernel
theorem dX12_first_46 : decode cX12_first 46 = .ok (.aload_n 0, 1) := by decide +kernel
theorem dX12_first_47 : decode cX12_first 47 = .ok (.getfield 21, 3) := by decide +kernel
theorem dX12_first_50 : decode cX12_first 50 = .ok (.bipush 9, 2) := by decide +kernel
theorem dX12_first_52 : decode cX12_first 52 = .ok (.iload_n 2, 1) := by decide +kernel
theorem dX12_first_53 : decode cX12_first 53 = .ok (.iadd, 1) := by decide +kernel
theorem dX12_first_54 : decode cX12_first 54 = .ok (.iaload, 1) := by decide +kernel
theorem dX12_first_55 : decode cX12_first 55 = .ok (.aload_n 0, 1) := by decide +kernel
theorem dX12_first_56 : decode cX12_first 56 = .ok (.getfield 21, 3) := by decide +kernel
theorem dX12_first_59 : decode cX12_first 59 = .ok (.bipush 9, 2) := by decide +kernel
theorem dX12_first_61 : decode cX12_first 61 = .ok (.iload_n 1, 1) := by decide +kernel
theorem dX12_first_62 : decode cX12_first 62 = .ok (.iadd, 1) := by decide +kernel
theorem dX12_first_63 : decode cX12_first 63 = .ok (.iaload, 1) := by decide +kernel
theorem dX12_first_64 : decode cX12_first 64 = .ok (.if_icmp .le 5, 3) := by decide +kernel
theorem dX12_first_67 : decode cX12_first 67 = .ok (.iload_n 2, 1) := by decide +kernel
theorem dX12_first_68 : decode cX12_first 68 = .ok (.istore_n 1, 1) := by decide +kernel
theorem dX12_first_69 : decode cX12_first 69 = .ok (.iinc 2 1, 3) := by decide +kernel
theorem dX12_first_72 : decode cX12_first 72 = .ok (.goto (-37), 3) := by decide +kernel
theorem dX12_first_75 : decode cX12_first 75 = .ok (.aload_n 0, 1) := by decide +kernel
theorem dX12_first_76 : decode cX12_first 76 = .ok (.iload_n 1, 1) := by decide +kernel
theorem dX12_first_77 : decode cX12_first 77 = .ok (.invokevirtual 58, 3) := by decide +kernel
theorem dX12_first_80 : decode cX12_first 80 = .ok (.ireturn, 1) := by decide +kernel
theorem dX12_judge_0 : decode cX12_judge 0 = .ok (.aload_n 0, 1) := by decide +kernel
theorem dX12_judge_1 : decode cX12_judge 1 = .ok (.iconst 0, 1) := by decide +kernel
theorem dX12_judge_2 : decode cX12_judge 2 = .ok (.putfield 48, 3) := by decide +kernel
theorem dX12_judge_5 : decode cX12_judge 5 = .ok (.aload_n 0, 1) := by decide +kernel
theorem dX12_judge_6 : decode cX12_judge 6 = .ok (.getfield 369, 3) := by decide +kernel
theorem dX12_judge_9 : decode cX12_judge 9 = .ok (.ifnonnull 9, 3) := by decide +kernel
theorem dX12_judge_12 : decode cX12_judge 12 = .ok (.aload_n 0, 1) := by decide +kernel
theorem dX12_judge_13 : decode cX12_judge 13 = .ok (.iconst 1, 1) := by decide +kernel
theorem dX12_judge_14 : decode cX12_judge 14 = .ok (.invokevirtual 54, 3) := by decide +kernel
theorem dX12_judge_17 : decode cX12_judge 17 = .ok (.ireturn, 1) := by decide +kernel
theorem dX12_judge_18 : decode cX12_judge 18 = .ok (.aload_n 0, 1) := by decide +kernel
theorem dX12_judge_19 : decode cX12_judge 19 = .ok (.aload_n 0, 1) := by decide +kernel
theorem dX12_judge_20 : decode cX12_judge 20 = .ok (.getfield 369, 3) := by decide +kernel
theorem dX12_judge_23 : decode cX12_judge 23 = .ok (.getfield 166, 3) := by decide +kernel
theorem dX12_judge_26 : decode cX12_judge 26 = .ok (.iconst 1, 1) := by decide +kernel
theorem dX12_judge_27 : decode cX12_judge 27 = .ok (.isub, 1) := by decide +kernel
theorem dX12_judge_28 : decode cX12_judge 28 = .ok (.invokevirtual 443, 3) := by decide +kernel
theorem dX12_judge_31 : decode cX12_judge 31 = .ok (.iconst 0, 1) := by decide +kernel
theorem dX12_judge_32 : decode cX12_judge 32 = .ok (.istore_n 1, 1) := by decide +kernel
theorem dX12_judge_33 : decode cX12_judge 33 = .ok (.iload_n 1, 1) := by decide +kernel
theorem dX12_judge_34 : decode cX12_judge 34 = .ok (.aload_n 0, 1) := by decide +kernel
theorem dX12_judge_35 : decode cX12_judge 35 = .ok (.getfield 369, 3) := by decide +kernel
theorem dX12_judge_38 : decode cX12_judge 38 = .ok (.getfield 318, 3) := by decide +kernel
theorem dX12_judge_41 : decode cX12_judge 41 = .ok (.if_icmp .ge 25, 3) := by decide +kernel
theorem dX12_judge_44 : decode cX12_judge 44 = .ok (.aload_n 0, 1) := by decide +kernel
theorem dX12_judge_45 : decode cX12_judge 45 = .ok (.getfield 30, 3) := by decide +kernel
theorem dX12_judge_48 : decode cX12_judge 48 = .ok (.iload_n 1, 1) := by decide +kernel
theorem dX12_judge_49 : decode cX12_judge 49 = .ok (.iaload, 1) := by decide +kernel
theorem dX12_judge_50 : decode cX12_judge 50 = .ok (.iconst 1, 1) := by decide +kernel
theorem dX12_judge_51 : decode cX12_judge 51 = .ok (.if_icmp .le 9, 3) := by decide +kernel
theorem dX12_judge_54 : decode cX12_judge 54 = .ok (.aload_n 0, 1) := by decide +kernel
theorem dX12_judge_55 : decode cX12_judge 55 = .ok (.iload_n 1, 1) := by decide +kernel
theorem dX12_judge_56 : decode cX12_judge 56 = .ok (.invokevirtual 58, 3) := by decide +kernel
theorem dX12_judge_59 : decode cX12_judge 59 = .ok (.ireturn, 1) := by decide +kernel
theorem dX12_judge_60 : decode cX12_judge 60 = .ok (.iinc 1 1, 3) := by decide +kernel
theorem dX12_judge_63 : decode cX12_judge 63 = .ok (.goto (-30), 3) := by decide +kernel
theorem dX12_judge_66 : decode cX12_judge 66 = .ok (.aload_n 0, 1) := by decide +kernel
theorem dX12_judge_67 : decode cX12_judge 67 = .ok (.bipush (-2), 2) := by decide +kernel
theorem dX12_judge_69 : decode cX12_judge 69 = .ok (.invokevirtual 58, 3) := by decide +kernel
theorem dX12_judge_72 : decode cX12_judge 72 = .ok (.ireturn, 1) := by decide +kernel
theorem dX12_amiss_0 : decode cX12_amiss 0 = .ok (.aload_n 0, 1) := by decide +kernel
theorem dX12_amiss_1 : decode cX12_amiss 1 = .ok (.iconst 0, 1) := by decide +kernel
theorem dX12_amiss_2 : decode cX12_amiss 2 = .ok (.putfield 48, 3) := by decide +kernel
theorem dX12_amiss_5 : decode cX12_amiss 5 = .ok (.aload_n 0, 1) := by decide +kernel
theorem dX12_amiss_6 : decode cX12_amiss 6 = .ok (.getfield 369, 3) := by decide +kernel
theorem dX12_amiss_9 : decode cX12_amiss 9 = .ok (.ifnonnull 9, 3) := by decide +kernel
theorem dX12_amiss_12 : decode cX12_amiss 12 = .ok (.aload_n 0, 1) := by decide +kernel
theorem dX12_amiss_13 : decode cX12_amiss 13 = .ok (.iconst 1, 1) := by decide +kernel
theorem dX12_amiss_14 : decode cX12_amiss 14 = .ok (.invokevirtual 54, 3) := by decide +kernel
theorem dX12_amiss_17 : decode cX12_amiss 17 = .ok (.ireturn, 1) := by decide +kernel
theorem dX12_amiss_18 : decode cX12_amiss 18 = .ok (.aload_n 0, 1) := by decide +kernel
theorem dX12_amiss_19 : decode cX12_amiss 19 = .ok (.aload_n 0, 1) := by decide +kernel
theorem dX12_amiss_20 : decode cX12_amiss 20 = .ok (.getfield 369, 3) := by decide +kernel
theorem dX12_amiss_23 : decode cX12_amiss 23 = .ok (.getfield 166, 3) := by decide +kernel
theorem dX12_amiss_26 : decode cX12_amiss 26 = .ok (.iconst 1, 1) := by decide +kernel
theorem dX12_amiss_27 : decode cX12_amiss 27 = .ok (.isub, 1) := by decide +kernel
theorem dX12_amiss_28 : decode cX12_amiss 28 = .ok (.invokevirtual 443, 3) := by decide +kernel
theorem dX12_amiss_31 : decode cX12_amiss 31 = .ok (.iconst 0, 1) := by decide +kernel
theorem dX12_amiss_32 : decode cX12_amiss 32 = .ok (.istore_n 1, 1) := by decide +kernel
theorem dX12_amiss_33 : decode cX12_amiss 33 = .ok (.iload_n 1, 1) := by decide +kernel
theorem dX12_amiss_34 : decode cX12_amiss 34 = .ok (.aload_n 0, 1) := by decide +kernel
theorem dX12_amiss_35 : decode cX12_amiss 35 = .ok (.getfield 369, 3) := by decide +kernel
theorem dX12_amiss_38 : decode cX12_amiss 38 = .ok (.getfield 336, 3) := by decide +kernel
theorem dX12_amiss_41 : decode cX12_amiss 41 = .ok (.if_icmp .ge 59, 3) := by decide +kernel
theorem dX12_amiss_44 : decode cX12_amiss 44 = .ok (.aload_n 0, 1) := by decide +kernel
theorem dX12_amiss_45 : decode cX12_amiss 45 = .ok (.getfield 21, 3) := by decide +kernel
theorem dX12_amiss_48 : decode cX12_amiss 48 = .ok (.iconst 0, 1) := by decide +kernel
theorem dX12_amiss_49 : decode cX12_amiss 49 = .ok (.aload_n 0, 1) := by decide +kernel
theorem dX12_amiss_50 : decode cX12_amiss 50 = .ok (.getfield 369, 3) := by decide +kernel
theorem dX12_amiss_53 : decode cX12_amiss 53 = .ok (.getfield 333, 3) := by decide +kernel
theorem dX12_amiss_56 : decode cX12_amiss 56 = .ok (.iload_n 1, 1) := by decide +kernel
theorem dX12_amiss_57 : decode cX12_amiss 57 = .ok (.iaload, 1) := by decide +kernel
theorem dX12_amiss_58 : decode cX12_amiss 58 = .ok (.iadd, 1) := by decide +kernel
theorem dX12_amiss_59 : decode cX12_amiss 59 = .ok (.iaload, 1) := by decide +kernel
theorem dX12_amiss_60 : decode cX12_amiss 60 = .ok (.aload_n 0, 1) := by decide +kernel
theorem dX12_amiss_61 : decode cX12_amiss 61 = .ok (.getfield 369, 3) := by decide +kernel
theorem dX12_amiss_64 : decode cX12_amiss 64 = .ok (.getfield 251, 3) := by decide +kernel
theorem dX12_amiss_67 : decode cX12_amiss 67 = .ok (.aload_n 0, 1) := by decide +kernel
theorem dX12_amiss_68 : decode cX12_amiss 68 = .ok (.getfield 369, 3) := by decide +kernel
theorem dX12_amiss_71 : decode cX12_amiss 71 = .ok (.getfield 333, 3) := by decide +kernel
theorem dX12_amiss_74 : decode cX12_amiss 74 = .ok (.iload_n 1, 1) := by decide +kernel
theorem dX12_amiss_75 : decode cX12_amiss 75 = .ok (.iaload, 1) := by decide +kernel
theorem dX12_amiss_76 : decode cX12_amiss 76 = .ok (.iaload, 1) := by decide +kernel
theorem dX12_amiss_77 : decode cX12_amiss 77 = .ok (.if_icmp .eq 17, 3) := by decide +kernel
theorem dX12_amiss_80 : decode cX12_amiss 80 = .ok (.aload_n 0, 1) := by decide +kernel
theorem dX12_amiss_81 : decode cX12_amiss 81 = .ok (.aload_n 0, 1) := by decide +kernel
theorem dX12_amiss_82 : decode cX12_amiss 82 = .ok (.getfield 369, 3) := by decide +kernel
theorem dX12_amiss_85 : decode cX12_amiss 85 = .ok (.getfield 333, 3) := by decide +kernel
theorem dX12_amiss_88 : decode cX12_amiss 88 = .ok (.iload_n 1, 1) := by decide +kernel
theorem dX12_amiss_89 : decode cX12_amiss 89 = .ok (.iaload, 1) := by decide +kernel
theorem dX12_amiss_90 : decode cX12_amiss 90 = .ok (.invokevirtual 58, 3) := by decide +kernel
theorem dX12_amiss_93 : decode cX12_amiss 93 = .ok (.ireturn, 1) := by decide +kernel
theorem dX12_amiss_94 : decode cX12_amiss 94 = .ok (.iinc 1 1, 3) := by decide +kernel
theorem dX12_amiss_97 : decode cX12_amiss 97 = .ok (.goto (-64), 3) := by decide +kernel
theorem dX12_amiss_100 : decode cX12_amiss 100 = .ok (.aload_n 0, 1) := by decide +kernel
theorem dX12_amiss_101 : decode cX12_amiss 101 = .ok (.bipush (-2), 2) := by decide +kernel
theorem dX12_amiss_103 : decode cX12_amiss 103 = .ok (.invokevirtual 58, 3) := by decide +kernel
theorem dX12_amiss_106 : decode cX12_amiss 106 = .ok (.ireturn, 1) := by decide +kernel
theorem dX12_dayOf_0 : decode cX12_dayOf 0 = .ok (.iload_n 0, 1) := by decide +kernel
theorem dX12_dayOf_1 : decode cX12_dayOf 1 = .ok (.bipush 15, 2) := by decide +kernel
theorem dX12_dayOf_3 : decode cX12_dayOf 3 = .ok (.idiv, 1) := by decide +kernel
theorem dX12_dayOf_4 : decode cX12_dayOf 4 = .ok (.ireturn, 1) := by decide +kernel
theorem dX12_giverOf_0 : decode cX12_giverOf 0 = .ok (.iload_n 0, 1) := by decide +kernel
theorem dX12_giverOf_1 : decode cX12_giverOf 1 = .ok (.iconst 5, 1) := by decide +kernel
theorem dX12_giverOf_2 : decode cX12_giverOf 2 = .ok (.idiv, 1) := by decide +kernel
theorem dX12_giverOf_3 : decode cX12_giverOf 3 = .ok (.iconst 3, 1) := by decide +kernel
theorem dX12_giverOf_4 : decode cX12_giverOf 4 = .ok (.irem, 1) := by decide +kernel
theorem dX12_giverOf_5 : decode cX12_giverOf 5 = .ok (.ireturn, 1) := by decide +kernel
theorem dX12_personOf_0 : decode cX12_personOf 0 = .ok (.iload_n 0, 1) := by decide +kernel
theorem dX12_personOf_1 : decode cX12_personOf 1 = .ok (.iconst 5, 1) := by decide +kernel
theorem dX12_personOf_2 : decode cX12_personOf 2 = .ok (.irem, 1) := by decide +kernel
theorem dX12_personOf_3 : decode cX12_personOf 3 = .ok (.ireturn, 1) := by decide +kernel
theorem dX12_isAlone_0 : decode cX12_isAlone 0 = .ok (.iload_n 2, 1) := by decide +kernel
theorem dX12_isAlone_1 : decode cX12_isAlone 1 = .ok (.invokestatic 427, 3) := by decide +kernel
theorem dX12_isAlone_4 : decode cX12_isAlone 4 = .ok (.istore_n 3, 1) := by decide +kernel
theorem dX12_isAlone_5 : decode cX12_isAlone 5 = .ok (.iload_n 2, 1) := by decide +kernel
theorem dX12_isAlone_6 : decode cX12_isAlone 6 = .ok (.invokestatic 430, 3) := by decide +kernel
theorem dX12_isAlone_9 : decode cX12_isAlone 9 = .ok (.istore 4, 2) := by decide +kernel
theorem dX12_isAlone_11 : decode cX12_isAlone 11 = .ok (.iload_n 2, 1) := by decide +kernel
theorem dX12_isAlone_12 : decode cX12_isAlone 12 = .ok (.invokestatic 433, 3) := by decide +kernel
theorem dX12_isAlone_15 : decode cX12_isAlone 15 = .ok (.istore 5, 2) := by decide +kernel
theorem dX12_isAlone_17 : decode cX12_isAlone 17 = .ok (.iload_n 3, 1) := by decide +kernel
theorem dX12_isAlone_18 : decode cX12_isAlone 18 = .ok (.aload_n 0, 1) := by decide +kernel
theorem dX12_isAlone_19 : decode cX12_isAlone 19 = .ok (.getfield 369, 3) := by decide +kernel
theorem dX12_isAlone_22 : decode cX12_isAlone 22 = .ok (.getfield 166, 3) := by decide +kernel
theorem dX12_isAlone_25 : decode cX12_isAlone 25 = .ok (.if_icmp .ge 27, 3) := by decide +kernel
theorem dX12_isAlone_28 : decode cX12_isAlone 28 = .ok (.iload 4, 2) := by decide +kernel
theorem dX12_isAlone_30 : decode cX12_isAlone 30 = .ok (.aload_n 0, 1) := by decide +kernel
theorem dX12_isAlone_31 : decode cX12_isAlone 31 = .ok (.getfield 369, 3) := by decide +kernel
theorem dX12_isAlone_34 : decode cX12_isAlone 34 = .ok (.getfield 207, 3) := by decide +kernel
theorem dX12_isAlone_37 : decode cX12_isAlone 37 = .ok (.if_icmp .ge 15, 3) := by decide +kernel
theorem dX12_isAlone_40 : decode cX12_isAlone 40 = .ok (.iload 5, 2) := by decide +kernel
theorem dX12_isAlone_42 : decode cX12_isAlone 42 = .ok (.aload_n 0, 1) := by decide +kernel
theorem dX12_isAlone_43 : decode cX12_isAlone 43 = .ok (.getfield 369, 3) := by decide +kernel
theorem dX12_isAlone_46 : decode cX12_isAlone 46 = .ok (.getfield 204, 3) := by decide +kernel
theorem dX12_isAlone_49 : decode cX12_isAlone 49 = .ok (.if_icmp .lt 5, 3) := by decide +kernel
theorem dX12_isAlone_52 : decode cX12_isAlone 52 = .ok (.iconst 0, 1) := by decide +kernel
theorem dX12_isAlone_53 : decode cX12_isAlone 53 = .ok (.ireturn, 1) := by decide +kernel
theorem dX12_isAlone_54 : decode cX12_isAlone 54 = .ok (.aload_n 0, 1) := by decide +kernel
theorem dX12_isAlone_55 : decode cX12_isAlone 55 = .ok (.invokevirtual 436, 3) := by decide +kernel
theorem dX12_isAlone_58 : decode cX12_isAlone 58 = .ok (.aload_n 0, 1) := by decide +kernel
theorem dX12_isAlone_59 : decode cX12_isAlone 59 = .ok (.aload_n 0, 1) := by decide +kernel
theorem dX12_isAlone_60 : decode cX12_isAlone 60 = .ok (.getfield 21, 3) := by decide +kernel
theorem dX12_isAlone_63 : decode cX12_isAlone 63 = .ok (.iload 4, 2) := by decide +kernel
theorem dX12_isAlone_65 : decode cX12_isAlone 65 = .ok (.iload_n 1, 1) := by decide +kernel
theorem dX12_isAlone_66 : decode cX12_isAlone 66 = .ok (.iload 5, 2) := by decide +kernel
theorem dX12_isAlone_68 : decode cX12_isAlone 68 = .ok (.iload_n 3, 1) := by decide +kernel
theorem dX12_isAlone_69 : decode cX12_isAlone 69 = .ok (.invokevirtual 424, 3) := by decide +kernel
theorem dX12_isAlone_72 : decode cX12_isAlone 72 = .ok (.ifCond .ne 7, 3) := by decide +kernel
theorem dX12_isAlone_75 : decode cX12_isAlone 75 = .ok (.iconst 1, 1) := by decide +kernel
theorem dX12_isAlone_76 : decode cX12_isAlone 76 = .ok (.goto 4, 3) := by decide +kernel
theorem dX12_isAlone_79 : decode cX12_isAlone 79 = .ok (.iconst 0, 1) := by decide +kernel
theorem dX12_isAlone_80 : decode cX12_isAlone 80 = .ok (.ireturn, 1) := by decide +kernel
theorem dX12_isFree_0 : decode cX12_isFree 0 = .ok (.iconst 0, 1) := by decide +kernel
theorem dX12_isFree_1 : decode cX12_isFree 1 = .ok (.istore_n 2, 1) := by decide +kernel
theorem dX12_isFree_2 : decode cX12_isFree 2 = .ok (.iload_n 2, 1) := by decide +kernel
theorem dX12_isFree_3 : decode cX12_isFree 3 = .ok (.iload_n 1, 1) := by decide +kernel
theorem dX12_isFree_4 : decode cX12_isFree 4 = .ok (.if_icmp .ge 53, 3) := by decide +kernel
theorem dX12_isFree_7 : decode cX12_isFree 7 = .ok (.aload_n 0, 1) := by decide +kernel
theorem dX12_isFree_8 : decode cX12_isFree 8 = .ok (.getfield 33, 3) := by decide +kernel
theorem dX12_isFree_11 : decode cX12_isFree 11 = .ok (.iload_n 2, 1) := by decide +kernel
theorem dX12_isFree_12 : decode cX12_isFree 12 = .ok (.iaload, 1) := by decide +kernel
theorem dX12_isFree_13 : decode cX12_isFree 13 = .ok (.invokestatic 427, 3) := by decide +kernel
theorem dX12_isFree_16 : decode cX12_isFree 16 = .ok (.aload_n 0, 1) := by decide +kernel
theorem dX12_isFree_17 : decode cX12_isFree 17 = .ok (.getfield 33, 3) := by decide +kernel
theorem dX12_isFree_20 : decode cX12_isFree 20 = .ok (.iload_n 1, 1) := by decide +kernel
theorem dX12_isFree_21 : decode cX12_isFree 21 = .ok (.iaload, 1) := by decide +kernel
theorem dX12_isFree_22 : decode cX12_isFree 22 = .ok (.invokestatic 427, 3) := by decide +kernel
theorem dX12_isFree_25 : decode cX12_isFree 25 = .ok (.if_icmp .ne 26, 3) := by decide +kernel
theorem dX12_isFree_28 : decode cX12_isFree 28 = .ok (.aload_n 0, 1) := by decide +kernel
theorem dX12_isFree_29 : decode cX12_isFree 29 = .ok (.getfield 33, 3) := by decide +kernel
theorem dX12_isFree_32 : decode cX12_isFree 32 = .ok (.iload_n 2, 1) := by decide +kernel
theorem dX12_isFree_33 : decode cX12_isFree 33 = .ok (.iaload, 1) := by decide +kernel
theorem dX12_isFree_34 : decode cX12_isFree 34 = .ok (.invokestatic 430, 3) := by decide +kernel
theorem dX12_isFree_37 : decode cX12_isFree 37 = .ok (.aload_n 0, 1) := by decide +kernel
theorem dX12_isFree_38 : decode cX12_isFree 38 = .ok (.getfield 33, 3) := by decide +kernel
theorem dX12_isFree_41 : decode cX12_isFree 41 = .ok (.iload_n 1, 1) := by decide +kernel
theorem dX12_isFree_42 : decode cX12_isFree 42 = .ok (.iaload, 1) := by decide +kernel
theorem dX12_isFree_43 : decode cX12_isFree 43 = .ok (.invokestatic 430, 3) := by decide +kernel
theorem dX12_isFree_46 : decode cX12_isFree 46 = .ok (.if_icmp .ne 5, 3) := by decide +kernel
theorem dX12_isFree_49 : decode cX12_isFree 49 = .ok (.iconst 0, 1) := by decide +kernel
theorem dX12_isFree_50 : decode cX12_isFree 50 = .ok (.ireturn, 1) := by decide +kernel
theorem dX12_isFree_51 : decode cX12_isFree 51 = .ok (.iinc 2 1, 3) := by decide +kernel
theorem dX12_isFree_54 : decode cX12_isFree 54 = .ok (.goto (-52), 3) := by decide +kernel
theorem dX12_isFree_57 : decode cX12_isFree 57 = .ok (.iconst 1, 1) := by decide +kernel
theorem dX12_isFree_58 : decode cX12_isFree 58 = .ok (.ireturn, 1) := by decide +kernel
theorem dX12_areGiven_0 : decode cX12_areGiven 0 = .ok (.aload_n 0, 1) := by decide +kernel
theorem dX12_areGiven_1 : decode cX12_areGiven 1 = .ok (.invokevirtual 436, 3) := by decide +kernel
theorem dX12_areGiven_4 : decode cX12_areGiven 4 = .ok (.iconst 0, 1) := by decide +kernel
theorem dX12_areGiven_5 : decode cX12_areGiven 5 = .ok (.istore_n 1, 1) := by decide +kernel
theorem dX12_areGiven_6 : decode cX12_areGiven 6 = .ok (.iload_n 1, 1) := by decide +kernel
theorem dX12_areGiven_7 : decode cX12_areGiven 7 = .ok (.aload_n 0, 1) := by decide +kernel
theorem dX12_areGiven_8 : decode cX12_areGiven 8 = .ok (.getfield 369, 3) := by decide +kernel
theorem dX12_areGiven_11 : decode cX12_areGiven 11 = .ok (.getfield 166, 3) := by decide +kernel
theorem dX12_areGiven_14 : decode cX12_areGiven 14 = .ok (.if_icmp .ge 105, 3) := by decide +kernel
theorem dX12_areGiven_17 : decode cX12_areGiven 17 = .ok (.iconst 0, 1) := by decide +kernel
theorem dX12_areGiven_18 : decode cX12_areGiven 18 = .ok (.istore_n 2, 1) := by decide +kernel
theorem dX12_areGiven_19 : decode cX12_areGiven 19 = .ok (.iload_n 2, 1) := by decide +kernel
theorem dX12_areGiven_20 : decode cX12_areGiven 20 = .ok (.aload_n 0, 1) := by decide +kernel
theorem dX12_areGiven_21 : decode cX12_areGiven 21 = .ok (.getfield 369, 3) := by decide +kernel
theorem dX12_areGiven_24 : decode cX12_areGiven 24 = .ok (.getfield 201, 3) := by decide +kernel
theorem dX12_areGiven_27 : decode cX12_areGiven 27 = .ok (.if_icmp .ge 86, 3) := by decide +kernel
theorem dX12_areGiven_30 : decode cX12_areGiven 30 = .ok (.aload_n 0, 1) := by decide +kernel
theorem dX12_areGiven_31 : decode cX12_areGiven 31 = .ok (.getfield 33, 3) := by decide +kernel
theorem dX12_areGiven_34 : decode cX12_areGiven 34 = .ok (.iload_n 2, 1) := by decide +kernel
theorem dX12_areGiven_35 : decode cX12_areGiven 35 = .ok (.iaload, 1) := by decide +kernel
theorem dX12_areGiven_36 : decode cX12_areGiven 36 = .ok (.invokestatic 427, 3) := by decide +kernel
theorem dX12_areGiven_39 : decode cX12_areGiven 39 = .ok (.iload_n 1, 1) := by decide +kernel
theorem dX12_areGiven_40 : decode cX12_areGiven 40 = .ok (.if_icmp .eq 6, 3) := by decide +kernel
theorem dX12_areGiven_43 : decode cX12_areGiven 43 = .ok (.goto 64, 3) := by decide +kernel
theorem dX12_areGiven_46 : decode cX12_areGiven 46 = .ok (.aload_n 0, 1) := by decide +kernel
theorem dX12_areGiven_47 : decode cX12_areGiven 47 = .ok (.aload_n 0, 1) := by decide +kernel
theorem dX12_areGiven_48 : decode cX12_areGiven 48 = .ok (.getfield 21, 3) := by decide +kernel
theorem dX12_areGiven_51 : decode cX12_areGiven 51 = .ok (.aload_n 0, 1) := by decide +kernel
theorem dX12_areGiven_52 : decode cX12_areGiven 52 = .ok (.getfield 33, 3) := by decide +kernel
theorem dX12_areGiven_55 : decode cX12_areGiven 55 = .ok (.iload_n 2, 1) := by decide +kernel
theorem dX12_areGiven_56 : decode cX12_areGiven 56 = .ok (.iaload, 1) := by decide +kernel
theorem dX12_areGiven_57 : decode cX12_areGiven 57 = .ok (.invokestatic 430, 3) := by decide +kernel
theorem dX12_areGiven_60 : decode cX12_areGiven 60 = .ok (.iload_n 2, 1) := by decide +kernel
theorem dX12_areGiven_61 : decode cX12_areGiven 61 = .ok (.aload_n 0, 1) := by decide +kernel
theorem dX12_areGiven_62 : decode cX12_areGiven 62 = .ok (.getfield 33, 3) := by decide +kernel
theorem dX12_areGiven_65 : decode cX12_areGiven 65 = .ok (.iload_n 2, 1) := by decide +kernel
theorem dX12_areGiven_66 : decode cX12_areGiven 66 = .ok (.iaload, 1) := by decide +kernel
theorem dX12_areGiven_67 : decode cX12_areGiven 67 = .ok (.invokestatic 433, 3) := by decide +kernel
theorem dX12_areGiven_70 : decode cX12_areGiven 70 = .ok (.iload_n 1, 1) := by decide +kernel
theorem dX12_areGiven_71 : decode cX12_areGiven 71 = .ok (.invokevirtual 424, 3) := by decide +kernel
theorem dX12_areGiven_74 : decode cX12_areGiven 74 = .ok (.ifCond .eq 5, 3) := by decide +kernel
theorem dX12_areGiven_77 : decode cX12_areGiven 77 = .ok (.iconst 0, 1) := by decide +kernel
theorem dX12_areGiven_78 : decode cX12_areGiven 78 = .ok (.ireturn, 1) := by decide +kernel
theorem dX12_areGiven_79 : decode cX12_areGiven 79 = .ok (.aload_n 0, 1) := by decide +kernel
theorem dX12_areGiven_80 : decode cX12_areGiven 80 = .ok (.aload_n 0, 1) := by decide +kernel
theorem dX12_areGiven_81 : decode cX12_areGiven 81 = .ok (.getfield 21, 3) := by decide +kernel
theorem dX12_areGiven_84 : decode cX12_areGiven 84 = .ok (.iconst 0, 1) := by decide +kernel
theorem dX12_areGiven_85 : decode cX12_areGiven 85 = .ok (.aload_n 0, 1) := by decide +kernel
theorem dX12_areGiven_86 : decode cX12_areGiven 86 = .ok (.getfield 33, 3) := by decide +kernel
theorem dX12_areGiven_89 : decode cX12_areGiven 89 = .ok (.iload_n 2, 1) := by decide +kernel
theorem dX12_areGiven_90 : decode cX12_areGiven 90 = .ok (.iaload, 1) := by decide +kernel
theorem dX12_areGiven_91 : decode cX12_areGiven 91 = .ok (.invokestatic 430, 3) := by decide +kernel
theorem dX12_areGiven_94 : decode cX12_areGiven 94 = .ok (.iload_n 2, 1) := by decide +kernel
theorem dX12_areGiven_95 : decode cX12_areGiven 95 = .ok (.aload_n 0, 1) := by decide +kernel
theorem dX12_areGiven_96 : decode cX12_areGiven 96 = .ok (.getfield 33, 3) := by decide +kernel
theorem dX12_areGiven_99 : decode cX12_areGiven 99 = .ok (.iload_n 2, 1) := by decide +kernel
theorem dX12_areGiven_100 : decode cX12_areGiven 100 = .ok (.iaload, 1) := by decide +kernel
theorem dX12_areGiven_101 : decode cX12_areGiven 101 = .ok (.invokestatic 433, 3) := by decide +kernel
theorem dX12_areGiven_104 : decode cX12_areGiven 104 = .ok (.invokevirtual 439, 3) := by decide +kernel
theorem dX12_areGiven_107 : decode cX12_areGiven 107 = .ok (.iinc 2 1, 3) := by decide +kernel
theorem dX12_areGiven_110 : decode cX12_areGiven 110 = .ok (.goto (-91), 3) := by decide +kernel
theorem dX12_areGiven_113 : decode cX12_areGiven 113 = .ok (.iinc 1 1, 3) := by decide +kernel
theorem dX12_areGiven_116 : decode cX12_areGiven 116 = .ok (.goto (-110), 3) := by decide +kernel
theorem dX12_areGiven_119 : decode cX12_areGiven 119 = .ok (.iconst 1, 1) := by decide +kernel
theorem dX12_areGiven_120 : decode cX12_areGiven 120 = .ok (.ireturn, 1) := by decide +kernel
theorem dX12_gives_0 : decode cX12_gives 0 = .ok (.iload_n 1, 1) := by decide +kernel
theorem dX12_gives_1 : decode cX12_gives 1 = .ok (.iconst 1, 1) := by decide +kernel
theorem dX12_gives_2 : decode cX12_gives 2 = .ok (.iadd, 1) := by decide +kernel
theorem dX12_gives_3 : decode cX12_gives 3 = .ok (.iconst 3, 1) := by decide +kernel
theorem dX12_gives_4 : decode cX12_gives 4 = .ok (.imul, 1) := by decide +kernel
theorem dX12_gives_5 : decode cX12_gives 5 = .ok (.iconst 5, 1) := by decide +kernel
theorem dX12_gives_6 : decode cX12_gives 6 = .ok (.imul, 1) := by decide +kernel
theorem dX12_gives_7 : decode cX12_gives 7 = .ok (.istore_n 2, 1) := by decide +kernel
theorem dX12_gives_8 : decode cX12_gives 8 = .ok (.iconst 0, 1) := by decide +kernel
theorem dX12_gives_9 : decode cX12_gives 9 = .ok (.istore_n 3, 1) := by decide +kernel
theorem dX12_gives_10 : decode cX12_gives 10 = .ok (.aload_n 0, 1) := by decide +kernel
theorem dX12_gives_11 : decode cX12_gives 11 = .ok (.getfield 33, 3) := by decide +kernel
theorem dX12_gives_14 : decode cX12_gives 14 = .ok (.iconst 0, 1) := by decide +kernel
theorem dX12_gives_15 : decode cX12_gives 15 = .ok (.iconst (-1), 1) := by decide +kernel
theorem dX12_gives_16 : decode cX12_gives 16 = .ok (.iastore, 1) := by decide +kernel
theorem dX12_gives_17 : decode cX12_gives 17 = .ok (.iload_n 3, 1) := by decide +kernel
theorem dX12_gives_18 : decode cX12_gives 18 = .ok (.ifCond .lt 109, 3) := by decide +kernel
theorem dX12_gives_21 : decode cX12_gives 21 = .ok (.aload_n 0, 1) := by decide +kernel
theorem dX12_gives_22 : decode cX12_gives 22 = .ok (.getfield 33, 3) := by decide +kernel
theorem dX12_gives_25 : decode cX12_gives 25 = .ok (.iload_n 3, 1) := by decide +kernel
theorem dX12_gives_26 : decode cX12_gives 26 = .ok (.dup2, 1) := by decide +kernel
theorem dX12_gives_27 : decode cX12_gives 27 = .ok (.iaload, 1) := by decide +kernel
theorem dX12_gives_28 : decode cX12_gives 28 = .ok (.iconst 1, 1) := by decide +kernel
theorem dX12_gives_29 : decode cX12_gives 29 = .ok (.iadd, 1) := by decide +kernel
theorem dX12_gives_30 : decode cX12_gives 30 = .ok (.iastore, 1) := by decide +kernel
theorem dX12_gives_31 : decode cX12_gives 31 = .ok (.aload_n 0, 1) := by decide +kernel
theorem dX12_gives_32 : decode cX12_gives 32 = .ok (.getfield 33, 3) := by decide +kernel
theorem dX12_gives_35 : decode cX12_gives 35 = .ok (.iload_n 3, 1) := by decide +kernel
theorem dX12_gives_36 : decode cX12_gives 36 = .ok (.iaload, 1) := by decide +kernel
theorem dX12_gives_37 : decode cX12_gives 37 = .ok (.iload_n 2, 1) := by decide +kernel
theorem dX12_gives_38 : decode cX12_gives 38 = .ok (.if_icmp .ge 38, 3) := by decide +kernel
theorem dX12_gives_41 : decode cX12_gives 41 = .ok (.aload_n 0, 1) := by decide +kernel
theorem dX12_gives_42 : decode cX12_gives 42 = .ok (.iload_n 3, 1) := by decide +kernel
theorem dX12_gives_43 : decode cX12_gives 43 = .ok (.aload_n 0, 1) := by decide +kernel
theorem dX12_gives_44 : decode cX12_gives 44 = .ok (.getfield 33, 3) := by decide +kernel
theorem dX12_gives_47 : decode cX12_gives 47 = .ok (.iload_n 3, 1) := by decide +kernel
theorem dX12_gives_48 : decode cX12_gives 48 = .ok (.iaload, 1) := by decide +kernel
theorem dX12_gives_49 : decode cX12_gives 49 = .ok (.invokevirtual 446, 3) := by decide +kernel
theorem dX12_gives_52 : decode cX12_gives 52 = .ok (.ifCond .eq 11, 3) := by decide +kernel
theorem dX12_gives_55 : decode cX12_gives 55 = .ok (.aload_n 0, 1) := by decide +kernel
theorem dX12_gives_56 : decode cX12_gives 56 = .ok (.iload_n 3, 1) := by decide +kernel
theorem dX12_gives_57 : decode cX12_gives 57 = .ok (.invokevirtual 450, 3) := by decide +kernel
theorem dX12_gives_60 : decode cX12_gives 60 = .ok (.ifCond .ne 16, 3) := by decide +kernel
theorem dX12_gives_63 : decode cX12_gives 63 = .ok (.aload_n 0, 1) := by decide +kernel
theorem dX12_gives_64 : decode cX12_gives 64 = .ok (.getfield 33, 3) := by decide +kernel
theorem dX12_gives_67 : decode cX12_gives 67 = .ok (.iload_n 3, 1) := by decide +kernel
theorem dX12_gives_68 : decode cX12_gives 68 = .ok (.dup2, 1) := by decide +kernel
theorem dX12_gives_69 : decode cX12_gives 69 = .ok (.iaload, 1) := by decide +kernel
theorem dX12_gives_70 : decode cX12_gives 70 = .ok (.iconst 1, 1) := by decide +kernel
theorem dX12_gives_71 : decode cX12_gives 71 = .ok (.iadd, 1) := by decide +kernel
theorem dX12_gives_72 : decode cX12_gives 72 = .ok (.iastore, 1) := by decide +kernel
theorem dX12_gives_73 : decode cX12_gives 73 = .ok (.goto (-42), 3) := by decide +kernel
theorem dX12_gives_76 : decode cX12_gives 76 = .ok (.aload_n 0, 1) := by decide +kernel
theorem dX12_gives_77 : decode cX12_gives 77 = .ok (.getfield 33, 3) := by decide +kernel
theorem dX12_gives_80 : decode cX12_gives 80 = .ok (.iload_n 3, 1) := by decide +kernel
theorem dX12_gives_81 : decode cX12_gives 81 = .ok (.iaload, 1) := by decide +kernel
theorem dX12_gives_82 : decode cX12_gives 82 = .ok (.iload_n 2, 1) := by decide +kernel
theorem dX12_gives_83 : decode cX12_gives 83 = .ok (.if_icmp .lt 9, 3) := by decide +kernel
theorem dX12_gives_86 : decode cX12_gives 86 = .ok (.iinc 3 (-1), 3) := by decide +kernel
theorem dX12_gives_89 : decode cX12_gives 89 = .ok (.goto (-72), 3) := by decide +kernel
theorem dX12_gives_92 : decode cX12_gives 92 = .ok (.iload_n 3, 1) := by decide +kernel
theorem dX12_gives_93 : decode cX12_gives 93 = .ok (.iconst 1, 1) := by decide +kernel
theorem dX12_gives_94 : decode cX12_gives 94 = .ok (.iadd, 1) := by decide +kernel
theorem dX12_gives_95 : decode cX12_gives 95 = .ok (.aload_n 0, 1) := by decide +kernel
theorem dX12_gives_96 : decode cX12_gives 96 = .ok (.getfield 369, 3) := by decide +kernel
theorem dX12_gives_99 : decode cX12_gives 99 = .ok (.getfield 201, 3) := by decide +kernel
theorem dX12_gives_102 : decode cX12_gives 102 = .ok (.if_icmp .ge 16, 3) := by decide +kernel
theorem dX12_gives_105 : decode cX12_gives 105 = .ok (.iinc 3 1, 3) := by decide +kernel
theorem dX12_gives_108 : decode cX12_gives 108 = .ok (.aload_n 0, 1) := by decide +kernel
theorem dX12_gives_109 : decode cX12_gives 109 = .ok (.getfield 33, 3) := by decide +kernel
theorem dX12_gives_112 : decode cX12_gives 112 = .ok (.iload_n 3, 1) := by decide +kernel
theorem dX12_gives_113 : decode cX12_gives 113 = .ok (.iconst (-1), 1) := by decide +kernel
theorem dX12_gives_114 : decode cX12_gives 114 = .ok (.iastore, 1) := by decide +kernel
theorem dX12_gives_115 : decode cX12_gives 115 = .ok (.goto (-98), 3) := by decide +kernel
theorem dX12_gives_118 : decode cX12_gives 118 = .ok (.aload_n 0, 1) := by decide +kernel
theorem dX12_gives_119 : decode cX12_gives 119 = .ok (.invokevirtual 453, 3) := by decide +kernel
theorem dX12_gives_122 : decode cX12_gives 122 = .ok (.ifCond .eq (-105), 3) := by decide +kernel
theorem dX12_gives_125 : decode cX12_gives 125 = .ok (.iconst 1, 1) := by decide +kernel
theorem dX12_gives_126 : decode cX12_gives 126 = .ok (.ireturn, 1) := by decide +kernel
theorem dX12_gives_127 : decode cX12_gives 127 = .ok (.iconst 0, 1) := by decide +kernel
theorem dX12_gives_128 : decode cX12_gives 128 = .ok (.ireturn, 1) := by decide +kernel
theorem dX12_soonestDay_0 : decode cX12_soonestDay 0 = .ok (.iconst 0, 1) := by decide +kernel
theorem dX12_soonestDay_1 : decode cX12_soonestDay 1 = .ok (.istore_n 1, 1) := by decide +kernel
theorem dX12_soonestDay_2 : decode cX12_soonestDay 2 = .ok (.iload_n 1, 1) := by decide +kernel
theorem dX12_soonestDay_3 : decode cX12_soonestDay 3 = .ok (.aload_n 0, 1) := by decide +kernel
theorem dX12_soonestDay_4 : decode cX12_soonestDay 4 = .ok (.getfield 369, 3) := by decide +kernel
theorem dX12_soonestDay_7 : decode cX12_soonestDay 7 = .ok (.getfield 166, 3) := by decide +kernel
theorem dX12_soonestDay_10 : decode cX12_soonestDay 10 = .ok (.if_icmp .ge 19, 3) := by decide +kernel
theorem dX12_soonestDay_13 : decode cX12_soonestDay 13 = .ok (.aload_n 0, 1) := by decide +kernel
theorem dX12_soonestDay_14 : decode cX12_soonestDay 14 = .ok (.iload_n 1, 1) := by decide +kernel
theorem dX12_soonestDay_15 : decode cX12_soonestDay 15 = .ok (.invokevirtual 456, 3) := by decide +kernel
theorem dX12_soonestDay_18 : decode cX12_soonestDay 18 = .ok (.ifCond .eq 5, 3) := by decide +kernel
theorem dX12_soonestDay_21 : decode cX12_soonestDay 21 = .ok (.iload_n 1, 1) := by decide +kernel
theorem dX12_soonestDay_22 : decode cX12_soonestDay 22 = .ok (.ireturn, 1) := by decide +kernel
theorem dX12_soonestDay_23 : decode cX12_soonestDay 23 = .ok (.iinc 1 1, 3) := by decide +kernel
theorem dX12_soonestDay_26 : decode cX12_soonestDay 26 = .ok (.goto (-24), 3) := by decide +kernel
theorem dX12_soonestDay_29 : decode cX12_soonestDay 29 = .ok (.bipush (-2), 2) := by decide +kernel
theorem dX12_soonestDay_31 : decode cX12_soonestDay 31 = .ok (.ireturn, 1) := by decide +kernel
theorem dX12_soonest_0 : decode cX12_soonest 0 = .ok (.aload_n 0, 1) := by decide +kernel
theorem dX12_soonest_1 : decode cX12_soonest 1 = .ok (.iconst 0, 1) := by decide +kernel
theorem dX12_soonest_2 : decode cX12_soonest 2 = .ok (.putfield 48, 3) := by decide +kernel
theorem dX12_soonest_5 : decode cX12_soonest 5 = .ok (.aload_n 0, 1) := by decide +kernel
theorem dX12_soonest_6 : decode cX12_soonest 6 = .ok (.getfield 369, 3) := by decide +kernel
theorem dX12_soonest_9 : decode cX12_soonest 9 = .ok (.ifnonnull 11, 3) := by decide +kernel
theorem dX12_soonest_12 : decode cX12_soonest 12 = .ok (.aload_n 0, 1) := by decide +kernel
theorem dX12_soonest_13 : decode cX12_soonest 13 = .ok (.iconst 1, 1) := by decide +kernel
theorem dX12_soonest_14 : decode cX12_soonest 14 = .ok (.invokevirtual 54, 3) := by decide +kernel
theorem dX12_soonest_17 : decode cX12_soonest 17 = .ok (.goto 11, 3) := by decide +kernel
theorem dX12_soonest_20 : decode cX12_soonest 20 = .ok (.aload_n 0, 1) := by decide +kernel
theorem dX12_soonest_21 : decode cX12_soonest 21 = .ok (.aload_n 0, 1) := by decide +kernel
theorem dX12_soonest_22 : decode cX12_soonest 22 = .ok (.invokevirtual 458, 3) := by decide +kernel
theorem dX12_soonest_25 : decode cX12_soonest 25 = .ok (.invokevirtual 58, 3) := by decide +kernel
theorem dX12_soonest_28 : decode cX12_soonest 28 = .ok (.ireturn, 1) := by decide +kernel
theorem dX12_soonestOf_0 : decode cX12_soonestOf 0 = .ok (.aload_n 0, 1) := by decide +kernel
theorem dX12_soonestOf_1 : decode cX12_soonestOf 1 = .ok (.iconst 0, 1) := by decide +kernel
theorem dX12_soonestOf_2 : decode cX12_soonestOf 2 = .ok (.putfield 48, 3) := by decide +kernel
theorem dX12_soonestOf_5 : decode cX12_soonestOf 5 = .ok (.aload_n 0, 1) := by decide +kernel
theorem dX12_soonestOf_6 : decode cX12_soonestOf 6 = .ok (.iload_n 1, 1) := by decide +kernel
theorem dX12_soonestOf_7 : decode cX12_soonestOf 7 = .ok (.invokevirtual 405, 3) := by decide +kernel
theorem dX12_soonestOf_10 : decode cX12_soonestOf 10 = .ok (.ifCond .ne 9, 3) := by decide +kernel
theorem dX12_soonestOf_13 : decode cX12_soonestOf 13 = .ok (.aload_n 0, 1) := by decide +kernel
theorem dX12_soonestOf_14 : decode cX12_soonestOf 14 = .ok (.iconst 1, 1) := by decide +kernel
theorem dX12_soonestOf_15 : decode cX12_soonestOf 15 = .ok (.invokevirtual 54, 3) := by decide +kernel
theorem dX12_soonestOf_18 : decode cX12_soonestOf 18 = .ok (.ireturn, 1) := by decide +kernel
theorem dX12_soonestOf_19 : decode cX12_soonestOf 19 = .ok (.aload_n 0, 1) := by decide +kernel
theorem dX12_soonestOf_20 : decode cX12_soonestOf 20 = .ok (.invokevirtual 458, 3) := by decide +kernel
theorem dX12_soonestOf_23 : decode cX12_soonestOf 23 = .ok (.bipush (-2), 2) := by decide +kernel
theorem dX12_soonestOf_25 : decode cX12_soonestOf 25 = .ok (.if_icmp .ne 10, 3) := by decide +kernel
theorem dX12_soonestOf_28 : decode cX12_soonestOf 28 = .ok (.aload_n 0, 1) := by decide +kernel
theorem dX12_soonestOf_29 : decode cX12_soonestOf 29 = .ok (.bipush 6, 2) := by decide +kernel
theorem dX12_soonestOf_31 : decode cX12_soonestOf 31 = .ok (.invokevirtual 54, 3) := by decide +kernel
theorem dX12_soonestOf_34 : decode cX12_soonestOf 34 = .ok (.ireturn, 1) := by decide +kernel
theorem dX12_soonestOf_35 : decode cX12_soonestOf 35 = .ok (.aload_n 0, 1) := by decide +kernel
theorem dX12_soonestOf_36 : decode cX12_soonestOf 36 = .ok (.bipush 100, 2) := by decide +kernel
theorem dX12_soonestOf_38 : decode cX12_soonestOf 38 = .ok (.aload_n 0, 1) := by decide +kernel
theorem dX12_soonestOf_39 : decode cX12_soonestOf 39 = .ok (.getfield 33, 3) := by decide +kernel
theorem dX12_soonestOf_42 : decode cX12_soonestOf 42 = .ok (.iload_n 1, 1) := by decide +kernel
theorem dX12_soonestOf_43 : decode cX12_soonestOf 43 = .ok (.iaload, 1) := by decide +kernel
theorem dX12_soonestOf_44 : decode cX12_soonestOf 44 = .ok (.invokestatic 427, 3) := by decide +kernel
theorem dX12_soonestOf_47 : decode cX12_soonestOf 47 = .ok (.imul, 1) := by decide +kernel
theorem dX12_soonestOf_48 : decode cX12_soonestOf 48 = .ok (.bipush 10, 2) := by decide +kernel
theorem dX12_soonestOf_50 : decode cX12_soonestOf 50 = .ok (.aload_n 0, 1) := by decide +kernel
theorem dX12_soonestOf_51 : decode cX12_soonestOf 51 = .ok (.getfield 33, 3) := by decide +kernel
theorem dX12_soonestOf_54 : decode cX12_soonestOf 54 = .ok (.iload_n 1, 1) := by decide +kernel
theorem dX12_soonestOf_55 : decode cX12_soonestOf 55 = .ok (.iaload, 1) := by decide +kernel
theorem dX12_soonestOf_56 : decode cX12_soonestOf 56 = .ok (.invokestatic 430, 3) := by decide +kernel
theorem dX12_soonestOf_59 : decode cX12_soonestOf 59 = .ok (.imul, 1) := by decide +kernel
theorem dX12_soonestOf_60 : decode cX12_soonestOf 60 = .ok (.iadd, 1) := by decide +kernel
theorem dX12_soonestOf_61 : decode cX12_soonestOf 61 = .ok (.aload_n 0, 1) := by decide +kernel
theorem dX12_soonestOf_62 : decode cX12_soonestOf 62 = .ok (.getfield 33, 3) := by decide +kernel
theorem dX12_soonestOf_65 : decode cX12_soonestOf 65 = .ok (.iload_n 1, 1) := by decide +kernel
theorem dX12_soonestOf_66 : decode cX12_soonestOf 66 = .ok (.iaload, 1) := by decide +kernel
theorem dX12_soonestOf_67 : decode cX12_soonestOf 67 = .ok (.invokestatic 433, 3) := by decide +kernel
theorem dX12_soonestOf_70 : decode cX12_soonestOf 70 = .ok (.iadd, 1) := by decide +kernel
theorem dX12_soonestOf_71 : decode cX12_soonestOf 71 = .ok (.invokevirtual 58, 3) := by decide +kernel
theorem dX12_soonestOf_74 : decode cX12_soonestOf 74 = .ok (.ireturn, 1) := by decide +kernel
theorem dX12_never_0 : decode cX12_never 0 = .ok (.aload_n 0, 1) := by decide +kernel
theorem dX12_never_1 : decode cX12_never 1 = .ok (.iconst 0, 1) := by decide +kernel
theorem dX12_never_2 : decode cX12_never 2 = .ok (.putfield 48, 3) := by decide +kernel
theorem dX12_never_5 : decode cX12_never 5 = .ok (.aload_n 0, 1) := by decide +kernel
theorem dX12_never_6 : decode cX12_never 6 = .ok (.getfield 369, 3) := by decide +kernel
theorem dX12_never_9 : decode cX12_never 9 = .ok (.ifnonnull 9, 3) := by decide +kernel
theorem dX12_never_12 : decode cX12_never 12 = .ok (.aload_n 0, 1) := by decide +kernel
theorem dX12_never_13 : decode cX12_never 13 = .ok (.iconst 1, 1) := by decide +kernel
theorem dX12_never_14 : decode cX12_never 14 = .ok (.invokevirtual 54, 3) := by decide +kernel
theorem dX12_never_17 : decode cX12_never 17 = .ok (.ireturn, 1) := by decide +kernel
theorem dX12_never_18 : decode cX12_never 18 = .ok (.iconst 0, 1) := by decide +kernel
theorem dX12_never_19 : decode cX12_never 19 = .ok (.istore_n 1, 1) := by decide +kernel
theorem dX12_never_20 : decode cX12_never 20 = .ok (.iconst 0, 1) := by decide +kernel
theorem dX12_never_21 : decode cX12_never 21 = .ok (.istore_n 2, 1) := by decide +kernel
theorem dX12_never_22 : decode cX12_never 22 = .ok (.iload_n 2, 1) := by decide +kernel
theorem dX12_never_23 : decode cX12_never 23 = .ok (.aload_n 0, 1) := by decide +kernel
theorem dX12_never_24 : decode cX12_never 24 = .ok (.getfield 369, 3) := by decide +kernel
theorem dX12_never_27 : decode cX12_never 27 = .ok (.getfield 201, 3) := by decide +kernel
theorem dX12_never_30 : decode cX12_never 30 = .ok (.if_icmp .ge 53, 3) := by decide +kernel
theorem dX12_never_33 : decode cX12_never 33 = .ok (.iconst 0, 1) := by decide +kernel
theorem dX12_never_34 : decode cX12_never 34 = .ok (.istore_n 3, 1) := by decide +kernel
theorem dX12_never_35 : decode cX12_never 35 = .ok (.iconst 0, 1) := by decide +kernel
theorem dX12_never_36 : decode cX12_never 36 = .ok (.istore 4, 2) := by decide +kernel
theorem dX12_never_38 : decode cX12_never 38 = .ok (.iload 4, 2) := by decide +kernel
theorem dX12_never_40 : decode cX12_never 40 = .ok (.bipush 105, 2) := by decide +kernel
theorem dX12_never_42 : decode cX12_never 42 = .ok (.if_icmp .ge 21, 3) := by decide +kernel
theorem dX12_never_45 : decode cX12_never 45 = .ok (.iload_n 3, 1) := by decide +kernel
theorem dX12_never_46 : decode cX12_never 46 = .ok (.ifCond .ne 17, 3) := by decide +kernel
theorem dX12_never_49 : decode cX12_never 49 = .ok (.aload_n 0, 1) := by decide +kernel
theorem dX12_never_50 : decode cX12_never 50 = .ok (.iload_n 2, 1) := by decide +kernel
theorem dX12_never_51 : decode cX12_never 51 = .ok (.iload 4, 2) := by decide +kernel
theorem dX12_never_53 : decode cX12_never 53 = .ok (.invokevirtual 446, 3) := by decide +kernel
theorem dX12_never_56 : decode cX12_never 56 = .ok (.istore_n 3, 1) := by decide +kernel
theorem dX12_never_57 : decode cX12_never 57 = .ok (.iinc 4 1, 3) := by decide +kernel
theorem dX12_never_60 : decode cX12_never 60 = .ok (.goto (-22), 3) := by decide +kernel
theorem dX12_never_63 : decode cX12_never 63 = .ok (.iload_n 1, 1) := by decide +kernel
theorem dX12_never_64 : decode cX12_never 64 = .ok (.iload_n 3, 1) := by decide +kernel
