theorem dL_begin_0 : decode bL_begin 0 = .ok (.aload_n 0, 1) := by decide +kernel
theorem dL_begin_1 : decode bL_begin 1 = .ok (.iload_n 1, 1) := by decide +kernel
theorem dL_begin_2 : decode bL_begin 2 = .ok (.iload_n 2, 1) := by decide +kernel
theorem dL_begin_3 : decode bL_begin 3 = .ok (.invokevirtual 7, 3) := by decide +kernel
theorem dL_begin_6 : decode bL_begin 6 = .ok (.goto 6, 3) := by decide +kernel
theorem dL_begin_9 : decode bL_begin 9 = .ok (.astore_n 3, 1) := by decide +kernel
theorem dL_begin_10 : decode bL_begin 10 = .ok (.iconst 1, 1) := by decide +kernel
theorem dL_begin_11 : decode bL_begin 11 = .ok (.ireturn, 1) := by decide +kernel
theorem dL_begin_12 : decode bL_begin 12 = .ok (.iconst 0, 1) := by decide +kernel
theorem dL_begin_13 : decode bL_begin 13 = .ok (.ireturn, 1) := by decide +kernel
theorem dL_key_0 : decode bL_key 0 = .ok (.aload_n 3, 1) := by decide +kernel
theorem dL_key_1 : decode bL_key 1 = .ok (.iconst 0, 1) := by decide +kernel
theorem dL_key_2 : decode bL_key 2 = .ok (.aload_n 0, 1) := by decide +kernel
theorem dL_key_3 : decode bL_key 3 = .ok (.iload_n 1, 1) := by decide +kernel
theorem dL_key_4 : decode bL_key 4 = .ok (.iload_n 2, 1) := by decide +kernel
theorem dL_key_5 : decode bL_key 5 = .ok (.invokevirtual 15, 3) := by decide +kernel
theorem dL_key_8 : decode bL_key 8 = .ok (.i2l, 1) := by decide +kernel
theorem dL_key_9 : decode bL_key 9 = .ok (.lastore, 1) := by decide +kernel
theorem dL_key_10 : decode bL_key 10 = .ok (.goto 7, 3) := by decide +kernel
theorem dL_key_13 : decode bL_key 13 = .ok (.astore 4, 2) := by decide +kernel
theorem dL_key_15 : decode bL_key 15 = .ok (.iconst 1, 1) := by decide +kernel
theorem dL_key_16 : decode bL_key 16 = .ok (.ireturn, 1) := by decide +kernel
theorem dL_key_17 : decode bL_key 17 = .ok (.iconst 0, 1) := by decide +kernel
theorem dL_key_18 : decode bL_key 18 = .ok (.ireturn, 1) := by decide +kernel
theorem dL_amount_0 : decode bL_amount 0 = .ok (.aload 4, 2) := by decide +kernel
theorem dL_amount_2 : decode bL_amount 2 = .ok (.iconst 0, 1) := by decide +kernel
theorem dL_amount_3 : decode bL_amount 3 = .ok (.aload_n 0, 1) := by decide +kernel
theorem dL_amount_4 : decode bL_amount 4 = .ok (.iload_n 1, 1) := by decide +kernel
theorem dL_amount_5 : decode bL_amount 5 = .ok (.lload_n 2, 1) := by decide +kernel
theorem dL_amount_6 : decode bL_amount 6 = .ok (.invokevirtual 19, 3) := by decide +kernel
theorem dL_amount_9 : decode bL_amount 9 = .ok (.lastore, 1) := by decide +kernel
theorem dL_amount_10 : decode bL_amount 10 = .ok (.goto 7, 3) := by decide +kernel
theorem dL_amount_13 : decode bL_amount 13 = .ok (.astore 5, 2) := by decide +kernel
theorem dL_amount_15 : decode bL_amount 15 = .ok (.iconst 1, 1) := by decide +kernel
theorem dL_amount_16 : decode bL_amount 16 = .ok (.ireturn, 1) := by decide +kernel
theorem dL_amount_17 : decode bL_amount 17 = .ok (.iconst 0, 1) := by decide +kernel
theorem dL_amount_18 : decode bL_amount 18 = .ok (.ireturn, 1) := by decide +kernel
theorem dL_add_0 : decode bL_add 0 = .ok (.aload_n 2, 1) := by decide +kernel
theorem dL_add_1 : decode bL_add 1 = .ok (.iconst 0, 1) := by decide +kernel
theorem dL_add_2 : decode bL_add 2 = .ok (.aload_n 0, 1) := by decide +kernel
theorem dL_add_3 : decode bL_add 3 = .ok (.iload_n 1, 1) := by decide +kernel
theorem dL_add_4 : decode bL_add 4 = .ok (.invokevirtual 23, 3) := by decide +kernel
theorem dL_add_7 : decode bL_add 7 = .ok (.i2l, 1) := by decide +kernel
theorem dL_add_8 : decode bL_add 8 = .ok (.lastore, 1) := by decide +kernel
theorem dL_add_9 : decode bL_add 9 = .ok (.goto 6, 3) := by decide +kernel
theorem dL_add_12 : decode bL_add 12 = .ok (.astore_n 3, 1) := by decide +kernel
theorem dL_add_13 : decode bL_add 13 = .ok (.iconst 1, 1) := by decide +kernel
theorem dL_add_14 : decode bL_add 14 = .ok (.ireturn, 1) := by decide +kernel
theorem dL_add_15 : decode bL_add 15 = .ok (.iconst 0, 1) := by decide +kernel
theorem dL_add_16 : decode bL_add 16 = .ok (.ireturn, 1) := by decide +kernel
theorem dL_spread_0 : decode bL_spread 0 = .ok (.aload 4, 2) := by decide +kernel
theorem dL_spread_2 : decode bL_spread 2 = .ok (.iconst 0, 1) := by decide +kernel
theorem dL_spread_3 : decode bL_spread 3 = .ok (.aload_n 0, 1) := by decide +kernel
theorem dL_spread_4 : decode bL_spread 4 = .ok (.iload_n 1, 1) := by decide +kernel
theorem dL_spread_5 : decode bL_spread 5 = .ok (.iload_n 2, 1) := by decide +kernel
theorem dL_spread_6 : decode bL_spread 6 = .ok (.iload_n 3, 1) := by decide +kernel
theorem dL_spread_7 : decode bL_spread 7 = .ok (.invokevirtual 27, 3) := by decide +kernel
theorem dL_spread_10 : decode bL_spread 10 = .ok (.i2l, 1) := by decide +kernel
theorem dL_spread_11 : decode bL_spread 11 = .ok (.lastore, 1) := by decide +kernel
theorem dL_spread_12 : decode bL_spread 12 = .ok (.goto 7, 3) := by decide +kernel
theorem dL_spread_15 : decode bL_spread 15 = .ok (.astore 5, 2) := by decide +kernel
theorem dL_spread_17 : decode bL_spread 17 = .ok (.iconst 1, 1) := by decide +kernel
theorem dL_spread_18 : decode bL_spread 18 = .ok (.ireturn, 1) := by decide +kernel
theorem dL_spread_19 : decode bL_spread 19 = .ok (.iconst 0, 1) := by decide +kernel
theorem dL_spread_20 : decode bL_spread 20 = .ok (.ireturn, 1) := by decide +kernel
theorem dL_roll_0 : decode bL_roll 0 = .ok (.aload_n 2, 1) := by decide +kernel
theorem dL_roll_1 : decode bL_roll 1 = .ok (.iconst 0, 1) := by decide +kernel
theorem dL_roll_2 : decode bL_roll 2 = .ok (.aload_n 0, 1) := by decide +kernel
theorem dL_roll_3 : decode bL_roll 3 = .ok (.iload_n 1, 1) := by decide +kernel
theorem dL_roll_4 : decode bL_roll 4 = .ok (.invokevirtual 31, 3) := by decide +kernel
theorem dL_roll_7 : decode bL_roll 7 = .ok (.i2l, 1) := by decide +kernel
theorem dL_roll_8 : decode bL_roll 8 = .ok (.lastore, 1) := by decide +kernel
theorem dL_roll_9 : decode bL_roll 9 = .ok (.goto 6, 3) := by decide +kernel
theorem dL_roll_12 : decode bL_roll 12 = .ok (.astore_n 3, 1) := by decide +kernel
theorem dL_roll_13 : decode bL_roll 13 = .ok (.iconst 1, 1) := by decide +kernel
theorem dL_roll_14 : decode bL_roll 14 = .ok (.ireturn, 1) := by decide +kernel
theorem dL_roll_15 : decode bL_roll 15 = .ok (.iconst 0, 1) := by decide +kernel
theorem dL_roll_16 : decode bL_roll 16 = .ok (.ireturn, 1) := by decide +kernel
theorem dL_keyAt_0 : decode bL_keyAt 0 = .ok (.aload_n 3, 1) := by decide +kernel
theorem dL_keyAt_1 : decode bL_keyAt 1 = .ok (.iconst 0, 1) := by decide +kernel
theorem dL_keyAt_2 : decode bL_keyAt 2 = .ok (.aload_n 0, 1) := by decide +kernel
theorem dL_keyAt_3 : decode bL_keyAt 3 = .ok (.iload_n 1, 1) := by decide +kernel
theorem dL_keyAt_4 : decode bL_keyAt 4 = .ok (.iload_n 2, 1) := by decide +kernel
theorem dL_keyAt_5 : decode bL_keyAt 5 = .ok (.invokevirtual 34, 3) := by decide +kernel
theorem dL_keyAt_8 : decode bL_keyAt 8 = .ok (.i2l, 1) := by decide +kernel
theorem dL_keyAt_9 : decode bL_keyAt 9 = .ok (.lastore, 1) := by decide +kernel
theorem dL_keyAt_10 : decode bL_keyAt 10 = .ok (.goto 7, 3) := by decide +kernel
theorem dL_keyAt_13 : decode bL_keyAt 13 = .ok (.astore 4, 2) := by decide +kernel
theorem dL_keyAt_15 : decode bL_keyAt 15 = .ok (.iconst 1, 1) := by decide +kernel
theorem dL_keyAt_16 : decode bL_keyAt 16 = .ok (.ireturn, 1) := by decide +kernel
theorem dL_keyAt_17 : decode bL_keyAt 17 = .ok (.iconst 0, 1) := by decide +kernel
theorem dL_keyAt_18 : decode bL_keyAt 18 = .ok (.ireturn, 1) := by decide +kernel
theorem dL_count_0 : decode bL_count 0 = .ok (.aload_n 2, 1) := by decide +kernel
theorem dL_count_1 : decode bL_count 1 = .ok (.iconst 0, 1) := by decide +kernel
theorem dL_count_2 : decode bL_count 2 = .ok (.aload_n 0, 1) := by decide +kernel
theorem dL_count_3 : decode bL_count 3 = .ok (.iload_n 1, 1) := by decide +kernel
theorem dL_count_4 : decode bL_count 4 = .ok (.invokevirtual 37, 3) := by decide +kernel
theorem dL_count_7 : decode bL_count 7 = .ok (.lastore, 1) := by decide +kernel
theorem dL_count_8 : decode bL_count 8 = .ok (.goto 6, 3) := by decide +kernel
theorem dL_count_11 : decode bL_count 11 = .ok (.astore_n 3, 1) := by decide +kernel
theorem dL_count_12 : decode bL_count 12 = .ok (.iconst 1, 1) := by decide +kernel
theorem dL_count_13 : decode bL_count 13 = .ok (.ireturn, 1) := by decide +kernel
theorem dL_count_14 : decode bL_count 14 = .ok (.iconst 0, 1) := by decide +kernel
theorem dL_count_15 : decode bL_count 15 = .ok (.ireturn, 1) := by decide +kernel
theorem dL_told_0 : decode bL_told 0 = .ok (.aload 4, 2) := by decide +kernel
theorem dL_told_2 : decode bL_told 2 = .ok (.iconst 0, 1) := by decide +kernel
theorem dL_told_3 : decode bL_told 3 = .ok (.aload_n 0, 1) := by decide +kernel
theorem dL_told_4 : decode bL_told 4 = .ok (.iload_n 1, 1) := by decide +kernel
theorem dL_told_5 : decode bL_told 5 = .ok (.iload_n 2, 1) := by decide +kernel
theorem dL_told_6 : decode bL_told 6 = .ok (.iload_n 3, 1) := by decide +kernel
theorem dL_told_7 : decode bL_told 7 = .ok (.invokevirtual 41, 3) := by decide +kernel
theorem dL_told_10 : decode bL_told 10 = .ok (.lastore, 1) := by decide +kernel
theorem dL_told_11 : decode bL_told 11 = .ok (.goto 7, 3) := by decide +kernel
theorem dL_told_14 : decode bL_told 14 = .ok (.astore 5, 2) := by decide +kernel
theorem dL_told_16 : decode bL_told 16 = .ok (.iconst 1, 1) := by decide +kernel
theorem dL_told_17 : decode bL_told 17 = .ok (.ireturn, 1) := by decide +kernel
theorem dL_told_18 : decode bL_told 18 = .ok (.iconst 0, 1) := by decide +kernel
theorem dL_told_19 : decode bL_told 19 = .ok (.ireturn, 1) := by decide +kernel
theorem dL_law_0 : decode bL_law 0 = .ok (.new 8, 3) := by decide +kernel
theorem dL_law_3 : decode bL_law 3 = .ok (.dup, 1) := by decide +kernel
theorem dL_law_4 : decode bL_law 4 = .ok (.invokespecial 45, 3) := by decide +kernel
theorem dL_law_7 : decode bL_law 7 = .ok (.astore_n 1, 1) := by decide +kernel
theorem dL_law_8 : decode bL_law 8 = .ok (.new 46, 3) := by decide +kernel
theorem dL_law_11 : decode bL_law 11 = .ok (.dup, 1) := by decide +kernel
theorem dL_law_12 : decode bL_law 12 = .ok (.invokespecial 48, 3) := by decide +kernel
theorem dL_law_15 : decode bL_law 15 = .ok (.astore_n 2, 1) := by decide +kernel
theorem dL_law_16 : decode bL_law 16 = .ok (.iconst 1, 1) := by decide +kernel
theorem dL_law_17 : decode bL_law 17 = .ok (.newarray .long, 2) := by decide +kernel
theorem dL_law_19 : decode bL_law 19 = .ok (.astore_n 3, 1) := by decide +kernel
theorem dL_law_20 : decode bL_law 20 = .ok (.iconst 0, 1) := by decide +kernel
theorem dL_law_21 : decode bL_law 21 = .ok (.istore 4, 2) := by decide +kernel
theorem dL_law_23 : decode bL_law 23 = .ok (.iload 4, 2) := by decide +kernel
theorem dL_law_25 : decode bL_law 25 = .ok (.aload_n 0, 1) := by decide +kernel
theorem dL_law_26 : decode bL_law 26 = .ok (.arraylength, 1) := by decide +kernel
theorem dL_law_27 : decode bL_law 27 = .ok (.iconst 4, 1) := by decide +kernel
theorem dL_law_28 : decode bL_law 28 = .ok (.isub, 1) := by decide +kernel
theorem dL_law_29 : decode bL_law 29 = .ok (.if_icmp .gt 708, 3) := by decide +kernel
theorem dL_law_32 : decode bL_law 32 = .ok (.aload_n 0, 1) := by decide +kernel
theorem dL_law_33 : decode bL_law 33 = .ok (.iload 4, 2) := by decide +kernel
theorem dL_law_35 : decode bL_law 35 = .ok (.iaload, 1) := by decide +kernel
theorem dL_law_36 : decode bL_law 36 = .ok (.bipush 15, 2) := by decide +kernel
theorem dL_law_38 : decode bL_law 38 = .ok (.iand, 1) := by decide +kernel
theorem dL_law_39 : decode bL_law 39 = .ok (.tableswitch 692 0 10 #[57, 105, 173, 272, 328, 408, 464, 477, 490, 558, 613], 57) := by decide +kernel
theorem dL_law_96 : decode bL_law 96 = .ok (.aload_n 1, 1) := by decide +kernel
theorem dL_law_97 : decode bL_law 97 = .ok (.aload_n 0, 1) := by decide +kernel
theorem dL_law_98 : decode bL_law 98 = .ok (.iload 4, 2) := by decide +kernel
theorem dL_law_100 : decode bL_law 100 = .ok (.iconst 1, 1) := by decide +kernel
theorem dL_law_101 : decode bL_law 101 = .ok (.iadd, 1) := by decide +kernel
theorem dL_law_102 : decode bL_law 102 = .ok (.iaload, 1) := by decide +kernel
theorem dL_law_103 : decode bL_law 103 = .ok (.aload_n 0, 1) := by decide +kernel
theorem dL_law_104 : decode bL_law 104 = .ok (.iload 4, 2) := by decide +kernel
theorem dL_law_106 : decode bL_law 106 = .ok (.iconst 2, 1) := by decide +kernel
theorem dL_law_107 : decode bL_law 107 = .ok (.iadd, 1) := by decide +kernel
theorem dL_law_108 : decode bL_law 108 = .ok (.iaload, 1) := by decide +kernel
theorem dL_law_109 : decode bL_law 109 = .ok (.invokestatic 49, 3) := by decide +kernel
theorem dL_law_112 : decode bL_law 112 = .ok (.istore 5, 2) := by decide +kernel
theorem dL_law_114 : decode bL_law 114 = .ok (.aload_n 2, 1) := by decide +kernel
theorem dL_law_115 : decode bL_law 115 = .ok (.aload_n 0, 1) := by decide +kernel
theorem dL_law_116 : decode bL_law 116 = .ok (.iload 4, 2) := by decide +kernel
theorem dL_law_118 : decode bL_law 118 = .ok (.iconst 1, 1) := by decide +kernel
theorem dL_law_119 : decode bL_law 119 = .ok (.iadd, 1) := by decide +kernel
theorem dL_law_120 : decode bL_law 120 = .ok (.iaload, 1) := by decide +kernel
theorem dL_law_121 : decode bL_law 121 = .ok (.aload_n 0, 1) := by decide +kernel
theorem dL_law_122 : decode bL_law 122 = .ok (.iload 4, 2) := by decide +kernel
theorem dL_law_124 : decode bL_law 124 = .ok (.iconst 2, 1) := by decide +kernel
theorem dL_law_125 : decode bL_law 125 = .ok (.iadd, 1) := by decide +kernel
theorem dL_law_126 : decode bL_law 126 = .ok (.iaload, 1) := by decide +kernel
theorem dL_law_127 : decode bL_law 127 = .ok (.invokevirtual 54, 3) := by decide +kernel
theorem dL_law_130 : decode bL_law 130 = .ok (.aload_n 2, 1) := by decide +kernel
theorem dL_law_131 : decode bL_law 131 = .ok (.invokevirtual 55, 3) := by decide +kernel
theorem dL_law_134 : decode bL_law 134 = .ok (.iload 5, 2) := by decide +kernel
theorem dL_law_136 : decode bL_law 136 = .ok (.if_icmp .eq 5, 3) := by decide +kernel
theorem dL_law_139 : decode bL_law 139 = .ok (.iconst 0, 1) := by decide +kernel
theorem dL_law_140 : decode bL_law 140 = .ok (.ireturn, 1) := by decide +kernel
theorem dL_law_141 : decode bL_law 141 = .ok (.goto 590, 3) := by decide +kernel
theorem dL_law_144 : decode bL_law 144 = .ok (.aload_n 1, 1) := by decide +kernel
theorem dL_law_145 : decode bL_law 145 = .ok (.aload_n 0, 1) := by decide +kernel
theorem dL_law_146 : decode bL_law 146 = .ok (.iload 4, 2) := by decide +kernel
theorem dL_law_148 : decode bL_law 148 = .ok (.iconst 1, 1) := by decide +kernel
theorem dL_law_149 : decode bL_law 149 = .ok (.iadd, 1) := by decide +kernel
theorem dL_law_150 : decode bL_law 150 = .ok (.iaload, 1) := by decide +kernel
theorem dL_law_151 : decode bL_law 151 = .ok (.aload_n 0, 1) := by decide +kernel
theorem dL_law_152 : decode bL_law 152 = .ok (.iload 4, 2) := by decide +kernel
theorem dL_law_154 : decode bL_law 154 = .ok (.iconst 2, 1) := by decide +kernel
theorem dL_law_155 : decode bL_law 155 = .ok (.iadd, 1) := by decide +kernel
theorem dL_law_156 : decode bL_law 156 = .ok (.iaload, 1) := by decide +kernel
theorem dL_law_157 : decode bL_law 157 = .ok (.aload_n 3, 1) := by decide +kernel
theorem dL_law_158 : decode bL_law 158 = .ok (.invokestatic 59, 3) := by decide +kernel
theorem dL_law_161 : decode bL_law 161 = .ok (.istore 5, 2) := by decide +kernel
theorem dL_law_163 : decode bL_law 163 = .ok (.aload_n 2, 1) := by decide +kernel
theorem dL_law_164 : decode bL_law 164 = .ok (.aload_n 0, 1) := by decide +kernel
theorem dL_law_165 : decode bL_law 165 = .ok (.iload 4, 2) := by decide +kernel
theorem dL_law_167 : decode bL_law 167 = .ok (.iconst 1, 1) := by decide +kernel
theorem dL_law_168 : decode bL_law 168 = .ok (.iadd, 1) := by decide +kernel
theorem dL_law_169 : decode bL_law 169 = .ok (.iaload, 1) := by decide +kernel
theorem dL_law_170 : decode bL_law 170 = .ok (.aload_n 0, 1) := by decide +kernel
theorem dL_law_171 : decode bL_law 171 = .ok (.iload 4, 2) := by decide +kernel
theorem dL_law_173 : decode bL_law 173 = .ok (.iconst 2, 1) := by decide +kernel
theorem dL_law_174 : decode bL_law 174 = .ok (.iadd, 1) := by decide +kernel
theorem dL_law_175 : decode bL_law 175 = .ok (.iaload, 1) := by decide +kernel
theorem dL_law_176 : decode bL_law 176 = .ok (.invokevirtual 62, 3) := by decide +kernel
theorem dL_law_179 : decode bL_law 179 = .ok (.istore 6, 2) := by decide +kernel
theorem dL_law_181 : decode bL_law 181 = .ok (.aload_n 2, 1) := by decide +kernel
theorem dL_law_182 : decode bL_law 182 = .ok (.invokevirtual 55, 3) := by decide +kernel
theorem dL_law_185 : decode bL_law 185 = .ok (.iload 5, 2) := by decide +kernel
theorem dL_law_187 : decode bL_law 187 = .ok (.if_icmp .eq 5, 3) := by decide +kernel
theorem dL_law_190 : decode bL_law 190 = .ok (.iconst 0, 1) := by decide +kernel
theorem dL_law_191 : decode bL_law 191 = .ok (.ireturn, 1) := by decide +kernel
theorem dL_law_192 : decode bL_law 192 = .ok (.iload 5, 2) := by decide +kernel
theorem dL_law_194 : decode bL_law 194 = .ok (.ifCond .ne 15, 3) := by decide +kernel
theorem dL_law_197 : decode bL_law 197 = .ok (.aload_n 3, 1) := by decide +kernel
theorem dL_law_198 : decode bL_law 198 = .ok (.iconst 0, 1) := by decide +kernel
theorem dL_law_199 : decode bL_law 199 = .ok (.laload, 1) := by decide +kernel
theorem dL_law_200 : decode bL_law 200 = .ok (.iload 6, 2) := by decide +kernel
theorem dL_law_202 : decode bL_law 202 = .ok (.i2l, 1) := by decide +kernel
theorem dL_law_203 : decode bL_law 203 = .ok (.lcmp, 1) := by decide +kernel
theorem dL_law_204 : decode bL_law 204 = .ok (.ifCond .eq 5, 3) := by decide +kernel
theorem dL_law_207 : decode bL_law 207 = .ok (.iconst 0, 1) := by decide +kernel
theorem dL_law_208 : decode bL_law 208 = .ok (.ireturn, 1) := by decide +kernel
theorem dL_law_209 : decode bL_law 209 = .ok (.goto 522, 3) := by decide +kernel
theorem dL_law_212 : decode bL_law 212 = .ok (.aload_n 1, 1) := by decide +kernel
theorem dL_law_213 : decode bL_law 213 = .ok (.aload_n 0, 1) := by decide +kernel
theorem dL_law_214 : decode bL_law 214 = .ok (.iload 4, 2) := by decide +kernel
theorem dL_law_216 : decode bL_law 216 = .ok (.iconst 1, 1) := by decide +kernel
theorem dL_law_217 : decode bL_law 217 = .ok (.iadd, 1) := by decide +kernel
theorem dL_law_218 : decode bL_law 218 = .ok (.iaload, 1) := by decide +kernel
theorem dL_law_219 : decode bL_law 219 = .ok (.aload_n 0, 1) := by decide +kernel
theorem dL_law_220 : decode bL_law 220 = .ok (.iload 4, 2) := by decide +kernel
theorem dL_law_222 : decode bL_law 222 = .ok (.iconst 2, 1) := by decide +kernel
theorem dL_law_223 : decode bL_law 223 = .ok (.iadd, 1) := by decide +kernel
theorem dL_law_224 : decode bL_law 224 = .ok (.iaload, 1) := by decide +kernel
theorem dL_law_225 : decode bL_law 225 = .ok (.i2l, 1) := by decide +kernel
theorem dL_law_226 : decode bL_law 226 = .ok (.bipush 32, 2) := by decide +kernel
theorem dL_law_228 : decode bL_law 228 = .ok (.lshl, 1) := by decide +kernel
theorem dL_law_229 : decode bL_law 229 = .ok (.aload_n 0, 1) := by decide +kernel
theorem dL_law_230 : decode bL_law 230 = .ok (.iload 4, 2) := by decide +kernel
theorem dL_law_232 : decode bL_law 232 = .ok (.iconst 3, 1) := by decide +kernel
theorem dL_law_233 : decode bL_law 233 = .ok (.iadd, 1) := by decide +kernel
theorem dL_law_234 : decode bL_law 234 = .ok (.iaload, 1) := by decide +kernel
theorem dL_law_235 : decode bL_law 235 = .ok (.i2l, 1) := by decide +kernel
theorem dL_law_236 : decode bL_law 236 = .ok (.ldc2_w 63, 3) := by decide +kernel
theorem dL_law_239 : decode bL_law 239 = .ok (.land, 1) := by decide +kernel
theorem dL_law_240 : decode bL_law 240 = .ok (.lor, 1) := by decide +kernel
theorem dL_law_241 : decode bL_law 241 = .ok (.aload_n 3, 1) := by decide +kernel
theorem dL_law_242 : decode bL_law 242 = .ok (.invokestatic 65, 3) := by decide +kernel
theorem dL_law_245 : decode bL_law 245 = .ok (.istore 5, 2) := by decide +kernel
theorem dL_law_247 : decode bL_law 247 = .ok (.aload_n 2, 1) := by decide +kernel
theorem dL_law_248 : decode bL_law 248 = .ok (.aload_n 0, 1) := by decide +kernel
theorem dL_law_249 : decode bL_law 249 = .ok (.iload 4, 2) := by decide +kernel
theorem dL_law_251 : decode bL_law 251 = .ok (.iconst 1, 1) := by decide +kernel
theorem dL_law_252 : decode bL_law 252 = .ok (.iadd, 1) := by decide +kernel
theorem dL_law_253 : decode bL_law 253 = .ok (.iaload, 1) := by decide +kernel
theorem dL_law_254 : decode bL_law 254 = .ok (.aload_n 0, 1) := by decide +kernel
theorem dL_law_255 : decode bL_law 255 = .ok (.iload 4, 2) := by decide +kernel
theorem dL_law_257 : decode bL_law 257 = .ok (.iconst 2, 1) := by decide +kernel
theorem dL_law_258 : decode bL_law 258 = .ok (.iadd, 1) := by decide +kernel
theorem dL_law_259 : decode bL_law 259 = .ok (.iaload, 1) := by decide +kernel
theorem dL_law_260 : decode bL_law 260 = .ok (.i2l, 1) := by decide +kernel
theorem dL_law_261 : decode bL_law 261 = .ok (.bipush 32, 2) := by decide +kernel
theorem dL_law_263 : decode bL_law 263 = .ok (.lshl, 1) := by decide +kernel
theorem dL_law_264 : decode bL_law 264 = .ok (.aload_n 0, 1) := by decide +kernel
theorem dL_law_265 : decode bL_law 265 = .ok (.iload 4, 2) := by decide +kernel
theorem dL_law_267 : decode bL_law 267 = .ok (.iconst 3, 1) := by decide +kernel
theorem dL_law_268 : decode bL_law 268 = .ok (.iadd, 1) := by decide +kernel
theorem dL_law_269 : decode bL_law 269 = .ok (.iaload, 1) := by decide +kernel
theorem dL_law_270 : decode bL_law 270 = .ok (.i2l, 1) := by decide +kernel
theorem dL_law_271 : decode bL_law 271 = .ok (.ldc2_w 63, 3) := by decide +kernel
theorem dL_law_274 : decode bL_law 274 = .ok (.land, 1) := by decide +kernel
theorem dL_law_275 : decode bL_law 275 = .ok (.lor, 1) := by decide +kernel
theorem dL_law_276 : decode bL_law 276 = .ok (.invokevirtual 68, 3) := by decide +kernel
theorem dL_law_279 : decode bL_law 279 = .ok (.lstore 6, 2) := by decide +kernel
theorem dL_law_281 : decode bL_law 281 = .ok (.aload_n 2, 1) := by decide +kernel
theorem dL_law_282 : decode bL_law 282 = .ok (.invokevirtual 55, 3) := by decide +kernel
theorem dL_law_285 : decode bL_law 285 = .ok (.iload 5, 2) := by decide +kernel
theorem dL_law_287 : decode bL_law 287 = .ok (.if_icmp .eq 5, 3) := by decide +kernel
theorem dL_law_290 : decode bL_law 290 = .ok (.iconst 0, 1) := by decide +kernel
theorem dL_law_291 : decode bL_law 291 = .ok (.ireturn, 1) := by decide +kernel
theorem dL_law_292 : decode bL_law 292 = .ok (.iload 5, 2) := by decide +kernel
theorem dL_law_294 : decode bL_law 294 = .ok (.ifCond .ne 14, 3) := by decide +kernel
theorem dL_law_297 : decode bL_law 297 = .ok (.aload_n 3, 1) := by decide +kernel
theorem dL_law_298 : decode bL_law 298 = .ok (.iconst 0, 1) := by decide +kernel
theorem dL_law_299 : decode bL_law 299 = .ok (.laload, 1) := by decide +kernel
theorem dL_law_300 : decode bL_law 300 = .ok (.lload 6, 2) := by decide +kernel
theorem dL_law_302 : decode bL_law 302 = .ok (.lcmp, 1) := by decide +kernel
theorem dL_law_303 : decode bL_law 303 = .ok (.ifCond .eq 5, 3) := by decide +kernel
theorem dL_law_306 : decode bL_law 306 = .ok (.iconst 0, 1) := by decide +kernel
theorem dL_law_307 : decode bL_law 307 = .ok (.ireturn, 1) := by decide +kernel
theorem dL_law_308 : decode bL_law 308 = .ok (.goto 423, 3) := by decide +kernel
theorem dL_law_311 : decode bL_law 311 = .ok (.aload_n 1, 1) := by decide +kernel
theorem dL_law_312 : decode bL_law 312 = .ok (.aload_n 0, 1) := by decide +kernel
theorem dL_law_313 : decode bL_law 313 = .ok (.iload 4, 2) := by decide +kernel
theorem dL_law_315 : decode bL_law 315 = .ok (.iconst 1, 1) := by decide +kernel
theorem dL_law_316 : decode bL_law 316 = .ok (.iadd, 1) := by decide +kernel
theorem dL_law_317 : decode bL_law 317 = .ok (.iaload, 1) := by decide +kernel
theorem dL_law_318 : decode bL_law 318 = .ok (.aload_n 3, 1) := by decide +kernel
theorem dL_law_319 : decode bL_law 319 = .ok (.invokestatic 69, 3) := by decide +kernel
theorem dL_law_322 : decode bL_law 322 = .ok (.istore 5, 2) := by decide +kernel
theorem dL_law_324 : decode bL_law 324 = .ok (.aload_n 2, 1) := by decide +kernel
theorem dL_law_325 : decode bL_law 325 = .ok (.aload_n 0, 1) := by decide +kernel
theorem dL_law_326 : decode bL_law 326 = .ok (.iload 4, 2) := by decide +kernel
theorem dL_law_328 : decode bL_law 328 = .ok (.iconst 1, 1) := by decide +kernel
theorem dL_law_329 : decode bL_law 329 = .ok (.iadd, 1) := by decide +kernel
theorem dL_law_330 : decode bL_law 330 = .ok (.iaload, 1) := by decide +kernel
theorem dL_law_331 : decode bL_law 331 = .ok (.invokevirtual 72, 3) := by decide +kernel
theorem dL_law_334 : decode bL_law 334 = .ok (.istore 6, 2) := by decide +kernel
theorem dL_law_336 : decode bL_law 336 = .ok (.aload_n 2, 1) := by decide +kernel
theorem dL_law_337 : decode bL_law 337 = .ok (.invokevirtual 55, 3) := by decide +kernel
theorem dL_law_340 : decode bL_law 340 = .ok (.iload 5, 2) := by decide +kernel
theorem dL_law_342 : decode bL_law 342 = .ok (.if_icmp .eq 5, 3) := by decide +kernel
theorem dL_law_345 : decode bL_law 345 = .ok (.iconst 0, 1) := by decide +kernel
theorem dL_law_346 : decode bL_law 346 = .ok (.ireturn, 1) := by decide +kernel
theorem dL_law_347 : decode bL_law 347 = .ok (.iload 5, 2) := by decide +kernel
theorem dL_law_349 : decode bL_law 349 = .ok (.ifCond .ne 15, 3) := by decide +kernel
theorem dL_law_352 : decode bL_law 352 = .ok (.aload_n 3, 1) := by decide +kernel
theorem dL_law_353 : decode bL_law 353 = .ok (.iconst 0, 1) := by decide +kernel
theorem dL_law_354 : decode bL_law 354 = .ok (.laload, 1) := by decide +kernel
theorem dL_law_355 : decode bL_law 355 = .ok (.iload 6, 2) := by decide +kernel
theorem dL_law_357 : decode bL_law 357 = .ok (.i2l, 1) := by decide +kernel
theorem dL_law_358 : decode bL_law 358 = .ok (.lcmp, 1) := by decide +kernel
theorem dL_law_359 : decode bL_law 359 = .ok (.ifCond .eq 5, 3) := by decide +kernel
theorem dL_law_362 : decode bL_law 362 = .ok (.iconst 0, 1) := by decide +kernel
theorem dL_law_363 : decode bL_law 363 = .ok (.ireturn, 1) := by decide +kernel
theorem dL_law_364 : decode bL_law 364 = .ok (.goto 367, 3) := by decide +kernel
theorem dL_law_367 : decode bL_law 367 = .ok (.aload_n 1, 1) := by decide +kernel
theorem dL_law_368 : decode bL_law 368 = .ok (.aload_n 0, 1) := by decide +kernel
theorem dL_law_369 : decode bL_law 369 = .ok (.iload 4, 2) := by decide +kernel
theorem dL_law_371 : decode bL_law 371 = .ok (.iconst 1, 1) := by decide +kernel
theorem dL_law_372 : decode bL_law 372 = .ok (.iadd, 1) := by decide +kernel
theorem dL_law_373 : decode bL_law 373 = .ok (.iaload, 1) := by decide +kernel
theorem dL_law_374 : decode bL_law 374 = .ok (.aload_n 0, 1) := by decide +kernel
theorem dL_law_375 : decode bL_law 375 = .ok (.iload 4, 2) := by decide +kernel
theorem dL_law_377 : decode bL_law 377 = .ok (.iconst 2, 1) := by decide +kernel
theorem dL_law_378 : decode bL_law 378 = .ok (.iadd, 1) := by decide +kernel
theorem dL_law_379 : decode bL_law 379 = .ok (.iaload, 1) := by decide +kernel
theorem dL_law_380 : decode bL_law 380 = .ok (.aload_n 0, 1) := by decide +kernel
theorem dL_law_381 : decode bL_law 381 = .ok (.iload 4, 2) := by decide +kernel
theorem dL_law_383 : decode bL_law 383 = .ok (.iconst 3, 1) := by decide +kernel
theorem dL_law_384 : decode bL_law 384 = .ok (.iadd, 1) := by decide +kernel
theorem dL_law_385 : decode bL_law 385 = .ok (.iaload, 1) := by decide +kernel
theorem dL_law_386 : decode bL_law 386 = .ok (.aload_n 3, 1) := by decide +kernel
theorem dL_law_387 : decode bL_law 387 = .ok (.invokestatic 73, 3) := by decide +kernel
theorem dL_law_390 : decode bL_law 390 = .ok (.istore 5, 2) := by decide +kernel
theorem dL_law_392 : decode bL_law 392 = .ok (.aload_n 2, 1) := by decide +kernel
theorem dL_law_393 : decode bL_law 393 = .ok (.aload_n 0, 1) := by decide +kernel
theorem dL_law_394 : decode bL_law 394 = .ok (.iload 4, 2) := by decide +kernel
theorem dL_law_396 : decode bL_law 396 = .ok (.iconst 1, 1) := by decide +kernel
theorem dL_law_397 : decode bL_law 397 = .ok (.iadd, 1) := by decide +kernel
theorem dL_law_398 : decode bL_law 398 = .ok (.iaload, 1) := by decide +kernel
theorem dL_law_399 : decode bL_law 399 = .ok (.aload_n 0, 1) := by decide +kernel
theorem dL_law_400 : decode bL_law 400 = .ok (.iload 4, 2) := by decide +kernel
theorem dL_law_402 : decode bL_law 402 = .ok (.iconst 2, 1) := by decide +kernel
theorem dL_law_403 : decode bL_law 403 = .ok (.iadd, 1) := by decide +kernel
theorem dL_law_404 : decode bL_law 404 = .ok (.iaload, 1) := by decide +kernel
theorem dL_law_405 : decode bL_law 405 = .ok (.aload_n 0, 1) := by decide +kernel
theorem dL_law_406 : decode bL_law 406 = .ok (.iload 4, 2) := by decide +kernel
theorem dL_law_408 : decode bL_law 408 = .ok (.iconst 3, 1) := by decide +kernel
theorem dL_law_409 : decode bL_law 409 = .ok (.iadd, 1) := by decide +kernel
theorem dL_law_410 : decode bL_law 410 = .ok (.iaload, 1) := by decide +kernel
theorem dL_law_411 : decode bL_law 411 = .ok (.invokevirtual 76, 3) := by decide +kernel
theorem dL_law_414 : decode bL_law 414 = .ok (.istore 6, 2) := by decide +kernel
theorem dL_law_416 : decode bL_law 416 = .ok (.aload_n 2, 1) := by decide +kernel
theorem dL_law_417 : decode bL_law 417 = .ok (.invokevirtual 55, 3) := by decide +kernel
theorem dL_law_420 : decode bL_law 420 = .ok (.iload 5, 2) := by decide +kernel
theorem dL_law_422 : decode bL_law 422 = .ok (.if_icmp .eq 5, 3) := by decide +kernel
theorem dL_law_425 : decode bL_law 425 = .ok (.iconst 0, 1) := by decide +kernel
theorem dL_law_426 : decode bL_law 426 = .ok (.ireturn, 1) := by decide +kernel
theorem dL_law_427 : decode bL_law 427 = .ok (.iload 5, 2) := by decide +kernel
theorem dL_law_429 : decode bL_law 429 = .ok (.ifCond .ne 15, 3) := by decide +kernel
theorem dL_law_432 : decode bL_law 432 = .ok (.aload_n 3, 1) := by decide +kernel
theorem dL_law_433 : decode bL_law 433 = .ok (.iconst 0, 1) := by decide +kernel
theorem dL_law_434 : decode bL_law 434 = .ok (.laload, 1) := by decide +kernel
theorem dL_law_435 : decode bL_law 435 = .ok (.iload 6, 2) := by decide +kernel
theorem dL_law_437 : decode bL_law 437 = .ok (.i2l, 1) := by decide +kernel
theorem dL_law_438 : decode bL_law 438 = .ok (.lcmp, 1) := by decide +kernel
theorem dL_law_439 : decode bL_law 439 = .ok (.ifCond .eq 5, 3) := by decide +kernel
theorem dL_law_442 : decode bL_law 442 = .ok (.iconst 0, 1) := by decide +kernel
theorem dL_law_443 : decode bL_law 443 = .ok (.ireturn, 1) := by decide +kernel
theorem dL_law_444 : decode bL_law 444 = .ok (.goto 287, 3) := by decide +kernel
theorem dL_law_447 : decode bL_law 447 = .ok (.aload_n 1, 1) := by decide +kernel
theorem dL_law_448 : decode bL_law 448 = .ok (.aload_n 0, 1) := by decide +kernel
theorem dL_law_449 : decode bL_law 449 = .ok (.iload 4, 2) := by decide +kernel
theorem dL_law_451 : decode bL_law 451 = .ok (.iconst 1, 1) := by decide +kernel
theorem dL_law_452 : decode bL_law 452 = .ok (.iadd, 1) := by decide +kernel
theorem dL_law_453 : decode bL_law 453 = .ok (.iaload, 1) := by decide +kernel
theorem dL_law_454 : decode bL_law 454 = .ok (.aload_n 3, 1) := by decide +kernel
theorem dL_law_455 : decode bL_law 455 = .ok (.invokestatic 77, 3) := by decide +kernel
theorem dL_law_458 : decode bL_law 458 = .ok (.istore 5, 2) := by decide +kernel
theorem dL_law_460 : decode bL_law 460 = .ok (.aload_n 2, 1) := by decide +kernel
theorem dL_law_461 : decode bL_law 461 = .ok (.aload_n 0, 1) := by decide +kernel
theorem dL_law_462 : decode bL_law 462 = .ok (.iload 4, 2) := by decide +kernel
theorem dL_law_464 : decode bL_law 464 = .ok (.iconst 1, 1) := by decide +kernel
theorem dL_law_465 : decode bL_law 465 = .ok (.iadd, 1) := by decide +kernel
theorem dL_law_466 : decode bL_law 466 = .ok (.iaload, 1) := by decide +kernel
theorem dL_law_467 : decode bL_law 467 = .ok (.invokevirtual 79, 3) := by decide +kernel
theorem dL_law_470 : decode bL_law 470 = .ok (.istore 6, 2) := by decide +kernel
theorem dL_law_472 : decode bL_law 472 = .ok (.aload_n 2, 1) := by decide +kernel
theorem dL_law_473 : decode bL_law 473 = .ok (.invokevirtual 55, 3) := by decide +kernel
theorem dL_law_476 : decode bL_law 476 = .ok (.iload 5, 2) := by decide +kernel
theorem dL_law_478 : decode bL_law 478 = .ok (.if_icmp .eq 5, 3) := by decide +kernel
theorem dL_law_481 : decode bL_law 481 = .ok (.iconst 0, 1) := by decide +kernel
theorem dL_law_482 : decode bL_law 482 = .ok (.ireturn, 1) := by decide +kernel
theorem dL_law_483 : decode bL_law 483 = .ok (.iload 5, 2) := by decide +kernel
theorem dL_law_485 : decode bL_law 485 = .ok (.ifCond .ne 15, 3) := by decide +kernel
theorem dL_law_488 : decode bL_law 488 = .ok (.aload_n 3, 1) := by decide +kernel
theorem dL_law_489 : decode bL_law 489 = .ok (.iconst 0, 1) := by decide +kernel
theorem dL_law_490 : decode bL_law 490 = .ok (.laload, 1) := by decide +kernel
theorem dL_law_491 : decode bL_law 491 = .ok (.iload 6, 2) := by decide +kernel
theorem dL_law_493 : decode bL_law 493 = .ok (.i2l, 1) := by decide +kernel
theorem dL_law_494 : decode bL_law 494 = .ok (.lcmp, 1) := by decide +kernel
theorem dL_law_495 : decode bL_law 495 = .ok (.ifCond .eq 5, 3) := by decide +kernel
theorem dL_law_498 : decode bL_law 498 = .ok (.iconst 0, 1) := by decide +kernel
theorem dL_law_499 : decode bL_law 499 = .ok (.ireturn, 1) := by decide +kernel
theorem dL_law_500 : decode bL_law 500 = .ok (.goto 231, 3) := by decide +kernel
theorem dL_law_503 : decode bL_law 503 = .ok (.aload_n 1, 1) := by decide +kernel
theorem dL_law_504 : decode bL_law 504 = .ok (.invokevirtual 80, 3) := by decide +kernel
theorem dL_law_507 : decode bL_law 507 = .ok (.aload_n 2, 1) := by decide +kernel
theorem dL_law_508 : decode bL_law 508 = .ok (.invokevirtual 83, 3) := by decide +kernel
theorem dL_law_511 : decode bL_law 511 = .ok (.if_icmp .eq 220, 3) := by decide +kernel
theorem dL_law_514 : decode bL_law 514 = .ok (.iconst 0, 1) := by decide +kernel
theorem dL_law_515 : decode bL_law 515 = .ok (.ireturn, 1) := by decide +kernel
theorem dL_law_516 : decode bL_law 516 = .ok (.aload_n 1, 1) := by decide +kernel
theorem dL_law_517 : decode bL_law 517 = .ok (.invokevirtual 84, 3) := by decide +kernel
theorem dL_law_520 : decode bL_law 520 = .ok (.aload_n 2, 1) := by decide +kernel
theorem dL_law_521 : decode bL_law 521 = .ok (.invokevirtual 87, 3) := by decide +kernel
theorem dL_law_524 : decode bL_law 524 = .ok (.if_icmp .eq 207, 3) := by decide +kernel
theorem dL_law_527 : decode bL_law 527 = .ok (.iconst 0, 1) := by decide +kernel
theorem dL_law_528 : decode bL_law 528 = .ok (.ireturn, 1) := by decide +kernel
theorem dL_law_529 : decode bL_law 529 = .ok (.aload_n 1, 1) := by decide +kernel
theorem dL_law_530 : decode bL_law 530 = .ok (.aload_n 0, 1) := by decide +kernel
theorem dL_law_531 : decode bL_law 531 = .ok (.iload 4, 2) := by decide +kernel
theorem dL_law_533 : decode bL_law 533 = .ok (.iconst 1, 1) := by decide +kernel
theorem dL_law_534 : decode bL_law 534 = .ok (.iadd, 1) := by decide +kernel
theorem dL_law_535 : decode bL_law 535 = .ok (.iaload, 1) := by decide +kernel
theorem dL_law_536 : decode bL_law 536 = .ok (.aload_n 0, 1) := by decide +kernel
theorem dL_law_537 : decode bL_law 537 = .ok (.iload 4, 2) := by decide +kernel
theorem dL_law_539 : decode bL_law 539 = .ok (.iconst 2, 1) := by decide +kernel
theorem dL_law_540 : decode bL_law 540 = .ok (.iadd, 1) := by decide +kernel
theorem dL_law_541 : decode bL_law 541 = .ok (.iaload, 1) := by decide +kernel
theorem dL_law_542 : decode bL_law 542 = .ok (.aload_n 3, 1) := by decide +kernel
theorem dL_law_543 : decode bL_law 543 = .ok (.invokestatic 88, 3) := by decide +kernel
theorem dL_law_546 : decode bL_law 546 = .ok (.istore 5, 2) := by decide +kernel
theorem dL_law_548 : decode bL_law 548 = .ok (.aload_n 2, 1) := by decide +kernel
theorem dL_law_549 : decode bL_law 549 = .ok (.aload_n 0, 1) := by decide +kernel
theorem dL_law_550 : decode bL_law 550 = .ok (.iload 4, 2) := by decide +kernel
theorem dL_law_552 : decode bL_law 552 = .ok (.iconst 1, 1) := by decide +kernel
theorem dL_law_553 : decode bL_law 553 = .ok (.iadd, 1) := by decide +kernel
theorem dL_law_554 : decode bL_law 554 = .ok (.iaload, 1) := by decide +kernel
theorem dL_law_555 : decode bL_law 555 = .ok (.aload_n 0, 1) := by decide +kernel
theorem dL_law_556 : decode bL_law 556 = .ok (.iload 4, 2) := by decide +kernel
theorem dL_law_558 : decode bL_law 558 = .ok (.iconst 2, 1) := by decide +kernel
theorem dL_law_559 : decode bL_law 559 = .ok (.iadd, 1) := by decide +kernel
theorem dL_law_560 : decode bL_law 560 = .ok (.iaload, 1) := by decide +kernel
theorem dL_law_561 : decode bL_law 561 = .ok (.invokevirtual 90, 3) := by decide +kernel
theorem dL_law_564 : decode bL_law 564 = .ok (.istore 6, 2) := by decide +kernel
theorem dL_law_566 : decode bL_law 566 = .ok (.aload_n 2, 1) := by decide +kernel
theorem dL_law_567 : decode bL_law 567 = .ok (.invokevirtual 55, 3) := by decide +kernel
theorem dL_law_570 : decode bL_law 570 = .ok (.iload 5, 2) := by decide +kernel
theorem dL_law_572 : decode bL_law 572 = .ok (.if_icmp .eq 5, 3) := by decide +kernel
theorem dL_law_575 : decode bL_law 575 = .ok (.iconst 0, 1) := by decide +kernel
theorem dL_law_576 : decode bL_law 576 = .ok (.ireturn, 1) := by decide +kernel
theorem dL_law_577 : decode bL_law 577 = .ok (.iload 5, 2) := by decide +kernel
theorem dL_law_579 : decode bL_law 579 = .ok (.ifCond .ne 15, 3) := by decide +kernel
theorem dL_law_582 : decode bL_law 582 = .ok (.aload_n 3, 1) := by decide +kernel
theorem dL_law_583 : decode bL_law 583 = .ok (.iconst 0, 1) := by decide +kernel
theorem dL_law_584 : decode bL_law 584 = .ok (.laload, 1) := by decide +kernel
theorem dL_law_585 : decode bL_law 585 = .ok (.iload 6, 2) := by decide +kernel
theorem dL_law_587 : decode bL_law 587 = .ok (.i2l, 1) := by decide +kernel
theorem dL_law_588 : decode bL_law 588 = .ok (.lcmp, 1) := by decide +kernel
theorem dL_law_589 : decode bL_law 589 = .ok (.ifCond .eq 5, 3) := by decide +kernel
theorem dL_law_592 : decode bL_law 592 = .ok (.iconst 0, 1) := by decide +kernel
theorem dL_law_593 : decode bL_law 593 = .ok (.ireturn, 1) := by decide +kernel
theorem dL_law_594 : decode bL_law 594 = .ok (.goto 137, 3) := by decide +kernel
theorem dL_law_597 : decode bL_law 597 = .ok (.aload_n 1, 1) := by decide +kernel
theorem dL_law_598 : decode bL_law 598 = .ok (.aload_n 0, 1) := by decide +kernel
theorem dL_law_599 : decode bL_law 599 = .ok (.iload 4, 2) := by decide +kernel
theorem dL_law_601 : decode bL_law 601 = .ok (.iconst 1, 1) := by decide +kernel
theorem dL_law_602 : decode bL_law 602 = .ok (.iadd, 1) := by decide +kernel
theorem dL_law_603 : decode bL_law 603 = .ok (.iaload, 1) := by decide +kernel
theorem dL_law_604 : decode bL_law 604 = .ok (.aload_n 3, 1) := by decide +kernel
theorem dL_law_605 : decode bL_law 605 = .ok (.invokestatic 91, 3) := by decide +kernel
theorem dL_law_608 : decode bL_law 608 = .ok (.istore 5, 2) := by decide +kernel
theorem dL_law_610 : decode bL_law 610 = .ok (.aload_n 2, 1) := by decide +kernel
theorem dL_law_611 : decode bL_law 611 = .ok (.aload_n 0, 1) := by decide +kernel
theorem dL_law_612 : decode bL_law 612 = .ok (.iload 4, 2) := by decide +kernel
theorem dL_law_614 : decode bL_law 614 = .ok (.iconst 1, 1) := by decide +kernel
theorem dL_law_615 : decode bL_law 615 = .ok (.iadd, 1) := by decide +kernel
theorem dL_law_616 : decode bL_law 616 = .ok (.iaload, 1) := by decide +kernel
theorem dL_law_617 : decode bL_law 617 = .ok (.invokevirtual 93, 3) := by decide +kernel
theorem dL_law_620 : decode bL_law 620 = .ok (.lstore 6, 2) := by decide +kernel
theorem dL_law_622 : decode bL_law 622 = .ok (.aload_n 2, 1) := by decide +kernel
theorem dL_law_623 : decode bL_law 623 = .ok (.invokevirtual 55, 3) := by decide +kernel
theorem dL_law_626 : decode bL_law 626 = .ok (.iload 5, 2) := by decide +kernel
theorem dL_law_628 : decode bL_law 628 = .ok (.if_icmp .eq 5, 3) := by decide +kernel
theorem dL_law_631 : decode bL_law 631 = .ok (.iconst 0, 1) := by decide +kernel
theorem dL_law_632 : decode bL_law 632 = .ok (.ireturn, 1) := by decide +kernel
theorem dL_law_633 : decode bL_law 633 = .ok (.iload 5, 2) := by decide +kernel
theorem dL_law_635 : decode bL_law 635 = .ok (.ifCond .ne 14, 3) := by decide +kernel
theorem dL_law_638 : decode bL_law 638 = .ok (.aload_n 3, 1) := by decide +kernel
theorem dL_law_639 : decode bL_law 639 = .ok (.iconst 0, 1) := by decide +kernel
theorem dL_law_640 : decode bL_law 640 = .ok (.laload, 1) := by decide +kernel
theorem dL_law_641 : decode bL_law 641 = .ok (.lload 6, 2) := by decide +kernel
theorem dL_law_643 : decode bL_law 643 = .ok (.lcmp, 1) := by decide +kernel
theorem dL_law_644 : decode bL_law 644 = .ok (.ifCond .eq 5, 3) := by decide +kernel
theorem dL_law_647 : decode bL_law 647 = .ok (.iconst 0, 1) := by decide +kernel
theorem dL_law_648 : decode bL_law 648 = .ok (.ireturn, 1) := by decide +kernel
theorem dL_law_649 : decode bL_law 649 = .ok (.goto 82, 3) := by decide +kernel
theorem dL_law_652 : decode bL_law 652 = .ok (.aload_n 1, 1) := by decide +kernel
theorem dL_law_653 : decode bL_law 653 = .ok (.aload_n 0, 1) := by decide +kernel
theorem dL_law_654 : decode bL_law 654 = .ok (.iload 4, 2) := by decide +kernel
theorem dL_law_656 : decode bL_law 656 = .ok (.iconst 1, 1) := by decide +kernel
theorem dL_law_657 : decode bL_law 657 = .ok (.iadd, 1) := by decide +kernel
theorem dL_law_658 : decode bL_law 658 = .ok (.iaload, 1) := by decide +kernel
theorem dL_law_659 : decode bL_law 659 = .ok (.aload_n 0, 1) := by decide +kernel
theorem dL_law_660 : decode bL_law 660 = .ok (.iload 4, 2) := by decide +kernel
theorem dL_law_662 : decode bL_law 662 = .ok (.iconst 2, 1) := by decide +kernel
theorem dL_law_663 : decode bL_law 663 = .ok (.iadd, 1) := by decide +kernel
theorem dL_law_664 : decode bL_law 664 = .ok (.iaload, 1) := by decide +kernel
theorem dL_law_665 : decode bL_law 665 = .ok (.aload_n 0, 1) := by decide +kernel
theorem dL_law_666 : decode bL_law 666 = .ok (.iload 4, 2) := by decide +kernel
theorem dL_law_668 : decode bL_law 668 = .ok (.iconst 3, 1) := by decide +kernel
theorem dL_law_669 : decode bL_law 669 = .ok (.iadd, 1) := by decide +kernel
theorem dL_law_670 : decode bL_law 670 = .ok (.iaload, 1) := by decide +kernel
theorem dL_law_671 : decode bL_law 671 = .ok (.aload_n 3, 1) := by decide +kernel
theorem dL_law_672 : decode bL_law 672 = .ok (.invokestatic 94, 3) := by decide +kernel
theorem dL_law_675 : decode bL_law 675 = .ok (.istore 5, 2) := by decide +kernel
theorem dL_law_677 : decode bL_law 677 = .ok (.aload_n 2, 1) := by decide +kernel
theorem dL_law_678 : decode bL_law 678 = .ok (.aload_n 0, 1) := by decide +kernel
theorem dL_law_679 : decode bL_law 679 = .ok (.iload 4, 2) := by decide +kernel
theorem dL_law_681 : decode bL_law 681 = .ok (.iconst 1, 1) := by decide +kernel
theorem dL_law_682 : decode bL_law 682 = .ok (.iadd, 1) := by decide +kernel
theorem dL_law_683 : decode bL_law 683 = .ok (.iaload, 1) := by decide +kernel
theorem dL_law_684 : decode bL_law 684 = .ok (.aload_n 0, 1) := by decide +kernel
theorem dL_law_685 : decode bL_law 685 = .ok (.iload 4, 2) := by decide +kernel
theorem dL_law_687 : decode bL_law 687 = .ok (.iconst 2, 1) := by decide +kernel
theorem dL_law_688 : decode bL_law 688 = .ok (.iadd, 1) := by decide +kernel
theorem dL_law_689 : decode bL_law 689 = .ok (.iaload, 1) := by decide +kernel
theorem dL_law_690 : decode bL_law 690 = .ok (.aload_n 0, 1) := by decide +kernel
theorem dL_law_691 : decode bL_law 691 = .ok (.iload 4, 2) := by decide +kernel
theorem dL_law_693 : decode bL_law 693 = .ok (.iconst 3, 1) := by decide +kernel
theorem dL_law_694 : decode bL_law 694 = .ok (.iadd, 1) := by decide +kernel
theorem dL_law_695 : decode bL_law 695 = .ok (.iaload, 1) := by decide +kernel
theorem dL_law_696 : decode bL_law 696 = .ok (.invokevirtual 96, 3) := by decide +kernel
theorem dL_law_699 : decode bL_law 699 = .ok (.lstore 6, 2) := by decide +kernel
theorem dL_law_701 : decode bL_law 701 = .ok (.aload_n 2, 1) := by decide +kernel
theorem dL_law_702 : decode bL_law 702 = .ok (.invokevirtual 55, 3) := by decide +kernel
theorem dL_law_705 : decode bL_law 705 = .ok (.iload 5, 2) := by decide +kernel
theorem dL_law_707 : decode bL_law 707 = .ok (.if_icmp .eq 5, 3) := by decide +kernel
theorem dL_law_710 : decode bL_law 710 = .ok (.iconst 0, 1) := by decide +kernel
theorem dL_law_711 : decode bL_law 711 = .ok (.ireturn, 1) := by decide +kernel
theorem dL_law_712 : decode bL_law 712 = .ok (.iload 5, 2) := by decide +kernel
theorem dL_law_714 : decode bL_law 714 = .ok (.ifCond .ne 14, 3) := by decide +kernel
theorem dL_law_717 : decode bL_law 717 = .ok (.aload_n 3, 1) := by decide +kernel
theorem dL_law_718 : decode bL_law 718 = .ok (.iconst 0, 1) := by decide +kernel
theorem dL_law_719 : decode bL_law 719 = .ok (.laload, 1) := by decide +kernel
theorem dL_law_720 : decode bL_law 720 = .ok (.lload 6, 2) := by decide +kernel
theorem dL_law_722 : decode bL_law 722 = .ok (.lcmp, 1) := by decide +kernel
theorem dL_law_723 : decode bL_law 723 = .ok (.ifCond .eq 5, 3) := by decide +kernel
theorem dL_law_726 : decode bL_law 726 = .ok (.iconst 0, 1) := by decide +kernel
theorem dL_law_727 : decode bL_law 727 = .ok (.ireturn, 1) := by decide +kernel
theorem dL_law_728 : decode bL_law 728 = .ok (.goto 3, 3) := by decide +kernel
theorem dL_law_731 : decode bL_law 731 = .ok (.iinc 4 4, 3) := by decide +kernel
theorem dL_law_734 : decode bL_law 734 = .ok (.goto (-711), 3) := by decide +kernel
theorem dL_law_737 : decode bL_law 737 = .ok (.iconst 1, 1) := by decide +kernel
theorem dL_law_738 : decode bL_law 738 = .ok (.ireturn, 1) := by decide +kernel
