theorem dX7_init_0 : decode cX7_init 0 = .ok (.aload_n 0, 1) := by decide +kernel
theorem dX7_init_1 : decode cX7_init 1 = .ok (.invokespecial 1, 3) := by decide +kernel
theorem dX7_init_4 : decode cX7_init 4 = .ok (.aload_n 0, 1) := by decide +kernel
theorem dX7_init_5 : decode cX7_init 5 = .ok (.bipush 112, 2) := by decide +kernel
theorem dX7_init_7 : decode cX7_init 7 = .ok (.newarray .int, 2) := by decide +kernel
theorem dX7_init_9 : decode cX7_init 9 = .ok (.putfield 7, 3) := by decide +kernel
theorem dX7_init_12 : decode cX7_init 12 = .ok (.aload_n 0, 1) := by decide +kernel
theorem dX7_init_13 : decode cX7_init 13 = .ok (.sipush 672, 3) := by decide +kernel
theorem dX7_init_16 : decode cX7_init 16 = .ok (.newarray .int, 2) := by decide +kernel
theorem dX7_init_18 : decode cX7_init 18 = .ok (.putfield 13, 3) := by decide +kernel
theorem dX7_init_21 : decode cX7_init 21 = .ok (.aload_n 0, 1) := by decide +kernel
theorem dX7_init_22 : decode cX7_init 22 = .ok (.bipush 112, 2) := by decide +kernel
theorem dX7_init_24 : decode cX7_init 24 = .ok (.newarray .int, 2) := by decide +kernel
theorem dX7_init_26 : decode cX7_init 26 = .ok (.putfield 16, 3) := by decide +kernel
theorem dX7_init_29 : decode cX7_init 29 = .ok (.aload_n 0, 1) := by decide +kernel
theorem dX7_init_30 : decode cX7_init 30 = .ok (.bipush 60, 2) := by decide +kernel
theorem dX7_init_32 : decode cX7_init 32 = .ok (.newarray .int, 2) := by decide +kernel
theorem dX7_init_34 : decode cX7_init 34 = .ok (.putfield 19, 3) := by decide +kernel
theorem dX7_init_37 : decode cX7_init 37 = .ok (.aload_n 0, 1) := by decide +kernel
theorem dX7_init_38 : decode cX7_init 38 = .ok (.bipush 82, 2) := by decide +kernel
theorem dX7_init_40 : decode cX7_init 40 = .ok (.newarray .int, 2) := by decide +kernel
theorem dX7_init_42 : decode cX7_init 42 = .ok (.putfield 22, 3) := by decide +kernel
theorem dX7_init_45 : decode cX7_init 45 = .ok (.aload_n 0, 1) := by decide +kernel
theorem dX7_init_46 : decode cX7_init 46 = .ok (.sipush 1215, 3) := by decide +kernel
theorem dX7_init_49 : decode cX7_init 49 = .ok (.newarray .int, 2) := by decide +kernel
theorem dX7_init_51 : decode cX7_init 51 = .ok (.putfield 25, 3) := by decide +kernel
theorem dX7_init_54 : decode cX7_init 54 = .ok (.aload_n 0, 1) := by decide +kernel
theorem dX7_init_55 : decode cX7_init 55 = .ok (.bipush 81, 2) := by decide +kernel
theorem dX7_init_57 : decode cX7_init 57 = .ok (.newarray .int, 2) := by decide +kernel
theorem dX7_init_59 : decode cX7_init 59 = .ok (.putfield 28, 3) := by decide +kernel
theorem dX7_init_62 : decode cX7_init 62 = .ok (.aload_n 0, 1) := by decide +kernel
theorem dX7_init_63 : decode cX7_init 63 = .ok (.bipush 81, 2) := by decide +kernel
theorem dX7_init_65 : decode cX7_init 65 = .ok (.newarray .int, 2) := by decide +kernel
theorem dX7_init_67 : decode cX7_init 67 = .ok (.putfield 31, 3) := by decide +kernel
theorem dX7_init_70 : decode cX7_init 70 = .ok (.aload_n 0, 1) := by decide +kernel
theorem dX7_init_71 : decode cX7_init 71 = .ok (.bipush 81, 2) := by decide +kernel
theorem dX7_init_73 : decode cX7_init 73 = .ok (.newarray .int, 2) := by decide +kernel
theorem dX7_init_75 : decode cX7_init 75 = .ok (.putfield 34, 3) := by decide +kernel
theorem dX7_init_78 : decode cX7_init 78 = .ok (.aload_n 0, 1) := by decide +kernel
theorem dX7_init_79 : decode cX7_init 79 = .ok (.bipush 81, 2) := by decide +kernel
theorem dX7_init_81 : decode cX7_init 81 = .ok (.newarray .int, 2) := by decide +kernel
theorem dX7_init_83 : decode cX7_init 83 = .ok (.putfield 37, 3) := by decide +kernel
theorem dX7_init_86 : decode cX7_init 86 = .ok (.aload_n 0, 1) := by decide +kernel
theorem dX7_init_87 : decode cX7_init 87 = .ok (.bipush 81, 2) := by decide +kernel
theorem dX7_init_89 : decode cX7_init 89 = .ok (.newarray .int, 2) := by decide +kernel
theorem dX7_init_91 : decode cX7_init 91 = .ok (.putfield 40, 3) := by decide +kernel
theorem dX7_init_94 : decode cX7_init 94 = .ok (.aload_n 0, 1) := by decide +kernel
theorem dX7_init_95 : decode cX7_init 95 = .ok (.bipush 81, 2) := by decide +kernel
theorem dX7_init_97 : decode cX7_init 97 = .ok (.newarray .int, 2) := by decide +kernel
theorem dX7_init_99 : decode cX7_init 99 = .ok (.putfield 43, 3) := by decide +kernel
theorem dX7_init_102 : decode cX7_init 102 = .ok (.aload_n 0, 1) := by decide +kernel
theorem dX7_init_103 : decode cX7_init 103 = .ok (.bipush 81, 2) := by decide +kernel
theorem dX7_init_105 : decode cX7_init 105 = .ok (.newarray .int, 2) := by decide +kernel
theorem dX7_init_107 : decode cX7_init 107 = .ok (.putfield 46, 3) := by decide +kernel
theorem dX7_init_110 : decode cX7_init 110 = .ok (.aload_n 0, 1) := by decide +kernel
theorem dX7_init_111 : decode cX7_init 111 = .ok (.getfield 7, 3) := by decide +kernel
theorem dX7_init_114 : decode cX7_init 114 = .ok (.bipush 6, 2) := by decide +kernel
theorem dX7_init_116 : decode cX7_init 116 = .ok (.iconst (-1), 1) := by decide +kernel
theorem dX7_init_117 : decode cX7_init 117 = .ok (.iastore, 1) := by decide +kernel
theorem dX7_init_118 : decode cX7_init 118 = .ok (.aload_n 0, 1) := by decide +kernel
theorem dX7_init_119 : decode cX7_init 119 = .ok (.getfield 7, 3) := by decide +kernel
theorem dX7_init_122 : decode cX7_init 122 = .ok (.bipush 7, 2) := by decide +kernel
theorem dX7_init_124 : decode cX7_init 124 = .ok (.iconst (-1), 1) := by decide +kernel
theorem dX7_init_125 : decode cX7_init 125 = .ok (.iastore, 1) := by decide +kernel
theorem dX7_init_126 : decode cX7_init 126 = .ok (.aload_n 0, 1) := by decide +kernel
theorem dX7_init_127 : decode cX7_init 127 = .ok (.getfield 7, 3) := by decide +kernel
theorem dX7_init_130 : decode cX7_init 130 = .ok (.bipush 8, 2) := by decide +kernel
theorem dX7_init_132 : decode cX7_init 132 = .ok (.iconst 2, 1) := by decide +kernel
theorem dX7_init_133 : decode cX7_init 133 = .ok (.iastore, 1) := by decide +kernel
theorem dX7_init_134 : decode cX7_init 134 = .ok (.aload_n 0, 1) := by decide +kernel
theorem dX7_init_135 : decode cX7_init 135 = .ok (.getfield 7, 3) := by decide +kernel
theorem dX7_init_138 : decode cX7_init 138 = .ok (.bipush 9, 2) := by decide +kernel
theorem dX7_init_140 : decode cX7_init 140 = .ok (.iconst 2, 1) := by decide +kernel
theorem dX7_init_141 : decode cX7_init 141 = .ok (.iastore, 1) := by decide +kernel
theorem dX7_init_142 : decode cX7_init 142 = .ok (.aload_n 0, 1) := by decide +kernel
theorem dX7_init_143 : decode cX7_init 143 = .ok (.getfield 7, 3) := by decide +kernel
theorem dX7_init_146 : decode cX7_init 146 = .ok (.bipush 10, 2) := by decide +kernel
theorem dX7_init_148 : decode cX7_init 148 = .ok (.iconst 4, 1) := by decide +kernel
theorem dX7_init_149 : decode cX7_init 149 = .ok (.iastore, 1) := by decide +kernel
theorem dX7_init_150 : decode cX7_init 150 = .ok (.aload_n 0, 1) := by decide +kernel
theorem dX7_init_151 : decode cX7_init 151 = .ok (.getfield 7, 3) := by decide +kernel
theorem dX7_init_154 : decode cX7_init 154 = .ok (.bipush 11, 2) := by decide +kernel
theorem dX7_init_156 : decode cX7_init 156 = .ok (.iconst 1, 1) := by decide +kernel
theorem dX7_init_157 : decode cX7_init 157 = .ok (.iastore, 1) := by decide +kernel
theorem dX7_init_158 : decode cX7_init 158 = .ok (.iconst 0, 1) := by decide +kernel
theorem dX7_init_159 : decode cX7_init 159 = .ok (.istore_n 1, 1) := by decide +kernel
theorem dX7_init_160 : decode cX7_init 160 = .ok (.iload_n 1, 1) := by decide +kernel
theorem dX7_init_161 : decode cX7_init 161 = .ok (.bipush 6, 2) := by decide +kernel
theorem dX7_init_163 : decode cX7_init 163 = .ok (.if_icmp .ge 37, 3) := by decide +kernel
theorem dX7_init_166 : decode cX7_init 166 = .ok (.aload_n 0, 1) := by decide +kernel
theorem dX7_init_167 : decode cX7_init 167 = .ok (.getfield 7, 3) := by decide +kernel
theorem dX7_init_170 : decode cX7_init 170 = .ok (.bipush 16, 2) := by decide +kernel
theorem dX7_init_172 : decode cX7_init 172 = .ok (.iconst 4, 1) := by decide +kernel
theorem dX7_init_173 : decode cX7_init 173 = .ok (.iload_n 1, 1) := by decide +kernel
theorem dX7_init_174 : decode cX7_init 174 = .ok (.imul, 1) := by decide +kernel
theorem dX7_init_175 : decode cX7_init 175 = .ok (.iadd, 1) := by decide +kernel
theorem dX7_init_176 : decode cX7_init 176 = .ok (.iconst 0, 1) := by decide +kernel
theorem dX7_init_177 : decode cX7_init 177 = .ok (.iadd, 1) := by decide +kernel
theorem dX7_init_178 : decode cX7_init 178 = .ok (.iconst (-1), 1) := by decide +kernel
theorem dX7_init_179 : decode cX7_init 179 = .ok (.iastore, 1) := by decide +kernel
theorem dX7_init_180 : decode cX7_init 180 = .ok (.aload_n 0, 1) := by decide +kernel
theorem dX7_init_181 : decode cX7_init 181 = .ok (.getfield 7, 3) := by decide +kernel
theorem dX7_init_184 : decode cX7_init 184 = .ok (.bipush 16, 2) := by decide +kernel
theorem dX7_init_186 : decode cX7_init 186 = .ok (.iconst 4, 1) := by decide +kernel
theorem dX7_init_187 : decode cX7_init 187 = .ok (.iload_n 1, 1) := by decide +kernel
theorem dX7_init_188 : decode cX7_init 188 = .ok (.imul, 1) := by decide +kernel
theorem dX7_init_189 : decode cX7_init 189 = .ok (.iadd, 1) := by decide +kernel
theorem dX7_init_190 : decode cX7_init 190 = .ok (.iconst 1, 1) := by decide +kernel
theorem dX7_init_191 : decode cX7_init 191 = .ok (.iadd, 1) := by decide +kernel
theorem dX7_init_192 : decode cX7_init 192 = .ok (.iconst (-1), 1) := by decide +kernel
theorem dX7_init_193 : decode cX7_init 193 = .ok (.iastore, 1) := by decide +kernel
theorem dX7_init_194 : decode cX7_init 194 = .ok (.iinc 1 1, 3) := by decide +kernel
theorem dX7_init_197 : decode cX7_init 197 = .ok (.goto (-37), 3) := by decide +kernel
theorem dX7_init_200 : decode cX7_init 200 = .ok (.iconst 0, 1) := by decide +kernel
theorem dX7_init_201 : decode cX7_init 201 = .ok (.istore_n 1, 1) := by decide +kernel
theorem dX7_init_202 : decode cX7_init 202 = .ok (.iconst 0, 1) := by decide +kernel
theorem dX7_init_203 : decode cX7_init 203 = .ok (.istore_n 2, 1) := by decide +kernel
theorem dX7_init_204 : decode cX7_init 204 = .ok (.iload_n 2, 1) := by decide +kernel
theorem dX7_init_205 : decode cX7_init 205 = .ok (.bipush 81, 2) := by decide +kernel
theorem dX7_init_207 : decode cX7_init 207 = .ok (.if_icmp .ge 48, 3) := by decide +kernel
theorem dX7_init_210 : decode cX7_init 210 = .ok (.aload_n 0, 1) := by decide +kernel
theorem dX7_init_211 : decode cX7_init 211 = .ok (.getfield 22, 3) := by decide +kernel
theorem dX7_init_214 : decode cX7_init 214 = .ok (.iload_n 2, 1) := by decide +kernel
theorem dX7_init_215 : decode cX7_init 215 = .ok (.iload_n 1, 1) := by decide +kernel
theorem dX7_init_216 : decode cX7_init 216 = .ok (.iastore, 1) := by decide +kernel
theorem dX7_init_217 : decode cX7_init 217 = .ok (.iconst 0, 1) := by decide +kernel
theorem dX7_init_218 : decode cX7_init 218 = .ok (.istore_n 3, 1) := by decide +kernel
theorem dX7_init_219 : decode cX7_init 219 = .ok (.iload_n 3, 1) := by decide +kernel
theorem dX7_init_220 : decode cX7_init 220 = .ok (.bipush 81, 2) := by decide +kernel
theorem dX7_init_222 : decode cX7_init 222 = .ok (.if_icmp .ge 27, 3) := by decide +kernel
theorem dX7_init_225 : decode cX7_init 225 = .ok (.iload_n 2, 1) := by decide +kernel
theorem dX7_init_226 : decode cX7_init 226 = .ok (.iload_n 3, 1) := by decide +kernel
theorem dX7_init_227 : decode cX7_init 227 = .ok (.invokestatic 49, 3) := by decide +kernel
theorem dX7_init_230 : decode cX7_init 230 = .ok (.ifCond .eq 13, 3) := by decide +kernel
theorem dX7_init_233 : decode cX7_init 233 = .ok (.aload_n 0, 1) := by decide +kernel
theorem dX7_init_234 : decode cX7_init 234 = .ok (.getfield 25, 3) := by decide +kernel
theorem dX7_init_237 : decode cX7_init 237 = .ok (.iload_n 1, 1) := by decide +kernel
theorem dX7_init_238 : decode cX7_init 238 = .ok (.iload_n 3, 1) := by decide +kernel
theorem dX7_init_239 : decode cX7_init 239 = .ok (.iastore, 1) := by decide +kernel
theorem dX7_init_240 : decode cX7_init 240 = .ok (.iinc 1 1, 3) := by decide +kernel
theorem dX7_init_243 : decode cX7_init 243 = .ok (.iinc 3 1, 3) := by decide +kernel
theorem dX7_init_246 : decode cX7_init 246 = .ok (.goto (-27), 3) := by decide +kernel
theorem dX7_init_249 : decode cX7_init 249 = .ok (.iinc 2 1, 3) := by decide +kernel
theorem dX7_init_252 : decode cX7_init 252 = .ok (.goto (-48), 3) := by decide +kernel
theorem dX7_init_255 : decode cX7_init 255 = .ok (.aload_n 0, 1) := by decide +kernel
theorem dX7_init_256 : decode cX7_init 256 = .ok (.getfield 22, 3) := by decide +kernel
theorem dX7_init_259 : decode cX7_init 259 = .ok (.bipush 81, 2) := by decide +kernel
theorem dX7_init_261 : decode cX7_init 261 = .ok (.iload_n 1, 1) := by decide +kernel
theorem dX7_init_262 : decode cX7_init 262 = .ok (.iastore, 1) := by decide +kernel
theorem dX7_init_263 : decode cX7_init 263 = .ok (.return_, 1) := by decide +kernel
theorem dX7_thrown_0 : decode cX7_thrown 0 = .ok (.aload_n 0, 1) := by decide +kernel
theorem dX7_thrown_1 : decode cX7_thrown 1 = .ok (.getfield 53, 3) := by decide +kernel
theorem dX7_thrown_4 : decode cX7_thrown 4 = .ok (.ireturn, 1) := by decide +kernel
theorem dX7_fails_0 : decode cX7_fails 0 = .ok (.aload_n 0, 1) := by decide +kernel
theorem dX7_fails_1 : decode cX7_fails 1 = .ok (.iload_n 1, 1) := by decide +kernel
theorem dX7_fails_2 : decode cX7_fails 2 = .ok (.putfield 53, 3) := by decide +kernel
theorem dX7_fails_5 : decode cX7_fails 5 = .ok (.iconst 0, 1) := by decide +kernel
theorem dX7_fails_6 : decode cX7_fails 6 = .ok (.ireturn, 1) := by decide +kernel
theorem dX7_within_0 : decode cX7_within 0 = .ok (.iload_n 0, 1) := by decide +kernel
theorem dX7_within_1 : decode cX7_within 1 = .ok (.iload_n 1, 1) := by decide +kernel
theorem dX7_within_2 : decode cX7_within 2 = .ok (.if_icmp .lt 12, 3) := by decide +kernel
theorem dX7_within_5 : decode cX7_within 5 = .ok (.iload_n 0, 1) := by decide +kernel
theorem dX7_within_6 : decode cX7_within 6 = .ok (.iload_n 2, 1) := by decide +kernel
theorem dX7_within_7 : decode cX7_within 7 = .ok (.if_icmp .gt 7, 3) := by decide +kernel
theorem dX7_within_10 : decode cX7_within 10 = .ok (.iconst 1, 1) := by decide +kernel
theorem dX7_within_11 : decode cX7_within 11 = .ok (.goto 4, 3) := by decide +kernel
theorem dX7_within_14 : decode cX7_within 14 = .ok (.iconst 0, 1) := by decide +kernel
theorem dX7_within_15 : decode cX7_within 15 = .ok (.ireturn, 1) := by decide +kernel
theorem dX7_isCode_0 : decode cX7_isCode 0 = .ok (.iload_n 0, 1) := by decide +kernel
theorem dX7_isCode_1 : decode cX7_isCode 1 = .ok (.iconst 0, 1) := by decide +kernel
theorem dX7_isCode_2 : decode cX7_isCode 2 = .ok (.bipush 80, 2) := by decide +kernel
theorem dX7_isCode_4 : decode cX7_isCode 4 = .ok (.invokestatic 57, 3) := by decide +kernel
theorem dX7_isCode_7 : decode cX7_isCode 7 = .ok (.ireturn, 1) := by decide +kernel
theorem dX7_isOwner_0 : decode cX7_isOwner 0 = .ok (.iload_n 0, 1) := by decide +kernel
theorem dX7_isOwner_1 : decode cX7_isOwner 1 = .ok (.iconst 0, 1) := by decide +kernel
theorem dX7_isOwner_2 : decode cX7_isOwner 2 = .ok (.iconst 3, 1) := by decide +kernel
theorem dX7_isOwner_3 : decode cX7_isOwner 3 = .ok (.invokestatic 57, 3) := by decide +kernel
theorem dX7_isOwner_6 : decode cX7_isOwner 6 = .ok (.ireturn, 1) := by decide +kernel
theorem dX7_isNotch_0 : decode cX7_isNotch 0 = .ok (.iload_n 0, 1) := by decide +kernel
theorem dX7_isNotch_1 : decode cX7_isNotch 1 = .ok (.iconst 0, 1) := by decide +kernel
theorem dX7_isNotch_2 : decode cX7_isNotch 2 = .ok (.iconst 3, 1) := by decide +kernel
theorem dX7_isNotch_3 : decode cX7_isNotch 3 = .ok (.invokestatic 57, 3) := by decide +kernel
theorem dX7_isNotch_6 : decode cX7_isNotch 6 = .ok (.ireturn, 1) := by decide +kernel
theorem dX7_isPlace_0 : decode cX7_isPlace 0 = .ok (.iload_n 0, 1) := by decide +kernel
theorem dX7_isPlace_1 : decode cX7_isPlace 1 = .ok (.iconst 0, 1) := by decide +kernel
theorem dX7_isPlace_2 : decode cX7_isPlace 2 = .ok (.iconst 5, 1) := by decide +kernel
theorem dX7_isPlace_3 : decode cX7_isPlace 3 = .ok (.invokestatic 57, 3) := by decide +kernel
theorem dX7_isPlace_6 : decode cX7_isPlace 6 = .ok (.ireturn, 1) := by decide +kernel
theorem dX7_isKey_0 : decode cX7_isKey 0 = .ok (.iload_n 1, 1) := by decide +kernel
theorem dX7_isKey_1 : decode cX7_isKey 1 = .ok (.iconst 0, 1) := by decide +kernel
theorem dX7_isKey_2 : decode cX7_isKey 2 = .ok (.aload_n 0, 1) := by decide +kernel
theorem dX7_isKey_3 : decode cX7_isKey 3 = .ok (.getfield 7, 3) := by decide +kernel
theorem dX7_isKey_6 : decode cX7_isKey 6 = .ok (.iconst 0, 1) := by decide +kernel
theorem dX7_isKey_7 : decode cX7_isKey 7 = .ok (.iaload, 1) := by decide +kernel
theorem dX7_isKey_8 : decode cX7_isKey 8 = .ok (.iconst 1, 1) := by decide +kernel
theorem dX7_isKey_9 : decode cX7_isKey 9 = .ok (.isub, 1) := by decide +kernel
theorem dX7_isKey_10 : decode cX7_isKey 10 = .ok (.invokestatic 57, 3) := by decide +kernel
theorem dX7_isKey_13 : decode cX7_isKey 13 = .ok (.ireturn, 1) := by decide +kernel
theorem dX7_isLock_0 : decode cX7_isLock 0 = .ok (.aload_n 0, 1) := by decide +kernel
theorem dX7_isLock_1 : decode cX7_isLock 1 = .ok (.iload_n 1, 1) := by decide +kernel
theorem dX7_isLock_2 : decode cX7_isLock 2 = .ok (.iconst 0, 1) := by decide +kernel
theorem dX7_isLock_3 : decode cX7_isLock 3 = .ok (.invokevirtual 61, 3) := by decide +kernel
theorem dX7_isLock_6 : decode cX7_isLock 6 = .ok (.iconst (-1), 1) := by decide +kernel
theorem dX7_isLock_7 : decode cX7_isLock 7 = .ok (.if_icmp .eq 7, 3) := by decide +kernel
theorem dX7_isLock_10 : decode cX7_isLock 10 = .ok (.iconst 1, 1) := by decide +kernel
theorem dX7_isLock_11 : decode cX7_isLock 11 = .ok (.goto 4, 3) := by decide +kernel
theorem dX7_isLock_14 : decode cX7_isLock 14 = .ok (.iconst 0, 1) := by decide +kernel
theorem dX7_isLock_15 : decode cX7_isLock 15 = .ok (.ireturn, 1) := by decide +kernel
theorem dX7_ofKey_0 : decode cX7_ofKey 0 = .ok (.aload_n 0, 1) := by decide +kernel
theorem dX7_ofKey_1 : decode cX7_ofKey 1 = .ok (.getfield 7, 3) := by decide +kernel
theorem dX7_ofKey_4 : decode cX7_ofKey 4 = .ok (.bipush 40, 2) := by decide +kernel
theorem dX7_ofKey_6 : decode cX7_ofKey 6 = .ok (.bipush 6, 2) := by decide +kernel
theorem dX7_ofKey_8 : decode cX7_ofKey 8 = .ok (.iload_n 1, 1) := by decide +kernel
theorem dX7_ofKey_9 : decode cX7_ofKey 9 = .ok (.imul, 1) := by decide +kernel
theorem dX7_ofKey_10 : decode cX7_ofKey 10 = .ok (.iadd, 1) := by decide +kernel
theorem dX7_ofKey_11 : decode cX7_ofKey 11 = .ok (.iload_n 2, 1) := by decide +kernel
theorem dX7_ofKey_12 : decode cX7_ofKey 12 = .ok (.iadd, 1) := by decide +kernel
theorem dX7_ofKey_13 : decode cX7_ofKey 13 = .ok (.iaload, 1) := by decide +kernel
theorem dX7_ofKey_14 : decode cX7_ofKey 14 = .ok (.ireturn, 1) := by decide +kernel
theorem dX7_ofLock_0 : decode cX7_ofLock 0 = .ok (.aload_n 0, 1) := by decide +kernel
theorem dX7_ofLock_1 : decode cX7_ofLock 1 = .ok (.getfield 7, 3) := by decide +kernel
theorem dX7_ofLock_4 : decode cX7_ofLock 4 = .ok (.bipush 16, 2) := by decide +kernel
theorem dX7_ofLock_6 : decode cX7_ofLock 6 = .ok (.iconst 4, 1) := by decide +kernel
theorem dX7_ofLock_7 : decode cX7_ofLock 7 = .ok (.iload_n 1, 1) := by decide +kernel
theorem dX7_ofLock_8 : decode cX7_ofLock 8 = .ok (.imul, 1) := by decide +kernel
theorem dX7_ofLock_9 : decode cX7_ofLock 9 = .ok (.iadd, 1) := by decide +kernel
theorem dX7_ofLock_10 : decode cX7_ofLock 10 = .ok (.iload_n 2, 1) := by decide +kernel
theorem dX7_ofLock_11 : decode cX7_ofLock 11 = .ok (.iadd, 1) := by decide +kernel
theorem dX7_ofLock_12 : decode cX7_ofLock 12 = .ok (.iaload, 1) := by decide +kernel
theorem dX7_ofLock_13 : decode cX7_ofLock 13 = .ok (.ireturn, 1) := by decide +kernel
theorem dX7_save_0 : decode cX7_save 0 = .ok (.aload_n 0, 1) := by decide +kernel
theorem dX7_save_1 : decode cX7_save 1 = .ok (.getfield 65, 3) := by decide +kernel
theorem dX7_save_4 : decode cX7_save 4 = .ok (.bipush 6, 2) := by decide +kernel
theorem dX7_save_6 : decode cX7_save 6 = .ok (.if_icmp .ne 43, 3) := by decide +kernel
theorem dX7_save_9 : decode cX7_save 9 = .ok (.iconst 0, 1) := by decide +kernel
theorem dX7_save_10 : decode cX7_save 10 = .ok (.istore_n 1, 1) := by decide +kernel
theorem dX7_save_11 : decode cX7_save 11 = .ok (.iload_n 1, 1) := by decide +kernel
theorem dX7_save_12 : decode cX7_save 12 = .ok (.sipush 560, 3) := by decide +kernel
theorem dX7_save_15 : decode cX7_save 15 = .ok (.if_icmp .ge 24, 3) := by decide +kernel
theorem dX7_save_18 : decode cX7_save 18 = .ok (.aload_n 0, 1) := by decide +kernel
theorem dX7_save_19 : decode cX7_save 19 = .ok (.getfield 13, 3) := by decide +kernel
theorem dX7_save_22 : decode cX7_save 22 = .ok (.iload_n 1, 1) := by decide +kernel
theorem dX7_save_23 : decode cX7_save 23 = .ok (.aload_n 0, 1) := by decide +kernel
theorem dX7_save_24 : decode cX7_save 24 = .ok (.getfield 13, 3) := by decide +kernel
theorem dX7_save_27 : decode cX7_save 27 = .ok (.iload_n 1, 1) := by decide +kernel
theorem dX7_save_28 : decode cX7_save 28 = .ok (.bipush 112, 2) := by decide +kernel
theorem dX7_save_30 : decode cX7_save 30 = .ok (.iadd, 1) := by decide +kernel
theorem dX7_save_31 : decode cX7_save 31 = .ok (.iaload, 1) := by decide +kernel
theorem dX7_save_32 : decode cX7_save 32 = .ok (.iastore, 1) := by decide +kernel
theorem dX7_save_33 : decode cX7_save 33 = .ok (.iinc 1 1, 3) := by decide +kernel
theorem dX7_save_36 : decode cX7_save 36 = .ok (.goto (-25), 3) := by decide +kernel
theorem dX7_save_39 : decode cX7_save 39 = .ok (.aload_n 0, 1) := by decide +kernel
theorem dX7_save_40 : decode cX7_save 40 = .ok (.dup, 1) := by decide +kernel
theorem dX7_save_41 : decode cX7_save 41 = .ok (.getfield 65, 3) := by decide +kernel
theorem dX7_save_44 : decode cX7_save 44 = .ok (.iconst 1, 1) := by decide +kernel
theorem dX7_save_45 : decode cX7_save 45 = .ok (.isub, 1) := by decide +kernel
theorem dX7_save_46 : decode cX7_save 46 = .ok (.putfield 65, 3) := by decide +kernel
theorem dX7_save_49 : decode cX7_save 49 = .ok (.iconst 0, 1) := by decide +kernel
theorem dX7_save_50 : decode cX7_save 50 = .ok (.istore_n 1, 1) := by decide +kernel
theorem dX7_save_51 : decode cX7_save 51 = .ok (.iload_n 1, 1) := by decide +kernel
theorem dX7_save_52 : decode cX7_save 52 = .ok (.bipush 112, 2) := by decide +kernel
theorem dX7_save_54 : decode cX7_save 54 = .ok (.if_icmp .ge 29, 3) := by decide +kernel
theorem dX7_save_57 : decode cX7_save 57 = .ok (.aload_n 0, 1) := by decide +kernel
theorem dX7_save_58 : decode cX7_save 58 = .ok (.getfield 13, 3) := by decide +kernel
theorem dX7_save_61 : decode cX7_save 61 = .ok (.aload_n 0, 1) := by decide +kernel
theorem dX7_save_62 : decode cX7_save 62 = .ok (.getfield 65, 3) := by decide +kernel
theorem dX7_save_65 : decode cX7_save 65 = .ok (.bipush 112, 2) := by decide +kernel
theorem dX7_save_67 : decode cX7_save 67 = .ok (.imul, 1) := by decide +kernel
theorem dX7_save_68 : decode cX7_save 68 = .ok (.iload_n 1, 1) := by decide +kernel
theorem dX7_save_69 : decode cX7_save 69 = .ok (.iadd, 1) := by decide +kernel
theorem dX7_save_70 : decode cX7_save 70 = .ok (.aload_n 0, 1) := by decide +kernel
theorem dX7_save_71 : decode cX7_save 71 = .ok (.getfield 7, 3) := by decide +kernel
theorem dX7_save_74 : decode cX7_save 74 = .ok (.iload_n 1, 1) := by decide +kernel
theorem dX7_save_75 : decode cX7_save 75 = .ok (.iaload, 1) := by decide +kernel
theorem dX7_save_76 : decode cX7_save 76 = .ok (.iastore, 1) := by decide +kernel
theorem dX7_save_77 : decode cX7_save 77 = .ok (.iinc 1 1, 3) := by decide +kernel
theorem dX7_save_80 : decode cX7_save 80 = .ok (.goto (-29), 3) := by decide +kernel
theorem dX7_save_83 : decode cX7_save 83 = .ok (.aload_n 0, 1) := by decide +kernel
theorem dX7_save_84 : decode cX7_save 84 = .ok (.dup, 1) := by decide +kernel
theorem dX7_save_85 : decode cX7_save 85 = .ok (.getfield 65, 3) := by decide +kernel
theorem dX7_save_88 : decode cX7_save 88 = .ok (.iconst 1, 1) := by decide +kernel
theorem dX7_save_89 : decode cX7_save 89 = .ok (.iadd, 1) := by decide +kernel
theorem dX7_save_90 : decode cX7_save 90 = .ok (.putfield 65, 3) := by decide +kernel
theorem dX7_save_93 : decode cX7_save 93 = .ok (.return_, 1) := by decide +kernel
theorem dX7_undo_0 : decode cX7_undo 0 = .ok (.aload_n 0, 1) := by decide +kernel
theorem dX7_undo_1 : decode cX7_undo 1 = .ok (.iconst 0, 1) := by decide +kernel
theorem dX7_undo_2 : decode cX7_undo 2 = .ok (.putfield 53, 3) := by decide +kernel
theorem dX7_undo_5 : decode cX7_undo 5 = .ok (.aload_n 0, 1) := by decide +kernel
theorem dX7_undo_6 : decode cX7_undo 6 = .ok (.getfield 65, 3) := by decide +kernel
theorem dX7_undo_9 : decode cX7_undo 9 = .ok (.ifCond .ne 9, 3) := by decide +kernel
theorem dX7_undo_12 : decode cX7_undo 12 = .ok (.aload_n 0, 1) := by decide +kernel
theorem dX7_undo_13 : decode cX7_undo 13 = .ok (.iconst 1, 1) := by decide +kernel
theorem dX7_undo_14 : decode cX7_undo 14 = .ok (.invokevirtual 68, 3) := by decide +kernel
theorem dX7_undo_17 : decode cX7_undo 17 = .ok (.ireturn, 1) := by decide +kernel
theorem dX7_undo_18 : decode cX7_undo 18 = .ok (.aload_n 0, 1) := by decide +kernel
theorem dX7_undo_19 : decode cX7_undo 19 = .ok (.dup, 1) := by decide +kernel
theorem dX7_undo_20 : decode cX7_undo 20 = .ok (.getfield 65, 3) := by decide +kernel
theorem dX7_undo_23 : decode cX7_undo 23 = .ok (.iconst 1, 1) := by decide +kernel
theorem dX7_undo_24 : decode cX7_undo 24 = .ok (.isub, 1) := by decide +kernel
theorem dX7_undo_25 : decode cX7_undo 25 = .ok (.putfield 65, 3) := by decide +kernel
theorem dX7_undo_28 : decode cX7_undo 28 = .ok (.iconst 0, 1) := by decide +kernel
theorem dX7_undo_29 : decode cX7_undo 29 = .ok (.istore_n 1, 1) := by decide +kernel
theorem dX7_undo_30 : decode cX7_undo 30 = .ok (.iload_n 1, 1) := by decide +kernel
theorem dX7_undo_31 : decode cX7_undo 31 = .ok (.bipush 112, 2) := by decide +kernel
theorem dX7_undo_33 : decode cX7_undo 33 = .ok (.if_icmp .ge 29, 3) := by decide +kernel
theorem dX7_undo_36 : decode cX7_undo 36 = .ok (.aload_n 0, 1) := by decide +kernel
theorem dX7_undo_37 : decode cX7_undo 37 = .ok (.getfield 7, 3) := by decide +kernel
theorem dX7_undo_40 : decode cX7_undo 40 = .ok (.iload_n 1, 1) := by decide +kernel
theorem dX7_undo_41 : decode cX7_undo 41 = .ok (.aload_n 0, 1) := by decide +kernel
theorem dX7_undo_42 : decode cX7_undo 42 = .ok (.getfield 13, 3) := by decide +kernel
theorem dX7_undo_45 : decode cX7_undo 45 = .ok (.aload_n 0, 1) := by decide +kernel
theorem dX7_undo_46 : decode cX7_undo 46 = .ok (.getfield 65, 3) := by decide +kernel
theorem dX7_undo_49 : decode cX7_undo 49 = .ok (.bipush 112, 2) := by decide +kernel
theorem dX7_undo_51 : decode cX7_undo 51 = .ok (.imul, 1) := by decide +kernel
theorem dX7_undo_52 : decode cX7_undo 52 = .ok (.iload_n 1, 1) := by decide +kernel
theorem dX7_undo_53 : decode cX7_undo 53 = .ok (.iadd, 1) := by decide +kernel
theorem dX7_undo_54 : decode cX7_undo 54 = .ok (.iaload, 1) := by decide +kernel
theorem dX7_undo_55 : decode cX7_undo 55 = .ok (.iastore, 1) := by decide +kernel
theorem dX7_undo_56 : decode cX7_undo 56 = .ok (.iinc 1 1, 3) := by decide +kernel
theorem dX7_undo_59 : decode cX7_undo 59 = .ok (.goto (-29), 3) := by decide +kernel
theorem dX7_undo_62 : decode cX7_undo 62 = .ok (.aload_n 0, 1) := by decide +kernel
theorem dX7_undo_63 : decode cX7_undo 63 = .ok (.getfield 65, 3) := by decide +kernel
theorem dX7_undo_66 : decode cX7_undo 66 = .ok (.ireturn, 1) := by decide +kernel
theorem dX7_keep_0 : decode cX7_keep 0 = .ok (.aload_n 0, 1) := by decide +kernel
theorem dX7_keep_1 : decode cX7_keep 1 = .ok (.iconst 0, 1) := by decide +kernel
theorem dX7_keep_2 : decode cX7_keep 2 = .ok (.putfield 53, 3) := by decide +kernel
theorem dX7_keep_5 : decode cX7_keep 5 = .ok (.iconst 0, 1) := by decide +kernel
theorem dX7_keep_6 : decode cX7_keep 6 = .ok (.istore_n 1, 1) := by decide +kernel
theorem dX7_keep_7 : decode cX7_keep 7 = .ok (.iload_n 1, 1) := by decide +kernel
theorem dX7_keep_8 : decode cX7_keep 8 = .ok (.bipush 112, 2) := by decide +kernel
theorem dX7_keep_10 : decode cX7_keep 10 = .ok (.if_icmp .ge 21, 3) := by decide +kernel
theorem dX7_keep_13 : decode cX7_keep 13 = .ok (.aload_n 0, 1) := by decide +kernel
theorem dX7_keep_14 : decode cX7_keep 14 = .ok (.getfield 16, 3) := by decide +kernel
theorem dX7_keep_17 : decode cX7_keep 17 = .ok (.iload_n 1, 1) := by decide +kernel
theorem dX7_keep_18 : decode cX7_keep 18 = .ok (.aload_n 0, 1) := by decide +kernel
theorem dX7_keep_19 : decode cX7_keep 19 = .ok (.getfield 7, 3) := by decide +kernel
theorem dX7_keep_22 : decode cX7_keep 22 = .ok (.iload_n 1, 1) := by decide +kernel
theorem dX7_keep_23 : decode cX7_keep 23 = .ok (.iaload, 1) := by decide +kernel
theorem dX7_keep_24 : decode cX7_keep 24 = .ok (.iastore, 1) := by decide +kernel
theorem dX7_keep_25 : decode cX7_keep 25 = .ok (.iinc 1 1, 3) := by decide +kernel
theorem dX7_keep_28 : decode cX7_keep 28 = .ok (.goto (-21), 3) := by decide +kernel
theorem dX7_keep_31 : decode cX7_keep 31 = .ok (.aload_n 0, 1) := by decide +kernel
theorem dX7_keep_32 : decode cX7_keep 32 = .ok (.iconst 1, 1) := by decide +kernel
theorem dX7_keep_33 : decode cX7_keep 33 = .ok (.putfield 72, 3) := by decide +kernel
theorem dX7_keep_36 : decode cX7_keep 36 = .ok (.aload_n 0, 1) := by decide +kernel
theorem dX7_keep_37 : decode cX7_keep 37 = .ok (.getfield 7, 3) := by decide +kernel
theorem dX7_keep_40 : decode cX7_keep 40 = .ok (.iconst 0, 1) := by decide +kernel
theorem dX7_keep_41 : decode cX7_keep 41 = .ok (.iaload, 1) := by decide +kernel
theorem dX7_keep_42 : decode cX7_keep 42 = .ok (.ireturn, 1) := by decide +kernel
theorem dX7_goBack_0 : decode cX7_goBack 0 = .ok (.aload_n 0, 1) := by decide +kernel
theorem dX7_goBack_1 : decode cX7_goBack 1 = .ok (.iconst 0, 1) := by decide +kernel
theorem dX7_goBack_2 : decode cX7_goBack 2 = .ok (.putfield 53, 3) := by decide +kernel
theorem dX7_goBack_5 : decode cX7_goBack 5 = .ok (.aload_n 0, 1) := by decide +kernel
theorem dX7_goBack_6 : decode cX7_goBack 6 = .ok (.getfield 72, 3) := by decide +kernel
theorem dX7_goBack_9 : decode cX7_goBack 9 = .ok (.ifCond .ne 9, 3) := by decide +kernel
theorem dX7_goBack_12 : decode cX7_goBack 12 = .ok (.aload_n 0, 1) := by decide +kernel
theorem dX7_goBack_13 : decode cX7_goBack 13 = .ok (.iconst 1, 1) := by decide +kernel
theorem dX7_goBack_14 : decode cX7_goBack 14 = .ok (.invokevirtual 68, 3) := by decide +kernel
theorem dX7_goBack_17 : decode cX7_goBack 17 = .ok (.ireturn, 1) := by decide +kernel
theorem dX7_goBack_18 : decode cX7_goBack 18 = .ok (.aload_n 0, 1) := by decide +kernel
theorem dX7_goBack_19 : decode cX7_goBack 19 = .ok (.invokevirtual 76, 3) := by decide +kernel
theorem dX7_goBack_22 : decode cX7_goBack 22 = .ok (.iconst 0, 1) := by decide +kernel
theorem dX7_goBack_23 : decode cX7_goBack 23 = .ok (.istore_n 1, 1) := by decide +kernel
theorem dX7_goBack_24 : decode cX7_goBack 24 = .ok (.iload_n 1, 1) := by decide +kernel
theorem dX7_goBack_25 : decode cX7_goBack 25 = .ok (.bipush 112, 2) := by decide +kernel
theorem dX7_goBack_27 : decode cX7_goBack 27 = .ok (.if_icmp .ge 21, 3) := by decide +kernel
theorem dX7_goBack_30 : decode cX7_goBack 30 = .ok (.aload_n 0, 1) := by decide +kernel
theorem dX7_goBack_31 : decode cX7_goBack 31 = .ok (.getfield 7, 3) := by decide +kernel
theorem dX7_goBack_34 : decode cX7_goBack 34 = .ok (.iload_n 1, 1) := by decide +kernel
theorem dX7_goBack_35 : decode cX7_goBack 35 = .ok (.aload_n 0, 1) := by decide +kernel
theorem dX7_goBack_36 : decode cX7_goBack 36 = .ok (.getfield 16, 3) := by decide +kernel
theorem dX7_goBack_39 : decode cX7_goBack 39 = .ok (.iload_n 1, 1) := by decide +kernel
theorem dX7_goBack_40 : decode cX7_goBack 40 = .ok (.iaload, 1) := by decide +kernel
theorem dX7_goBack_41 : decode cX7_goBack 41 = .ok (.iastore, 1) := by decide +kernel
theorem dX7_goBack_42 : decode cX7_goBack 42 = .ok (.iinc 1 1, 3) := by decide +kernel
theorem dX7_goBack_45 : decode cX7_goBack 45 = .ok (.goto (-21), 3) := by decide +kernel
theorem dX7_goBack_48 : decode cX7_goBack 48 = .ok (.aload_n 0, 1) := by decide +kernel
theorem dX7_goBack_49 : decode cX7_goBack 49 = .ok (.getfield 7, 3) := by decide +kernel
theorem dX7_goBack_52 : decode cX7_goBack 52 = .ok (.iconst 0, 1) := by decide +kernel
theorem dX7_goBack_53 : decode cX7_goBack 53 = .ok (.iaload, 1) := by decide +kernel
theorem dX7_goBack_54 : decode cX7_goBack 54 = .ok (.ireturn, 1) := by decide +kernel
theorem dX7_worth_0 : decode cX7_worth 0 = .ok (.iload_n 0, 1) := by decide +kernel
theorem dX7_worth_1 : decode cX7_worth 1 = .ok (.ifCond .ne 8, 3) := by decide +kernel
theorem dX7_worth_4 : decode cX7_worth 4 = .ok (.bipush 27, 2) := by decide +kernel
theorem dX7_worth_6 : decode cX7_worth 6 = .ok (.goto 23, 3) := by decide +kernel
theorem dX7_worth_9 : decode cX7_worth 9 = .ok (.iload_n 0, 1) := by decide +kernel
theorem dX7_worth_10 : decode cX7_worth 10 = .ok (.iconst 1, 1) := by decide +kernel
theorem dX7_worth_11 : decode cX7_worth 11 = .ok (.if_icmp .ne 8, 3) := by decide +kernel
theorem dX7_worth_14 : decode cX7_worth 14 = .ok (.bipush 9, 2) := by decide +kernel
theorem dX7_worth_16 : decode cX7_worth 16 = .ok (.goto 13, 3) := by decide +kernel
theorem dX7_worth_19 : decode cX7_worth 19 = .ok (.iload_n 0, 1) := by decide +kernel
theorem dX7_worth_20 : decode cX7_worth 20 = .ok (.iconst 2, 1) := by decide +kernel
theorem dX7_worth_21 : decode cX7_worth 21 = .ok (.if_icmp .ne 7, 3) := by decide +kernel
theorem dX7_worth_24 : decode cX7_worth 24 = .ok (.iconst 3, 1) := by decide +kernel
theorem dX7_worth_25 : decode cX7_worth 25 = .ok (.goto 4, 3) := by decide +kernel
theorem dX7_worth_28 : decode cX7_worth 28 = .ok (.iconst 1, 1) := by decide +kernel
theorem dX7_worth_29 : decode cX7_worth 29 = .ok (.ireturn, 1) := by decide +kernel
theorem dX7_depth_0 : decode cX7_depth 0 = .ok (.iload_n 0, 1) := by decide +kernel
theorem dX7_depth_1 : decode cX7_depth 1 = .ok (.iload_n 1, 1) := by decide +kernel
theorem dX7_depth_2 : decode cX7_depth 2 = .ok (.invokestatic 79, 3) := by decide +kernel
theorem dX7_depth_5 : decode cX7_depth 5 = .ok (.idiv, 1) := by decide +kernel
theorem dX7_depth_6 : decode cX7_depth 6 = .ok (.iconst 3, 1) := by decide +kernel
theorem dX7_depth_7 : decode cX7_depth 7 = .ok (.irem, 1) := by decide +kernel
theorem dX7_depth_8 : decode cX7_depth 8 = .ok (.ireturn, 1) := by decide +kernel
theorem dX7_levelOf_0 : decode cX7_levelOf 0 = .ok (.iload_n 0, 1) := by decide +kernel
theorem dX7_levelOf_1 : decode cX7_levelOf 1 = .ok (.bipush 27, 2) := by decide +kernel
theorem dX7_levelOf_3 : decode cX7_levelOf 3 = .ok (.idiv, 1) := by decide +kernel
theorem dX7_levelOf_4 : decode cX7_levelOf 4 = .ok (.iload_n 0, 1) := by decide +kernel
theorem dX7_levelOf_5 : decode cX7_levelOf 5 = .ok (.bipush 9, 2) := by decide +kernel
theorem dX7_levelOf_7 : decode cX7_levelOf 7 = .ok (.idiv, 1) := by decide +kernel
theorem dX7_levelOf_8 : decode cX7_levelOf 8 = .ok (.iconst 3, 1) := by decide +kernel
theorem dX7_levelOf_9 : decode cX7_levelOf 9 = .ok (.irem, 1) := by decide +kernel
theorem dX7_levelOf_10 : decode cX7_levelOf 10 = .ok (.iadd, 1) := by decide +kernel
theorem dX7_levelOf_11 : decode cX7_levelOf 11 = .ok (.iload_n 0, 1) := by decide +kernel
theorem dX7_levelOf_12 : decode cX7_levelOf 12 = .ok (.iconst 3, 1) := by decide +kernel
theorem dX7_levelOf_13 : decode cX7_levelOf 13 = .ok (.idiv, 1) := by decide +kernel
theorem dX7_levelOf_14 : decode cX7_levelOf 14 = .ok (.iconst 3, 1) := by decide +kernel
theorem dX7_levelOf_15 : decode cX7_levelOf 15 = .ok (.irem, 1) := by decide +kernel
theorem dX7_levelOf_16 : decode cX7_levelOf 16 = .ok (.iadd, 1) := by decide +kernel
theorem dX7_levelOf_17 : decode cX7_levelOf 17 = .ok (.iload_n 0, 1) := by decide +kernel
theorem dX7_levelOf_18 : decode cX7_levelOf 18 = .ok (.iconst 3, 1) := by decide +kernel
theorem dX7_levelOf_19 : decode cX7_levelOf 19 = .ok (.irem, 1) := by decide +kernel
theorem dX7_levelOf_20 : decode cX7_levelOf 20 = .ok (.iadd, 1) := by decide +kernel
theorem dX7_levelOf_21 : decode cX7_levelOf 21 = .ok (.ireturn, 1) := by decide +kernel
theorem dX7_liesUnder_0 : decode cX7_liesUnder 0 = .ok (.iload_n 0, 1) := by decide +kernel
theorem dX7_liesUnder_1 : decode cX7_liesUnder 1 = .ok (.iload_n 1, 1) := by decide +kernel
theorem dX7_liesUnder_2 : decode cX7_liesUnder 2 = .ok (.if_icmp .eq 7, 3) := by decide +kernel
theorem dX7_liesUnder_5 : decode cX7_liesUnder 5 = .ok (.iconst 1, 1) := by decide +kernel
theorem dX7_liesUnder_6 : decode cX7_liesUnder 6 = .ok (.goto 4, 3) := by decide +kernel
theorem dX7_liesUnder_9 : decode cX7_liesUnder 9 = .ok (.iconst 0, 1) := by decide +kernel
theorem dX7_liesUnder_10 : decode cX7_liesUnder 10 = .ok (.istore_n 2, 1) := by decide +kernel
theorem dX7_liesUnder_11 : decode cX7_liesUnder 11 = .ok (.iconst 0, 1) := by decide +kernel
theorem dX7_liesUnder_12 : decode cX7_liesUnder 12 = .ok (.istore_n 3, 1) := by decide +kernel
theorem dX7_liesUnder_13 : decode cX7_liesUnder 13 = .ok (.iload_n 3, 1) := by decide +kernel
theorem dX7_liesUnder_14 : decode cX7_liesUnder 14 = .ok (.iconst 4, 1) := by decide +kernel
theorem dX7_liesUnder_15 : decode cX7_liesUnder 15 = .ok (.if_icmp .ge 32, 3) := by decide +kernel
theorem dX7_liesUnder_18 : decode cX7_liesUnder 18 = .ok (.iload_n 2, 1) := by decide +kernel
theorem dX7_liesUnder_19 : decode cX7_liesUnder 19 = .ok (.ifCond .eq 20, 3) := by decide +kernel
theorem dX7_liesUnder_22 : decode cX7_liesUnder 22 = .ok (.iload_n 0, 1) := by decide +kernel
theorem dX7_liesUnder_23 : decode cX7_liesUnder 23 = .ok (.iload_n 3, 1) := by decide +kernel
theorem dX7_liesUnder_24 : decode cX7_liesUnder 24 = .ok (.invokestatic 82, 3) := by decide +kernel
theorem dX7_liesUnder_27 : decode cX7_liesUnder 27 = .ok (.iload_n 1, 1) := by decide +kernel
theorem dX7_liesUnder_28 : decode cX7_liesUnder 28 = .ok (.iload_n 3, 1) := by decide +kernel
theorem dX7_liesUnder_29 : decode cX7_liesUnder 29 = .ok (.invokestatic 82, 3) := by decide +kernel
theorem dX7_liesUnder_32 : decode cX7_liesUnder 32 = .ok (.if_icmp .gt 7, 3) := by decide +kernel
theorem dX7_liesUnder_35 : decode cX7_liesUnder 35 = .ok (.iconst 1, 1) := by decide +kernel
theorem dX7_liesUnder_36 : decode cX7_liesUnder 36 = .ok (.goto 4, 3) := by decide +kernel
theorem dX7_liesUnder_39 : decode cX7_liesUnder 39 = .ok (.iconst 0, 1) := by decide +kernel
theorem dX7_liesUnder_40 : decode cX7_liesUnder 40 = .ok (.istore_n 2, 1) := by decide +kernel
theorem dX7_liesUnder_41 : decode cX7_liesUnder 41 = .ok (.iinc 3 1, 3) := by decide +kernel
theorem dX7_liesUnder_44 : decode cX7_liesUnder 44 = .ok (.goto (-31), 3) := by decide +kernel
theorem dX7_liesUnder_47 : decode cX7_liesUnder 47 = .ok (.iload_n 2, 1) := by decide +kernel
theorem dX7_liesUnder_48 : decode cX7_liesUnder 48 = .ok (.ireturn, 1) := by decide +kernel
theorem dX7_isCrossed_0 : decode cX7_isCrossed 0 = .ok (.iload_n 0, 1) := by decide +kernel
theorem dX7_isCrossed_1 : decode cX7_isCrossed 1 = .ok (.iload_n 1, 1) := by decide +kernel
theorem dX7_isCrossed_2 : decode cX7_isCrossed 2 = .ok (.if_icmp .eq 19, 3) := by decide +kernel
theorem dX7_isCrossed_5 : decode cX7_isCrossed 5 = .ok (.iload_n 0, 1) := by decide +kernel
theorem dX7_isCrossed_6 : decode cX7_isCrossed 6 = .ok (.iload_n 1, 1) := by decide +kernel
theorem dX7_isCrossed_7 : decode cX7_isCrossed 7 = .ok (.invokestatic 49, 3) := by decide +kernel
theorem dX7_isCrossed_10 : decode cX7_isCrossed 10 = .ok (.ifCond .ne 11, 3) := by decide +kernel
theorem dX7_isCrossed_13 : decode cX7_isCrossed 13 = .ok (.iload_n 1, 1) := by decide +kernel
theorem dX7_isCrossed_14 : decode cX7_isCrossed 14 = .ok (.iload_n 0, 1) := by decide +kernel
theorem dX7_isCrossed_15 : decode cX7_isCrossed 15 = .ok (.invokestatic 49, 3) := by decide +kernel
theorem dX7_isCrossed_18 : decode cX7_isCrossed 18 = .ok (.ifCond .eq 7, 3) := by decide +kernel
theorem dX7_isCrossed_21 : decode cX7_isCrossed 21 = .ok (.iconst 1, 1) := by decide +kernel
theorem dX7_isCrossed_22 : decode cX7_isCrossed 22 = .ok (.goto 4, 3) := by decide +kernel
theorem dX7_isCrossed_25 : decode cX7_isCrossed 25 = .ok (.iconst 0, 1) := by decide +kernel
theorem dX7_isCrossed_26 : decode cX7_isCrossed 26 = .ok (.ireturn, 1) := by decide +kernel
theorem dX7_isSound_0 : decode cX7_isSound 0 = .ok (.iconst 1, 1) := by decide +kernel
theorem dX7_isSound_1 : decode cX7_isSound 1 = .ok (.istore_n 2, 1) := by decide +kernel
theorem dX7_isSound_2 : decode cX7_isSound 2 = .ok (.iconst 1, 1) := by decide +kernel
theorem dX7_isSound_3 : decode cX7_isSound 3 = .ok (.istore_n 3, 1) := by decide +kernel
theorem dX7_isSound_4 : decode cX7_isSound 4 = .ok (.iload_n 3, 1) := by decide +kernel
theorem dX7_isSound_5 : decode cX7_isSound 5 = .ok (.iconst 4, 1) := by decide +kernel
theorem dX7_isSound_6 : decode cX7_isSound 6 = .ok (.if_icmp .ge 57, 3) := by decide +kernel
theorem dX7_isSound_9 : decode cX7_isSound 9 = .ok (.iload_n 1, 1) := by decide +kernel
theorem dX7_isSound_10 : decode cX7_isSound 10 = .ok (.iload_n 3, 1) := by decide +kernel
theorem dX7_isSound_11 : decode cX7_isSound 11 = .ok (.invokestatic 82, 3) := by decide +kernel
theorem dX7_isSound_14 : decode cX7_isSound 14 = .ok (.iload_n 1, 1) := by decide +kernel
theorem dX7_isSound_15 : decode cX7_isSound 15 = .ok (.iload_n 3, 1) := by decide +kernel
theorem dX7_isSound_16 : decode cX7_isSound 16 = .ok (.iconst 1, 1) := by decide +kernel
theorem dX7_isSound_17 : decode cX7_isSound 17 = .ok (.isub, 1) := by decide +kernel
theorem dX7_isSound_18 : decode cX7_isSound 18 = .ok (.invokestatic 82, 3) := by decide +kernel
theorem dX7_isSound_21 : decode cX7_isSound 21 = .ok (.isub, 1) := by decide +kernel
theorem dX7_isSound_22 : decode cX7_isSound 22 = .ok (.istore 4, 2) := by decide +kernel
theorem dX7_isSound_24 : decode cX7_isSound 24 = .ok (.iload_n 2, 1) := by decide +kernel
theorem dX7_isSound_25 : decode cX7_isSound 25 = .ok (.ifCond .eq 30, 3) := by decide +kernel
theorem dX7_isSound_28 : decode cX7_isSound 28 = .ok (.iload 4, 2) := by decide +kernel
theorem dX7_isSound_30 : decode cX7_isSound 30 = .ok (.aload_n 0, 1) := by decide +kernel
theorem dX7_isSound_31 : decode cX7_isSound 31 = .ok (.getfield 7, 3) := by decide +kernel
theorem dX7_isSound_34 : decode cX7_isSound 34 = .ok (.bipush 8, 2) := by decide +kernel
theorem dX7_isSound_36 : decode cX7_isSound 36 = .ok (.iaload, 1) := by decide +kernel
theorem dX7_isSound_37 : decode cX7_isSound 37 = .ok (.ineg, 1) := by decide +kernel
theorem dX7_isSound_38 : decode cX7_isSound 38 = .ok (.aload_n 0, 1) := by decide +kernel
theorem dX7_isSound_39 : decode cX7_isSound 39 = .ok (.getfield 7, 3) := by decide +kernel
theorem dX7_isSound_42 : decode cX7_isSound 42 = .ok (.bipush 8, 2) := by decide +kernel
theorem dX7_isSound_44 : decode cX7_isSound 44 = .ok (.iaload, 1) := by decide +kernel
theorem dX7_isSound_45 : decode cX7_isSound 45 = .ok (.invokestatic 57, 3) := by decide +kernel
theorem dX7_isSound_48 : decode cX7_isSound 48 = .ok (.ifCond .eq 7, 3) := by decide +kernel
theorem dX7_isSound_51 : decode cX7_isSound 51 = .ok (.iconst 1, 1) := by decide +kernel
theorem dX7_isSound_52 : decode cX7_isSound 52 = .ok (.goto 4, 3) := by decide +kernel
theorem dX7_isSound_55 : decode cX7_isSound 55 = .ok (.iconst 0, 1) := by decide +kernel
theorem dX7_isSound_56 : decode cX7_isSound 56 = .ok (.istore_n 2, 1) := by decide +kernel
theorem dX7_isSound_57 : decode cX7_isSound 57 = .ok (.iinc 3 1, 3) := by decide +kernel
theorem dX7_isSound_60 : decode cX7_isSound 60 = .ok (.goto (-56), 3) := by decide +kernel
theorem dX7_isSound_63 : decode cX7_isSound 63 = .ok (.iload_n 2, 1) := by decide +kernel
theorem dX7_isSound_64 : decode cX7_isSound 64 = .ok (.ireturn, 1) := by decide +kernel
theorem dX7_clash_0 : decode cX7_clash 0 = .ok (.iconst 0, 1) := by decide +kernel
theorem dX7_clash_1 : decode cX7_clash 1 = .ok (.istore_n 3, 1) := by decide +kernel
theorem dX7_clash_2 : decode cX7_clash 2 = .ok (.iconst 0, 1) := by decide +kernel
theorem dX7_clash_3 : decode cX7_clash 3 = .ok (.istore 4, 2) := by decide +kernel
theorem dX7_clash_5 : decode cX7_clash 5 = .ok (.iload 4, 2) := by decide +kernel
theorem dX7_clash_7 : decode cX7_clash 7 = .ok (.aload_n 0, 1) := by decide +kernel
theorem dX7_clash_8 : decode cX7_clash 8 = .ok (.getfield 7, 3) := by decide +kernel
theorem dX7_clash_11 : decode cX7_clash 11 = .ok (.iconst 0, 1) := by decide +kernel
theorem dX7_clash_12 : decode cX7_clash 12 = .ok (.iaload, 1) := by decide +kernel
theorem dX7_clash_13 : decode cX7_clash 13 = .ok (.if_icmp .ge 122, 3) := by decide +kernel
theorem dX7_clash_16 : decode cX7_clash 16 = .ok (.iload 4, 2) := by decide +kernel
theorem dX7_clash_18 : decode cX7_clash 18 = .ok (.iload_n 2, 1) := by decide +kernel
theorem dX7_clash_19 : decode cX7_clash 19 = .ok (.if_icmp .eq 28, 3) := by decide +kernel
theorem dX7_clash_22 : decode cX7_clash 22 = .ok (.aload_n 0, 1) := by decide +kernel
theorem dX7_clash_23 : decode cX7_clash 23 = .ok (.iload 4, 2) := by decide +kernel
theorem dX7_clash_25 : decode cX7_clash 25 = .ok (.iconst 2, 1) := by decide +kernel
theorem dX7_clash_26 : decode cX7_clash 26 = .ok (.invokevirtual 85, 3) := by decide +kernel
theorem dX7_clash_29 : decode cX7_clash 29 = .ok (.ifCond .eq 14, 3) := by decide +kernel
theorem dX7_clash_32 : decode cX7_clash 32 = .ok (.aload_n 0, 1) := by decide +kernel
theorem dX7_clash_33 : decode cX7_clash 33 = .ok (.getfield 7, 3) := by decide +kernel
theorem dX7_clash_36 : decode cX7_clash 36 = .ok (.bipush 11, 2) := by decide +kernel
theorem dX7_clash_38 : decode cX7_clash 38 = .ok (.iaload, 1) := by decide +kernel
theorem dX7_clash_39 : decode cX7_clash 39 = .ok (.iconst 1, 1) := by decide +kernel
theorem dX7_clash_40 : decode cX7_clash 40 = .ok (.if_icmp .ne 7, 3) := by decide +kernel
theorem dX7_clash_43 : decode cX7_clash 43 = .ok (.iconst 1, 1) := by decide +kernel
theorem dX7_clash_44 : decode cX7_clash 44 = .ok (.goto 4, 3) := by decide +kernel
theorem dX7_clash_47 : decode cX7_clash 47 = .ok (.iconst 0, 1) := by decide +kernel
theorem dX7_clash_48 : decode cX7_clash 48 = .ok (.istore 5, 2) := by decide +kernel
theorem dX7_clash_50 : decode cX7_clash 50 = .ok (.aload_n 0, 1) := by decide +kernel
theorem dX7_clash_51 : decode cX7_clash 51 = .ok (.iload 4, 2) := by decide +kernel
theorem dX7_clash_53 : decode cX7_clash 53 = .ok (.iconst 0, 1) := by decide +kernel
theorem dX7_clash_54 : decode cX7_clash 54 = .ok (.invokevirtual 85, 3) := by decide +kernel
theorem dX7_clash_57 : decode cX7_clash 57 = .ok (.istore 6, 2) := by decide +kernel
theorem dX7_clash_59 : decode cX7_clash 59 = .ok (.iload 5, 2) := by decide +kernel
theorem dX7_clash_61 : decode cX7_clash 61 = .ok (.ifCond .ne 7, 3) := by decide +kernel
theorem dX7_clash_64 : decode cX7_clash 64 = .ok (.iconst 0, 1) := by decide +kernel
theorem dX7_clash_65 : decode cX7_clash 65 = .ok (.goto 40, 3) := by decide +kernel
theorem dX7_clash_68 : decode cX7_clash 68 = .ok (.iload 6, 2) := by decide +kernel
theorem dX7_clash_70 : decode cX7_clash 70 = .ok (.iload_n 1, 1) := by decide +kernel
theorem dX7_clash_71 : decode cX7_clash 71 = .ok (.if_icmp .ne 7, 3) := by decide +kernel
theorem dX7_clash_74 : decode cX7_clash 74 = .ok (.iconst 3, 1) := by decide +kernel
theorem dX7_clash_75 : decode cX7_clash 75 = .ok (.goto 30, 3) := by decide +kernel
theorem dX7_clash_78 : decode cX7_clash 78 = .ok (.iload_n 1, 1) := by decide +kernel
theorem dX7_clash_79 : decode cX7_clash 79 = .ok (.iload 6, 2) := by decide +kernel
theorem dX7_clash_81 : decode cX7_clash 81 = .ok (.invokestatic 49, 3) := by decide +kernel
theorem dX7_clash_84 : decode cX7_clash 84 = .ok (.ifCond .eq 7, 3) := by decide +kernel
theorem dX7_clash_87 : decode cX7_clash 87 = .ok (.iconst 4, 1) := by decide +kernel
theorem dX7_clash_88 : decode cX7_clash 88 = .ok (.goto 17, 3) := by decide +kernel
theorem dX7_clash_91 : decode cX7_clash 91 = .ok (.iload 6, 2) := by decide +kernel
theorem dX7_clash_93 : decode cX7_clash 93 = .ok (.iload_n 1, 1) := by decide +kernel
theorem dX7_clash_94 : decode cX7_clash 94 = .ok (.invokestatic 49, 3) := by decide +kernel
theorem dX7_clash_97 : decode cX7_clash 97 = .ok (.ifCond .eq 7, 3) := by decide +kernel
theorem dX7_clash_100 : decode cX7_clash 100 = .ok (.iconst 5, 1) := by decide +kernel
theorem dX7_clash_101 : decode cX7_clash 101 = .ok (.goto 4, 3) := by decide +kernel
theorem dX7_clash_104 : decode cX7_clash 104 = .ok (.iconst 0, 1) := by decide +kernel
theorem dX7_clash_105 : decode cX7_clash 105 = .ok (.istore 7, 2) := by decide +kernel
theorem dX7_clash_107 : decode cX7_clash 107 = .ok (.iload 7, 2) := by decide +kernel
theorem dX7_clash_109 : decode cX7_clash 109 = .ok (.ifCond .le 18, 3) := by decide +kernel
theorem dX7_clash_112 : decode cX7_clash 112 = .ok (.iload_n 3, 1) := by decide +kernel
theorem dX7_clash_113 : decode cX7_clash 113 = .ok (.ifCond .eq 9, 3) := by decide +kernel
theorem dX7_clash_116 : decode cX7_clash 116 = .ok (.iload 7, 2) := by decide +kernel
theorem dX7_clash_118 : decode cX7_clash 118 = .ok (.iload_n 3, 1) := by decide +kernel
theorem dX7_clash_119 : decode cX7_clash 119 = .ok (.if_icmp .ge 8, 3) := by decide +kernel
theorem dX7_clash_122 : decode cX7_clash 122 = .ok (.iload 7, 2) := by decide +kernel
theorem dX7_clash_124 : decode cX7_clash 124 = .ok (.goto 4, 3) := by decide +kernel
theorem dX7_clash_127 : decode cX7_clash 127 = .ok (.iload_n 3, 1) := by decide +kernel
theorem dX7_clash_128 : decode cX7_clash 128 = .ok (.istore_n 3, 1) := by decide +kernel
theorem dX7_clash_129 : decode cX7_clash 129 = .ok (.iinc 4 1, 3) := by decide +kernel
theorem dX7_clash_132 : decode cX7_clash 132 = .ok (.goto (-127), 3) := by decide +kernel
theorem dX7_clash_135 : decode cX7_clash 135 = .ok (.iload_n 3, 1) := by decide +kernel
theorem dX7_clash_136 : decode cX7_clash 136 = .ok (.ireturn, 1) := by decide +kernel
theorem dX7_whyNotCut_0 : decode cX7_whyNotCut 0 = .ok (.aload_n 0, 1) := by decide +kernel
theorem dX7_whyNotCut_1 : decode cX7_whyNotCut 1 = .ok (.iload_n 1, 1) := by decide +kernel
theorem dX7_whyNotCut_2 : decode cX7_whyNotCut 2 = .ok (.invokevirtual 88, 3) := by decide +kernel
theorem dX7_whyNotCut_5 : decode cX7_whyNotCut 5 = .ok (.ifCond .ne 7, 3) := by decide +kernel
theorem dX7_whyNotCut_8 : decode cX7_whyNotCut 8 = .ok (.iconst 1, 1) := by decide +kernel
theorem dX7_whyNotCut_9 : decode cX7_whyNotCut 9 = .ok (.goto 24, 3) := by decide +kernel
theorem dX7_whyNotCut_12 : decode cX7_whyNotCut 12 = .ok (.aload_n 0, 1) := by decide +kernel
theorem dX7_whyNotCut_13 : decode cX7_whyNotCut 13 = .ok (.getfield 7, 3) := by decide +kernel
theorem dX7_whyNotCut_16 : decode cX7_whyNotCut 16 = .ok (.iconst 0, 1) := by decide +kernel
theorem dX7_whyNotCut_17 : decode cX7_whyNotCut 17 = .ok (.iaload, 1) := by decide +kernel
theorem dX7_whyNotCut_18 : decode cX7_whyNotCut 18 = .ok (.bipush 12, 2) := by decide +kernel
theorem dX7_whyNotCut_20 : decode cX7_whyNotCut 20 = .ok (.if_icmp .ne 7, 3) := by decide +kernel
theorem dX7_whyNotCut_23 : decode cX7_whyNotCut 23 = .ok (.iconst 2, 1) := by decide +kernel
theorem dX7_whyNotCut_24 : decode cX7_whyNotCut 24 = .ok (.goto 9, 3) := by decide +kernel
theorem dX7_whyNotCut_27 : decode cX7_whyNotCut 27 = .ok (.aload_n 0, 1) := by decide +kernel
theorem dX7_whyNotCut_28 : decode cX7_whyNotCut 28 = .ok (.iload_n 1, 1) := by decide +kernel
theorem dX7_whyNotCut_29 : decode cX7_whyNotCut 29 = .ok (.iconst (-1), 1) := by decide +kernel
theorem dX7_whyNotCut_30 : decode cX7_whyNotCut 30 = .ok (.invokevirtual 92, 3) := by decide +kernel
theorem dX7_whyNotCut_33 : decode cX7_whyNotCut 33 = .ok (.ireturn, 1) := by decide +kernel
theorem dX7_whyNotDeeper_0 : decode cX7_whyNotDeeper 0 = .ok (.aload_n 0, 1) := by decide +kernel
theorem dX7_whyNotDeeper_1 : decode cX7_whyNotDeeper 1 = .ok (.iload_n 1, 1) := by decide +kernel
theorem dX7_whyNotDeeper_2 : decode cX7_whyNotDeeper 2 = .ok (.iconst 0, 1) := by decide +kernel
theorem dX7_whyNotDeeper_3 : decode cX7_whyNotDeeper 3 = .ok (.invokevirtual 85, 3) := by decide +kernel
theorem dX7_whyNotDeeper_6 : decode cX7_whyNotDeeper 6 = .ok (.istore_n 3, 1) := by decide +kernel
theorem dX7_whyNotDeeper_7 : decode cX7_whyNotDeeper 7 = .ok (.iload_n 3, 1) := by decide +kernel
theorem dX7_whyNotDeeper_8 : decode cX7_whyNotDeeper 8 = .ok (.iload_n 2, 1) := by decide +kernel
theorem dX7_whyNotDeeper_9 : decode cX7_whyNotDeeper 9 = .ok (.invokestatic 82, 3) := by decide +kernel
theorem dX7_whyNotDeeper_12 : decode cX7_whyNotDeeper 12 = .ok (.iconst 2, 1) := by decide +kernel
theorem dX7_whyNotDeeper_13 : decode cX7_whyNotDeeper 13 = .ok (.if_icmp .ne 6, 3) := by decide +kernel
theorem dX7_whyNotDeeper_16 : decode cX7_whyNotDeeper 16 = .ok (.bipush 6, 2) := by decide +kernel
theorem dX7_whyNotDeeper_18 : decode cX7_whyNotDeeper 18 = .ok (.ireturn, 1) := by decide +kernel
theorem dX7_whyNotDeeper_19 : decode cX7_whyNotDeeper 19 = .ok (.iload_n 3, 1) := by decide +kernel
theorem dX7_whyNotDeeper_20 : decode cX7_whyNotDeeper 20 = .ok (.iload_n 2, 1) := by decide +kernel
theorem dX7_whyNotDeeper_21 : decode cX7_whyNotDeeper 21 = .ok (.invokestatic 79, 3) := by decide +kernel
theorem dX7_whyNotDeeper_24 : decode cX7_whyNotDeeper 24 = .ok (.iadd, 1) := by decide +kernel
theorem dX7_whyNotDeeper_25 : decode cX7_whyNotDeeper 25 = .ok (.istore 4, 2) := by decide +kernel
theorem dX7_whyNotDeeper_27 : decode cX7_whyNotDeeper 27 = .ok (.aload_n 0, 1) := by decide +kernel
theorem dX7_whyNotDeeper_28 : decode cX7_whyNotDeeper 28 = .ok (.iload 4, 2) := by decide +kernel
theorem dX7_whyNotDeeper_30 : decode cX7_whyNotDeeper 30 = .ok (.invokevirtual 88, 3) := by decide +kernel
theorem dX7_whyNotDeeper_33 : decode cX7_whyNotDeeper 33 = .ok (.ifCond .ne 7, 3) := by decide +kernel
theorem dX7_whyNotDeeper_36 : decode cX7_whyNotDeeper 36 = .ok (.iconst 1, 1) := by decide +kernel
theorem dX7_whyNotDeeper_37 : decode cX7_whyNotDeeper 37 = .ok (.goto 10, 3) := by decide +kernel
theorem dX7_whyNotDeeper_40 : decode cX7_whyNotDeeper 40 = .ok (.aload_n 0, 1) := by decide +kernel
theorem dX7_whyNotDeeper_41 : decode cX7_whyNotDeeper 41 = .ok (.iload 4, 2) := by decide +kernel
theorem dX7_whyNotDeeper_43 : decode cX7_whyNotDeeper 43 = .ok (.iload_n 1, 1) := by decide +kernel
theorem dX7_whyNotDeeper_44 : decode cX7_whyNotDeeper 44 = .ok (.invokevirtual 92, 3) := by decide +kernel
theorem dX7_whyNotDeeper_47 : decode cX7_whyNotDeeper 47 = .ok (.ireturn, 1) := by decide +kernel
theorem dX7_isFreeCode_0 : decode cX7_isFreeCode 0 = .ok (.aload_n 0, 1) := by decide +kernel
theorem dX7_isFreeCode_1 : decode cX7_isFreeCode 1 = .ok (.iload_n 1, 1) := by decide +kernel
theorem dX7_isFreeCode_2 : decode cX7_isFreeCode 2 = .ok (.invokevirtual 88, 3) := by decide +kernel
theorem dX7_isFreeCode_5 : decode cX7_isFreeCode 5 = .ok (.ifCond .eq 16, 3) := by decide +kernel
theorem dX7_isFreeCode_8 : decode cX7_isFreeCode 8 = .ok (.aload_n 0, 1) := by decide +kernel
theorem dX7_isFreeCode_9 : decode cX7_isFreeCode 9 = .ok (.iload_n 1, 1) := by decide +kernel
theorem dX7_isFreeCode_10 : decode cX7_isFreeCode 10 = .ok (.iconst (-1), 1) := by decide +kernel
theorem dX7_isFreeCode_11 : decode cX7_isFreeCode 11 = .ok (.invokevirtual 92, 3) := by decide +kernel
theorem dX7_isFreeCode_14 : decode cX7_isFreeCode 14 = .ok (.ifCond .ne 7, 3) := by decide +kernel
theorem dX7_isFreeCode_17 : decode cX7_isFreeCode 17 = .ok (.iconst 1, 1) := by decide +kernel
theorem dX7_isFreeCode_18 : decode cX7_isFreeCode 18 = .ok (.goto 4, 3) := by decide +kernel
theorem dX7_isFreeCode_21 : decode cX7_isFreeCode 21 = .ok (.iconst 0, 1) := by decide +kernel
theorem dX7_isFreeCode_22 : decode cX7_isFreeCode 22 = .ok (.ireturn, 1) := by decide +kernel
theorem dX7_reaches_0 : decode cX7_reaches 0 = .ok (.iload_n 0, 1) := by decide +kernel
theorem dX7_reaches_1 : decode cX7_reaches 1 = .ok (.iload_n 1, 1) := by decide +kernel
theorem dX7_reaches_2 : decode cX7_reaches 2 = .ok (.if_icmp .eq 11, 3) := by decide +kernel
theorem dX7_reaches_5 : decode cX7_reaches 5 = .ok (.iload_n 1, 1) := by decide +kernel
theorem dX7_reaches_6 : decode cX7_reaches 6 = .ok (.iload_n 0, 1) := by decide +kernel
theorem dX7_reaches_7 : decode cX7_reaches 7 = .ok (.invokestatic 49, 3) := by decide +kernel
theorem dX7_reaches_10 : decode cX7_reaches 10 = .ok (.ifCond .eq 7, 3) := by decide +kernel
theorem dX7_reaches_13 : decode cX7_reaches 13 = .ok (.iconst 1, 1) := by decide +kernel
theorem dX7_reaches_14 : decode cX7_reaches 14 = .ok (.goto 4, 3) := by decide +kernel
theorem dX7_reaches_17 : decode cX7_reaches 17 = .ok (.iconst 0, 1) := by decide +kernel
theorem dX7_reaches_18 : decode cX7_reaches 18 = .ok (.ireturn, 1) := by decide +kernel
theorem dX7_opens_0 : decode cX7_opens 0 = .ok (.aload_n 0, 1) := by decide +kernel
theorem dX7_opens_1 : decode cX7_opens 1 = .ok (.iload_n 2, 1) := by decide +kernel
theorem dX7_opens_2 : decode cX7_opens 2 = .ok (.invokevirtual 95, 3) := by decide +kernel
theorem dX7_opens_5 : decode cX7_opens 5 = .ok (.ifCond .ne 5, 3) := by decide +kernel
theorem dX7_opens_8 : decode cX7_opens 8 = .ok (.iconst 0, 1) := by decide +kernel
theorem dX7_opens_9 : decode cX7_opens 9 = .ok (.ireturn, 1) := by decide +kernel
theorem dX7_opens_10 : decode cX7_opens 10 = .ok (.aload_n 0, 1) := by decide +kernel
theorem dX7_opens_11 : decode cX7_opens 11 = .ok (.iload_n 2, 1) := by decide +kernel
theorem dX7_opens_12 : decode cX7_opens 12 = .ok (.iconst 1, 1) := by decide +kernel
theorem dX7_opens_13 : decode cX7_opens 13 = .ok (.invokevirtual 61, 3) := by decide +kernel
theorem dX7_opens_16 : decode cX7_opens 16 = .ok (.istore_n 3, 1) := by decide +kernel
theorem dX7_opens_17 : decode cX7_opens 17 = .ok (.iload_n 1, 1) := by decide +kernel
theorem dX7_opens_18 : decode cX7_opens 18 = .ok (.aload_n 0, 1) := by decide +kernel
theorem dX7_opens_19 : decode cX7_opens 19 = .ok (.iload_n 2, 1) := by decide +kernel
theorem dX7_opens_20 : decode cX7_opens 20 = .ok (.iconst 0, 1) := by decide +kernel
theorem dX7_opens_21 : decode cX7_opens 21 = .ok (.invokevirtual 61, 3) := by decide +kernel
theorem dX7_opens_24 : decode cX7_opens 24 = .ok (.invokestatic 98, 3) := by decide +kernel
theorem dX7_opens_27 : decode cX7_opens 27 = .ok (.ifCond .ne 16, 3) := by decide +kernel
theorem dX7_opens_30 : decode cX7_opens 30 = .ok (.iload_n 3, 1) := by decide +kernel
theorem dX7_opens_31 : decode cX7_opens 31 = .ok (.iconst (-1), 1) := by decide +kernel
theorem dX7_opens_32 : decode cX7_opens 32 = .ok (.if_icmp .eq 15, 3) := by decide +kernel
theorem dX7_opens_35 : decode cX7_opens 35 = .ok (.iload_n 1, 1) := by decide +kernel
theorem dX7_opens_36 : decode cX7_opens 36 = .ok (.iload_n 3, 1) := by decide +kernel
theorem dX7_opens_37 : decode cX7_opens 37 = .ok (.invokestatic 98, 3) := by decide +kernel
theorem dX7_opens_40 : decode cX7_opens 40 = .ok (.ifCond .eq 7, 3) := by decide +kernel
theorem dX7_opens_43 : decode cX7_opens 43 = .ok (.iconst 1, 1) := by decide +kernel
theorem dX7_opens_44 : decode cX7_opens 44 = .ok (.goto 4, 3) := by decide +kernel
theorem dX7_opens_47 : decode cX7_opens 47 = .ok (.iconst 0, 1) := by decide +kernel
theorem dX7_opens_48 : decode cX7_opens 48 = .ok (.ireturn, 1) := by decide +kernel
theorem dX7_locksOf_0 : decode cX7_locksOf 0 = .ok (.iconst 0, 1) := by decide +kernel
theorem dX7_locksOf_1 : decode cX7_locksOf 1 = .ok (.istore_n 2, 1) := by decide +kernel
theorem dX7_locksOf_2 : decode cX7_locksOf 2 = .ok (.iconst 0, 1) := by decide +kernel
theorem dX7_locksOf_3 : decode cX7_locksOf 3 = .ok (.istore_n 3, 1) := by decide +kernel
theorem dX7_locksOf_4 : decode cX7_locksOf 4 = .ok (.iload_n 3, 1) := by decide +kernel
theorem dX7_locksOf_5 : decode cX7_locksOf 5 = .ok (.bipush 6, 2) := by decide +kernel
theorem dX7_locksOf_7 : decode cX7_locksOf 7 = .ok (.if_icmp .ge 28, 3) := by decide +kernel
theorem dX7_locksOf_10 : decode cX7_locksOf 10 = .ok (.iload_n 2, 1) := by decide +kernel
theorem dX7_locksOf_11 : decode cX7_locksOf 11 = .ok (.aload_n 0, 1) := by decide +kernel
theorem dX7_locksOf_12 : decode cX7_locksOf 12 = .ok (.iload_n 1, 1) := by decide +kernel
theorem dX7_locksOf_13 : decode cX7_locksOf 13 = .ok (.iload_n 3, 1) := by decide +kernel
theorem dX7_locksOf_14 : decode cX7_locksOf 14 = .ok (.invokevirtual 101, 3) := by decide +kernel
theorem dX7_locksOf_17 : decode cX7_locksOf 17 = .ok (.ifCond .eq 9, 3) := by decide +kernel
theorem dX7_locksOf_20 : decode cX7_locksOf 20 = .ok (.iconst 1, 1) := by decide +kernel
theorem dX7_locksOf_21 : decode cX7_locksOf 21 = .ok (.iload_n 3, 1) := by decide +kernel
theorem dX7_locksOf_22 : decode cX7_locksOf 22 = .ok (.ishl, 1) := by decide +kernel
theorem dX7_locksOf_23 : decode cX7_locksOf 23 = .ok (.goto 4, 3) := by decide +kernel
theorem dX7_locksOf_26 : decode cX7_locksOf 26 = .ok (.iconst 0, 1) := by decide +kernel
theorem dX7_locksOf_27 : decode cX7_locksOf 27 = .ok (.ior, 1) := by decide +kernel
theorem dX7_locksOf_28 : decode cX7_locksOf 28 = .ok (.istore_n 2, 1) := by decide +kernel
theorem dX7_locksOf_29 : decode cX7_locksOf 29 = .ok (.iinc 3 1, 3) := by decide +kernel
theorem dX7_locksOf_32 : decode cX7_locksOf 32 = .ok (.goto (-28), 3) := by decide +kernel
theorem dX7_locksOf_35 : decode cX7_locksOf 35 = .ok (.iload_n 2, 1) := by decide +kernel
theorem dX7_locksOf_36 : decode cX7_locksOf 36 = .ok (.ireturn, 1) := by decide +kernel
theorem dX7_ones_0 : decode cX7_ones 0 = .ok (.iconst 0, 1) := by decide +kernel
theorem dX7_ones_1 : decode cX7_ones 1 = .ok (.istore_n 1, 1) := by decide +kernel
theorem dX7_ones_2 : decode cX7_ones 2 = .ok (.iconst 0, 1) := by decide +kernel
theorem dX7_ones_3 : decode cX7_ones 3 = .ok (.istore_n 2, 1) := by decide +kernel
theorem dX7_ones_4 : decode cX7_ones 4 = .ok (.iload_n 2, 1) := by decide +kernel
theorem dX7_ones_5 : decode cX7_ones 5 = .ok (.bipush 12, 2) := by decide +kernel
theorem dX7_ones_7 : decode cX7_ones 7 = .ok (.if_icmp .ge 17, 3) := by decide +kernel
theorem dX7_ones_10 : decode cX7_ones 10 = .ok (.iload_n 1, 1) := by decide +kernel
theorem dX7_ones_11 : decode cX7_ones 11 = .ok (.iload_n 0, 1) := by decide +kernel
theorem dX7_ones_12 : decode cX7_ones 12 = .ok (.iload_n 2, 1) := by decide +kernel
theorem dX7_ones_13 : decode cX7_ones 13 = .ok (.ishr, 1) := by decide +kernel
theorem dX7_ones_14 : decode cX7_ones 14 = .ok (.iconst 1, 1) := by decide +kernel
theorem dX7_ones_15 : decode cX7_ones 15 = .ok (.iand, 1) := by decide +kernel
theorem dX7_ones_16 : decode cX7_ones 16 = .ok (.iadd, 1) := by decide +kernel
theorem dX7_ones_17 : decode cX7_ones 17 = .ok (.istore_n 1, 1) := by decide +kernel
theorem dX7_ones_18 : decode cX7_ones 18 = .ok (.iinc 2 1, 3) := by decide +kernel
theorem dX7_ones_21 : decode cX7_ones 21 = .ok (.goto (-17), 3) := by decide +kernel
theorem dX7_ones_24 : decode cX7_ones 24 = .ok (.iload_n 1, 1) := by decide +kernel
theorem dX7_ones_25 : decode cX7_ones 25 = .ok (.ireturn, 1) := by decide +kernel
theorem dX7_keysOf_0 : decode cX7_keysOf 0 = .ok (.iconst 0, 1) := by decide +kernel
theorem dX7_keysOf_1 : decode cX7_keysOf 1 = .ok (.istore_n 2, 1) := by decide +kernel
theorem dX7_keysOf_2 : decode cX7_keysOf 2 = .ok (.iconst 0, 1) := by decide +kernel
theorem dX7_keysOf_3 : decode cX7_keysOf 3 = .ok (.istore_n 3, 1) := by decide +kernel
theorem dX7_keysOf_4 : decode cX7_keysOf 4 = .ok (.iload_n 3, 1) := by decide +kernel
theorem dX7_keysOf_5 : decode cX7_keysOf 5 = .ok (.aload_n 0, 1) := by decide +kernel
theorem dX7_keysOf_6 : decode cX7_keysOf 6 = .ok (.getfield 7, 3) := by decide +kernel
theorem dX7_keysOf_9 : decode cX7_keysOf 9 = .ok (.iconst 0, 1) := by decide +kernel
theorem dX7_keysOf_10 : decode cX7_keysOf 10 = .ok (.iaload, 1) := by decide +kernel
theorem dX7_keysOf_11 : decode cX7_keysOf 11 = .ok (.if_icmp .ge 33, 3) := by decide +kernel
theorem dX7_keysOf_14 : decode cX7_keysOf 14 = .ok (.iload_n 2, 1) := by decide +kernel
theorem dX7_keysOf_15 : decode cX7_keysOf 15 = .ok (.aload_n 0, 1) := by decide +kernel
theorem dX7_keysOf_16 : decode cX7_keysOf 16 = .ok (.aload_n 0, 1) := by decide +kernel
theorem dX7_keysOf_17 : decode cX7_keysOf 17 = .ok (.iload_n 3, 1) := by decide +kernel
theorem dX7_keysOf_18 : decode cX7_keysOf 18 = .ok (.iconst 0, 1) := by decide +kernel
theorem dX7_keysOf_19 : decode cX7_keysOf 19 = .ok (.invokevirtual 85, 3) := by decide +kernel
theorem dX7_keysOf_22 : decode cX7_keysOf 22 = .ok (.iload_n 1, 1) := by decide +kernel
theorem dX7_keysOf_23 : decode cX7_keysOf 23 = .ok (.invokevirtual 101, 3) := by decide +kernel
theorem dX7_keysOf_26 : decode cX7_keysOf 26 = .ok (.ifCond .eq 9, 3) := by decide +kernel
theorem dX7_keysOf_29 : decode cX7_keysOf 29 = .ok (.iconst 1, 1) := by decide +kernel
theorem dX7_keysOf_30 : decode cX7_keysOf 30 = .ok (.iload_n 3, 1) := by decide +kernel
theorem dX7_keysOf_31 : decode cX7_keysOf 31 = .ok (.ishl, 1) := by decide +kernel
theorem dX7_keysOf_32 : decode cX7_keysOf 32 = .ok (.goto 4, 3) := by decide +kernel
theorem dX7_keysOf_35 : decode cX7_keysOf 35 = .ok (.iconst 0, 1) := by decide +kernel
theorem dX7_keysOf_36 : decode cX7_keysOf 36 = .ok (.ior, 1) := by decide +kernel
theorem dX7_keysOf_37 : decode cX7_keysOf 37 = .ok (.istore_n 2, 1) := by decide +kernel
theorem dX7_keysOf_38 : decode cX7_keysOf 38 = .ok (.iinc 3 1, 3) := by decide +kernel
theorem dX7_keysOf_41 : decode cX7_keysOf 41 = .ok (.goto (-37), 3) := by decide +kernel
theorem dX7_keysOf_44 : decode cX7_keysOf 44 = .ok (.iload_n 2, 1) := by decide +kernel
theorem dX7_keysOf_45 : decode cX7_keysOf 45 = .ok (.ireturn, 1) := by decide +kernel
theorem dX7_wornCode_0 : decode cX7_wornCode 0 = .ok (.iconst 0, 1) := by decide +kernel
theorem dX7_wornCode_1 : decode cX7_wornCode 1 = .ok (.istore_n 1, 1) := by decide +kernel
theorem dX7_wornCode_2 : decode cX7_wornCode 2 = .ok (.iconst 1, 1) := by decide +kernel
theorem dX7_wornCode_3 : decode cX7_wornCode 3 = .ok (.istore_n 2, 1) := by decide +kernel
theorem dX7_wornCode_4 : decode cX7_wornCode 4 = .ok (.iload_n 2, 1) := by decide +kernel
theorem dX7_wornCode_5 : decode cX7_wornCode 5 = .ok (.iconst 4, 1) := by decide +kernel
theorem dX7_wornCode_6 : decode cX7_wornCode 6 = .ok (.if_icmp .ge 28, 3) := by decide +kernel
theorem dX7_wornCode_9 : decode cX7_wornCode 9 = .ok (.iload_n 0, 1) := by decide +kernel
theorem dX7_wornCode_10 : decode cX7_wornCode 10 = .ok (.iload_n 2, 1) := by decide +kernel
theorem dX7_wornCode_11 : decode cX7_wornCode 11 = .ok (.invokestatic 82, 3) := by decide +kernel
theorem dX7_wornCode_14 : decode cX7_wornCode 14 = .ok (.iload_n 0, 1) := by decide +kernel
theorem dX7_wornCode_15 : decode cX7_wornCode 15 = .ok (.iload_n 1, 1) := by decide +kernel
theorem dX7_wornCode_16 : decode cX7_wornCode 16 = .ok (.invokestatic 82, 3) := by decide +kernel
theorem dX7_wornCode_19 : decode cX7_wornCode 19 = .ok (.if_icmp .ge 7, 3) := by decide +kernel
theorem dX7_wornCode_22 : decode cX7_wornCode 22 = .ok (.iload_n 2, 1) := by decide +kernel
theorem dX7_wornCode_23 : decode cX7_wornCode 23 = .ok (.goto 4, 3) := by decide +kernel
theorem dX7_wornCode_26 : decode cX7_wornCode 26 = .ok (.iload_n 1, 1) := by decide +kernel
theorem dX7_wornCode_27 : decode cX7_wornCode 27 = .ok (.istore_n 1, 1) := by decide +kernel
theorem dX7_wornCode_28 : decode cX7_wornCode 28 = .ok (.iinc 2 1, 3) := by decide +kernel
theorem dX7_wornCode_31 : decode cX7_wornCode 31 = .ok (.goto (-27), 3) := by decide +kernel
theorem dX7_wornCode_34 : decode cX7_wornCode 34 = .ok (.iload_n 0, 1) := by decide +kernel
theorem dX7_wornCode_35 : decode cX7_wornCode 35 = .ok (.iload_n 1, 1) := by decide +kernel
theorem dX7_wornCode_36 : decode cX7_wornCode 36 = .ok (.invokestatic 82, 3) := by decide +kernel
theorem dX7_wornCode_39 : decode cX7_wornCode 39 = .ok (.iconst 2, 1) := by decide +kernel
theorem dX7_wornCode_40 : decode cX7_wornCode 40 = .ok (.if_icmp .ge 12, 3) := by decide +kernel
theorem dX7_wornCode_43 : decode cX7_wornCode 43 = .ok (.iload_n 0, 1) := by decide +kernel
theorem dX7_wornCode_44 : decode cX7_wornCode 44 = .ok (.iload_n 1, 1) := by decide +kernel
theorem dX7_wornCode_45 : decode cX7_wornCode 45 = .ok (.invokestatic 79, 3) := by decide +kernel
theorem dX7_wornCode_48 : decode cX7_wornCode 48 = .ok (.iadd, 1) := by decide +kernel
theorem dX7_wornCode_49 : decode cX7_wornCode 49 = .ok (.goto 4, 3) := by decide +kernel
theorem dX7_wornCode_52 : decode cX7_wornCode 52 = .ok (.iload_n 0, 1) := by decide +kernel
theorem dX7_wornCode_53 : decode cX7_wornCode 53 = .ok (.ireturn, 1) := by decide +kernel
theorem dX7_wears_0 : decode cX7_wears 0 = .ok (.aload_n 0, 1) := by decide +kernel
theorem dX7_wears_1 : decode cX7_wears 1 = .ok (.getfield 7, 3) := by decide +kernel
theorem dX7_wears_4 : decode cX7_wears 4 = .ok (.bipush 10, 2) := by decide +kernel
theorem dX7_wears_6 : decode cX7_wears 6 = .ok (.iaload, 1) := by decide +kernel
theorem dX7_wears_7 : decode cX7_wears 7 = .ok (.ifCond .le 19, 3) := by decide +kernel
theorem dX7_wears_10 : decode cX7_wears 10 = .ok (.iload_n 1, 1) := by decide +kernel
theorem dX7_wears_11 : decode cX7_wears 11 = .ok (.aload_n 0, 1) := by decide +kernel
theorem dX7_wears_12 : decode cX7_wears 12 = .ok (.getfield 7, 3) := by decide +kernel
theorem dX7_wears_15 : decode cX7_wears 15 = .ok (.bipush 10, 2) := by decide +kernel
theorem dX7_wears_17 : decode cX7_wears 17 = .ok (.iaload, 1) := by decide +kernel
theorem dX7_wears_18 : decode cX7_wears 18 = .ok (.irem, 1) := by decide +kernel
theorem dX7_wears_19 : decode cX7_wears 19 = .ok (.ifCond .ne 7, 3) := by decide +kernel
theorem dX7_wears_22 : decode cX7_wears 22 = .ok (.iconst 1, 1) := by decide +kernel
theorem dX7_wears_23 : decode cX7_wears 23 = .ok (.goto 4, 3) := by decide +kernel
theorem dX7_wears_26 : decode cX7_wears 26 = .ok (.iconst 0, 1) := by decide +kernel
theorem dX7_wears_27 : decode cX7_wears 27 = .ok (.ireturn, 1) := by decide +kernel
theorem dX7_doesCut_0 : decode cX7_doesCut 0 = .ok (.bipush 40, 2) := by decide +kernel
theorem dX7_doesCut_2 : decode cX7_doesCut 2 = .ok (.bipush 6, 2) := by decide +kernel
theorem dX7_doesCut_4 : decode cX7_doesCut 4 = .ok (.aload_n 0, 1) := by decide +kernel
theorem dX7_doesCut_5 : decode cX7_doesCut 5 = .ok (.getfield 7, 3) := by decide +kernel
theorem dX7_doesCut_8 : decode cX7_doesCut 8 = .ok (.iconst 0, 1) := by decide +kernel
theorem dX7_doesCut_9 : decode cX7_doesCut 9 = .ok (.iaload, 1) := by decide +kernel
theorem dX7_doesCut_10 : decode cX7_doesCut 10 = .ok (.imul, 1) := by decide +kernel
theorem dX7_doesCut_11 : decode cX7_doesCut 11 = .ok (.iadd, 1) := by decide +kernel
theorem dX7_doesCut_12 : decode cX7_doesCut 12 = .ok (.istore_n 3, 1) := by decide +kernel
theorem dX7_doesCut_13 : decode cX7_doesCut 13 = .ok (.aload_n 0, 1) := by decide +kernel
theorem dX7_doesCut_14 : decode cX7_doesCut 14 = .ok (.getfield 7, 3) := by decide +kernel
theorem dX7_doesCut_17 : decode cX7_doesCut 17 = .ok (.iload_n 3, 1) := by decide +kernel
theorem dX7_doesCut_18 : decode cX7_doesCut 18 = .ok (.iconst 0, 1) := by decide +kernel
theorem dX7_doesCut_19 : decode cX7_doesCut 19 = .ok (.iadd, 1) := by decide +kernel
theorem dX7_doesCut_20 : decode cX7_doesCut 20 = .ok (.iload_n 1, 1) := by decide +kernel
theorem dX7_doesCut_21 : decode cX7_doesCut 21 = .ok (.iastore, 1) := by decide +kernel
theorem dX7_doesCut_22 : decode cX7_doesCut 22 = .ok (.aload_n 0, 1) := by decide +kernel
theorem dX7_doesCut_23 : decode cX7_doesCut 23 = .ok (.getfield 7, 3) := by decide +kernel
theorem dX7_doesCut_26 : decode cX7_doesCut 26 = .ok (.iload_n 3, 1) := by decide +kernel
theorem dX7_doesCut_27 : decode cX7_doesCut 27 = .ok (.iconst 1, 1) := by decide +kernel
theorem dX7_doesCut_28 : decode cX7_doesCut 28 = .ok (.iadd, 1) := by decide +kernel
theorem dX7_doesCut_29 : decode cX7_doesCut 29 = .ok (.iload_n 2, 1) := by decide +kernel
theorem dX7_doesCut_30 : decode cX7_doesCut 30 = .ok (.iastore, 1) := by decide +kernel
theorem dX7_doesCut_31 : decode cX7_doesCut 31 = .ok (.aload_n 0, 1) := by decide +kernel
theorem dX7_doesCut_32 : decode cX7_doesCut 32 = .ok (.getfield 7, 3) := by decide +kernel
theorem dX7_doesCut_35 : decode cX7_doesCut 35 = .ok (.iload_n 3, 1) := by decide +kernel
theorem dX7_doesCut_36 : decode cX7_doesCut 36 = .ok (.iconst 2, 1) := by decide +kernel
theorem dX7_doesCut_37 : decode cX7_doesCut 37 = .ok (.iadd, 1) := by decide +kernel
theorem dX7_doesCut_38 : decode cX7_doesCut 38 = .ok (.iconst 0, 1) := by decide +kernel
theorem dX7_doesCut_39 : decode cX7_doesCut 39 = .ok (.iastore, 1) := by decide +kernel
theorem dX7_doesCut_40 : decode cX7_doesCut 40 = .ok (.aload_n 0, 1) := by decide +kernel
theorem dX7_doesCut_41 : decode cX7_doesCut 41 = .ok (.getfield 7, 3) := by decide +kernel
theorem dX7_doesCut_44 : decode cX7_doesCut 44 = .ok (.iload_n 3, 1) := by decide +kernel
theorem dX7_doesCut_45 : decode cX7_doesCut 45 = .ok (.iconst 3, 1) := by decide +kernel
theorem dX7_doesCut_46 : decode cX7_doesCut 46 = .ok (.iadd, 1) := by decide +kernel
theorem dX7_doesCut_47 : decode cX7_doesCut 47 = .ok (.iload_n 1, 1) := by decide +kernel
theorem dX7_doesCut_48 : decode cX7_doesCut 48 = .ok (.iastore, 1) := by decide +kernel
theorem dX7_doesCut_49 : decode cX7_doesCut 49 = .ok (.aload_n 0, 1) := by decide +kernel
theorem dX7_doesCut_50 : decode cX7_doesCut 50 = .ok (.getfield 7, 3) := by decide +kernel
theorem dX7_doesCut_53 : decode cX7_doesCut 53 = .ok (.iload_n 3, 1) := by decide +kernel
theorem dX7_doesCut_54 : decode cX7_doesCut 54 = .ok (.iconst 4, 1) := by decide +kernel
theorem dX7_doesCut_55 : decode cX7_doesCut 55 = .ok (.iadd, 1) := by decide +kernel
theorem dX7_doesCut_56 : decode cX7_doesCut 56 = .ok (.iconst 0, 1) := by decide +kernel
theorem dX7_doesCut_57 : decode cX7_doesCut 57 = .ok (.iastore, 1) := by decide +kernel
theorem dX7_doesCut_58 : decode cX7_doesCut 58 = .ok (.aload_n 0, 1) := by decide +kernel
theorem dX7_doesCut_59 : decode cX7_doesCut 59 = .ok (.getfield 7, 3) := by decide +kernel
theorem dX7_doesCut_62 : decode cX7_doesCut 62 = .ok (.iload_n 3, 1) := by decide +kernel
theorem dX7_doesCut_63 : decode cX7_doesCut 63 = .ok (.iconst 5, 1) := by decide +kernel
theorem dX7_doesCut_64 : decode cX7_doesCut 64 = .ok (.iadd, 1) := by decide +kernel
theorem dX7_doesCut_65 : decode cX7_doesCut 65 = .ok (.iconst 0, 1) := by decide +kernel
theorem dX7_doesCut_66 : decode cX7_doesCut 66 = .ok (.iastore, 1) := by decide +kernel
theorem dX7_doesCut_67 : decode cX7_doesCut 67 = .ok (.aload_n 0, 1) := by decide +kernel
theorem dX7_doesCut_68 : decode cX7_doesCut 68 = .ok (.getfield 7, 3) := by decide +kernel
theorem dX7_doesCut_71 : decode cX7_doesCut 71 = .ok (.iconst 0, 1) := by decide +kernel
theorem dX7_doesCut_72 : decode cX7_doesCut 72 = .ok (.dup2, 1) := by decide +kernel
theorem dX7_doesCut_73 : decode cX7_doesCut 73 = .ok (.iaload, 1) := by decide +kernel
theorem dX7_doesCut_74 : decode cX7_doesCut 74 = .ok (.iconst 1, 1) := by decide +kernel
theorem dX7_doesCut_75 : decode cX7_doesCut 75 = .ok (.iadd, 1) := by decide +kernel
theorem dX7_doesCut_76 : decode cX7_doesCut 76 = .ok (.iastore, 1) := by decide +kernel
theorem dX7_doesCut_77 : decode cX7_doesCut 77 = .ok (.aload_n 0, 1) := by decide +kernel
theorem dX7_doesCut_78 : decode cX7_doesCut 78 = .ok (.getfield 7, 3) := by decide +kernel
theorem dX7_doesCut_81 : decode cX7_doesCut 81 = .ok (.iconst 1, 1) := by decide +kernel
theorem dX7_doesCut_82 : decode cX7_doesCut 82 = .ok (.dup2, 1) := by decide +kernel
theorem dX7_doesCut_83 : decode cX7_doesCut 83 = .ok (.iaload, 1) := by decide +kernel
theorem dX7_doesCut_84 : decode cX7_doesCut 84 = .ok (.aload_n 0, 1) := by decide +kernel
theorem dX7_doesCut_85 : decode cX7_doesCut 85 = .ok (.getfield 7, 3) := by decide +kernel
theorem dX7_doesCut_88 : decode cX7_doesCut 88 = .ok (.bipush 9, 2) := by decide +kernel
theorem dX7_doesCut_90 : decode cX7_doesCut 90 = .ok (.iaload, 1) := by decide +kernel
theorem dX7_doesCut_91 : decode cX7_doesCut 91 = .ok (.iload_n 1, 1) := by decide +kernel
theorem dX7_doesCut_92 : decode cX7_doesCut 92 = .ok (.invokestatic 104, 3) := by decide +kernel
theorem dX7_doesCut_95 : decode cX7_doesCut 95 = .ok (.imul, 1) := by decide +kernel
theorem dX7_doesCut_96 : decode cX7_doesCut 96 = .ok (.iadd, 1) := by decide +kernel
theorem dX7_doesCut_97 : decode cX7_doesCut 97 = .ok (.iastore, 1) := by decide +kernel
theorem dX7_doesCut_98 : decode cX7_doesCut 98 = .ok (.aload_n 0, 1) := by decide +kernel
theorem dX7_doesCut_99 : decode cX7_doesCut 99 = .ok (.getfield 7, 3) := by decide +kernel
theorem dX7_doesCut_102 : decode cX7_doesCut 102 = .ok (.iconst 0, 1) := by decide +kernel
theorem dX7_doesCut_103 : decode cX7_doesCut 103 = .ok (.iaload, 1) := by decide +kernel
theorem dX7_doesCut_104 : decode cX7_doesCut 104 = .ok (.iconst 1, 1) := by decide +kernel
theorem dX7_doesCut_105 : decode cX7_doesCut 105 = .ok (.isub, 1) := by decide +kernel
theorem dX7_doesCut_106 : decode cX7_doesCut 106 = .ok (.ireturn, 1) := by decide +kernel
theorem dX7_doesDeepen_0 : decode cX7_doesDeepen 0 = .ok (.aload_n 0, 1) := by decide +kernel
theorem dX7_doesDeepen_1 : decode cX7_doesDeepen 1 = .ok (.getfield 7, 3) := by decide +kernel
theorem dX7_doesDeepen_4 : decode cX7_doesDeepen 4 = .ok (.bipush 40, 2) := by decide +kernel
theorem dX7_doesDeepen_6 : decode cX7_doesDeepen 6 = .ok (.bipush 6, 2) := by decide +kernel
theorem dX7_doesDeepen_8 : decode cX7_doesDeepen 8 = .ok (.iload_n 1, 1) := by decide +kernel
theorem dX7_doesDeepen_9 : decode cX7_doesDeepen 9 = .ok (.imul, 1) := by decide +kernel
theorem dX7_doesDeepen_10 : decode cX7_doesDeepen 10 = .ok (.iadd, 1) := by decide +kernel
theorem dX7_doesDeepen_11 : decode cX7_doesDeepen 11 = .ok (.iconst 0, 1) := by decide +kernel
theorem dX7_doesDeepen_12 : decode cX7_doesDeepen 12 = .ok (.iadd, 1) := by decide +kernel
theorem dX7_doesDeepen_13 : decode cX7_doesDeepen 13 = .ok (.dup2, 1) := by decide +kernel
theorem dX7_doesDeepen_14 : decode cX7_doesDeepen 14 = .ok (.iaload, 1) := by decide +kernel
theorem dX7_doesDeepen_15 : decode cX7_doesDeepen 15 = .ok (.iload_n 2, 1) := by decide +kernel
theorem dX7_doesDeepen_16 : decode cX7_doesDeepen 16 = .ok (.invokestatic 79, 3) := by decide +kernel
theorem dX7_doesDeepen_19 : decode cX7_doesDeepen 19 = .ok (.iadd, 1) := by decide +kernel
theorem dX7_doesDeepen_20 : decode cX7_doesDeepen 20 = .ok (.iastore, 1) := by decide +kernel
theorem dX7_doesDeepen_21 : decode cX7_doesDeepen 21 = .ok (.aload_n 0, 1) := by decide +kernel
theorem dX7_doesDeepen_22 : decode cX7_doesDeepen 22 = .ok (.getfield 7, 3) := by decide +kernel
theorem dX7_doesDeepen_25 : decode cX7_doesDeepen 25 = .ok (.iconst 1, 1) := by decide +kernel
theorem dX7_doesDeepen_26 : decode cX7_doesDeepen 26 = .ok (.dup2, 1) := by decide +kernel
theorem dX7_doesDeepen_27 : decode cX7_doesDeepen 27 = .ok (.iaload, 1) := by decide +kernel
theorem dX7_doesDeepen_28 : decode cX7_doesDeepen 28 = .ok (.aload_n 0, 1) := by decide +kernel
theorem dX7_doesDeepen_29 : decode cX7_doesDeepen 29 = .ok (.getfield 7, 3) := by decide +kernel
theorem dX7_doesDeepen_32 : decode cX7_doesDeepen 32 = .ok (.bipush 9, 2) := by decide +kernel
theorem dX7_doesDeepen_34 : decode cX7_doesDeepen 34 = .ok (.iaload, 1) := by decide +kernel
theorem dX7_doesDeepen_35 : decode cX7_doesDeepen 35 = .ok (.iadd, 1) := by decide +kernel
theorem dX7_doesDeepen_36 : decode cX7_doesDeepen 36 = .ok (.iastore, 1) := by decide +kernel
theorem dX7_doesDeepen_37 : decode cX7_doesDeepen 37 = .ok (.aload_n 0, 1) := by decide +kernel
theorem dX7_doesDeepen_38 : decode cX7_doesDeepen 38 = .ok (.iload_n 1, 1) := by decide +kernel
theorem dX7_doesDeepen_39 : decode cX7_doesDeepen 39 = .ok (.iconst 0, 1) := by decide +kernel
theorem dX7_doesDeepen_40 : decode cX7_doesDeepen 40 = .ok (.invokevirtual 85, 3) := by decide +kernel
theorem dX7_doesDeepen_43 : decode cX7_doesDeepen 43 = .ok (.ireturn, 1) := by decide +kernel
theorem dX7_doesTurn_0 : decode cX7_doesTurn 0 = .ok (.aload_n 0, 1) := by decide +kernel
theorem dX7_doesTurn_1 : decode cX7_doesTurn 1 = .ok (.iload_n 1, 1) := by decide +kernel
theorem dX7_doesTurn_2 : decode cX7_doesTurn 2 = .ok (.iconst 0, 1) := by decide +kernel
theorem dX7_doesTurn_3 : decode cX7_doesTurn 3 = .ok (.invokevirtual 85, 3) := by decide +kernel
theorem dX7_doesTurn_6 : decode cX7_doesTurn 6 = .ok (.istore_n 3, 1) := by decide +kernel
theorem dX7_doesTurn_7 : decode cX7_doesTurn 7 = .ok (.aload_n 0, 1) := by decide +kernel
theorem dX7_doesTurn_8 : decode cX7_doesTurn 8 = .ok (.iload_n 3, 1) := by decide +kernel
theorem dX7_doesTurn_9 : decode cX7_doesTurn 9 = .ok (.iload_n 2, 1) := by decide +kernel
theorem dX7_doesTurn_10 : decode cX7_doesTurn 10 = .ok (.invokevirtual 101, 3) := by decide +kernel
theorem dX7_doesTurn_13 : decode cX7_doesTurn 13 = .ok (.ifCond .ne 32, 3) := by decide +kernel
theorem dX7_doesTurn_16 : decode cX7_doesTurn 16 = .ok (.aload_n 0, 1) := by decide +kernel
theorem dX7_doesTurn_17 : decode cX7_doesTurn 17 = .ok (.getfield 7, 3) := by decide +kernel
theorem dX7_doesTurn_20 : decode cX7_doesTurn 20 = .ok (.bipush 16, 2) := by decide +kernel
theorem dX7_doesTurn_22 : decode cX7_doesTurn 22 = .ok (.iconst 4, 1) := by decide +kernel
theorem dX7_doesTurn_23 : decode cX7_doesTurn 23 = .ok (.iload_n 2, 1) := by decide +kernel
theorem dX7_doesTurn_24 : decode cX7_doesTurn 24 = .ok (.imul, 1) := by decide +kernel
theorem dX7_doesTurn_25 : decode cX7_doesTurn 25 = .ok (.iadd, 1) := by decide +kernel
theorem dX7_doesTurn_26 : decode cX7_doesTurn 26 = .ok (.iconst 3, 1) := by decide +kernel
theorem dX7_doesTurn_27 : decode cX7_doesTurn 27 = .ok (.iadd, 1) := by decide +kernel
theorem dX7_doesTurn_28 : decode cX7_doesTurn 28 = .ok (.dup2, 1) := by decide +kernel
theorem dX7_doesTurn_29 : decode cX7_doesTurn 29 = .ok (.iaload, 1) := by decide +kernel
theorem dX7_doesTurn_30 : decode cX7_doesTurn 30 = .ok (.iconst 1, 1) := by decide +kernel
theorem dX7_doesTurn_31 : decode cX7_doesTurn 31 = .ok (.iadd, 1) := by decide +kernel
theorem dX7_doesTurn_32 : decode cX7_doesTurn 32 = .ok (.iastore, 1) := by decide +kernel
theorem dX7_doesTurn_33 : decode cX7_doesTurn 33 = .ok (.aload_n 0, 1) := by decide +kernel
theorem dX7_doesTurn_34 : decode cX7_doesTurn 34 = .ok (.getfield 7, 3) := by decide +kernel
theorem dX7_doesTurn_37 : decode cX7_doesTurn 37 = .ok (.iconst 3, 1) := by decide +kernel
theorem dX7_doesTurn_38 : decode cX7_doesTurn 38 = .ok (.dup2, 1) := by decide +kernel
theorem dX7_doesTurn_39 : decode cX7_doesTurn 39 = .ok (.iaload, 1) := by decide +kernel
theorem dX7_doesTurn_40 : decode cX7_doesTurn 40 = .ok (.iconst 1, 1) := by decide +kernel
theorem dX7_doesTurn_41 : decode cX7_doesTurn 41 = .ok (.iadd, 1) := by decide +kernel
theorem dX7_doesTurn_42 : decode cX7_doesTurn 42 = .ok (.iastore, 1) := by decide +kernel
theorem dX7_doesTurn_43 : decode cX7_doesTurn 43 = .ok (.iconst 0, 1) := by decide +kernel
theorem dX7_doesTurn_44 : decode cX7_doesTurn 44 = .ok (.ireturn, 1) := by decide +kernel
theorem dX7_doesTurn_45 : decode cX7_doesTurn 45 = .ok (.aload_n 0, 1) := by decide +kernel
theorem dX7_doesTurn_46 : decode cX7_doesTurn 46 = .ok (.getfield 7, 3) := by decide +kernel
theorem dX7_doesTurn_49 : decode cX7_doesTurn 49 = .ok (.bipush 40, 2) := by decide +kernel
theorem dX7_doesTurn_51 : decode cX7_doesTurn 51 = .ok (.bipush 6, 2) := by decide +kernel
theorem dX7_doesTurn_53 : decode cX7_doesTurn 53 = .ok (.iload_n 1, 1) := by decide +kernel
theorem dX7_doesTurn_54 : decode cX7_doesTurn 54 = .ok (.imul, 1) := by decide +kernel
theorem dX7_doesTurn_55 : decode cX7_doesTurn 55 = .ok (.iadd, 1) := by decide +kernel
theorem dX7_doesTurn_56 : decode cX7_doesTurn 56 = .ok (.iconst 4, 1) := by decide +kernel
theorem dX7_doesTurn_57 : decode cX7_doesTurn 57 = .ok (.iadd, 1) := by decide +kernel
theorem dX7_doesTurn_58 : decode cX7_doesTurn 58 = .ok (.dup2, 1) := by decide +kernel
theorem dX7_doesTurn_59 : decode cX7_doesTurn 59 = .ok (.iaload, 1) := by decide +kernel
theorem dX7_doesTurn_60 : decode cX7_doesTurn 60 = .ok (.iconst 1, 1) := by decide +kernel
theorem dX7_doesTurn_61 : decode cX7_doesTurn 61 = .ok (.iadd, 1) := by decide +kernel
theorem dX7_doesTurn_62 : decode cX7_doesTurn 62 = .ok (.iastore, 1) := by decide +kernel
theorem dX7_doesTurn_63 : decode cX7_doesTurn 63 = .ok (.aload_n 0, 1) := by decide +kernel
theorem dX7_doesTurn_64 : decode cX7_doesTurn 64 = .ok (.getfield 7, 3) := by decide +kernel
theorem dX7_doesTurn_67 : decode cX7_doesTurn 67 = .ok (.bipush 12, 2) := by decide +kernel
theorem dX7_doesTurn_69 : decode cX7_doesTurn 69 = .ok (.aload_n 0, 1) := by decide +kernel
theorem dX7_doesTurn_70 : decode cX7_doesTurn 70 = .ok (.iload_n 1, 1) := by decide +kernel
theorem dX7_doesTurn_71 : decode cX7_doesTurn 71 = .ok (.iconst 1, 1) := by decide +kernel
theorem dX7_doesTurn_72 : decode cX7_doesTurn 72 = .ok (.invokevirtual 85, 3) := by decide +kernel
theorem dX7_doesTurn_75 : decode cX7_doesTurn 75 = .ok (.iadd, 1) := by decide +kernel
theorem dX7_doesTurn_76 : decode cX7_doesTurn 76 = .ok (.dup2, 1) := by decide +kernel
theorem dX7_doesTurn_77 : decode cX7_doesTurn 77 = .ok (.iaload, 1) := by decide +kernel
theorem dX7_doesTurn_78 : decode cX7_doesTurn 78 = .ok (.iconst 1, 1) := by decide +kernel
theorem dX7_doesTurn_79 : decode cX7_doesTurn 79 = .ok (.iadd, 1) := by decide +kernel
theorem dX7_doesTurn_80 : decode cX7_doesTurn 80 = .ok (.iastore, 1) := by decide +kernel
theorem dX7_doesTurn_81 : decode cX7_doesTurn 81 = .ok (.aload_n 0, 1) := by decide +kernel
theorem dX7_doesTurn_82 : decode cX7_doesTurn 82 = .ok (.getfield 7, 3) := by decide +kernel
theorem dX7_doesTurn_85 : decode cX7_doesTurn 85 = .ok (.bipush 16, 2) := by decide +kernel
theorem dX7_doesTurn_87 : decode cX7_doesTurn 87 = .ok (.iconst 4, 1) := by decide +kernel
theorem dX7_doesTurn_88 : decode cX7_doesTurn 88 = .ok (.iload_n 2, 1) := by decide +kernel
theorem dX7_doesTurn_89 : decode cX7_doesTurn 89 = .ok (.imul, 1) := by decide +kernel
theorem dX7_doesTurn_90 : decode cX7_doesTurn 90 = .ok (.iadd, 1) := by decide +kernel
theorem dX7_doesTurn_91 : decode cX7_doesTurn 91 = .ok (.iconst 2, 1) := by decide +kernel
theorem dX7_doesTurn_92 : decode cX7_doesTurn 92 = .ok (.iadd, 1) := by decide +kernel
theorem dX7_doesTurn_93 : decode cX7_doesTurn 93 = .ok (.dup2, 1) := by decide +kernel
theorem dX7_doesTurn_94 : decode cX7_doesTurn 94 = .ok (.iaload, 1) := by decide +kernel
theorem dX7_doesTurn_95 : decode cX7_doesTurn 95 = .ok (.iconst 1, 1) := by decide +kernel
theorem dX7_doesTurn_96 : decode cX7_doesTurn 96 = .ok (.iadd, 1) := by decide +kernel
theorem dX7_doesTurn_97 : decode cX7_doesTurn 97 = .ok (.iastore, 1) := by decide +kernel
theorem dX7_doesTurn_98 : decode cX7_doesTurn 98 = .ok (.aload_n 0, 1) := by decide +kernel
theorem dX7_doesTurn_99 : decode cX7_doesTurn 99 = .ok (.getfield 7, 3) := by decide +kernel
theorem dX7_doesTurn_102 : decode cX7_doesTurn 102 = .ok (.iconst 2, 1) := by decide +kernel
theorem dX7_doesTurn_103 : decode cX7_doesTurn 103 = .ok (.dup2, 1) := by decide +kernel
theorem dX7_doesTurn_104 : decode cX7_doesTurn 104 = .ok (.iaload, 1) := by decide +kernel
theorem dX7_doesTurn_105 : decode cX7_doesTurn 105 = .ok (.iconst 1, 1) := by decide +kernel
theorem dX7_doesTurn_106 : decode cX7_doesTurn 106 = .ok (.iadd, 1) := by decide +kernel
theorem dX7_doesTurn_107 : decode cX7_doesTurn 107 = .ok (.iastore, 1) := by decide +kernel
theorem dX7_doesTurn_108 : decode cX7_doesTurn 108 = .ok (.aload_n 0, 1) := by decide +kernel
theorem dX7_doesTurn_109 : decode cX7_doesTurn 109 = .ok (.aload_n 0, 1) := by decide +kernel
theorem dX7_doesTurn_110 : decode cX7_doesTurn 110 = .ok (.iload_n 1, 1) := by decide +kernel
theorem dX7_doesTurn_111 : decode cX7_doesTurn 111 = .ok (.iconst 4, 1) := by decide +kernel
theorem dX7_doesTurn_112 : decode cX7_doesTurn 112 = .ok (.invokevirtual 85, 3) := by decide +kernel
theorem dX7_doesTurn_115 : decode cX7_doesTurn 115 = .ok (.invokevirtual 107, 3) := by decide +kernel
theorem dX7_doesTurn_118 : decode cX7_doesTurn 118 = .ok (.ifCond .eq 10, 3) := by decide +kernel
theorem dX7_doesTurn_121 : decode cX7_doesTurn 121 = .ok (.iload_n 3, 1) := by decide +kernel
theorem dX7_doesTurn_122 : decode cX7_doesTurn 122 = .ok (.invokestatic 110, 3) := by decide +kernel
theorem dX7_doesTurn_125 : decode cX7_doesTurn 125 = .ok (.goto 4, 3) := by decide +kernel
theorem dX7_doesTurn_128 : decode cX7_doesTurn 128 = .ok (.iload_n 3, 1) := by decide +kernel
theorem dX7_doesTurn_129 : decode cX7_doesTurn 129 = .ok (.istore 4, 2) := by decide +kernel
theorem dX7_doesTurn_131 : decode cX7_doesTurn 131 = .ok (.iload 4, 2) := by decide +kernel
theorem dX7_doesTurn_133 : decode cX7_doesTurn 133 = .ok (.iload_n 3, 1) := by decide +kernel
theorem dX7_doesTurn_134 : decode cX7_doesTurn 134 = .ok (.if_icmp .eq 47, 3) := by decide +kernel
theorem dX7_doesTurn_137 : decode cX7_doesTurn 137 = .ok (.aload_n 0, 1) := by decide +kernel
theorem dX7_doesTurn_138 : decode cX7_doesTurn 138 = .ok (.getfield 7, 3) := by decide +kernel
theorem dX7_doesTurn_141 : decode cX7_doesTurn 141 = .ok (.bipush 40, 2) := by decide +kernel
theorem dX7_doesTurn_143 : decode cX7_doesTurn 143 = .ok (.bipush 6, 2) := by decide +kernel
theorem dX7_doesTurn_145 : decode cX7_doesTurn 145 = .ok (.iload_n 1, 1) := by decide +kernel
theorem dX7_doesTurn_146 : decode cX7_doesTurn 146 = .ok (.imul, 1) := by decide +kernel
theorem dX7_doesTurn_147 : decode cX7_doesTurn 147 = .ok (.iadd, 1) := by decide +kernel
theorem dX7_doesTurn_148 : decode cX7_doesTurn 148 = .ok (.iconst 0, 1) := by decide +kernel
theorem dX7_doesTurn_149 : decode cX7_doesTurn 149 = .ok (.iadd, 1) := by decide +kernel
theorem dX7_doesTurn_150 : decode cX7_doesTurn 150 = .ok (.iload 4, 2) := by decide +kernel
theorem dX7_doesTurn_152 : decode cX7_doesTurn 152 = .ok (.iastore, 1) := by decide +kernel
theorem dX7_doesTurn_153 : decode cX7_doesTurn 153 = .ok (.aload_n 0, 1) := by decide +kernel
theorem dX7_doesTurn_154 : decode cX7_doesTurn 154 = .ok (.getfield 7, 3) := by decide +kernel
theorem dX7_doesTurn_157 : decode cX7_doesTurn 157 = .ok (.bipush 40, 2) := by decide +kernel
theorem dX7_doesTurn_159 : decode cX7_doesTurn 159 = .ok (.bipush 6, 2) := by decide +kernel
theorem dX7_doesTurn_161 : decode cX7_doesTurn 161 = .ok (.iload_n 1, 1) := by decide +kernel
theorem dX7_doesTurn_162 : decode cX7_doesTurn 162 = .ok (.imul, 1) := by decide +kernel
theorem dX7_doesTurn_163 : decode cX7_doesTurn 163 = .ok (.iadd, 1) := by decide +kernel
theorem dX7_doesTurn_164 : decode cX7_doesTurn 164 = .ok (.iconst 5, 1) := by decide +kernel
theorem dX7_doesTurn_165 : decode cX7_doesTurn 165 = .ok (.iadd, 1) := by decide +kernel
theorem dX7_doesTurn_166 : decode cX7_doesTurn 166 = .ok (.dup2, 1) := by decide +kernel
theorem dX7_doesTurn_167 : decode cX7_doesTurn 167 = .ok (.iaload, 1) := by decide +kernel
theorem dX7_doesTurn_168 : decode cX7_doesTurn 168 = .ok (.iconst 1, 1) := by decide +kernel
theorem dX7_doesTurn_169 : decode cX7_doesTurn 169 = .ok (.iadd, 1) := by decide +kernel
theorem dX7_doesTurn_170 : decode cX7_doesTurn 170 = .ok (.iastore, 1) := by decide +kernel
theorem dX7_doesTurn_171 : decode cX7_doesTurn 171 = .ok (.aload_n 0, 1) := by decide +kernel
theorem dX7_doesTurn_172 : decode cX7_doesTurn 172 = .ok (.getfield 7, 3) := by decide +kernel
theorem dX7_doesTurn_175 : decode cX7_doesTurn 175 = .ok (.iconst 4, 1) := by decide +kernel
theorem dX7_doesTurn_176 : decode cX7_doesTurn 176 = .ok (.dup2, 1) := by decide +kernel
theorem dX7_doesTurn_177 : decode cX7_doesTurn 177 = .ok (.iaload, 1) := by decide +kernel
theorem dX7_doesTurn_178 : decode cX7_doesTurn 178 = .ok (.iconst 1, 1) := by decide +kernel
theorem dX7_doesTurn_179 : decode cX7_doesTurn 179 = .ok (.iadd, 1) := by decide +kernel
theorem dX7_doesTurn_180 : decode cX7_doesTurn 180 = .ok (.iastore, 1) := by decide +kernel
theorem dX7_doesTurn_181 : decode cX7_doesTurn 181 = .ok (.iconst 1, 1) := by decide +kernel
theorem dX7_doesTurn_182 : decode cX7_doesTurn 182 = .ok (.ireturn, 1) := by decide +kernel
theorem dX7_setsLost_0 : decode cX7_setsLost 0 = .ok (.aload_n 0, 1) := by decide +kernel
theorem dX7_setsLost_1 : decode cX7_setsLost 1 = .ok (.getfield 7, 3) := by decide +kernel
theorem dX7_setsLost_4 : decode cX7_setsLost 4 = .ok (.bipush 40, 2) := by decide +kernel
theorem dX7_setsLost_6 : decode cX7_setsLost 6 = .ok (.bipush 6, 2) := by decide +kernel
theorem dX7_setsLost_8 : decode cX7_setsLost 8 = .ok (.iload_n 1, 1) := by decide +kernel
theorem dX7_setsLost_9 : decode cX7_setsLost 9 = .ok (.imul, 1) := by decide +kernel
theorem dX7_setsLost_10 : decode cX7_setsLost 10 = .ok (.iadd, 1) := by decide +kernel
theorem dX7_setsLost_11 : decode cX7_setsLost 11 = .ok (.iconst 2, 1) := by decide +kernel
theorem dX7_setsLost_12 : decode cX7_setsLost 12 = .ok (.iadd, 1) := by decide +kernel
theorem dX7_setsLost_13 : decode cX7_setsLost 13 = .ok (.iload_n 2, 1) := by decide +kernel
theorem dX7_setsLost_14 : decode cX7_setsLost 14 = .ok (.iastore, 1) := by decide +kernel
theorem dX7_setsLost_15 : decode cX7_setsLost 15 = .ok (.aload_n 0, 1) := by decide +kernel
theorem dX7_setsLost_16 : decode cX7_setsLost 16 = .ok (.aload_n 0, 1) := by decide +kernel
theorem dX7_setsLost_17 : decode cX7_setsLost 17 = .ok (.iload_n 1, 1) := by decide +kernel
theorem dX7_setsLost_18 : decode cX7_setsLost 18 = .ok (.iconst 0, 1) := by decide +kernel
theorem dX7_setsLost_19 : decode cX7_setsLost 19 = .ok (.invokevirtual 85, 3) := by decide +kernel
theorem dX7_setsLost_22 : decode cX7_setsLost 22 = .ok (.invokevirtual 113, 3) := by decide +kernel
theorem dX7_setsLost_25 : decode cX7_setsLost 25 = .ok (.invokestatic 116, 3) := by decide +kernel
theorem dX7_setsLost_28 : decode cX7_setsLost 28 = .ok (.ireturn, 1) := by decide +kernel
theorem dX7_cut_0 : decode cX7_cut 0 = .ok (.aload_n 0, 1) := by decide +kernel
theorem dX7_cut_1 : decode cX7_cut 1 = .ok (.iconst 0, 1) := by decide +kernel
theorem dX7_cut_2 : decode cX7_cut 2 = .ok (.putfield 53, 3) := by decide +kernel
theorem dX7_cut_5 : decode cX7_cut 5 = .ok (.iload_n 1, 1) := by decide +kernel
theorem dX7_cut_6 : decode cX7_cut 6 = .ok (.invokestatic 119, 3) := by decide +kernel
theorem dX7_cut_9 : decode cX7_cut 9 = .ok (.ifCond .eq 10, 3) := by decide +kernel
theorem dX7_cut_12 : decode cX7_cut 12 = .ok (.iload_n 2, 1) := by decide +kernel
theorem dX7_cut_13 : decode cX7_cut 13 = .ok (.invokestatic 122, 3) := by decide +kernel
theorem dX7_cut_16 : decode cX7_cut 16 = .ok (.ifCond .ne 9, 3) := by decide +kernel
theorem dX7_cut_19 : decode cX7_cut 19 = .ok (.aload_n 0, 1) := by decide +kernel
theorem dX7_cut_20 : decode cX7_cut 20 = .ok (.iconst 1, 1) := by decide +kernel
theorem dX7_cut_21 : decode cX7_cut 21 = .ok (.invokevirtual 68, 3) := by decide +kernel
theorem dX7_cut_24 : decode cX7_cut 24 = .ok (.ireturn, 1) := by decide +kernel
theorem dX7_cut_25 : decode cX7_cut 25 = .ok (.aload_n 0, 1) := by decide +kernel
theorem dX7_cut_26 : decode cX7_cut 26 = .ok (.iload_n 1, 1) := by decide +kernel
theorem dX7_cut_27 : decode cX7_cut 27 = .ok (.invokevirtual 125, 3) := by decide +kernel
theorem dX7_cut_30 : decode cX7_cut 30 = .ok (.ifCond .eq 9, 3) := by decide +kernel
theorem dX7_cut_33 : decode cX7_cut 33 = .ok (.aload_n 0, 1) := by decide +kernel
theorem dX7_cut_34 : decode cX7_cut 34 = .ok (.iconst 2, 1) := by decide +kernel
theorem dX7_cut_35 : decode cX7_cut 35 = .ok (.invokevirtual 68, 3) := by decide +kernel
theorem dX7_cut_38 : decode cX7_cut 38 = .ok (.ireturn, 1) := by decide +kernel
theorem dX7_cut_39 : decode cX7_cut 39 = .ok (.aload_n 0, 1) := by decide +kernel
theorem dX7_cut_40 : decode cX7_cut 40 = .ok (.invokevirtual 76, 3) := by decide +kernel
theorem dX7_cut_43 : decode cX7_cut 43 = .ok (.aload_n 0, 1) := by decide +kernel
theorem dX7_cut_44 : decode cX7_cut 44 = .ok (.iload_n 1, 1) := by decide +kernel
theorem dX7_cut_45 : decode cX7_cut 45 = .ok (.iload_n 2, 1) := by decide +kernel
theorem dX7_cut_46 : decode cX7_cut 46 = .ok (.invokevirtual 128, 3) := by decide +kernel
theorem dX7_cut_49 : decode cX7_cut 49 = .ok (.ireturn, 1) := by decide +kernel
theorem dX7_deepen_0 : decode cX7_deepen 0 = .ok (.aload_n 0, 1) := by decide +kernel
theorem dX7_deepen_1 : decode cX7_deepen 1 = .ok (.iconst 0, 1) := by decide +kernel
theorem dX7_deepen_2 : decode cX7_deepen 2 = .ok (.putfield 53, 3) := by decide +kernel
theorem dX7_deepen_5 : decode cX7_deepen 5 = .ok (.aload_n 0, 1) := by decide +kernel
theorem dX7_deepen_6 : decode cX7_deepen 6 = .ok (.iload_n 1, 1) := by decide +kernel
theorem dX7_deepen_7 : decode cX7_deepen 7 = .ok (.invokevirtual 131, 3) := by decide +kernel
theorem dX7_deepen_10 : decode cX7_deepen 10 = .ok (.ifCond .eq 10, 3) := by decide +kernel
theorem dX7_deepen_13 : decode cX7_deepen 13 = .ok (.iload_n 2, 1) := by decide +kernel
theorem dX7_deepen_14 : decode cX7_deepen 14 = .ok (.invokestatic 134, 3) := by decide +kernel
theorem dX7_deepen_17 : decode cX7_deepen 17 = .ok (.ifCond .ne 9, 3) := by decide +kernel
theorem dX7_deepen_20 : decode cX7_deepen 20 = .ok (.aload_n 0, 1) := by decide +kernel
theorem dX7_deepen_21 : decode cX7_deepen 21 = .ok (.iconst 1, 1) := by decide +kernel
theorem dX7_deepen_22 : decode cX7_deepen 22 = .ok (.invokevirtual 68, 3) := by decide +kernel
theorem dX7_deepen_25 : decode cX7_deepen 25 = .ok (.ireturn, 1) := by decide +kernel
theorem dX7_deepen_26 : decode cX7_deepen 26 = .ok (.aload_n 0, 1) := by decide +kernel
theorem dX7_deepen_27 : decode cX7_deepen 27 = .ok (.iload_n 1, 1) := by decide +kernel
theorem dX7_deepen_28 : decode cX7_deepen 28 = .ok (.iload_n 2, 1) := by decide +kernel
theorem dX7_deepen_29 : decode cX7_deepen 29 = .ok (.invokevirtual 137, 3) := by decide +kernel
theorem dX7_deepen_32 : decode cX7_deepen 32 = .ok (.ifCond .eq 9, 3) := by decide +kernel
theorem dX7_deepen_35 : decode cX7_deepen 35 = .ok (.aload_n 0, 1) := by decide +kernel
theorem dX7_deepen_36 : decode cX7_deepen 36 = .ok (.iconst 2, 1) := by decide +kernel
theorem dX7_deepen_37 : decode cX7_deepen 37 = .ok (.invokevirtual 68, 3) := by decide +kernel
theorem dX7_deepen_40 : decode cX7_deepen 40 = .ok (.ireturn, 1) := by decide +kernel
theorem dX7_deepen_41 : decode cX7_deepen 41 = .ok (.aload_n 0, 1) := by decide +kernel
theorem dX7_deepen_42 : decode cX7_deepen 42 = .ok (.invokevirtual 76, 3) := by decide +kernel
theorem dX7_deepen_45 : decode cX7_deepen 45 = .ok (.aload_n 0, 1) := by decide +kernel
theorem dX7_deepen_46 : decode cX7_deepen 46 = .ok (.iload_n 1, 1) := by decide +kernel
theorem dX7_deepen_47 : decode cX7_deepen 47 = .ok (.iload_n 2, 1) := by decide +kernel
theorem dX7_deepen_48 : decode cX7_deepen 48 = .ok (.invokevirtual 140, 3) := by decide +kernel
theorem dX7_deepen_51 : decode cX7_deepen 51 = .ok (.ireturn, 1) := by decide +kernel
theorem dX7_retire_0 : decode cX7_retire 0 = .ok (.aload_n 0, 1) := by decide +kernel
theorem dX7_retire_1 : decode cX7_retire 1 = .ok (.iconst 0, 1) := by decide +kernel
theorem dX7_retire_2 : decode cX7_retire 2 = .ok (.putfield 53, 3) := by decide +kernel
theorem dX7_retire_5 : decode cX7_retire 5 = .ok (.aload_n 0, 1) := by decide +kernel
theorem dX7_retire_6 : decode cX7_retire 6 = .ok (.iload_n 1, 1) := by decide +kernel
theorem dX7_retire_7 : decode cX7_retire 7 = .ok (.invokevirtual 131, 3) := by decide +kernel
theorem dX7_retire_10 : decode cX7_retire 10 = .ok (.ifCond .ne 9, 3) := by decide +kernel
theorem dX7_retire_13 : decode cX7_retire 13 = .ok (.aload_n 0, 1) := by decide +kernel
theorem dX7_retire_14 : decode cX7_retire 14 = .ok (.iconst 1, 1) := by decide +kernel
theorem dX7_retire_15 : decode cX7_retire 15 = .ok (.invokevirtual 68, 3) := by decide +kernel
theorem dX7_retire_18 : decode cX7_retire 18 = .ok (.ireturn, 1) := by decide +kernel
theorem dX7_retire_19 : decode cX7_retire 19 = .ok (.aload_n 0, 1) := by decide +kernel
theorem dX7_retire_20 : decode cX7_retire 20 = .ok (.invokevirtual 76, 3) := by decide +kernel
theorem dX7_retire_23 : decode cX7_retire 23 = .ok (.aload_n 0, 1) := by decide +kernel
theorem dX7_retire_24 : decode cX7_retire 24 = .ok (.getfield 7, 3) := by decide +kernel
theorem dX7_retire_27 : decode cX7_retire 27 = .ok (.iconst 0, 1) := by decide +kernel
theorem dX7_retire_28 : decode cX7_retire 28 = .ok (.dup2, 1) := by decide +kernel
theorem dX7_retire_29 : decode cX7_retire 29 = .ok (.iaload, 1) := by decide +kernel
theorem dX7_retire_30 : decode cX7_retire 30 = .ok (.iconst 1, 1) := by decide +kernel
theorem dX7_retire_31 : decode cX7_retire 31 = .ok (.isub, 1) := by decide +kernel
theorem dX7_retire_32 : decode cX7_retire 32 = .ok (.iastore, 1) := by decide +kernel
theorem dX7_retire_33 : decode cX7_retire 33 = .ok (.bipush 40, 2) := by decide +kernel
theorem dX7_retire_35 : decode cX7_retire 35 = .ok (.bipush 6, 2) := by decide +kernel
theorem dX7_retire_37 : decode cX7_retire 37 = .ok (.iload_n 1, 1) := by decide +kernel
theorem dX7_retire_38 : decode cX7_retire 38 = .ok (.imul, 1) := by decide +kernel
theorem dX7_retire_39 : decode cX7_retire 39 = .ok (.iadd, 1) := by decide +kernel
theorem dX7_retire_40 : decode cX7_retire 40 = .ok (.istore_n 2, 1) := by decide +kernel
theorem dX7_retire_41 : decode cX7_retire 41 = .ok (.iload_n 2, 1) := by decide +kernel
theorem dX7_retire_42 : decode cX7_retire 42 = .ok (.bipush 40, 2) := by decide +kernel
theorem dX7_retire_44 : decode cX7_retire 44 = .ok (.bipush 6, 2) := by decide +kernel
theorem dX7_retire_46 : decode cX7_retire 46 = .ok (.aload_n 0, 1) := by decide +kernel
theorem dX7_retire_47 : decode cX7_retire 47 = .ok (.getfield 7, 3) := by decide +kernel
theorem dX7_retire_50 : decode cX7_retire 50 = .ok (.iconst 0, 1) := by decide +kernel
theorem dX7_retire_51 : decode cX7_retire 51 = .ok (.iaload, 1) := by decide +kernel
theorem dX7_retire_52 : decode cX7_retire 52 = .ok (.imul, 1) := by decide +kernel
theorem dX7_retire_53 : decode cX7_retire 53 = .ok (.iadd, 1) := by decide +kernel
theorem dX7_retire_54 : decode cX7_retire 54 = .ok (.if_icmp .ge 24, 3) := by decide +kernel
theorem dX7_retire_57 : decode cX7_retire 57 = .ok (.aload_n 0, 1) := by decide +kernel
theorem dX7_retire_58 : decode cX7_retire 58 = .ok (.getfield 7, 3) := by decide +kernel
theorem dX7_retire_61 : decode cX7_retire 61 = .ok (.iload_n 2, 1) := by decide +kernel
theorem dX7_retire_62 : decode cX7_retire 62 = .ok (.aload_n 0, 1) := by decide +kernel
theorem dX7_retire_63 : decode cX7_retire 63 = .ok (.getfield 7, 3) := by decide +kernel
theorem dX7_retire_66 : decode cX7_retire 66 = .ok (.iload_n 2, 1) := by decide +kernel
theorem dX7_retire_67 : decode cX7_retire 67 = .ok (.bipush 6, 2) := by decide +kernel
theorem dX7_retire_69 : decode cX7_retire 69 = .ok (.iadd, 1) := by decide +kernel
theorem dX7_retire_70 : decode cX7_retire 70 = .ok (.iaload, 1) := by decide +kernel
theorem dX7_retire_71 : decode cX7_retire 71 = .ok (.iastore, 1) := by decide +kernel
theorem dX7_retire_72 : decode cX7_retire 72 = .ok (.iinc 2 1, 3) := by decide +kernel
theorem dX7_retire_75 : decode cX7_retire 75 = .ok (.goto (-34), 3) := by decide +kernel
theorem dX7_retire_78 : decode cX7_retire 78 = .ok (.aload_n 0, 1) := by decide +kernel
theorem dX7_retire_79 : decode cX7_retire 79 = .ok (.getfield 7, 3) := by decide +kernel
theorem dX7_retire_82 : decode cX7_retire 82 = .ok (.iconst 5, 1) := by decide +kernel
theorem dX7_retire_83 : decode cX7_retire 83 = .ok (.dup2, 1) := by decide +kernel
theorem dX7_retire_84 : decode cX7_retire 84 = .ok (.iaload, 1) := by decide +kernel
theorem dX7_retire_85 : decode cX7_retire 85 = .ok (.iconst 1, 1) := by decide +kernel
theorem dX7_retire_86 : decode cX7_retire 86 = .ok (.iadd, 1) := by decide +kernel
theorem dX7_retire_87 : decode cX7_retire 87 = .ok (.iastore, 1) := by decide +kernel
theorem dX7_retire_88 : decode cX7_retire 88 = .ok (.aload_n 0, 1) := by decide +kernel
theorem dX7_retire_89 : decode cX7_retire 89 = .ok (.getfield 7, 3) := by decide +kernel
theorem dX7_retire_92 : decode cX7_retire 92 = .ok (.iconst 0, 1) := by decide +kernel
theorem dX7_retire_93 : decode cX7_retire 93 = .ok (.iaload, 1) := by decide +kernel
theorem dX7_retire_94 : decode cX7_retire 94 = .ok (.ireturn, 1) := by decide +kernel
theorem dX7_give_0 : decode cX7_give 0 = .ok (.aload_n 0, 1) := by decide +kernel
theorem dX7_give_1 : decode cX7_give 1 = .ok (.iconst 0, 1) := by decide +kernel
theorem dX7_give_2 : decode cX7_give 2 = .ok (.putfield 53, 3) := by decide +kernel
theorem dX7_give_5 : decode cX7_give 5 = .ok (.aload_n 0, 1) := by decide +kernel
theorem dX7_give_6 : decode cX7_give 6 = .ok (.iload_n 1, 1) := by decide +kernel
theorem dX7_give_7 : decode cX7_give 7 = .ok (.invokevirtual 131, 3) := by decide +kernel
theorem dX7_give_10 : decode cX7_give 10 = .ok (.ifCond .ne 9, 3) := by decide +kernel
theorem dX7_give_13 : decode cX7_give 13 = .ok (.aload_n 0, 1) := by decide +kernel
theorem dX7_give_14 : decode cX7_give 14 = .ok (.iconst 1, 1) := by decide +kernel
theorem dX7_give_15 : decode cX7_give 15 = .ok (.invokevirtual 68, 3) := by decide +kernel
theorem dX7_give_18 : decode cX7_give 18 = .ok (.ireturn, 1) := by decide +kernel
theorem dX7_give_19 : decode cX7_give 19 = .ok (.iload_n 2, 1) := by decide +kernel
theorem dX7_give_20 : decode cX7_give 20 = .ok (.invokestatic 122, 3) := by decide +kernel
theorem dX7_give_23 : decode cX7_give 23 = .ok (.ifCond .ne 9, 3) := by decide +kernel
theorem dX7_give_26 : decode cX7_give 26 = .ok (.aload_n 0, 1) := by decide +kernel
theorem dX7_give_27 : decode cX7_give 27 = .ok (.iconst 2, 1) := by decide +kernel
theorem dX7_give_28 : decode cX7_give 28 = .ok (.invokevirtual 68, 3) := by decide +kernel
theorem dX7_give_31 : decode cX7_give 31 = .ok (.ireturn, 1) := by decide +kernel
theorem dX7_give_32 : decode cX7_give 32 = .ok (.aload_n 0, 1) := by decide +kernel
theorem dX7_give_33 : decode cX7_give 33 = .ok (.invokevirtual 76, 3) := by decide +kernel
theorem dX7_give_36 : decode cX7_give 36 = .ok (.aload_n 0, 1) := by decide +kernel
theorem dX7_give_37 : decode cX7_give 37 = .ok (.iload_n 1, 1) := by decide +kernel
theorem dX7_give_38 : decode cX7_give 38 = .ok (.iconst 1, 1) := by decide +kernel
theorem dX7_give_39 : decode cX7_give 39 = .ok (.invokevirtual 85, 3) := by decide +kernel
theorem dX7_give_42 : decode cX7_give 42 = .ok (.istore_n 3, 1) := by decide +kernel
theorem dX7_give_43 : decode cX7_give 43 = .ok (.aload_n 0, 1) := by decide +kernel
theorem dX7_give_44 : decode cX7_give 44 = .ok (.getfield 7, 3) := by decide +kernel
theorem dX7_give_47 : decode cX7_give 47 = .ok (.bipush 40, 2) := by decide +kernel
theorem dX7_give_49 : decode cX7_give 49 = .ok (.bipush 6, 2) := by decide +kernel
theorem dX7_give_51 : decode cX7_give 51 = .ok (.iload_n 1, 1) := by decide +kernel
theorem dX7_give_52 : decode cX7_give 52 = .ok (.imul, 1) := by decide +kernel
theorem dX7_give_53 : decode cX7_give 53 = .ok (.iadd, 1) := by decide +kernel
theorem dX7_give_54 : decode cX7_give 54 = .ok (.iconst 1, 1) := by decide +kernel
theorem dX7_give_55 : decode cX7_give 55 = .ok (.iadd, 1) := by decide +kernel
theorem dX7_give_56 : decode cX7_give 56 = .ok (.iload_n 2, 1) := by decide +kernel
theorem dX7_give_57 : decode cX7_give 57 = .ok (.iastore, 1) := by decide +kernel
theorem dX7_give_58 : decode cX7_give 58 = .ok (.iload_n 3, 1) := by decide +kernel
theorem dX7_give_59 : decode cX7_give 59 = .ok (.ireturn, 1) := by decide +kernel
theorem dX7_lose_0 : decode cX7_lose 0 = .ok (.aload_n 0, 1) := by decide +kernel
theorem dX7_lose_1 : decode cX7_lose 1 = .ok (.iconst 0, 1) := by decide +kernel
theorem dX7_lose_2 : decode cX7_lose 2 = .ok (.putfield 53, 3) := by decide +kernel
theorem dX7_lose_5 : decode cX7_lose 5 = .ok (.aload_n 0, 1) := by decide +kernel
theorem dX7_lose_6 : decode cX7_lose 6 = .ok (.iload_n 1, 1) := by decide +kernel
theorem dX7_lose_7 : decode cX7_lose 7 = .ok (.invokevirtual 131, 3) := by decide +kernel
theorem dX7_lose_10 : decode cX7_lose 10 = .ok (.ifCond .ne 9, 3) := by decide +kernel
theorem dX7_lose_13 : decode cX7_lose 13 = .ok (.aload_n 0, 1) := by decide +kernel
theorem dX7_lose_14 : decode cX7_lose 14 = .ok (.iconst 1, 1) := by decide +kernel
theorem dX7_lose_15 : decode cX7_lose 15 = .ok (.invokevirtual 68, 3) := by decide +kernel
theorem dX7_lose_18 : decode cX7_lose 18 = .ok (.ireturn, 1) := by decide +kernel
theorem dX7_lose_19 : decode cX7_lose 19 = .ok (.aload_n 0, 1) := by decide +kernel
theorem dX7_lose_20 : decode cX7_lose 20 = .ok (.iload_n 1, 1) := by decide +kernel
theorem dX7_lose_21 : decode cX7_lose 21 = .ok (.iconst 2, 1) := by decide +kernel
theorem dX7_lose_22 : decode cX7_lose 22 = .ok (.invokevirtual 85, 3) := by decide +kernel
theorem dX7_lose_25 : decode cX7_lose 25 = .ok (.iconst 1, 1) := by decide +kernel
theorem dX7_lose_26 : decode cX7_lose 26 = .ok (.if_icmp .ne 9, 3) := by decide +kernel
theorem dX7_lose_29 : decode cX7_lose 29 = .ok (.aload_n 0, 1) := by decide +kernel
theorem dX7_lose_30 : decode cX7_lose 30 = .ok (.iconst 2, 1) := by decide +kernel
theorem dX7_lose_31 : decode cX7_lose 31 = .ok (.invokevirtual 68, 3) := by decide +kernel
theorem dX7_lose_34 : decode cX7_lose 34 = .ok (.ireturn, 1) := by decide +kernel
theorem dX7_lose_35 : decode cX7_lose 35 = .ok (.aload_n 0, 1) := by decide +kernel
theorem dX7_lose_36 : decode cX7_lose 36 = .ok (.invokevirtual 76, 3) := by decide +kernel
theorem dX7_lose_39 : decode cX7_lose 39 = .ok (.aload_n 0, 1) := by decide +kernel
theorem dX7_lose_40 : decode cX7_lose 40 = .ok (.iload_n 1, 1) := by decide +kernel
theorem dX7_lose_41 : decode cX7_lose 41 = .ok (.iconst 1, 1) := by decide +kernel
theorem dX7_lose_42 : decode cX7_lose 42 = .ok (.invokevirtual 143, 3) := by decide +kernel
theorem dX7_lose_45 : decode cX7_lose 45 = .ok (.ireturn, 1) := by decide +kernel
theorem dX7_find_0 : decode cX7_find 0 = .ok (.aload_n 0, 1) := by decide +kernel
theorem dX7_find_1 : decode cX7_find 1 = .ok (.iconst 0, 1) := by decide +kernel
theorem dX7_find_2 : decode cX7_find 2 = .ok (.putfield 53, 3) := by decide +kernel
theorem dX7_find_5 : decode cX7_find 5 = .ok (.aload_n 0, 1) := by decide +kernel
theorem dX7_find_6 : decode cX7_find 6 = .ok (.iload_n 1, 1) := by decide +kernel
theorem dX7_find_7 : decode cX7_find 7 = .ok (.invokevirtual 131, 3) := by decide +kernel
theorem dX7_find_10 : decode cX7_find 10 = .ok (.ifCond .ne 9, 3) := by decide +kernel
theorem dX7_find_13 : decode cX7_find 13 = .ok (.aload_n 0, 1) := by decide +kernel
theorem dX7_find_14 : decode cX7_find 14 = .ok (.iconst 1, 1) := by decide +kernel
theorem dX7_find_15 : decode cX7_find 15 = .ok (.invokevirtual 68, 3) := by decide +kernel
theorem dX7_find_18 : decode cX7_find 18 = .ok (.ireturn, 1) := by decide +kernel
theorem dX7_find_19 : decode cX7_find 19 = .ok (.aload_n 0, 1) := by decide +kernel
theorem dX7_find_20 : decode cX7_find 20 = .ok (.iload_n 1, 1) := by decide +kernel
theorem dX7_find_21 : decode cX7_find 21 = .ok (.iconst 2, 1) := by decide +kernel
theorem dX7_find_22 : decode cX7_find 22 = .ok (.invokevirtual 85, 3) := by decide +kernel
theorem dX7_find_25 : decode cX7_find 25 = .ok (.ifCond .ne 9, 3) := by decide +kernel
theorem dX7_find_28 : decode cX7_find 28 = .ok (.aload_n 0, 1) := by decide +kernel
theorem dX7_find_29 : decode cX7_find 29 = .ok (.iconst 2, 1) := by decide +kernel
theorem dX7_find_30 : decode cX7_find 30 = .ok (.invokevirtual 68, 3) := by decide +kernel
theorem dX7_find_33 : decode cX7_find 33 = .ok (.ireturn, 1) := by decide +kernel
theorem dX7_find_34 : decode cX7_find 34 = .ok (.aload_n 0, 1) := by decide +kernel
theorem dX7_find_35 : decode cX7_find 35 = .ok (.invokevirtual 76, 3) := by decide +kernel
theorem dX7_find_38 : decode cX7_find 38 = .ok (.aload_n 0, 1) := by decide +kernel
theorem dX7_find_39 : decode cX7_find 39 = .ok (.iload_n 1, 1) := by decide +kernel
theorem dX7_find_40 : decode cX7_find 40 = .ok (.iconst 0, 1) := by decide +kernel
theorem dX7_find_41 : decode cX7_find 41 = .ok (.invokevirtual 143, 3) := by decide +kernel
theorem dX7_find_44 : decode cX7_find 44 = .ok (.ireturn, 1) := by decide +kernel
theorem dX7_ward_0 : decode cX7_ward 0 = .ok (.aload_n 0, 1) := by decide +kernel
theorem dX7_ward_1 : decode cX7_ward 1 = .ok (.iconst 0, 1) := by decide +kernel
theorem dX7_ward_2 : decode cX7_ward 2 = .ok (.putfield 53, 3) := by decide +kernel
theorem dX7_ward_5 : decode cX7_ward 5 = .ok (.iload_n 1, 1) := by decide +kernel
theorem dX7_ward_6 : decode cX7_ward 6 = .ok (.invokestatic 146, 3) := by decide +kernel
theorem dX7_ward_9 : decode cX7_ward 9 = .ok (.ifCond .ne 9, 3) := by decide +kernel
theorem dX7_ward_12 : decode cX7_ward 12 = .ok (.aload_n 0, 1) := by decide +kernel
theorem dX7_ward_13 : decode cX7_ward 13 = .ok (.iconst 1, 1) := by decide +kernel
theorem dX7_ward_14 : decode cX7_ward 14 = .ok (.invokevirtual 68, 3) := by decide +kernel
theorem dX7_ward_17 : decode cX7_ward 17 = .ok (.ireturn, 1) := by decide +kernel
theorem dX7_ward_18 : decode cX7_ward 18 = .ok (.iload_n 2, 1) := by decide +kernel
theorem dX7_ward_19 : decode cX7_ward 19 = .ok (.invokestatic 119, 3) := by decide +kernel
theorem dX7_ward_22 : decode cX7_ward 22 = .ok (.ifCond .ne 9, 3) := by decide +kernel
theorem dX7_ward_25 : decode cX7_ward 25 = .ok (.aload_n 0, 1) := by decide +kernel
theorem dX7_ward_26 : decode cX7_ward 26 = .ok (.iconst 2, 1) := by decide +kernel
theorem dX7_ward_27 : decode cX7_ward 27 = .ok (.invokevirtual 68, 3) := by decide +kernel
theorem dX7_ward_30 : decode cX7_ward 30 = .ok (.ireturn, 1) := by decide +kernel
theorem dX7_ward_31 : decode cX7_ward 31 = .ok (.aload_n 0, 1) := by decide +kernel
theorem dX7_ward_32 : decode cX7_ward 32 = .ok (.invokevirtual 76, 3) := by decide +kernel
theorem dX7_ward_35 : decode cX7_ward 35 = .ok (.aload_n 0, 1) := by decide +kernel
theorem dX7_ward_36 : decode cX7_ward 36 = .ok (.iload_n 1, 1) := by decide +kernel
theorem dX7_ward_37 : decode cX7_ward 37 = .ok (.iconst 0, 1) := by decide +kernel
theorem dX7_ward_38 : decode cX7_ward 38 = .ok (.invokevirtual 61, 3) := by decide +kernel
theorem dX7_ward_41 : decode cX7_ward 41 = .ok (.istore_n 3, 1) := by decide +kernel
theorem dX7_ward_42 : decode cX7_ward 42 = .ok (.aload_n 0, 1) := by decide +kernel
theorem dX7_ward_43 : decode cX7_ward 43 = .ok (.getfield 7, 3) := by decide +kernel
theorem dX7_ward_46 : decode cX7_ward 46 = .ok (.bipush 16, 2) := by decide +kernel
theorem dX7_ward_48 : decode cX7_ward 48 = .ok (.iconst 4, 1) := by decide +kernel
theorem dX7_ward_49 : decode cX7_ward 49 = .ok (.iload_n 1, 1) := by decide +kernel
theorem dX7_ward_50 : decode cX7_ward 50 = .ok (.imul, 1) := by decide +kernel
theorem dX7_ward_51 : decode cX7_ward 51 = .ok (.iadd, 1) := by decide +kernel
theorem dX7_ward_52 : decode cX7_ward 52 = .ok (.iconst 0, 1) := by decide +kernel
theorem dX7_ward_53 : decode cX7_ward 53 = .ok (.iadd, 1) := by decide +kernel
theorem dX7_ward_54 : decode cX7_ward 54 = .ok (.iload_n 2, 1) := by decide +kernel
theorem dX7_ward_55 : decode cX7_ward 55 = .ok (.iastore, 1) := by decide +kernel
theorem dX7_ward_56 : decode cX7_ward 56 = .ok (.iload_n 3, 1) := by decide +kernel
theorem dX7_ward_57 : decode cX7_ward 57 = .ok (.ireturn, 1) := by decide +kernel
theorem dX7_guest_0 : decode cX7_guest 0 = .ok (.aload_n 0, 1) := by decide +kernel
theorem dX7_guest_1 : decode cX7_guest 1 = .ok (.iconst 0, 1) := by decide +kernel
theorem dX7_guest_2 : decode cX7_guest 2 = .ok (.putfield 53, 3) := by decide +kernel
theorem dX7_guest_5 : decode cX7_guest 5 = .ok (.iload_n 1, 1) := by decide +kernel
theorem dX7_guest_6 : decode cX7_guest 6 = .ok (.invokestatic 146, 3) := by decide +kernel
theorem dX7_guest_9 : decode cX7_guest 9 = .ok (.ifCond .ne 9, 3) := by decide +kernel
theorem dX7_guest_12 : decode cX7_guest 12 = .ok (.aload_n 0, 1) := by decide +kernel
theorem dX7_guest_13 : decode cX7_guest 13 = .ok (.iconst 1, 1) := by decide +kernel
theorem dX7_guest_14 : decode cX7_guest 14 = .ok (.invokevirtual 68, 3) := by decide +kernel
theorem dX7_guest_17 : decode cX7_guest 17 = .ok (.ireturn, 1) := by decide +kernel
theorem dX7_guest_18 : decode cX7_guest 18 = .ok (.iload_n 2, 1) := by decide +kernel
theorem dX7_guest_19 : decode cX7_guest 19 = .ok (.iconst (-1), 1) := by decide +kernel
theorem dX7_guest_20 : decode cX7_guest 20 = .ok (.if_icmp .eq 16, 3) := by decide +kernel
theorem dX7_guest_23 : decode cX7_guest 23 = .ok (.iload_n 2, 1) := by decide +kernel
theorem dX7_guest_24 : decode cX7_guest 24 = .ok (.invokestatic 119, 3) := by decide +kernel
theorem dX7_guest_27 : decode cX7_guest 27 = .ok (.ifCond .ne 9, 3) := by decide +kernel
theorem dX7_guest_30 : decode cX7_guest 30 = .ok (.aload_n 0, 1) := by decide +kernel
theorem dX7_guest_31 : decode cX7_guest 31 = .ok (.iconst 2, 1) := by decide +kernel
theorem dX7_guest_32 : decode cX7_guest 32 = .ok (.invokevirtual 68, 3) := by decide +kernel
theorem dX7_guest_35 : decode cX7_guest 35 = .ok (.ireturn, 1) := by decide +kernel
theorem dX7_guest_36 : decode cX7_guest 36 = .ok (.aload_n 0, 1) := by decide +kernel
theorem dX7_guest_37 : decode cX7_guest 37 = .ok (.iload_n 1, 1) := by decide +kernel
theorem dX7_guest_38 : decode cX7_guest 38 = .ok (.invokevirtual 95, 3) := by decide +kernel
theorem dX7_guest_41 : decode cX7_guest 41 = .ok (.ifCond .ne 9, 3) := by decide +kernel
theorem dX7_guest_44 : decode cX7_guest 44 = .ok (.aload_n 0, 1) := by decide +kernel
theorem dX7_guest_45 : decode cX7_guest 45 = .ok (.iconst 3, 1) := by decide +kernel
theorem dX7_guest_46 : decode cX7_guest 46 = .ok (.invokevirtual 68, 3) := by decide +kernel
theorem dX7_guest_49 : decode cX7_guest 49 = .ok (.ireturn, 1) := by decide +kernel
theorem dX7_guest_50 : decode cX7_guest 50 = .ok (.aload_n 0, 1) := by decide +kernel
theorem dX7_guest_51 : decode cX7_guest 51 = .ok (.invokevirtual 76, 3) := by decide +kernel
theorem dX7_guest_54 : decode cX7_guest 54 = .ok (.aload_n 0, 1) := by decide +kernel
theorem dX7_guest_55 : decode cX7_guest 55 = .ok (.iload_n 1, 1) := by decide +kernel
theorem dX7_guest_56 : decode cX7_guest 56 = .ok (.iconst 1, 1) := by decide +kernel
theorem dX7_guest_57 : decode cX7_guest 57 = .ok (.invokevirtual 61, 3) := by decide +kernel
theorem dX7_guest_60 : decode cX7_guest 60 = .ok (.istore_n 3, 1) := by decide +kernel
theorem dX7_guest_61 : decode cX7_guest 61 = .ok (.aload_n 0, 1) := by decide +kernel
theorem dX7_guest_62 : decode cX7_guest 62 = .ok (.getfield 7, 3) := by decide +kernel
theorem dX7_guest_65 : decode cX7_guest 65 = .ok (.bipush 16, 2) := by decide +kernel
theorem dX7_guest_67 : decode cX7_guest 67 = .ok (.iconst 4, 1) := by decide +kernel
theorem dX7_guest_68 : decode cX7_guest 68 = .ok (.iload_n 1, 1) := by decide +kernel
theorem dX7_guest_69 : decode cX7_guest 69 = .ok (.imul, 1) := by decide +kernel
theorem dX7_guest_70 : decode cX7_guest 70 = .ok (.iadd, 1) := by decide +kernel
theorem dX7_guest_71 : decode cX7_guest 71 = .ok (.iconst 1, 1) := by decide +kernel
theorem dX7_guest_72 : decode cX7_guest 72 = .ok (.iadd, 1) := by decide +kernel
theorem dX7_guest_73 : decode cX7_guest 73 = .ok (.iload_n 2, 1) := by decide +kernel
theorem dX7_guest_74 : decode cX7_guest 74 = .ok (.iastore, 1) := by decide +kernel
theorem dX7_guest_75 : decode cX7_guest 75 = .ok (.iload_n 3, 1) := by decide +kernel
theorem dX7_guest_76 : decode cX7_guest 76 = .ok (.ireturn, 1) := by decide +kernel
theorem dX7_take_0 : decode cX7_take 0 = .ok (.aload_n 0, 1) := by decide +kernel
theorem dX7_take_1 : decode cX7_take 1 = .ok (.iconst 0, 1) := by decide +kernel
theorem dX7_take_2 : decode cX7_take 2 = .ok (.putfield 53, 3) := by decide +kernel
theorem dX7_take_5 : decode cX7_take 5 = .ok (.iload_n 1, 1) := by decide +kernel
theorem dX7_take_6 : decode cX7_take 6 = .ok (.invokestatic 146, 3) := by decide +kernel
theorem dX7_take_9 : decode cX7_take 9 = .ok (.ifCond .ne 9, 3) := by decide +kernel
theorem dX7_take_12 : decode cX7_take 12 = .ok (.aload_n 0, 1) := by decide +kernel
theorem dX7_take_13 : decode cX7_take 13 = .ok (.iconst 1, 1) := by decide +kernel
theorem dX7_take_14 : decode cX7_take 14 = .ok (.invokevirtual 68, 3) := by decide +kernel
theorem dX7_take_17 : decode cX7_take 17 = .ok (.ireturn, 1) := by decide +kernel
theorem dX7_take_18 : decode cX7_take 18 = .ok (.aload_n 0, 1) := by decide +kernel
theorem dX7_take_19 : decode cX7_take 19 = .ok (.iload_n 1, 1) := by decide +kernel
theorem dX7_take_20 : decode cX7_take 20 = .ok (.invokevirtual 95, 3) := by decide +kernel
theorem dX7_take_23 : decode cX7_take 23 = .ok (.ifCond .ne 9, 3) := by decide +kernel
theorem dX7_take_26 : decode cX7_take 26 = .ok (.aload_n 0, 1) := by decide +kernel
theorem dX7_take_27 : decode cX7_take 27 = .ok (.iconst 2, 1) := by decide +kernel
theorem dX7_take_28 : decode cX7_take 28 = .ok (.invokevirtual 68, 3) := by decide +kernel
theorem dX7_take_31 : decode cX7_take 31 = .ok (.ireturn, 1) := by decide +kernel
theorem dX7_take_32 : decode cX7_take 32 = .ok (.aload_n 0, 1) := by decide +kernel
theorem dX7_take_33 : decode cX7_take 33 = .ok (.invokevirtual 76, 3) := by decide +kernel
theorem dX7_take_36 : decode cX7_take 36 = .ok (.aload_n 0, 1) := by decide +kernel
theorem dX7_take_37 : decode cX7_take 37 = .ok (.iload_n 1, 1) := by decide +kernel
theorem dX7_take_38 : decode cX7_take 38 = .ok (.invokevirtual 149, 3) := by decide +kernel
theorem dX7_take_41 : decode cX7_take 41 = .ok (.invokestatic 116, 3) := by decide +kernel
theorem dX7_take_44 : decode cX7_take 44 = .ok (.istore_n 2, 1) := by decide +kernel
theorem dX7_take_45 : decode cX7_take 45 = .ok (.aload_n 0, 1) := by decide +kernel
theorem dX7_take_46 : decode cX7_take 46 = .ok (.getfield 7, 3) := by decide +kernel
theorem dX7_take_49 : decode cX7_take 49 = .ok (.bipush 16, 2) := by decide +kernel
theorem dX7_take_51 : decode cX7_take 51 = .ok (.iconst 4, 1) := by decide +kernel
theorem dX7_take_52 : decode cX7_take 52 = .ok (.iload_n 1, 1) := by decide +kernel
theorem dX7_take_53 : decode cX7_take 53 = .ok (.imul, 1) := by decide +kernel
theorem dX7_take_54 : decode cX7_take 54 = .ok (.iadd, 1) := by decide +kernel
theorem dX7_take_55 : decode cX7_take 55 = .ok (.iconst 0, 1) := by decide +kernel
theorem dX7_take_56 : decode cX7_take 56 = .ok (.iadd, 1) := by decide +kernel
theorem dX7_take_57 : decode cX7_take 57 = .ok (.iconst (-1), 1) := by decide +kernel
theorem dX7_take_58 : decode cX7_take 58 = .ok (.iastore, 1) := by decide +kernel
theorem dX7_take_59 : decode cX7_take 59 = .ok (.aload_n 0, 1) := by decide +kernel
theorem dX7_take_60 : decode cX7_take 60 = .ok (.getfield 7, 3) := by decide +kernel
theorem dX7_take_63 : decode cX7_take 63 = .ok (.bipush 16, 2) := by decide +kernel
theorem dX7_take_65 : decode cX7_take 65 = .ok (.iconst 4, 1) := by decide +kernel
theorem dX7_take_66 : decode cX7_take 66 = .ok (.iload_n 1, 1) := by decide +kernel
theorem dX7_take_67 : decode cX7_take 67 = .ok (.imul, 1) := by decide +kernel
theorem dX7_take_68 : decode cX7_take 68 = .ok (.iadd, 1) := by decide +kernel
theorem dX7_take_69 : decode cX7_take 69 = .ok (.iconst 1, 1) := by decide +kernel
theorem dX7_take_70 : decode cX7_take 70 = .ok (.iadd, 1) := by decide +kernel
theorem dX7_take_71 : decode cX7_take 71 = .ok (.iconst (-1), 1) := by decide +kernel
theorem dX7_take_72 : decode cX7_take 72 = .ok (.iastore, 1) := by decide +kernel
theorem dX7_take_73 : decode cX7_take 73 = .ok (.aload_n 0, 1) := by decide +kernel
theorem dX7_take_74 : decode cX7_take 74 = .ok (.getfield 7, 3) := by decide +kernel
theorem dX7_take_77 : decode cX7_take 77 = .ok (.bipush 16, 2) := by decide +kernel
theorem dX7_take_79 : decode cX7_take 79 = .ok (.iconst 4, 1) := by decide +kernel
theorem dX7_take_80 : decode cX7_take 80 = .ok (.iload_n 1, 1) := by decide +kernel
theorem dX7_take_81 : decode cX7_take 81 = .ok (.imul, 1) := by decide +kernel
theorem dX7_take_82 : decode cX7_take 82 = .ok (.iadd, 1) := by decide +kernel
theorem dX7_take_83 : decode cX7_take 83 = .ok (.iconst 2, 1) := by decide +kernel
theorem dX7_take_84 : decode cX7_take 84 = .ok (.iadd, 1) := by decide +kernel
theorem dX7_take_85 : decode cX7_take 85 = .ok (.iconst 0, 1) := by decide +kernel
theorem dX7_take_86 : decode cX7_take 86 = .ok (.iastore, 1) := by decide +kernel
theorem dX7_take_87 : decode cX7_take 87 = .ok (.aload_n 0, 1) := by decide +kernel
theorem dX7_take_88 : decode cX7_take 88 = .ok (.getfield 7, 3) := by decide +kernel
theorem dX7_take_91 : decode cX7_take 91 = .ok (.bipush 16, 2) := by decide +kernel
theorem dX7_take_93 : decode cX7_take 93 = .ok (.iconst 4, 1) := by decide +kernel
theorem dX7_take_94 : decode cX7_take 94 = .ok (.iload_n 1, 1) := by decide +kernel
theorem dX7_take_95 : decode cX7_take 95 = .ok (.imul, 1) := by decide +kernel
theorem dX7_take_96 : decode cX7_take 96 = .ok (.iadd, 1) := by decide +kernel
theorem dX7_take_97 : decode cX7_take 97 = .ok (.iconst 3, 1) := by decide +kernel
theorem dX7_take_98 : decode cX7_take 98 = .ok (.iadd, 1) := by decide +kernel
theorem dX7_take_99 : decode cX7_take 99 = .ok (.iconst 0, 1) := by decide +kernel
theorem dX7_take_100 : decode cX7_take 100 = .ok (.iastore, 1) := by decide +kernel
theorem dX7_take_101 : decode cX7_take 101 = .ok (.iload_n 2, 1) := by decide +kernel
theorem dX7_take_102 : decode cX7_take 102 = .ok (.ireturn, 1) := by decide +kernel
theorem dX7_turn_0 : decode cX7_turn 0 = .ok (.aload_n 0, 1) := by decide +kernel
theorem dX7_turn_1 : decode cX7_turn 1 = .ok (.iconst 0, 1) := by decide +kernel
theorem dX7_turn_2 : decode cX7_turn 2 = .ok (.putfield 53, 3) := by decide +kernel
theorem dX7_turn_5 : decode cX7_turn 5 = .ok (.aload_n 0, 1) := by decide +kernel
theorem dX7_turn_6 : decode cX7_turn 6 = .ok (.iload_n 1, 1) := by decide +kernel
theorem dX7_turn_7 : decode cX7_turn 7 = .ok (.invokevirtual 131, 3) := by decide +kernel
theorem dX7_turn_10 : decode cX7_turn 10 = .ok (.ifCond .eq 10, 3) := by decide +kernel
theorem dX7_turn_13 : decode cX7_turn 13 = .ok (.iload_n 2, 1) := by decide +kernel
theorem dX7_turn_14 : decode cX7_turn 14 = .ok (.invokestatic 146, 3) := by decide +kernel
theorem dX7_turn_17 : decode cX7_turn 17 = .ok (.ifCond .ne 9, 3) := by decide +kernel
theorem dX7_turn_20 : decode cX7_turn 20 = .ok (.aload_n 0, 1) := by decide +kernel
theorem dX7_turn_21 : decode cX7_turn 21 = .ok (.iconst 1, 1) := by decide +kernel
theorem dX7_turn_22 : decode cX7_turn 22 = .ok (.invokevirtual 68, 3) := by decide +kernel
theorem dX7_turn_25 : decode cX7_turn 25 = .ok (.ireturn, 1) := by decide +kernel
theorem dX7_turn_26 : decode cX7_turn 26 = .ok (.aload_n 0, 1) := by decide +kernel
theorem dX7_turn_27 : decode cX7_turn 27 = .ok (.iload_n 1, 1) := by decide +kernel
theorem dX7_turn_28 : decode cX7_turn 28 = .ok (.iconst 2, 1) := by decide +kernel
theorem dX7_turn_29 : decode cX7_turn 29 = .ok (.invokevirtual 85, 3) := by decide +kernel
theorem dX7_turn_32 : decode cX7_turn 32 = .ok (.iconst 1, 1) := by decide +kernel
theorem dX7_turn_33 : decode cX7_turn 33 = .ok (.if_icmp .eq 11, 3) := by decide +kernel
theorem dX7_turn_36 : decode cX7_turn 36 = .ok (.aload_n 0, 1) := by decide +kernel
theorem dX7_turn_37 : decode cX7_turn 37 = .ok (.iload_n 2, 1) := by decide +kernel
theorem dX7_turn_38 : decode cX7_turn 38 = .ok (.invokevirtual 95, 3) := by decide +kernel
theorem dX7_turn_41 : decode cX7_turn 41 = .ok (.ifCond .ne 9, 3) := by decide +kernel
theorem dX7_turn_44 : decode cX7_turn 44 = .ok (.aload_n 0, 1) := by decide +kernel
theorem dX7_turn_45 : decode cX7_turn 45 = .ok (.iconst 2, 1) := by decide +kernel
theorem dX7_turn_46 : decode cX7_turn 46 = .ok (.invokevirtual 68, 3) := by decide +kernel
theorem dX7_turn_49 : decode cX7_turn 49 = .ok (.ireturn, 1) := by decide +kernel
theorem dX7_turn_50 : decode cX7_turn 50 = .ok (.aload_n 0, 1) := by decide +kernel
theorem dX7_turn_51 : decode cX7_turn 51 = .ok (.invokevirtual 76, 3) := by decide +kernel
theorem dX7_turn_54 : decode cX7_turn 54 = .ok (.aload_n 0, 1) := by decide +kernel
theorem dX7_turn_55 : decode cX7_turn 55 = .ok (.iload_n 1, 1) := by decide +kernel
theorem dX7_turn_56 : decode cX7_turn 56 = .ok (.iload_n 2, 1) := by decide +kernel
theorem dX7_turn_57 : decode cX7_turn 57 = .ok (.invokevirtual 152, 3) := by decide +kernel
theorem dX7_turn_60 : decode cX7_turn 60 = .ok (.ireturn, 1) := by decide +kernel
theorem dX7_set_0 : decode cX7_set 0 = .ok (.aload_n 0, 1) := by decide +kernel
theorem dX7_set_1 : decode cX7_set 1 = .ok (.iconst 0, 1) := by decide +kernel
theorem dX7_set_2 : decode cX7_set 2 = .ok (.putfield 53, 3) := by decide +kernel
theorem dX7_set_5 : decode cX7_set 5 = .ok (.iload_n 1, 1) := by decide +kernel
theorem dX7_set_6 : decode cX7_set 6 = .ok (.iconst 0, 1) := by decide +kernel
theorem dX7_set_7 : decode cX7_set 7 = .ok (.iconst 3, 1) := by decide +kernel
theorem dX7_set_8 : decode cX7_set 8 = .ok (.invokestatic 57, 3) := by decide +kernel
theorem dX7_set_11 : decode cX7_set 11 = .ok (.ifCond .ne 9, 3) := by decide +kernel
theorem dX7_set_14 : decode cX7_set 14 = .ok (.aload_n 0, 1) := by decide +kernel
theorem dX7_set_15 : decode cX7_set 15 = .ok (.iconst 1, 1) := by decide +kernel
theorem dX7_set_16 : decode cX7_set 16 = .ok (.invokevirtual 68, 3) := by decide +kernel
theorem dX7_set_19 : decode cX7_set 19 = .ok (.ireturn, 1) := by decide +kernel
theorem dX7_set_20 : decode cX7_set 20 = .ok (.iload_n 1, 1) := by decide +kernel
theorem dX7_set_21 : decode cX7_set 21 = .ok (.iconst 2, 1) := by decide +kernel
theorem dX7_set_22 : decode cX7_set 22 = .ok (.if_icmp .ge 7, 3) := by decide +kernel
theorem dX7_set_25 : decode cX7_set 25 = .ok (.iconst 1, 1) := by decide +kernel
theorem dX7_set_26 : decode cX7_set 26 = .ok (.goto 4, 3) := by decide +kernel
theorem dX7_set_29 : decode cX7_set 29 = .ok (.iconst 0, 1) := by decide +kernel
theorem dX7_set_30 : decode cX7_set 30 = .ok (.istore_n 3, 1) := by decide +kernel
theorem dX7_set_31 : decode cX7_set 31 = .ok (.iload_n 1, 1) := by decide +kernel
theorem dX7_set_32 : decode cX7_set 32 = .ok (.ifCond .ne 7, 3) := by decide +kernel
theorem dX7_set_35 : decode cX7_set 35 = .ok (.iconst 2, 1) := by decide +kernel
theorem dX7_set_36 : decode cX7_set 36 = .ok (.goto 14, 3) := by decide +kernel
theorem dX7_set_39 : decode cX7_set 39 = .ok (.iload_n 1, 1) := by decide +kernel
theorem dX7_set_40 : decode cX7_set 40 = .ok (.iconst 3, 1) := by decide +kernel
theorem dX7_set_41 : decode cX7_set 41 = .ok (.if_icmp .ne 7, 3) := by decide +kernel
theorem dX7_set_44 : decode cX7_set 44 = .ok (.iconst 1, 1) := by decide +kernel
theorem dX7_set_45 : decode cX7_set 45 = .ok (.goto 5, 3) := by decide +kernel
theorem dX7_set_48 : decode cX7_set 48 = .ok (.bipush 9, 2) := by decide +kernel
theorem dX7_set_50 : decode cX7_set 50 = .ok (.istore 4, 2) := by decide +kernel
theorem dX7_set_52 : decode cX7_set 52 = .ok (.iload_n 2, 1) := by decide +kernel
theorem dX7_set_53 : decode cX7_set 53 = .ok (.iload_n 3, 1) := by decide +kernel
theorem dX7_set_54 : decode cX7_set 54 = .ok (.iload 4, 2) := by decide +kernel
theorem dX7_set_56 : decode cX7_set 56 = .ok (.invokestatic 57, 3) := by decide +kernel
theorem dX7_set_59 : decode cX7_set 59 = .ok (.ifCond .ne 9, 3) := by decide +kernel
theorem dX7_set_62 : decode cX7_set 62 = .ok (.aload_n 0, 1) := by decide +kernel
theorem dX7_set_63 : decode cX7_set 63 = .ok (.iconst 2, 1) := by decide +kernel
theorem dX7_set_64 : decode cX7_set 64 = .ok (.invokevirtual 68, 3) := by decide +kernel
theorem dX7_set_67 : decode cX7_set 67 = .ok (.ireturn, 1) := by decide +kernel
theorem dX7_set_68 : decode cX7_set 68 = .ok (.aload_n 0, 1) := by decide +kernel
theorem dX7_set_69 : decode cX7_set 69 = .ok (.invokevirtual 76, 3) := by decide +kernel
theorem dX7_set_72 : decode cX7_set 72 = .ok (.aload_n 0, 1) := by decide +kernel
theorem dX7_set_73 : decode cX7_set 73 = .ok (.getfield 7, 3) := by decide +kernel
theorem dX7_set_76 : decode cX7_set 76 = .ok (.bipush 8, 2) := by decide +kernel
theorem dX7_set_78 : decode cX7_set 78 = .ok (.iload_n 1, 1) := by decide +kernel
theorem dX7_set_79 : decode cX7_set 79 = .ok (.iadd, 1) := by decide +kernel
theorem dX7_set_80 : decode cX7_set 80 = .ok (.iaload, 1) := by decide +kernel
theorem dX7_set_81 : decode cX7_set 81 = .ok (.istore 5, 2) := by decide +kernel
theorem dX7_set_83 : decode cX7_set 83 = .ok (.aload_n 0, 1) := by decide +kernel
theorem dX7_set_84 : decode cX7_set 84 = .ok (.getfield 7, 3) := by decide +kernel
theorem dX7_set_87 : decode cX7_set 87 = .ok (.bipush 8, 2) := by decide +kernel
theorem dX7_set_89 : decode cX7_set 89 = .ok (.iload_n 1, 1) := by decide +kernel
theorem dX7_set_90 : decode cX7_set 90 = .ok (.iadd, 1) := by decide +kernel
theorem dX7_set_91 : decode cX7_set 91 = .ok (.iload_n 2, 1) := by decide +kernel
theorem dX7_set_92 : decode cX7_set 92 = .ok (.iastore, 1) := by decide +kernel
theorem dX7_set_93 : decode cX7_set 93 = .ok (.iload 5, 2) := by decide +kernel
theorem dX7_set_95 : decode cX7_set 95 = .ok (.ireturn, 1) := by decide +kernel
theorem dX7_append_0 : decode cX7_append 0 = .ok (.aload_n 0, 1) := by decide +kernel
theorem dX7_append_1 : decode cX7_append 1 = .ok (.iconst 0, 1) := by decide +kernel
theorem dX7_append_2 : decode cX7_append 2 = .ok (.putfield 53, 3) := by decide +kernel
theorem dX7_append_5 : decode cX7_append 5 = .ok (.iload_n 1, 1) := by decide +kernel
theorem dX7_append_6 : decode cX7_append 6 = .ok (.bipush 33, 2) := by decide +kernel
theorem dX7_append_8 : decode cX7_append 8 = .ok (.bipush 126, 2) := by decide +kernel
theorem dX7_append_10 : decode cX7_append 10 = .ok (.invokestatic 57, 3) := by decide +kernel
theorem dX7_append_13 : decode cX7_append 13 = .ok (.ifCond .ne 9, 3) := by decide +kernel
theorem dX7_append_16 : decode cX7_append 16 = .ok (.aload_n 0, 1) := by decide +kernel
theorem dX7_append_17 : decode cX7_append 17 = .ok (.iconst 1, 1) := by decide +kernel
theorem dX7_append_18 : decode cX7_append 18 = .ok (.invokevirtual 68, 3) := by decide +kernel
theorem dX7_append_21 : decode cX7_append 21 = .ok (.ireturn, 1) := by decide +kernel
theorem dX7_append_22 : decode cX7_append 22 = .ok (.aload_n 0, 1) := by decide +kernel
theorem dX7_append_23 : decode cX7_append 23 = .ok (.getfield 155, 3) := by decide +kernel
theorem dX7_append_26 : decode cX7_append 26 = .ok (.bipush 60, 2) := by decide +kernel
theorem dX7_append_28 : decode cX7_append 28 = .ok (.if_icmp .ne 9, 3) := by decide +kernel
theorem dX7_append_31 : decode cX7_append 31 = .ok (.aload_n 0, 1) := by decide +kernel
theorem dX7_append_32 : decode cX7_append 32 = .ok (.iconst 2, 1) := by decide +kernel
theorem dX7_append_33 : decode cX7_append 33 = .ok (.invokevirtual 68, 3) := by decide +kernel
theorem dX7_append_36 : decode cX7_append 36 = .ok (.ireturn, 1) := by decide +kernel
theorem dX7_append_37 : decode cX7_append 37 = .ok (.aload_n 0, 1) := by decide +kernel
theorem dX7_append_38 : decode cX7_append 38 = .ok (.getfield 19, 3) := by decide +kernel
theorem dX7_append_41 : decode cX7_append 41 = .ok (.aload_n 0, 1) := by decide +kernel
theorem dX7_append_42 : decode cX7_append 42 = .ok (.getfield 155, 3) := by decide +kernel
theorem dX7_append_45 : decode cX7_append 45 = .ok (.iload_n 1, 1) := by decide +kernel
theorem dX7_append_46 : decode cX7_append 46 = .ok (.iastore, 1) := by decide +kernel
theorem dX7_append_47 : decode cX7_append 47 = .ok (.aload_n 0, 1) := by decide +kernel
theorem dX7_append_48 : decode cX7_append 48 = .ok (.dup, 1) := by decide +kernel
theorem dX7_append_49 : decode cX7_append 49 = .ok (.getfield 155, 3) := by decide +kernel
theorem dX7_append_52 : decode cX7_append 52 = .ok (.iconst 1, 1) := by decide +kernel
theorem dX7_append_53 : decode cX7_append 53 = .ok (.iadd, 1) := by decide +kernel
theorem dX7_append_54 : decode cX7_append 54 = .ok (.putfield 155, 3) := by decide +kernel
theorem dX7_append_57 : decode cX7_append 57 = .ok (.aload_n 0, 1) := by decide +kernel
theorem dX7_append_58 : decode cX7_append 58 = .ok (.getfield 155, 3) := by decide +kernel
theorem dX7_append_61 : decode cX7_append 61 = .ok (.ireturn, 1) := by decide +kernel
theorem dX7_clearBuffer_0 : decode cX7_clearBuffer 0 = .ok (.aload_n 0, 1) := by decide +kernel
theorem dX7_clearBuffer_1 : decode cX7_clearBuffer 1 = .ok (.iconst 0, 1) := by decide +kernel
theorem dX7_clearBuffer_2 : decode cX7_clearBuffer 2 = .ok (.putfield 53, 3) := by decide +kernel
theorem dX7_clearBuffer_5 : decode cX7_clearBuffer 5 = .ok (.aload_n 0, 1) := by decide +kernel
theorem dX7_clearBuffer_6 : decode cX7_clearBuffer 6 = .ok (.getfield 155, 3) := by decide +kernel
theorem dX7_clearBuffer_9 : decode cX7_clearBuffer 9 = .ok (.istore_n 1, 1) := by decide +kernel
theorem dX7_clearBuffer_10 : decode cX7_clearBuffer 10 = .ok (.aload_n 0, 1) := by decide +kernel
theorem dX7_clearBuffer_11 : decode cX7_clearBuffer 11 = .ok (.iconst 0, 1) := by decide +kernel
theorem dX7_clearBuffer_12 : decode cX7_clearBuffer 12 = .ok (.putfield 155, 3) := by decide +kernel
theorem dX7_clearBuffer_15 : decode cX7_clearBuffer 15 = .ok (.iload_n 1, 1) := by decide +kernel
theorem dX7_clearBuffer_16 : decode cX7_clearBuffer 16 = .ok (.ireturn, 1) := by decide +kernel
theorem dX7_next_0 : decode cX7_next 0 = .ok (.aload_n 0, 1) := by decide +kernel
theorem dX7_next_1 : decode cX7_next 1 = .ok (.getfield 158, 3) := by decide +kernel
theorem dX7_next_4 : decode cX7_next 4 = .ok (.aload_n 0, 1) := by decide +kernel
theorem dX7_next_5 : decode cX7_next 5 = .ok (.getfield 155, 3) := by decide +kernel
theorem dX7_next_8 : decode cX7_next 8 = .ok (.if_icmp .ge 15, 3) := by decide +kernel
theorem dX7_next_11 : decode cX7_next 11 = .ok (.aload_n 0, 1) := by decide +kernel
theorem dX7_next_12 : decode cX7_next 12 = .ok (.getfield 19, 3) := by decide +kernel
theorem dX7_next_15 : decode cX7_next 15 = .ok (.aload_n 0, 1) := by decide +kernel
theorem dX7_next_16 : decode cX7_next 16 = .ok (.getfield 158, 3) := by decide +kernel
theorem dX7_next_19 : decode cX7_next 19 = .ok (.iaload, 1) := by decide +kernel
theorem dX7_next_20 : decode cX7_next 20 = .ok (.goto 4, 3) := by decide +kernel
theorem dX7_next_23 : decode cX7_next 23 = .ok (.iconst 0, 1) := by decide +kernel
theorem dX7_next_24 : decode cX7_next 24 = .ok (.ireturn, 1) := by decide +kernel
theorem dX7_takes_0 : decode cX7_takes 0 = .ok (.aload_n 0, 1) := by decide +kernel
theorem dX7_takes_1 : decode cX7_takes 1 = .ok (.invokevirtual 161, 3) := by decide +kernel
theorem dX7_takes_4 : decode cX7_takes 4 = .ok (.iload_n 1, 1) := by decide +kernel
theorem dX7_takes_5 : decode cX7_takes 5 = .ok (.if_icmp .ne 7, 3) := by decide +kernel
theorem dX7_takes_8 : decode cX7_takes 8 = .ok (.iconst 1, 1) := by decide +kernel
theorem dX7_takes_9 : decode cX7_takes 9 = .ok (.goto 4, 3) := by decide +kernel
theorem dX7_takes_12 : decode cX7_takes 12 = .ok (.iconst 0, 1) := by decide +kernel
theorem dX7_takes_13 : decode cX7_takes 13 = .ok (.istore_n 2, 1) := by decide +kernel
theorem dX7_takes_14 : decode cX7_takes 14 = .ok (.aload_n 0, 1) := by decide +kernel
theorem dX7_takes_15 : decode cX7_takes 15 = .ok (.dup, 1) := by decide +kernel
theorem dX7_takes_16 : decode cX7_takes 16 = .ok (.getfield 158, 3) := by decide +kernel
theorem dX7_takes_19 : decode cX7_takes 19 = .ok (.iload_n 2, 1) := by decide +kernel
theorem dX7_takes_20 : decode cX7_takes 20 = .ok (.ifCond .eq 7, 3) := by decide +kernel
theorem dX7_takes_23 : decode cX7_takes 23 = .ok (.iconst 1, 1) := by decide +kernel
theorem dX7_takes_24 : decode cX7_takes 24 = .ok (.goto 4, 3) := by decide +kernel
theorem dX7_takes_27 : decode cX7_takes 27 = .ok (.iconst 0, 1) := by decide +kernel
theorem dX7_takes_28 : decode cX7_takes 28 = .ok (.iadd, 1) := by decide +kernel
theorem dX7_takes_29 : decode cX7_takes 29 = .ok (.putfield 158, 3) := by decide +kernel
theorem dX7_takes_32 : decode cX7_takes 32 = .ok (.iload_n 2, 1) := by decide +kernel
theorem dX7_takes_33 : decode cX7_takes 33 = .ok (.ireturn, 1) := by decide +kernel
theorem dX7_readsDigit_0 : decode cX7_readsDigit 0 = .ok (.aload_n 0, 1) := by decide +kernel
theorem dX7_readsDigit_1 : decode cX7_readsDigit 1 = .ok (.invokevirtual 161, 3) := by decide +kernel
theorem dX7_readsDigit_4 : decode cX7_readsDigit 4 = .ok (.bipush 48, 2) := by decide +kernel
theorem dX7_readsDigit_6 : decode cX7_readsDigit 6 = .ok (.isub, 1) := by decide +kernel
theorem dX7_readsDigit_7 : decode cX7_readsDigit 7 = .ok (.istore_n 2, 1) := by decide +kernel
theorem dX7_readsDigit_8 : decode cX7_readsDigit 8 = .ok (.iload_n 2, 1) := by decide +kernel
theorem dX7_readsDigit_9 : decode cX7_readsDigit 9 = .ok (.iconst 0, 1) := by decide +kernel
theorem dX7_readsDigit_10 : decode cX7_readsDigit 10 = .ok (.iload_n 1, 1) := by decide +kernel
theorem dX7_readsDigit_11 : decode cX7_readsDigit 11 = .ok (.invokestatic 57, 3) := by decide +kernel
theorem dX7_readsDigit_14 : decode cX7_readsDigit 14 = .ok (.istore_n 3, 1) := by decide +kernel
theorem dX7_readsDigit_15 : decode cX7_readsDigit 15 = .ok (.aload_n 0, 1) := by decide +kernel
theorem dX7_readsDigit_16 : decode cX7_readsDigit 16 = .ok (.iload_n 3, 1) := by decide +kernel
theorem dX7_readsDigit_17 : decode cX7_readsDigit 17 = .ok (.ifCond .eq 7, 3) := by decide +kernel
theorem dX7_readsDigit_20 : decode cX7_readsDigit 20 = .ok (.iload_n 2, 1) := by decide +kernel
theorem dX7_readsDigit_21 : decode cX7_readsDigit 21 = .ok (.goto 7, 3) := by decide +kernel
theorem dX7_readsDigit_24 : decode cX7_readsDigit 24 = .ok (.aload_n 0, 1) := by decide +kernel
theorem dX7_readsDigit_25 : decode cX7_readsDigit 25 = .ok (.getfield 165, 3) := by decide +kernel
theorem dX7_readsDigit_28 : decode cX7_readsDigit 28 = .ok (.putfield 165, 3) := by decide +kernel
theorem dX7_readsDigit_31 : decode cX7_readsDigit 31 = .ok (.aload_n 0, 1) := by decide +kernel
theorem dX7_readsDigit_32 : decode cX7_readsDigit 32 = .ok (.dup, 1) := by decide +kernel
theorem dX7_readsDigit_33 : decode cX7_readsDigit 33 = .ok (.getfield 158, 3) := by decide +kernel
theorem dX7_readsDigit_36 : decode cX7_readsDigit 36 = .ok (.iload_n 3, 1) := by decide +kernel
theorem dX7_readsDigit_37 : decode cX7_readsDigit 37 = .ok (.ifCond .eq 7, 3) := by decide +kernel
theorem dX7_readsDigit_40 : decode cX7_readsDigit 40 = .ok (.iconst 1, 1) := by decide +kernel
theorem dX7_readsDigit_41 : decode cX7_readsDigit 41 = .ok (.goto 4, 3) := by decide +kernel
theorem dX7_readsDigit_44 : decode cX7_readsDigit 44 = .ok (.iconst 0, 1) := by decide +kernel
theorem dX7_readsDigit_45 : decode cX7_readsDigit 45 = .ok (.iadd, 1) := by decide +kernel
theorem dX7_readsDigit_46 : decode cX7_readsDigit 46 = .ok (.putfield 158, 3) := by decide +kernel
theorem dX7_readsDigit_49 : decode cX7_readsDigit 49 = .ok (.iload_n 3, 1) := by decide +kernel
theorem dX7_readsDigit_50 : decode cX7_readsDigit 50 = .ok (.ireturn, 1) := by decide +kernel
theorem dX7_readsCode_0 : decode cX7_readsCode 0 = .ok (.aload_n 0, 1) := by decide +kernel
theorem dX7_readsCode_1 : decode cX7_readsCode 1 = .ok (.iconst 0, 1) := by decide +kernel
theorem dX7_readsCode_2 : decode cX7_readsCode 2 = .ok (.putfield 168, 3) := by decide +kernel
theorem dX7_readsCode_5 : decode cX7_readsCode 5 = .ok (.iconst 0, 1) := by decide +kernel
theorem dX7_readsCode_6 : decode cX7_readsCode 6 = .ok (.istore_n 1, 1) := by decide +kernel
theorem dX7_readsCode_7 : decode cX7_readsCode 7 = .ok (.iload_n 1, 1) := by decide +kernel
theorem dX7_readsCode_8 : decode cX7_readsCode 8 = .ok (.iconst 4, 1) := by decide +kernel
theorem dX7_readsCode_9 : decode cX7_readsCode 9 = .ok (.if_icmp .ge 34, 3) := by decide +kernel
theorem dX7_readsCode_12 : decode cX7_readsCode 12 = .ok (.aload_n 0, 1) := by decide +kernel
theorem dX7_readsCode_13 : decode cX7_readsCode 13 = .ok (.iconst 2, 1) := by decide +kernel
theorem dX7_readsCode_14 : decode cX7_readsCode 14 = .ok (.invokevirtual 171, 3) := by decide +kernel
theorem dX7_readsCode_17 : decode cX7_readsCode 17 = .ok (.ifCond .ne 5, 3) := by decide +kernel
theorem dX7_readsCode_20 : decode cX7_readsCode 20 = .ok (.iconst 0, 1) := by decide +kernel
theorem dX7_readsCode_21 : decode cX7_readsCode 21 = .ok (.ireturn, 1) := by decide +kernel
theorem dX7_readsCode_22 : decode cX7_readsCode 22 = .ok (.aload_n 0, 1) := by decide +kernel
theorem dX7_readsCode_23 : decode cX7_readsCode 23 = .ok (.iconst 3, 1) := by decide +kernel
theorem dX7_readsCode_24 : decode cX7_readsCode 24 = .ok (.aload_n 0, 1) := by decide +kernel
theorem dX7_readsCode_25 : decode cX7_readsCode 25 = .ok (.getfield 168, 3) := by decide +kernel
theorem dX7_readsCode_28 : decode cX7_readsCode 28 = .ok (.imul, 1) := by decide +kernel
theorem dX7_readsCode_29 : decode cX7_readsCode 29 = .ok (.aload_n 0, 1) := by decide +kernel
theorem dX7_readsCode_30 : decode cX7_readsCode 30 = .ok (.getfield 165, 3) := by decide +kernel
theorem dX7_readsCode_33 : decode cX7_readsCode 33 = .ok (.iadd, 1) := by decide +kernel
theorem dX7_readsCode_34 : decode cX7_readsCode 34 = .ok (.putfield 168, 3) := by decide +kernel
theorem dX7_readsCode_37 : decode cX7_readsCode 37 = .ok (.iinc 1 1, 3) := by decide +kernel
theorem dX7_readsCode_40 : decode cX7_readsCode 40 = .ok (.goto (-33), 3) := by decide +kernel
theorem dX7_readsCode_43 : decode cX7_readsCode 43 = .ok (.iconst 1, 1) := by decide +kernel
theorem dX7_readsCode_44 : decode cX7_readsCode 44 = .ok (.ireturn, 1) := by decide +kernel
theorem dX7_readsKey_0 : decode cX7_readsKey 0 = .ok (.aload_n 0, 1) := by decide +kernel
theorem dX7_readsKey_1 : decode cX7_readsKey 1 = .ok (.bipush 9, 2) := by decide +kernel
theorem dX7_readsKey_3 : decode cX7_readsKey 3 = .ok (.invokevirtual 171, 3) := by decide +kernel
theorem dX7_readsKey_6 : decode cX7_readsKey 6 = .ok (.ifCond .ne 5, 3) := by decide +kernel
theorem dX7_readsKey_9 : decode cX7_readsKey 9 = .ok (.iconst 0, 1) := by decide +kernel
theorem dX7_readsKey_10 : decode cX7_readsKey 10 = .ok (.ireturn, 1) := by decide +kernel
theorem dX7_readsKey_11 : decode cX7_readsKey 11 = .ok (.aload_n 0, 1) := by decide +kernel
theorem dX7_readsKey_12 : decode cX7_readsKey 12 = .ok (.aload_n 0, 1) := by decide +kernel
theorem dX7_readsKey_13 : decode cX7_readsKey 13 = .ok (.getfield 165, 3) := by decide +kernel
theorem dX7_readsKey_16 : decode cX7_readsKey 16 = .ok (.putfield 168, 3) := by decide +kernel
theorem dX7_readsKey_19 : decode cX7_readsKey 19 = .ok (.aload_n 0, 1) := by decide +kernel
theorem dX7_readsKey_20 : decode cX7_readsKey 20 = .ok (.getfield 168, 3) := by decide +kernel
theorem dX7_readsKey_23 : decode cX7_readsKey 23 = .ok (.iconst 1, 1) := by decide +kernel
theorem dX7_readsKey_24 : decode cX7_readsKey 24 = .ok (.if_icmp .ne 22, 3) := by decide +kernel
theorem dX7_readsKey_27 : decode cX7_readsKey 27 = .ok (.aload_n 0, 1) := by decide +kernel
theorem dX7_readsKey_28 : decode cX7_readsKey 28 = .ok (.iconst 1, 1) := by decide +kernel
theorem dX7_readsKey_29 : decode cX7_readsKey 29 = .ok (.invokevirtual 171, 3) := by decide +kernel
theorem dX7_readsKey_32 : decode cX7_readsKey 32 = .ok (.ifCond .eq 14, 3) := by decide +kernel
theorem dX7_readsKey_35 : decode cX7_readsKey 35 = .ok (.aload_n 0, 1) := by decide +kernel
theorem dX7_readsKey_36 : decode cX7_readsKey 36 = .ok (.bipush 10, 2) := by decide +kernel
theorem dX7_readsKey_38 : decode cX7_readsKey 38 = .ok (.aload_n 0, 1) := by decide +kernel
theorem dX7_readsKey_39 : decode cX7_readsKey 39 = .ok (.getfield 165, 3) := by decide +kernel
theorem dX7_readsKey_42 : decode cX7_readsKey 42 = .ok (.iadd, 1) := by decide +kernel
theorem dX7_readsKey_43 : decode cX7_readsKey 43 = .ok (.putfield 168, 3) := by decide +kernel
theorem dX7_readsKey_46 : decode cX7_readsKey 46 = .ok (.iconst 1, 1) := by decide +kernel
theorem dX7_readsKey_47 : decode cX7_readsKey 47 = .ok (.ireturn, 1) := by decide +kernel
theorem dX7_readsOrder_0 : decode cX7_readsOrder 0 = .ok (.aload_n 0, 1) := by decide +kernel
theorem dX7_readsOrder_1 : decode cX7_readsOrder 1 = .ok (.aload_n 0, 1) := by decide +kernel
theorem dX7_readsOrder_2 : decode cX7_readsOrder 2 = .ok (.invokevirtual 161, 3) := by decide +kernel
theorem dX7_readsOrder_5 : decode cX7_readsOrder 5 = .ok (.putfield 174, 3) := by decide +kernel
theorem dX7_readsOrder_8 : decode cX7_readsOrder 8 = .ok (.aload_n 0, 1) := by decide +kernel
theorem dX7_readsOrder_9 : decode cX7_readsOrder 9 = .ok (.getfield 174, 3) := by decide +kernel
theorem dX7_readsOrder_12 : decode cX7_readsOrder 12 = .ok (.lookupswitch 187 #[(99, 52), (100, 92), (102, 172), (108, 172), (116, 132)], 52) := by decide +kernel
theorem dX7_readsOrder_64 : decode cX7_readsOrder 64 = .ok (.aload_n 0, 1) := by decide +kernel
theorem dX7_readsOrder_65 : decode cX7_readsOrder 65 = .ok (.dup, 1) := by decide +kernel
theorem dX7_readsOrder_66 : decode cX7_readsOrder 66 = .ok (.getfield 158, 3) := by decide +kernel
theorem dX7_readsOrder_69 : decode cX7_readsOrder 69 = .ok (.iconst 1, 1) := by decide +kernel
theorem dX7_readsOrder_70 : decode cX7_readsOrder 70 = .ok (.iadd, 1) := by decide +kernel
theorem dX7_readsOrder_71 : decode cX7_readsOrder 71 = .ok (.putfield 158, 3) := by decide +kernel
theorem dX7_readsOrder_74 : decode cX7_readsOrder 74 = .ok (.aload_n 0, 1) := by decide +kernel
theorem dX7_readsOrder_75 : decode cX7_readsOrder 75 = .ok (.invokevirtual 177, 3) := by decide +kernel
theorem dX7_readsOrder_78 : decode cX7_readsOrder 78 = .ok (.ifCond .eq 24, 3) := by decide +kernel
theorem dX7_readsOrder_81 : decode cX7_readsOrder 81 = .ok (.aload_n 0, 1) := by decide +kernel
theorem dX7_readsOrder_82 : decode cX7_readsOrder 82 = .ok (.bipush 64, 2) := by decide +kernel
theorem dX7_readsOrder_84 : decode cX7_readsOrder 84 = .ok (.invokevirtual 181, 3) := by decide +kernel
theorem dX7_readsOrder_87 : decode cX7_readsOrder 87 = .ok (.ifCond .eq 15, 3) := by decide +kernel
theorem dX7_readsOrder_90 : decode cX7_readsOrder 90 = .ok (.aload_n 0, 1) := by decide +kernel
theorem dX7_readsOrder_91 : decode cX7_readsOrder 91 = .ok (.iconst 3, 1) := by decide +kernel
theorem dX7_readsOrder_92 : decode cX7_readsOrder 92 = .ok (.invokevirtual 171, 3) := by decide +kernel
theorem dX7_readsOrder_95 : decode cX7_readsOrder 95 = .ok (.ifCond .eq 7, 3) := by decide +kernel
theorem dX7_readsOrder_98 : decode cX7_readsOrder 98 = .ok (.iconst 1, 1) := by decide +kernel
theorem dX7_readsOrder_99 : decode cX7_readsOrder 99 = .ok (.goto 4, 3) := by decide +kernel
theorem dX7_readsOrder_102 : decode cX7_readsOrder 102 = .ok (.iconst 0, 1) := by decide +kernel
theorem dX7_readsOrder_103 : decode cX7_readsOrder 103 = .ok (.ireturn, 1) := by decide +kernel
theorem dX7_readsOrder_104 : decode cX7_readsOrder 104 = .ok (.aload_n 0, 1) := by decide +kernel
theorem dX7_readsOrder_105 : decode cX7_readsOrder 105 = .ok (.dup, 1) := by decide +kernel
theorem dX7_readsOrder_106 : decode cX7_readsOrder 106 = .ok (.getfield 158, 3) := by decide +kernel
theorem dX7_readsOrder_109 : decode cX7_readsOrder 109 = .ok (.iconst 1, 1) := by decide +kernel
theorem dX7_readsOrder_110 : decode cX7_readsOrder 110 = .ok (.iadd, 1) := by decide +kernel
theorem dX7_readsOrder_111 : decode cX7_readsOrder 111 = .ok (.putfield 158, 3) := by decide +kernel
theorem dX7_readsOrder_114 : decode cX7_readsOrder 114 = .ok (.aload_n 0, 1) := by decide +kernel
theorem dX7_readsOrder_115 : decode cX7_readsOrder 115 = .ok (.invokevirtual 184, 3) := by decide +kernel
theorem dX7_readsOrder_118 : decode cX7_readsOrder 118 = .ok (.ifCond .eq 24, 3) := by decide +kernel
theorem dX7_readsOrder_121 : decode cX7_readsOrder 121 = .ok (.aload_n 0, 1) := by decide +kernel
theorem dX7_readsOrder_122 : decode cX7_readsOrder 122 = .ok (.bipush 44, 2) := by decide +kernel
theorem dX7_readsOrder_124 : decode cX7_readsOrder 124 = .ok (.invokevirtual 181, 3) := by decide +kernel
theorem dX7_readsOrder_127 : decode cX7_readsOrder 127 = .ok (.ifCond .eq 15, 3) := by decide +kernel
theorem dX7_readsOrder_130 : decode cX7_readsOrder 130 = .ok (.aload_n 0, 1) := by decide +kernel
theorem dX7_readsOrder_131 : decode cX7_readsOrder 131 = .ok (.iconst 3, 1) := by decide +kernel
theorem dX7_readsOrder_132 : decode cX7_readsOrder 132 = .ok (.invokevirtual 171, 3) := by decide +kernel
theorem dX7_readsOrder_135 : decode cX7_readsOrder 135 = .ok (.ifCond .eq 7, 3) := by decide +kernel
theorem dX7_readsOrder_138 : decode cX7_readsOrder 138 = .ok (.iconst 1, 1) := by decide +kernel
theorem dX7_readsOrder_139 : decode cX7_readsOrder 139 = .ok (.goto 4, 3) := by decide +kernel
theorem dX7_readsOrder_142 : decode cX7_readsOrder 142 = .ok (.iconst 0, 1) := by decide +kernel
theorem dX7_readsOrder_143 : decode cX7_readsOrder 143 = .ok (.ireturn, 1) := by decide +kernel
theorem dX7_readsOrder_144 : decode cX7_readsOrder 144 = .ok (.aload_n 0, 1) := by decide +kernel
theorem dX7_readsOrder_145 : decode cX7_readsOrder 145 = .ok (.dup, 1) := by decide +kernel
theorem dX7_readsOrder_146 : decode cX7_readsOrder 146 = .ok (.getfield 158, 3) := by decide +kernel
theorem dX7_readsOrder_149 : decode cX7_readsOrder 149 = .ok (.iconst 1, 1) := by decide +kernel
theorem dX7_readsOrder_150 : decode cX7_readsOrder 150 = .ok (.iadd, 1) := by decide +kernel
theorem dX7_readsOrder_151 : decode cX7_readsOrder 151 = .ok (.putfield 158, 3) := by decide +kernel
theorem dX7_readsOrder_154 : decode cX7_readsOrder 154 = .ok (.aload_n 0, 1) := by decide +kernel
theorem dX7_readsOrder_155 : decode cX7_readsOrder 155 = .ok (.invokevirtual 184, 3) := by decide +kernel
theorem dX7_readsOrder_158 : decode cX7_readsOrder 158 = .ok (.ifCond .eq 24, 3) := by decide +kernel
theorem dX7_readsOrder_161 : decode cX7_readsOrder 161 = .ok (.aload_n 0, 1) := by decide +kernel
theorem dX7_readsOrder_162 : decode cX7_readsOrder 162 = .ok (.bipush 44, 2) := by decide +kernel
theorem dX7_readsOrder_164 : decode cX7_readsOrder 164 = .ok (.invokevirtual 181, 3) := by decide +kernel
theorem dX7_readsOrder_167 : decode cX7_readsOrder 167 = .ok (.ifCond .eq 15, 3) := by decide +kernel
theorem dX7_readsOrder_170 : decode cX7_readsOrder 170 = .ok (.aload_n 0, 1) := by decide +kernel
theorem dX7_readsOrder_171 : decode cX7_readsOrder 171 = .ok (.iconst 5, 1) := by decide +kernel
theorem dX7_readsOrder_172 : decode cX7_readsOrder 172 = .ok (.invokevirtual 171, 3) := by decide +kernel
theorem dX7_readsOrder_175 : decode cX7_readsOrder 175 = .ok (.ifCond .eq 7, 3) := by decide +kernel
theorem dX7_readsOrder_178 : decode cX7_readsOrder 178 = .ok (.iconst 1, 1) := by decide +kernel
theorem dX7_readsOrder_179 : decode cX7_readsOrder 179 = .ok (.goto 4, 3) := by decide +kernel
theorem dX7_readsOrder_182 : decode cX7_readsOrder 182 = .ok (.iconst 0, 1) := by decide +kernel
theorem dX7_readsOrder_183 : decode cX7_readsOrder 183 = .ok (.ireturn, 1) := by decide +kernel
theorem dX7_readsOrder_184 : decode cX7_readsOrder 184 = .ok (.aload_n 0, 1) := by decide +kernel
theorem dX7_readsOrder_185 : decode cX7_readsOrder 185 = .ok (.dup, 1) := by decide +kernel
theorem dX7_readsOrder_186 : decode cX7_readsOrder 186 = .ok (.getfield 158, 3) := by decide +kernel
theorem dX7_readsOrder_189 : decode cX7_readsOrder 189 = .ok (.iconst 1, 1) := by decide +kernel
theorem dX7_readsOrder_190 : decode cX7_readsOrder 190 = .ok (.iadd, 1) := by decide +kernel
theorem dX7_readsOrder_191 : decode cX7_readsOrder 191 = .ok (.putfield 158, 3) := by decide +kernel
theorem dX7_readsOrder_194 : decode cX7_readsOrder 194 = .ok (.aload_n 0, 1) := by decide +kernel
theorem dX7_readsOrder_195 : decode cX7_readsOrder 195 = .ok (.invokevirtual 184, 3) := by decide +kernel
theorem dX7_readsOrder_198 : decode cX7_readsOrder 198 = .ok (.ireturn, 1) := by decide +kernel
theorem dX7_readsOrder_199 : decode cX7_readsOrder 199 = .ok (.iconst 0, 1) := by decide +kernel
theorem dX7_readsOrder_200 : decode cX7_readsOrder 200 = .ok (.ireturn, 1) := by decide +kernel
theorem dX7_findError_0 : decode cX7_findError 0 = .ok (.aload_n 0, 1) := by decide +kernel
theorem dX7_findError_1 : decode cX7_findError 1 = .ok (.iconst 0, 1) := by decide +kernel
theorem dX7_findError_2 : decode cX7_findError 2 = .ok (.putfield 158, 3) := by decide +kernel
theorem dX7_findError_5 : decode cX7_findError 5 = .ok (.aload_n 0, 1) := by decide +kernel
theorem dX7_findError_6 : decode cX7_findError 6 = .ok (.invokevirtual 187, 3) := by decide +kernel
theorem dX7_findError_9 : decode cX7_findError 9 = .ok (.ifCond .eq 30, 3) := by decide +kernel
theorem dX7_findError_12 : decode cX7_findError 12 = .ok (.aload_n 0, 1) := by decide +kernel
theorem dX7_findError_13 : decode cX7_findError 13 = .ok (.getfield 158, 3) := by decide +kernel
theorem dX7_findError_16 : decode cX7_findError 16 = .ok (.aload_n 0, 1) := by decide +kernel
theorem dX7_findError_17 : decode cX7_findError 17 = .ok (.getfield 155, 3) := by decide +kernel
theorem dX7_findError_20 : decode cX7_findError 20 = .ok (.if_icmp .ne 5, 3) := by decide +kernel
theorem dX7_findError_23 : decode cX7_findError 23 = .ok (.iconst (-1), 1) := by decide +kernel
theorem dX7_findError_24 : decode cX7_findError 24 = .ok (.ireturn, 1) := by decide +kernel
theorem dX7_findError_25 : decode cX7_findError 25 = .ok (.aload_n 0, 1) := by decide +kernel
theorem dX7_findError_26 : decode cX7_findError 26 = .ok (.bipush 59, 2) := by decide +kernel
theorem dX7_findError_28 : decode cX7_findError 28 = .ok (.invokevirtual 181, 3) := by decide +kernel
theorem dX7_findError_31 : decode cX7_findError 31 = .ok (.ifCond .ne (-26), 3) := by decide +kernel
theorem dX7_findError_34 : decode cX7_findError 34 = .ok (.aload_n 0, 1) := by decide +kernel
theorem dX7_findError_35 : decode cX7_findError 35 = .ok (.getfield 158, 3) := by decide +kernel
theorem dX7_findError_38 : decode cX7_findError 38 = .ok (.ireturn, 1) := by decide +kernel
theorem dX7_findError_39 : decode cX7_findError 39 = .ok (.aload_n 0, 1) := by decide +kernel
theorem dX7_findError_40 : decode cX7_findError 40 = .ok (.getfield 158, 3) := by decide +kernel
theorem dX7_findError_43 : decode cX7_findError 43 = .ok (.ireturn, 1) := by decide +kernel
theorem dX7_firstError_0 : decode cX7_firstError 0 = .ok (.aload_n 0, 1) := by decide +kernel
theorem dX7_firstError_1 : decode cX7_firstError 1 = .ok (.iconst 0, 1) := by decide +kernel
theorem dX7_firstError_2 : decode cX7_firstError 2 = .ok (.putfield 53, 3) := by decide +kernel
theorem dX7_firstError_5 : decode cX7_firstError 5 = .ok (.aload_n 0, 1) := by decide +kernel
theorem dX7_firstError_6 : decode cX7_firstError 6 = .ok (.invokevirtual 190, 3) := by decide +kernel
theorem dX7_firstError_9 : decode cX7_firstError 9 = .ok (.istore_n 1, 1) := by decide +kernel
theorem dX7_firstError_10 : decode cX7_firstError 10 = .ok (.iload_n 1, 1) := by decide +kernel
theorem dX7_firstError_11 : decode cX7_firstError 11 = .ok (.iconst (-1), 1) := by decide +kernel
theorem dX7_firstError_12 : decode cX7_firstError 12 = .ok (.if_icmp .ne 10, 3) := by decide +kernel
theorem dX7_firstError_15 : decode cX7_firstError 15 = .ok (.aload_n 0, 1) := by decide +kernel
theorem dX7_firstError_16 : decode cX7_firstError 16 = .ok (.getfield 155, 3) := by decide +kernel
theorem dX7_firstError_19 : decode cX7_firstError 19 = .ok (.goto 4, 3) := by decide +kernel
theorem dX7_firstError_22 : decode cX7_firstError 22 = .ok (.iload_n 1, 1) := by decide +kernel
theorem dX7_firstError_23 : decode cX7_firstError 23 = .ok (.ireturn, 1) := by decide +kernel
theorem dX7_whyStopped_0 : decode cX7_whyStopped 0 = .ok (.aload_n 0, 1) := by decide +kernel
theorem dX7_whyStopped_1 : decode cX7_whyStopped 1 = .ok (.getfield 174, 3) := by decide +kernel
theorem dX7_whyStopped_4 : decode cX7_whyStopped 4 = .ok (.bipush 99, 2) := by decide +kernel
theorem dX7_whyStopped_6 : decode cX7_whyStopped 6 = .ok (.if_icmp .ne 12, 3) := by decide +kernel
theorem dX7_whyStopped_9 : decode cX7_whyStopped 9 = .ok (.aload_n 0, 1) := by decide +kernel
theorem dX7_whyStopped_10 : decode cX7_whyStopped 10 = .ok (.aload_n 0, 1) := by decide +kernel
theorem dX7_whyStopped_11 : decode cX7_whyStopped 11 = .ok (.getfield 168, 3) := by decide +kernel
theorem dX7_whyStopped_14 : decode cX7_whyStopped 14 = .ok (.invokevirtual 125, 3) := by decide +kernel
theorem dX7_whyStopped_17 : decode cX7_whyStopped 17 = .ok (.ireturn, 1) := by decide +kernel
theorem dX7_whyStopped_18 : decode cX7_whyStopped 18 = .ok (.aload_n 0, 1) := by decide +kernel
theorem dX7_whyStopped_19 : decode cX7_whyStopped 19 = .ok (.aload_n 0, 1) := by decide +kernel
theorem dX7_whyStopped_20 : decode cX7_whyStopped 20 = .ok (.getfield 168, 3) := by decide +kernel
theorem dX7_whyStopped_23 : decode cX7_whyStopped 23 = .ok (.invokevirtual 131, 3) := by decide +kernel
theorem dX7_whyStopped_26 : decode cX7_whyStopped 26 = .ok (.ifCond .ne 6, 3) := by decide +kernel
theorem dX7_whyStopped_29 : decode cX7_whyStopped 29 = .ok (.bipush 7, 2) := by decide +kernel
theorem dX7_whyStopped_31 : decode cX7_whyStopped 31 = .ok (.ireturn, 1) := by decide +kernel
theorem dX7_whyStopped_32 : decode cX7_whyStopped 32 = .ok (.aload_n 0, 1) := by decide +kernel
theorem dX7_whyStopped_33 : decode cX7_whyStopped 33 = .ok (.getfield 174, 3) := by decide +kernel
theorem dX7_whyStopped_36 : decode cX7_whyStopped 36 = .ok (.bipush 100, 2) := by decide +kernel
theorem dX7_whyStopped_38 : decode cX7_whyStopped 38 = .ok (.if_icmp .ne 16, 3) := by decide +kernel
theorem dX7_whyStopped_41 : decode cX7_whyStopped 41 = .ok (.aload_n 0, 1) := by decide +kernel
theorem dX7_whyStopped_42 : decode cX7_whyStopped 42 = .ok (.aload_n 0, 1) := by decide +kernel
theorem dX7_whyStopped_43 : decode cX7_whyStopped 43 = .ok (.getfield 168, 3) := by decide +kernel
theorem dX7_whyStopped_46 : decode cX7_whyStopped 46 = .ok (.aload_n 0, 1) := by decide +kernel
theorem dX7_whyStopped_47 : decode cX7_whyStopped 47 = .ok (.getfield 165, 3) := by decide +kernel
theorem dX7_whyStopped_50 : decode cX7_whyStopped 50 = .ok (.invokevirtual 137, 3) := by decide +kernel
theorem dX7_whyStopped_53 : decode cX7_whyStopped 53 = .ok (.ireturn, 1) := by decide +kernel
theorem dX7_whyStopped_54 : decode cX7_whyStopped 54 = .ok (.aload_n 0, 1) := by decide +kernel
theorem dX7_whyStopped_55 : decode cX7_whyStopped 55 = .ok (.getfield 174, 3) := by decide +kernel
theorem dX7_whyStopped_58 : decode cX7_whyStopped 58 = .ok (.bipush 116, 2) := by decide +kernel
theorem dX7_whyStopped_60 : decode cX7_whyStopped 60 = .ok (.if_icmp .ne 17, 3) := by decide +kernel
theorem dX7_whyStopped_63 : decode cX7_whyStopped 63 = .ok (.aload_n 0, 1) := by decide +kernel
theorem dX7_whyStopped_64 : decode cX7_whyStopped 64 = .ok (.aload_n 0, 1) := by decide +kernel
theorem dX7_whyStopped_65 : decode cX7_whyStopped 65 = .ok (.getfield 165, 3) := by decide +kernel
theorem dX7_whyStopped_68 : decode cX7_whyStopped 68 = .ok (.invokevirtual 95, 3) := by decide +kernel
theorem dX7_whyStopped_71 : decode cX7_whyStopped 71 = .ok (.ifCond .ne 6, 3) := by decide +kernel
theorem dX7_whyStopped_74 : decode cX7_whyStopped 74 = .ok (.bipush 8, 2) := by decide +kernel
theorem dX7_whyStopped_76 : decode cX7_whyStopped 76 = .ok (.ireturn, 1) := by decide +kernel
theorem dX7_whyStopped_77 : decode cX7_whyStopped 77 = .ok (.aload_n 0, 1) := by decide +kernel
theorem dX7_whyStopped_78 : decode cX7_whyStopped 78 = .ok (.aload_n 0, 1) := by decide +kernel
theorem dX7_whyStopped_79 : decode cX7_whyStopped 79 = .ok (.getfield 168, 3) := by decide +kernel
theorem dX7_whyStopped_82 : decode cX7_whyStopped 82 = .ok (.iconst 2, 1) := by decide +kernel
theorem dX7_whyStopped_83 : decode cX7_whyStopped 83 = .ok (.invokevirtual 85, 3) := by decide +kernel
theorem dX7_whyStopped_86 : decode cX7_whyStopped 86 = .ok (.aload_n 0, 1) := by decide +kernel
theorem dX7_whyStopped_87 : decode cX7_whyStopped 87 = .ok (.getfield 174, 3) := by decide +kernel
theorem dX7_whyStopped_90 : decode cX7_whyStopped 90 = .ok (.bipush 102, 2) := by decide +kernel
theorem dX7_whyStopped_92 : decode cX7_whyStopped 92 = .ok (.if_icmp .ne 7, 3) := by decide +kernel
theorem dX7_whyStopped_95 : decode cX7_whyStopped 95 = .ok (.iconst 0, 1) := by decide +kernel
theorem dX7_whyStopped_96 : decode cX7_whyStopped 96 = .ok (.goto 4, 3) := by decide +kernel
theorem dX7_whyStopped_99 : decode cX7_whyStopped 99 = .ok (.iconst 1, 1) := by decide +kernel
theorem dX7_whyStopped_100 : decode cX7_whyStopped 100 = .ok (.if_icmp .ne 8, 3) := by decide +kernel
theorem dX7_whyStopped_103 : decode cX7_whyStopped 103 = .ok (.bipush 9, 2) := by decide +kernel
theorem dX7_whyStopped_105 : decode cX7_whyStopped 105 = .ok (.goto 4, 3) := by decide +kernel
theorem dX7_whyStopped_108 : decode cX7_whyStopped 108 = .ok (.iconst 0, 1) := by decide +kernel
theorem dX7_whyStopped_109 : decode cX7_whyStopped 109 = .ok (.ireturn, 1) := by decide +kernel
theorem dX7_doesOrder_0 : decode cX7_doesOrder 0 = .ok (.aload_n 0, 1) := by decide +kernel
theorem dX7_doesOrder_1 : decode cX7_doesOrder 1 = .ok (.getfield 174, 3) := by decide +kernel
theorem dX7_doesOrder_4 : decode cX7_doesOrder 4 = .ok (.lookupswitch 75 #[(99, 36), (100, 49), (116, 62)], 36) := by decide +kernel
theorem dX7_doesOrder_40 : decode cX7_doesOrder 40 = .ok (.aload_n 0, 1) := by decide +kernel
theorem dX7_doesOrder_41 : decode cX7_doesOrder 41 = .ok (.aload_n 0, 1) := by decide +kernel
theorem dX7_doesOrder_42 : decode cX7_doesOrder 42 = .ok (.getfield 168, 3) := by decide +kernel
theorem dX7_doesOrder_45 : decode cX7_doesOrder 45 = .ok (.aload_n 0, 1) := by decide +kernel
theorem dX7_doesOrder_46 : decode cX7_doesOrder 46 = .ok (.getfield 165, 3) := by decide +kernel
theorem dX7_doesOrder_49 : decode cX7_doesOrder 49 = .ok (.invokevirtual 128, 3) := by decide +kernel
theorem dX7_doesOrder_52 : decode cX7_doesOrder 52 = .ok (.ireturn, 1) := by decide +kernel
theorem dX7_doesOrder_53 : decode cX7_doesOrder 53 = .ok (.aload_n 0, 1) := by decide +kernel
theorem dX7_doesOrder_54 : decode cX7_doesOrder 54 = .ok (.aload_n 0, 1) := by decide +kernel
theorem dX7_doesOrder_55 : decode cX7_doesOrder 55 = .ok (.getfield 168, 3) := by decide +kernel
theorem dX7_doesOrder_58 : decode cX7_doesOrder 58 = .ok (.aload_n 0, 1) := by decide +kernel
theorem dX7_doesOrder_59 : decode cX7_doesOrder 59 = .ok (.getfield 165, 3) := by decide +kernel
theorem dX7_doesOrder_62 : decode cX7_doesOrder 62 = .ok (.invokevirtual 140, 3) := by decide +kernel
theorem dX7_doesOrder_65 : decode cX7_doesOrder 65 = .ok (.ireturn, 1) := by decide +kernel
theorem dX7_doesOrder_66 : decode cX7_doesOrder 66 = .ok (.aload_n 0, 1) := by decide +kernel
theorem dX7_doesOrder_67 : decode cX7_doesOrder 67 = .ok (.aload_n 0, 1) := by decide +kernel
theorem dX7_doesOrder_68 : decode cX7_doesOrder 68 = .ok (.getfield 168, 3) := by decide +kernel
theorem dX7_doesOrder_71 : decode cX7_doesOrder 71 = .ok (.aload_n 0, 1) := by decide +kernel
theorem dX7_doesOrder_72 : decode cX7_doesOrder 72 = .ok (.getfield 165, 3) := by decide +kernel
theorem dX7_doesOrder_75 : decode cX7_doesOrder 75 = .ok (.invokevirtual 152, 3) := by decide +kernel
theorem dX7_doesOrder_78 : decode cX7_doesOrder 78 = .ok (.ireturn, 1) := by decide +kernel
theorem dX7_doesOrder_79 : decode cX7_doesOrder 79 = .ok (.aload_n 0, 1) := by decide +kernel
theorem dX7_doesOrder_80 : decode cX7_doesOrder 80 = .ok (.aload_n 0, 1) := by decide +kernel
theorem dX7_doesOrder_81 : decode cX7_doesOrder 81 = .ok (.getfield 168, 3) := by decide +kernel
theorem dX7_doesOrder_84 : decode cX7_doesOrder 84 = .ok (.aload_n 0, 1) := by decide +kernel
theorem dX7_doesOrder_85 : decode cX7_doesOrder 85 = .ok (.getfield 174, 3) := by decide +kernel
theorem dX7_doesOrder_88 : decode cX7_doesOrder 88 = .ok (.bipush 108, 2) := by decide +kernel
theorem dX7_doesOrder_90 : decode cX7_doesOrder 90 = .ok (.if_icmp .ne 7, 3) := by decide +kernel
theorem dX7_doesOrder_93 : decode cX7_doesOrder 93 = .ok (.iconst 1, 1) := by decide +kernel
theorem dX7_doesOrder_94 : decode cX7_doesOrder 94 = .ok (.goto 4, 3) := by decide +kernel
theorem dX7_doesOrder_97 : decode cX7_doesOrder 97 = .ok (.iconst 0, 1) := by decide +kernel
theorem dX7_doesOrder_98 : decode cX7_doesOrder 98 = .ok (.invokevirtual 143, 3) := by decide +kernel
theorem dX7_doesOrder_101 : decode cX7_doesOrder 101 = .ok (.ireturn, 1) := by decide +kernel
theorem dX7_obey_0 : decode cX7_obey 0 = .ok (.aload_n 0, 1) := by decide +kernel
theorem dX7_obey_1 : decode cX7_obey 1 = .ok (.iconst 0, 1) := by decide +kernel
theorem dX7_obey_2 : decode cX7_obey 2 = .ok (.putfield 53, 3) := by decide +kernel
theorem dX7_obey_5 : decode cX7_obey 5 = .ok (.aload_n 0, 1) := by decide +kernel
theorem dX7_obey_6 : decode cX7_obey 6 = .ok (.invokevirtual 190, 3) := by decide +kernel
theorem dX7_obey_9 : decode cX7_obey 9 = .ok (.iconst (-1), 1) := by decide +kernel
theorem dX7_obey_10 : decode cX7_obey 10 = .ok (.if_icmp .eq 9, 3) := by decide +kernel
theorem dX7_obey_13 : decode cX7_obey 13 = .ok (.aload_n 0, 1) := by decide +kernel
theorem dX7_obey_14 : decode cX7_obey 14 = .ok (.iconst 1, 1) := by decide +kernel
theorem dX7_obey_15 : decode cX7_obey 15 = .ok (.invokevirtual 68, 3) := by decide +kernel
theorem dX7_obey_18 : decode cX7_obey 18 = .ok (.ireturn, 1) := by decide +kernel
theorem dX7_obey_19 : decode cX7_obey 19 = .ok (.aload_n 0, 1) := by decide +kernel
theorem dX7_obey_20 : decode cX7_obey 20 = .ok (.invokevirtual 76, 3) := by decide +kernel
theorem dX7_obey_23 : decode cX7_obey 23 = .ok (.aload_n 0, 1) := by decide +kernel
theorem dX7_obey_24 : decode cX7_obey 24 = .ok (.getfield 7, 3) := by decide +kernel
theorem dX7_obey_27 : decode cX7_obey 27 = .ok (.bipush 6, 2) := by decide +kernel
theorem dX7_obey_29 : decode cX7_obey 29 = .ok (.iconst (-1), 1) := by decide +kernel
theorem dX7_obey_30 : decode cX7_obey 30 = .ok (.iastore, 1) := by decide +kernel
theorem dX7_obey_31 : decode cX7_obey 31 = .ok (.aload_n 0, 1) := by decide +kernel
theorem dX7_obey_32 : decode cX7_obey 32 = .ok (.getfield 7, 3) := by decide +kernel
theorem dX7_obey_35 : decode cX7_obey 35 = .ok (.bipush 7, 2) := by decide +kernel
theorem dX7_obey_37 : decode cX7_obey 37 = .ok (.iconst (-1), 1) := by decide +kernel
theorem dX7_obey_38 : decode cX7_obey 38 = .ok (.iastore, 1) := by decide +kernel
theorem dX7_obey_39 : decode cX7_obey 39 = .ok (.aload_n 0, 1) := by decide +kernel
theorem dX7_obey_40 : decode cX7_obey 40 = .ok (.iconst 0, 1) := by decide +kernel
theorem dX7_obey_41 : decode cX7_obey 41 = .ok (.putfield 158, 3) := by decide +kernel
theorem dX7_obey_44 : decode cX7_obey 44 = .ok (.iconst 0, 1) := by decide +kernel
theorem dX7_obey_45 : decode cX7_obey 45 = .ok (.istore_n 1, 1) := by decide +kernel
theorem dX7_obey_46 : decode cX7_obey 46 = .ok (.aload_n 0, 1) := by decide +kernel
theorem dX7_obey_47 : decode cX7_obey 47 = .ok (.getfield 158, 3) := by decide +kernel
theorem dX7_obey_50 : decode cX7_obey 50 = .ok (.aload_n 0, 1) := by decide +kernel
theorem dX7_obey_51 : decode cX7_obey 51 = .ok (.getfield 155, 3) := by decide +kernel
theorem dX7_obey_54 : decode cX7_obey 54 = .ok (.if_icmp .ge 74, 3) := by decide +kernel
theorem dX7_obey_57 : decode cX7_obey 57 = .ok (.aload_n 0, 1) := by decide +kernel
theorem dX7_obey_58 : decode cX7_obey 58 = .ok (.getfield 7, 3) := by decide +kernel
theorem dX7_obey_61 : decode cX7_obey 61 = .ok (.bipush 6, 2) := by decide +kernel
theorem dX7_obey_63 : decode cX7_obey 63 = .ok (.iaload, 1) := by decide +kernel
theorem dX7_obey_64 : decode cX7_obey 64 = .ok (.iconst (-1), 1) := by decide +kernel
theorem dX7_obey_65 : decode cX7_obey 65 = .ok (.if_icmp .ne 63, 3) := by decide +kernel
theorem dX7_obey_68 : decode cX7_obey 68 = .ok (.aload_n 0, 1) := by decide +kernel
theorem dX7_obey_69 : decode cX7_obey 69 = .ok (.invokevirtual 187, 3) := by decide +kernel
theorem dX7_obey_72 : decode cX7_obey 72 = .ok (.istore_n 2, 1) := by decide +kernel
theorem dX7_obey_73 : decode cX7_obey 73 = .ok (.aload_n 0, 1) := by decide +kernel
theorem dX7_obey_74 : decode cX7_obey 74 = .ok (.invokevirtual 193, 3) := by decide +kernel
theorem dX7_obey_77 : decode cX7_obey 77 = .ok (.istore_n 3, 1) := by decide +kernel
theorem dX7_obey_78 : decode cX7_obey 78 = .ok (.iload_n 2, 1) := by decide +kernel
theorem dX7_obey_79 : decode cX7_obey 79 = .ok (.ifCond .eq 20, 3) := by decide +kernel
theorem dX7_obey_82 : decode cX7_obey 82 = .ok (.iload_n 3, 1) := by decide +kernel
theorem dX7_obey_83 : decode cX7_obey 83 = .ok (.ifCond .ne 16, 3) := by decide +kernel
theorem dX7_obey_86 : decode cX7_obey 86 = .ok (.aload_n 0, 1) := by decide +kernel
theorem dX7_obey_87 : decode cX7_obey 87 = .ok (.invokevirtual 196, 3) := by decide +kernel
theorem dX7_obey_90 : decode cX7_obey 90 = .ok (.ifCond .lt 9, 3) := by decide +kernel
theorem dX7_obey_93 : decode cX7_obey 93 = .ok (.iinc 1 1, 3) := by decide +kernel
theorem dX7_obey_96 : decode cX7_obey 96 = .ok (.goto 19, 3) := by decide +kernel
theorem dX7_obey_99 : decode cX7_obey 99 = .ok (.aload_n 0, 1) := by decide +kernel
theorem dX7_obey_100 : decode cX7_obey 100 = .ok (.getfield 7, 3) := by decide +kernel
theorem dX7_obey_103 : decode cX7_obey 103 = .ok (.bipush 6, 2) := by decide +kernel
theorem dX7_obey_105 : decode cX7_obey 105 = .ok (.iload_n 1, 1) := by decide +kernel
theorem dX7_obey_106 : decode cX7_obey 106 = .ok (.iastore, 1) := by decide +kernel
theorem dX7_obey_107 : decode cX7_obey 107 = .ok (.aload_n 0, 1) := by decide +kernel
theorem dX7_obey_108 : decode cX7_obey 108 = .ok (.getfield 7, 3) := by decide +kernel
theorem dX7_obey_111 : decode cX7_obey 111 = .ok (.bipush 7, 2) := by decide +kernel
theorem dX7_obey_113 : decode cX7_obey 113 = .ok (.iload_n 3, 1) := by decide +kernel
theorem dX7_obey_114 : decode cX7_obey 114 = .ok (.iastore, 1) := by decide +kernel
theorem dX7_obey_115 : decode cX7_obey 115 = .ok (.aload_n 0, 1) := by decide +kernel
theorem dX7_obey_116 : decode cX7_obey 116 = .ok (.dup, 1) := by decide +kernel
theorem dX7_obey_117 : decode cX7_obey 117 = .ok (.getfield 158, 3) := by decide +kernel
theorem dX7_obey_120 : decode cX7_obey 120 = .ok (.iconst 1, 1) := by decide +kernel
theorem dX7_obey_121 : decode cX7_obey 121 = .ok (.iadd, 1) := by decide +kernel
theorem dX7_obey_122 : decode cX7_obey 122 = .ok (.putfield 158, 3) := by decide +kernel
theorem dX7_obey_125 : decode cX7_obey 125 = .ok (.goto (-79), 3) := by decide +kernel
theorem dX7_obey_128 : decode cX7_obey 128 = .ok (.aload_n 0, 1) := by decide +kernel
theorem dX7_obey_129 : decode cX7_obey 129 = .ok (.iconst 0, 1) := by decide +kernel
theorem dX7_obey_130 : decode cX7_obey 130 = .ok (.putfield 155, 3) := by decide +kernel
theorem dX7_obey_133 : decode cX7_obey 133 = .ok (.iload_n 1, 1) := by decide +kernel
theorem dX7_obey_134 : decode cX7_obey 134 = .ok (.ireturn, 1) := by decide +kernel
theorem dX7_codesBeside_0 : decode cX7_codesBeside 0 = .ok (.aload_n 0, 1) := by decide +kernel
theorem dX7_codesBeside_1 : decode cX7_codesBeside 1 = .ok (.iload_n 1, 1) := by decide +kernel
theorem dX7_codesBeside_2 : decode cX7_codesBeside 2 = .ok (.iconst 0, 1) := by decide +kernel
theorem dX7_codesBeside_3 : decode cX7_codesBeside 3 = .ok (.invokevirtual 85, 3) := by decide +kernel
theorem dX7_codesBeside_6 : decode cX7_codesBeside 6 = .ok (.istore_n 3, 1) := by decide +kernel
theorem dX7_codesBeside_7 : decode cX7_codesBeside 7 = .ok (.iconst 0, 1) := by decide +kernel
theorem dX7_codesBeside_8 : decode cX7_codesBeside 8 = .ok (.istore 4, 2) := by decide +kernel
theorem dX7_codesBeside_10 : decode cX7_codesBeside 10 = .ok (.iconst 0, 1) := by decide +kernel
theorem dX7_codesBeside_11 : decode cX7_codesBeside 11 = .ok (.istore 5, 2) := by decide +kernel
theorem dX7_codesBeside_13 : decode cX7_codesBeside 13 = .ok (.iload 5, 2) := by decide +kernel
theorem dX7_codesBeside_15 : decode cX7_codesBeside 15 = .ok (.aload_n 0, 1) := by decide +kernel
theorem dX7_codesBeside_16 : decode cX7_codesBeside 16 = .ok (.getfield 7, 3) := by decide +kernel
theorem dX7_codesBeside_19 : decode cX7_codesBeside 19 = .ok (.iconst 0, 1) := by decide +kernel
theorem dX7_codesBeside_20 : decode cX7_codesBeside 20 = .ok (.iaload, 1) := by decide +kernel
theorem dX7_codesBeside_21 : decode cX7_codesBeside 21 = .ok (.if_icmp .ge 56, 3) := by decide +kernel
theorem dX7_codesBeside_24 : decode cX7_codesBeside 24 = .ok (.aload_n 0, 1) := by decide +kernel
theorem dX7_codesBeside_25 : decode cX7_codesBeside 25 = .ok (.iload 5, 2) := by decide +kernel
theorem dX7_codesBeside_27 : decode cX7_codesBeside 27 = .ok (.iconst 0, 1) := by decide +kernel
theorem dX7_codesBeside_28 : decode cX7_codesBeside 28 = .ok (.invokevirtual 85, 3) := by decide +kernel
theorem dX7_codesBeside_31 : decode cX7_codesBeside 31 = .ok (.istore 6, 2) := by decide +kernel
theorem dX7_codesBeside_33 : decode cX7_codesBeside 33 = .ok (.iload 4, 2) := by decide +kernel
theorem dX7_codesBeside_35 : decode cX7_codesBeside 35 = .ok (.iload_n 2, 1) := by decide +kernel
theorem dX7_codesBeside_36 : decode cX7_codesBeside 36 = .ok (.ifCond .eq 15, 3) := by decide +kernel
theorem dX7_codesBeside_39 : decode cX7_codesBeside 39 = .ok (.iload_n 3, 1) := by decide +kernel
theorem dX7_codesBeside_40 : decode cX7_codesBeside 40 = .ok (.iload 6, 2) := by decide +kernel
theorem dX7_codesBeside_42 : decode cX7_codesBeside 42 = .ok (.invokestatic 49, 3) := by decide +kernel
theorem dX7_codesBeside_45 : decode cX7_codesBeside 45 = .ok (.ifCond .eq 22, 3) := by decide +kernel
theorem dX7_codesBeside_48 : decode cX7_codesBeside 48 = .ok (.goto 12, 3) := by decide +kernel
theorem dX7_codesBeside_51 : decode cX7_codesBeside 51 = .ok (.iload 6, 2) := by decide +kernel
theorem dX7_codesBeside_53 : decode cX7_codesBeside 53 = .ok (.iload_n 3, 1) := by decide +kernel
theorem dX7_codesBeside_54 : decode cX7_codesBeside 54 = .ok (.invokestatic 49, 3) := by decide +kernel
theorem dX7_codesBeside_57 : decode cX7_codesBeside 57 = .ok (.ifCond .eq 10, 3) := by decide +kernel
theorem dX7_codesBeside_60 : decode cX7_codesBeside 60 = .ok (.iconst 1, 1) := by decide +kernel
theorem dX7_codesBeside_61 : decode cX7_codesBeside 61 = .ok (.iload 5, 2) := by decide +kernel
theorem dX7_codesBeside_63 : decode cX7_codesBeside 63 = .ok (.ishl, 1) := by decide +kernel
theorem dX7_codesBeside_64 : decode cX7_codesBeside 64 = .ok (.goto 4, 3) := by decide +kernel
theorem dX7_codesBeside_67 : decode cX7_codesBeside 67 = .ok (.iconst 0, 1) := by decide +kernel
theorem dX7_codesBeside_68 : decode cX7_codesBeside 68 = .ok (.ior, 1) := by decide +kernel
theorem dX7_codesBeside_69 : decode cX7_codesBeside 69 = .ok (.istore 4, 2) := by decide +kernel
theorem dX7_codesBeside_71 : decode cX7_codesBeside 71 = .ok (.iinc 5 1, 3) := by decide +kernel
theorem dX7_codesBeside_74 : decode cX7_codesBeside 74 = .ok (.goto (-61), 3) := by decide +kernel
theorem dX7_codesBeside_77 : decode cX7_codesBeside 77 = .ok (.iload 4, 2) := by decide +kernel
theorem dX7_codesBeside_79 : decode cX7_codesBeside 79 = .ok (.ireturn, 1) := by decide +kernel
theorem dX7_tellsKey_0 : decode cX7_tellsKey 0 = .ok (.aload_n 0, 1) := by decide +kernel
theorem dX7_tellsKey_1 : decode cX7_tellsKey 1 = .ok (.iload_n 1, 1) := by decide +kernel
theorem dX7_tellsKey_2 : decode cX7_tellsKey 2 = .ok (.iconst 0, 1) := by decide +kernel
theorem dX7_tellsKey_3 : decode cX7_tellsKey 3 = .ok (.invokevirtual 85, 3) := by decide +kernel
theorem dX7_tellsKey_6 : decode cX7_tellsKey 6 = .ok (.istore_n 3, 1) := by decide +kernel
theorem dX7_tellsKey_7 : decode cX7_tellsKey 7 = .ok (.iload_n 2, 1) := by decide +kernel
theorem dX7_tellsKey_8 : decode cX7_tellsKey 8 = .ok (.tableswitch 107 0 8 #[52, 54, 59, 66, 73, 80, 87, 93, 100], 52) := by decide +kernel
theorem dX7_tellsKey_60 : decode cX7_tellsKey 60 = .ok (.iload_n 3, 1) := by decide +kernel
theorem dX7_tellsKey_61 : decode cX7_tellsKey 61 = .ok (.ireturn, 1) := by decide +kernel
theorem dX7_tellsKey_62 : decode cX7_tellsKey 62 = .ok (.iload_n 3, 1) := by decide +kernel
theorem dX7_tellsKey_63 : decode cX7_tellsKey 63 = .ok (.invokestatic 104, 3) := by decide +kernel
theorem dX7_tellsKey_66 : decode cX7_tellsKey 66 = .ok (.ireturn, 1) := by decide +kernel
theorem dX7_tellsKey_67 : decode cX7_tellsKey 67 = .ok (.aload_n 0, 1) := by decide +kernel
theorem dX7_tellsKey_68 : decode cX7_tellsKey 68 = .ok (.iload_n 1, 1) := by decide +kernel
theorem dX7_tellsKey_69 : decode cX7_tellsKey 69 = .ok (.iconst 3, 1) := by decide +kernel
theorem dX7_tellsKey_70 : decode cX7_tellsKey 70 = .ok (.invokevirtual 85, 3) := by decide +kernel
theorem dX7_tellsKey_73 : decode cX7_tellsKey 73 = .ok (.ireturn, 1) := by decide +kernel
theorem dX7_tellsKey_74 : decode cX7_tellsKey 74 = .ok (.aload_n 0, 1) := by decide +kernel
theorem dX7_tellsKey_75 : decode cX7_tellsKey 75 = .ok (.iload_n 1, 1) := by decide +kernel
theorem dX7_tellsKey_76 : decode cX7_tellsKey 76 = .ok (.iconst 4, 1) := by decide +kernel
theorem dX7_tellsKey_77 : decode cX7_tellsKey 77 = .ok (.invokevirtual 85, 3) := by decide +kernel
theorem dX7_tellsKey_80 : decode cX7_tellsKey 80 = .ok (.ireturn, 1) := by decide +kernel
theorem dX7_tellsKey_81 : decode cX7_tellsKey 81 = .ok (.aload_n 0, 1) := by decide +kernel
theorem dX7_tellsKey_82 : decode cX7_tellsKey 82 = .ok (.iload_n 1, 1) := by decide +kernel
theorem dX7_tellsKey_83 : decode cX7_tellsKey 83 = .ok (.iconst 1, 1) := by decide +kernel
theorem dX7_tellsKey_84 : decode cX7_tellsKey 84 = .ok (.invokevirtual 85, 3) := by decide +kernel
theorem dX7_tellsKey_87 : decode cX7_tellsKey 87 = .ok (.ireturn, 1) := by decide +kernel
theorem dX7_tellsKey_88 : decode cX7_tellsKey 88 = .ok (.aload_n 0, 1) := by decide +kernel
theorem dX7_tellsKey_89 : decode cX7_tellsKey 89 = .ok (.iload_n 1, 1) := by decide +kernel
theorem dX7_tellsKey_90 : decode cX7_tellsKey 90 = .ok (.iconst 2, 1) := by decide +kernel
theorem dX7_tellsKey_91 : decode cX7_tellsKey 91 = .ok (.invokevirtual 85, 3) := by decide +kernel
theorem dX7_tellsKey_94 : decode cX7_tellsKey 94 = .ok (.ireturn, 1) := by decide +kernel
theorem dX7_tellsKey_95 : decode cX7_tellsKey 95 = .ok (.aload_n 0, 1) := by decide +kernel
theorem dX7_tellsKey_96 : decode cX7_tellsKey 96 = .ok (.iload_n 3, 1) := by decide +kernel
theorem dX7_tellsKey_97 : decode cX7_tellsKey 97 = .ok (.invokevirtual 113, 3) := by decide +kernel
theorem dX7_tellsKey_100 : decode cX7_tellsKey 100 = .ok (.ireturn, 1) := by decide +kernel
theorem dX7_tellsKey_101 : decode cX7_tellsKey 101 = .ok (.aload_n 0, 1) := by decide +kernel
theorem dX7_tellsKey_102 : decode cX7_tellsKey 102 = .ok (.iload_n 1, 1) := by decide +kernel
theorem dX7_tellsKey_103 : decode cX7_tellsKey 103 = .ok (.iconst 1, 1) := by decide +kernel
theorem dX7_tellsKey_104 : decode cX7_tellsKey 104 = .ok (.invokevirtual 199, 3) := by decide +kernel
theorem dX7_tellsKey_107 : decode cX7_tellsKey 107 = .ok (.ireturn, 1) := by decide +kernel
theorem dX7_tellsKey_108 : decode cX7_tellsKey 108 = .ok (.aload_n 0, 1) := by decide +kernel
theorem dX7_tellsKey_109 : decode cX7_tellsKey 109 = .ok (.iload_n 1, 1) := by decide +kernel
theorem dX7_tellsKey_110 : decode cX7_tellsKey 110 = .ok (.iconst 0, 1) := by decide +kernel
theorem dX7_tellsKey_111 : decode cX7_tellsKey 111 = .ok (.invokevirtual 199, 3) := by decide +kernel
theorem dX7_tellsKey_114 : decode cX7_tellsKey 114 = .ok (.ireturn, 1) := by decide +kernel
theorem dX7_tellsKey_115 : decode cX7_tellsKey 115 = .ok (.aload_n 0, 1) := by decide +kernel
theorem dX7_tellsKey_116 : decode cX7_tellsKey 116 = .ok (.iload_n 1, 1) := by decide +kernel
theorem dX7_tellsKey_117 : decode cX7_tellsKey 117 = .ok (.iconst 5, 1) := by decide +kernel
theorem dX7_tellsKey_118 : decode cX7_tellsKey 118 = .ok (.invokevirtual 85, 3) := by decide +kernel
theorem dX7_tellsKey_121 : decode cX7_tellsKey 121 = .ok (.ireturn, 1) := by decide +kernel
theorem dX7_key_0 : decode cX7_key 0 = .ok (.aload_n 0, 1) := by decide +kernel
theorem dX7_key_1 : decode cX7_key 1 = .ok (.iconst 0, 1) := by decide +kernel
theorem dX7_key_2 : decode cX7_key 2 = .ok (.putfield 53, 3) := by decide +kernel
theorem dX7_key_5 : decode cX7_key 5 = .ok (.aload_n 0, 1) := by decide +kernel
theorem dX7_key_6 : decode cX7_key 6 = .ok (.iload_n 1, 1) := by decide +kernel
theorem dX7_key_7 : decode cX7_key 7 = .ok (.invokevirtual 131, 3) := by decide +kernel
theorem dX7_key_10 : decode cX7_key 10 = .ok (.ifCond .ne 9, 3) := by decide +kernel
theorem dX7_key_13 : decode cX7_key 13 = .ok (.aload_n 0, 1) := by decide +kernel
theorem dX7_key_14 : decode cX7_key 14 = .ok (.iconst 1, 1) := by decide +kernel
theorem dX7_key_15 : decode cX7_key 15 = .ok (.invokevirtual 68, 3) := by decide +kernel
theorem dX7_key_18 : decode cX7_key 18 = .ok (.ireturn, 1) := by decide +kernel
theorem dX7_key_19 : decode cX7_key 19 = .ok (.iload_n 2, 1) := by decide +kernel
theorem dX7_key_20 : decode cX7_key 20 = .ok (.iconst 0, 1) := by decide +kernel
theorem dX7_key_21 : decode cX7_key 21 = .ok (.bipush 9, 2) := by decide +kernel
theorem dX7_key_23 : decode cX7_key 23 = .ok (.invokestatic 57, 3) := by decide +kernel
theorem dX7_key_26 : decode cX7_key 26 = .ok (.ifCond .eq 12, 3) := by decide +kernel
theorem dX7_key_29 : decode cX7_key 29 = .ok (.aload_n 0, 1) := by decide +kernel
theorem dX7_key_30 : decode cX7_key 30 = .ok (.iload_n 1, 1) := by decide +kernel
theorem dX7_key_31 : decode cX7_key 31 = .ok (.iload_n 2, 1) := by decide +kernel
theorem dX7_key_32 : decode cX7_key 32 = .ok (.invokevirtual 203, 3) := by decide +kernel
theorem dX7_key_35 : decode cX7_key 35 = .ok (.goto 8, 3) := by decide +kernel
theorem dX7_key_38 : decode cX7_key 38 = .ok (.aload_n 0, 1) := by decide +kernel
theorem dX7_key_39 : decode cX7_key 39 = .ok (.iconst 2, 1) := by decide +kernel
theorem dX7_key_40 : decode cX7_key 40 = .ok (.invokevirtual 68, 3) := by decide +kernel
theorem dX7_key_43 : decode cX7_key 43 = .ok (.ireturn, 1) := by decide +kernel
theorem dX7_whoOpens_0 : decode cX7_whoOpens 0 = .ok (.iconst 0, 1) := by decide +kernel
theorem dX7_whoOpens_1 : decode cX7_whoOpens 1 = .ok (.istore_n 2, 1) := by decide +kernel
theorem dX7_whoOpens_2 : decode cX7_whoOpens 2 = .ok (.iconst 0, 1) := by decide +kernel
theorem dX7_whoOpens_3 : decode cX7_whoOpens 3 = .ok (.istore_n 3, 1) := by decide +kernel
theorem dX7_whoOpens_4 : decode cX7_whoOpens 4 = .ok (.iload_n 3, 1) := by decide +kernel
theorem dX7_whoOpens_5 : decode cX7_whoOpens 5 = .ok (.aload_n 0, 1) := by decide +kernel
theorem dX7_whoOpens_6 : decode cX7_whoOpens 6 = .ok (.getfield 7, 3) := by decide +kernel
theorem dX7_whoOpens_9 : decode cX7_whoOpens 9 = .ok (.iconst 0, 1) := by decide +kernel
theorem dX7_whoOpens_10 : decode cX7_whoOpens 10 = .ok (.iaload, 1) := by decide +kernel
theorem dX7_whoOpens_11 : decode cX7_whoOpens 11 = .ok (.if_icmp .ge 56, 3) := by decide +kernel
theorem dX7_whoOpens_14 : decode cX7_whoOpens 14 = .ok (.aload_n 0, 1) := by decide +kernel
theorem dX7_whoOpens_15 : decode cX7_whoOpens 15 = .ok (.iload_n 3, 1) := by decide +kernel
theorem dX7_whoOpens_16 : decode cX7_whoOpens 16 = .ok (.iconst 2, 1) := by decide +kernel
theorem dX7_whoOpens_17 : decode cX7_whoOpens 17 = .ok (.invokevirtual 85, 3) := by decide +kernel
theorem dX7_whoOpens_20 : decode cX7_whoOpens 20 = .ok (.iconst 1, 1) := by decide +kernel
theorem dX7_whoOpens_21 : decode cX7_whoOpens 21 = .ok (.if_icmp .ne 7, 3) := by decide +kernel
theorem dX7_whoOpens_24 : decode cX7_whoOpens 24 = .ok (.iconst 4, 1) := by decide +kernel
theorem dX7_whoOpens_25 : decode cX7_whoOpens 25 = .ok (.goto 9, 3) := by decide +kernel
theorem dX7_whoOpens_28 : decode cX7_whoOpens 28 = .ok (.aload_n 0, 1) := by decide +kernel
theorem dX7_whoOpens_29 : decode cX7_whoOpens 29 = .ok (.iload_n 3, 1) := by decide +kernel
theorem dX7_whoOpens_30 : decode cX7_whoOpens 30 = .ok (.iconst 1, 1) := by decide +kernel
theorem dX7_whoOpens_31 : decode cX7_whoOpens 31 = .ok (.invokevirtual 85, 3) := by decide +kernel
theorem dX7_whoOpens_34 : decode cX7_whoOpens 34 = .ok (.istore 4, 2) := by decide +kernel
theorem dX7_whoOpens_36 : decode cX7_whoOpens 36 = .ok (.iload_n 2, 1) := by decide +kernel
theorem dX7_whoOpens_37 : decode cX7_whoOpens 37 = .ok (.aload_n 0, 1) := by decide +kernel
theorem dX7_whoOpens_38 : decode cX7_whoOpens 38 = .ok (.aload_n 0, 1) := by decide +kernel
theorem dX7_whoOpens_39 : decode cX7_whoOpens 39 = .ok (.iload_n 3, 1) := by decide +kernel
theorem dX7_whoOpens_40 : decode cX7_whoOpens 40 = .ok (.iconst 0, 1) := by decide +kernel
theorem dX7_whoOpens_41 : decode cX7_whoOpens 41 = .ok (.invokevirtual 85, 3) := by decide +kernel
theorem dX7_whoOpens_44 : decode cX7_whoOpens 44 = .ok (.iload_n 1, 1) := by decide +kernel
theorem dX7_whoOpens_45 : decode cX7_whoOpens 45 = .ok (.invokevirtual 101, 3) := by decide +kernel
theorem dX7_whoOpens_48 : decode cX7_whoOpens 48 = .ok (.ifCond .eq 10, 3) := by decide +kernel
theorem dX7_whoOpens_51 : decode cX7_whoOpens 51 = .ok (.iconst 1, 1) := by decide +kernel
theorem dX7_whoOpens_52 : decode cX7_whoOpens 52 = .ok (.iload 4, 2) := by decide +kernel
theorem dX7_whoOpens_54 : decode cX7_whoOpens 54 = .ok (.ishl, 1) := by decide +kernel
theorem dX7_whoOpens_55 : decode cX7_whoOpens 55 = .ok (.goto 4, 3) := by decide +kernel
theorem dX7_whoOpens_58 : decode cX7_whoOpens 58 = .ok (.iconst 0, 1) := by decide +kernel
theorem dX7_whoOpens_59 : decode cX7_whoOpens 59 = .ok (.ior, 1) := by decide +kernel
theorem dX7_whoOpens_60 : decode cX7_whoOpens 60 = .ok (.istore_n 2, 1) := by decide +kernel
theorem dX7_whoOpens_61 : decode cX7_whoOpens 61 = .ok (.iinc 3 1, 3) := by decide +kernel
theorem dX7_whoOpens_64 : decode cX7_whoOpens 64 = .ok (.goto (-60), 3) := by decide +kernel
theorem dX7_whoOpens_67 : decode cX7_whoOpens 67 = .ok (.iload_n 2, 1) := by decide +kernel
theorem dX7_whoOpens_68 : decode cX7_whoOpens 68 = .ok (.ireturn, 1) := by decide +kernel
theorem dX7_tellsLock_0 : decode cX7_tellsLock 0 = .ok (.aload_n 0, 1) := by decide +kernel
theorem dX7_tellsLock_1 : decode cX7_tellsLock 1 = .ok (.iload_n 1, 1) := by decide +kernel
theorem dX7_tellsLock_2 : decode cX7_tellsLock 2 = .ok (.invokevirtual 95, 3) := by decide +kernel
theorem dX7_tellsLock_5 : decode cX7_tellsLock 5 = .ok (.ifCond .ne 5, 3) := by decide +kernel
theorem dX7_tellsLock_8 : decode cX7_tellsLock 8 = .ok (.iconst (-1), 1) := by decide +kernel
theorem dX7_tellsLock_9 : decode cX7_tellsLock 9 = .ok (.ireturn, 1) := by decide +kernel
theorem dX7_tellsLock_10 : decode cX7_tellsLock 10 = .ok (.iload_n 2, 1) := by decide +kernel
theorem dX7_tellsLock_11 : decode cX7_tellsLock 11 = .ok (.tableswitch 67 0 4 #[33, 40, 47, 53, 60], 33) := by decide +kernel
theorem dX7_tellsLock_44 : decode cX7_tellsLock 44 = .ok (.aload_n 0, 1) := by decide +kernel
theorem dX7_tellsLock_45 : decode cX7_tellsLock 45 = .ok (.iload_n 1, 1) := by decide +kernel
theorem dX7_tellsLock_46 : decode cX7_tellsLock 46 = .ok (.iconst 0, 1) := by decide +kernel
theorem dX7_tellsLock_47 : decode cX7_tellsLock 47 = .ok (.invokevirtual 61, 3) := by decide +kernel
theorem dX7_tellsLock_50 : decode cX7_tellsLock 50 = .ok (.ireturn, 1) := by decide +kernel
theorem dX7_tellsLock_51 : decode cX7_tellsLock 51 = .ok (.aload_n 0, 1) := by decide +kernel
theorem dX7_tellsLock_52 : decode cX7_tellsLock 52 = .ok (.iload_n 1, 1) := by decide +kernel
theorem dX7_tellsLock_53 : decode cX7_tellsLock 53 = .ok (.iconst 1, 1) := by decide +kernel
theorem dX7_tellsLock_54 : decode cX7_tellsLock 54 = .ok (.invokevirtual 61, 3) := by decide +kernel
theorem dX7_tellsLock_57 : decode cX7_tellsLock 57 = .ok (.ireturn, 1) := by decide +kernel
theorem dX7_tellsLock_58 : decode cX7_tellsLock 58 = .ok (.aload_n 0, 1) := by decide +kernel
theorem dX7_tellsLock_59 : decode cX7_tellsLock 59 = .ok (.iload_n 1, 1) := by decide +kernel
theorem dX7_tellsLock_60 : decode cX7_tellsLock 60 = .ok (.invokevirtual 149, 3) := by decide +kernel
theorem dX7_tellsLock_63 : decode cX7_tellsLock 63 = .ok (.ireturn, 1) := by decide +kernel
theorem dX7_tellsLock_64 : decode cX7_tellsLock 64 = .ok (.aload_n 0, 1) := by decide +kernel
theorem dX7_tellsLock_65 : decode cX7_tellsLock 65 = .ok (.iload_n 1, 1) := by decide +kernel
theorem dX7_tellsLock_66 : decode cX7_tellsLock 66 = .ok (.iconst 2, 1) := by decide +kernel
theorem dX7_tellsLock_67 : decode cX7_tellsLock 67 = .ok (.invokevirtual 61, 3) := by decide +kernel
theorem dX7_tellsLock_70 : decode cX7_tellsLock 70 = .ok (.ireturn, 1) := by decide +kernel
theorem dX7_tellsLock_71 : decode cX7_tellsLock 71 = .ok (.aload_n 0, 1) := by decide +kernel
theorem dX7_tellsLock_72 : decode cX7_tellsLock 72 = .ok (.iload_n 1, 1) := by decide +kernel
theorem dX7_tellsLock_73 : decode cX7_tellsLock 73 = .ok (.iconst 3, 1) := by decide +kernel
theorem dX7_tellsLock_74 : decode cX7_tellsLock 74 = .ok (.invokevirtual 61, 3) := by decide +kernel
theorem dX7_tellsLock_77 : decode cX7_tellsLock 77 = .ok (.ireturn, 1) := by decide +kernel
theorem dX7_tellsLock_78 : decode cX7_tellsLock 78 = .ok (.aload_n 0, 1) := by decide +kernel
theorem dX7_tellsLock_79 : decode cX7_tellsLock 79 = .ok (.iload_n 1, 1) := by decide +kernel
theorem dX7_tellsLock_80 : decode cX7_tellsLock 80 = .ok (.invokevirtual 206, 3) := by decide +kernel
theorem dX7_tellsLock_83 : decode cX7_tellsLock 83 = .ok (.ireturn, 1) := by decide +kernel
theorem dX7_lock_0 : decode cX7_lock 0 = .ok (.aload_n 0, 1) := by decide +kernel
theorem dX7_lock_1 : decode cX7_lock 1 = .ok (.iconst 0, 1) := by decide +kernel
theorem dX7_lock_2 : decode cX7_lock 2 = .ok (.putfield 53, 3) := by decide +kernel
theorem dX7_lock_5 : decode cX7_lock 5 = .ok (.iload_n 1, 1) := by decide +kernel
theorem dX7_lock_6 : decode cX7_lock 6 = .ok (.invokestatic 146, 3) := by decide +kernel
theorem dX7_lock_9 : decode cX7_lock 9 = .ok (.ifCond .ne 9, 3) := by decide +kernel
theorem dX7_lock_12 : decode cX7_lock 12 = .ok (.aload_n 0, 1) := by decide +kernel
theorem dX7_lock_13 : decode cX7_lock 13 = .ok (.iconst 1, 1) := by decide +kernel
theorem dX7_lock_14 : decode cX7_lock 14 = .ok (.invokevirtual 68, 3) := by decide +kernel
theorem dX7_lock_17 : decode cX7_lock 17 = .ok (.ireturn, 1) := by decide +kernel
theorem dX7_lock_18 : decode cX7_lock 18 = .ok (.iload_n 2, 1) := by decide +kernel
theorem dX7_lock_19 : decode cX7_lock 19 = .ok (.iconst 0, 1) := by decide +kernel
theorem dX7_lock_20 : decode cX7_lock 20 = .ok (.iconst 5, 1) := by decide +kernel
theorem dX7_lock_21 : decode cX7_lock 21 = .ok (.invokestatic 57, 3) := by decide +kernel
theorem dX7_lock_24 : decode cX7_lock 24 = .ok (.ifCond .eq 12, 3) := by decide +kernel
theorem dX7_lock_27 : decode cX7_lock 27 = .ok (.aload_n 0, 1) := by decide +kernel
theorem dX7_lock_28 : decode cX7_lock 28 = .ok (.iload_n 1, 1) := by decide +kernel
theorem dX7_lock_29 : decode cX7_lock 29 = .ok (.iload_n 2, 1) := by decide +kernel
theorem dX7_lock_30 : decode cX7_lock 30 = .ok (.invokevirtual 209, 3) := by decide +kernel
theorem dX7_lock_33 : decode cX7_lock 33 = .ok (.goto 8, 3) := by decide +kernel
theorem dX7_lock_36 : decode cX7_lock 36 = .ok (.aload_n 0, 1) := by decide +kernel
theorem dX7_lock_37 : decode cX7_lock 37 = .ok (.iconst 2, 1) := by decide +kernel
theorem dX7_lock_38 : decode cX7_lock 38 = .ok (.invokevirtual 68, 3) := by decide +kernel
theorem dX7_lock_41 : decode cX7_lock 41 = .ok (.ireturn, 1) := by decide +kernel
theorem dX7_tellsPerson_0 : decode cX7_tellsPerson 0 = .ok (.iconst 0, 1) := by decide +kernel
theorem dX7_tellsPerson_1 : decode cX7_tellsPerson 1 = .ok (.istore_n 3, 1) := by decide +kernel
theorem dX7_tellsPerson_2 : decode cX7_tellsPerson 2 = .ok (.iconst 0, 1) := by decide +kernel
theorem dX7_tellsPerson_3 : decode cX7_tellsPerson 3 = .ok (.istore 4, 2) := by decide +kernel
theorem dX7_tellsPerson_5 : decode cX7_tellsPerson 5 = .ok (.iconst 0, 1) := by decide +kernel
theorem dX7_tellsPerson_6 : decode cX7_tellsPerson 6 = .ok (.istore 5, 2) := by decide +kernel
theorem dX7_tellsPerson_8 : decode cX7_tellsPerson 8 = .ok (.iload 5, 2) := by decide +kernel
theorem dX7_tellsPerson_10 : decode cX7_tellsPerson 10 = .ok (.aload_n 0, 1) := by decide +kernel
theorem dX7_tellsPerson_11 : decode cX7_tellsPerson 11 = .ok (.getfield 7, 3) := by decide +kernel
theorem dX7_tellsPerson_14 : decode cX7_tellsPerson 14 = .ok (.iconst 0, 1) := by decide +kernel
theorem dX7_tellsPerson_15 : decode cX7_tellsPerson 15 = .ok (.iaload, 1) := by decide +kernel
theorem dX7_tellsPerson_16 : decode cX7_tellsPerson 16 = .ok (.if_icmp .ge 78, 3) := by decide +kernel
theorem dX7_tellsPerson_19 : decode cX7_tellsPerson 19 = .ok (.aload_n 0, 1) := by decide +kernel
theorem dX7_tellsPerson_20 : decode cX7_tellsPerson 20 = .ok (.iload 5, 2) := by decide +kernel
theorem dX7_tellsPerson_22 : decode cX7_tellsPerson 22 = .ok (.iconst 1, 1) := by decide +kernel
theorem dX7_tellsPerson_23 : decode cX7_tellsPerson 23 = .ok (.invokevirtual 85, 3) := by decide +kernel
theorem dX7_tellsPerson_26 : decode cX7_tellsPerson 26 = .ok (.iload_n 1, 1) := by decide +kernel
theorem dX7_tellsPerson_27 : decode cX7_tellsPerson 27 = .ok (.if_icmp .ne 7, 3) := by decide +kernel
theorem dX7_tellsPerson_30 : decode cX7_tellsPerson 30 = .ok (.iconst 1, 1) := by decide +kernel
theorem dX7_tellsPerson_31 : decode cX7_tellsPerson 31 = .ok (.goto 4, 3) := by decide +kernel
theorem dX7_tellsPerson_34 : decode cX7_tellsPerson 34 = .ok (.iconst 0, 1) := by decide +kernel
theorem dX7_tellsPerson_35 : decode cX7_tellsPerson 35 = .ok (.istore 6, 2) := by decide +kernel
theorem dX7_tellsPerson_37 : decode cX7_tellsPerson 37 = .ok (.iload_n 3, 1) := by decide +kernel
theorem dX7_tellsPerson_38 : decode cX7_tellsPerson 38 = .ok (.iload 6, 2) := by decide +kernel
theorem dX7_tellsPerson_40 : decode cX7_tellsPerson 40 = .ok (.ifCond .eq 10, 3) := by decide +kernel
theorem dX7_tellsPerson_43 : decode cX7_tellsPerson 43 = .ok (.iconst 1, 1) := by decide +kernel
theorem dX7_tellsPerson_44 : decode cX7_tellsPerson 44 = .ok (.iload 5, 2) := by decide +kernel
theorem dX7_tellsPerson_46 : decode cX7_tellsPerson 46 = .ok (.ishl, 1) := by decide +kernel
theorem dX7_tellsPerson_47 : decode cX7_tellsPerson 47 = .ok (.goto 4, 3) := by decide +kernel
theorem dX7_tellsPerson_50 : decode cX7_tellsPerson 50 = .ok (.iconst 0, 1) := by decide +kernel
theorem dX7_tellsPerson_51 : decode cX7_tellsPerson 51 = .ok (.ior, 1) := by decide +kernel
theorem dX7_tellsPerson_52 : decode cX7_tellsPerson 52 = .ok (.istore_n 3, 1) := by decide +kernel
theorem dX7_tellsPerson_53 : decode cX7_tellsPerson 53 = .ok (.iload 4, 2) := by decide +kernel
theorem dX7_tellsPerson_55 : decode cX7_tellsPerson 55 = .ok (.iload 6, 2) := by decide +kernel
theorem dX7_tellsPerson_57 : decode cX7_tellsPerson 57 = .ok (.ifCond .eq 27, 3) := by decide +kernel
theorem dX7_tellsPerson_60 : decode cX7_tellsPerson 60 = .ok (.aload_n 0, 1) := by decide +kernel
theorem dX7_tellsPerson_61 : decode cX7_tellsPerson 61 = .ok (.iload 5, 2) := by decide +kernel
theorem dX7_tellsPerson_63 : decode cX7_tellsPerson 63 = .ok (.iconst 2, 1) := by decide +kernel
theorem dX7_tellsPerson_64 : decode cX7_tellsPerson 64 = .ok (.invokevirtual 85, 3) := by decide +kernel
theorem dX7_tellsPerson_67 : decode cX7_tellsPerson 67 = .ok (.ifCond .ne 17, 3) := by decide +kernel
theorem dX7_tellsPerson_70 : decode cX7_tellsPerson 70 = .ok (.aload_n 0, 1) := by decide +kernel
theorem dX7_tellsPerson_71 : decode cX7_tellsPerson 71 = .ok (.aload_n 0, 1) := by decide +kernel
theorem dX7_tellsPerson_72 : decode cX7_tellsPerson 72 = .ok (.iload 5, 2) := by decide +kernel
theorem dX7_tellsPerson_74 : decode cX7_tellsPerson 74 = .ok (.iconst 0, 1) := by decide +kernel
theorem dX7_tellsPerson_75 : decode cX7_tellsPerson 75 = .ok (.invokevirtual 85, 3) := by decide +kernel
theorem dX7_tellsPerson_78 : decode cX7_tellsPerson 78 = .ok (.invokevirtual 113, 3) := by decide +kernel
theorem dX7_tellsPerson_81 : decode cX7_tellsPerson 81 = .ok (.goto 4, 3) := by decide +kernel
theorem dX7_tellsPerson_84 : decode cX7_tellsPerson 84 = .ok (.iconst 0, 1) := by decide +kernel
theorem dX7_tellsPerson_85 : decode cX7_tellsPerson 85 = .ok (.ior, 1) := by decide +kernel
theorem dX7_tellsPerson_86 : decode cX7_tellsPerson 86 = .ok (.istore 4, 2) := by decide +kernel
theorem dX7_tellsPerson_88 : decode cX7_tellsPerson 88 = .ok (.iinc 5 1, 3) := by decide +kernel
theorem dX7_tellsPerson_91 : decode cX7_tellsPerson 91 = .ok (.goto (-83), 3) := by decide +kernel
theorem dX7_tellsPerson_94 : decode cX7_tellsPerson 94 = .ok (.iload_n 2, 1) := by decide +kernel
theorem dX7_tellsPerson_95 : decode cX7_tellsPerson 95 = .ok (.ifCond .ne 7, 3) := by decide +kernel
theorem dX7_tellsPerson_98 : decode cX7_tellsPerson 98 = .ok (.iload_n 3, 1) := by decide +kernel
theorem dX7_tellsPerson_99 : decode cX7_tellsPerson 99 = .ok (.goto 22, 3) := by decide +kernel
theorem dX7_tellsPerson_102 : decode cX7_tellsPerson 102 = .ok (.iload_n 2, 1) := by decide +kernel
theorem dX7_tellsPerson_103 : decode cX7_tellsPerson 103 = .ok (.iconst 1, 1) := by decide +kernel
theorem dX7_tellsPerson_104 : decode cX7_tellsPerson 104 = .ok (.if_icmp .ne 8, 3) := by decide +kernel
theorem dX7_tellsPerson_107 : decode cX7_tellsPerson 107 = .ok (.iload 4, 2) := by decide +kernel
theorem dX7_tellsPerson_109 : decode cX7_tellsPerson 109 = .ok (.goto 12, 3) := by decide +kernel
theorem dX7_tellsPerson_112 : decode cX7_tellsPerson 112 = .ok (.aload_n 0, 1) := by decide +kernel
theorem dX7_tellsPerson_113 : decode cX7_tellsPerson 113 = .ok (.getfield 7, 3) := by decide +kernel
theorem dX7_tellsPerson_116 : decode cX7_tellsPerson 116 = .ok (.bipush 12, 2) := by decide +kernel
theorem dX7_tellsPerson_118 : decode cX7_tellsPerson 118 = .ok (.iload_n 1, 1) := by decide +kernel
theorem dX7_tellsPerson_119 : decode cX7_tellsPerson 119 = .ok (.iadd, 1) := by decide +kernel
theorem dX7_tellsPerson_120 : decode cX7_tellsPerson 120 = .ok (.iaload, 1) := by decide +kernel
theorem dX7_tellsPerson_121 : decode cX7_tellsPerson 121 = .ok (.ireturn, 1) := by decide +kernel
theorem dX7_person_0 : decode cX7_person 0 = .ok (.aload_n 0, 1) := by decide +kernel
theorem dX7_person_1 : decode cX7_person 1 = .ok (.iconst 0, 1) := by decide +kernel
theorem dX7_person_2 : decode cX7_person 2 = .ok (.putfield 53, 3) := by decide +kernel
theorem dX7_person_5 : decode cX7_person 5 = .ok (.iload_n 1, 1) := by decide +kernel
theorem dX7_person_6 : decode cX7_person 6 = .ok (.invokestatic 122, 3) := by decide +kernel
theorem dX7_person_9 : decode cX7_person 9 = .ok (.ifCond .ne 9, 3) := by decide +kernel
theorem dX7_person_12 : decode cX7_person 12 = .ok (.aload_n 0, 1) := by decide +kernel
theorem dX7_person_13 : decode cX7_person 13 = .ok (.iconst 1, 1) := by decide +kernel
theorem dX7_person_14 : decode cX7_person 14 = .ok (.invokevirtual 68, 3) := by decide +kernel
theorem dX7_person_17 : decode cX7_person 17 = .ok (.ireturn, 1) := by decide +kernel
theorem dX7_person_18 : decode cX7_person 18 = .ok (.iload_n 2, 1) := by decide +kernel
theorem dX7_person_19 : decode cX7_person 19 = .ok (.iconst 0, 1) := by decide +kernel
theorem dX7_person_20 : decode cX7_person 20 = .ok (.iconst 2, 1) := by decide +kernel
theorem dX7_person_21 : decode cX7_person 21 = .ok (.invokestatic 57, 3) := by decide +kernel
theorem dX7_person_24 : decode cX7_person 24 = .ok (.ifCond .eq 12, 3) := by decide +kernel
theorem dX7_person_27 : decode cX7_person 27 = .ok (.aload_n 0, 1) := by decide +kernel
theorem dX7_person_28 : decode cX7_person 28 = .ok (.iload_n 1, 1) := by decide +kernel
theorem dX7_person_29 : decode cX7_person 29 = .ok (.iload_n 2, 1) := by decide +kernel
theorem dX7_person_30 : decode cX7_person 30 = .ok (.invokevirtual 212, 3) := by decide +kernel
theorem dX7_person_33 : decode cX7_person 33 = .ok (.goto 8, 3) := by decide +kernel
theorem dX7_person_36 : decode cX7_person 36 = .ok (.aload_n 0, 1) := by decide +kernel
theorem dX7_person_37 : decode cX7_person 37 = .ok (.iconst 2, 1) := by decide +kernel
theorem dX7_person_38 : decode cX7_person 38 = .ok (.invokevirtual 68, 3) := by decide +kernel
theorem dX7_person_41 : decode cX7_person 41 = .ok (.ireturn, 1) := by decide +kernel
theorem dX7_soundBeside_0 : decode cX7_soundBeside 0 = .ok (.iconst 0, 1) := by decide +kernel
theorem dX7_soundBeside_1 : decode cX7_soundBeside 1 = .ok (.istore_n 3, 1) := by decide +kernel
theorem dX7_soundBeside_2 : decode cX7_soundBeside 2 = .ok (.iconst 0, 1) := by decide +kernel
theorem dX7_soundBeside_3 : decode cX7_soundBeside 3 = .ok (.istore 4, 2) := by decide +kernel
theorem dX7_soundBeside_5 : decode cX7_soundBeside 5 = .ok (.iload 4, 2) := by decide +kernel
theorem dX7_soundBeside_7 : decode cX7_soundBeside 7 = .ok (.bipush 81, 2) := by decide +kernel
theorem dX7_soundBeside_9 : decode cX7_soundBeside 9 = .ok (.if_icmp .ge 52, 3) := by decide +kernel
theorem dX7_soundBeside_12 : decode cX7_soundBeside 12 = .ok (.iload_n 2, 1) := by decide +kernel
theorem dX7_soundBeside_13 : decode cX7_soundBeside 13 = .ok (.ifCond .eq 12, 3) := by decide +kernel
theorem dX7_soundBeside_16 : decode cX7_soundBeside 16 = .ok (.iload_n 1, 1) := by decide +kernel
theorem dX7_soundBeside_17 : decode cX7_soundBeside 17 = .ok (.iload 4, 2) := by decide +kernel
theorem dX7_soundBeside_19 : decode cX7_soundBeside 19 = .ok (.invokestatic 49, 3) := by decide +kernel
theorem dX7_soundBeside_22 : decode cX7_soundBeside 22 = .ok (.goto 9, 3) := by decide +kernel
theorem dX7_soundBeside_25 : decode cX7_soundBeside 25 = .ok (.iload 4, 2) := by decide +kernel
theorem dX7_soundBeside_27 : decode cX7_soundBeside 27 = .ok (.iload_n 1, 1) := by decide +kernel
theorem dX7_soundBeside_28 : decode cX7_soundBeside 28 = .ok (.invokestatic 49, 3) := by decide +kernel
theorem dX7_soundBeside_31 : decode cX7_soundBeside 31 = .ok (.istore 5, 2) := by decide +kernel
theorem dX7_soundBeside_33 : decode cX7_soundBeside 33 = .ok (.iload_n 3, 1) := by decide +kernel
theorem dX7_soundBeside_34 : decode cX7_soundBeside 34 = .ok (.iload 5, 2) := by decide +kernel
theorem dX7_soundBeside_36 : decode cX7_soundBeside 36 = .ok (.ifCond .eq 16, 3) := by decide +kernel
theorem dX7_soundBeside_39 : decode cX7_soundBeside 39 = .ok (.aload_n 0, 1) := by decide +kernel
theorem dX7_soundBeside_40 : decode cX7_soundBeside 40 = .ok (.iload 4, 2) := by decide +kernel
theorem dX7_soundBeside_42 : decode cX7_soundBeside 42 = .ok (.invokevirtual 88, 3) := by decide +kernel
theorem dX7_soundBeside_45 : decode cX7_soundBeside 45 = .ok (.ifCond .eq 7, 3) := by decide +kernel
theorem dX7_soundBeside_48 : decode cX7_soundBeside 48 = .ok (.iconst 1, 1) := by decide +kernel
theorem dX7_soundBeside_49 : decode cX7_soundBeside 49 = .ok (.goto 4, 3) := by decide +kernel
theorem dX7_soundBeside_52 : decode cX7_soundBeside 52 = .ok (.iconst 0, 1) := by decide +kernel
theorem dX7_soundBeside_53 : decode cX7_soundBeside 53 = .ok (.iadd, 1) := by decide +kernel
theorem dX7_soundBeside_54 : decode cX7_soundBeside 54 = .ok (.istore_n 3, 1) := by decide +kernel
theorem dX7_soundBeside_55 : decode cX7_soundBeside 55 = .ok (.iinc 4 1, 3) := by decide +kernel
theorem dX7_soundBeside_58 : decode cX7_soundBeside 58 = .ok (.goto (-53), 3) := by decide +kernel
theorem dX7_soundBeside_61 : decode cX7_soundBeside 61 = .ok (.iload_n 3, 1) := by decide +kernel
theorem dX7_soundBeside_62 : decode cX7_soundBeside 62 = .ok (.ireturn, 1) := by decide +kernel
theorem dX7_tellsCode_0 : decode cX7_tellsCode 0 = .ok (.iload_n 2, 1) := by decide +kernel
theorem dX7_tellsCode_1 : decode cX7_tellsCode 1 = .ok (.tableswitch 74 0 4 #[35, 40, 54, 60, 67], 35) := by decide +kernel
theorem dX7_tellsCode_36 : decode cX7_tellsCode 36 = .ok (.iload_n 1, 1) := by decide +kernel
theorem dX7_tellsCode_37 : decode cX7_tellsCode 37 = .ok (.invokestatic 104, 3) := by decide +kernel
theorem dX7_tellsCode_40 : decode cX7_tellsCode 40 = .ok (.ireturn, 1) := by decide +kernel
theorem dX7_tellsCode_41 : decode cX7_tellsCode 41 = .ok (.aload_n 0, 1) := by decide +kernel
theorem dX7_tellsCode_42 : decode cX7_tellsCode 42 = .ok (.iload_n 1, 1) := by decide +kernel
theorem dX7_tellsCode_43 : decode cX7_tellsCode 43 = .ok (.invokevirtual 88, 3) := by decide +kernel
theorem dX7_tellsCode_46 : decode cX7_tellsCode 46 = .ok (.ifCond .eq 7, 3) := by decide +kernel
theorem dX7_tellsCode_49 : decode cX7_tellsCode 49 = .ok (.iconst 1, 1) := by decide +kernel
theorem dX7_tellsCode_50 : decode cX7_tellsCode 50 = .ok (.goto 4, 3) := by decide +kernel
theorem dX7_tellsCode_53 : decode cX7_tellsCode 53 = .ok (.iconst 0, 1) := by decide +kernel
theorem dX7_tellsCode_54 : decode cX7_tellsCode 54 = .ok (.ireturn, 1) := by decide +kernel
theorem dX7_tellsCode_55 : decode cX7_tellsCode 55 = .ok (.aload_n 0, 1) := by decide +kernel
theorem dX7_tellsCode_56 : decode cX7_tellsCode 56 = .ok (.iload_n 1, 1) := by decide +kernel
theorem dX7_tellsCode_57 : decode cX7_tellsCode 57 = .ok (.invokevirtual 125, 3) := by decide +kernel
theorem dX7_tellsCode_60 : decode cX7_tellsCode 60 = .ok (.ireturn, 1) := by decide +kernel
theorem dX7_tellsCode_61 : decode cX7_tellsCode 61 = .ok (.aload_n 0, 1) := by decide +kernel
theorem dX7_tellsCode_62 : decode cX7_tellsCode 62 = .ok (.iload_n 1, 1) := by decide +kernel
theorem dX7_tellsCode_63 : decode cX7_tellsCode 63 = .ok (.iconst 1, 1) := by decide +kernel
theorem dX7_tellsCode_64 : decode cX7_tellsCode 64 = .ok (.invokevirtual 215, 3) := by decide +kernel
theorem dX7_tellsCode_67 : decode cX7_tellsCode 67 = .ok (.ireturn, 1) := by decide +kernel
theorem dX7_tellsCode_68 : decode cX7_tellsCode 68 = .ok (.aload_n 0, 1) := by decide +kernel
theorem dX7_tellsCode_69 : decode cX7_tellsCode 69 = .ok (.iload_n 1, 1) := by decide +kernel
theorem dX7_tellsCode_70 : decode cX7_tellsCode 70 = .ok (.iconst 0, 1) := by decide +kernel
theorem dX7_tellsCode_71 : decode cX7_tellsCode 71 = .ok (.invokevirtual 215, 3) := by decide +kernel
theorem dX7_tellsCode_74 : decode cX7_tellsCode 74 = .ok (.ireturn, 1) := by decide +kernel
theorem dX7_tellsCode_75 : decode cX7_tellsCode 75 = .ok (.aload_n 0, 1) := by decide +kernel
theorem dX7_tellsCode_76 : decode cX7_tellsCode 76 = .ok (.iload_n 1, 1) := by decide +kernel
theorem dX7_tellsCode_77 : decode cX7_tellsCode 77 = .ok (.invokevirtual 218, 3) := by decide +kernel
theorem dX7_tellsCode_80 : decode cX7_tellsCode 80 = .ok (.ifCond .eq 7, 3) := by decide +kernel
theorem dX7_tellsCode_83 : decode cX7_tellsCode 83 = .ok (.iconst 1, 1) := by decide +kernel
theorem dX7_tellsCode_84 : decode cX7_tellsCode 84 = .ok (.goto 4, 3) := by decide +kernel
theorem dX7_tellsCode_87 : decode cX7_tellsCode 87 = .ok (.iconst 0, 1) := by decide +kernel
theorem dX7_tellsCode_88 : decode cX7_tellsCode 88 = .ok (.ireturn, 1) := by decide +kernel
theorem dX7_code_0 : decode cX7_code 0 = .ok (.aload_n 0, 1) := by decide +kernel
theorem dX7_code_1 : decode cX7_code 1 = .ok (.iconst 0, 1) := by decide +kernel
theorem dX7_code_2 : decode cX7_code 2 = .ok (.putfield 53, 3) := by decide +kernel
theorem dX7_code_5 : decode cX7_code 5 = .ok (.iload_n 1, 1) := by decide +kernel
theorem dX7_code_6 : decode cX7_code 6 = .ok (.invokestatic 119, 3) := by decide +kernel
theorem dX7_code_9 : decode cX7_code 9 = .ok (.ifCond .eq 21, 3) := by decide +kernel
theorem dX7_code_12 : decode cX7_code 12 = .ok (.iload_n 2, 1) := by decide +kernel
theorem dX7_code_13 : decode cX7_code 13 = .ok (.iconst 0, 1) := by decide +kernel
theorem dX7_code_14 : decode cX7_code 14 = .ok (.iconst 5, 1) := by decide +kernel
theorem dX7_code_15 : decode cX7_code 15 = .ok (.invokestatic 57, 3) := by decide +kernel
theorem dX7_code_18 : decode cX7_code 18 = .ok (.ifCond .eq 12, 3) := by decide +kernel
theorem dX7_code_21 : decode cX7_code 21 = .ok (.aload_n 0, 1) := by decide +kernel
theorem dX7_code_22 : decode cX7_code 22 = .ok (.iload_n 1, 1) := by decide +kernel
theorem dX7_code_23 : decode cX7_code 23 = .ok (.iload_n 2, 1) := by decide +kernel
theorem dX7_code_24 : decode cX7_code 24 = .ok (.invokevirtual 221, 3) := by decide +kernel
theorem dX7_code_27 : decode cX7_code 27 = .ok (.goto 8, 3) := by decide +kernel
theorem dX7_code_30 : decode cX7_code 30 = .ok (.aload_n 0, 1) := by decide +kernel
theorem dX7_code_31 : decode cX7_code 31 = .ok (.iconst 1, 1) := by decide +kernel
theorem dX7_code_32 : decode cX7_code 32 = .ok (.invokevirtual 68, 3) := by decide +kernel
theorem dX7_code_35 : decode cX7_code 35 = .ok (.ireturn, 1) := by decide +kernel
theorem dX7_tellsLevel_0 : decode cX7_tellsLevel 0 = .ok (.iconst 0, 1) := by decide +kernel
theorem dX7_tellsLevel_1 : decode cX7_tellsLevel 1 = .ok (.istore_n 3, 1) := by decide +kernel
theorem dX7_tellsLevel_2 : decode cX7_tellsLevel 2 = .ok (.iconst 0, 1) := by decide +kernel
theorem dX7_tellsLevel_3 : decode cX7_tellsLevel 3 = .ok (.istore 4, 2) := by decide +kernel
theorem dX7_tellsLevel_5 : decode cX7_tellsLevel 5 = .ok (.iconst 0, 1) := by decide +kernel
theorem dX7_tellsLevel_6 : decode cX7_tellsLevel 6 = .ok (.istore 5, 2) := by decide +kernel
theorem dX7_tellsLevel_8 : decode cX7_tellsLevel 8 = .ok (.iconst (-1), 1) := by decide +kernel
theorem dX7_tellsLevel_9 : decode cX7_tellsLevel 9 = .ok (.istore 6, 2) := by decide +kernel
theorem dX7_tellsLevel_11 : decode cX7_tellsLevel 11 = .ok (.iconst 0, 1) := by decide +kernel
theorem dX7_tellsLevel_12 : decode cX7_tellsLevel 12 = .ok (.istore 7, 2) := by decide +kernel
theorem dX7_tellsLevel_14 : decode cX7_tellsLevel 14 = .ok (.iload 7, 2) := by decide +kernel
theorem dX7_tellsLevel_16 : decode cX7_tellsLevel 16 = .ok (.bipush 81, 2) := by decide +kernel
theorem dX7_tellsLevel_18 : decode cX7_tellsLevel 18 = .ok (.if_icmp .ge 103, 3) := by decide +kernel
theorem dX7_tellsLevel_21 : decode cX7_tellsLevel 21 = .ok (.iload 7, 2) := by decide +kernel
theorem dX7_tellsLevel_23 : decode cX7_tellsLevel 23 = .ok (.invokestatic 104, 3) := by decide +kernel
theorem dX7_tellsLevel_26 : decode cX7_tellsLevel 26 = .ok (.iload_n 1, 1) := by decide +kernel
theorem dX7_tellsLevel_27 : decode cX7_tellsLevel 27 = .ok (.if_icmp .ne 7, 3) := by decide +kernel
theorem dX7_tellsLevel_30 : decode cX7_tellsLevel 30 = .ok (.iconst 1, 1) := by decide +kernel
theorem dX7_tellsLevel_31 : decode cX7_tellsLevel 31 = .ok (.goto 4, 3) := by decide +kernel
theorem dX7_tellsLevel_34 : decode cX7_tellsLevel 34 = .ok (.iconst 0, 1) := by decide +kernel
theorem dX7_tellsLevel_35 : decode cX7_tellsLevel 35 = .ok (.istore 8, 2) := by decide +kernel
theorem dX7_tellsLevel_37 : decode cX7_tellsLevel 37 = .ok (.iload 8, 2) := by decide +kernel
theorem dX7_tellsLevel_39 : decode cX7_tellsLevel 39 = .ok (.ifCond .eq 16, 3) := by decide +kernel
theorem dX7_tellsLevel_42 : decode cX7_tellsLevel 42 = .ok (.aload_n 0, 1) := by decide +kernel
theorem dX7_tellsLevel_43 : decode cX7_tellsLevel 43 = .ok (.iload 7, 2) := by decide +kernel
theorem dX7_tellsLevel_45 : decode cX7_tellsLevel 45 = .ok (.invokevirtual 218, 3) := by decide +kernel
theorem dX7_tellsLevel_48 : decode cX7_tellsLevel 48 = .ok (.ifCond .eq 7, 3) := by decide +kernel
theorem dX7_tellsLevel_51 : decode cX7_tellsLevel 51 = .ok (.iconst 1, 1) := by decide +kernel
theorem dX7_tellsLevel_52 : decode cX7_tellsLevel 52 = .ok (.goto 4, 3) := by decide +kernel
theorem dX7_tellsLevel_55 : decode cX7_tellsLevel 55 = .ok (.iconst 0, 1) := by decide +kernel
theorem dX7_tellsLevel_56 : decode cX7_tellsLevel 56 = .ok (.istore 9, 2) := by decide +kernel
theorem dX7_tellsLevel_58 : decode cX7_tellsLevel 58 = .ok (.iload_n 3, 1) := by decide +kernel
theorem dX7_tellsLevel_59 : decode cX7_tellsLevel 59 = .ok (.iload 8, 2) := by decide +kernel
theorem dX7_tellsLevel_61 : decode cX7_tellsLevel 61 = .ok (.ifCond .eq 16, 3) := by decide +kernel
theorem dX7_tellsLevel_64 : decode cX7_tellsLevel 64 = .ok (.aload_n 0, 1) := by decide +kernel
theorem dX7_tellsLevel_65 : decode cX7_tellsLevel 65 = .ok (.iload 7, 2) := by decide +kernel
theorem dX7_tellsLevel_67 : decode cX7_tellsLevel 67 = .ok (.invokevirtual 88, 3) := by decide +kernel
theorem dX7_tellsLevel_70 : decode cX7_tellsLevel 70 = .ok (.ifCond .eq 7, 3) := by decide +kernel
theorem dX7_tellsLevel_73 : decode cX7_tellsLevel 73 = .ok (.iconst 1, 1) := by decide +kernel
theorem dX7_tellsLevel_74 : decode cX7_tellsLevel 74 = .ok (.goto 4, 3) := by decide +kernel
theorem dX7_tellsLevel_77 : decode cX7_tellsLevel 77 = .ok (.iconst 0, 1) := by decide +kernel
theorem dX7_tellsLevel_78 : decode cX7_tellsLevel 78 = .ok (.iadd, 1) := by decide +kernel
theorem dX7_tellsLevel_79 : decode cX7_tellsLevel 79 = .ok (.istore_n 3, 1) := by decide +kernel
theorem dX7_tellsLevel_80 : decode cX7_tellsLevel 80 = .ok (.iload 4, 2) := by decide +kernel
theorem dX7_tellsLevel_82 : decode cX7_tellsLevel 82 = .ok (.iload 9, 2) := by decide +kernel
theorem dX7_tellsLevel_84 : decode cX7_tellsLevel 84 = .ok (.ifCond .eq 7, 3) := by decide +kernel
theorem dX7_tellsLevel_87 : decode cX7_tellsLevel 87 = .ok (.iconst 1, 1) := by decide +kernel
theorem dX7_tellsLevel_88 : decode cX7_tellsLevel 88 = .ok (.goto 4, 3) := by decide +kernel
theorem dX7_tellsLevel_91 : decode cX7_tellsLevel 91 = .ok (.iconst 0, 1) := by decide +kernel
theorem dX7_tellsLevel_92 : decode cX7_tellsLevel 92 = .ok (.iadd, 1) := by decide +kernel
theorem dX7_tellsLevel_93 : decode cX7_tellsLevel 93 = .ok (.istore 4, 2) := by decide +kernel
theorem dX7_tellsLevel_95 : decode cX7_tellsLevel 95 = .ok (.iload 9, 2) := by decide +kernel
theorem dX7_tellsLevel_97 : decode cX7_tellsLevel 97 = .ok (.ifCond .eq 14, 3) := by decide +kernel
theorem dX7_tellsLevel_100 : decode cX7_tellsLevel 100 = .ok (.iload 6, 2) := by decide +kernel
theorem dX7_tellsLevel_102 : decode cX7_tellsLevel 102 = .ok (.iconst (-1), 1) := by decide +kernel
theorem dX7_tellsLevel_103 : decode cX7_tellsLevel 103 = .ok (.if_icmp .ne 8, 3) := by decide +kernel
theorem dX7_tellsLevel_106 : decode cX7_tellsLevel 106 = .ok (.iload 7, 2) := by decide +kernel
theorem dX7_tellsLevel_108 : decode cX7_tellsLevel 108 = .ok (.goto 5, 3) := by decide +kernel
theorem dX7_tellsLevel_111 : decode cX7_tellsLevel 111 = .ok (.iload 6, 2) := by decide +kernel
theorem dX7_tellsLevel_113 : decode cX7_tellsLevel 113 = .ok (.istore 6, 2) := by decide +kernel
theorem dX7_tellsLevel_115 : decode cX7_tellsLevel 115 = .ok (.iinc 7 1, 3) := by decide +kernel
theorem dX7_tellsLevel_118 : decode cX7_tellsLevel 118 = .ok (.goto (-104), 3) := by decide +kernel
theorem dX7_tellsLevel_121 : decode cX7_tellsLevel 121 = .ok (.iconst 0, 1) := by decide +kernel
theorem dX7_tellsLevel_122 : decode cX7_tellsLevel 122 = .ok (.istore 7, 2) := by decide +kernel
theorem dX7_tellsLevel_124 : decode cX7_tellsLevel 124 = .ok (.iload 7, 2) := by decide +kernel
theorem dX7_tellsLevel_126 : decode cX7_tellsLevel 126 = .ok (.aload_n 0, 1) := by decide +kernel
theorem dX7_tellsLevel_127 : decode cX7_tellsLevel 127 = .ok (.getfield 7, 3) := by decide +kernel
theorem dX7_tellsLevel_130 : decode cX7_tellsLevel 130 = .ok (.iconst 0, 1) := by decide +kernel
theorem dX7_tellsLevel_131 : decode cX7_tellsLevel 131 = .ok (.iaload, 1) := by decide +kernel
theorem dX7_tellsLevel_132 : decode cX7_tellsLevel 132 = .ok (.if_icmp .ge 33, 3) := by decide +kernel
theorem dX7_tellsLevel_135 : decode cX7_tellsLevel 135 = .ok (.iload 5, 2) := by decide +kernel
theorem dX7_tellsLevel_137 : decode cX7_tellsLevel 137 = .ok (.aload_n 0, 1) := by decide +kernel
theorem dX7_tellsLevel_138 : decode cX7_tellsLevel 138 = .ok (.iload 7, 2) := by decide +kernel
theorem dX7_tellsLevel_140 : decode cX7_tellsLevel 140 = .ok (.iconst 0, 1) := by decide +kernel
theorem dX7_tellsLevel_141 : decode cX7_tellsLevel 141 = .ok (.invokevirtual 85, 3) := by decide +kernel
theorem dX7_tellsLevel_144 : decode cX7_tellsLevel 144 = .ok (.invokestatic 104, 3) := by decide +kernel
theorem dX7_tellsLevel_147 : decode cX7_tellsLevel 147 = .ok (.iload_n 1, 1) := by decide +kernel
theorem dX7_tellsLevel_148 : decode cX7_tellsLevel 148 = .ok (.if_icmp .ne 7, 3) := by decide +kernel
theorem dX7_tellsLevel_151 : decode cX7_tellsLevel 151 = .ok (.iconst 1, 1) := by decide +kernel
theorem dX7_tellsLevel_152 : decode cX7_tellsLevel 152 = .ok (.goto 4, 3) := by decide +kernel
theorem dX7_tellsLevel_155 : decode cX7_tellsLevel 155 = .ok (.iconst 0, 1) := by decide +kernel
theorem dX7_tellsLevel_156 : decode cX7_tellsLevel 156 = .ok (.iadd, 1) := by decide +kernel
theorem dX7_tellsLevel_157 : decode cX7_tellsLevel 157 = .ok (.istore 5, 2) := by decide +kernel
theorem dX7_tellsLevel_159 : decode cX7_tellsLevel 159 = .ok (.iinc 7 1, 3) := by decide +kernel
theorem dX7_tellsLevel_162 : decode cX7_tellsLevel 162 = .ok (.goto (-38), 3) := by decide +kernel
theorem dX7_tellsLevel_165 : decode cX7_tellsLevel 165 = .ok (.iload_n 2, 1) := by decide +kernel
theorem dX7_tellsLevel_166 : decode cX7_tellsLevel 166 = .ok (.ifCond .ne 7, 3) := by decide +kernel
theorem dX7_tellsLevel_169 : decode cX7_tellsLevel 169 = .ok (.iload_n 3, 1) := by decide +kernel
theorem dX7_tellsLevel_170 : decode cX7_tellsLevel 170 = .ok (.goto 25, 3) := by decide +kernel
theorem dX7_tellsLevel_173 : decode cX7_tellsLevel 173 = .ok (.iload_n 2, 1) := by decide +kernel
theorem dX7_tellsLevel_174 : decode cX7_tellsLevel 174 = .ok (.iconst 1, 1) := by decide +kernel
theorem dX7_tellsLevel_175 : decode cX7_tellsLevel 175 = .ok (.if_icmp .ne 8, 3) := by decide +kernel
theorem dX7_tellsLevel_178 : decode cX7_tellsLevel 178 = .ok (.iload 4, 2) := by decide +kernel
theorem dX7_tellsLevel_180 : decode cX7_tellsLevel 180 = .ok (.goto 15, 3) := by decide +kernel
theorem dX7_tellsLevel_183 : decode cX7_tellsLevel 183 = .ok (.iload_n 2, 1) := by decide +kernel
theorem dX7_tellsLevel_184 : decode cX7_tellsLevel 184 = .ok (.iconst 2, 1) := by decide +kernel
theorem dX7_tellsLevel_185 : decode cX7_tellsLevel 185 = .ok (.if_icmp .ne 8, 3) := by decide +kernel
theorem dX7_tellsLevel_188 : decode cX7_tellsLevel 188 = .ok (.iload 5, 2) := by decide +kernel
theorem dX7_tellsLevel_190 : decode cX7_tellsLevel 190 = .ok (.goto 5, 3) := by decide +kernel
theorem dX7_tellsLevel_193 : decode cX7_tellsLevel 193 = .ok (.iload 6, 2) := by decide +kernel
theorem dX7_tellsLevel_195 : decode cX7_tellsLevel 195 = .ok (.ireturn, 1) := by decide +kernel
theorem dX7_level_0 : decode cX7_level 0 = .ok (.aload_n 0, 1) := by decide +kernel
theorem dX7_level_1 : decode cX7_level 1 = .ok (.iconst 0, 1) := by decide +kernel
theorem dX7_level_2 : decode cX7_level 2 = .ok (.putfield 53, 3) := by decide +kernel
theorem dX7_level_5 : decode cX7_level 5 = .ok (.iload_n 1, 1) := by decide +kernel
theorem dX7_level_6 : decode cX7_level 6 = .ok (.iconst 0, 1) := by decide +kernel
theorem dX7_level_7 : decode cX7_level 7 = .ok (.bipush 8, 2) := by decide +kernel
theorem dX7_level_9 : decode cX7_level 9 = .ok (.invokestatic 57, 3) := by decide +kernel
theorem dX7_level_12 : decode cX7_level 12 = .ok (.ifCond .ne 9, 3) := by decide +kernel
theorem dX7_level_15 : decode cX7_level 15 = .ok (.aload_n 0, 1) := by decide +kernel
theorem dX7_level_16 : decode cX7_level 16 = .ok (.iconst 1, 1) := by decide +kernel
theorem dX7_level_17 : decode cX7_level 17 = .ok (.invokevirtual 68, 3) := by decide +kernel
theorem dX7_level_20 : decode cX7_level 20 = .ok (.ireturn, 1) := by decide +kernel
theorem dX7_level_21 : decode cX7_level 21 = .ok (.iload_n 2, 1) := by decide +kernel
theorem dX7_level_22 : decode cX7_level 22 = .ok (.iconst 0, 1) := by decide +kernel
theorem dX7_level_23 : decode cX7_level 23 = .ok (.iconst 3, 1) := by decide +kernel
theorem dX7_level_24 : decode cX7_level 24 = .ok (.invokestatic 57, 3) := by decide +kernel
theorem dX7_level_27 : decode cX7_level 27 = .ok (.ifCond .eq 12, 3) := by decide +kernel
theorem dX7_level_30 : decode cX7_level 30 = .ok (.aload_n 0, 1) := by decide +kernel
theorem dX7_level_31 : decode cX7_level 31 = .ok (.iload_n 1, 1) := by decide +kernel
theorem dX7_level_32 : decode cX7_level 32 = .ok (.iload_n 2, 1) := by decide +kernel
theorem dX7_level_33 : decode cX7_level 33 = .ok (.invokevirtual 224, 3) := by decide +kernel
theorem dX7_level_36 : decode cX7_level 36 = .ok (.goto 8, 3) := by decide +kernel
theorem dX7_level_39 : decode cX7_level 39 = .ok (.aload_n 0, 1) := by decide +kernel
theorem dX7_level_40 : decode cX7_level 40 = .ok (.iconst 2, 1) := by decide +kernel
theorem dX7_level_41 : decode cX7_level 41 = .ok (.invokevirtual 68, 3) := by decide +kernel
theorem dX7_level_44 : decode cX7_level 44 = .ok (.ireturn, 1) := by decide +kernel
theorem dX7_crossedPairs_0 : decode cX7_crossedPairs 0 = .ok (.iconst 0, 1) := by decide +kernel
theorem dX7_crossedPairs_1 : decode cX7_crossedPairs 1 = .ok (.istore_n 1, 1) := by decide +kernel
theorem dX7_crossedPairs_2 : decode cX7_crossedPairs 2 = .ok (.iconst 0, 1) := by decide +kernel
theorem dX7_crossedPairs_3 : decode cX7_crossedPairs 3 = .ok (.istore_n 2, 1) := by decide +kernel
theorem dX7_crossedPairs_4 : decode cX7_crossedPairs 4 = .ok (.iload_n 2, 1) := by decide +kernel
theorem dX7_crossedPairs_5 : decode cX7_crossedPairs 5 = .ok (.aload_n 0, 1) := by decide +kernel
theorem dX7_crossedPairs_6 : decode cX7_crossedPairs 6 = .ok (.getfield 7, 3) := by decide +kernel
theorem dX7_crossedPairs_9 : decode cX7_crossedPairs 9 = .ok (.iconst 0, 1) := by decide +kernel
theorem dX7_crossedPairs_10 : decode cX7_crossedPairs 10 = .ok (.iaload, 1) := by decide +kernel
theorem dX7_crossedPairs_11 : decode cX7_crossedPairs 11 = .ok (.if_icmp .ge 48, 3) := by decide +kernel
theorem dX7_crossedPairs_14 : decode cX7_crossedPairs 14 = .ok (.iconst 0, 1) := by decide +kernel
theorem dX7_crossedPairs_15 : decode cX7_crossedPairs 15 = .ok (.istore_n 3, 1) := by decide +kernel
theorem dX7_crossedPairs_16 : decode cX7_crossedPairs 16 = .ok (.iload_n 3, 1) := by decide +kernel
theorem dX7_crossedPairs_17 : decode cX7_crossedPairs 17 = .ok (.iload_n 2, 1) := by decide +kernel
theorem dX7_crossedPairs_18 : decode cX7_crossedPairs 18 = .ok (.if_icmp .ge 35, 3) := by decide +kernel
theorem dX7_crossedPairs_21 : decode cX7_crossedPairs 21 = .ok (.iload_n 1, 1) := by decide +kernel
theorem dX7_crossedPairs_22 : decode cX7_crossedPairs 22 = .ok (.aload_n 0, 1) := by decide +kernel
theorem dX7_crossedPairs_23 : decode cX7_crossedPairs 23 = .ok (.iload_n 2, 1) := by decide +kernel
theorem dX7_crossedPairs_24 : decode cX7_crossedPairs 24 = .ok (.iconst 0, 1) := by decide +kernel
theorem dX7_crossedPairs_25 : decode cX7_crossedPairs 25 = .ok (.invokevirtual 85, 3) := by decide +kernel
theorem dX7_crossedPairs_28 : decode cX7_crossedPairs 28 = .ok (.aload_n 0, 1) := by decide +kernel
theorem dX7_crossedPairs_29 : decode cX7_crossedPairs 29 = .ok (.iload_n 3, 1) := by decide +kernel
theorem dX7_crossedPairs_30 : decode cX7_crossedPairs 30 = .ok (.iconst 0, 1) := by decide +kernel
theorem dX7_crossedPairs_31 : decode cX7_crossedPairs 31 = .ok (.invokevirtual 85, 3) := by decide +kernel
theorem dX7_crossedPairs_34 : decode cX7_crossedPairs 34 = .ok (.invokestatic 227, 3) := by decide +kernel
theorem dX7_crossedPairs_37 : decode cX7_crossedPairs 37 = .ok (.ifCond .eq 7, 3) := by decide +kernel
theorem dX7_crossedPairs_40 : decode cX7_crossedPairs 40 = .ok (.iconst 1, 1) := by decide +kernel
theorem dX7_crossedPairs_41 : decode cX7_crossedPairs 41 = .ok (.goto 4, 3) := by decide +kernel
theorem dX7_crossedPairs_44 : decode cX7_crossedPairs 44 = .ok (.iconst 0, 1) := by decide +kernel
theorem dX7_crossedPairs_45 : decode cX7_crossedPairs 45 = .ok (.iadd, 1) := by decide +kernel
theorem dX7_crossedPairs_46 : decode cX7_crossedPairs 46 = .ok (.istore_n 1, 1) := by decide +kernel
theorem dX7_crossedPairs_47 : decode cX7_crossedPairs 47 = .ok (.iinc 3 1, 3) := by decide +kernel
theorem dX7_crossedPairs_50 : decode cX7_crossedPairs 50 = .ok (.goto (-34), 3) := by decide +kernel
theorem dX7_crossedPairs_53 : decode cX7_crossedPairs 53 = .ok (.iinc 2 1, 3) := by decide +kernel
theorem dX7_crossedPairs_56 : decode cX7_crossedPairs 56 = .ok (.goto (-52), 3) := by decide +kernel
theorem dX7_crossedPairs_59 : decode cX7_crossedPairs 59 = .ok (.iload_n 1, 1) := by decide +kernel
theorem dX7_crossedPairs_60 : decode cX7_crossedPairs 60 = .ok (.ireturn, 1) := by decide +kernel
theorem dX7_lostKeys_0 : decode cX7_lostKeys 0 = .ok (.iconst 0, 1) := by decide +kernel
theorem dX7_lostKeys_1 : decode cX7_lostKeys 1 = .ok (.istore_n 1, 1) := by decide +kernel
theorem dX7_lostKeys_2 : decode cX7_lostKeys 2 = .ok (.iconst 0, 1) := by decide +kernel
theorem dX7_lostKeys_3 : decode cX7_lostKeys 3 = .ok (.istore_n 2, 1) := by decide +kernel
theorem dX7_lostKeys_4 : decode cX7_lostKeys 4 = .ok (.iload_n 2, 1) := by decide +kernel
theorem dX7_lostKeys_5 : decode cX7_lostKeys 5 = .ok (.aload_n 0, 1) := by decide +kernel
theorem dX7_lostKeys_6 : decode cX7_lostKeys 6 = .ok (.getfield 7, 3) := by decide +kernel
theorem dX7_lostKeys_9 : decode cX7_lostKeys 9 = .ok (.iconst 0, 1) := by decide +kernel
theorem dX7_lostKeys_10 : decode cX7_lostKeys 10 = .ok (.iaload, 1) := by decide +kernel
theorem dX7_lostKeys_11 : decode cX7_lostKeys 11 = .ok (.if_icmp .ge 18, 3) := by decide +kernel
theorem dX7_lostKeys_14 : decode cX7_lostKeys 14 = .ok (.iload_n 1, 1) := by decide +kernel
theorem dX7_lostKeys_15 : decode cX7_lostKeys 15 = .ok (.aload_n 0, 1) := by decide +kernel
theorem dX7_lostKeys_16 : decode cX7_lostKeys 16 = .ok (.iload_n 2, 1) := by decide +kernel
theorem dX7_lostKeys_17 : decode cX7_lostKeys 17 = .ok (.iconst 2, 1) := by decide +kernel
theorem dX7_lostKeys_18 : decode cX7_lostKeys 18 = .ok (.invokevirtual 85, 3) := by decide +kernel
theorem dX7_lostKeys_21 : decode cX7_lostKeys 21 = .ok (.iadd, 1) := by decide +kernel
theorem dX7_lostKeys_22 : decode cX7_lostKeys 22 = .ok (.istore_n 1, 1) := by decide +kernel
theorem dX7_lostKeys_23 : decode cX7_lostKeys 23 = .ok (.iinc 2 1, 3) := by decide +kernel
theorem dX7_lostKeys_26 : decode cX7_lostKeys 26 = .ok (.goto (-22), 3) := by decide +kernel
theorem dX7_lostKeys_29 : decode cX7_lostKeys 29 = .ok (.iload_n 1, 1) := by decide +kernel
theorem dX7_lostKeys_30 : decode cX7_lostKeys 30 = .ok (.ireturn, 1) := by decide +kernel
theorem dX7_locks_0 : decode cX7_locks 0 = .ok (.iconst 0, 1) := by decide +kernel
theorem dX7_locks_1 : decode cX7_locks 1 = .ok (.istore_n 1, 1) := by decide +kernel
theorem dX7_locks_2 : decode cX7_locks 2 = .ok (.iconst 0, 1) := by decide +kernel
theorem dX7_locks_3 : decode cX7_locks 3 = .ok (.istore_n 2, 1) := by decide +kernel
theorem dX7_locks_4 : decode cX7_locks 4 = .ok (.iload_n 2, 1) := by decide +kernel
theorem dX7_locks_5 : decode cX7_locks 5 = .ok (.bipush 6, 2) := by decide +kernel
theorem dX7_locks_7 : decode cX7_locks 7 = .ok (.if_icmp .ge 25, 3) := by decide +kernel
theorem dX7_locks_10 : decode cX7_locks 10 = .ok (.iload_n 1, 1) := by decide +kernel
theorem dX7_locks_11 : decode cX7_locks 11 = .ok (.aload_n 0, 1) := by decide +kernel
theorem dX7_locks_12 : decode cX7_locks 12 = .ok (.iload_n 2, 1) := by decide +kernel
theorem dX7_locks_13 : decode cX7_locks 13 = .ok (.invokevirtual 95, 3) := by decide +kernel
theorem dX7_locks_16 : decode cX7_locks 16 = .ok (.ifCond .eq 7, 3) := by decide +kernel
theorem dX7_locks_19 : decode cX7_locks 19 = .ok (.iconst 1, 1) := by decide +kernel
theorem dX7_locks_20 : decode cX7_locks 20 = .ok (.goto 4, 3) := by decide +kernel
theorem dX7_locks_23 : decode cX7_locks 23 = .ok (.iconst 0, 1) := by decide +kernel
theorem dX7_locks_24 : decode cX7_locks 24 = .ok (.iadd, 1) := by decide +kernel
theorem dX7_locks_25 : decode cX7_locks 25 = .ok (.istore_n 1, 1) := by decide +kernel
theorem dX7_locks_26 : decode cX7_locks 26 = .ok (.iinc 2 1, 3) := by decide +kernel
theorem dX7_locks_29 : decode cX7_locks 29 = .ok (.goto (-25), 3) := by decide +kernel
theorem dX7_locks_32 : decode cX7_locks 32 = .ok (.iload_n 1, 1) := by decide +kernel
theorem dX7_locks_33 : decode cX7_locks 33 = .ok (.ireturn, 1) := by decide +kernel
theorem dX7_codes_0 : decode cX7_codes 0 = .ok (.iconst 0, 1) := by decide +kernel
theorem dX7_codes_1 : decode cX7_codes 1 = .ok (.istore_n 2, 1) := by decide +kernel
theorem dX7_codes_2 : decode cX7_codes 2 = .ok (.iconst 0, 1) := by decide +kernel
theorem dX7_codes_3 : decode cX7_codes 3 = .ok (.istore_n 3, 1) := by decide +kernel
theorem dX7_codes_4 : decode cX7_codes 4 = .ok (.iload_n 3, 1) := by decide +kernel
theorem dX7_codes_5 : decode cX7_codes 5 = .ok (.bipush 81, 2) := by decide +kernel
theorem dX7_codes_7 : decode cX7_codes 7 = .ok (.if_icmp .ge 40, 3) := by decide +kernel
theorem dX7_codes_10 : decode cX7_codes 10 = .ok (.iload_n 2, 1) := by decide +kernel
theorem dX7_codes_11 : decode cX7_codes 11 = .ok (.iload_n 1, 1) := by decide +kernel
theorem dX7_codes_12 : decode cX7_codes 12 = .ok (.ifCond .eq 14, 3) := by decide +kernel
theorem dX7_codes_15 : decode cX7_codes 15 = .ok (.aload_n 0, 1) := by decide +kernel
theorem dX7_codes_16 : decode cX7_codes 16 = .ok (.iload_n 3, 1) := by decide +kernel
theorem dX7_codes_17 : decode cX7_codes 17 = .ok (.invokevirtual 218, 3) := by decide +kernel
theorem dX7_codes_20 : decode cX7_codes 20 = .ok (.ifCond .eq 18, 3) := by decide +kernel
theorem dX7_codes_23 : decode cX7_codes 23 = .ok (.goto 11, 3) := by decide +kernel
theorem dX7_codes_26 : decode cX7_codes 26 = .ok (.aload_n 0, 1) := by decide +kernel
theorem dX7_codes_27 : decode cX7_codes 27 = .ok (.iload_n 3, 1) := by decide +kernel
theorem dX7_codes_28 : decode cX7_codes 28 = .ok (.invokevirtual 88, 3) := by decide +kernel
theorem dX7_codes_31 : decode cX7_codes 31 = .ok (.ifCond .eq 7, 3) := by decide +kernel
theorem dX7_codes_34 : decode cX7_codes 34 = .ok (.iconst 1, 1) := by decide +kernel
theorem dX7_codes_35 : decode cX7_codes 35 = .ok (.goto 4, 3) := by decide +kernel
theorem dX7_codes_38 : decode cX7_codes 38 = .ok (.iconst 0, 1) := by decide +kernel
theorem dX7_codes_39 : decode cX7_codes 39 = .ok (.iadd, 1) := by decide +kernel
theorem dX7_codes_40 : decode cX7_codes 40 = .ok (.istore_n 2, 1) := by decide +kernel
theorem dX7_codes_41 : decode cX7_codes 41 = .ok (.iinc 3 1, 3) := by decide +kernel
theorem dX7_codes_44 : decode cX7_codes 44 = .ok (.goto (-40), 3) := by decide +kernel
theorem dX7_codes_47 : decode cX7_codes 47 = .ok (.iload_n 2, 1) := by decide +kernel
theorem dX7_codes_48 : decode cX7_codes 48 = .ok (.ireturn, 1) := by decide +kernel
theorem dX7_tellsCount_0 : decode cX7_tellsCount 0 = .ok (.iload_n 1, 1) := by decide +kernel
theorem dX7_tellsCount_1 : decode cX7_tellsCount 1 = .ok (.tableswitch 102 0 10 #[59, 66, 71, 76, 81, 81, 81, 81, 81, 90, 96], 59) := by decide +kernel
theorem dX7_tellsCount_60 : decode cX7_tellsCount 60 = .ok (.aload_n 0, 1) := by decide +kernel
theorem dX7_tellsCount_61 : decode cX7_tellsCount 61 = .ok (.getfield 7, 3) := by decide +kernel
theorem dX7_tellsCount_64 : decode cX7_tellsCount 64 = .ok (.iconst 0, 1) := by decide +kernel
theorem dX7_tellsCount_65 : decode cX7_tellsCount 65 = .ok (.iaload, 1) := by decide +kernel
theorem dX7_tellsCount_66 : decode cX7_tellsCount 66 = .ok (.ireturn, 1) := by decide +kernel
theorem dX7_tellsCount_67 : decode cX7_tellsCount 67 = .ok (.aload_n 0, 1) := by decide +kernel
theorem dX7_tellsCount_68 : decode cX7_tellsCount 68 = .ok (.invokevirtual 230, 3) := by decide +kernel
theorem dX7_tellsCount_71 : decode cX7_tellsCount 71 = .ok (.ireturn, 1) := by decide +kernel
theorem dX7_tellsCount_72 : decode cX7_tellsCount 72 = .ok (.aload_n 0, 1) := by decide +kernel
theorem dX7_tellsCount_73 : decode cX7_tellsCount 73 = .ok (.invokevirtual 233, 3) := by decide +kernel
theorem dX7_tellsCount_76 : decode cX7_tellsCount 76 = .ok (.ireturn, 1) := by decide +kernel
theorem dX7_tellsCount_77 : decode cX7_tellsCount 77 = .ok (.aload_n 0, 1) := by decide +kernel
theorem dX7_tellsCount_78 : decode cX7_tellsCount 78 = .ok (.invokevirtual 236, 3) := by decide +kernel
theorem dX7_tellsCount_81 : decode cX7_tellsCount 81 = .ok (.ireturn, 1) := by decide +kernel
theorem dX7_tellsCount_82 : decode cX7_tellsCount 82 = .ok (.aload_n 0, 1) := by decide +kernel
theorem dX7_tellsCount_83 : decode cX7_tellsCount 83 = .ok (.getfield 7, 3) := by decide +kernel
theorem dX7_tellsCount_86 : decode cX7_tellsCount 86 = .ok (.iload_n 1, 1) := by decide +kernel
theorem dX7_tellsCount_87 : decode cX7_tellsCount 87 = .ok (.iconst 3, 1) := by decide +kernel
theorem dX7_tellsCount_88 : decode cX7_tellsCount 88 = .ok (.isub, 1) := by decide +kernel
theorem dX7_tellsCount_89 : decode cX7_tellsCount 89 = .ok (.iaload, 1) := by decide +kernel
theorem dX7_tellsCount_90 : decode cX7_tellsCount 90 = .ok (.ireturn, 1) := by decide +kernel
theorem dX7_tellsCount_91 : decode cX7_tellsCount 91 = .ok (.aload_n 0, 1) := by decide +kernel
theorem dX7_tellsCount_92 : decode cX7_tellsCount 92 = .ok (.iconst 0, 1) := by decide +kernel
theorem dX7_tellsCount_93 : decode cX7_tellsCount 93 = .ok (.invokevirtual 239, 3) := by decide +kernel
theorem dX7_tellsCount_96 : decode cX7_tellsCount 96 = .ok (.ireturn, 1) := by decide +kernel
theorem dX7_tellsCount_97 : decode cX7_tellsCount 97 = .ok (.aload_n 0, 1) := by decide +kernel
theorem dX7_tellsCount_98 : decode cX7_tellsCount 98 = .ok (.iconst 1, 1) := by decide +kernel
theorem dX7_tellsCount_99 : decode cX7_tellsCount 99 = .ok (.invokevirtual 239, 3) := by decide +kernel
theorem dX7_tellsCount_102 : decode cX7_tellsCount 102 = .ok (.ireturn, 1) := by decide +kernel
theorem dX7_tellsCount_103 : decode cX7_tellsCount 103 = .ok (.aload_n 0, 1) := by decide +kernel
theorem dX7_tellsCount_104 : decode cX7_tellsCount 104 = .ok (.getfield 65, 3) := by decide +kernel
theorem dX7_tellsCount_107 : decode cX7_tellsCount 107 = .ok (.ireturn, 1) := by decide +kernel
theorem dX7_count_0 : decode cX7_count 0 = .ok (.aload_n 0, 1) := by decide +kernel
theorem dX7_count_1 : decode cX7_count 1 = .ok (.iconst 0, 1) := by decide +kernel
theorem dX7_count_2 : decode cX7_count 2 = .ok (.putfield 53, 3) := by decide +kernel
theorem dX7_count_5 : decode cX7_count 5 = .ok (.iload_n 1, 1) := by decide +kernel
theorem dX7_count_6 : decode cX7_count 6 = .ok (.iconst 0, 1) := by decide +kernel
theorem dX7_count_7 : decode cX7_count 7 = .ok (.bipush 11, 2) := by decide +kernel
theorem dX7_count_9 : decode cX7_count 9 = .ok (.invokestatic 57, 3) := by decide +kernel
theorem dX7_count_12 : decode cX7_count 12 = .ok (.ifCond .eq 11, 3) := by decide +kernel
theorem dX7_count_15 : decode cX7_count 15 = .ok (.aload_n 0, 1) := by decide +kernel
theorem dX7_count_16 : decode cX7_count 16 = .ok (.iload_n 1, 1) := by decide +kernel
theorem dX7_count_17 : decode cX7_count 17 = .ok (.invokevirtual 243, 3) := by decide +kernel
theorem dX7_count_20 : decode cX7_count 20 = .ok (.goto 8, 3) := by decide +kernel
theorem dX7_count_23 : decode cX7_count 23 = .ok (.aload_n 0, 1) := by decide +kernel
theorem dX7_count_24 : decode cX7_count 24 = .ok (.iconst 1, 1) := by decide +kernel
theorem dX7_count_25 : decode cX7_count 25 = .ok (.invokevirtual 68, 3) := by decide +kernel
theorem dX7_count_28 : decode cX7_count 28 = .ok (.ireturn, 1) := by decide +kernel
theorem dX7_setting_0 : decode cX7_setting 0 = .ok (.aload_n 0, 1) := by decide +kernel
theorem dX7_setting_1 : decode cX7_setting 1 = .ok (.iconst 0, 1) := by decide +kernel
theorem dX7_setting_2 : decode cX7_setting 2 = .ok (.putfield 53, 3) := by decide +kernel
theorem dX7_setting_5 : decode cX7_setting 5 = .ok (.iload_n 1, 1) := by decide +kernel
theorem dX7_setting_6 : decode cX7_setting 6 = .ok (.iconst 0, 1) := by decide +kernel
theorem dX7_setting_7 : decode cX7_setting 7 = .ok (.iconst 3, 1) := by decide +kernel
theorem dX7_setting_8 : decode cX7_setting 8 = .ok (.invokestatic 57, 3) := by decide +kernel
theorem dX7_setting_11 : decode cX7_setting 11 = .ok (.ifCond .eq 15, 3) := by decide +kernel
theorem dX7_setting_14 : decode cX7_setting 14 = .ok (.aload_n 0, 1) := by decide +kernel
theorem dX7_setting_15 : decode cX7_setting 15 = .ok (.getfield 7, 3) := by decide +kernel
theorem dX7_setting_18 : decode cX7_setting 18 = .ok (.bipush 8, 2) := by decide +kernel
theorem dX7_setting_20 : decode cX7_setting 20 = .ok (.iload_n 1, 1) := by decide +kernel
theorem dX7_setting_21 : decode cX7_setting 21 = .ok (.iadd, 1) := by decide +kernel
theorem dX7_setting_22 : decode cX7_setting 22 = .ok (.iaload, 1) := by decide +kernel
theorem dX7_setting_23 : decode cX7_setting 23 = .ok (.goto 8, 3) := by decide +kernel
theorem dX7_setting_26 : decode cX7_setting 26 = .ok (.aload_n 0, 1) := by decide +kernel
theorem dX7_setting_27 : decode cX7_setting 27 = .ok (.iconst 1, 1) := by decide +kernel
theorem dX7_setting_28 : decode cX7_setting 28 = .ok (.invokevirtual 68, 3) := by decide +kernel
theorem dX7_setting_31 : decode cX7_setting 31 = .ok (.ireturn, 1) := by decide +kernel
theorem dX7_why_0 : decode cX7_why 0 = .ok (.aload_n 0, 1) := by decide +kernel
theorem dX7_why_1 : decode cX7_why 1 = .ok (.iconst 0, 1) := by decide +kernel
theorem dX7_why_2 : decode cX7_why 2 = .ok (.putfield 53, 3) := by decide +kernel
theorem dX7_why_5 : decode cX7_why 5 = .ok (.aload_n 0, 1) := by decide +kernel
theorem dX7_why_6 : decode cX7_why 6 = .ok (.iload_n 1, 1) := by decide +kernel
theorem dX7_why_7 : decode cX7_why 7 = .ok (.invokevirtual 131, 3) := by decide +kernel
theorem dX7_why_10 : decode cX7_why 10 = .ok (.ifCond .eq 19, 3) := by decide +kernel
theorem dX7_why_13 : decode cX7_why 13 = .ok (.iload_n 2, 1) := by decide +kernel
theorem dX7_why_14 : decode cX7_why 14 = .ok (.invokestatic 134, 3) := by decide +kernel
theorem dX7_why_17 : decode cX7_why 17 = .ok (.ifCond .eq 12, 3) := by decide +kernel
theorem dX7_why_20 : decode cX7_why 20 = .ok (.aload_n 0, 1) := by decide +kernel
theorem dX7_why_21 : decode cX7_why 21 = .ok (.iload_n 1, 1) := by decide +kernel
theorem dX7_why_22 : decode cX7_why 22 = .ok (.iload_n 2, 1) := by decide +kernel
theorem dX7_why_23 : decode cX7_why 23 = .ok (.invokevirtual 137, 3) := by decide +kernel
theorem dX7_why_26 : decode cX7_why 26 = .ok (.goto 8, 3) := by decide +kernel
theorem dX7_why_29 : decode cX7_why 29 = .ok (.aload_n 0, 1) := by decide +kernel
theorem dX7_why_30 : decode cX7_why 30 = .ok (.iconst 1, 1) := by decide +kernel
theorem dX7_why_31 : decode cX7_why 31 = .ok (.invokevirtual 68, 3) := by decide +kernel
theorem dX7_why_34 : decode cX7_why 34 = .ok (.ireturn, 1) := by decide +kernel
theorem dX7_stopped_0 : decode cX7_stopped 0 = .ok (.aload_n 0, 1) := by decide +kernel
theorem dX7_stopped_1 : decode cX7_stopped 1 = .ok (.iconst 0, 1) := by decide +kernel
theorem dX7_stopped_2 : decode cX7_stopped 2 = .ok (.putfield 53, 3) := by decide +kernel
theorem dX7_stopped_5 : decode cX7_stopped 5 = .ok (.iload_n 1, 1) := by decide +kernel
theorem dX7_stopped_6 : decode cX7_stopped 6 = .ok (.iconst 0, 1) := by decide +kernel
theorem dX7_stopped_7 : decode cX7_stopped 7 = .ok (.iconst 1, 1) := by decide +kernel
theorem dX7_stopped_8 : decode cX7_stopped 8 = .ok (.invokestatic 57, 3) := by decide +kernel
theorem dX7_stopped_11 : decode cX7_stopped 11 = .ok (.ifCond .eq 15, 3) := by decide +kernel
theorem dX7_stopped_14 : decode cX7_stopped 14 = .ok (.aload_n 0, 1) := by decide +kernel
theorem dX7_stopped_15 : decode cX7_stopped 15 = .ok (.getfield 7, 3) := by decide +kernel
theorem dX7_stopped_18 : decode cX7_stopped 18 = .ok (.bipush 6, 2) := by decide +kernel
theorem dX7_stopped_20 : decode cX7_stopped 20 = .ok (.iload_n 1, 1) := by decide +kernel
theorem dX7_stopped_21 : decode cX7_stopped 21 = .ok (.iadd, 1) := by decide +kernel
theorem dX7_stopped_22 : decode cX7_stopped 22 = .ok (.iaload, 1) := by decide +kernel
theorem dX7_stopped_23 : decode cX7_stopped 23 = .ok (.goto 8, 3) := by decide +kernel
theorem dX7_stopped_26 : decode cX7_stopped 26 = .ok (.aload_n 0, 1) := by decide +kernel
theorem dX7_stopped_27 : decode cX7_stopped 27 = .ok (.iconst 1, 1) := by decide +kernel
theorem dX7_stopped_28 : decode cX7_stopped 28 = .ok (.invokevirtual 68, 3) := by decide +kernel
theorem dX7_stopped_31 : decode cX7_stopped 31 = .ok (.ireturn, 1) := by decide +kernel
theorem dX7_matches_0 : decode cX7_matches 0 = .ok (.iconst 0, 1) := by decide +kernel
theorem dX7_matches_1 : decode cX7_matches 1 = .ok (.istore_n 2, 1) := by decide +kernel
theorem dX7_matches_2 : decode cX7_matches 2 = .ok (.iload_n 2, 1) := by decide +kernel
theorem dX7_matches_3 : decode cX7_matches 3 = .ok (.bipush 81, 2) := by decide +kernel
theorem dX7_matches_5 : decode cX7_matches 5 = .ok (.if_icmp .ge 16, 3) := by decide +kernel
theorem dX7_matches_8 : decode cX7_matches 8 = .ok (.aload_n 0, 1) := by decide +kernel
theorem dX7_matches_9 : decode cX7_matches 9 = .ok (.getfield 37, 3) := by decide +kernel
theorem dX7_matches_12 : decode cX7_matches 12 = .ok (.iload_n 2, 1) := by decide +kernel
theorem dX7_matches_13 : decode cX7_matches 13 = .ok (.iconst (-1), 1) := by decide +kernel
theorem dX7_matches_14 : decode cX7_matches 14 = .ok (.iastore, 1) := by decide +kernel
theorem dX7_matches_15 : decode cX7_matches 15 = .ok (.iinc 2 1, 3) := by decide +kernel
theorem dX7_matches_18 : decode cX7_matches 18 = .ok (.goto (-16), 3) := by decide +kernel
theorem dX7_matches_21 : decode cX7_matches 21 = .ok (.aload_n 0, 1) := by decide +kernel
theorem dX7_matches_22 : decode cX7_matches 22 = .ok (.getfield 40, 3) := by decide +kernel
theorem dX7_matches_25 : decode cX7_matches 25 = .ok (.iconst 0, 1) := by decide +kernel
theorem dX7_matches_26 : decode cX7_matches 26 = .ok (.iload_n 1, 1) := by decide +kernel
theorem dX7_matches_27 : decode cX7_matches 27 = .ok (.iastore, 1) := by decide +kernel
theorem dX7_matches_28 : decode cX7_matches 28 = .ok (.iconst 1, 1) := by decide +kernel
theorem dX7_matches_29 : decode cX7_matches 29 = .ok (.istore_n 2, 1) := by decide +kernel
theorem dX7_matches_30 : decode cX7_matches 30 = .ok (.iconst 0, 1) := by decide +kernel
theorem dX7_matches_31 : decode cX7_matches 31 = .ok (.istore_n 3, 1) := by decide +kernel
theorem dX7_matches_32 : decode cX7_matches 32 = .ok (.iload_n 3, 1) := by decide +kernel
theorem dX7_matches_33 : decode cX7_matches 33 = .ok (.iload_n 2, 1) := by decide +kernel
theorem dX7_matches_34 : decode cX7_matches 34 = .ok (.if_icmp .ge 126, 3) := by decide +kernel
theorem dX7_matches_37 : decode cX7_matches 37 = .ok (.aload_n 0, 1) := by decide +kernel
theorem dX7_matches_38 : decode cX7_matches 38 = .ok (.getfield 22, 3) := by decide +kernel
theorem dX7_matches_41 : decode cX7_matches 41 = .ok (.aload_n 0, 1) := by decide +kernel
theorem dX7_matches_42 : decode cX7_matches 42 = .ok (.getfield 40, 3) := by decide +kernel
theorem dX7_matches_45 : decode cX7_matches 45 = .ok (.iload_n 3, 1) := by decide +kernel
theorem dX7_matches_46 : decode cX7_matches 46 = .ok (.iaload, 1) := by decide +kernel
theorem dX7_matches_47 : decode cX7_matches 47 = .ok (.iaload, 1) := by decide +kernel
theorem dX7_matches_48 : decode cX7_matches 48 = .ok (.istore 4, 2) := by decide +kernel
theorem dX7_matches_50 : decode cX7_matches 50 = .ok (.iload 4, 2) := by decide +kernel
theorem dX7_matches_52 : decode cX7_matches 52 = .ok (.aload_n 0, 1) := by decide +kernel
theorem dX7_matches_53 : decode cX7_matches 53 = .ok (.getfield 22, 3) := by decide +kernel
theorem dX7_matches_56 : decode cX7_matches 56 = .ok (.aload_n 0, 1) := by decide +kernel
theorem dX7_matches_57 : decode cX7_matches 57 = .ok (.getfield 40, 3) := by decide +kernel
theorem dX7_matches_60 : decode cX7_matches 60 = .ok (.iload_n 3, 1) := by decide +kernel
theorem dX7_matches_61 : decode cX7_matches 61 = .ok (.iaload, 1) := by decide +kernel
theorem dX7_matches_62 : decode cX7_matches 62 = .ok (.iconst 1, 1) := by decide +kernel
theorem dX7_matches_63 : decode cX7_matches 63 = .ok (.iadd, 1) := by decide +kernel
theorem dX7_matches_64 : decode cX7_matches 64 = .ok (.iaload, 1) := by decide +kernel
theorem dX7_matches_65 : decode cX7_matches 65 = .ok (.if_icmp .ge 89, 3) := by decide +kernel
theorem dX7_matches_68 : decode cX7_matches 68 = .ok (.aload_n 0, 1) := by decide +kernel
theorem dX7_matches_69 : decode cX7_matches 69 = .ok (.getfield 25, 3) := by decide +kernel
theorem dX7_matches_72 : decode cX7_matches 72 = .ok (.iload 4, 2) := by decide +kernel
theorem dX7_matches_74 : decode cX7_matches 74 = .ok (.iaload, 1) := by decide +kernel
theorem dX7_matches_75 : decode cX7_matches 75 = .ok (.istore 5, 2) := by decide +kernel
theorem dX7_matches_77 : decode cX7_matches 77 = .ok (.aload_n 0, 1) := by decide +kernel
theorem dX7_matches_78 : decode cX7_matches 78 = .ok (.getfield 28, 3) := by decide +kernel
theorem dX7_matches_81 : decode cX7_matches 81 = .ok (.iload 5, 2) := by decide +kernel
theorem dX7_matches_83 : decode cX7_matches 83 = .ok (.iaload, 1) := by decide +kernel
theorem dX7_matches_84 : decode cX7_matches 84 = .ok (.iconst 1, 1) := by decide +kernel
theorem dX7_matches_85 : decode cX7_matches 85 = .ok (.if_icmp .ne 63, 3) := by decide +kernel
theorem dX7_matches_88 : decode cX7_matches 88 = .ok (.aload_n 0, 1) := by decide +kernel
theorem dX7_matches_89 : decode cX7_matches 89 = .ok (.getfield 37, 3) := by decide +kernel
theorem dX7_matches_92 : decode cX7_matches 92 = .ok (.iload 5, 2) := by decide +kernel
theorem dX7_matches_94 : decode cX7_matches 94 = .ok (.iaload, 1) := by decide +kernel
theorem dX7_matches_95 : decode cX7_matches 95 = .ok (.iconst (-1), 1) := by decide +kernel
theorem dX7_matches_96 : decode cX7_matches 96 = .ok (.if_icmp .ne 52, 3) := by decide +kernel
theorem dX7_matches_99 : decode cX7_matches 99 = .ok (.aload_n 0, 1) := by decide +kernel
theorem dX7_matches_100 : decode cX7_matches 100 = .ok (.getfield 37, 3) := by decide +kernel
theorem dX7_matches_103 : decode cX7_matches 103 = .ok (.iload 5, 2) := by decide +kernel
theorem dX7_matches_105 : decode cX7_matches 105 = .ok (.aload_n 0, 1) := by decide +kernel
theorem dX7_matches_106 : decode cX7_matches 106 = .ok (.getfield 40, 3) := by decide +kernel
theorem dX7_matches_109 : decode cX7_matches 109 = .ok (.iload_n 3, 1) := by decide +kernel
theorem dX7_matches_110 : decode cX7_matches 110 = .ok (.iaload, 1) := by decide +kernel
theorem dX7_matches_111 : decode cX7_matches 111 = .ok (.iastore, 1) := by decide +kernel
theorem dX7_matches_112 : decode cX7_matches 112 = .ok (.aload_n 0, 1) := by decide +kernel
theorem dX7_matches_113 : decode cX7_matches 113 = .ok (.getfield 34, 3) := by decide +kernel
theorem dX7_matches_116 : decode cX7_matches 116 = .ok (.iload 5, 2) := by decide +kernel
theorem dX7_matches_118 : decode cX7_matches 118 = .ok (.iaload, 1) := by decide +kernel
theorem dX7_matches_119 : decode cX7_matches 119 = .ok (.iconst (-1), 1) := by decide +kernel
theorem dX7_matches_120 : decode cX7_matches 120 = .ok (.if_icmp .ne 12, 3) := by decide +kernel
theorem dX7_matches_123 : decode cX7_matches 123 = .ok (.aload_n 0, 1) := by decide +kernel
theorem dX7_matches_124 : decode cX7_matches 124 = .ok (.iload_n 1, 1) := by decide +kernel
theorem dX7_matches_125 : decode cX7_matches 125 = .ok (.iload 5, 2) := by decide +kernel
theorem dX7_matches_127 : decode cX7_matches 127 = .ok (.invokevirtual 246, 3) := by decide +kernel
theorem dX7_matches_130 : decode cX7_matches 130 = .ok (.iconst 1, 1) := by decide +kernel
theorem dX7_matches_131 : decode cX7_matches 131 = .ok (.ireturn, 1) := by decide +kernel
theorem dX7_matches_132 : decode cX7_matches 132 = .ok (.aload_n 0, 1) := by decide +kernel
theorem dX7_matches_133 : decode cX7_matches 133 = .ok (.getfield 40, 3) := by decide +kernel
theorem dX7_matches_136 : decode cX7_matches 136 = .ok (.iload_n 2, 1) := by decide +kernel
theorem dX7_matches_137 : decode cX7_matches 137 = .ok (.aload_n 0, 1) := by decide +kernel
theorem dX7_matches_138 : decode cX7_matches 138 = .ok (.getfield 34, 3) := by decide +kernel
theorem dX7_matches_141 : decode cX7_matches 141 = .ok (.iload 5, 2) := by decide +kernel
theorem dX7_matches_143 : decode cX7_matches 143 = .ok (.iaload, 1) := by decide +kernel
theorem dX7_matches_144 : decode cX7_matches 144 = .ok (.iastore, 1) := by decide +kernel
theorem dX7_matches_145 : decode cX7_matches 145 = .ok (.iinc 2 1, 3) := by decide +kernel
theorem dX7_matches_148 : decode cX7_matches 148 = .ok (.iinc 4 1, 3) := by decide +kernel
theorem dX7_matches_151 : decode cX7_matches 151 = .ok (.goto (-101), 3) := by decide +kernel
theorem dX7_matches_154 : decode cX7_matches 154 = .ok (.iinc 3 1, 3) := by decide +kernel
theorem dX7_matches_157 : decode cX7_matches 157 = .ok (.goto (-125), 3) := by decide +kernel
theorem dX7_matches_160 : decode cX7_matches 160 = .ok (.iconst 0, 1) := by decide +kernel
theorem dX7_matches_161 : decode cX7_matches 161 = .ok (.ireturn, 1) := by decide +kernel
theorem dX7_matchBack_0 : decode cX7_matchBack 0 = .ok (.iload_n 2, 1) := by decide +kernel
theorem dX7_matchBack_1 : decode cX7_matchBack 1 = .ok (.istore_n 3, 1) := by decide +kernel
theorem dX7_matchBack_2 : decode cX7_matchBack 2 = .ok (.iconst 1, 1) := by decide +kernel
theorem dX7_matchBack_3 : decode cX7_matchBack 3 = .ok (.istore 4, 2) := by decide +kernel
theorem dX7_matchBack_5 : decode cX7_matchBack 5 = .ok (.iload 4, 2) := by decide +kernel
theorem dX7_matchBack_7 : decode cX7_matchBack 7 = .ok (.ifCond .eq 55, 3) := by decide +kernel
theorem dX7_matchBack_10 : decode cX7_matchBack 10 = .ok (.aload_n 0, 1) := by decide +kernel
theorem dX7_matchBack_11 : decode cX7_matchBack 11 = .ok (.getfield 37, 3) := by decide +kernel
theorem dX7_matchBack_14 : decode cX7_matchBack 14 = .ok (.iload_n 3, 1) := by decide +kernel
theorem dX7_matchBack_15 : decode cX7_matchBack 15 = .ok (.iaload, 1) := by decide +kernel
theorem dX7_matchBack_16 : decode cX7_matchBack 16 = .ok (.istore 5, 2) := by decide +kernel
theorem dX7_matchBack_18 : decode cX7_matchBack 18 = .ok (.aload_n 0, 1) := by decide +kernel
theorem dX7_matchBack_19 : decode cX7_matchBack 19 = .ok (.getfield 31, 3) := by decide +kernel
theorem dX7_matchBack_22 : decode cX7_matchBack 22 = .ok (.iload 5, 2) := by decide +kernel
theorem dX7_matchBack_24 : decode cX7_matchBack 24 = .ok (.iaload, 1) := by decide +kernel
theorem dX7_matchBack_25 : decode cX7_matchBack 25 = .ok (.istore 6, 2) := by decide +kernel
theorem dX7_matchBack_27 : decode cX7_matchBack 27 = .ok (.aload_n 0, 1) := by decide +kernel
theorem dX7_matchBack_28 : decode cX7_matchBack 28 = .ok (.getfield 31, 3) := by decide +kernel
theorem dX7_matchBack_31 : decode cX7_matchBack 31 = .ok (.iload 5, 2) := by decide +kernel
theorem dX7_matchBack_33 : decode cX7_matchBack 33 = .ok (.iload_n 3, 1) := by decide +kernel
theorem dX7_matchBack_34 : decode cX7_matchBack 34 = .ok (.iastore, 1) := by decide +kernel
theorem dX7_matchBack_35 : decode cX7_matchBack 35 = .ok (.aload_n 0, 1) := by decide +kernel
theorem dX7_matchBack_36 : decode cX7_matchBack 36 = .ok (.getfield 34, 3) := by decide +kernel
theorem dX7_matchBack_39 : decode cX7_matchBack 39 = .ok (.iload_n 3, 1) := by decide +kernel
theorem dX7_matchBack_40 : decode cX7_matchBack 40 = .ok (.iload 5, 2) := by decide +kernel
theorem dX7_matchBack_42 : decode cX7_matchBack 42 = .ok (.iastore, 1) := by decide +kernel
theorem dX7_matchBack_43 : decode cX7_matchBack 43 = .ok (.iload 6, 2) := by decide +kernel
theorem dX7_matchBack_45 : decode cX7_matchBack 45 = .ok (.istore_n 3, 1) := by decide +kernel
theorem dX7_matchBack_46 : decode cX7_matchBack 46 = .ok (.iload 5, 2) := by decide +kernel
theorem dX7_matchBack_48 : decode cX7_matchBack 48 = .ok (.iload_n 1, 1) := by decide +kernel
theorem dX7_matchBack_49 : decode cX7_matchBack 49 = .ok (.if_icmp .eq 7, 3) := by decide +kernel
theorem dX7_matchBack_52 : decode cX7_matchBack 52 = .ok (.iconst 1, 1) := by decide +kernel
theorem dX7_matchBack_53 : decode cX7_matchBack 53 = .ok (.goto 4, 3) := by decide +kernel
theorem dX7_matchBack_56 : decode cX7_matchBack 56 = .ok (.iconst 0, 1) := by decide +kernel
theorem dX7_matchBack_57 : decode cX7_matchBack 57 = .ok (.istore 4, 2) := by decide +kernel
theorem dX7_matchBack_59 : decode cX7_matchBack 59 = .ok (.goto (-54), 3) := by decide +kernel
theorem dX7_matchBack_62 : decode cX7_matchBack 62 = .ok (.return_, 1) := by decide +kernel
theorem dX7_fewestChains_0 : decode cX7_fewestChains 0 = .ok (.iconst 0, 1) := by decide +kernel
theorem dX7_fewestChains_1 : decode cX7_fewestChains 1 = .ok (.istore_n 1, 1) := by decide +kernel
theorem dX7_fewestChains_2 : decode cX7_fewestChains 2 = .ok (.iconst 0, 1) := by decide +kernel
theorem dX7_fewestChains_3 : decode cX7_fewestChains 3 = .ok (.istore_n 2, 1) := by decide +kernel
theorem dX7_fewestChains_4 : decode cX7_fewestChains 4 = .ok (.iload_n 2, 1) := by decide +kernel
theorem dX7_fewestChains_5 : decode cX7_fewestChains 5 = .ok (.bipush 81, 2) := by decide +kernel
theorem dX7_fewestChains_7 : decode cX7_fewestChains 7 = .ok (.if_icmp .ge 23, 3) := by decide +kernel
theorem dX7_fewestChains_10 : decode cX7_fewestChains 10 = .ok (.aload_n 0, 1) := by decide +kernel
theorem dX7_fewestChains_11 : decode cX7_fewestChains 11 = .ok (.getfield 31, 3) := by decide +kernel
theorem dX7_fewestChains_14 : decode cX7_fewestChains 14 = .ok (.iload_n 2, 1) := by decide +kernel
theorem dX7_fewestChains_15 : decode cX7_fewestChains 15 = .ok (.iconst (-1), 1) := by decide +kernel
theorem dX7_fewestChains_16 : decode cX7_fewestChains 16 = .ok (.iastore, 1) := by decide +kernel
theorem dX7_fewestChains_17 : decode cX7_fewestChains 17 = .ok (.aload_n 0, 1) := by decide +kernel
theorem dX7_fewestChains_18 : decode cX7_fewestChains 18 = .ok (.getfield 34, 3) := by decide +kernel
theorem dX7_fewestChains_21 : decode cX7_fewestChains 21 = .ok (.iload_n 2, 1) := by decide +kernel
theorem dX7_fewestChains_22 : decode cX7_fewestChains 22 = .ok (.iconst (-1), 1) := by decide +kernel
theorem dX7_fewestChains_23 : decode cX7_fewestChains 23 = .ok (.iastore, 1) := by decide +kernel
theorem dX7_fewestChains_24 : decode cX7_fewestChains 24 = .ok (.iinc 2 1, 3) := by decide +kernel
theorem dX7_fewestChains_27 : decode cX7_fewestChains 27 = .ok (.goto (-23), 3) := by decide +kernel
theorem dX7_fewestChains_30 : decode cX7_fewestChains 30 = .ok (.iconst 0, 1) := by decide +kernel
theorem dX7_fewestChains_31 : decode cX7_fewestChains 31 = .ok (.istore_n 2, 1) := by decide +kernel
theorem dX7_fewestChains_32 : decode cX7_fewestChains 32 = .ok (.iload_n 2, 1) := by decide +kernel
theorem dX7_fewestChains_33 : decode cX7_fewestChains 33 = .ok (.bipush 81, 2) := by decide +kernel
theorem dX7_fewestChains_35 : decode cX7_fewestChains 35 = .ok (.if_icmp .ge 35, 3) := by decide +kernel
theorem dX7_fewestChains_38 : decode cX7_fewestChains 38 = .ok (.iload_n 1, 1) := by decide +kernel
theorem dX7_fewestChains_39 : decode cX7_fewestChains 39 = .ok (.aload_n 0, 1) := by decide +kernel
theorem dX7_fewestChains_40 : decode cX7_fewestChains 40 = .ok (.getfield 28, 3) := by decide +kernel
theorem dX7_fewestChains_43 : decode cX7_fewestChains 43 = .ok (.iload_n 2, 1) := by decide +kernel
theorem dX7_fewestChains_44 : decode cX7_fewestChains 44 = .ok (.iaload, 1) := by decide +kernel
theorem dX7_fewestChains_45 : decode cX7_fewestChains 45 = .ok (.iconst 1, 1) := by decide +kernel
theorem dX7_fewestChains_46 : decode cX7_fewestChains 46 = .ok (.if_icmp .ne 15, 3) := by decide +kernel
theorem dX7_fewestChains_49 : decode cX7_fewestChains 49 = .ok (.aload_n 0, 1) := by decide +kernel
theorem dX7_fewestChains_50 : decode cX7_fewestChains 50 = .ok (.iload_n 2, 1) := by decide +kernel
theorem dX7_fewestChains_51 : decode cX7_fewestChains 51 = .ok (.invokevirtual 250, 3) := by decide +kernel
theorem dX7_fewestChains_54 : decode cX7_fewestChains 54 = .ok (.ifCond .ne 7, 3) := by decide +kernel
theorem dX7_fewestChains_57 : decode cX7_fewestChains 57 = .ok (.iconst 1, 1) := by decide +kernel
theorem dX7_fewestChains_58 : decode cX7_fewestChains 58 = .ok (.goto 4, 3) := by decide +kernel
theorem dX7_fewestChains_61 : decode cX7_fewestChains 61 = .ok (.iconst 0, 1) := by decide +kernel
theorem dX7_fewestChains_62 : decode cX7_fewestChains 62 = .ok (.iadd, 1) := by decide +kernel
theorem dX7_fewestChains_63 : decode cX7_fewestChains 63 = .ok (.istore_n 1, 1) := by decide +kernel
theorem dX7_fewestChains_64 : decode cX7_fewestChains 64 = .ok (.iinc 2 1, 3) := by decide +kernel
theorem dX7_fewestChains_67 : decode cX7_fewestChains 67 = .ok (.goto (-35), 3) := by decide +kernel
theorem dX7_fewestChains_70 : decode cX7_fewestChains 70 = .ok (.iload_n 1, 1) := by decide +kernel
theorem dX7_fewestChains_71 : decode cX7_fewestChains 71 = .ok (.ireturn, 1) := by decide +kernel
theorem dX7_layFree_0 : decode cX7_layFree 0 = .ok (.iconst 0, 1) := by decide +kernel
theorem dX7_layFree_1 : decode cX7_layFree 1 = .ok (.istore_n 1, 1) := by decide +kernel
theorem dX7_layFree_2 : decode cX7_layFree 2 = .ok (.iload_n 1, 1) := by decide +kernel
theorem dX7_layFree_3 : decode cX7_layFree 3 = .ok (.bipush 81, 2) := by decide +kernel
theorem dX7_layFree_5 : decode cX7_layFree 5 = .ok (.if_icmp .ge 28, 3) := by decide +kernel
theorem dX7_layFree_8 : decode cX7_layFree 8 = .ok (.aload_n 0, 1) := by decide +kernel
theorem dX7_layFree_9 : decode cX7_layFree 9 = .ok (.getfield 43, 3) := by decide +kernel
theorem dX7_layFree_12 : decode cX7_layFree 12 = .ok (.iload_n 1, 1) := by decide +kernel
theorem dX7_layFree_13 : decode cX7_layFree 13 = .ok (.aload_n 0, 1) := by decide +kernel
theorem dX7_layFree_14 : decode cX7_layFree 14 = .ok (.iload_n 1, 1) := by decide +kernel
theorem dX7_layFree_15 : decode cX7_layFree 15 = .ok (.invokevirtual 218, 3) := by decide +kernel
theorem dX7_layFree_18 : decode cX7_layFree 18 = .ok (.ifCond .eq 7, 3) := by decide +kernel
theorem dX7_layFree_21 : decode cX7_layFree 21 = .ok (.iconst 1, 1) := by decide +kernel
theorem dX7_layFree_22 : decode cX7_layFree 22 = .ok (.goto 4, 3) := by decide +kernel
theorem dX7_layFree_25 : decode cX7_layFree 25 = .ok (.iconst 0, 1) := by decide +kernel
theorem dX7_layFree_26 : decode cX7_layFree 26 = .ok (.iastore, 1) := by decide +kernel
theorem dX7_layFree_27 : decode cX7_layFree 27 = .ok (.iinc 1 1, 3) := by decide +kernel
theorem dX7_layFree_30 : decode cX7_layFree 30 = .ok (.goto (-28), 3) := by decide +kernel
theorem dX7_layFree_33 : decode cX7_layFree 33 = .ok (.return_, 1) := by decide +kernel
theorem dX7_mostByChains_0 : decode cX7_mostByChains 0 = .ok (.aload_n 0, 1) := by decide +kernel
theorem dX7_mostByChains_1 : decode cX7_mostByChains 1 = .ok (.invokevirtual 253, 3) := by decide +kernel
theorem dX7_mostByChains_4 : decode cX7_mostByChains 4 = .ok (.iconst 0, 1) := by decide +kernel
theorem dX7_mostByChains_5 : decode cX7_mostByChains 5 = .ok (.istore_n 1, 1) := by decide +kernel
theorem dX7_mostByChains_6 : decode cX7_mostByChains 6 = .ok (.iload_n 1, 1) := by decide +kernel
theorem dX7_mostByChains_7 : decode cX7_mostByChains 7 = .ok (.bipush 81, 2) := by decide +kernel
theorem dX7_mostByChains_9 : decode cX7_mostByChains 9 = .ok (.if_icmp .ge 21, 3) := by decide +kernel
theorem dX7_mostByChains_12 : decode cX7_mostByChains 12 = .ok (.aload_n 0, 1) := by decide +kernel
theorem dX7_mostByChains_13 : decode cX7_mostByChains 13 = .ok (.getfield 28, 3) := by decide +kernel
theorem dX7_mostByChains_16 : decode cX7_mostByChains 16 = .ok (.iload_n 1, 1) := by decide +kernel
theorem dX7_mostByChains_17 : decode cX7_mostByChains 17 = .ok (.aload_n 0, 1) := by decide +kernel
theorem dX7_mostByChains_18 : decode cX7_mostByChains 18 = .ok (.getfield 43, 3) := by decide +kernel
theorem dX7_mostByChains_21 : decode cX7_mostByChains 21 = .ok (.iload_n 1, 1) := by decide +kernel
theorem dX7_mostByChains_22 : decode cX7_mostByChains 22 = .ok (.iaload, 1) := by decide +kernel
theorem dX7_mostByChains_23 : decode cX7_mostByChains 23 = .ok (.iastore, 1) := by decide +kernel
theorem dX7_mostByChains_24 : decode cX7_mostByChains 24 = .ok (.iinc 1 1, 3) := by decide +kernel
theorem dX7_mostByChains_27 : decode cX7_mostByChains 27 = .ok (.goto (-21), 3) := by decide +kernel
theorem dX7_mostByChains_30 : decode cX7_mostByChains 30 = .ok (.aload_n 0, 1) := by decide +kernel
theorem dX7_mostByChains_31 : decode cX7_mostByChains 31 = .ok (.invokevirtual 256, 3) := by decide +kernel
theorem dX7_mostByChains_34 : decode cX7_mostByChains 34 = .ok (.ireturn, 1) := by decide +kernel
theorem dX7_isApart_0 : decode cX7_isApart 0 = .ok (.iconst 1, 1) := by decide +kernel
theorem dX7_isApart_1 : decode cX7_isApart 1 = .ok (.istore_n 2, 1) := by decide +kernel
theorem dX7_isApart_2 : decode cX7_isApart 2 = .ok (.iconst 0, 1) := by decide +kernel
theorem dX7_isApart_3 : decode cX7_isApart 3 = .ok (.istore_n 3, 1) := by decide +kernel
theorem dX7_isApart_4 : decode cX7_isApart 4 = .ok (.iload_n 3, 1) := by decide +kernel
theorem dX7_isApart_5 : decode cX7_isApart 5 = .ok (.aload_n 0, 1) := by decide +kernel
theorem dX7_isApart_6 : decode cX7_isApart 6 = .ok (.getfield 259, 3) := by decide +kernel
theorem dX7_isApart_9 : decode cX7_isApart 9 = .ok (.if_icmp .ge 32, 3) := by decide +kernel
theorem dX7_isApart_12 : decode cX7_isApart 12 = .ok (.iload_n 2, 1) := by decide +kernel
theorem dX7_isApart_13 : decode cX7_isApart 13 = .ok (.ifCond .eq 20, 3) := by decide +kernel
theorem dX7_isApart_16 : decode cX7_isApart 16 = .ok (.aload_n 0, 1) := by decide +kernel
theorem dX7_isApart_17 : decode cX7_isApart 17 = .ok (.getfield 46, 3) := by decide +kernel
theorem dX7_isApart_20 : decode cX7_isApart 20 = .ok (.iload_n 3, 1) := by decide +kernel
theorem dX7_isApart_21 : decode cX7_isApart 21 = .ok (.iaload, 1) := by decide +kernel
theorem dX7_isApart_22 : decode cX7_isApart 22 = .ok (.iload_n 1, 1) := by decide +kernel
theorem dX7_isApart_23 : decode cX7_isApart 23 = .ok (.invokestatic 227, 3) := by decide +kernel
theorem dX7_isApart_26 : decode cX7_isApart 26 = .ok (.ifCond .ne 7, 3) := by decide +kernel
theorem dX7_isApart_29 : decode cX7_isApart 29 = .ok (.iconst 1, 1) := by decide +kernel
theorem dX7_isApart_30 : decode cX7_isApart 30 = .ok (.goto 4, 3) := by decide +kernel
theorem dX7_isApart_33 : decode cX7_isApart 33 = .ok (.iconst 0, 1) := by decide +kernel
theorem dX7_isApart_34 : decode cX7_isApart 34 = .ok (.istore_n 2, 1) := by decide +kernel
theorem dX7_isApart_35 : decode cX7_isApart 35 = .ok (.iinc 3 1, 3) := by decide +kernel
theorem dX7_isApart_38 : decode cX7_isApart 38 = .ok (.goto (-34), 3) := by decide +kernel
theorem dX7_isApart_41 : decode cX7_isApart 41 = .ok (.iload_n 2, 1) := by decide +kernel
theorem dX7_isApart_42 : decode cX7_isApart 42 = .ok (.ireturn, 1) := by decide +kernel
theorem dX7_choose_0 : decode cX7_choose 0 = .ok (.aload_n 0, 1) := by decide +kernel
theorem dX7_choose_1 : decode cX7_choose 1 = .ok (.invokevirtual 262, 3) := by decide +kernel
theorem dX7_choose_4 : decode cX7_choose 4 = .ok (.istore_n 1, 1) := by decide +kernel
theorem dX7_choose_5 : decode cX7_choose 5 = .ok (.aload_n 0, 1) := by decide +kernel
theorem dX7_choose_6 : decode cX7_choose 6 = .ok (.iconst 0, 1) := by decide +kernel
theorem dX7_choose_7 : decode cX7_choose 7 = .ok (.putfield 259, 3) := by decide +kernel
theorem dX7_choose_10 : decode cX7_choose 10 = .ok (.iconst 0, 1) := by decide +kernel
theorem dX7_choose_11 : decode cX7_choose 11 = .ok (.istore_n 2, 1) := by decide +kernel
theorem dX7_choose_12 : decode cX7_choose 12 = .ok (.iload_n 2, 1) := by decide +kernel
theorem dX7_choose_13 : decode cX7_choose 13 = .ok (.bipush 81, 2) := by decide +kernel
theorem dX7_choose_15 : decode cX7_choose 15 = .ok (.if_icmp .ge 125, 3) := by decide +kernel
theorem dX7_choose_18 : decode cX7_choose 18 = .ok (.aload_n 0, 1) := by decide +kernel
theorem dX7_choose_19 : decode cX7_choose 19 = .ok (.getfield 259, 3) := by decide +kernel
theorem dX7_choose_22 : decode cX7_choose 22 = .ok (.iload_n 1, 1) := by decide +kernel
theorem dX7_choose_23 : decode cX7_choose 23 = .ok (.if_icmp .ge 117, 3) := by decide +kernel
theorem dX7_choose_26 : decode cX7_choose 26 = .ok (.aload_n 0, 1) := by decide +kernel
theorem dX7_choose_27 : decode cX7_choose 27 = .ok (.getfield 43, 3) := by decide +kernel
theorem dX7_choose_30 : decode cX7_choose 30 = .ok (.iload_n 2, 1) := by decide +kernel
theorem dX7_choose_31 : decode cX7_choose 31 = .ok (.iaload, 1) := by decide +kernel
theorem dX7_choose_32 : decode cX7_choose 32 = .ok (.iconst 1, 1) := by decide +kernel
theorem dX7_choose_33 : decode cX7_choose 33 = .ok (.if_icmp .ne 101, 3) := by decide +kernel
theorem dX7_choose_36 : decode cX7_choose 36 = .ok (.aload_n 0, 1) := by decide +kernel
theorem dX7_choose_37 : decode cX7_choose 37 = .ok (.iload_n 2, 1) := by decide +kernel
theorem dX7_choose_38 : decode cX7_choose 38 = .ok (.invokevirtual 265, 3) := by decide +kernel
theorem dX7_choose_41 : decode cX7_choose 41 = .ok (.ifCond .eq 93, 3) := by decide +kernel
theorem dX7_choose_44 : decode cX7_choose 44 = .ok (.aload_n 0, 1) := by decide +kernel
theorem dX7_choose_45 : decode cX7_choose 45 = .ok (.getfield 46, 3) := by decide +kernel
theorem dX7_choose_48 : decode cX7_choose 48 = .ok (.aload_n 0, 1) := by decide +kernel
theorem dX7_choose_49 : decode cX7_choose 49 = .ok (.getfield 259, 3) := by decide +kernel
theorem dX7_choose_52 : decode cX7_choose 52 = .ok (.iload_n 2, 1) := by decide +kernel
theorem dX7_choose_53 : decode cX7_choose 53 = .ok (.iastore, 1) := by decide +kernel
theorem dX7_choose_54 : decode cX7_choose 54 = .ok (.aload_n 0, 1) := by decide +kernel
theorem dX7_choose_55 : decode cX7_choose 55 = .ok (.dup, 1) := by decide +kernel
theorem dX7_choose_56 : decode cX7_choose 56 = .ok (.getfield 259, 3) := by decide +kernel
theorem dX7_choose_59 : decode cX7_choose 59 = .ok (.iconst 1, 1) := by decide +kernel
theorem dX7_choose_60 : decode cX7_choose 60 = .ok (.iadd, 1) := by decide +kernel
theorem dX7_choose_61 : decode cX7_choose 61 = .ok (.putfield 259, 3) := by decide +kernel
theorem dX7_choose_64 : decode cX7_choose 64 = .ok (.iconst 0, 1) := by decide +kernel
theorem dX7_choose_65 : decode cX7_choose 65 = .ok (.istore_n 3, 1) := by decide +kernel
theorem dX7_choose_66 : decode cX7_choose 66 = .ok (.iload_n 3, 1) := by decide +kernel
theorem dX7_choose_67 : decode cX7_choose 67 = .ok (.bipush 81, 2) := by decide +kernel
theorem dX7_choose_69 : decode cX7_choose 69 = .ok (.if_icmp .ge 38, 3) := by decide +kernel
theorem dX7_choose_72 : decode cX7_choose 72 = .ok (.aload_n 0, 1) := by decide +kernel
theorem dX7_choose_73 : decode cX7_choose 73 = .ok (.getfield 28, 3) := by decide +kernel
theorem dX7_choose_76 : decode cX7_choose 76 = .ok (.iload_n 3, 1) := by decide +kernel
theorem dX7_choose_77 : decode cX7_choose 77 = .ok (.aload_n 0, 1) := by decide +kernel
theorem dX7_choose_78 : decode cX7_choose 78 = .ok (.getfield 43, 3) := by decide +kernel
theorem dX7_choose_81 : decode cX7_choose 81 = .ok (.iload_n 3, 1) := by decide +kernel
theorem dX7_choose_82 : decode cX7_choose 82 = .ok (.iaload, 1) := by decide +kernel
theorem dX7_choose_83 : decode cX7_choose 83 = .ok (.iconst 1, 1) := by decide +kernel
theorem dX7_choose_84 : decode cX7_choose 84 = .ok (.if_icmp .ne 15, 3) := by decide +kernel
theorem dX7_choose_87 : decode cX7_choose 87 = .ok (.aload_n 0, 1) := by decide +kernel
theorem dX7_choose_88 : decode cX7_choose 88 = .ok (.iload_n 3, 1) := by decide +kernel
theorem dX7_choose_89 : decode cX7_choose 89 = .ok (.invokevirtual 265, 3) := by decide +kernel
theorem dX7_choose_92 : decode cX7_choose 92 = .ok (.ifCond .eq 7, 3) := by decide +kernel
theorem dX7_choose_95 : decode cX7_choose 95 = .ok (.iconst 1, 1) := by decide +kernel
theorem dX7_choose_96 : decode cX7_choose 96 = .ok (.goto 4, 3) := by decide +kernel
theorem dX7_choose_99 : decode cX7_choose 99 = .ok (.iconst 0, 1) := by decide +kernel
theorem dX7_choose_100 : decode cX7_choose 100 = .ok (.iastore, 1) := by decide +kernel
theorem dX7_choose_101 : decode cX7_choose 101 = .ok (.iinc 3 1, 3) := by decide +kernel
theorem dX7_choose_104 : decode cX7_choose 104 = .ok (.goto (-38), 3) := by decide +kernel
theorem dX7_choose_107 : decode cX7_choose 107 = .ok (.aload_n 0, 1) := by decide +kernel
theorem dX7_choose_108 : decode cX7_choose 108 = .ok (.dup, 1) := by decide +kernel
theorem dX7_choose_109 : decode cX7_choose 109 = .ok (.getfield 259, 3) := by decide +kernel
theorem dX7_choose_112 : decode cX7_choose 112 = .ok (.aload_n 0, 1) := by decide +kernel
theorem dX7_choose_113 : decode cX7_choose 113 = .ok (.getfield 259, 3) := by decide +kernel
theorem dX7_choose_116 : decode cX7_choose 116 = .ok (.aload_n 0, 1) := by decide +kernel
theorem dX7_choose_117 : decode cX7_choose 117 = .ok (.invokevirtual 256, 3) := by decide +kernel
theorem dX7_choose_120 : decode cX7_choose 120 = .ok (.iadd, 1) := by decide +kernel
theorem dX7_choose_121 : decode cX7_choose 121 = .ok (.iload_n 1, 1) := by decide +kernel
theorem dX7_choose_122 : decode cX7_choose 122 = .ok (.if_icmp .ne 7, 3) := by decide +kernel
theorem dX7_choose_125 : decode cX7_choose 125 = .ok (.iconst 0, 1) := by decide +kernel
theorem dX7_choose_126 : decode cX7_choose 126 = .ok (.goto 4, 3) := by decide +kernel
theorem dX7_choose_129 : decode cX7_choose 129 = .ok (.iconst 1, 1) := by decide +kernel
theorem dX7_choose_130 : decode cX7_choose 130 = .ok (.isub, 1) := by decide +kernel
theorem dX7_choose_131 : decode cX7_choose 131 = .ok (.putfield 259, 3) := by decide +kernel
theorem dX7_choose_134 : decode cX7_choose 134 = .ok (.iinc 2 1, 3) := by decide +kernel
theorem dX7_choose_137 : decode cX7_choose 137 = .ok (.goto (-125), 3) := by decide +kernel
theorem dX7_choose_140 : decode cX7_choose 140 = .ok (.return_, 1) := by decide +kernel
theorem dX7_tellsMost_0 : decode cX7_tellsMost 0 = .ok (.iload_n 1, 1) := by decide +kernel
theorem dX7_tellsMost_1 : decode cX7_tellsMost 1 = .ok (.ifCond .ne 8, 3) := by decide +kernel
theorem dX7_tellsMost_4 : decode cX7_tellsMost 4 = .ok (.aload_n 0, 1) := by decide +kernel
theorem dX7_tellsMost_5 : decode cX7_tellsMost 5 = .ok (.invokevirtual 262, 3) := by decide +kernel
theorem dX7_tellsMost_8 : decode cX7_tellsMost 8 = .ok (.ireturn, 1) := by decide +kernel
theorem dX7_tellsMost_9 : decode cX7_tellsMost 9 = .ok (.aload_n 0, 1) := by decide +kernel
theorem dX7_tellsMost_10 : decode cX7_tellsMost 10 = .ok (.invokevirtual 268, 3) := by decide +kernel
theorem dX7_tellsMost_13 : decode cX7_tellsMost 13 = .ok (.aload_n 0, 1) := by decide +kernel
theorem dX7_tellsMost_14 : decode cX7_tellsMost 14 = .ok (.getfield 259, 3) := by decide +kernel
theorem dX7_tellsMost_17 : decode cX7_tellsMost 17 = .ok (.ireturn, 1) := by decide +kernel
theorem dX7_most_0 : decode cX7_most 0 = .ok (.aload_n 0, 1) := by decide +kernel
theorem dX7_most_1 : decode cX7_most 1 = .ok (.iconst 0, 1) := by decide +kernel
theorem dX7_most_2 : decode cX7_most 2 = .ok (.putfield 53, 3) := by decide +kernel
theorem dX7_most_5 : decode cX7_most 5 = .ok (.iload_n 1, 1) := by decide +kernel
theorem dX7_most_6 : decode cX7_most 6 = .ok (.iconst 0, 1) := by decide +kernel
theorem dX7_most_7 : decode cX7_most 7 = .ok (.iconst 1, 1) := by decide +kernel
theorem dX7_most_8 : decode cX7_most 8 = .ok (.invokestatic 57, 3) := by decide +kernel
theorem dX7_most_11 : decode cX7_most 11 = .ok (.ifCond .eq 11, 3) := by decide +kernel
theorem dX7_most_14 : decode cX7_most 14 = .ok (.aload_n 0, 1) := by decide +kernel
theorem dX7_most_15 : decode cX7_most 15 = .ok (.iload_n 1, 1) := by decide +kernel
theorem dX7_most_16 : decode cX7_most 16 = .ok (.invokevirtual 271, 3) := by decide +kernel
theorem dX7_most_19 : decode cX7_most 19 = .ok (.goto 8, 3) := by decide +kernel
theorem dX7_most_22 : decode cX7_most 22 = .ok (.aload_n 0, 1) := by decide +kernel
theorem dX7_most_23 : decode cX7_most 23 = .ok (.iconst 1, 1) := by decide +kernel
theorem dX7_most_24 : decode cX7_most 24 = .ok (.invokevirtual 68, 3) := by decide +kernel
theorem dX7_most_27 : decode cX7_most 27 = .ok (.ireturn, 1) := by decide +kernel
theorem dX7_tellsPick_0 : decode cX7_tellsPick 0 = .ok (.aload_n 0, 1) := by decide +kernel
theorem dX7_tellsPick_1 : decode cX7_tellsPick 1 = .ok (.invokevirtual 268, 3) := by decide +kernel
theorem dX7_tellsPick_4 : decode cX7_tellsPick 4 = .ok (.iload_n 1, 1) := by decide +kernel
theorem dX7_tellsPick_5 : decode cX7_tellsPick 5 = .ok (.aload_n 0, 1) := by decide +kernel
theorem dX7_tellsPick_6 : decode cX7_tellsPick 6 = .ok (.getfield 259, 3) := by decide +kernel
theorem dX7_tellsPick_9 : decode cX7_tellsPick 9 = .ok (.if_icmp .ge 12, 3) := by decide +kernel
theorem dX7_tellsPick_12 : decode cX7_tellsPick 12 = .ok (.aload_n 0, 1) := by decide +kernel
theorem dX7_tellsPick_13 : decode cX7_tellsPick 13 = .ok (.getfield 46, 3) := by decide +kernel
theorem dX7_tellsPick_16 : decode cX7_tellsPick 16 = .ok (.iload_n 1, 1) := by decide +kernel
theorem dX7_tellsPick_17 : decode cX7_tellsPick 17 = .ok (.iaload, 1) := by decide +kernel
theorem dX7_tellsPick_18 : decode cX7_tellsPick 18 = .ok (.goto 4, 3) := by decide +kernel
theorem dX7_tellsPick_21 : decode cX7_tellsPick 21 = .ok (.iconst (-1), 1) := by decide +kernel
theorem dX7_tellsPick_22 : decode cX7_tellsPick 22 = .ok (.ireturn, 1) := by decide +kernel
theorem dX7_pick_0 : decode cX7_pick 0 = .ok (.aload_n 0, 1) := by decide +kernel
theorem dX7_pick_1 : decode cX7_pick 1 = .ok (.iconst 0, 1) := by decide +kernel
theorem dX7_pick_2 : decode cX7_pick 2 = .ok (.putfield 53, 3) := by decide +kernel
theorem dX7_pick_5 : decode cX7_pick 5 = .ok (.iload_n 1, 1) := by decide +kernel
theorem dX7_pick_6 : decode cX7_pick 6 = .ok (.ifCond .ge 11, 3) := by decide +kernel
theorem dX7_pick_9 : decode cX7_pick 9 = .ok (.aload_n 0, 1) := by decide +kernel
theorem dX7_pick_10 : decode cX7_pick 10 = .ok (.iconst 1, 1) := by decide +kernel
theorem dX7_pick_11 : decode cX7_pick 11 = .ok (.invokevirtual 68, 3) := by decide +kernel
theorem dX7_pick_14 : decode cX7_pick 14 = .ok (.goto 8, 3) := by decide +kernel
theorem dX7_pick_17 : decode cX7_pick 17 = .ok (.aload_n 0, 1) := by decide +kernel
theorem dX7_pick_18 : decode cX7_pick 18 = .ok (.iload_n 1, 1) := by decide +kernel
theorem dX7_pick_19 : decode cX7_pick 19 = .ok (.invokevirtual 274, 3) := by decide +kernel
theorem dX7_pick_22 : decode cX7_pick 22 = .ok (.ireturn, 1) := by decide +kernel
theorem dX7_areLocks_0 : decode cX7_areLocks 0 = .ok (.iload_n 1, 1) := by decide +kernel
theorem dX7_areLocks_1 : decode cX7_areLocks 1 = .ok (.iconst 1, 1) := by decide +kernel
theorem dX7_areLocks_2 : decode cX7_areLocks 2 = .ok (.bipush 63, 2) := by decide +kernel
theorem dX7_areLocks_4 : decode cX7_areLocks 4 = .ok (.invokestatic 57, 3) := by decide +kernel
theorem dX7_areLocks_7 : decode cX7_areLocks 7 = .ok (.istore_n 2, 1) := by decide +kernel
theorem dX7_areLocks_8 : decode cX7_areLocks 8 = .ok (.iconst 0, 1) := by decide +kernel
theorem dX7_areLocks_9 : decode cX7_areLocks 9 = .ok (.istore_n 3, 1) := by decide +kernel
theorem dX7_areLocks_10 : decode cX7_areLocks 10 = .ok (.iload_n 3, 1) := by decide +kernel
theorem dX7_areLocks_11 : decode cX7_areLocks 11 = .ok (.bipush 6, 2) := by decide +kernel
theorem dX7_areLocks_13 : decode cX7_areLocks 13 = .ok (.if_icmp .ge 35, 3) := by decide +kernel
theorem dX7_areLocks_16 : decode cX7_areLocks 16 = .ok (.iload_n 2, 1) := by decide +kernel
theorem dX7_areLocks_17 : decode cX7_areLocks 17 = .ok (.ifCond .eq 23, 3) := by decide +kernel
theorem dX7_areLocks_20 : decode cX7_areLocks 20 = .ok (.iload_n 1, 1) := by decide +kernel
theorem dX7_areLocks_21 : decode cX7_areLocks 21 = .ok (.iload_n 3, 1) := by decide +kernel
theorem dX7_areLocks_22 : decode cX7_areLocks 22 = .ok (.ishr, 1) := by decide +kernel
theorem dX7_areLocks_23 : decode cX7_areLocks 23 = .ok (.iconst 1, 1) := by decide +kernel
theorem dX7_areLocks_24 : decode cX7_areLocks 24 = .ok (.iand, 1) := by decide +kernel
theorem dX7_areLocks_25 : decode cX7_areLocks 25 = .ok (.ifCond .eq 11, 3) := by decide +kernel
theorem dX7_areLocks_28 : decode cX7_areLocks 28 = .ok (.aload_n 0, 1) := by decide +kernel
theorem dX7_areLocks_29 : decode cX7_areLocks 29 = .ok (.iload_n 3, 1) := by decide +kernel
theorem dX7_areLocks_30 : decode cX7_areLocks 30 = .ok (.invokevirtual 95, 3) := by decide +kernel
theorem dX7_areLocks_33 : decode cX7_areLocks 33 = .ok (.ifCond .eq 7, 3) := by decide +kernel
theorem dX7_areLocks_36 : decode cX7_areLocks 36 = .ok (.iconst 1, 1) := by decide +kernel
theorem dX7_areLocks_37 : decode cX7_areLocks 37 = .ok (.goto 4, 3) := by decide +kernel
theorem dX7_areLocks_40 : decode cX7_areLocks 40 = .ok (.iconst 0, 1) := by decide +kernel
theorem dX7_areLocks_41 : decode cX7_areLocks 41 = .ok (.istore_n 2, 1) := by decide +kernel
theorem dX7_areLocks_42 : decode cX7_areLocks 42 = .ok (.iinc 3 1, 3) := by decide +kernel
theorem dX7_areLocks_45 : decode cX7_areLocks 45 = .ok (.goto (-35), 3) := by decide +kernel
theorem dX7_areLocks_48 : decode cX7_areLocks 48 = .ok (.iload_n 2, 1) := by decide +kernel
theorem dX7_areLocks_49 : decode cX7_areLocks 49 = .ok (.ireturn, 1) := by decide +kernel
theorem dX7_opener_0 : decode cX7_opener 0 = .ok (.aload_n 0, 1) := by decide +kernel
theorem dX7_opener_1 : decode cX7_opener 1 = .ok (.iconst 0, 1) := by decide +kernel
theorem dX7_opener_2 : decode cX7_opener 2 = .ok (.putfield 53, 3) := by decide +kernel
theorem dX7_opener_5 : decode cX7_opener 5 = .ok (.aload_n 0, 1) := by decide +kernel
theorem dX7_opener_6 : decode cX7_opener 6 = .ok (.iload_n 1, 1) := by decide +kernel
theorem dX7_opener_7 : decode cX7_opener 7 = .ok (.invokevirtual 277, 3) := by decide +kernel
theorem dX7_opener_10 : decode cX7_opener 10 = .ok (.ifCond .ne 9, 3) := by decide +kernel
theorem dX7_opener_13 : decode cX7_opener 13 = .ok (.aload_n 0, 1) := by decide +kernel
theorem dX7_opener_14 : decode cX7_opener 14 = .ok (.iconst 1, 1) := by decide +kernel
theorem dX7_opener_15 : decode cX7_opener 15 = .ok (.invokevirtual 68, 3) := by decide +kernel
theorem dX7_opener_18 : decode cX7_opener 18 = .ok (.ireturn, 1) := by decide +kernel
theorem dX7_opener_19 : decode cX7_opener 19 = .ok (.iconst (-1), 1) := by decide +kernel
theorem dX7_opener_20 : decode cX7_opener 20 = .ok (.istore_n 2, 1) := by decide +kernel
theorem dX7_opener_21 : decode cX7_opener 21 = .ok (.iconst 0, 1) := by decide +kernel
theorem dX7_opener_22 : decode cX7_opener 22 = .ok (.istore_n 3, 1) := by decide +kernel
theorem dX7_opener_23 : decode cX7_opener 23 = .ok (.iload_n 3, 1) := by decide +kernel
theorem dX7_opener_24 : decode cX7_opener 24 = .ok (.bipush 81, 2) := by decide +kernel
theorem dX7_opener_26 : decode cX7_opener 26 = .ok (.if_icmp .ge 62, 3) := by decide +kernel
theorem dX7_opener_29 : decode cX7_opener 29 = .ok (.aload_n 0, 1) := by decide +kernel
theorem dX7_opener_30 : decode cX7_opener 30 = .ok (.iload_n 3, 1) := by decide +kernel
theorem dX7_opener_31 : decode cX7_opener 31 = .ok (.invokevirtual 88, 3) := by decide +kernel
theorem dX7_opener_34 : decode cX7_opener 34 = .ok (.ifCond .eq 18, 3) := by decide +kernel
theorem dX7_opener_37 : decode cX7_opener 37 = .ok (.aload_n 0, 1) := by decide +kernel
theorem dX7_opener_38 : decode cX7_opener 38 = .ok (.iload_n 3, 1) := by decide +kernel
theorem dX7_opener_39 : decode cX7_opener 39 = .ok (.invokevirtual 113, 3) := by decide +kernel
theorem dX7_opener_42 : decode cX7_opener 42 = .ok (.iload_n 1, 1) := by decide +kernel
theorem dX7_opener_43 : decode cX7_opener 43 = .ok (.iand, 1) := by decide +kernel
theorem dX7_opener_44 : decode cX7_opener 44 = .ok (.iload_n 1, 1) := by decide +kernel
theorem dX7_opener_45 : decode cX7_opener 45 = .ok (.if_icmp .ne 7, 3) := by decide +kernel
theorem dX7_opener_48 : decode cX7_opener 48 = .ok (.iconst 1, 1) := by decide +kernel
theorem dX7_opener_49 : decode cX7_opener 49 = .ok (.goto 4, 3) := by decide +kernel
theorem dX7_opener_52 : decode cX7_opener 52 = .ok (.iconst 0, 1) := by decide +kernel
theorem dX7_opener_53 : decode cX7_opener 53 = .ok (.istore 4, 2) := by decide +kernel
theorem dX7_opener_55 : decode cX7_opener 55 = .ok (.iload 4, 2) := by decide +kernel
theorem dX7_opener_57 : decode cX7_opener 57 = .ok (.ifCond .eq 23, 3) := by decide +kernel
theorem dX7_opener_60 : decode cX7_opener 60 = .ok (.iload_n 2, 1) := by decide +kernel
theorem dX7_opener_61 : decode cX7_opener 61 = .ok (.iconst (-1), 1) := by decide +kernel
theorem dX7_opener_62 : decode cX7_opener 62 = .ok (.if_icmp .eq 14, 3) := by decide +kernel
theorem dX7_opener_65 : decode cX7_opener 65 = .ok (.iload_n 3, 1) := by decide +kernel
theorem dX7_opener_66 : decode cX7_opener 66 = .ok (.invokestatic 104, 3) := by decide +kernel
theorem dX7_opener_69 : decode cX7_opener 69 = .ok (.iload_n 2, 1) := by decide +kernel
theorem dX7_opener_70 : decode cX7_opener 70 = .ok (.invokestatic 104, 3) := by decide +kernel
theorem dX7_opener_73 : decode cX7_opener 73 = .ok (.if_icmp .ge 7, 3) := by decide +kernel
theorem dX7_opener_76 : decode cX7_opener 76 = .ok (.iload_n 3, 1) := by decide +kernel
theorem dX7_opener_77 : decode cX7_opener 77 = .ok (.goto 4, 3) := by decide +kernel
theorem dX7_opener_80 : decode cX7_opener 80 = .ok (.iload_n 2, 1) := by decide +kernel
theorem dX7_opener_81 : decode cX7_opener 81 = .ok (.istore_n 2, 1) := by decide +kernel
theorem dX7_opener_82 : decode cX7_opener 82 = .ok (.iinc 3 1, 3) := by decide +kernel
theorem dX7_opener_85 : decode cX7_opener 85 = .ok (.goto (-62), 3) := by decide +kernel
theorem dX7_opener_88 : decode cX7_opener 88 = .ok (.iload_n 2, 1) := by decide +kernel
theorem dX7_opener_89 : decode cX7_opener 89 = .ok (.ireturn, 1) := by decide +kernel
theorem dX7_behind_0 : decode cX7_behind 0 = .ok (.aload_n 0, 1) := by decide +kernel
theorem dX7_behind_1 : decode cX7_behind 1 = .ok (.iload_n 1, 1) := by decide +kernel
theorem dX7_behind_2 : decode cX7_behind 2 = .ok (.iconst 0, 1) := by decide +kernel
theorem dX7_behind_3 : decode cX7_behind 3 = .ok (.invokevirtual 85, 3) := by decide +kernel
theorem dX7_behind_6 : decode cX7_behind 6 = .ok (.istore_n 3, 1) := by decide +kernel
theorem dX7_behind_7 : decode cX7_behind 7 = .ok (.iconst 1, 1) := by decide +kernel
theorem dX7_behind_8 : decode cX7_behind 8 = .ok (.istore 4, 2) := by decide +kernel
theorem dX7_behind_10 : decode cX7_behind 10 = .ok (.iload 4, 2) := by decide +kernel
theorem dX7_behind_12 : decode cX7_behind 12 = .ok (.iload_n 2, 1) := by decide +kernel
theorem dX7_behind_13 : decode cX7_behind 13 = .ok (.if_icmp .gt 34, 3) := by decide +kernel
theorem dX7_behind_16 : decode cX7_behind 16 = .ok (.aload_n 0, 1) := by decide +kernel
theorem dX7_behind_17 : decode cX7_behind 17 = .ok (.aload_n 0, 1) := by decide +kernel
theorem dX7_behind_18 : decode cX7_behind 18 = .ok (.iload_n 1, 1) := by decide +kernel
theorem dX7_behind_19 : decode cX7_behind 19 = .ok (.iconst 4, 1) := by decide +kernel
theorem dX7_behind_20 : decode cX7_behind 20 = .ok (.invokevirtual 85, 3) := by decide +kernel
theorem dX7_behind_23 : decode cX7_behind 23 = .ok (.iload 4, 2) := by decide +kernel
theorem dX7_behind_25 : decode cX7_behind 25 = .ok (.iadd, 1) := by decide +kernel
theorem dX7_behind_26 : decode cX7_behind 26 = .ok (.invokevirtual 107, 3) := by decide +kernel
theorem dX7_behind_29 : decode cX7_behind 29 = .ok (.ifCond .eq 10, 3) := by decide +kernel
theorem dX7_behind_32 : decode cX7_behind 32 = .ok (.iload_n 3, 1) := by decide +kernel
theorem dX7_behind_33 : decode cX7_behind 33 = .ok (.invokestatic 110, 3) := by decide +kernel
theorem dX7_behind_36 : decode cX7_behind 36 = .ok (.goto 4, 3) := by decide +kernel
theorem dX7_behind_39 : decode cX7_behind 39 = .ok (.iload_n 3, 1) := by decide +kernel
theorem dX7_behind_40 : decode cX7_behind 40 = .ok (.istore_n 3, 1) := by decide +kernel
theorem dX7_behind_41 : decode cX7_behind 41 = .ok (.iinc 4 1, 3) := by decide +kernel
theorem dX7_behind_44 : decode cX7_behind 44 = .ok (.goto (-34), 3) := by decide +kernel
theorem dX7_behind_47 : decode cX7_behind 47 = .ok (.iload_n 3, 1) := by decide +kernel
theorem dX7_behind_48 : decode cX7_behind 48 = .ok (.ireturn, 1) := by decide +kernel
theorem dX7_worn_0 : decode cX7_worn 0 = .ok (.aload_n 0, 1) := by decide +kernel
theorem dX7_worn_1 : decode cX7_worn 1 = .ok (.iconst 0, 1) := by decide +kernel
theorem dX7_worn_2 : decode cX7_worn 2 = .ok (.putfield 53, 3) := by decide +kernel
theorem dX7_worn_5 : decode cX7_worn 5 = .ok (.aload_n 0, 1) := by decide +kernel
theorem dX7_worn_6 : decode cX7_worn 6 = .ok (.iload_n 1, 1) := by decide +kernel
theorem dX7_worn_7 : decode cX7_worn 7 = .ok (.invokevirtual 131, 3) := by decide +kernel
theorem dX7_worn_10 : decode cX7_worn 10 = .ok (.ifCond .ne 9, 3) := by decide +kernel
theorem dX7_worn_13 : decode cX7_worn 13 = .ok (.aload_n 0, 1) := by decide +kernel
theorem dX7_worn_14 : decode cX7_worn 14 = .ok (.iconst 1, 1) := by decide +kernel
theorem dX7_worn_15 : decode cX7_worn 15 = .ok (.invokevirtual 68, 3) := by decide +kernel
theorem dX7_worn_18 : decode cX7_worn 18 = .ok (.ireturn, 1) := by decide +kernel
theorem dX7_worn_19 : decode cX7_worn 19 = .ok (.iload_n 2, 1) := by decide +kernel
theorem dX7_worn_20 : decode cX7_worn 20 = .ok (.iconst 0, 1) := by decide +kernel
theorem dX7_worn_21 : decode cX7_worn 21 = .ok (.bipush 99, 2) := by decide +kernel
theorem dX7_worn_23 : decode cX7_worn 23 = .ok (.invokestatic 57, 3) := by decide +kernel
theorem dX7_worn_26 : decode cX7_worn 26 = .ok (.ifCond .eq 12, 3) := by decide +kernel
theorem dX7_worn_29 : decode cX7_worn 29 = .ok (.aload_n 0, 1) := by decide +kernel
theorem dX7_worn_30 : decode cX7_worn 30 = .ok (.iload_n 1, 1) := by decide +kernel
theorem dX7_worn_31 : decode cX7_worn 31 = .ok (.iload_n 2, 1) := by decide +kernel
theorem dX7_worn_32 : decode cX7_worn 32 = .ok (.invokevirtual 280, 3) := by decide +kernel
theorem dX7_worn_35 : decode cX7_worn 35 = .ok (.goto 8, 3) := by decide +kernel
theorem dX7_worn_38 : decode cX7_worn 38 = .ok (.aload_n 0, 1) := by decide +kernel
theorem dX7_worn_39 : decode cX7_worn 39 = .ok (.iconst 2, 1) := by decide +kernel
theorem dX7_worn_40 : decode cX7_worn 40 = .ok (.invokevirtual 68, 3) := by decide +kernel
theorem dX7_worn_43 : decode cX7_worn 43 = .ok (.ireturn, 1) := by decide +kernel
theorem dX7_isCrossedWith_0 : decode cX7_isCrossedWith 0 = .ok (.iconst 0, 1) := by decide +kernel
theorem dX7_isCrossedWith_1 : decode cX7_isCrossedWith 1 = .ok (.istore_n 3, 1) := by decide +kernel
theorem dX7_isCrossedWith_2 : decode cX7_isCrossedWith 2 = .ok (.iconst 0, 1) := by decide +kernel
theorem dX7_isCrossedWith_3 : decode cX7_isCrossedWith 3 = .ok (.istore 4, 2) := by decide +kernel
theorem dX7_isCrossedWith_5 : decode cX7_isCrossedWith 5 = .ok (.iload 4, 2) := by decide +kernel
theorem dX7_isCrossedWith_7 : decode cX7_isCrossedWith 7 = .ok (.aload_n 0, 1) := by decide +kernel
theorem dX7_isCrossedWith_8 : decode cX7_isCrossedWith 8 = .ok (.getfield 7, 3) := by decide +kernel
theorem dX7_isCrossedWith_11 : decode cX7_isCrossedWith 11 = .ok (.iconst 0, 1) := by decide +kernel
theorem dX7_isCrossedWith_12 : decode cX7_isCrossedWith 12 = .ok (.iaload, 1) := by decide +kernel
theorem dX7_isCrossedWith_13 : decode cX7_isCrossedWith 13 = .ok (.if_icmp .ge 39, 3) := by decide +kernel
theorem dX7_isCrossedWith_16 : decode cX7_isCrossedWith 16 = .ok (.iload_n 3, 1) := by decide +kernel
theorem dX7_isCrossedWith_17 : decode cX7_isCrossedWith 17 = .ok (.ifCond .ne 23, 3) := by decide +kernel
theorem dX7_isCrossedWith_20 : decode cX7_isCrossedWith 20 = .ok (.iload 4, 2) := by decide +kernel
theorem dX7_isCrossedWith_22 : decode cX7_isCrossedWith 22 = .ok (.iload_n 1, 1) := by decide +kernel
theorem dX7_isCrossedWith_23 : decode cX7_isCrossedWith 23 = .ok (.if_icmp .eq 21, 3) := by decide +kernel
theorem dX7_isCrossedWith_26 : decode cX7_isCrossedWith 26 = .ok (.iload_n 2, 1) := by decide +kernel
theorem dX7_isCrossedWith_27 : decode cX7_isCrossedWith 27 = .ok (.aload_n 0, 1) := by decide +kernel
theorem dX7_isCrossedWith_28 : decode cX7_isCrossedWith 28 = .ok (.iload 4, 2) := by decide +kernel
theorem dX7_isCrossedWith_30 : decode cX7_isCrossedWith 30 = .ok (.iconst 0, 1) := by decide +kernel
theorem dX7_isCrossedWith_31 : decode cX7_isCrossedWith 31 = .ok (.invokevirtual 85, 3) := by decide +kernel
theorem dX7_isCrossedWith_34 : decode cX7_isCrossedWith 34 = .ok (.invokestatic 227, 3) := by decide +kernel
theorem dX7_isCrossedWith_37 : decode cX7_isCrossedWith 37 = .ok (.ifCond .eq 7, 3) := by decide +kernel
theorem dX7_isCrossedWith_40 : decode cX7_isCrossedWith 40 = .ok (.iconst 1, 1) := by decide +kernel
theorem dX7_isCrossedWith_41 : decode cX7_isCrossedWith 41 = .ok (.goto 4, 3) := by decide +kernel
theorem dX7_isCrossedWith_44 : decode cX7_isCrossedWith 44 = .ok (.iconst 0, 1) := by decide +kernel
theorem dX7_isCrossedWith_45 : decode cX7_isCrossedWith 45 = .ok (.istore_n 3, 1) := by decide +kernel
theorem dX7_isCrossedWith_46 : decode cX7_isCrossedWith 46 = .ok (.iinc 4 1, 3) := by decide +kernel
theorem dX7_isCrossedWith_49 : decode cX7_isCrossedWith 49 = .ok (.goto (-44), 3) := by decide +kernel
theorem dX7_isCrossedWith_52 : decode cX7_isCrossedWith 52 = .ok (.iload_n 3, 1) := by decide +kernel
theorem dX7_isCrossedWith_53 : decode cX7_isCrossedWith 53 = .ok (.ireturn, 1) := by decide +kernel
theorem dX7_firstCrossed_0 : decode cX7_firstCrossed 0 = .ok (.iconst 0, 1) := by decide +kernel
theorem dX7_firstCrossed_1 : decode cX7_firstCrossed 1 = .ok (.istore_n 2, 1) := by decide +kernel
theorem dX7_firstCrossed_2 : decode cX7_firstCrossed 2 = .ok (.iload_n 2, 1) := by decide +kernel
theorem dX7_firstCrossed_3 : decode cX7_firstCrossed 3 = .ok (.bipush 100, 2) := by decide +kernel
theorem dX7_firstCrossed_5 : decode cX7_firstCrossed 5 = .ok (.if_icmp .ge 25, 3) := by decide +kernel
theorem dX7_firstCrossed_8 : decode cX7_firstCrossed 8 = .ok (.aload_n 0, 1) := by decide +kernel
theorem dX7_firstCrossed_9 : decode cX7_firstCrossed 9 = .ok (.iload_n 1, 1) := by decide +kernel
theorem dX7_firstCrossed_10 : decode cX7_firstCrossed 10 = .ok (.aload_n 0, 1) := by decide +kernel
theorem dX7_firstCrossed_11 : decode cX7_firstCrossed 11 = .ok (.iload_n 1, 1) := by decide +kernel
theorem dX7_firstCrossed_12 : decode cX7_firstCrossed 12 = .ok (.iload_n 2, 1) := by decide +kernel
theorem dX7_firstCrossed_13 : decode cX7_firstCrossed 13 = .ok (.invokevirtual 280, 3) := by decide +kernel
theorem dX7_firstCrossed_16 : decode cX7_firstCrossed 16 = .ok (.invokevirtual 283, 3) := by decide +kernel
theorem dX7_firstCrossed_19 : decode cX7_firstCrossed 19 = .ok (.ifCond .eq 5, 3) := by decide +kernel
theorem dX7_firstCrossed_22 : decode cX7_firstCrossed 22 = .ok (.iload_n 2, 1) := by decide +kernel
theorem dX7_firstCrossed_23 : decode cX7_firstCrossed 23 = .ok (.ireturn, 1) := by decide +kernel
theorem dX7_firstCrossed_24 : decode cX7_firstCrossed 24 = .ok (.iinc 2 1, 3) := by decide +kernel
theorem dX7_firstCrossed_27 : decode cX7_firstCrossed 27 = .ok (.goto (-25), 3) := by decide +kernel
theorem dX7_firstCrossed_30 : decode cX7_firstCrossed 30 = .ok (.iconst (-1), 1) := by decide +kernel
theorem dX7_firstCrossed_31 : decode cX7_firstCrossed 31 = .ok (.ireturn, 1) := by decide +kernel
theorem dX7_crossedIn_0 : decode cX7_crossedIn 0 = .ok (.aload_n 0, 1) := by decide +kernel
theorem dX7_crossedIn_1 : decode cX7_crossedIn 1 = .ok (.iconst 0, 1) := by decide +kernel
theorem dX7_crossedIn_2 : decode cX7_crossedIn 2 = .ok (.putfield 53, 3) := by decide +kernel
theorem dX7_crossedIn_5 : decode cX7_crossedIn 5 = .ok (.aload_n 0, 1) := by decide +kernel
theorem dX7_crossedIn_6 : decode cX7_crossedIn 6 = .ok (.iload_n 1, 1) := by decide +kernel
theorem dX7_crossedIn_7 : decode cX7_crossedIn 7 = .ok (.invokevirtual 131, 3) := by decide +kernel
theorem dX7_crossedIn_10 : decode cX7_crossedIn 10 = .ok (.ifCond .eq 11, 3) := by decide +kernel
theorem dX7_crossedIn_13 : decode cX7_crossedIn 13 = .ok (.aload_n 0, 1) := by decide +kernel
theorem dX7_crossedIn_14 : decode cX7_crossedIn 14 = .ok (.iload_n 1, 1) := by decide +kernel
theorem dX7_crossedIn_15 : decode cX7_crossedIn 15 = .ok (.invokevirtual 286, 3) := by decide +kernel
theorem dX7_crossedIn_18 : decode cX7_crossedIn 18 = .ok (.goto 8, 3) := by decide +kernel
theorem dX7_crossedIn_21 : decode cX7_crossedIn 21 = .ok (.aload_n 0, 1) := by decide +kernel
theorem dX7_crossedIn_22 : decode cX7_crossedIn 22 = .ok (.iconst 1, 1) := by decide +kernel
theorem dX7_crossedIn_23 : decode cX7_crossedIn 23 = .ok (.invokevirtual 68, 3) := by decide +kernel
theorem dX7_crossedIn_26 : decode cX7_crossedIn 26 = .ok (.ireturn, 1) := by decide +kernel
theorem dX7_shareOfFree_0 : decode cX7_shareOfFree 0 = .ok (.aload_n 0, 1) := by decide +kernel
theorem dX7_shareOfFree_1 : decode cX7_shareOfFree 1 = .ok (.iconst 1, 1) := by decide +kernel
theorem dX7_shareOfFree_2 : decode cX7_shareOfFree 2 = .ok (.invokevirtual 239, 3) := by decide +kernel
theorem dX7_shareOfFree_5 : decode cX7_shareOfFree 5 = .ok (.i2d, 1) := by decide +kernel
theorem dX7_shareOfFree_6 : decode cX7_shareOfFree 6 = .ok (.aload_n 0, 1) := by decide +kernel
theorem dX7_shareOfFree_7 : decode cX7_shareOfFree 7 = .ok (.iconst 0, 1) := by decide +kernel
theorem dX7_shareOfFree_8 : decode cX7_shareOfFree 8 = .ok (.invokevirtual 239, 3) := by decide +kernel
theorem dX7_shareOfFree_11 : decode cX7_shareOfFree 11 = .ok (.i2d, 1) := by decide +kernel
theorem dX7_shareOfFree_12 : decode cX7_shareOfFree 12 = .ok (.ddiv, 1) := by decide +kernel
theorem dX7_shareOfFree_13 : decode cX7_shareOfFree 13 = .ok (.dreturn, 1) := by decide +kernel
theorem dX7_freeShare_0 : decode cX7_freeShare 0 = .ok (.aload_n 0, 1) := by decide +kernel
theorem dX7_freeShare_1 : decode cX7_freeShare 1 = .ok (.iconst 0, 1) := by decide +kernel
theorem dX7_freeShare_2 : decode cX7_freeShare 2 = .ok (.putfield 53, 3) := by decide +kernel
theorem dX7_freeShare_5 : decode cX7_freeShare 5 = .ok (.aload_n 0, 1) := by decide +kernel
theorem dX7_freeShare_6 : decode cX7_freeShare 6 = .ok (.invokevirtual 289, 3) := by decide +kernel
theorem dX7_freeShare_9 : decode cX7_freeShare 9 = .ok (.dreturn, 1) := by decide +kernel
theorem dX7_mean_0 : decode cX7_mean 0 = .ok (.iconst 0, 1) := by decide +kernel
theorem dX7_mean_1 : decode cX7_mean 1 = .ok (.istore_n 1, 1) := by decide +kernel
theorem dX7_mean_2 : decode cX7_mean 2 = .ok (.iconst 0, 1) := by decide +kernel
theorem dX7_mean_3 : decode cX7_mean 3 = .ok (.istore_n 2, 1) := by decide +kernel
theorem dX7_mean_4 : decode cX7_mean 4 = .ok (.iload_n 2, 1) := by decide +kernel
theorem dX7_mean_5 : decode cX7_mean 5 = .ok (.aload_n 0, 1) := by decide +kernel
theorem dX7_mean_6 : decode cX7_mean 6 = .ok (.getfield 7, 3) := by decide +kernel
theorem dX7_mean_9 : decode cX7_mean 9 = .ok (.iconst 0, 1) := by decide +kernel
theorem dX7_mean_10 : decode cX7_mean 10 = .ok (.iaload, 1) := by decide +kernel
theorem dX7_mean_11 : decode cX7_mean 11 = .ok (.if_icmp .ge 21, 3) := by decide +kernel
theorem dX7_mean_14 : decode cX7_mean 14 = .ok (.iload_n 1, 1) := by decide +kernel
theorem dX7_mean_15 : decode cX7_mean 15 = .ok (.aload_n 0, 1) := by decide +kernel
theorem dX7_mean_16 : decode cX7_mean 16 = .ok (.iload_n 2, 1) := by decide +kernel
theorem dX7_mean_17 : decode cX7_mean 17 = .ok (.iconst 0, 1) := by decide +kernel
theorem dX7_mean_18 : decode cX7_mean 18 = .ok (.invokevirtual 85, 3) := by decide +kernel
theorem dX7_mean_21 : decode cX7_mean 21 = .ok (.invokestatic 104, 3) := by decide +kernel
theorem dX7_mean_24 : decode cX7_mean 24 = .ok (.iadd, 1) := by decide +kernel
theorem dX7_mean_25 : decode cX7_mean 25 = .ok (.istore_n 1, 1) := by decide +kernel
theorem dX7_mean_26 : decode cX7_mean 26 = .ok (.iinc 2 1, 3) := by decide +kernel
theorem dX7_mean_29 : decode cX7_mean 29 = .ok (.goto (-25), 3) := by decide +kernel
theorem dX7_mean_32 : decode cX7_mean 32 = .ok (.aload_n 0, 1) := by decide +kernel
theorem dX7_mean_33 : decode cX7_mean 33 = .ok (.getfield 7, 3) := by decide +kernel
theorem dX7_mean_36 : decode cX7_mean 36 = .ok (.iconst 0, 1) := by decide +kernel
theorem dX7_mean_37 : decode cX7_mean 37 = .ok (.iaload, 1) := by decide +kernel
theorem dX7_mean_38 : decode cX7_mean 38 = .ok (.ifCond .ne 7, 3) := by decide +kernel
theorem dX7_mean_41 : decode cX7_mean 41 = .ok (.fconst 0, 1) := by decide +kernel
theorem dX7_mean_42 : decode cX7_mean 42 = .ok (.goto 13, 3) := by decide +kernel
theorem dX7_mean_45 : decode cX7_mean 45 = .ok (.iload_n 1, 1) := by decide +kernel
theorem dX7_mean_46 : decode cX7_mean 46 = .ok (.i2f, 1) := by decide +kernel
theorem dX7_mean_47 : decode cX7_mean 47 = .ok (.aload_n 0, 1) := by decide +kernel
theorem dX7_mean_48 : decode cX7_mean 48 = .ok (.getfield 7, 3) := by decide +kernel
theorem dX7_mean_51 : decode cX7_mean 51 = .ok (.iconst 0, 1) := by decide +kernel
theorem dX7_mean_52 : decode cX7_mean 52 = .ok (.iaload, 1) := by decide +kernel
theorem dX7_mean_53 : decode cX7_mean 53 = .ok (.i2f, 1) := by decide +kernel
theorem dX7_mean_54 : decode cX7_mean 54 = .ok (.fdiv, 1) := by decide +kernel
theorem dX7_mean_55 : decode cX7_mean 55 = .ok (.freturn, 1) := by decide +kernel
theorem dX7_meanLevel_0 : decode cX7_meanLevel 0 = .ok (.aload_n 0, 1) := by decide +kernel
theorem dX7_meanLevel_1 : decode cX7_meanLevel 1 = .ok (.iconst 0, 1) := by decide +kernel
theorem dX7_meanLevel_2 : decode cX7_meanLevel 2 = .ok (.putfield 53, 3) := by decide +kernel
theorem dX7_meanLevel_5 : decode cX7_meanLevel 5 = .ok (.aload_n 0, 1) := by decide +kernel
theorem dX7_meanLevel_6 : decode cX7_meanLevel 6 = .ok (.invokevirtual 293, 3) := by decide +kernel
theorem dX7_meanLevel_9 : decode cX7_meanLevel 9 = .ok (.freturn, 1) := by decide +kernel
theorem dX7_mix_0 : decode cX7_mix 0 = .ok (.aload_n 0, 1) := by decide +kernel
theorem dX7_mix_1 : decode cX7_mix 1 = .ok (.ldc2_w 297, 3) := by decide +kernel
theorem dX7_mix_4 : decode cX7_mix 4 = .ok (.aload_n 0, 1) := by decide +kernel
theorem dX7_mix_5 : decode cX7_mix 5 = .ok (.getfield 299, 3) := by decide +kernel
theorem dX7_mix_8 : decode cX7_mix 8 = .ok (.lmul, 1) := by decide +kernel
theorem dX7_mix_9 : decode cX7_mix 9 = .ok (.lload_n 1, 1) := by decide +kernel
theorem dX7_mix_10 : decode cX7_mix 10 = .ok (.ladd, 1) := by decide +kernel
theorem dX7_mix_11 : decode cX7_mix 11 = .ok (.putfield 299, 3) := by decide +kernel
theorem dX7_mix_14 : decode cX7_mix 14 = .ok (.return_, 1) := by decide +kernel
theorem dX7_mixKeys_0 : decode cX7_mixKeys 0 = .ok (.iconst 0, 1) := by decide +kernel
theorem dX7_mixKeys_1 : decode cX7_mixKeys 1 = .ok (.istore_n 1, 1) := by decide +kernel
theorem dX7_mixKeys_2 : decode cX7_mixKeys 2 = .ok (.iload_n 1, 1) := by decide +kernel
theorem dX7_mixKeys_3 : decode cX7_mixKeys 3 = .ok (.aload_n 0, 1) := by decide +kernel
theorem dX7_mixKeys_4 : decode cX7_mixKeys 4 = .ok (.getfield 7, 3) := by decide +kernel
theorem dX7_mixKeys_7 : decode cX7_mixKeys 7 = .ok (.iconst 0, 1) := by decide +kernel
theorem dX7_mixKeys_8 : decode cX7_mixKeys 8 = .ok (.iaload, 1) := by decide +kernel
theorem dX7_mixKeys_9 : decode cX7_mixKeys 9 = .ok (.if_icmp .ge 68, 3) := by decide +kernel
theorem dX7_mixKeys_12 : decode cX7_mixKeys 12 = .ok (.iconst 0, 1) := by decide +kernel
theorem dX7_mixKeys_13 : decode cX7_mixKeys 13 = .ok (.istore_n 2, 1) := by decide +kernel
theorem dX7_mixKeys_14 : decode cX7_mixKeys 14 = .ok (.iload_n 2, 1) := by decide +kernel
theorem dX7_mixKeys_15 : decode cX7_mixKeys 15 = .ok (.bipush 10, 2) := by decide +kernel
theorem dX7_mixKeys_17 : decode cX7_mixKeys 17 = .ok (.if_icmp .ge 20, 3) := by decide +kernel
theorem dX7_mixKeys_20 : decode cX7_mixKeys 20 = .ok (.aload_n 0, 1) := by decide +kernel
theorem dX7_mixKeys_21 : decode cX7_mixKeys 21 = .ok (.aload_n 0, 1) := by decide +kernel
theorem dX7_mixKeys_22 : decode cX7_mixKeys 22 = .ok (.iload_n 1, 1) := by decide +kernel
theorem dX7_mixKeys_23 : decode cX7_mixKeys 23 = .ok (.iload_n 2, 1) := by decide +kernel
theorem dX7_mixKeys_24 : decode cX7_mixKeys 24 = .ok (.invokevirtual 203, 3) := by decide +kernel
theorem dX7_mixKeys_27 : decode cX7_mixKeys 27 = .ok (.i2l, 1) := by decide +kernel
theorem dX7_mixKeys_28 : decode cX7_mixKeys 28 = .ok (.invokevirtual 303, 3) := by decide +kernel
theorem dX7_mixKeys_31 : decode cX7_mixKeys 31 = .ok (.iinc 2 1, 3) := by decide +kernel
theorem dX7_mixKeys_34 : decode cX7_mixKeys 34 = .ok (.goto (-20), 3) := by decide +kernel
theorem dX7_mixKeys_37 : decode cX7_mixKeys 37 = .ok (.iconst 0, 1) := by decide +kernel
theorem dX7_mixKeys_38 : decode cX7_mixKeys 38 = .ok (.istore_n 2, 1) := by decide +kernel
theorem dX7_mixKeys_39 : decode cX7_mixKeys 39 = .ok (.iload_n 2, 1) := by decide +kernel
theorem dX7_mixKeys_40 : decode cX7_mixKeys 40 = .ok (.iconst 4, 1) := by decide +kernel
theorem dX7_mixKeys_41 : decode cX7_mixKeys 41 = .ok (.if_icmp .ge 20, 3) := by decide +kernel
theorem dX7_mixKeys_44 : decode cX7_mixKeys 44 = .ok (.aload_n 0, 1) := by decide +kernel
theorem dX7_mixKeys_45 : decode cX7_mixKeys 45 = .ok (.aload_n 0, 1) := by decide +kernel
theorem dX7_mixKeys_46 : decode cX7_mixKeys 46 = .ok (.iload_n 1, 1) := by decide +kernel
theorem dX7_mixKeys_47 : decode cX7_mixKeys 47 = .ok (.iload_n 2, 1) := by decide +kernel
theorem dX7_mixKeys_48 : decode cX7_mixKeys 48 = .ok (.invokevirtual 137, 3) := by decide +kernel
theorem dX7_mixKeys_51 : decode cX7_mixKeys 51 = .ok (.i2l, 1) := by decide +kernel
theorem dX7_mixKeys_52 : decode cX7_mixKeys 52 = .ok (.invokevirtual 303, 3) := by decide +kernel
theorem dX7_mixKeys_55 : decode cX7_mixKeys 55 = .ok (.iinc 2 1, 3) := by decide +kernel
theorem dX7_mixKeys_58 : decode cX7_mixKeys 58 = .ok (.goto (-19), 3) := by decide +kernel
theorem dX7_mixKeys_61 : decode cX7_mixKeys 61 = .ok (.aload_n 0, 1) := by decide +kernel
theorem dX7_mixKeys_62 : decode cX7_mixKeys 62 = .ok (.aload_n 0, 1) := by decide +kernel
theorem dX7_mixKeys_63 : decode cX7_mixKeys 63 = .ok (.iload_n 1, 1) := by decide +kernel
theorem dX7_mixKeys_64 : decode cX7_mixKeys 64 = .ok (.invokevirtual 286, 3) := by decide +kernel
theorem dX7_mixKeys_67 : decode cX7_mixKeys 67 = .ok (.i2l, 1) := by decide +kernel
theorem dX7_mixKeys_68 : decode cX7_mixKeys 68 = .ok (.invokevirtual 303, 3) := by decide +kernel
theorem dX7_mixKeys_71 : decode cX7_mixKeys 71 = .ok (.iinc 1 1, 3) := by decide +kernel
theorem dX7_mixKeys_74 : decode cX7_mixKeys 74 = .ok (.goto (-72), 3) := by decide +kernel
theorem dX7_mixKeys_77 : decode cX7_mixKeys 77 = .ok (.return_, 1) := by decide +kernel
theorem dX7_mixPlaces_0 : decode cX7_mixPlaces 0 = .ok (.iconst 0, 1) := by decide +kernel
theorem dX7_mixPlaces_1 : decode cX7_mixPlaces 1 = .ok (.istore_n 1, 1) := by decide +kernel
theorem dX7_mixPlaces_2 : decode cX7_mixPlaces 2 = .ok (.iload_n 1, 1) := by decide +kernel
theorem dX7_mixPlaces_3 : decode cX7_mixPlaces 3 = .ok (.bipush 6, 2) := by decide +kernel
theorem dX7_mixPlaces_5 : decode cX7_mixPlaces 5 = .ok (.if_icmp .ge 34, 3) := by decide +kernel
theorem dX7_mixPlaces_8 : decode cX7_mixPlaces 8 = .ok (.iconst 0, 1) := by decide +kernel
theorem dX7_mixPlaces_9 : decode cX7_mixPlaces 9 = .ok (.istore_n 2, 1) := by decide +kernel
theorem dX7_mixPlaces_10 : decode cX7_mixPlaces 10 = .ok (.iload_n 2, 1) := by decide +kernel
theorem dX7_mixPlaces_11 : decode cX7_mixPlaces 11 = .ok (.bipush 6, 2) := by decide +kernel
theorem dX7_mixPlaces_13 : decode cX7_mixPlaces 13 = .ok (.if_icmp .ge 20, 3) := by decide +kernel
theorem dX7_mixPlaces_16 : decode cX7_mixPlaces 16 = .ok (.aload_n 0, 1) := by decide +kernel
theorem dX7_mixPlaces_17 : decode cX7_mixPlaces 17 = .ok (.aload_n 0, 1) := by decide +kernel
theorem dX7_mixPlaces_18 : decode cX7_mixPlaces 18 = .ok (.iload_n 1, 1) := by decide +kernel
theorem dX7_mixPlaces_19 : decode cX7_mixPlaces 19 = .ok (.iload_n 2, 1) := by decide +kernel
theorem dX7_mixPlaces_20 : decode cX7_mixPlaces 20 = .ok (.invokevirtual 209, 3) := by decide +kernel
theorem dX7_mixPlaces_23 : decode cX7_mixPlaces 23 = .ok (.i2l, 1) := by decide +kernel
theorem dX7_mixPlaces_24 : decode cX7_mixPlaces 24 = .ok (.invokevirtual 303, 3) := by decide +kernel
theorem dX7_mixPlaces_27 : decode cX7_mixPlaces 27 = .ok (.iinc 2 1, 3) := by decide +kernel
theorem dX7_mixPlaces_30 : decode cX7_mixPlaces 30 = .ok (.goto (-20), 3) := by decide +kernel
theorem dX7_mixPlaces_33 : decode cX7_mixPlaces 33 = .ok (.iinc 1 1, 3) := by decide +kernel
theorem dX7_mixPlaces_36 : decode cX7_mixPlaces 36 = .ok (.goto (-34), 3) := by decide +kernel
theorem dX7_mixPlaces_39 : decode cX7_mixPlaces 39 = .ok (.iconst 0, 1) := by decide +kernel
theorem dX7_mixPlaces_40 : decode cX7_mixPlaces 40 = .ok (.istore_n 1, 1) := by decide +kernel
theorem dX7_mixPlaces_41 : decode cX7_mixPlaces 41 = .ok (.iload_n 1, 1) := by decide +kernel
theorem dX7_mixPlaces_42 : decode cX7_mixPlaces 42 = .ok (.iconst 4, 1) := by decide +kernel
theorem dX7_mixPlaces_43 : decode cX7_mixPlaces 43 = .ok (.if_icmp .ge 33, 3) := by decide +kernel
theorem dX7_mixPlaces_46 : decode cX7_mixPlaces 46 = .ok (.iconst 0, 1) := by decide +kernel
theorem dX7_mixPlaces_47 : decode cX7_mixPlaces 47 = .ok (.istore_n 2, 1) := by decide +kernel
theorem dX7_mixPlaces_48 : decode cX7_mixPlaces 48 = .ok (.iload_n 2, 1) := by decide +kernel
theorem dX7_mixPlaces_49 : decode cX7_mixPlaces 49 = .ok (.iconst 3, 1) := by decide +kernel
theorem dX7_mixPlaces_50 : decode cX7_mixPlaces 50 = .ok (.if_icmp .ge 20, 3) := by decide +kernel
theorem dX7_mixPlaces_53 : decode cX7_mixPlaces 53 = .ok (.aload_n 0, 1) := by decide +kernel
theorem dX7_mixPlaces_54 : decode cX7_mixPlaces 54 = .ok (.aload_n 0, 1) := by decide +kernel
theorem dX7_mixPlaces_55 : decode cX7_mixPlaces 55 = .ok (.iload_n 1, 1) := by decide +kernel
theorem dX7_mixPlaces_56 : decode cX7_mixPlaces 56 = .ok (.iload_n 2, 1) := by decide +kernel
theorem dX7_mixPlaces_57 : decode cX7_mixPlaces 57 = .ok (.invokevirtual 212, 3) := by decide +kernel
theorem dX7_mixPlaces_60 : decode cX7_mixPlaces 60 = .ok (.i2l, 1) := by decide +kernel
theorem dX7_mixPlaces_61 : decode cX7_mixPlaces 61 = .ok (.invokevirtual 303, 3) := by decide +kernel
theorem dX7_mixPlaces_64 : decode cX7_mixPlaces 64 = .ok (.iinc 2 1, 3) := by decide +kernel
theorem dX7_mixPlaces_67 : decode cX7_mixPlaces 67 = .ok (.goto (-19), 3) := by decide +kernel
theorem dX7_mixPlaces_70 : decode cX7_mixPlaces 70 = .ok (.iinc 1 1, 3) := by decide +kernel
theorem dX7_mixPlaces_73 : decode cX7_mixPlaces 73 = .ok (.goto (-32), 3) := by decide +kernel
theorem dX7_mixPlaces_76 : decode cX7_mixPlaces 76 = .ok (.return_, 1) := by decide +kernel
theorem dX7_mixCodes_0 : decode cX7_mixCodes 0 = .ok (.iconst 0, 1) := by decide +kernel
theorem dX7_mixCodes_1 : decode cX7_mixCodes 1 = .ok (.istore_n 1, 1) := by decide +kernel
theorem dX7_mixCodes_2 : decode cX7_mixCodes 2 = .ok (.iload_n 1, 1) := by decide +kernel
theorem dX7_mixCodes_3 : decode cX7_mixCodes 3 = .ok (.bipush 81, 2) := by decide +kernel
theorem dX7_mixCodes_5 : decode cX7_mixCodes 5 = .ok (.if_icmp .ge 34, 3) := by decide +kernel
theorem dX7_mixCodes_8 : decode cX7_mixCodes 8 = .ok (.iconst 2, 1) := by decide +kernel
theorem dX7_mixCodes_9 : decode cX7_mixCodes 9 = .ok (.istore_n 2, 1) := by decide +kernel
theorem dX7_mixCodes_10 : decode cX7_mixCodes 10 = .ok (.iload_n 2, 1) := by decide +kernel
theorem dX7_mixCodes_11 : decode cX7_mixCodes 11 = .ok (.bipush 6, 2) := by decide +kernel
theorem dX7_mixCodes_13 : decode cX7_mixCodes 13 = .ok (.if_icmp .ge 20, 3) := by decide +kernel
theorem dX7_mixCodes_16 : decode cX7_mixCodes 16 = .ok (.aload_n 0, 1) := by decide +kernel
theorem dX7_mixCodes_17 : decode cX7_mixCodes 17 = .ok (.aload_n 0, 1) := by decide +kernel
theorem dX7_mixCodes_18 : decode cX7_mixCodes 18 = .ok (.iload_n 1, 1) := by decide +kernel
theorem dX7_mixCodes_19 : decode cX7_mixCodes 19 = .ok (.iload_n 2, 1) := by decide +kernel
theorem dX7_mixCodes_20 : decode cX7_mixCodes 20 = .ok (.invokevirtual 221, 3) := by decide +kernel
theorem dX7_mixCodes_23 : decode cX7_mixCodes 23 = .ok (.i2l, 1) := by decide +kernel
theorem dX7_mixCodes_24 : decode cX7_mixCodes 24 = .ok (.invokevirtual 303, 3) := by decide +kernel
theorem dX7_mixCodes_27 : decode cX7_mixCodes 27 = .ok (.iinc 2 1, 3) := by decide +kernel
theorem dX7_mixCodes_30 : decode cX7_mixCodes 30 = .ok (.goto (-20), 3) := by decide +kernel
theorem dX7_mixCodes_33 : decode cX7_mixCodes 33 = .ok (.iinc 1 1, 3) := by decide +kernel
theorem dX7_mixCodes_36 : decode cX7_mixCodes 36 = .ok (.goto (-34), 3) := by decide +kernel
theorem dX7_mixCodes_39 : decode cX7_mixCodes 39 = .ok (.iconst 0, 1) := by decide +kernel
theorem dX7_mixCodes_40 : decode cX7_mixCodes 40 = .ok (.istore_n 1, 1) := by decide +kernel
theorem dX7_mixCodes_41 : decode cX7_mixCodes 41 = .ok (.iload_n 1, 1) := by decide +kernel
theorem dX7_mixCodes_42 : decode cX7_mixCodes 42 = .ok (.bipush 9, 2) := by decide +kernel
theorem dX7_mixCodes_44 : decode cX7_mixCodes 44 = .ok (.if_icmp .ge 33, 3) := by decide +kernel
theorem dX7_mixCodes_47 : decode cX7_mixCodes 47 = .ok (.iconst 0, 1) := by decide +kernel
theorem dX7_mixCodes_48 : decode cX7_mixCodes 48 = .ok (.istore_n 2, 1) := by decide +kernel
theorem dX7_mixCodes_49 : decode cX7_mixCodes 49 = .ok (.iload_n 2, 1) := by decide +kernel
theorem dX7_mixCodes_50 : decode cX7_mixCodes 50 = .ok (.iconst 4, 1) := by decide +kernel
theorem dX7_mixCodes_51 : decode cX7_mixCodes 51 = .ok (.if_icmp .ge 20, 3) := by decide +kernel
theorem dX7_mixCodes_54 : decode cX7_mixCodes 54 = .ok (.aload_n 0, 1) := by decide +kernel
theorem dX7_mixCodes_55 : decode cX7_mixCodes 55 = .ok (.aload_n 0, 1) := by decide +kernel
theorem dX7_mixCodes_56 : decode cX7_mixCodes 56 = .ok (.iload_n 1, 1) := by decide +kernel
theorem dX7_mixCodes_57 : decode cX7_mixCodes 57 = .ok (.iload_n 2, 1) := by decide +kernel
theorem dX7_mixCodes_58 : decode cX7_mixCodes 58 = .ok (.invokevirtual 224, 3) := by decide +kernel
theorem dX7_mixCodes_61 : decode cX7_mixCodes 61 = .ok (.i2l, 1) := by decide +kernel
theorem dX7_mixCodes_62 : decode cX7_mixCodes 62 = .ok (.invokevirtual 303, 3) := by decide +kernel
theorem dX7_mixCodes_65 : decode cX7_mixCodes 65 = .ok (.iinc 2 1, 3) := by decide +kernel
theorem dX7_mixCodes_68 : decode cX7_mixCodes 68 = .ok (.goto (-19), 3) := by decide +kernel
theorem dX7_mixCodes_71 : decode cX7_mixCodes 71 = .ok (.iinc 1 1, 3) := by decide +kernel
theorem dX7_mixCodes_74 : decode cX7_mixCodes 74 = .ok (.goto (-33), 3) := by decide +kernel
theorem dX7_mixCodes_77 : decode cX7_mixCodes 77 = .ok (.return_, 1) := by decide +kernel
theorem dX7_digest_0 : decode cX7_digest 0 = .ok (.aload_n 0, 1) := by decide +kernel
theorem dX7_digest_1 : decode cX7_digest 1 = .ok (.iconst 0, 1) := by decide +kernel
theorem dX7_digest_2 : decode cX7_digest 2 = .ok (.putfield 53, 3) := by decide +kernel
theorem dX7_digest_5 : decode cX7_digest 5 = .ok (.aload_n 0, 1) := by decide +kernel
theorem dX7_digest_6 : decode cX7_digest 6 = .ok (.ldc2_w 307, 3) := by decide +kernel
theorem dX7_digest_9 : decode cX7_digest 9 = .ok (.putfield 299, 3) := by decide +kernel
theorem dX7_digest_12 : decode cX7_digest 12 = .ok (.iconst 0, 1) := by decide +kernel
theorem dX7_digest_13 : decode cX7_digest 13 = .ok (.istore_n 1, 1) := by decide +kernel
theorem dX7_digest_14 : decode cX7_digest 14 = .ok (.iload_n 1, 1) := by decide +kernel
theorem dX7_digest_15 : decode cX7_digest 15 = .ok (.bipush 12, 2) := by decide +kernel
theorem dX7_digest_17 : decode cX7_digest 17 = .ok (.if_icmp .ge 19, 3) := by decide +kernel
theorem dX7_digest_20 : decode cX7_digest 20 = .ok (.aload_n 0, 1) := by decide +kernel
theorem dX7_digest_21 : decode cX7_digest 21 = .ok (.aload_n 0, 1) := by decide +kernel
theorem dX7_digest_22 : decode cX7_digest 22 = .ok (.iload_n 1, 1) := by decide +kernel
theorem dX7_digest_23 : decode cX7_digest 23 = .ok (.invokevirtual 243, 3) := by decide +kernel
theorem dX7_digest_26 : decode cX7_digest 26 = .ok (.i2l, 1) := by decide +kernel
theorem dX7_digest_27 : decode cX7_digest 27 = .ok (.invokevirtual 303, 3) := by decide +kernel
theorem dX7_digest_30 : decode cX7_digest 30 = .ok (.iinc 1 1, 3) := by decide +kernel
theorem dX7_digest_33 : decode cX7_digest 33 = .ok (.goto (-19), 3) := by decide +kernel
theorem dX7_digest_36 : decode cX7_digest 36 = .ok (.iconst 0, 1) := by decide +kernel
theorem dX7_digest_37 : decode cX7_digest 37 = .ok (.istore_n 1, 1) := by decide +kernel
theorem dX7_digest_38 : decode cX7_digest 38 = .ok (.iload_n 1, 1) := by decide +kernel
theorem dX7_digest_39 : decode cX7_digest 39 = .ok (.iconst 4, 1) := by decide +kernel
theorem dX7_digest_40 : decode cX7_digest 40 = .ok (.if_icmp .ge 23, 3) := by decide +kernel
theorem dX7_digest_43 : decode cX7_digest 43 = .ok (.aload_n 0, 1) := by decide +kernel
theorem dX7_digest_44 : decode cX7_digest 44 = .ok (.aload_n 0, 1) := by decide +kernel
theorem dX7_digest_45 : decode cX7_digest 45 = .ok (.getfield 7, 3) := by decide +kernel
theorem dX7_digest_48 : decode cX7_digest 48 = .ok (.bipush 8, 2) := by decide +kernel
theorem dX7_digest_50 : decode cX7_digest 50 = .ok (.iload_n 1, 1) := by decide +kernel
theorem dX7_digest_51 : decode cX7_digest 51 = .ok (.iadd, 1) := by decide +kernel
theorem dX7_digest_52 : decode cX7_digest 52 = .ok (.iaload, 1) := by decide +kernel
theorem dX7_digest_53 : decode cX7_digest 53 = .ok (.i2l, 1) := by decide +kernel
theorem dX7_digest_54 : decode cX7_digest 54 = .ok (.invokevirtual 303, 3) := by decide +kernel
theorem dX7_digest_57 : decode cX7_digest 57 = .ok (.iinc 1 1, 3) := by decide +kernel
theorem dX7_digest_60 : decode cX7_digest 60 = .ok (.goto (-22), 3) := by decide +kernel
theorem dX7_digest_63 : decode cX7_digest 63 = .ok (.aload_n 0, 1) := by decide +kernel
theorem dX7_digest_64 : decode cX7_digest 64 = .ok (.invokevirtual 309, 3) := by decide +kernel
theorem dX7_digest_67 : decode cX7_digest 67 = .ok (.aload_n 0, 1) := by decide +kernel
theorem dX7_digest_68 : decode cX7_digest 68 = .ok (.invokevirtual 312, 3) := by decide +kernel
theorem dX7_digest_71 : decode cX7_digest 71 = .ok (.aload_n 0, 1) := by decide +kernel
theorem dX7_digest_72 : decode cX7_digest 72 = .ok (.invokevirtual 315, 3) := by decide +kernel
theorem dX7_digest_75 : decode cX7_digest 75 = .ok (.aload_n 0, 1) := by decide +kernel
theorem dX7_digest_76 : decode cX7_digest 76 = .ok (.aload_n 0, 1) := by decide +kernel
theorem dX7_digest_77 : decode cX7_digest 77 = .ok (.getfield 7, 3) := by decide +kernel
theorem dX7_digest_80 : decode cX7_digest 80 = .ok (.bipush 6, 2) := by decide +kernel
theorem dX7_digest_82 : decode cX7_digest 82 = .ok (.iaload, 1) := by decide +kernel
theorem dX7_digest_83 : decode cX7_digest 83 = .ok (.i2l, 1) := by decide +kernel
theorem dX7_digest_84 : decode cX7_digest 84 = .ok (.invokevirtual 303, 3) := by decide +kernel
theorem dX7_digest_87 : decode cX7_digest 87 = .ok (.aload_n 0, 1) := by decide +kernel
theorem dX7_digest_88 : decode cX7_digest 88 = .ok (.aload_n 0, 1) := by decide +kernel
theorem dX7_digest_89 : decode cX7_digest 89 = .ok (.getfield 7, 3) := by decide +kernel
theorem dX7_digest_92 : decode cX7_digest 92 = .ok (.bipush 7, 2) := by decide +kernel
theorem dX7_digest_94 : decode cX7_digest 94 = .ok (.iaload, 1) := by decide +kernel
theorem dX7_digest_95 : decode cX7_digest 95 = .ok (.i2l, 1) := by decide +kernel
theorem dX7_digest_96 : decode cX7_digest 96 = .ok (.invokevirtual 303, 3) := by decide +kernel
theorem dX7_digest_99 : decode cX7_digest 99 = .ok (.aload_n 0, 1) := by decide +kernel
theorem dX7_digest_100 : decode cX7_digest 100 = .ok (.aload_n 0, 1) := by decide +kernel
theorem dX7_digest_101 : decode cX7_digest 101 = .ok (.iconst 0, 1) := by decide +kernel
theorem dX7_digest_102 : decode cX7_digest 102 = .ok (.invokevirtual 271, 3) := by decide +kernel
theorem dX7_digest_105 : decode cX7_digest 105 = .ok (.i2l, 1) := by decide +kernel
theorem dX7_digest_106 : decode cX7_digest 106 = .ok (.invokevirtual 303, 3) := by decide +kernel
theorem dX7_digest_109 : decode cX7_digest 109 = .ok (.aload_n 0, 1) := by decide +kernel
theorem dX7_digest_110 : decode cX7_digest 110 = .ok (.invokevirtual 268, 3) := by decide +kernel
theorem dX7_digest_113 : decode cX7_digest 113 = .ok (.aload_n 0, 1) := by decide +kernel
theorem dX7_digest_114 : decode cX7_digest 114 = .ok (.aload_n 0, 1) := by decide +kernel
theorem dX7_digest_115 : decode cX7_digest 115 = .ok (.getfield 259, 3) := by decide +kernel
theorem dX7_digest_118 : decode cX7_digest 118 = .ok (.i2l, 1) := by decide +kernel
theorem dX7_digest_119 : decode cX7_digest 119 = .ok (.invokevirtual 303, 3) := by decide +kernel
theorem dX7_digest_122 : decode cX7_digest 122 = .ok (.iconst 0, 1) := by decide +kernel
theorem dX7_digest_123 : decode cX7_digest 123 = .ok (.istore_n 1, 1) := by decide +kernel
theorem dX7_digest_124 : decode cX7_digest 124 = .ok (.iload_n 1, 1) := by decide +kernel
theorem dX7_digest_125 : decode cX7_digest 125 = .ok (.iconst 3, 1) := by decide +kernel
theorem dX7_digest_126 : decode cX7_digest 126 = .ok (.if_icmp .ge 34, 3) := by decide +kernel
theorem dX7_digest_129 : decode cX7_digest 129 = .ok (.aload_n 0, 1) := by decide +kernel
theorem dX7_digest_130 : decode cX7_digest 130 = .ok (.iload_n 1, 1) := by decide +kernel
theorem dX7_digest_131 : decode cX7_digest 131 = .ok (.aload_n 0, 1) := by decide +kernel
theorem dX7_digest_132 : decode cX7_digest 132 = .ok (.getfield 259, 3) := by decide +kernel
theorem dX7_digest_135 : decode cX7_digest 135 = .ok (.if_icmp .ge 13, 3) := by decide +kernel
theorem dX7_digest_138 : decode cX7_digest 138 = .ok (.aload_n 0, 1) := by decide +kernel
theorem dX7_digest_139 : decode cX7_digest 139 = .ok (.getfield 46, 3) := by decide +kernel
theorem dX7_digest_142 : decode cX7_digest 142 = .ok (.iload_n 1, 1) := by decide +kernel
theorem dX7_digest_143 : decode cX7_digest 143 = .ok (.iaload, 1) := by decide +kernel
theorem dX7_digest_144 : decode cX7_digest 144 = .ok (.i2l, 1) := by decide +kernel
theorem dX7_digest_145 : decode cX7_digest 145 = .ok (.goto 6, 3) := by decide +kernel
theorem dX7_digest_148 : decode cX7_digest 148 = .ok (.ldc2_w 318, 3) := by decide +kernel
theorem dX7_digest_151 : decode cX7_digest 151 = .ok (.invokevirtual 303, 3) := by decide +kernel
theorem dX7_digest_154 : decode cX7_digest 154 = .ok (.iinc 1 1, 3) := by decide +kernel
theorem dX7_digest_157 : decode cX7_digest 157 = .ok (.goto (-33), 3) := by decide +kernel
theorem dX7_digest_160 : decode cX7_digest 160 = .ok (.aload_n 0, 1) := by decide +kernel
theorem dX7_digest_161 : decode cX7_digest 161 = .ok (.aload_n 0, 1) := by decide +kernel
theorem dX7_digest_162 : decode cX7_digest 162 = .ok (.invokevirtual 289, 3) := by decide +kernel
theorem dX7_digest_165 : decode cX7_digest 165 = .ok (.invokestatic 320, 3) := by decide +kernel
theorem dX7_digest_168 : decode cX7_digest 168 = .ok (.invokevirtual 303, 3) := by decide +kernel
theorem dX7_digest_171 : decode cX7_digest 171 = .ok (.aload_n 0, 1) := by decide +kernel
theorem dX7_digest_172 : decode cX7_digest 172 = .ok (.aload_n 0, 1) := by decide +kernel
theorem dX7_digest_173 : decode cX7_digest 173 = .ok (.invokevirtual 293, 3) := by decide +kernel
theorem dX7_digest_176 : decode cX7_digest 176 = .ok (.invokestatic 326, 3) := by decide +kernel
theorem dX7_digest_179 : decode cX7_digest 179 = .ok (.i2l, 1) := by decide +kernel
theorem dX7_digest_180 : decode cX7_digest 180 = .ok (.invokevirtual 303, 3) := by decide +kernel
theorem dX7_digest_183 : decode cX7_digest 183 = .ok (.aload_n 0, 1) := by decide +kernel
theorem dX7_digest_184 : decode cX7_digest 184 = .ok (.aload_n 0, 1) := by decide +kernel
theorem dX7_digest_185 : decode cX7_digest 185 = .ok (.getfield 72, 3) := by decide +kernel
theorem dX7_digest_188 : decode cX7_digest 188 = .ok (.ifCond .eq 7, 3) := by decide +kernel
theorem dX7_digest_191 : decode cX7_digest 191 = .ok (.lconst 1, 1) := by decide +kernel
theorem dX7_digest_192 : decode cX7_digest 192 = .ok (.goto 4, 3) := by decide +kernel
theorem dX7_digest_195 : decode cX7_digest 195 = .ok (.lconst 0, 1) := by decide +kernel
theorem dX7_digest_196 : decode cX7_digest 196 = .ok (.invokevirtual 303, 3) := by decide +kernel
theorem dX7_digest_199 : decode cX7_digest 199 = .ok (.aload_n 0, 1) := by decide +kernel
theorem dX7_digest_200 : decode cX7_digest 200 = .ok (.aload_n 0, 1) := by decide +kernel
theorem dX7_digest_201 : decode cX7_digest 201 = .ok (.getfield 155, 3) := by decide +kernel
theorem dX7_digest_204 : decode cX7_digest 204 = .ok (.i2l, 1) := by decide +kernel
theorem dX7_digest_205 : decode cX7_digest 205 = .ok (.invokevirtual 303, 3) := by decide +kernel
theorem dX7_digest_208 : decode cX7_digest 208 = .ok (.iconst 0, 1) := by decide +kernel
theorem dX7_digest_209 : decode cX7_digest 209 = .ok (.istore_n 1, 1) := by decide +kernel
theorem dX7_digest_210 : decode cX7_digest 210 = .ok (.iload_n 1, 1) := by decide +kernel
theorem dX7_digest_211 : decode cX7_digest 211 = .ok (.aload_n 0, 1) := by decide +kernel
theorem dX7_digest_212 : decode cX7_digest 212 = .ok (.getfield 155, 3) := by decide +kernel
theorem dX7_digest_215 : decode cX7_digest 215 = .ok (.if_icmp .ge 20, 3) := by decide +kernel
theorem dX7_digest_218 : decode cX7_digest 218 = .ok (.aload_n 0, 1) := by decide +kernel
theorem dX7_digest_219 : decode cX7_digest 219 = .ok (.aload_n 0, 1) := by decide +kernel
theorem dX7_digest_220 : decode cX7_digest 220 = .ok (.getfield 19, 3) := by decide +kernel
theorem dX7_digest_223 : decode cX7_digest 223 = .ok (.iload_n 1, 1) := by decide +kernel
theorem dX7_digest_224 : decode cX7_digest 224 = .ok (.iaload, 1) := by decide +kernel
theorem dX7_digest_225 : decode cX7_digest 225 = .ok (.i2l, 1) := by decide +kernel
theorem dX7_digest_226 : decode cX7_digest 226 = .ok (.invokevirtual 303, 3) := by decide +kernel
theorem dX7_digest_229 : decode cX7_digest 229 = .ok (.iinc 1 1, 3) := by decide +kernel
theorem dX7_digest_232 : decode cX7_digest 232 = .ok (.goto (-22), 3) := by decide +kernel
theorem dX7_digest_235 : decode cX7_digest 235 = .ok (.aload_n 0, 1) := by decide +kernel
theorem dX7_digest_236 : decode cX7_digest 236 = .ok (.getfield 299, 3) := by decide +kernel
theorem dX7_digest_239 : decode cX7_digest 239 = .ok (.lreturn, 1) := by decide +kernel
