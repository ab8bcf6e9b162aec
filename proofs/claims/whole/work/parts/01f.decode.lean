theorem dX8_seeks_43 : decode cX8_seeks 43 = .ok (.sipush 240, 3) := by decide +kernel
theorem dX8_seeks_46 : decode cX8_seeks 46 = .ok (.if_icmp .ge 131, 3) := by decide +kernel
theorem dX8_seeks_49 : decode cX8_seeks 49 = .ok (.iload_n 3, 1) := by decide +kernel
theorem dX8_seeks_50 : decode cX8_seeks 50 = .ok (.ifCond .ne 24, 3) := by decide +kernel
theorem dX8_seeks_53 : decode cX8_seeks 53 = .ok (.iload 5, 2) := by decide +kernel
theorem dX8_seeks_55 : decode cX8_seeks 55 = .ok (.aload_n 0, 1) := by decide +kernel
theorem dX8_seeks_56 : decode cX8_seeks 56 = .ok (.getfield 45, 3) := by decide +kernel
theorem dX8_seeks_59 : decode cX8_seeks 59 = .ok (.iload_n 1, 1) := by decide +kernel
theorem dX8_seeks_60 : decode cX8_seeks 60 = .ok (.iaload, 1) := by decide +kernel
theorem dX8_seeks_61 : decode cX8_seeks 61 = .ok (.if_icmp .lt 7, 3) := by decide +kernel
theorem dX8_seeks_64 : decode cX8_seeks 64 = .ok (.iconst 1, 1) := by decide +kernel
theorem dX8_seeks_65 : decode cX8_seeks 65 = .ok (.goto 4, 3) := by decide +kernel
theorem dX8_seeks_68 : decode cX8_seeks 68 = .ok (.iconst 0, 1) := by decide +kernel
theorem dX8_seeks_69 : decode cX8_seeks 69 = .ok (.istore 4, 2) := by decide +kernel
theorem dX8_seeks_71 : decode cX8_seeks 71 = .ok (.goto 49, 3) := by decide +kernel
theorem dX8_seeks_74 : decode cX8_seeks 74 = .ok (.aload_n 0, 1) := by decide +kernel
theorem dX8_seeks_75 : decode cX8_seeks 75 = .ok (.getfield 69, 3) := by decide +kernel
theorem dX8_seeks_78 : decode cX8_seeks 78 = .ok (.sipush 240, 3) := by decide +kernel
theorem dX8_seeks_81 : decode cX8_seeks 81 = .ok (.iload_n 3, 1) := by decide +kernel
theorem dX8_seeks_82 : decode cX8_seeks 82 = .ok (.imul, 1) := by decide +kernel
theorem dX8_seeks_83 : decode cX8_seeks 83 = .ok (.iload 5, 2) := by decide +kernel
theorem dX8_seeks_85 : decode cX8_seeks 85 = .ok (.iadd, 1) := by decide +kernel
theorem dX8_seeks_86 : decode cX8_seeks 86 = .ok (.baload, 1) := by decide +kernel
theorem dX8_seeks_87 : decode cX8_seeks 87 = .ok (.ifCond .ne 26, 3) := by decide +kernel
theorem dX8_seeks_90 : decode cX8_seeks 90 = .ok (.iload 4, 2) := by decide +kernel
theorem dX8_seeks_92 : decode cX8_seeks 92 = .ok (.ifCond .eq 25, 3) := by decide +kernel
theorem dX8_seeks_95 : decode cX8_seeks 95 = .ok (.aload_n 0, 1) := by decide +kernel
theorem dX8_seeks_96 : decode cX8_seeks 96 = .ok (.iload_n 1, 1) := by decide +kernel
theorem dX8_seeks_97 : decode cX8_seeks 97 = .ok (.aload_n 0, 1) := by decide +kernel
theorem dX8_seeks_98 : decode cX8_seeks 98 = .ok (.iload_n 1, 1) := by decide +kernel
theorem dX8_seeks_99 : decode cX8_seeks 99 = .ok (.iload_n 3, 1) := by decide +kernel
theorem dX8_seeks_100 : decode cX8_seeks 100 = .ok (.invokevirtual 151, 3) := by decide +kernel
theorem dX8_seeks_103 : decode cX8_seeks 103 = .ok (.iload 5, 2) := by decide +kernel
theorem dX8_seeks_105 : decode cX8_seeks 105 = .ok (.iconst 1, 1) := by decide +kernel
theorem dX8_seeks_106 : decode cX8_seeks 106 = .ok (.isub, 1) := by decide +kernel
theorem dX8_seeks_107 : decode cX8_seeks 107 = .ok (.invokevirtual 160, 3) := by decide +kernel
theorem dX8_seeks_110 : decode cX8_seeks 110 = .ok (.ifCond .eq 7, 3) := by decide +kernel
theorem dX8_seeks_113 : decode cX8_seeks 113 = .ok (.iconst 1, 1) := by decide +kernel
theorem dX8_seeks_114 : decode cX8_seeks 114 = .ok (.goto 4, 3) := by decide +kernel
theorem dX8_seeks_117 : decode cX8_seeks 117 = .ok (.iconst 0, 1) := by decide +kernel
theorem dX8_seeks_118 : decode cX8_seeks 118 = .ok (.istore 4, 2) := by decide +kernel
theorem dX8_seeks_120 : decode cX8_seeks 120 = .ok (.iload 5, 2) := by decide +kernel
theorem dX8_seeks_122 : decode cX8_seeks 122 = .ok (.aload_n 0, 1) := by decide +kernel
theorem dX8_seeks_123 : decode cX8_seeks 123 = .ok (.iload_n 1, 1) := by decide +kernel
theorem dX8_seeks_124 : decode cX8_seeks 124 = .ok (.iload_n 3, 1) := by decide +kernel
theorem dX8_seeks_125 : decode cX8_seeks 125 = .ok (.invokevirtual 134, 3) := by decide +kernel
theorem dX8_seeks_128 : decode cX8_seeks 128 = .ok (.iadd, 1) := by decide +kernel
theorem dX8_seeks_129 : decode cX8_seeks 129 = .ok (.istore 6, 2) := by decide +kernel
theorem dX8_seeks_131 : decode cX8_seeks 131 = .ok (.iload 4, 2) := by decide +kernel
theorem dX8_seeks_133 : decode cX8_seeks 133 = .ok (.ifCond .eq 38, 3) := by decide +kernel
theorem dX8_seeks_136 : decode cX8_seeks 136 = .ok (.iload 6, 2) := by decide +kernel
theorem dX8_seeks_138 : decode cX8_seeks 138 = .ok (.sipush 240, 3) := by decide +kernel
theorem dX8_seeks_141 : decode cX8_seeks 141 = .ok (.if_icmp .ge 30, 3) := by decide +kernel
theorem dX8_seeks_144 : decode cX8_seeks 144 = .ok (.aload_n 0, 1) := by decide +kernel
theorem dX8_seeks_145 : decode cX8_seeks 145 = .ok (.iload_n 1, 1) := by decide +kernel
theorem dX8_seeks_146 : decode cX8_seeks 146 = .ok (.iload_n 3, 1) := by decide +kernel
theorem dX8_seeks_147 : decode cX8_seeks 147 = .ok (.iload 5, 2) := by decide +kernel
theorem dX8_seeks_149 : decode cX8_seeks 149 = .ok (.invokevirtual 163, 3) := by decide +kernel
theorem dX8_seeks_152 : decode cX8_seeks 152 = .ok (.ifCond .eq 19, 3) := by decide +kernel
theorem dX8_seeks_155 : decode cX8_seeks 155 = .ok (.aload_n 0, 1) := by decide +kernel
theorem dX8_seeks_156 : decode cX8_seeks 156 = .ok (.getfield 69, 3) := by decide +kernel
theorem dX8_seeks_159 : decode cX8_seeks 159 = .ok (.sipush 240, 3) := by decide +kernel
theorem dX8_seeks_162 : decode cX8_seeks 162 = .ok (.iload_n 3, 1) := by decide +kernel
theorem dX8_seeks_163 : decode cX8_seeks 163 = .ok (.iconst 1, 1) := by decide +kernel
theorem dX8_seeks_164 : decode cX8_seeks 164 = .ok (.iadd, 1) := by decide +kernel
theorem dX8_seeks_165 : decode cX8_seeks 165 = .ok (.imul, 1) := by decide +kernel
theorem dX8_seeks_166 : decode cX8_seeks 166 = .ok (.iload 6, 2) := by decide +kernel
theorem dX8_seeks_168 : decode cX8_seeks 168 = .ok (.iadd, 1) := by decide +kernel
theorem dX8_seeks_169 : decode cX8_seeks 169 = .ok (.iconst 1, 1) := by decide +kernel
theorem dX8_seeks_170 : decode cX8_seeks 170 = .ok (.bastore, 1) := by decide +kernel
theorem dX8_seeks_171 : decode cX8_seeks 171 = .ok (.iinc 5 1, 3) := by decide +kernel
theorem dX8_seeks_174 : decode cX8_seeks 174 = .ok (.goto (-133), 3) := by decide +kernel
theorem dX8_seeks_177 : decode cX8_seeks 177 = .ok (.iinc 3 1, 3) := by decide +kernel
theorem dX8_seeks_180 : decode cX8_seeks 180 = .ok (.goto (-150), 3) := by decide +kernel
theorem dX8_seeks_183 : decode cX8_seeks 183 = .ok (.iconst 0, 1) := by decide +kernel
theorem dX8_seeks_184 : decode cX8_seeks 184 = .ok (.istore_n 3, 1) := by decide +kernel
theorem dX8_seeks_185 : decode cX8_seeks 185 = .ok (.iload_n 3, 1) := by decide +kernel
theorem dX8_seeks_186 : decode cX8_seeks 186 = .ok (.aload_n 0, 1) := by decide +kernel
theorem dX8_seeks_187 : decode cX8_seeks 187 = .ok (.getfield 48, 3) := by decide +kernel
theorem dX8_seeks_190 : decode cX8_seeks 190 = .ok (.iload_n 1, 1) := by decide +kernel
theorem dX8_seeks_191 : decode cX8_seeks 191 = .ok (.iaload, 1) := by decide +kernel
theorem dX8_seeks_192 : decode cX8_seeks 192 = .ok (.if_icmp .gt 24, 3) := by decide +kernel
theorem dX8_seeks_195 : decode cX8_seeks 195 = .ok (.aload_n 0, 1) := by decide +kernel
theorem dX8_seeks_196 : decode cX8_seeks 196 = .ok (.getfield 69, 3) := by decide +kernel
theorem dX8_seeks_199 : decode cX8_seeks 199 = .ok (.sipush 240, 3) := by decide +kernel
theorem dX8_seeks_202 : decode cX8_seeks 202 = .ok (.iload_n 2, 1) := by decide +kernel
theorem dX8_seeks_203 : decode cX8_seeks 203 = .ok (.imul, 1) := by decide +kernel
theorem dX8_seeks_204 : decode cX8_seeks 204 = .ok (.iload_n 3, 1) := by decide +kernel
theorem dX8_seeks_205 : decode cX8_seeks 205 = .ok (.iadd, 1) := by decide +kernel
theorem dX8_seeks_206 : decode cX8_seeks 206 = .ok (.baload, 1) := by decide +kernel
theorem dX8_seeks_207 : decode cX8_seeks 207 = .ok (.ifCond .ne 9, 3) := by decide +kernel
theorem dX8_seeks_210 : decode cX8_seeks 210 = .ok (.iinc 3 1, 3) := by decide +kernel
theorem dX8_seeks_213 : decode cX8_seeks 213 = .ok (.goto (-28), 3) := by decide +kernel
theorem dX8_seeks_216 : decode cX8_seeks 216 = .ok (.iload_n 3, 1) := by decide +kernel
theorem dX8_seeks_217 : decode cX8_seeks 217 = .ok (.aload_n 0, 1) := by decide +kernel
theorem dX8_seeks_218 : decode cX8_seeks 218 = .ok (.getfield 48, 3) := by decide +kernel
theorem dX8_seeks_221 : decode cX8_seeks 221 = .ok (.iload_n 1, 1) := by decide +kernel
theorem dX8_seeks_222 : decode cX8_seeks 222 = .ok (.iaload, 1) := by decide +kernel
theorem dX8_seeks_223 : decode cX8_seeks 223 = .ok (.if_icmp .le 5, 3) := by decide +kernel
theorem dX8_seeks_226 : decode cX8_seeks 226 = .ok (.iconst 0, 1) := by decide +kernel
theorem dX8_seeks_227 : decode cX8_seeks 227 = .ok (.ireturn, 1) := by decide +kernel
theorem dX8_seeks_228 : decode cX8_seeks 228 = .ok (.aload_n 0, 1) := by decide +kernel
theorem dX8_seeks_229 : decode cX8_seeks 229 = .ok (.getfield 72, 3) := by decide +kernel
theorem dX8_seeks_232 : decode cX8_seeks 232 = .ok (.iload_n 2, 1) := by decide +kernel
theorem dX8_seeks_233 : decode cX8_seeks 233 = .ok (.iload_n 3, 1) := by decide +kernel
theorem dX8_seeks_234 : decode cX8_seeks 234 = .ok (.iastore, 1) := by decide +kernel
theorem dX8_seeks_235 : decode cX8_seeks 235 = .ok (.iload_n 2, 1) := by decide +kernel
theorem dX8_seeks_236 : decode cX8_seeks 236 = .ok (.iconst 1, 1) := by decide +kernel
theorem dX8_seeks_237 : decode cX8_seeks 237 = .ok (.isub, 1) := by decide +kernel
theorem dX8_seeks_238 : decode cX8_seeks 238 = .ok (.istore 4, 2) := by decide +kernel
theorem dX8_seeks_240 : decode cX8_seeks 240 = .ok (.iload 4, 2) := by decide +kernel
theorem dX8_seeks_242 : decode cX8_seeks 242 = .ok (.ifCond .lt 59, 3) := by decide +kernel
theorem dX8_seeks_245 : decode cX8_seeks 245 = .ok (.iload_n 3, 1) := by decide +kernel
theorem dX8_seeks_246 : decode cX8_seeks 246 = .ok (.aload_n 0, 1) := by decide +kernel
theorem dX8_seeks_247 : decode cX8_seeks 247 = .ok (.iload_n 1, 1) := by decide +kernel
theorem dX8_seeks_248 : decode cX8_seeks 248 = .ok (.iload 4, 2) := by decide +kernel
theorem dX8_seeks_250 : decode cX8_seeks 250 = .ok (.invokevirtual 134, 3) := by decide +kernel
theorem dX8_seeks_253 : decode cX8_seeks 253 = .ok (.isub, 1) := by decide +kernel
theorem dX8_seeks_254 : decode cX8_seeks 254 = .ok (.istore 5, 2) := by decide +kernel
theorem dX8_seeks_256 : decode cX8_seeks 256 = .ok (.aload_n 0, 1) := by decide +kernel
theorem dX8_seeks_257 : decode cX8_seeks 257 = .ok (.getfield 72, 3) := by decide +kernel
theorem dX8_seeks_260 : decode cX8_seeks 260 = .ok (.iload 4, 2) := by decide +kernel
theorem dX8_seeks_262 : decode cX8_seeks 262 = .ok (.iload 5, 2) := by decide +kernel
theorem dX8_seeks_264 : decode cX8_seeks 264 = .ok (.iastore, 1) := by decide +kernel
theorem dX8_seeks_265 : decode cX8_seeks 265 = .ok (.iload 5, 2) := by decide +kernel
theorem dX8_seeks_267 : decode cX8_seeks 267 = .ok (.istore_n 3, 1) := by decide +kernel
theorem dX8_seeks_268 : decode cX8_seeks 268 = .ok (.iload 4, 2) := by decide +kernel
theorem dX8_seeks_270 : decode cX8_seeks 270 = .ok (.ifCond .le 25, 3) := by decide +kernel
theorem dX8_seeks_273 : decode cX8_seeks 273 = .ok (.aload_n 0, 1) := by decide +kernel
theorem dX8_seeks_274 : decode cX8_seeks 274 = .ok (.getfield 69, 3) := by decide +kernel
theorem dX8_seeks_277 : decode cX8_seeks 277 = .ok (.sipush 240, 3) := by decide +kernel
theorem dX8_seeks_280 : decode cX8_seeks 280 = .ok (.iload 4, 2) := by decide +kernel
theorem dX8_seeks_282 : decode cX8_seeks 282 = .ok (.imul, 1) := by decide +kernel
theorem dX8_seeks_283 : decode cX8_seeks 283 = .ok (.iload_n 3, 1) := by decide +kernel
theorem dX8_seeks_284 : decode cX8_seeks 284 = .ok (.iadd, 1) := by decide +kernel
theorem dX8_seeks_285 : decode cX8_seeks 285 = .ok (.baload, 1) := by decide +kernel
theorem dX8_seeks_286 : decode cX8_seeks 286 = .ok (.ifCond .ne 9, 3) := by decide +kernel
theorem dX8_seeks_289 : decode cX8_seeks 289 = .ok (.iinc 3 (-1), 3) := by decide +kernel
theorem dX8_seeks_292 : decode cX8_seeks 292 = .ok (.goto (-24), 3) := by decide +kernel
theorem dX8_seeks_295 : decode cX8_seeks 295 = .ok (.iinc 4 (-1), 3) := by decide +kernel
theorem dX8_seeks_298 : decode cX8_seeks 298 = .ok (.goto (-58), 3) := by decide +kernel
theorem dX8_seeks_301 : decode cX8_seeks 301 = .ok (.iconst 1, 1) := by decide +kernel
theorem dX8_seeks_302 : decode cX8_seeks 302 = .ok (.ireturn, 1) := by decide +kernel
theorem dX8_find_0 : decode cX8_find 0 = .ok (.aload_n 0, 1) := by decide +kernel
theorem dX8_find_1 : decode cX8_find 1 = .ok (.iload_n 1, 1) := by decide +kernel
theorem dX8_find_2 : decode cX8_find 2 = .ok (.invokevirtual 118, 3) := by decide +kernel
theorem dX8_find_5 : decode cX8_find 5 = .ok (.ifCond .eq 24, 3) := by decide +kernel
theorem dX8_find_8 : decode cX8_find 8 = .ok (.aload_n 0, 1) := by decide +kernel
theorem dX8_find_9 : decode cX8_find 9 = .ok (.iload_n 1, 1) := by decide +kernel
theorem dX8_find_10 : decode cX8_find 10 = .ok (.invokevirtual 166, 3) := by decide +kernel
theorem dX8_find_13 : decode cX8_find 13 = .ok (.ifCond .eq 16, 3) := by decide +kernel
theorem dX8_find_16 : decode cX8_find 16 = .ok (.aload_n 0, 1) := by decide +kernel
theorem dX8_find_17 : decode cX8_find 17 = .ok (.getfield 72, 3) := by decide +kernel
theorem dX8_find_20 : decode cX8_find 20 = .ok (.aload_n 0, 1) := by decide +kernel
theorem dX8_find_21 : decode cX8_find 21 = .ok (.iload_n 1, 1) := by decide +kernel
theorem dX8_find_22 : decode cX8_find 22 = .ok (.invokevirtual 126, 3) := by decide +kernel
theorem dX8_find_25 : decode cX8_find 25 = .ok (.iaload, 1) := by decide +kernel
theorem dX8_find_26 : decode cX8_find 26 = .ok (.goto 4, 3) := by decide +kernel
theorem dX8_find_29 : decode cX8_find 29 = .ok (.iconst (-1), 1) := by decide +kernel
theorem dX8_find_30 : decode cX8_find 30 = .ok (.ireturn, 1) := by decide +kernel
theorem dX8_give_0 : decode cX8_give 0 = .ok (.aload_n 0, 1) := by decide +kernel
theorem dX8_give_1 : decode cX8_give 1 = .ok (.iload_n 1, 1) := by decide +kernel
theorem dX8_give_2 : decode cX8_give 2 = .ok (.invokevirtual 118, 3) := by decide +kernel
theorem dX8_give_5 : decode cX8_give 5 = .ok (.ifCond .eq 11, 3) := by decide +kernel
theorem dX8_give_8 : decode cX8_give 8 = .ok (.aload_n 0, 1) := by decide +kernel
theorem dX8_give_9 : decode cX8_give 9 = .ok (.iload_n 1, 1) := by decide +kernel
theorem dX8_give_10 : decode cX8_give 10 = .ok (.invokevirtual 166, 3) := by decide +kernel
theorem dX8_give_13 : decode cX8_give 13 = .ok (.ifCond .ne 5, 3) := by decide +kernel
theorem dX8_give_16 : decode cX8_give 16 = .ok (.iconst 0, 1) := by decide +kernel
theorem dX8_give_17 : decode cX8_give 17 = .ok (.ireturn, 1) := by decide +kernel
theorem dX8_give_18 : decode cX8_give 18 = .ok (.aload_n 0, 1) := by decide +kernel
theorem dX8_give_19 : decode cX8_give 19 = .ok (.getfield 60, 3) := by decide +kernel
theorem dX8_give_22 : decode cX8_give 22 = .ok (.iload_n 1, 1) := by decide +kernel
theorem dX8_give_23 : decode cX8_give 23 = .ok (.iconst 1, 1) := by decide +kernel
theorem dX8_give_24 : decode cX8_give 24 = .ok (.bastore, 1) := by decide +kernel
theorem dX8_give_25 : decode cX8_give 25 = .ok (.iconst 0, 1) := by decide +kernel
theorem dX8_give_26 : decode cX8_give 26 = .ok (.istore_n 2, 1) := by decide +kernel
theorem dX8_give_27 : decode cX8_give 27 = .ok (.iload_n 2, 1) := by decide +kernel
theorem dX8_give_28 : decode cX8_give 28 = .ok (.aload_n 0, 1) := by decide +kernel
theorem dX8_give_29 : decode cX8_give 29 = .ok (.iload_n 1, 1) := by decide +kernel
theorem dX8_give_30 : decode cX8_give 30 = .ok (.invokevirtual 126, 3) := by decide +kernel
theorem dX8_give_33 : decode cX8_give 33 = .ok (.if_icmp .gt 26, 3) := by decide +kernel
theorem dX8_give_36 : decode cX8_give 36 = .ok (.aload_n 0, 1) := by decide +kernel
theorem dX8_give_37 : decode cX8_give 37 = .ok (.getfield 63, 3) := by decide +kernel
theorem dX8_give_40 : decode cX8_give 40 = .ok (.bipush 8, 2) := by decide +kernel
theorem dX8_give_42 : decode cX8_give 42 = .ok (.iload_n 1, 1) := by decide +kernel
theorem dX8_give_43 : decode cX8_give 43 = .ok (.imul, 1) := by decide +kernel
theorem dX8_give_44 : decode cX8_give 44 = .ok (.iload_n 2, 1) := by decide +kernel
theorem dX8_give_45 : decode cX8_give 45 = .ok (.iadd, 1) := by decide +kernel
theorem dX8_give_46 : decode cX8_give 46 = .ok (.aload_n 0, 1) := by decide +kernel
theorem dX8_give_47 : decode cX8_give 47 = .ok (.getfield 72, 3) := by decide +kernel
theorem dX8_give_50 : decode cX8_give 50 = .ok (.iload_n 2, 1) := by decide +kernel
theorem dX8_give_51 : decode cX8_give 51 = .ok (.iaload, 1) := by decide +kernel
theorem dX8_give_52 : decode cX8_give 52 = .ok (.iastore, 1) := by decide +kernel
theorem dX8_give_53 : decode cX8_give 53 = .ok (.iinc 2 1, 3) := by decide +kernel
theorem dX8_give_56 : decode cX8_give 56 = .ok (.goto (-29), 3) := by decide +kernel
theorem dX8_give_59 : decode cX8_give 59 = .ok (.iconst 1, 1) := by decide +kernel
theorem dX8_give_60 : decode cX8_give 60 = .ok (.ireturn, 1) := by decide +kernel
theorem dX8_drop_0 : decode cX8_drop 0 = .ok (.aload_n 0, 1) := by decide +kernel
theorem dX8_drop_1 : decode cX8_drop 1 = .ok (.iload_n 1, 1) := by decide +kernel
theorem dX8_drop_2 : decode cX8_drop 2 = .ok (.invokevirtual 118, 3) := by decide +kernel
theorem dX8_drop_5 : decode cX8_drop 5 = .ok (.ifCond .eq 12, 3) := by decide +kernel
theorem dX8_drop_8 : decode cX8_drop 8 = .ok (.aload_n 0, 1) := by decide +kernel
theorem dX8_drop_9 : decode cX8_drop 9 = .ok (.getfield 60, 3) := by decide +kernel
theorem dX8_drop_12 : decode cX8_drop 12 = .ok (.iload_n 1, 1) := by decide +kernel
theorem dX8_drop_13 : decode cX8_drop 13 = .ok (.baload, 1) := by decide +kernel
theorem dX8_drop_14 : decode cX8_drop 14 = .ok (.ifCond .ne 5, 3) := by decide +kernel
theorem dX8_drop_17 : decode cX8_drop 17 = .ok (.iconst 0, 1) := by decide +kernel
theorem dX8_drop_18 : decode cX8_drop 18 = .ok (.ireturn, 1) := by decide +kernel
theorem dX8_drop_19 : decode cX8_drop 19 = .ok (.aload_n 0, 1) := by decide +kernel
theorem dX8_drop_20 : decode cX8_drop 20 = .ok (.getfield 60, 3) := by decide +kernel
theorem dX8_drop_23 : decode cX8_drop 23 = .ok (.iload_n 1, 1) := by decide +kernel
theorem dX8_drop_24 : decode cX8_drop 24 = .ok (.iconst 0, 1) := by decide +kernel
theorem dX8_drop_25 : decode cX8_drop 25 = .ok (.bastore, 1) := by decide +kernel
theorem dX8_drop_26 : decode cX8_drop 26 = .ok (.iconst 1, 1) := by decide +kernel
theorem dX8_drop_27 : decode cX8_drop 27 = .ok (.ireturn, 1) := by decide +kernel
theorem dX8_isAhead_0 : decode cX8_isAhead 0 = .ok (.aload_n 0, 1) := by decide +kernel
theorem dX8_isAhead_1 : decode cX8_isAhead 1 = .ok (.getfield 54, 3) := by decide +kernel
theorem dX8_isAhead_4 : decode cX8_isAhead 4 = .ok (.iload_n 1, 1) := by decide +kernel
theorem dX8_isAhead_5 : decode cX8_isAhead 5 = .ok (.iaload, 1) := by decide +kernel
theorem dX8_isAhead_6 : decode cX8_isAhead 6 = .ok (.aload_n 0, 1) := by decide +kernel
theorem dX8_isAhead_7 : decode cX8_isAhead 7 = .ok (.getfield 54, 3) := by decide +kernel
theorem dX8_isAhead_10 : decode cX8_isAhead 10 = .ok (.iload_n 2, 1) := by decide +kernel
theorem dX8_isAhead_11 : decode cX8_isAhead 11 = .ok (.iaload, 1) := by decide +kernel
theorem dX8_isAhead_12 : decode cX8_isAhead 12 = .ok (.if_icmp .lt 23, 3) := by decide +kernel
theorem dX8_isAhead_15 : decode cX8_isAhead 15 = .ok (.aload_n 0, 1) := by decide +kernel
theorem dX8_isAhead_16 : decode cX8_isAhead 16 = .ok (.getfield 54, 3) := by decide +kernel
theorem dX8_isAhead_19 : decode cX8_isAhead 19 = .ok (.iload_n 1, 1) := by decide +kernel
theorem dX8_isAhead_20 : decode cX8_isAhead 20 = .ok (.iaload, 1) := by decide +kernel
theorem dX8_isAhead_21 : decode cX8_isAhead 21 = .ok (.aload_n 0, 1) := by decide +kernel
theorem dX8_isAhead_22 : decode cX8_isAhead 22 = .ok (.getfield 54, 3) := by decide +kernel
theorem dX8_isAhead_25 : decode cX8_isAhead 25 = .ok (.iload_n 2, 1) := by decide +kernel
theorem dX8_isAhead_26 : decode cX8_isAhead 26 = .ok (.iaload, 1) := by decide +kernel
theorem dX8_isAhead_27 : decode cX8_isAhead 27 = .ok (.if_icmp .ne 12, 3) := by decide +kernel
theorem dX8_isAhead_30 : decode cX8_isAhead 30 = .ok (.iload_n 1, 1) := by decide +kernel
theorem dX8_isAhead_31 : decode cX8_isAhead 31 = .ok (.iload_n 2, 1) := by decide +kernel
theorem dX8_isAhead_32 : decode cX8_isAhead 32 = .ok (.if_icmp .ge 7, 3) := by decide +kernel
theorem dX8_isAhead_35 : decode cX8_isAhead 35 = .ok (.iconst 1, 1) := by decide +kernel
theorem dX8_isAhead_36 : decode cX8_isAhead 36 = .ok (.goto 4, 3) := by decide +kernel
theorem dX8_isAhead_39 : decode cX8_isAhead 39 = .ok (.iconst 0, 1) := by decide +kernel
theorem dX8_isAhead_40 : decode cX8_isAhead 40 = .ok (.ireturn, 1) := by decide +kernel
theorem dX8_ranks_0 : decode cX8_ranks 0 = .ok (.iconst 0, 1) := by decide +kernel
theorem dX8_ranks_1 : decode cX8_ranks 1 = .ok (.istore_n 1, 1) := by decide +kernel
theorem dX8_ranks_2 : decode cX8_ranks 2 = .ok (.iload_n 1, 1) := by decide +kernel
theorem dX8_ranks_3 : decode cX8_ranks 3 = .ok (.aload_n 0, 1) := by decide +kernel
theorem dX8_ranks_4 : decode cX8_ranks 4 = .ok (.getfield 108, 3) := by decide +kernel
theorem dX8_ranks_7 : decode cX8_ranks 7 = .ok (.if_icmp .ge 58, 3) := by decide +kernel
theorem dX8_ranks_10 : decode cX8_ranks 10 = .ok (.iload_n 1, 1) := by decide +kernel
theorem dX8_ranks_11 : decode cX8_ranks 11 = .ok (.istore_n 2, 1) := by decide +kernel
theorem dX8_ranks_12 : decode cX8_ranks 12 = .ok (.iload_n 2, 1) := by decide +kernel
theorem dX8_ranks_13 : decode cX8_ranks 13 = .ok (.ifCond .le 39, 3) := by decide +kernel
theorem dX8_ranks_16 : decode cX8_ranks 16 = .ok (.aload_n 0, 1) := by decide +kernel
theorem dX8_ranks_17 : decode cX8_ranks 17 = .ok (.iload_n 1, 1) := by decide +kernel
theorem dX8_ranks_18 : decode cX8_ranks 18 = .ok (.aload_n 0, 1) := by decide +kernel
theorem dX8_ranks_19 : decode cX8_ranks 19 = .ok (.getfield 75, 3) := by decide +kernel
theorem dX8_ranks_22 : decode cX8_ranks 22 = .ok (.iload_n 2, 1) := by decide +kernel
theorem dX8_ranks_23 : decode cX8_ranks 23 = .ok (.iconst 1, 1) := by decide +kernel
theorem dX8_ranks_24 : decode cX8_ranks 24 = .ok (.isub, 1) := by decide +kernel
theorem dX8_ranks_25 : decode cX8_ranks 25 = .ok (.iaload, 1) := by decide +kernel
theorem dX8_ranks_26 : decode cX8_ranks 26 = .ok (.invokevirtual 169, 3) := by decide +kernel
theorem dX8_ranks_29 : decode cX8_ranks 29 = .ok (.ifCond .eq 23, 3) := by decide +kernel
theorem dX8_ranks_32 : decode cX8_ranks 32 = .ok (.aload_n 0, 1) := by decide +kernel
theorem dX8_ranks_33 : decode cX8_ranks 33 = .ok (.getfield 75, 3) := by decide +kernel
theorem dX8_ranks_36 : decode cX8_ranks 36 = .ok (.iload_n 2, 1) := by decide +kernel
theorem dX8_ranks_37 : decode cX8_ranks 37 = .ok (.aload_n 0, 1) := by decide +kernel
theorem dX8_ranks_38 : decode cX8_ranks 38 = .ok (.getfield 75, 3) := by decide +kernel
theorem dX8_ranks_41 : decode cX8_ranks 41 = .ok (.iload_n 2, 1) := by decide +kernel
theorem dX8_ranks_42 : decode cX8_ranks 42 = .ok (.iconst 1, 1) := by decide +kernel
theorem dX8_ranks_43 : decode cX8_ranks 43 = .ok (.isub, 1) := by decide +kernel
theorem dX8_ranks_44 : decode cX8_ranks 44 = .ok (.iaload, 1) := by decide +kernel
theorem dX8_ranks_45 : decode cX8_ranks 45 = .ok (.iastore, 1) := by decide +kernel
theorem dX8_ranks_46 : decode cX8_ranks 46 = .ok (.iinc 2 (-1), 3) := by decide +kernel
theorem dX8_ranks_49 : decode cX8_ranks 49 = .ok (.goto (-37), 3) := by decide +kernel
theorem dX8_ranks_52 : decode cX8_ranks 52 = .ok (.aload_n 0, 1) := by decide +kernel
theorem dX8_ranks_53 : decode cX8_ranks 53 = .ok (.getfield 75, 3) := by decide +kernel
theorem dX8_ranks_56 : decode cX8_ranks 56 = .ok (.iload_n 2, 1) := by decide +kernel
theorem dX8_ranks_57 : decode cX8_ranks 57 = .ok (.iload_n 1, 1) := by decide +kernel
theorem dX8_ranks_58 : decode cX8_ranks 58 = .ok (.iastore, 1) := by decide +kernel
theorem dX8_ranks_59 : decode cX8_ranks 59 = .ok (.iinc 1 1, 3) := by decide +kernel
theorem dX8_ranks_62 : decode cX8_ranks 62 = .ok (.goto (-60), 3) := by decide +kernel
theorem dX8_ranks_65 : decode cX8_ranks 65 = .ok (.return_, 1) := by decide +kernel
theorem dX8_goes_0 : decode cX8_goes 0 = .ok (.iconst 0, 1) := by decide +kernel
theorem dX8_goes_1 : decode cX8_goes 1 = .ok (.istore_n 1, 1) := by decide +kernel
theorem dX8_goes_2 : decode cX8_goes 2 = .ok (.iload_n 1, 1) := by decide +kernel
theorem dX8_goes_3 : decode cX8_goes 3 = .ok (.aload_n 0, 1) := by decide +kernel
theorem dX8_goes_4 : decode cX8_goes 4 = .ok (.getfield 108, 3) := by decide +kernel
theorem dX8_goes_7 : decode cX8_goes 7 = .ok (.if_icmp .ge 23, 3) := by decide +kernel
theorem dX8_goes_10 : decode cX8_goes 10 = .ok (.aload_n 0, 1) := by decide +kernel
theorem dX8_goes_11 : decode cX8_goes 11 = .ok (.getfield 78, 3) := by decide +kernel
theorem dX8_goes_14 : decode cX8_goes 14 = .ok (.iload_n 1, 1) := by decide +kernel
theorem dX8_goes_15 : decode cX8_goes 15 = .ok (.iconst 0, 1) := by decide +kernel
theorem dX8_goes_16 : decode cX8_goes 16 = .ok (.bastore, 1) := by decide +kernel
theorem dX8_goes_17 : decode cX8_goes 17 = .ok (.aload_n 0, 1) := by decide +kernel
theorem dX8_goes_18 : decode cX8_goes 18 = .ok (.getfield 60, 3) := by decide +kernel
theorem dX8_goes_21 : decode cX8_goes 21 = .ok (.iload_n 1, 1) := by decide +kernel
theorem dX8_goes_22 : decode cX8_goes 22 = .ok (.iconst 0, 1) := by decide +kernel
theorem dX8_goes_23 : decode cX8_goes 23 = .ok (.bastore, 1) := by decide +kernel
theorem dX8_goes_24 : decode cX8_goes 24 = .ok (.iinc 1 1, 3) := by decide +kernel
theorem dX8_goes_27 : decode cX8_goes 27 = .ok (.goto (-25), 3) := by decide +kernel
theorem dX8_goes_30 : decode cX8_goes 30 = .ok (.iconst 0, 1) := by decide +kernel
theorem dX8_goes_31 : decode cX8_goes 31 = .ok (.istore_n 1, 1) := by decide +kernel
theorem dX8_goes_32 : decode cX8_goes 32 = .ok (.iload_n 1, 1) := by decide +kernel
theorem dX8_goes_33 : decode cX8_goes 33 = .ok (.aload_n 0, 1) := by decide +kernel
theorem dX8_goes_34 : decode cX8_goes 34 = .ok (.getfield 108, 3) := by decide +kernel
theorem dX8_goes_37 : decode cX8_goes 37 = .ok (.if_icmp .ge 84, 3) := by decide +kernel
theorem dX8_goes_40 : decode cX8_goes 40 = .ok (.aload_n 0, 1) := by decide +kernel
theorem dX8_goes_41 : decode cX8_goes 41 = .ok (.getfield 75, 3) := by decide +kernel
theorem dX8_goes_44 : decode cX8_goes 44 = .ok (.iload_n 1, 1) := by decide +kernel
theorem dX8_goes_45 : decode cX8_goes 45 = .ok (.iaload, 1) := by decide +kernel
theorem dX8_goes_46 : decode cX8_goes 46 = .ok (.istore_n 2, 1) := by decide +kernel
theorem dX8_goes_47 : decode cX8_goes 47 = .ok (.aload_n 0, 1) := by decide +kernel
theorem dX8_goes_48 : decode cX8_goes 48 = .ok (.getfield 78, 3) := by decide +kernel
theorem dX8_goes_51 : decode cX8_goes 51 = .ok (.iload_n 2, 1) := by decide +kernel
theorem dX8_goes_52 : decode cX8_goes 52 = .ok (.baload, 1) := by decide +kernel
theorem dX8_goes_53 : decode cX8_goes 53 = .ok (.ifCond .eq 6, 3) := by decide +kernel
theorem dX8_goes_56 : decode cX8_goes 56 = .ok (.goto 59, 3) := by decide +kernel
theorem dX8_goes_59 : decode cX8_goes 59 = .ok (.aload_n 0, 1) := by decide +kernel
theorem dX8_goes_60 : decode cX8_goes 60 = .ok (.getfield 78, 3) := by decide +kernel
theorem dX8_goes_63 : decode cX8_goes 63 = .ok (.iload_n 2, 1) := by decide +kernel
theorem dX8_goes_64 : decode cX8_goes 64 = .ok (.iconst 1, 1) := by decide +kernel
theorem dX8_goes_65 : decode cX8_goes 65 = .ok (.bastore, 1) := by decide +kernel
theorem dX8_goes_66 : decode cX8_goes 66 = .ok (.aload_n 0, 1) := by decide +kernel
theorem dX8_goes_67 : decode cX8_goes 67 = .ok (.getfield 57, 3) := by decide +kernel
theorem dX8_goes_70 : decode cX8_goes 70 = .ok (.iload_n 2, 1) := by decide +kernel
theorem dX8_goes_71 : decode cX8_goes 71 = .ok (.iaload, 1) := by decide +kernel
theorem dX8_goes_72 : decode cX8_goes 72 = .ok (.istore_n 3, 1) := by decide +kernel
theorem dX8_goes_73 : decode cX8_goes 73 = .ok (.aload_n 0, 1) := by decide +kernel
theorem dX8_goes_74 : decode cX8_goes 74 = .ok (.iload_n 2, 1) := by decide +kernel
theorem dX8_goes_75 : decode cX8_goes 75 = .ok (.invokevirtual 172, 3) := by decide +kernel
theorem dX8_goes_78 : decode cX8_goes 78 = .ok (.istore 4, 2) := by decide +kernel
theorem dX8_goes_80 : decode cX8_goes 80 = .ok (.iload_n 3, 1) := by decide +kernel
theorem dX8_goes_81 : decode cX8_goes 81 = .ok (.iconst (-1), 1) := by decide +kernel
theorem dX8_goes_82 : decode cX8_goes 82 = .ok (.if_icmp .ne 6, 3) := by decide +kernel
theorem dX8_goes_85 : decode cX8_goes 85 = .ok (.goto 30, 3) := by decide +kernel
theorem dX8_goes_88 : decode cX8_goes 88 = .ok (.aload_n 0, 1) := by decide +kernel
theorem dX8_goes_89 : decode cX8_goes 89 = .ok (.getfield 78, 3) := by decide +kernel
theorem dX8_goes_92 : decode cX8_goes 92 = .ok (.iload_n 3, 1) := by decide +kernel
theorem dX8_goes_93 : decode cX8_goes 93 = .ok (.iconst 1, 1) := by decide +kernel
theorem dX8_goes_94 : decode cX8_goes 94 = .ok (.bastore, 1) := by decide +kernel
theorem dX8_goes_95 : decode cX8_goes 95 = .ok (.iload 4, 2) := by decide +kernel
theorem dX8_goes_97 : decode cX8_goes 97 = .ok (.ifCond .eq 18, 3) := by decide +kernel
theorem dX8_goes_100 : decode cX8_goes 100 = .ok (.aload_n 0, 1) := by decide +kernel
theorem dX8_goes_101 : decode cX8_goes 101 = .ok (.iload_n 3, 1) := by decide +kernel
theorem dX8_goes_102 : decode cX8_goes 102 = .ok (.invokevirtual 172, 3) := by decide +kernel
theorem dX8_goes_105 : decode cX8_goes 105 = .ok (.ifCond .ne 10, 3) := by decide +kernel
theorem dX8_goes_108 : decode cX8_goes 108 = .ok (.aload_n 0, 1) := by decide +kernel
theorem dX8_goes_109 : decode cX8_goes 109 = .ok (.getfield 60, 3) := by decide +kernel
theorem dX8_goes_112 : decode cX8_goes 112 = .ok (.iload_n 2, 1) := by decide +kernel
theorem dX8_goes_113 : decode cX8_goes 113 = .ok (.iconst 0, 1) := by decide +kernel
theorem dX8_goes_114 : decode cX8_goes 114 = .ok (.bastore, 1) := by decide +kernel
theorem dX8_goes_115 : decode cX8_goes 115 = .ok (.iinc 1 1, 3) := by decide +kernel
theorem dX8_goes_118 : decode cX8_goes 118 = .ok (.goto (-86), 3) := by decide +kernel
theorem dX8_goes_121 : decode cX8_goes 121 = .ok (.iconst 0, 1) := by decide +kernel
theorem dX8_goes_122 : decode cX8_goes 122 = .ok (.istore_n 1, 1) := by decide +kernel
theorem dX8_goes_123 : decode cX8_goes 123 = .ok (.iconst 0, 1) := by decide +kernel
theorem dX8_goes_124 : decode cX8_goes 124 = .ok (.istore_n 2, 1) := by decide +kernel
theorem dX8_goes_125 : decode cX8_goes 125 = .ok (.iload_n 2, 1) := by decide +kernel
theorem dX8_goes_126 : decode cX8_goes 126 = .ok (.aload_n 0, 1) := by decide +kernel
theorem dX8_goes_127 : decode cX8_goes 127 = .ok (.getfield 108, 3) := by decide +kernel
theorem dX8_goes_130 : decode cX8_goes 130 = .ok (.if_icmp .ge 31, 3) := by decide +kernel
theorem dX8_goes_133 : decode cX8_goes 133 = .ok (.iload_n 1, 1) := by decide +kernel
theorem dX8_goes_134 : decode cX8_goes 134 = .ok (.aload_n 0, 1) := by decide +kernel
theorem dX8_goes_135 : decode cX8_goes 135 = .ok (.getfield 60, 3) := by decide +kernel
theorem dX8_goes_138 : decode cX8_goes 138 = .ok (.iload_n 2, 1) := by decide +kernel
theorem dX8_goes_139 : decode cX8_goes 139 = .ok (.baload, 1) := by decide +kernel
theorem dX8_goes_140 : decode cX8_goes 140 = .ok (.ifCond .eq 12, 3) := by decide +kernel
theorem dX8_goes_143 : decode cX8_goes 143 = .ok (.aload_n 0, 1) := by decide +kernel
theorem dX8_goes_144 : decode cX8_goes 144 = .ok (.getfield 51, 3) := by decide +kernel
theorem dX8_goes_147 : decode cX8_goes 147 = .ok (.iload_n 2, 1) := by decide +kernel
theorem dX8_goes_148 : decode cX8_goes 148 = .ok (.iaload, 1) := by decide +kernel
theorem dX8_goes_149 : decode cX8_goes 149 = .ok (.goto 4, 3) := by decide +kernel
theorem dX8_goes_152 : decode cX8_goes 152 = .ok (.iconst 0, 1) := by decide +kernel
theorem dX8_goes_153 : decode cX8_goes 153 = .ok (.iadd, 1) := by decide +kernel
theorem dX8_goes_154 : decode cX8_goes 154 = .ok (.istore_n 1, 1) := by decide +kernel
theorem dX8_goes_155 : decode cX8_goes 155 = .ok (.iinc 2 1, 3) := by decide +kernel
theorem dX8_goes_158 : decode cX8_goes 158 = .ok (.goto (-33), 3) := by decide +kernel
theorem dX8_goes_161 : decode cX8_goes 161 = .ok (.iload_n 1, 1) := by decide +kernel
theorem dX8_goes_162 : decode cX8_goes 162 = .ok (.ireturn, 1) := by decide +kernel
theorem dX8_round_0 : decode cX8_round 0 = .ok (.aload_n 0, 1) := by decide +kernel
theorem dX8_round_1 : decode cX8_round 1 = .ok (.invokevirtual 175, 3) := by decide +kernel
theorem dX8_round_4 : decode cX8_round 4 = .ok (.aload_n 0, 1) := by decide +kernel
theorem dX8_round_5 : decode cX8_round 5 = .ok (.invokevirtual 178, 3) := by decide +kernel
theorem dX8_round_8 : decode cX8_round 8 = .ok (.pop, 1) := by decide +kernel
theorem dX8_round_9 : decode cX8_round 9 = .ok (.aload_n 0, 1) := by decide +kernel
theorem dX8_round_10 : decode cX8_round 10 = .ok (.iconst 2, 1) := by decide +kernel
theorem dX8_round_11 : decode cX8_round 11 = .ok (.invokevirtual 181, 3) := by decide +kernel
theorem dX8_round_14 : decode cX8_round 14 = .ok (.ireturn, 1) := by decide +kernel
theorem dX8_best_0 : decode cX8_best 0 = .ok (.aload_n 0, 1) := by decide +kernel
theorem dX8_best_1 : decode cX8_best 1 = .ok (.getfield 108, 3) := by decide +kernel
theorem dX8_best_4 : decode cX8_best 4 = .ok (.iconst 1, 1) := by decide +kernel
theorem dX8_best_5 : decode cX8_best 5 = .ok (.if_icmp .lt 11, 3) := by decide +kernel
theorem dX8_best_8 : decode cX8_best 8 = .ok (.aload_n 0, 1) := by decide +kernel
theorem dX8_best_9 : decode cX8_best 9 = .ok (.getfield 108, 3) := by decide +kernel
theorem dX8_best_12 : decode cX8_best 12 = .ok (.iconst 5, 1) := by decide +kernel
theorem dX8_best_13 : decode cX8_best 13 = .ok (.if_icmp .le 5, 3) := by decide +kernel
theorem dX8_best_16 : decode cX8_best 16 = .ok (.iconst (-1), 1) := by decide +kernel
theorem dX8_best_17 : decode cX8_best 17 = .ok (.ireturn, 1) := by decide +kernel
theorem dX8_best_18 : decode cX8_best 18 = .ok (.iconst 1, 1) := by decide +kernel
theorem dX8_best_19 : decode cX8_best 19 = .ok (.istore_n 1, 1) := by decide +kernel
theorem dX8_best_20 : decode cX8_best 20 = .ok (.iconst 2, 1) := by decide +kernel
theorem dX8_best_21 : decode cX8_best 21 = .ok (.istore_n 2, 1) := by decide +kernel
theorem dX8_best_22 : decode cX8_best 22 = .ok (.iload_n 2, 1) := by decide +kernel
theorem dX8_best_23 : decode cX8_best 23 = .ok (.aload_n 0, 1) := by decide +kernel
theorem dX8_best_24 : decode cX8_best 24 = .ok (.getfield 108, 3) := by decide +kernel
theorem dX8_best_27 : decode cX8_best 27 = .ok (.if_icmp .gt 13, 3) := by decide +kernel
theorem dX8_best_30 : decode cX8_best 30 = .ok (.iload_n 1, 1) := by decide +kernel
theorem dX8_best_31 : decode cX8_best 31 = .ok (.iload_n 2, 1) := by decide +kernel
theorem dX8_best_32 : decode cX8_best 32 = .ok (.imul, 1) := by decide +kernel
theorem dX8_best_33 : decode cX8_best 33 = .ok (.istore_n 1, 1) := by decide +kernel
theorem dX8_best_34 : decode cX8_best 34 = .ok (.iinc 2 1, 3) := by decide +kernel
theorem dX8_best_37 : decode cX8_best 37 = .ok (.goto (-15), 3) := by decide +kernel
theorem dX8_best_40 : decode cX8_best 40 = .ok (.iconst (-1), 1) := by decide +kernel
theorem dX8_best_41 : decode cX8_best 41 = .ok (.istore_n 2, 1) := by decide +kernel
theorem dX8_best_42 : decode cX8_best 42 = .ok (.iconst 0, 1) := by decide +kernel
theorem dX8_best_43 : decode cX8_best 43 = .ok (.istore_n 3, 1) := by decide +kernel
theorem dX8_best_44 : decode cX8_best 44 = .ok (.iconst 0, 1) := by decide +kernel
theorem dX8_best_45 : decode cX8_best 45 = .ok (.istore 4, 2) := by decide +kernel
theorem dX8_best_47 : decode cX8_best 47 = .ok (.iload 4, 2) := by decide +kernel
theorem dX8_best_49 : decode cX8_best 49 = .ok (.iload_n 1, 1) := by decide +kernel
theorem dX8_best_50 : decode cX8_best 50 = .ok (.if_icmp .ge 36, 3) := by decide +kernel
theorem dX8_best_53 : decode cX8_best 53 = .ok (.aload_n 0, 1) := by decide +kernel
theorem dX8_best_54 : decode cX8_best 54 = .ok (.iload 4, 2) := by decide +kernel
theorem dX8_best_56 : decode cX8_best 56 = .ok (.invokevirtual 184, 3) := by decide +kernel
theorem dX8_best_59 : decode cX8_best 59 = .ok (.aload_n 0, 1) := by decide +kernel
theorem dX8_best_60 : decode cX8_best 60 = .ok (.invokevirtual 178, 3) := by decide +kernel
theorem dX8_best_63 : decode cX8_best 63 = .ok (.istore 5, 2) := by decide +kernel
theorem dX8_best_65 : decode cX8_best 65 = .ok (.iload 5, 2) := by decide +kernel
theorem dX8_best_67 : decode cX8_best 67 = .ok (.iload_n 2, 1) := by decide +kernel
theorem dX8_best_68 : decode cX8_best 68 = .ok (.if_icmp .gt 6, 3) := by decide +kernel
theorem dX8_best_71 : decode cX8_best 71 = .ok (.goto 9, 3) := by decide +kernel
theorem dX8_best_74 : decode cX8_best 74 = .ok (.iload 5, 2) := by decide +kernel
theorem dX8_best_76 : decode cX8_best 76 = .ok (.istore_n 2, 1) := by decide +kernel
theorem dX8_best_77 : decode cX8_best 77 = .ok (.iload 4, 2) := by decide +kernel
theorem dX8_best_79 : decode cX8_best 79 = .ok (.istore_n 3, 1) := by decide +kernel
theorem dX8_best_80 : decode cX8_best 80 = .ok (.iinc 4 1, 3) := by decide +kernel
theorem dX8_best_83 : decode cX8_best 83 = .ok (.goto (-36), 3) := by decide +kernel
theorem dX8_best_86 : decode cX8_best 86 = .ok (.aload_n 0, 1) := by decide +kernel
theorem dX8_best_87 : decode cX8_best 87 = .ok (.iload_n 3, 1) := by decide +kernel
theorem dX8_best_88 : decode cX8_best 88 = .ok (.invokevirtual 184, 3) := by decide +kernel
theorem dX8_best_91 : decode cX8_best 91 = .ok (.aload_n 0, 1) := by decide +kernel
theorem dX8_best_92 : decode cX8_best 92 = .ok (.invokevirtual 178, 3) := by decide +kernel
theorem dX8_best_95 : decode cX8_best 95 = .ok (.pop, 1) := by decide +kernel
theorem dX8_best_96 : decode cX8_best 96 = .ok (.iload_n 2, 1) := by decide +kernel
theorem dX8_best_97 : decode cX8_best 97 = .ok (.ireturn, 1) := by decide +kernel
theorem dX8_orders_0 : decode cX8_orders 0 = .ok (.iload_n 1, 1) := by decide +kernel
theorem dX8_orders_1 : decode cX8_orders 1 = .ok (.istore_n 2, 1) := by decide +kernel
theorem dX8_orders_2 : decode cX8_orders 2 = .ok (.iconst 0, 1) := by decide +kernel
theorem dX8_orders_3 : decode cX8_orders 3 = .ok (.istore_n 3, 1) := by decide +kernel
theorem dX8_orders_4 : decode cX8_orders 4 = .ok (.iconst 0, 1) := by decide +kernel
theorem dX8_orders_5 : decode cX8_orders 5 = .ok (.istore 4, 2) := by decide +kernel
theorem dX8_orders_7 : decode cX8_orders 7 = .ok (.iload 4, 2) := by decide +kernel
theorem dX8_orders_9 : decode cX8_orders 9 = .ok (.aload_n 0, 1) := by decide +kernel
theorem dX8_orders_10 : decode cX8_orders 10 = .ok (.getfield 108, 3) := by decide +kernel
theorem dX8_orders_13 : decode cX8_orders 13 = .ok (.if_icmp .ge 116, 3) := by decide +kernel
theorem dX8_orders_16 : decode cX8_orders 16 = .ok (.iconst 1, 1) := by decide +kernel
theorem dX8_orders_17 : decode cX8_orders 17 = .ok (.istore 5, 2) := by decide +kernel
theorem dX8_orders_19 : decode cX8_orders 19 = .ok (.iconst 2, 1) := by decide +kernel
theorem dX8_orders_20 : decode cX8_orders 20 = .ok (.istore 6, 2) := by decide +kernel
theorem dX8_orders_22 : decode cX8_orders 22 = .ok (.iload 6, 2) := by decide +kernel
theorem dX8_orders_24 : decode cX8_orders 24 = .ok (.aload_n 0, 1) := by decide +kernel
theorem dX8_orders_25 : decode cX8_orders 25 = .ok (.getfield 108, 3) := by decide +kernel
theorem dX8_orders_28 : decode cX8_orders 28 = .ok (.iload 4, 2) := by decide +kernel
theorem dX8_orders_30 : decode cX8_orders 30 = .ok (.isub, 1) := by decide +kernel
theorem dX8_orders_31 : decode cX8_orders 31 = .ok (.if_icmp .ge 16, 3) := by decide +kernel
theorem dX8_orders_34 : decode cX8_orders 34 = .ok (.iload 5, 2) := by decide +kernel
theorem dX8_orders_36 : decode cX8_orders 36 = .ok (.iload 6, 2) := by decide +kernel
theorem dX8_orders_38 : decode cX8_orders 38 = .ok (.imul, 1) := by decide +kernel
theorem dX8_orders_39 : decode cX8_orders 39 = .ok (.istore 5, 2) := by decide +kernel
theorem dX8_orders_41 : decode cX8_orders 41 = .ok (.iinc 6 1, 3) := by decide +kernel
theorem dX8_orders_44 : decode cX8_orders 44 = .ok (.goto (-22), 3) := by decide +kernel
theorem dX8_orders_47 : decode cX8_orders 47 = .ok (.iload_n 2, 1) := by decide +kernel
theorem dX8_orders_48 : decode cX8_orders 48 = .ok (.iload 5, 2) := by decide +kernel
theorem dX8_orders_50 : decode cX8_orders 50 = .ok (.idiv, 1) := by decide +kernel
theorem dX8_orders_51 : decode cX8_orders 51 = .ok (.istore 6, 2) := by decide +kernel
theorem dX8_orders_53 : decode cX8_orders 53 = .ok (.iload_n 2, 1) := by decide +kernel
theorem dX8_orders_54 : decode cX8_orders 54 = .ok (.iload 5, 2) := by decide +kernel
theorem dX8_orders_56 : decode cX8_orders 56 = .ok (.irem, 1) := by decide +kernel
theorem dX8_orders_57 : decode cX8_orders 57 = .ok (.istore_n 2, 1) := by decide +kernel
theorem dX8_orders_58 : decode cX8_orders 58 = .ok (.iconst 0, 1) := by decide +kernel
theorem dX8_orders_59 : decode cX8_orders 59 = .ok (.istore 7, 2) := by decide +kernel
theorem dX8_orders_61 : decode cX8_orders 61 = .ok (.iload_n 3, 1) := by decide +kernel
theorem dX8_orders_62 : decode cX8_orders 62 = .ok (.iload 7, 2) := by decide +kernel
theorem dX8_orders_64 : decode cX8_orders 64 = .ok (.ishr, 1) := by decide +kernel
theorem dX8_orders_65 : decode cX8_orders 65 = .ok (.iconst 1, 1) := by decide +kernel
theorem dX8_orders_66 : decode cX8_orders 66 = .ok (.iand, 1) := by decide +kernel
theorem dX8_orders_67 : decode cX8_orders 67 = .ok (.iconst 1, 1) := by decide +kernel
theorem dX8_orders_68 : decode cX8_orders 68 = .ok (.if_icmp .ne 9, 3) := by decide +kernel
theorem dX8_orders_71 : decode cX8_orders 71 = .ok (.iinc 7 1, 3) := by decide +kernel
theorem dX8_orders_74 : decode cX8_orders 74 = .ok (.goto (-13), 3) := by decide +kernel
theorem dX8_orders_77 : decode cX8_orders 77 = .ok (.iload 6, 2) := by decide +kernel
theorem dX8_orders_79 : decode cX8_orders 79 = .ok (.ifCond .le 28, 3) := by decide +kernel
theorem dX8_orders_82 : decode cX8_orders 82 = .ok (.iinc 7 1, 3) := by decide +kernel
theorem dX8_orders_85 : decode cX8_orders 85 = .ok (.iload_n 3, 1) := by decide +kernel
theorem dX8_orders_86 : decode cX8_orders 86 = .ok (.iload 7, 2) := by decide +kernel
theorem dX8_orders_88 : decode cX8_orders 88 = .ok (.ishr, 1) := by decide +kernel
theorem dX8_orders_89 : decode cX8_orders 89 = .ok (.iconst 1, 1) := by decide +kernel
theorem dX8_orders_90 : decode cX8_orders 90 = .ok (.iand, 1) := by decide +kernel
theorem dX8_orders_91 : decode cX8_orders 91 = .ok (.iconst 1, 1) := by decide +kernel
theorem dX8_orders_92 : decode cX8_orders 92 = .ok (.if_icmp .ne 9, 3) := by decide +kernel
theorem dX8_orders_95 : decode cX8_orders 95 = .ok (.iinc 7 1, 3) := by decide +kernel
theorem dX8_orders_98 : decode cX8_orders 98 = .ok (.goto (-13), 3) := by decide +kernel
theorem dX8_orders_101 : decode cX8_orders 101 = .ok (.iinc 6 (-1), 3) := by decide +kernel
theorem dX8_orders_104 : decode cX8_orders 104 = .ok (.goto (-27), 3) := by decide +kernel
theorem dX8_orders_107 : decode cX8_orders 107 = .ok (.aload_n 0, 1) := by decide +kernel
theorem dX8_orders_108 : decode cX8_orders 108 = .ok (.getfield 75, 3) := by decide +kernel
theorem dX8_orders_111 : decode cX8_orders 111 = .ok (.iload 4, 2) := by decide +kernel
theorem dX8_orders_113 : decode cX8_orders 113 = .ok (.iload 7, 2) := by decide +kernel
theorem dX8_orders_115 : decode cX8_orders 115 = .ok (.iastore, 1) := by decide +kernel
theorem dX8_orders_116 : decode cX8_orders 116 = .ok (.iload_n 3, 1) := by decide +kernel
theorem dX8_orders_117 : decode cX8_orders 117 = .ok (.iconst 1, 1) := by decide +kernel
theorem dX8_orders_118 : decode cX8_orders 118 = .ok (.iload 7, 2) := by decide +kernel
theorem dX8_orders_120 : decode cX8_orders 120 = .ok (.ishl, 1) := by decide +kernel
theorem dX8_orders_121 : decode cX8_orders 121 = .ok (.ior, 1) := by decide +kernel
theorem dX8_orders_122 : decode cX8_orders 122 = .ok (.istore_n 3, 1) := by decide +kernel
theorem dX8_orders_123 : decode cX8_orders 123 = .ok (.iinc 4 1, 3) := by decide +kernel
theorem dX8_orders_126 : decode cX8_orders 126 = .ok (.goto (-119), 3) := by decide +kernel
theorem dX8_orders_129 : decode cX8_orders 129 = .ok (.return_, 1) := by decide +kernel
theorem dX8_path_0 : decode cX8_path 0 = .ok (.aload_n 0, 1) := by decide +kernel
theorem dX8_path_1 : decode cX8_path 1 = .ok (.iload_n 1, 1) := by decide +kernel
theorem dX8_path_2 : decode cX8_path 2 = .ok (.invokevirtual 118, 3) := by decide +kernel
theorem dX8_path_5 : decode cX8_path 5 = .ok (.ifCond .eq 12, 3) := by decide +kernel
theorem dX8_path_8 : decode cX8_path 8 = .ok (.aload_n 0, 1) := by decide +kernel
theorem dX8_path_9 : decode cX8_path 9 = .ok (.getfield 60, 3) := by decide +kernel
theorem dX8_path_12 : decode cX8_path 12 = .ok (.iload_n 1, 1) := by decide +kernel
theorem dX8_path_13 : decode cX8_path 13 = .ok (.baload, 1) := by decide +kernel
theorem dX8_path_14 : decode cX8_path 14 = .ok (.ifCond .ne 5, 3) := by decide +kernel
theorem dX8_path_17 : decode cX8_path 17 = .ok (.iconst (-1), 1) := by decide +kernel
theorem dX8_path_18 : decode cX8_path 18 = .ok (.ireturn, 1) := by decide +kernel
theorem dX8_path_19 : decode cX8_path 19 = .ok (.iconst 0, 1) := by decide +kernel
theorem dX8_path_20 : decode cX8_path 20 = .ok (.istore_n 3, 1) := by decide +kernel
theorem dX8_path_21 : decode cX8_path 21 = .ok (.iload_n 3, 1) := by decide +kernel
theorem dX8_path_22 : decode cX8_path 22 = .ok (.aload_n 0, 1) := by decide +kernel
theorem dX8_path_23 : decode cX8_path 23 = .ok (.iload_n 1, 1) := by decide +kernel
theorem dX8_path_24 : decode cX8_path 24 = .ok (.invokevirtual 126, 3) := by decide +kernel
theorem dX8_path_27 : decode cX8_path 27 = .ok (.if_icmp .gt 31, 3) := by decide +kernel
theorem dX8_path_30 : decode cX8_path 30 = .ok (.aload_n 0, 1) := by decide +kernel
theorem dX8_path_31 : decode cX8_path 31 = .ok (.iload_n 1, 1) := by decide +kernel
theorem dX8_path_32 : decode cX8_path 32 = .ok (.iload_n 3, 1) := by decide +kernel
theorem dX8_path_33 : decode cX8_path 33 = .ok (.invokevirtual 151, 3) := by decide +kernel
theorem dX8_path_36 : decode cX8_path 36 = .ok (.iload_n 2, 1) := by decide +kernel
theorem dX8_path_37 : decode cX8_path 37 = .ok (.if_icmp .ne 15, 3) := by decide +kernel
theorem dX8_path_40 : decode cX8_path 40 = .ok (.aload_n 0, 1) := by decide +kernel
theorem dX8_path_41 : decode cX8_path 41 = .ok (.getfield 63, 3) := by decide +kernel
theorem dX8_path_44 : decode cX8_path 44 = .ok (.bipush 8, 2) := by decide +kernel
theorem dX8_path_46 : decode cX8_path 46 = .ok (.iload_n 1, 1) := by decide +kernel
theorem dX8_path_47 : decode cX8_path 47 = .ok (.imul, 1) := by decide +kernel
theorem dX8_path_48 : decode cX8_path 48 = .ok (.iload_n 3, 1) := by decide +kernel
theorem dX8_path_49 : decode cX8_path 49 = .ok (.iadd, 1) := by decide +kernel
theorem dX8_path_50 : decode cX8_path 50 = .ok (.iaload, 1) := by decide +kernel
theorem dX8_path_51 : decode cX8_path 51 = .ok (.ireturn, 1) := by decide +kernel
theorem dX8_path_52 : decode cX8_path 52 = .ok (.iinc 3 1, 3) := by decide +kernel
theorem dX8_path_55 : decode cX8_path 55 = .ok (.goto (-34), 3) := by decide +kernel
theorem dX8_path_58 : decode cX8_path 58 = .ok (.iconst (-1), 1) := by decide +kernel
theorem dX8_path_59 : decode cX8_path 59 = .ok (.ireturn, 1) := by decide +kernel
theorem dX8_isIn_0 : decode cX8_isIn 0 = .ok (.aload_n 0, 1) := by decide +kernel
theorem dX8_isIn_1 : decode cX8_isIn 1 = .ok (.getfield 63, 3) := by decide +kernel
theorem dX8_isIn_4 : decode cX8_isIn 4 = .ok (.bipush 8, 2) := by decide +kernel
theorem dX8_isIn_6 : decode cX8_isIn 6 = .ok (.iload_n 1, 1) := by decide +kernel
theorem dX8_isIn_7 : decode cX8_isIn 7 = .ok (.imul, 1) := by decide +kernel
theorem dX8_isIn_8 : decode cX8_isIn 8 = .ok (.iload_n 2, 1) := by decide +kernel
theorem dX8_isIn_9 : decode cX8_isIn 9 = .ok (.iadd, 1) := by decide +kernel
theorem dX8_isIn_10 : decode cX8_isIn 10 = .ok (.iaload, 1) := by decide +kernel
theorem dX8_isIn_11 : decode cX8_isIn 11 = .ok (.istore 4, 2) := by decide +kernel
theorem dX8_isIn_13 : decode cX8_isIn 13 = .ok (.iload_n 3, 1) := by decide +kernel
theorem dX8_isIn_14 : decode cX8_isIn 14 = .ok (.iload 4, 2) := by decide +kernel
theorem dX8_isIn_16 : decode cX8_isIn 16 = .ok (.iload 4, 2) := by decide +kernel
theorem dX8_isIn_18 : decode cX8_isIn 18 = .ok (.aload_n 0, 1) := by decide +kernel
theorem dX8_isIn_19 : decode cX8_isIn 19 = .ok (.iload_n 1, 1) := by decide +kernel
theorem dX8_isIn_20 : decode cX8_isIn 20 = .ok (.iload_n 2, 1) := by decide +kernel
theorem dX8_isIn_21 : decode cX8_isIn 21 = .ok (.invokevirtual 134, 3) := by decide +kernel
theorem dX8_isIn_24 : decode cX8_isIn 24 = .ok (.iadd, 1) := by decide +kernel
theorem dX8_isIn_25 : decode cX8_isIn 25 = .ok (.iconst 1, 1) := by decide +kernel
theorem dX8_isIn_26 : decode cX8_isIn 26 = .ok (.isub, 1) := by decide +kernel
theorem dX8_isIn_27 : decode cX8_isIn 27 = .ok (.invokestatic 111, 3) := by decide +kernel
theorem dX8_isIn_30 : decode cX8_isIn 30 = .ok (.ireturn, 1) := by decide +kernel
theorem dX8_holds_0 : decode cX8_holds 0 = .ok (.aload_n 0, 1) := by decide +kernel
theorem dX8_holds_1 : decode cX8_holds 1 = .ok (.iload_n 1, 1) := by decide +kernel
theorem dX8_holds_2 : decode cX8_holds 2 = .ok (.iload_n 2, 1) := by decide +kernel
theorem dX8_holds_3 : decode cX8_holds 3 = .ok (.invokevirtual 144, 3) := by decide +kernel
theorem dX8_holds_6 : decode cX8_holds 6 = .ok (.istore 4, 2) := by decide +kernel
theorem dX8_holds_8 : decode cX8_holds 8 = .ok (.iload 4, 2) := by decide +kernel
theorem dX8_holds_10 : decode cX8_holds 10 = .ok (.iconst (-1), 1) := by decide +kernel
theorem dX8_holds_11 : decode cX8_holds 11 = .ok (.if_icmp .ne 7, 3) := by decide +kernel
theorem dX8_holds_14 : decode cX8_holds 14 = .ok (.iconst 0, 1) := by decide +kernel
theorem dX8_holds_15 : decode cX8_holds 15 = .ok (.goto 15, 3) := by decide +kernel
theorem dX8_holds_18 : decode cX8_holds 18 = .ok (.aload_n 0, 1) := by decide +kernel
theorem dX8_holds_19 : decode cX8_holds 19 = .ok (.getfield 63, 3) := by decide +kernel
theorem dX8_holds_22 : decode cX8_holds 22 = .ok (.bipush 8, 2) := by decide +kernel
theorem dX8_holds_24 : decode cX8_holds 24 = .ok (.iload_n 1, 1) := by decide +kernel
theorem dX8_holds_25 : decode cX8_holds 25 = .ok (.imul, 1) := by decide +kernel
theorem dX8_holds_26 : decode cX8_holds 26 = .ok (.iload 4, 2) := by decide +kernel
theorem dX8_holds_28 : decode cX8_holds 28 = .ok (.iadd, 1) := by decide +kernel
theorem dX8_holds_29 : decode cX8_holds 29 = .ok (.iaload, 1) := by decide +kernel
theorem dX8_holds_30 : decode cX8_holds 30 = .ok (.istore 5, 2) := by decide +kernel
theorem dX8_holds_32 : decode cX8_holds 32 = .ok (.iload 4, 2) := by decide +kernel
theorem dX8_holds_34 : decode cX8_holds 34 = .ok (.iconst (-1), 1) := by decide +kernel
theorem dX8_holds_35 : decode cX8_holds 35 = .ok (.if_icmp .eq 33, 3) := by decide +kernel
theorem dX8_holds_38 : decode cX8_holds 38 = .ok (.iload_n 3, 1) := by decide +kernel
theorem dX8_holds_39 : decode cX8_holds 39 = .ok (.iload 5, 2) := by decide +kernel
theorem dX8_holds_41 : decode cX8_holds 41 = .ok (.iload 5, 2) := by decide +kernel
theorem dX8_holds_43 : decode cX8_holds 43 = .ok (.aload_n 0, 1) := by decide +kernel
theorem dX8_holds_44 : decode cX8_holds 44 = .ok (.iload_n 1, 1) := by decide +kernel
theorem dX8_holds_45 : decode cX8_holds 45 = .ok (.iload 4, 2) := by decide +kernel
theorem dX8_holds_47 : decode cX8_holds 47 = .ok (.invokevirtual 134, 3) := by decide +kernel
theorem dX8_holds_50 : decode cX8_holds 50 = .ok (.iadd, 1) := by decide +kernel
theorem dX8_holds_51 : decode cX8_holds 51 = .ok (.iconst 1, 1) := by decide +kernel
theorem dX8_holds_52 : decode cX8_holds 52 = .ok (.isub, 1) := by decide +kernel
theorem dX8_holds_53 : decode cX8_holds 53 = .ok (.aload_n 0, 1) := by decide +kernel
theorem dX8_holds_54 : decode cX8_holds 54 = .ok (.invokevirtual 130, 3) := by decide +kernel
theorem dX8_holds_57 : decode cX8_holds 57 = .ok (.iadd, 1) := by decide +kernel
theorem dX8_holds_58 : decode cX8_holds 58 = .ok (.invokestatic 111, 3) := by decide +kernel
theorem dX8_holds_61 : decode cX8_holds 61 = .ok (.ifCond .eq 7, 3) := by decide +kernel
theorem dX8_holds_64 : decode cX8_holds 64 = .ok (.iconst 1, 1) := by decide +kernel
theorem dX8_holds_65 : decode cX8_holds 65 = .ok (.goto 4, 3) := by decide +kernel
theorem dX8_holds_68 : decode cX8_holds 68 = .ok (.iconst 0, 1) := by decide +kernel
theorem dX8_holds_69 : decode cX8_holds 69 = .ok (.ireturn, 1) := by decide +kernel
theorem dX8_breaks_0 : decode cX8_breaks 0 = .ok (.iload_n 2, 1) := by decide +kernel
theorem dX8_breaks_1 : decode cX8_breaks 1 = .ok (.iconst 3, 1) := by decide +kernel
theorem dX8_breaks_2 : decode cX8_breaks 2 = .ok (.if_icmp .ne 57, 3) := by decide +kernel
theorem dX8_breaks_5 : decode cX8_breaks 5 = .ok (.iconst 1, 1) := by decide +kernel
theorem dX8_breaks_6 : decode cX8_breaks 6 = .ok (.istore 4, 2) := by decide +kernel
theorem dX8_breaks_8 : decode cX8_breaks 8 = .ok (.iload 4, 2) := by decide +kernel
theorem dX8_breaks_10 : decode cX8_breaks 10 = .ok (.aload_n 0, 1) := by decide +kernel
theorem dX8_breaks_11 : decode cX8_breaks 11 = .ok (.iload_n 1, 1) := by decide +kernel
theorem dX8_breaks_12 : decode cX8_breaks 12 = .ok (.invokevirtual 126, 3) := by decide +kernel
theorem dX8_breaks_15 : decode cX8_breaks 15 = .ok (.if_icmp .ge 42, 3) := by decide +kernel
theorem dX8_breaks_18 : decode cX8_breaks 18 = .ok (.aload_n 0, 1) := by decide +kernel
theorem dX8_breaks_19 : decode cX8_breaks 19 = .ok (.iload_n 1, 1) := by decide +kernel
theorem dX8_breaks_20 : decode cX8_breaks 20 = .ok (.iload 4, 2) := by decide +kernel
theorem dX8_breaks_22 : decode cX8_breaks 22 = .ok (.invokevirtual 151, 3) := by decide +kernel
theorem dX8_breaks_25 : decode cX8_breaks 25 = .ok (.istore 5, 2) := by decide +kernel
theorem dX8_breaks_27 : decode cX8_breaks 27 = .ok (.aload_n 0, 1) := by decide +kernel
theorem dX8_breaks_28 : decode cX8_breaks 28 = .ok (.iload_n 1, 1) := by decide +kernel
theorem dX8_breaks_29 : decode cX8_breaks 29 = .ok (.iload 5, 2) := by decide +kernel
theorem dX8_breaks_31 : decode cX8_breaks 31 = .ok (.iload_n 3, 1) := by decide +kernel
theorem dX8_breaks_32 : decode cX8_breaks 32 = .ok (.invokevirtual 157, 3) := by decide +kernel
theorem dX8_breaks_35 : decode cX8_breaks 35 = .ok (.ifCond .eq 16, 3) := by decide +kernel
theorem dX8_breaks_38 : decode cX8_breaks 38 = .ok (.aload_n 0, 1) := by decide +kernel
theorem dX8_breaks_39 : decode cX8_breaks 39 = .ok (.iload_n 1, 1) := by decide +kernel
theorem dX8_breaks_40 : decode cX8_breaks 40 = .ok (.iload 5, 2) := by decide +kernel
theorem dX8_breaks_42 : decode cX8_breaks 42 = .ok (.iload_n 3, 1) := by decide +kernel
theorem dX8_breaks_43 : decode cX8_breaks 43 = .ok (.invokevirtual 160, 3) := by decide +kernel
theorem dX8_breaks_46 : decode cX8_breaks 46 = .ok (.ifCond .ne 5, 3) := by decide +kernel
theorem dX8_breaks_49 : decode cX8_breaks 49 = .ok (.iconst 1, 1) := by decide +kernel
theorem dX8_breaks_50 : decode cX8_breaks 50 = .ok (.ireturn, 1) := by decide +kernel
theorem dX8_breaks_51 : decode cX8_breaks 51 = .ok (.iinc 4 1, 3) := by decide +kernel
theorem dX8_breaks_54 : decode cX8_breaks 54 = .ok (.goto (-46), 3) := by decide +kernel
theorem dX8_breaks_57 : decode cX8_breaks 57 = .ok (.iconst 0, 1) := by decide +kernel
theorem dX8_breaks_58 : decode cX8_breaks 58 = .ok (.ireturn, 1) := by decide +kernel
theorem dX8_breaks_59 : decode cX8_breaks 59 = .ok (.iconst 0, 1) := by decide +kernel
theorem dX8_breaks_60 : decode cX8_breaks 60 = .ok (.istore 4, 2) := by decide +kernel
theorem dX8_breaks_62 : decode cX8_breaks 62 = .ok (.iload 4, 2) := by decide +kernel
theorem dX8_breaks_64 : decode cX8_breaks 64 = .ok (.aload_n 0, 1) := by decide +kernel
theorem dX8_breaks_65 : decode cX8_breaks 65 = .ok (.iload_n 1, 1) := by decide +kernel
theorem dX8_breaks_66 : decode cX8_breaks 66 = .ok (.invokevirtual 126, 3) := by decide +kernel
theorem dX8_breaks_69 : decode cX8_breaks 69 = .ok (.if_icmp .ge 122, 3) := by decide +kernel
theorem dX8_breaks_72 : decode cX8_breaks 72 = .ok (.aload_n 0, 1) := by decide +kernel
theorem dX8_breaks_73 : decode cX8_breaks 73 = .ok (.iload_n 1, 1) := by decide +kernel
theorem dX8_breaks_74 : decode cX8_breaks 74 = .ok (.iload 4, 2) := by decide +kernel
theorem dX8_breaks_76 : decode cX8_breaks 76 = .ok (.iload_n 3, 1) := by decide +kernel
theorem dX8_breaks_77 : decode cX8_breaks 77 = .ok (.invokevirtual 188, 3) := by decide +kernel
theorem dX8_breaks_80 : decode cX8_breaks 80 = .ok (.ifCond .ne 6, 3) := by decide +kernel
theorem dX8_breaks_83 : decode cX8_breaks 83 = .ok (.goto 102, 3) := by decide +kernel
theorem dX8_breaks_86 : decode cX8_breaks 86 = .ok (.aload_n 0, 1) := by decide +kernel
theorem dX8_breaks_87 : decode cX8_breaks 87 = .ok (.iload_n 1, 1) := by decide +kernel
theorem dX8_breaks_88 : decode cX8_breaks 88 = .ok (.iload 4, 2) := by decide +kernel
theorem dX8_breaks_90 : decode cX8_breaks 90 = .ok (.invokevirtual 122, 3) := by decide +kernel
theorem dX8_breaks_93 : decode cX8_breaks 93 = .ok (.istore 5, 2) := by decide +kernel
theorem dX8_breaks_95 : decode cX8_breaks 95 = .ok (.iload_n 2, 1) := by decide +kernel
theorem dX8_breaks_96 : decode cX8_breaks 96 = .ok (.iconst 1, 1) := by decide +kernel
theorem dX8_breaks_97 : decode cX8_breaks 97 = .ok (.if_icmp .ne 15, 3) := by decide +kernel
theorem dX8_breaks_100 : decode cX8_breaks 100 = .ok (.aload_n 0, 1) := by decide +kernel
theorem dX8_breaks_101 : decode cX8_breaks 101 = .ok (.iload 5, 2) := by decide +kernel
theorem dX8_breaks_103 : decode cX8_breaks 103 = .ok (.iload_n 3, 1) := by decide +kernel
theorem dX8_breaks_104 : decode cX8_breaks 104 = .ok (.invokevirtual 137, 3) := by decide +kernel
theorem dX8_breaks_107 : decode cX8_breaks 107 = .ok (.ifCond .eq 5, 3) := by decide +kernel
theorem dX8_breaks_110 : decode cX8_breaks 110 = .ok (.iconst 1, 1) := by decide +kernel
theorem dX8_breaks_111 : decode cX8_breaks 111 = .ok (.ireturn, 1) := by decide +kernel
theorem dX8_breaks_112 : decode cX8_breaks 112 = .ok (.iconst 0, 1) := by decide +kernel
theorem dX8_breaks_113 : decode cX8_breaks 113 = .ok (.istore 6, 2) := by decide +kernel
theorem dX8_breaks_115 : decode cX8_breaks 115 = .ok (.iload 6, 2) := by decide +kernel
theorem dX8_breaks_117 : decode cX8_breaks 117 = .ok (.aload_n 0, 1) := by decide +kernel
theorem dX8_breaks_118 : decode cX8_breaks 118 = .ok (.getfield 108, 3) := by decide +kernel
theorem dX8_breaks_121 : decode cX8_breaks 121 = .ok (.if_icmp .ge 64, 3) := by decide +kernel
theorem dX8_breaks_124 : decode cX8_breaks 124 = .ok (.iload_n 2, 1) := by decide +kernel
theorem dX8_breaks_125 : decode cX8_breaks 125 = .ok (.iconst 2, 1) := by decide +kernel
theorem dX8_breaks_126 : decode cX8_breaks 126 = .ok (.if_icmp .ne 59, 3) := by decide +kernel
theorem dX8_breaks_129 : decode cX8_breaks 129 = .ok (.iload 6, 2) := by decide +kernel
theorem dX8_breaks_131 : decode cX8_breaks 131 = .ok (.iload_n 1, 1) := by decide +kernel
theorem dX8_breaks_132 : decode cX8_breaks 132 = .ok (.if_icmp .eq 47, 3) := by decide +kernel
theorem dX8_breaks_135 : decode cX8_breaks 135 = .ok (.aload_n 0, 1) := by decide +kernel
theorem dX8_breaks_136 : decode cX8_breaks 136 = .ok (.getfield 60, 3) := by decide +kernel
theorem dX8_breaks_139 : decode cX8_breaks 139 = .ok (.iload 6, 2) := by decide +kernel
theorem dX8_breaks_141 : decode cX8_breaks 141 = .ok (.baload, 1) := by decide +kernel
theorem dX8_breaks_142 : decode cX8_breaks 142 = .ok (.ifCond .eq 37, 3) := by decide +kernel
theorem dX8_breaks_145 : decode cX8_breaks 145 = .ok (.aload_n 0, 1) := by decide +kernel
theorem dX8_breaks_146 : decode cX8_breaks 146 = .ok (.getfield 9, 3) := by decide +kernel
theorem dX8_breaks_149 : decode cX8_breaks 149 = .ok (.iload 5, 2) := by decide +kernel
theorem dX8_breaks_151 : decode cX8_breaks 151 = .ok (.baload, 1) := by decide +kernel
theorem dX8_breaks_152 : decode cX8_breaks 152 = .ok (.ifCond .eq 13, 3) := by decide +kernel
theorem dX8_breaks_155 : decode cX8_breaks 155 = .ok (.aload_n 0, 1) := by decide +kernel
theorem dX8_breaks_156 : decode cX8_breaks 156 = .ok (.iload 6, 2) := by decide +kernel
theorem dX8_breaks_158 : decode cX8_breaks 158 = .ok (.iload_n 1, 1) := by decide +kernel
theorem dX8_breaks_159 : decode cX8_breaks 159 = .ok (.invokevirtual 141, 3) := by decide +kernel
theorem dX8_breaks_162 : decode cX8_breaks 162 = .ok (.ifCond .eq 17, 3) := by decide +kernel
theorem dX8_breaks_165 : decode cX8_breaks 165 = .ok (.aload_n 0, 1) := by decide +kernel
theorem dX8_breaks_166 : decode cX8_breaks 166 = .ok (.iload 6, 2) := by decide +kernel
theorem dX8_breaks_168 : decode cX8_breaks 168 = .ok (.iload 5, 2) := by decide +kernel
theorem dX8_breaks_170 : decode cX8_breaks 170 = .ok (.iload_n 3, 1) := by decide +kernel
theorem dX8_breaks_171 : decode cX8_breaks 171 = .ok (.invokevirtual 191, 3) := by decide +kernel
theorem dX8_breaks_174 : decode cX8_breaks 174 = .ok (.ifCond .eq 5, 3) := by decide +kernel
theorem dX8_breaks_177 : decode cX8_breaks 177 = .ok (.iconst 1, 1) := by decide +kernel
theorem dX8_breaks_178 : decode cX8_breaks 178 = .ok (.ireturn, 1) := by decide +kernel
theorem dX8_breaks_179 : decode cX8_breaks 179 = .ok (.iinc 6 1, 3) := by decide +kernel
theorem dX8_breaks_182 : decode cX8_breaks 182 = .ok (.goto (-67), 3) := by decide +kernel
theorem dX8_breaks_185 : decode cX8_breaks 185 = .ok (.iinc 4 1, 3) := by decide +kernel
theorem dX8_breaks_188 : decode cX8_breaks 188 = .ok (.goto (-126), 3) := by decide +kernel
theorem dX8_breaks_191 : decode cX8_breaks 191 = .ok (.iconst 0, 1) := by decide +kernel
theorem dX8_breaks_192 : decode cX8_breaks 192 = .ok (.ireturn, 1) := by decide +kernel
theorem dX8_why_0 : decode cX8_why 0 = .ok (.iload_n 1, 1) := by decide +kernel
theorem dX8_why_1 : decode cX8_why 1 = .ok (.iconst 0, 1) := by decide +kernel
theorem dX8_why_2 : decode cX8_why 2 = .ok (.iconst 2, 1) := by decide +kernel
theorem dX8_why_3 : decode cX8_why 3 = .ok (.invokestatic 111, 3) := by decide +kernel
theorem dX8_why_6 : decode cX8_why 6 = .ok (.ifCond .ne 5, 3) := by decide +kernel
theorem dX8_why_9 : decode cX8_why 9 = .ok (.iconst (-1), 1) := by decide +kernel
theorem dX8_why_10 : decode cX8_why 10 = .ok (.ireturn, 1) := by decide +kernel
theorem dX8_why_11 : decode cX8_why 11 = .ok (.iconst 0, 1) := by decide +kernel
theorem dX8_why_12 : decode cX8_why 12 = .ok (.istore_n 2, 1) := by decide +kernel
theorem dX8_why_13 : decode cX8_why 13 = .ok (.iload_n 2, 1) := by decide +kernel
theorem dX8_why_14 : decode cX8_why 14 = .ok (.aload_n 0, 1) := by decide +kernel
theorem dX8_why_15 : decode cX8_why 15 = .ok (.getfield 108, 3) := by decide +kernel
theorem dX8_why_18 : decode cX8_why 18 = .ok (.if_icmp .ge 79, 3) := by decide +kernel
theorem dX8_why_21 : decode cX8_why 21 = .ok (.iconst 1, 1) := by decide +kernel
theorem dX8_why_22 : decode cX8_why 22 = .ok (.istore_n 3, 1) := by decide +kernel
theorem dX8_why_23 : decode cX8_why 23 = .ok (.iload_n 3, 1) := by decide +kernel
theorem dX8_why_24 : decode cX8_why 24 = .ok (.iconst 3, 1) := by decide +kernel
theorem dX8_why_25 : decode cX8_why 25 = .ok (.if_icmp .gt 66, 3) := by decide +kernel
theorem dX8_why_28 : decode cX8_why 28 = .ok (.aload_n 0, 1) := by decide +kernel
theorem dX8_why_29 : decode cX8_why 29 = .ok (.getfield 60, 3) := by decide +kernel
theorem dX8_why_32 : decode cX8_why 32 = .ok (.iload_n 2, 1) := by decide +kernel
theorem dX8_why_33 : decode cX8_why 33 = .ok (.baload, 1) := by decide +kernel
theorem dX8_why_34 : decode cX8_why 34 = .ok (.ifCond .eq 57, 3) := by decide +kernel
theorem dX8_why_37 : decode cX8_why 37 = .ok (.iconst 0, 1) := by decide +kernel
theorem dX8_why_38 : decode cX8_why 38 = .ok (.istore 4, 2) := by decide +kernel
theorem dX8_why_40 : decode cX8_why 40 = .ok (.iload 4, 2) := by decide +kernel
theorem dX8_why_42 : decode cX8_why 42 = .ok (.sipush 240, 3) := by decide +kernel
theorem dX8_why_45 : decode cX8_why 45 = .ok (.if_icmp .ge 40, 3) := by decide +kernel
theorem dX8_why_48 : decode cX8_why 48 = .ok (.aload_n 0, 1) := by decide +kernel
theorem dX8_why_49 : decode cX8_why 49 = .ok (.iload_n 2, 1) := by decide +kernel
theorem dX8_why_50 : decode cX8_why 50 = .ok (.iload_n 3, 1) := by decide +kernel
theorem dX8_why_51 : decode cX8_why 51 = .ok (.iload 4, 2) := by decide +kernel
theorem dX8_why_53 : decode cX8_why 53 = .ok (.invokevirtual 194, 3) := by decide +kernel
theorem dX8_why_56 : decode cX8_why 56 = .ok (.ifCond .eq 23, 3) := by decide +kernel
theorem dX8_why_59 : decode cX8_why 59 = .ok (.iload_n 1, 1) := by decide +kernel
theorem dX8_why_60 : decode cX8_why 60 = .ok (.ifCond .ne 7, 3) := by decide +kernel
theorem dX8_why_63 : decode cX8_why 63 = .ok (.iload_n 2, 1) := by decide +kernel
theorem dX8_why_64 : decode cX8_why 64 = .ok (.goto 14, 3) := by decide +kernel
theorem dX8_why_67 : decode cX8_why 67 = .ok (.iload_n 1, 1) := by decide +kernel
theorem dX8_why_68 : decode cX8_why 68 = .ok (.iconst 1, 1) := by decide +kernel
theorem dX8_why_69 : decode cX8_why 69 = .ok (.if_icmp .ne 7, 3) := by decide +kernel
theorem dX8_why_72 : decode cX8_why 72 = .ok (.iload_n 3, 1) := by decide +kernel
theorem dX8_why_73 : decode cX8_why 73 = .ok (.goto 5, 3) := by decide +kernel
theorem dX8_why_76 : decode cX8_why 76 = .ok (.iload 4, 2) := by decide +kernel
theorem dX8_why_78 : decode cX8_why 78 = .ok (.ireturn, 1) := by decide +kernel
theorem dX8_why_79 : decode cX8_why 79 = .ok (.iinc 4 1, 3) := by decide +kernel
theorem dX8_why_82 : decode cX8_why 82 = .ok (.goto (-42), 3) := by decide +kernel
theorem dX8_why_85 : decode cX8_why 85 = .ok (.iinc 3 1, 3) := by decide +kernel
theorem dX8_why_88 : decode cX8_why 88 = .ok (.goto (-65), 3) := by decide +kernel
theorem dX8_why_91 : decode cX8_why 91 = .ok (.iinc 2 1, 3) := by decide +kernel
theorem dX8_why_94 : decode cX8_why 94 = .ok (.goto (-81), 3) := by decide +kernel
theorem dX8_why_97 : decode cX8_why 97 = .ok (.iconst (-1), 1) := by decide +kernel
theorem dX8_why_98 : decode cX8_why 98 = .ok (.ireturn, 1) := by decide +kernel
theorem dX8_delay_0 : decode cX8_delay 0 = .ok (.aload_n 0, 1) := by decide +kernel
theorem dX8_delay_1 : decode cX8_delay 1 = .ok (.iload_n 1, 1) := by decide +kernel
theorem dX8_delay_2 : decode cX8_delay 2 = .ok (.invokevirtual 118, 3) := by decide +kernel
theorem dX8_delay_5 : decode cX8_delay 5 = .ok (.ifCond .eq 27, 3) := by decide +kernel
theorem dX8_delay_8 : decode cX8_delay 8 = .ok (.iload_n 2, 1) := by decide +kernel
theorem dX8_delay_9 : decode cX8_delay 9 = .ok (.iconst 0, 1) := by decide +kernel
theorem dX8_delay_10 : decode cX8_delay 10 = .ok (.aload_n 0, 1) := by decide +kernel
theorem dX8_delay_11 : decode cX8_delay 11 = .ok (.getfield 105, 3) := by decide +kernel
theorem dX8_delay_14 : decode cX8_delay 14 = .ok (.iconst 1, 1) := by decide +kernel
theorem dX8_delay_15 : decode cX8_delay 15 = .ok (.isub, 1) := by decide +kernel
theorem dX8_delay_16 : decode cX8_delay 16 = .ok (.invokestatic 111, 3) := by decide +kernel
theorem dX8_delay_19 : decode cX8_delay 19 = .ok (.ifCond .eq 13, 3) := by decide +kernel
theorem dX8_delay_22 : decode cX8_delay 22 = .ok (.iload_n 3, 1) := by decide +kernel
theorem dX8_delay_23 : decode cX8_delay 23 = .ok (.iconst 0, 1) := by decide +kernel
theorem dX8_delay_24 : decode cX8_delay 24 = .ok (.bipush 60, 2) := by decide +kernel
theorem dX8_delay_26 : decode cX8_delay 26 = .ok (.invokestatic 111, 3) := by decide +kernel
theorem dX8_delay_29 : decode cX8_delay 29 = .ok (.ifCond .ne 5, 3) := by decide +kernel
theorem dX8_delay_32 : decode cX8_delay 32 = .ok (.iconst 0, 1) := by decide +kernel
theorem dX8_delay_33 : decode cX8_delay 33 = .ok (.ireturn, 1) := by decide +kernel
theorem dX8_delay_34 : decode cX8_delay 34 = .ok (.aload_n 0, 1) := by decide +kernel
theorem dX8_delay_35 : decode cX8_delay 35 = .ok (.getfield 66, 3) := by decide +kernel
theorem dX8_delay_38 : decode cX8_delay 38 = .ok (.bipush 8, 2) := by decide +kernel
theorem dX8_delay_40 : decode cX8_delay 40 = .ok (.iload_n 1, 1) := by decide +kernel
theorem dX8_delay_41 : decode cX8_delay 41 = .ok (.imul, 1) := by decide +kernel
theorem dX8_delay_42 : decode cX8_delay 42 = .ok (.iload_n 2, 1) := by decide +kernel
theorem dX8_delay_43 : decode cX8_delay 43 = .ok (.iadd, 1) := by decide +kernel
theorem dX8_delay_44 : decode cX8_delay 44 = .ok (.iload_n 3, 1) := by decide +kernel
theorem dX8_delay_45 : decode cX8_delay 45 = .ok (.iastore, 1) := by decide +kernel
theorem dX8_delay_46 : decode cX8_delay 46 = .ok (.iconst 1, 1) := by decide +kernel
theorem dX8_delay_47 : decode cX8_delay 47 = .ok (.ireturn, 1) := by decide +kernel
theorem dX8_runs_0 : decode cX8_runs 0 = .ok (.aload_n 0, 1) := by decide +kernel
theorem dX8_runs_1 : decode cX8_runs 1 = .ok (.invokevirtual 175, 3) := by decide +kernel
theorem dX8_runs_4 : decode cX8_runs 4 = .ok (.iconst 0, 1) := by decide +kernel
theorem dX8_runs_5 : decode cX8_runs 5 = .ok (.istore_n 1, 1) := by decide +kernel
theorem dX8_runs_6 : decode cX8_runs 6 = .ok (.iload_n 1, 1) := by decide +kernel
theorem dX8_runs_7 : decode cX8_runs 7 = .ok (.aload_n 0, 1) := by decide +kernel
theorem dX8_runs_8 : decode cX8_runs 8 = .ok (.getfield 108, 3) := by decide +kernel
theorem dX8_runs_11 : decode cX8_runs 11 = .ok (.if_icmp .ge 120, 3) := by decide +kernel
theorem dX8_runs_14 : decode cX8_runs 14 = .ok (.aload_n 0, 1) := by decide +kernel
theorem dX8_runs_15 : decode cX8_runs 15 = .ok (.getfield 81, 3) := by decide +kernel
theorem dX8_runs_18 : decode cX8_runs 18 = .ok (.iload_n 1, 1) := by decide +kernel
theorem dX8_runs_19 : decode cX8_runs 19 = .ok (.iconst 0, 1) := by decide +kernel
theorem dX8_runs_20 : decode cX8_runs 20 = .ok (.iastore, 1) := by decide +kernel
theorem dX8_runs_21 : decode cX8_runs 21 = .ok (.aload_n 0, 1) := by decide +kernel
theorem dX8_runs_22 : decode cX8_runs 22 = .ok (.getfield 84, 3) := by decide +kernel
theorem dX8_runs_25 : decode cX8_runs 25 = .ok (.iload_n 1, 1) := by decide +kernel
theorem dX8_runs_26 : decode cX8_runs 26 = .ok (.iconst 0, 1) := by decide +kernel
theorem dX8_runs_27 : decode cX8_runs 27 = .ok (.iastore, 1) := by decide +kernel
theorem dX8_runs_28 : decode cX8_runs 28 = .ok (.aload_n 0, 1) := by decide +kernel
theorem dX8_runs_29 : decode cX8_runs 29 = .ok (.getfield 87, 3) := by decide +kernel
theorem dX8_runs_32 : decode cX8_runs 32 = .ok (.iload_n 1, 1) := by decide +kernel
theorem dX8_runs_33 : decode cX8_runs 33 = .ok (.iconst (-1), 1) := by decide +kernel
theorem dX8_runs_34 : decode cX8_runs 34 = .ok (.iastore, 1) := by decide +kernel
theorem dX8_runs_35 : decode cX8_runs 35 = .ok (.aload_n 0, 1) := by decide +kernel
theorem dX8_runs_36 : decode cX8_runs 36 = .ok (.getfield 96, 3) := by decide +kernel
theorem dX8_runs_39 : decode cX8_runs 39 = .ok (.iload_n 1, 1) := by decide +kernel
theorem dX8_runs_40 : decode cX8_runs 40 = .ok (.iconst 0, 1) := by decide +kernel
theorem dX8_runs_41 : decode cX8_runs 41 = .ok (.iastore, 1) := by decide +kernel
theorem dX8_runs_42 : decode cX8_runs 42 = .ok (.aload_n 0, 1) := by decide +kernel
theorem dX8_runs_43 : decode cX8_runs 43 = .ok (.getfield 99, 3) := by decide +kernel
theorem dX8_runs_46 : decode cX8_runs 46 = .ok (.iload_n 1, 1) := by decide +kernel
theorem dX8_runs_47 : decode cX8_runs 47 = .ok (.iconst 0, 1) := by decide +kernel
theorem dX8_runs_48 : decode cX8_runs 48 = .ok (.iastore, 1) := by decide +kernel
theorem dX8_runs_49 : decode cX8_runs 49 = .ok (.iconst 0, 1) := by decide +kernel
theorem dX8_runs_50 : decode cX8_runs 50 = .ok (.istore_n 2, 1) := by decide +kernel
theorem dX8_runs_51 : decode cX8_runs 51 = .ok (.iload_n 2, 1) := by decide +kernel
theorem dX8_runs_52 : decode cX8_runs 52 = .ok (.aload_n 0, 1) := by decide +kernel
theorem dX8_runs_53 : decode cX8_runs 53 = .ok (.getfield 108, 3) := by decide +kernel
theorem dX8_runs_56 : decode cX8_runs 56 = .ok (.if_icmp .ge 21, 3) := by decide +kernel
theorem dX8_runs_59 : decode cX8_runs 59 = .ok (.aload_n 0, 1) := by decide +kernel
theorem dX8_runs_60 : decode cX8_runs 60 = .ok (.getfield 102, 3) := by decide +kernel
theorem dX8_runs_63 : decode cX8_runs 63 = .ok (.bipush 16, 2) := by decide +kernel
theorem dX8_runs_65 : decode cX8_runs 65 = .ok (.iload_n 1, 1) := by decide +kernel
theorem dX8_runs_66 : decode cX8_runs 66 = .ok (.imul, 1) := by decide +kernel
theorem dX8_runs_67 : decode cX8_runs 67 = .ok (.iload_n 2, 1) := by decide +kernel
theorem dX8_runs_68 : decode cX8_runs 68 = .ok (.iadd, 1) := by decide +kernel
theorem dX8_runs_69 : decode cX8_runs 69 = .ok (.iconst 0, 1) := by decide +kernel
theorem dX8_runs_70 : decode cX8_runs 70 = .ok (.iastore, 1) := by decide +kernel
theorem dX8_runs_71 : decode cX8_runs 71 = .ok (.iinc 2 1, 3) := by decide +kernel
theorem dX8_runs_74 : decode cX8_runs 74 = .ok (.goto (-23), 3) := by decide +kernel
theorem dX8_runs_77 : decode cX8_runs 77 = .ok (.iconst 0, 1) := by decide +kernel
theorem dX8_runs_78 : decode cX8_runs 78 = .ok (.istore_n 2, 1) := by decide +kernel
theorem dX8_runs_79 : decode cX8_runs 79 = .ok (.iload_n 2, 1) := by decide +kernel
theorem dX8_runs_80 : decode cX8_runs 80 = .ok (.bipush 8, 2) := by decide +kernel
theorem dX8_runs_82 : decode cX8_runs 82 = .ok (.if_icmp .ge 43, 3) := by decide +kernel
theorem dX8_runs_85 : decode cX8_runs 85 = .ok (.aload_n 0, 1) := by decide +kernel
theorem dX8_runs_86 : decode cX8_runs 86 = .ok (.getfield 90, 3) := by decide +kernel
theorem dX8_runs_89 : decode cX8_runs 89 = .ok (.bipush 8, 2) := by decide +kernel
theorem dX8_runs_91 : decode cX8_runs 91 = .ok (.iload_n 1, 1) := by decide +kernel
theorem dX8_runs_92 : decode cX8_runs 92 = .ok (.imul, 1) := by decide +kernel
theorem dX8_runs_93 : decode cX8_runs 93 = .ok (.iload_n 2, 1) := by decide +kernel
theorem dX8_runs_94 : decode cX8_runs 94 = .ok (.iadd, 1) := by decide +kernel
theorem dX8_runs_95 : decode cX8_runs 95 = .ok (.aload_n 0, 1) := by decide +kernel
theorem dX8_runs_96 : decode cX8_runs 96 = .ok (.getfield 66, 3) := by decide +kernel
theorem dX8_runs_99 : decode cX8_runs 99 = .ok (.bipush 8, 2) := by decide +kernel
theorem dX8_runs_101 : decode cX8_runs 101 = .ok (.iload_n 1, 1) := by decide +kernel
theorem dX8_runs_102 : decode cX8_runs 102 = .ok (.imul, 1) := by decide +kernel
theorem dX8_runs_103 : decode cX8_runs 103 = .ok (.iload_n 2, 1) := by decide +kernel
theorem dX8_runs_104 : decode cX8_runs 104 = .ok (.iadd, 1) := by decide +kernel
theorem dX8_runs_105 : decode cX8_runs 105 = .ok (.iaload, 1) := by decide +kernel
theorem dX8_runs_106 : decode cX8_runs 106 = .ok (.iastore, 1) := by decide +kernel
theorem dX8_runs_107 : decode cX8_runs 107 = .ok (.aload_n 0, 1) := by decide +kernel
theorem dX8_runs_108 : decode cX8_runs 108 = .ok (.getfield 93, 3) := by decide +kernel
theorem dX8_runs_111 : decode cX8_runs 111 = .ok (.bipush 8, 2) := by decide +kernel
theorem dX8_runs_113 : decode cX8_runs 113 = .ok (.iload_n 1, 1) := by decide +kernel
theorem dX8_runs_114 : decode cX8_runs 114 = .ok (.imul, 1) := by decide +kernel
theorem dX8_runs_115 : decode cX8_runs 115 = .ok (.iload_n 2, 1) := by decide +kernel
theorem dX8_runs_116 : decode cX8_runs 116 = .ok (.iadd, 1) := by decide +kernel
theorem dX8_runs_117 : decode cX8_runs 117 = .ok (.iconst (-1), 1) := by decide +kernel
theorem dX8_runs_118 : decode cX8_runs 118 = .ok (.iastore, 1) := by decide +kernel
theorem dX8_runs_119 : decode cX8_runs 119 = .ok (.iinc 2 1, 3) := by decide +kernel
theorem dX8_runs_122 : decode cX8_runs 122 = .ok (.goto (-43), 3) := by decide +kernel
theorem dX8_runs_125 : decode cX8_runs 125 = .ok (.iinc 1 1, 3) := by decide +kernel
theorem dX8_runs_128 : decode cX8_runs 128 = .ok (.goto (-122), 3) := by decide +kernel
theorem dX8_runs_131 : decode cX8_runs 131 = .ok (.iconst 0, 1) := by decide +kernel
theorem dX8_runs_132 : decode cX8_runs 132 = .ok (.istore_n 1, 1) := by decide +kernel
theorem dX8_runs_133 : decode cX8_runs 133 = .ok (.iload_n 1, 1) := by decide +kernel
theorem dX8_runs_134 : decode cX8_runs 134 = .ok (.sipush 480, 3) := by decide +kernel
theorem dX8_runs_137 : decode cX8_runs 137 = .ok (.if_icmp .ge 50, 3) := by decide +kernel
theorem dX8_runs_140 : decode cX8_runs 140 = .ok (.iconst 0, 1) := by decide +kernel
theorem dX8_runs_141 : decode cX8_runs 141 = .ok (.istore_n 2, 1) := by decide +kernel
theorem dX8_runs_142 : decode cX8_runs 142 = .ok (.iload_n 2, 1) := by decide +kernel
theorem dX8_runs_143 : decode cX8_runs 143 = .ok (.aload_n 0, 1) := by decide +kernel
theorem dX8_runs_144 : decode cX8_runs 144 = .ok (.getfield 108, 3) := by decide +kernel
theorem dX8_runs_147 : decode cX8_runs 147 = .ok (.if_icmp .ge 34, 3) := by decide +kernel
theorem dX8_runs_150 : decode cX8_runs 150 = .ok (.aload_n 0, 1) := by decide +kernel
theorem dX8_runs_151 : decode cX8_runs 151 = .ok (.getfield 60, 3) := by decide +kernel
theorem dX8_runs_154 : decode cX8_runs 154 = .ok (.aload_n 0, 1) := by decide +kernel
theorem dX8_runs_155 : decode cX8_runs 155 = .ok (.getfield 75, 3) := by decide +kernel
theorem dX8_runs_158 : decode cX8_runs 158 = .ok (.iload_n 2, 1) := by decide +kernel
theorem dX8_runs_159 : decode cX8_runs 159 = .ok (.iaload, 1) := by decide +kernel
theorem dX8_runs_160 : decode cX8_runs 160 = .ok (.baload, 1) := by decide +kernel
theorem dX8_runs_161 : decode cX8_runs 161 = .ok (.ifCond .eq 14, 3) := by decide +kernel
theorem dX8_runs_164 : decode cX8_runs 164 = .ok (.aload_n 0, 1) := by decide +kernel
theorem dX8_runs_165 : decode cX8_runs 165 = .ok (.aload_n 0, 1) := by decide +kernel
theorem dX8_runs_166 : decode cX8_runs 166 = .ok (.getfield 75, 3) := by decide +kernel
theorem dX8_runs_169 : decode cX8_runs 169 = .ok (.iload_n 2, 1) := by decide +kernel
theorem dX8_runs_170 : decode cX8_runs 170 = .ok (.iaload, 1) := by decide +kernel
theorem dX8_runs_171 : decode cX8_runs 171 = .ok (.iload_n 1, 1) := by decide +kernel
theorem dX8_runs_172 : decode cX8_runs 172 = .ok (.invokevirtual 197, 3) := by decide +kernel
theorem dX8_runs_175 : decode cX8_runs 175 = .ok (.iinc 2 1, 3) := by decide +kernel
theorem dX8_runs_178 : decode cX8_runs 178 = .ok (.goto (-36), 3) := by decide +kernel
theorem dX8_runs_181 : decode cX8_runs 181 = .ok (.iinc 1 1, 3) := by decide +kernel
theorem dX8_runs_184 : decode cX8_runs 184 = .ok (.goto (-51), 3) := by decide +kernel
theorem dX8_runs_187 : decode cX8_runs 187 = .ok (.return_, 1) := by decide +kernel
theorem dX8_holder_0 : decode cX8_holder 0 = .ok (.iconst 0, 1) := by decide +kernel
theorem dX8_holder_1 : decode cX8_holder 1 = .ok (.istore 4, 2) := by decide +kernel
theorem dX8_holder_3 : decode cX8_holder 3 = .ok (.iload 4, 2) := by decide +kernel
theorem dX8_holder_5 : decode cX8_holder 5 = .ok (.aload_n 0, 1) := by decide +kernel
theorem dX8_holder_6 : decode cX8_holder 6 = .ok (.getfield 108, 3) := by decide +kernel
theorem dX8_holder_9 : decode cX8_holder 9 = .ok (.if_icmp .ge 118, 3) := by decide +kernel
theorem dX8_holder_12 : decode cX8_holder 12 = .ok (.iload 4, 2) := by decide +kernel
theorem dX8_holder_14 : decode cX8_holder 14 = .ok (.iload_n 1, 1) := by decide +kernel
theorem dX8_holder_15 : decode cX8_holder 15 = .ok (.if_icmp .eq 32, 3) := by decide +kernel
theorem dX8_holder_18 : decode cX8_holder 18 = .ok (.aload_n 0, 1) := by decide +kernel
theorem dX8_holder_19 : decode cX8_holder 19 = .ok (.getfield 60, 3) := by decide +kernel
theorem dX8_holder_22 : decode cX8_holder 22 = .ok (.iload 4, 2) := by decide +kernel
theorem dX8_holder_24 : decode cX8_holder 24 = .ok (.baload, 1) := by decide +kernel
theorem dX8_holder_25 : decode cX8_holder 25 = .ok (.ifCond .eq 22, 3) := by decide +kernel
theorem dX8_holder_28 : decode cX8_holder 28 = .ok (.aload_n 0, 1) := by decide +kernel
theorem dX8_holder_29 : decode cX8_holder 29 = .ok (.getfield 9, 3) := by decide +kernel
theorem dX8_holder_32 : decode cX8_holder 32 = .ok (.iload_n 2, 1) := by decide +kernel
theorem dX8_holder_33 : decode cX8_holder 33 = .ok (.baload, 1) := by decide +kernel
theorem dX8_holder_34 : decode cX8_holder 34 = .ok (.ifCond .eq 17, 3) := by decide +kernel
theorem dX8_holder_37 : decode cX8_holder 37 = .ok (.aload_n 0, 1) := by decide +kernel
theorem dX8_holder_38 : decode cX8_holder 38 = .ok (.iload 4, 2) := by decide +kernel
theorem dX8_holder_40 : decode cX8_holder 40 = .ok (.iload_n 1, 1) := by decide +kernel
theorem dX8_holder_41 : decode cX8_holder 41 = .ok (.invokevirtual 141, 3) := by decide +kernel
theorem dX8_holder_44 : decode cX8_holder 44 = .ok (.ifCond .ne 7, 3) := by decide +kernel
theorem dX8_holder_47 : decode cX8_holder 47 = .ok (.iconst (-1), 1) := by decide +kernel
theorem dX8_holder_48 : decode cX8_holder 48 = .ok (.goto 10, 3) := by decide +kernel
theorem dX8_holder_51 : decode cX8_holder 51 = .ok (.aload_n 0, 1) := by decide +kernel
theorem dX8_holder_52 : decode cX8_holder 52 = .ok (.iload 4, 2) := by decide +kernel
theorem dX8_holder_54 : decode cX8_holder 54 = .ok (.iload_n 2, 1) := by decide +kernel
theorem dX8_holder_55 : decode cX8_holder 55 = .ok (.invokevirtual 144, 3) := by decide +kernel
theorem dX8_holder_58 : decode cX8_holder 58 = .ok (.istore 5, 2) := by decide +kernel
theorem dX8_holder_60 : decode cX8_holder 60 = .ok (.iload 5, 2) := by decide +kernel
theorem dX8_holder_62 : decode cX8_holder 62 = .ok (.iconst (-1), 1) := by decide +kernel
theorem dX8_holder_63 : decode cX8_holder 63 = .ok (.if_icmp .ne 7, 3) := by decide +kernel
theorem dX8_holder_66 : decode cX8_holder 66 = .ok (.iconst (-1), 1) := by decide +kernel
theorem dX8_holder_67 : decode cX8_holder 67 = .ok (.goto 16, 3) := by decide +kernel
theorem dX8_holder_70 : decode cX8_holder 70 = .ok (.aload_n 0, 1) := by decide +kernel
theorem dX8_holder_71 : decode cX8_holder 71 = .ok (.getfield 93, 3) := by decide +kernel
theorem dX8_holder_74 : decode cX8_holder 74 = .ok (.bipush 8, 2) := by decide +kernel
theorem dX8_holder_76 : decode cX8_holder 76 = .ok (.iload 4, 2) := by decide +kernel
theorem dX8_holder_78 : decode cX8_holder 78 = .ok (.imul, 1) := by decide +kernel
theorem dX8_holder_79 : decode cX8_holder 79 = .ok (.iload 5, 2) := by decide +kernel
theorem dX8_holder_81 : decode cX8_holder 81 = .ok (.iadd, 1) := by decide +kernel
theorem dX8_holder_82 : decode cX8_holder 82 = .ok (.iaload, 1) := by decide +kernel
theorem dX8_holder_83 : decode cX8_holder 83 = .ok (.istore 6, 2) := by decide +kernel
theorem dX8_holder_85 : decode cX8_holder 85 = .ok (.iload 6, 2) := by decide +kernel
theorem dX8_holder_87 : decode cX8_holder 87 = .ok (.iconst (-1), 1) := by decide +kernel
theorem dX8_holder_88 : decode cX8_holder 88 = .ok (.if_icmp .eq 33, 3) := by decide +kernel
theorem dX8_holder_91 : decode cX8_holder 91 = .ok (.iload_n 3, 1) := by decide +kernel
theorem dX8_holder_92 : decode cX8_holder 92 = .ok (.iload 6, 2) := by decide +kernel
theorem dX8_holder_94 : decode cX8_holder 94 = .ok (.iload 6, 2) := by decide +kernel
theorem dX8_holder_96 : decode cX8_holder 96 = .ok (.aload_n 0, 1) := by decide +kernel
theorem dX8_holder_97 : decode cX8_holder 97 = .ok (.iload 4, 2) := by decide +kernel
theorem dX8_holder_99 : decode cX8_holder 99 = .ok (.iload 5, 2) := by decide +kernel
theorem dX8_holder_101 : decode cX8_holder 101 = .ok (.invokevirtual 134, 3) := by decide +kernel
theorem dX8_holder_104 : decode cX8_holder 104 = .ok (.iadd, 1) := by decide +kernel
theorem dX8_holder_105 : decode cX8_holder 105 = .ok (.iconst 1, 1) := by decide +kernel
theorem dX8_holder_106 : decode cX8_holder 106 = .ok (.isub, 1) := by decide +kernel
theorem dX8_holder_107 : decode cX8_holder 107 = .ok (.aload_n 0, 1) := by decide +kernel
theorem dX8_holder_108 : decode cX8_holder 108 = .ok (.invokevirtual 130, 3) := by decide +kernel
theorem dX8_holder_111 : decode cX8_holder 111 = .ok (.iadd, 1) := by decide +kernel
theorem dX8_holder_112 : decode cX8_holder 112 = .ok (.invokestatic 111, 3) := by decide +kernel
theorem dX8_holder_115 : decode cX8_holder 115 = .ok (.ifCond .eq 6, 3) := by decide +kernel
theorem dX8_holder_118 : decode cX8_holder 118 = .ok (.iload 4, 2) := by decide +kernel
theorem dX8_holder_120 : decode cX8_holder 120 = .ok (.ireturn, 1) := by decide +kernel
theorem dX8_holder_121 : decode cX8_holder 121 = .ok (.iinc 4 1, 3) := by decide +kernel
theorem dX8_holder_124 : decode cX8_holder 124 = .ok (.goto (-121), 3) := by decide +kernel
theorem dX8_holder_127 : decode cX8_holder 127 = .ok (.iconst (-1), 1) := by decide +kernel
theorem dX8_holder_128 : decode cX8_holder 128 = .ok (.ireturn, 1) := by decide +kernel
theorem dX8_steps_0 : decode cX8_steps 0 = .ok (.iload_n 2, 1) := by decide +kernel
theorem dX8_steps_1 : decode cX8_steps 1 = .ok (.aload_n 0, 1) := by decide +kernel
theorem dX8_steps_2 : decode cX8_steps 2 = .ok (.getfield 84, 3) := by decide +kernel
theorem dX8_steps_5 : decode cX8_steps 5 = .ok (.iload_n 1, 1) := by decide +kernel
theorem dX8_steps_6 : decode cX8_steps 6 = .ok (.iaload, 1) := by decide +kernel
theorem dX8_steps_7 : decode cX8_steps 7 = .ok (.if_icmp .ge 4, 3) := by decide +kernel
theorem dX8_steps_10 : decode cX8_steps 10 = .ok (.return_, 1) := by decide +kernel
theorem dX8_steps_11 : decode cX8_steps 11 = .ok (.aload_n 0, 1) := by decide +kernel
theorem dX8_steps_12 : decode cX8_steps 12 = .ok (.getfield 81, 3) := by decide +kernel
theorem dX8_steps_15 : decode cX8_steps 15 = .ok (.iload_n 1, 1) := by decide +kernel
theorem dX8_steps_16 : decode cX8_steps 16 = .ok (.iaload, 1) := by decide +kernel
theorem dX8_steps_17 : decode cX8_steps 17 = .ok (.istore_n 3, 1) := by decide +kernel
theorem dX8_steps_18 : decode cX8_steps 18 = .ok (.iload_n 3, 1) := by decide +kernel
theorem dX8_steps_19 : decode cX8_steps 19 = .ok (.aload_n 0, 1) := by decide +kernel
theorem dX8_steps_20 : decode cX8_steps 20 = .ok (.iload_n 1, 1) := by decide +kernel
theorem dX8_steps_21 : decode cX8_steps 21 = .ok (.invokevirtual 126, 3) := by decide +kernel
theorem dX8_steps_24 : decode cX8_steps 24 = .ok (.if_icmp .ne 26, 3) := by decide +kernel
theorem dX8_steps_27 : decode cX8_steps 27 = .ok (.aload_n 0, 1) := by decide +kernel
theorem dX8_steps_28 : decode cX8_steps 28 = .ok (.getfield 87, 3) := by decide +kernel
theorem dX8_steps_31 : decode cX8_steps 31 = .ok (.iload_n 1, 1) := by decide +kernel
theorem dX8_steps_32 : decode cX8_steps 32 = .ok (.iaload, 1) := by decide +kernel
theorem dX8_steps_33 : decode cX8_steps 33 = .ok (.iconst (-1), 1) := by decide +kernel
theorem dX8_steps_34 : decode cX8_steps 34 = .ok (.if_icmp .ne 15, 3) := by decide +kernel
theorem dX8_steps_37 : decode cX8_steps 37 = .ok (.aload_n 0, 1) := by decide +kernel
theorem dX8_steps_38 : decode cX8_steps 38 = .ok (.getfield 87, 3) := by decide +kernel
theorem dX8_steps_41 : decode cX8_steps 41 = .ok (.iload_n 1, 1) := by decide +kernel
theorem dX8_steps_42 : decode cX8_steps 42 = .ok (.aload_n 0, 1) := by decide +kernel
theorem dX8_steps_43 : decode cX8_steps 43 = .ok (.getfield 84, 3) := by decide +kernel
theorem dX8_steps_46 : decode cX8_steps 46 = .ok (.iload_n 1, 1) := by decide +kernel
theorem dX8_steps_47 : decode cX8_steps 47 = .ok (.iaload, 1) := by decide +kernel
theorem dX8_steps_48 : decode cX8_steps 48 = .ok (.iastore, 1) := by decide +kernel
theorem dX8_steps_49 : decode cX8_steps 49 = .ok (.return_, 1) := by decide +kernel
theorem dX8_steps_50 : decode cX8_steps 50 = .ok (.aload_n 0, 1) := by decide +kernel
theorem dX8_steps_51 : decode cX8_steps 51 = .ok (.getfield 63, 3) := by decide +kernel
theorem dX8_steps_54 : decode cX8_steps 54 = .ok (.bipush 8, 2) := by decide +kernel
theorem dX8_steps_56 : decode cX8_steps 56 = .ok (.iload_n 1, 1) := by decide +kernel
theorem dX8_steps_57 : decode cX8_steps 57 = .ok (.imul, 1) := by decide +kernel
theorem dX8_steps_58 : decode cX8_steps 58 = .ok (.iload_n 3, 1) := by decide +kernel
theorem dX8_steps_59 : decode cX8_steps 59 = .ok (.iadd, 1) := by decide +kernel
theorem dX8_steps_60 : decode cX8_steps 60 = .ok (.iaload, 1) := by decide +kernel
theorem dX8_steps_61 : decode cX8_steps 61 = .ok (.iload_n 2, 1) := by decide +kernel
theorem dX8_steps_62 : decode cX8_steps 62 = .ok (.if_icmp .le 4, 3) := by decide +kernel
theorem dX8_steps_65 : decode cX8_steps 65 = .ok (.return_, 1) := by decide +kernel
theorem dX8_steps_66 : decode cX8_steps 66 = .ok (.aload_n 0, 1) := by decide +kernel
theorem dX8_steps_67 : decode cX8_steps 67 = .ok (.iload_n 1, 1) := by decide +kernel
theorem dX8_steps_68 : decode cX8_steps 68 = .ok (.iload_n 3, 1) := by decide +kernel
theorem dX8_steps_69 : decode cX8_steps 69 = .ok (.invokevirtual 122, 3) := by decide +kernel
theorem dX8_steps_72 : decode cX8_steps 72 = .ok (.istore 4, 2) := by decide +kernel
theorem dX8_steps_74 : decode cX8_steps 74 = .ok (.bipush 8, 2) := by decide +kernel
theorem dX8_steps_76 : decode cX8_steps 76 = .ok (.iload_n 1, 1) := by decide +kernel
theorem dX8_steps_77 : decode cX8_steps 77 = .ok (.imul, 1) := by decide +kernel
theorem dX8_steps_78 : decode cX8_steps 78 = .ok (.aload_n 0, 1) := by decide +kernel
theorem dX8_steps_79 : decode cX8_steps 79 = .ok (.iload_n 1, 1) := by decide +kernel
theorem dX8_steps_80 : decode cX8_steps 80 = .ok (.iload_n 3, 1) := by decide +kernel
theorem dX8_steps_81 : decode cX8_steps 81 = .ok (.invokevirtual 151, 3) := by decide +kernel
theorem dX8_steps_84 : decode cX8_steps 84 = .ok (.iadd, 1) := by decide +kernel
theorem dX8_steps_85 : decode cX8_steps 85 = .ok (.istore 5, 2) := by decide +kernel
theorem dX8_steps_87 : decode cX8_steps 87 = .ok (.aload_n 0, 1) := by decide +kernel
theorem dX8_steps_88 : decode cX8_steps 88 = .ok (.iload_n 1, 1) := by decide +kernel
theorem dX8_steps_89 : decode cX8_steps 89 = .ok (.iload 4, 2) := by decide +kernel
theorem dX8_steps_91 : decode cX8_steps 91 = .ok (.iload_n 2, 1) := by decide +kernel
theorem dX8_steps_92 : decode cX8_steps 92 = .ok (.invokevirtual 201, 3) := by decide +kernel
theorem dX8_steps_95 : decode cX8_steps 95 = .ok (.istore 6, 2) := by decide +kernel
theorem dX8_steps_97 : decode cX8_steps 97 = .ok (.aload_n 0, 1) := by decide +kernel
theorem dX8_steps_98 : decode cX8_steps 98 = .ok (.getfield 90, 3) := by decide +kernel
theorem dX8_steps_101 : decode cX8_steps 101 = .ok (.iload 5, 2) := by decide +kernel
theorem dX8_steps_103 : decode cX8_steps 103 = .ok (.iaload, 1) := by decide +kernel
theorem dX8_steps_104 : decode cX8_steps 104 = .ok (.ifCond .le 27, 3) := by decide +kernel
theorem dX8_steps_107 : decode cX8_steps 107 = .ok (.aload_n 0, 1) := by decide +kernel
theorem dX8_steps_108 : decode cX8_steps 108 = .ok (.getfield 90, 3) := by decide +kernel
theorem dX8_steps_111 : decode cX8_steps 111 = .ok (.iload 5, 2) := by decide +kernel
theorem dX8_steps_113 : decode cX8_steps 113 = .ok (.dup2, 1) := by decide +kernel
theorem dX8_steps_114 : decode cX8_steps 114 = .ok (.iaload, 1) := by decide +kernel
theorem dX8_steps_115 : decode cX8_steps 115 = .ok (.iconst 1, 1) := by decide +kernel
theorem dX8_steps_116 : decode cX8_steps 116 = .ok (.isub, 1) := by decide +kernel
theorem dX8_steps_117 : decode cX8_steps 117 = .ok (.iastore, 1) := by decide +kernel
theorem dX8_steps_118 : decode cX8_steps 118 = .ok (.aload_n 0, 1) := by decide +kernel
theorem dX8_steps_119 : decode cX8_steps 119 = .ok (.getfield 96, 3) := by decide +kernel
theorem dX8_steps_122 : decode cX8_steps 122 = .ok (.iload_n 1, 1) := by decide +kernel
theorem dX8_steps_123 : decode cX8_steps 123 = .ok (.dup2, 1) := by decide +kernel
theorem dX8_steps_124 : decode cX8_steps 124 = .ok (.iaload, 1) := by decide +kernel
theorem dX8_steps_125 : decode cX8_steps 125 = .ok (.iconst 1, 1) := by decide +kernel
theorem dX8_steps_126 : decode cX8_steps 126 = .ok (.iadd, 1) := by decide +kernel
theorem dX8_steps_127 : decode cX8_steps 127 = .ok (.iastore, 1) := by decide +kernel
theorem dX8_steps_128 : decode cX8_steps 128 = .ok (.goto 86, 3) := by decide +kernel
theorem dX8_steps_131 : decode cX8_steps 131 = .ok (.aload_n 0, 1) := by decide +kernel
theorem dX8_steps_132 : decode cX8_steps 132 = .ok (.iload 4, 2) := by decide +kernel
theorem dX8_steps_134 : decode cX8_steps 134 = .ok (.iload_n 2, 1) := by decide +kernel
theorem dX8_steps_135 : decode cX8_steps 135 = .ok (.invokevirtual 137, 3) := by decide +kernel
theorem dX8_steps_138 : decode cX8_steps 138 = .ok (.ifCond .eq 16, 3) := by decide +kernel
theorem dX8_steps_141 : decode cX8_steps 141 = .ok (.aload_n 0, 1) := by decide +kernel
theorem dX8_steps_142 : decode cX8_steps 142 = .ok (.getfield 99, 3) := by decide +kernel
theorem dX8_steps_145 : decode cX8_steps 145 = .ok (.iload_n 1, 1) := by decide +kernel
theorem dX8_steps_146 : decode cX8_steps 146 = .ok (.dup2, 1) := by decide +kernel
theorem dX8_steps_147 : decode cX8_steps 147 = .ok (.iaload, 1) := by decide +kernel
theorem dX8_steps_148 : decode cX8_steps 148 = .ok (.iconst 1, 1) := by decide +kernel
theorem dX8_steps_149 : decode cX8_steps 149 = .ok (.iadd, 1) := by decide +kernel
theorem dX8_steps_150 : decode cX8_steps 150 = .ok (.iastore, 1) := by decide +kernel
theorem dX8_steps_151 : decode cX8_steps 151 = .ok (.goto 63, 3) := by decide +kernel
theorem dX8_steps_154 : decode cX8_steps 154 = .ok (.iload 6, 2) := by decide +kernel
theorem dX8_steps_156 : decode cX8_steps 156 = .ok (.iconst (-1), 1) := by decide +kernel
theorem dX8_steps_157 : decode cX8_steps 157 = .ok (.if_icmp .eq 22, 3) := by decide +kernel
theorem dX8_steps_160 : decode cX8_steps 160 = .ok (.aload_n 0, 1) := by decide +kernel
theorem dX8_steps_161 : decode cX8_steps 161 = .ok (.getfield 102, 3) := by decide +kernel
theorem dX8_steps_164 : decode cX8_steps 164 = .ok (.bipush 16, 2) := by decide +kernel
theorem dX8_steps_166 : decode cX8_steps 166 = .ok (.iload_n 1, 1) := by decide +kernel
theorem dX8_steps_167 : decode cX8_steps 167 = .ok (.imul, 1) := by decide +kernel
theorem dX8_steps_168 : decode cX8_steps 168 = .ok (.iload 6, 2) := by decide +kernel
theorem dX8_steps_170 : decode cX8_steps 170 = .ok (.iadd, 1) := by decide +kernel
theorem dX8_steps_171 : decode cX8_steps 171 = .ok (.dup2, 1) := by decide +kernel
theorem dX8_steps_172 : decode cX8_steps 172 = .ok (.iaload, 1) := by decide +kernel
theorem dX8_steps_173 : decode cX8_steps 173 = .ok (.iconst 1, 1) := by decide +kernel
theorem dX8_steps_174 : decode cX8_steps 174 = .ok (.iadd, 1) := by decide +kernel
theorem dX8_steps_175 : decode cX8_steps 175 = .ok (.iastore, 1) := by decide +kernel
theorem dX8_steps_176 : decode cX8_steps 176 = .ok (.goto 38, 3) := by decide +kernel
theorem dX8_steps_179 : decode cX8_steps 179 = .ok (.aload_n 0, 1) := by decide +kernel
theorem dX8_steps_180 : decode cX8_steps 180 = .ok (.getfield 93, 3) := by decide +kernel
theorem dX8_steps_183 : decode cX8_steps 183 = .ok (.bipush 8, 2) := by decide +kernel
theorem dX8_steps_185 : decode cX8_steps 185 = .ok (.iload_n 1, 1) := by decide +kernel
theorem dX8_steps_186 : decode cX8_steps 186 = .ok (.imul, 1) := by decide +kernel
theorem dX8_steps_187 : decode cX8_steps 187 = .ok (.iload_n 3, 1) := by decide +kernel
theorem dX8_steps_188 : decode cX8_steps 188 = .ok (.iadd, 1) := by decide +kernel
theorem dX8_steps_189 : decode cX8_steps 189 = .ok (.iload_n 2, 1) := by decide +kernel
theorem dX8_steps_190 : decode cX8_steps 190 = .ok (.iastore, 1) := by decide +kernel
theorem dX8_steps_191 : decode cX8_steps 191 = .ok (.aload_n 0, 1) := by decide +kernel
theorem dX8_steps_192 : decode cX8_steps 192 = .ok (.getfield 84, 3) := by decide +kernel
theorem dX8_steps_195 : decode cX8_steps 195 = .ok (.iload_n 1, 1) := by decide +kernel
theorem dX8_steps_196 : decode cX8_steps 196 = .ok (.iload_n 2, 1) := by decide +kernel
theorem dX8_steps_197 : decode cX8_steps 197 = .ok (.aload_n 0, 1) := by decide +kernel
theorem dX8_steps_198 : decode cX8_steps 198 = .ok (.iload_n 1, 1) := by decide +kernel
theorem dX8_steps_199 : decode cX8_steps 199 = .ok (.iload_n 3, 1) := by decide +kernel
theorem dX8_steps_200 : decode cX8_steps 200 = .ok (.invokevirtual 134, 3) := by decide +kernel
theorem dX8_steps_203 : decode cX8_steps 203 = .ok (.iadd, 1) := by decide +kernel
theorem dX8_steps_204 : decode cX8_steps 204 = .ok (.iastore, 1) := by decide +kernel
theorem dX8_steps_205 : decode cX8_steps 205 = .ok (.aload_n 0, 1) := by decide +kernel
theorem dX8_steps_206 : decode cX8_steps 206 = .ok (.getfield 81, 3) := by decide +kernel
theorem dX8_steps_209 : decode cX8_steps 209 = .ok (.iload_n 1, 1) := by decide +kernel
theorem dX8_steps_210 : decode cX8_steps 210 = .ok (.iload_n 3, 1) := by decide +kernel
theorem dX8_steps_211 : decode cX8_steps 211 = .ok (.iconst 1, 1) := by decide +kernel
theorem dX8_steps_212 : decode cX8_steps 212 = .ok (.iadd, 1) := by decide +kernel
theorem dX8_steps_213 : decode cX8_steps 213 = .ok (.iastore, 1) := by decide +kernel
theorem dX8_steps_214 : decode cX8_steps 214 = .ok (.return_, 1) := by decide +kernel
theorem dX8_ran_0 : decode cX8_ran 0 = .ok (.aload_n 0, 1) := by decide +kernel
theorem dX8_ran_1 : decode cX8_ran 1 = .ok (.iload_n 1, 1) := by decide +kernel
theorem dX8_ran_2 : decode cX8_ran 2 = .ok (.invokevirtual 118, 3) := by decide +kernel
theorem dX8_ran_5 : decode cX8_ran 5 = .ok (.ifCond .eq 21, 3) := by decide +kernel
theorem dX8_ran_8 : decode cX8_ran 8 = .ok (.aload_n 0, 1) := by decide +kernel
theorem dX8_ran_9 : decode cX8_ran 9 = .ok (.getfield 60, 3) := by decide +kernel
theorem dX8_ran_12 : decode cX8_ran 12 = .ok (.iload_n 1, 1) := by decide +kernel
theorem dX8_ran_13 : decode cX8_ran 13 = .ok (.baload, 1) := by decide +kernel
theorem dX8_ran_14 : decode cX8_ran 14 = .ok (.ifCond .eq 12, 3) := by decide +kernel
theorem dX8_ran_17 : decode cX8_ran 17 = .ok (.iload_n 2, 1) := by decide +kernel
theorem dX8_ran_18 : decode cX8_ran 18 = .ok (.iconst 0, 1) := by decide +kernel
theorem dX8_ran_19 : decode cX8_ran 19 = .ok (.iconst 5, 1) := by decide +kernel
theorem dX8_ran_20 : decode cX8_ran 20 = .ok (.invokestatic 111, 3) := by decide +kernel
theorem dX8_ran_23 : decode cX8_ran 23 = .ok (.ifCond .ne 5, 3) := by decide +kernel
theorem dX8_ran_26 : decode cX8_ran 26 = .ok (.iconst (-1), 1) := by decide +kernel
theorem dX8_ran_27 : decode cX8_ran 27 = .ok (.ireturn, 1) := by decide +kernel
theorem dX8_ran_28 : decode cX8_ran 28 = .ok (.aload_n 0, 1) := by decide +kernel
theorem dX8_ran_29 : decode cX8_ran 29 = .ok (.invokevirtual 205, 3) := by decide +kernel
theorem dX8_ran_32 : decode cX8_ran 32 = .ok (.aload_n 0, 1) := by decide +kernel
theorem dX8_ran_33 : decode cX8_ran 33 = .ok (.getfield 87, 3) := by decide +kernel
theorem dX8_ran_36 : decode cX8_ran 36 = .ok (.iload_n 1, 1) := by decide +kernel
theorem dX8_ran_37 : decode cX8_ran 37 = .ok (.iaload, 1) := by decide +kernel
theorem dX8_ran_38 : decode cX8_ran 38 = .ok (.iconst (-1), 1) := by decide +kernel
theorem dX8_ran_39 : decode cX8_ran 39 = .ok (.if_icmp .ne 5, 3) := by decide +kernel
theorem dX8_ran_42 : decode cX8_ran 42 = .ok (.iconst (-1), 1) := by decide +kernel
theorem dX8_ran_43 : decode cX8_ran 43 = .ok (.ireturn, 1) := by decide +kernel
theorem dX8_ran_44 : decode cX8_ran 44 = .ok (.aload_n 0, 1) := by decide +kernel
theorem dX8_ran_45 : decode cX8_ran 45 = .ok (.getfield 87, 3) := by decide +kernel
theorem dX8_ran_48 : decode cX8_ran 48 = .ok (.iload_n 1, 1) := by decide +kernel
theorem dX8_ran_49 : decode cX8_ran 49 = .ok (.iaload, 1) := by decide +kernel
theorem dX8_ran_50 : decode cX8_ran 50 = .ok (.aload_n 0, 1) := by decide +kernel
theorem dX8_ran_51 : decode cX8_ran 51 = .ok (.getfield 63, 3) := by decide +kernel
theorem dX8_ran_54 : decode cX8_ran 54 = .ok (.bipush 8, 2) := by decide +kernel
theorem dX8_ran_56 : decode cX8_ran 56 = .ok (.iload_n 1, 1) := by decide +kernel
theorem dX8_ran_57 : decode cX8_ran 57 = .ok (.imul, 1) := by decide +kernel
theorem dX8_ran_58 : decode cX8_ran 58 = .ok (.aload_n 0, 1) := by decide +kernel
theorem dX8_ran_59 : decode cX8_ran 59 = .ok (.iload_n 1, 1) := by decide +kernel
theorem dX8_ran_60 : decode cX8_ran 60 = .ok (.invokevirtual 126, 3) := by decide +kernel
theorem dX8_ran_63 : decode cX8_ran 63 = .ok (.iadd, 1) := by decide +kernel
theorem dX8_ran_64 : decode cX8_ran 64 = .ok (.iaload, 1) := by decide +kernel
theorem dX8_ran_65 : decode cX8_ran 65 = .ok (.isub, 1) := by decide +kernel
theorem dX8_ran_66 : decode cX8_ran 66 = .ok (.istore_n 3, 1) := by decide +kernel
theorem dX8_ran_67 : decode cX8_ran 67 = .ok (.iconst 0, 1) := by decide +kernel
theorem dX8_ran_68 : decode cX8_ran 68 = .ok (.istore 4, 2) := by decide +kernel
theorem dX8_ran_70 : decode cX8_ran 70 = .ok (.iconst 0, 1) := by decide +kernel
theorem dX8_ran_71 : decode cX8_ran 71 = .ok (.istore 5, 2) := by decide +kernel
theorem dX8_ran_73 : decode cX8_ran 73 = .ok (.iload 5, 2) := by decide +kernel
theorem dX8_ran_75 : decode cX8_ran 75 = .ok (.aload_n 0, 1) := by decide +kernel
theorem dX8_ran_76 : decode cX8_ran 76 = .ok (.getfield 108, 3) := by decide +kernel
theorem dX8_ran_79 : decode cX8_ran 79 = .ok (.if_icmp .ge 26, 3) := by decide +kernel
theorem dX8_ran_82 : decode cX8_ran 82 = .ok (.iload 4, 2) := by decide +kernel
theorem dX8_ran_84 : decode cX8_ran 84 = .ok (.aload_n 0, 1) := by decide +kernel
theorem dX8_ran_85 : decode cX8_ran 85 = .ok (.getfield 102, 3) := by decide +kernel
theorem dX8_ran_88 : decode cX8_ran 88 = .ok (.bipush 16, 2) := by decide +kernel
theorem dX8_ran_90 : decode cX8_ran 90 = .ok (.iload_n 1, 1) := by decide +kernel
theorem dX8_ran_91 : decode cX8_ran 91 = .ok (.imul, 1) := by decide +kernel
theorem dX8_ran_92 : decode cX8_ran 92 = .ok (.iload 5, 2) := by decide +kernel
theorem dX8_ran_94 : decode cX8_ran 94 = .ok (.iadd, 1) := by decide +kernel
theorem dX8_ran_95 : decode cX8_ran 95 = .ok (.iaload, 1) := by decide +kernel
theorem dX8_ran_96 : decode cX8_ran 96 = .ok (.iadd, 1) := by decide +kernel
theorem dX8_ran_97 : decode cX8_ran 97 = .ok (.istore 4, 2) := by decide +kernel
theorem dX8_ran_99 : decode cX8_ran 99 = .ok (.iinc 5 1, 3) := by decide +kernel
theorem dX8_ran_102 : decode cX8_ran 102 = .ok (.goto (-29), 3) := by decide +kernel
theorem dX8_ran_105 : decode cX8_ran 105 = .ok (.iload_n 2, 1) := by decide +kernel
theorem dX8_ran_106 : decode cX8_ran 106 = .ok (.tableswitch 60 0 4 #[34, 41, 43, 50, 57], 34) := by decide +kernel
theorem dX8_ran_140 : decode cX8_ran 140 = .ok (.aload_n 0, 1) := by decide +kernel
theorem dX8_ran_141 : decode cX8_ran 141 = .ok (.getfield 87, 3) := by decide +kernel
theorem dX8_ran_144 : decode cX8_ran 144 = .ok (.iload_n 1, 1) := by decide +kernel
theorem dX8_ran_145 : decode cX8_ran 145 = .ok (.iaload, 1) := by decide +kernel
theorem dX8_ran_146 : decode cX8_ran 146 = .ok (.ireturn, 1) := by decide +kernel
theorem dX8_ran_147 : decode cX8_ran 147 = .ok (.iload_n 3, 1) := by decide +kernel
theorem dX8_ran_148 : decode cX8_ran 148 = .ok (.ireturn, 1) := by decide +kernel
