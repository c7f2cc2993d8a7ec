theorem dX10_step_116 : decode cX10_step 116 = .ok (.getfield 104, 3) := by decide +kernel
theorem dX10_step_119 : decode cX10_step 119 = .ok (.imul, 1) := by decide +kernel
theorem dX10_step_120 : decode cX10_step 120 = .ok (.aload_n 0, 1) := by decide +kernel
theorem dX10_step_121 : decode cX10_step 121 = .ok (.getfield 31, 3) := by decide +kernel
theorem dX10_step_124 : decode cX10_step 124 = .ok (.aload_n 0, 1) := by decide +kernel
theorem dX10_step_125 : decode cX10_step 125 = .ok (.getfield 104, 3) := by decide +kernel
theorem dX10_step_128 : decode cX10_step 128 = .ok (.iaload, 1) := by decide +kernel
theorem dX10_step_129 : decode cX10_step 129 = .ok (.iadd, 1) := by decide +kernel
theorem dX10_step_130 : decode cX10_step 130 = .ok (.istore 6, 2) := by decide +kernel
theorem dX10_step_132 : decode cX10_step 132 = .ok (.aload_n 0, 1) := by decide +kernel
theorem dX10_step_133 : decode cX10_step 133 = .ok (.getfield 34, 3) := by decide +kernel
theorem dX10_step_136 : decode cX10_step 136 = .ok (.iload 6, 2) := by decide +kernel
theorem dX10_step_138 : decode cX10_step 138 = .ok (.iload 5, 2) := by decide +kernel
theorem dX10_step_140 : decode cX10_step 140 = .ok (.iastore, 1) := by decide +kernel
theorem dX10_step_141 : decode cX10_step 141 = .ok (.aload_n 0, 1) := by decide +kernel
theorem dX10_step_142 : decode cX10_step 142 = .ok (.getfield 37, 3) := by decide +kernel
theorem dX10_step_145 : decode cX10_step 145 = .ok (.iload 6, 2) := by decide +kernel
theorem dX10_step_147 : decode cX10_step 147 = .ok (.iload 5, 2) := by decide +kernel
theorem dX10_step_149 : decode cX10_step 149 = .ok (.iastore, 1) := by decide +kernel
theorem dX10_step_150 : decode cX10_step 150 = .ok (.aload_n 0, 1) := by decide +kernel
theorem dX10_step_151 : decode cX10_step 151 = .ok (.getfield 40, 3) := by decide +kernel
theorem dX10_step_154 : decode cX10_step 154 = .ok (.iload 6, 2) := by decide +kernel
theorem dX10_step_156 : decode cX10_step 156 = .ok (.iconst 0, 1) := by decide +kernel
theorem dX10_step_157 : decode cX10_step 157 = .ok (.iastore, 1) := by decide +kernel
theorem dX10_step_158 : decode cX10_step 158 = .ok (.aload_n 0, 1) := by decide +kernel
theorem dX10_step_159 : decode cX10_step 159 = .ok (.getfield 31, 3) := by decide +kernel
theorem dX10_step_162 : decode cX10_step 162 = .ok (.aload_n 0, 1) := by decide +kernel
theorem dX10_step_163 : decode cX10_step 163 = .ok (.getfield 104, 3) := by decide +kernel
theorem dX10_step_166 : decode cX10_step 166 = .ok (.dup2, 1) := by decide +kernel
theorem dX10_step_167 : decode cX10_step 167 = .ok (.iaload, 1) := by decide +kernel
theorem dX10_step_168 : decode cX10_step 168 = .ok (.iconst 1, 1) := by decide +kernel
theorem dX10_step_169 : decode cX10_step 169 = .ok (.iadd, 1) := by decide +kernel
theorem dX10_step_170 : decode cX10_step 170 = .ok (.iastore, 1) := by decide +kernel
theorem dX10_step_171 : decode cX10_step 171 = .ok (.goto 112, 3) := by decide +kernel
theorem dX10_step_174 : decode cX10_step 174 = .ok (.iload_n 1, 1) := by decide +kernel
theorem dX10_step_175 : decode cX10_step 175 = .ok (.iconst 2, 1) := by decide +kernel
theorem dX10_step_176 : decode cX10_step 176 = .ok (.if_icmp .eq 12, 3) := by decide +kernel
theorem dX10_step_179 : decode cX10_step 179 = .ok (.iload_n 1, 1) := by decide +kernel
theorem dX10_step_180 : decode cX10_step 180 = .ok (.iconst 3, 1) := by decide +kernel
theorem dX10_step_181 : decode cX10_step 181 = .ok (.if_icmp .eq 7, 3) := by decide +kernel
theorem dX10_step_184 : decode cX10_step 184 = .ok (.iload_n 1, 1) := by decide +kernel
theorem dX10_step_185 : decode cX10_step 185 = .ok (.ifCond .ne 98, 3) := by decide +kernel
theorem dX10_step_188 : decode cX10_step 188 = .ok (.bipush 6, 2) := by decide +kernel
theorem dX10_step_190 : decode cX10_step 190 = .ok (.aload_n 0, 1) := by decide +kernel
theorem dX10_step_191 : decode cX10_step 191 = .ok (.getfield 104, 3) := by decide +kernel
theorem dX10_step_194 : decode cX10_step 194 = .ok (.imul, 1) := by decide +kernel
theorem dX10_step_195 : decode cX10_step 195 = .ok (.aload_n 0, 1) := by decide +kernel
theorem dX10_step_196 : decode cX10_step 196 = .ok (.getfield 31, 3) := by decide +kernel
theorem dX10_step_199 : decode cX10_step 199 = .ok (.aload_n 0, 1) := by decide +kernel
theorem dX10_step_200 : decode cX10_step 200 = .ok (.getfield 104, 3) := by decide +kernel
theorem dX10_step_203 : decode cX10_step 203 = .ok (.iaload, 1) := by decide +kernel
theorem dX10_step_204 : decode cX10_step 204 = .ok (.iadd, 1) := by decide +kernel
theorem dX10_step_205 : decode cX10_step 205 = .ok (.iconst 1, 1) := by decide +kernel
theorem dX10_step_206 : decode cX10_step 206 = .ok (.isub, 1) := by decide +kernel
theorem dX10_step_207 : decode cX10_step 207 = .ok (.istore 6, 2) := by decide +kernel
theorem dX10_step_209 : decode cX10_step 209 = .ok (.aload_n 0, 1) := by decide +kernel
theorem dX10_step_210 : decode cX10_step 210 = .ok (.getfield 25, 3) := by decide +kernel
theorem dX10_step_213 : decode cX10_step 213 = .ok (.aload_n 0, 1) := by decide +kernel
theorem dX10_step_214 : decode cX10_step 214 = .ok (.getfield 37, 3) := by decide +kernel
theorem dX10_step_217 : decode cX10_step 217 = .ok (.iload 6, 2) := by decide +kernel
theorem dX10_step_219 : decode cX10_step 219 = .ok (.iaload, 1) := by decide +kernel
theorem dX10_step_220 : decode cX10_step 220 = .ok (.iload 5, 2) := by decide +kernel
theorem dX10_step_222 : decode cX10_step 222 = .ok (.iastore, 1) := by decide +kernel
theorem dX10_step_223 : decode cX10_step 223 = .ok (.aload_n 0, 1) := by decide +kernel
theorem dX10_step_224 : decode cX10_step 224 = .ok (.getfield 37, 3) := by decide +kernel
theorem dX10_step_227 : decode cX10_step 227 = .ok (.iload 6, 2) := by decide +kernel
theorem dX10_step_229 : decode cX10_step 229 = .ok (.iload 5, 2) := by decide +kernel
theorem dX10_step_231 : decode cX10_step 231 = .ok (.iastore, 1) := by decide +kernel
theorem dX10_step_232 : decode cX10_step 232 = .ok (.aload_n 0, 1) := by decide +kernel
theorem dX10_step_233 : decode cX10_step 233 = .ok (.getfield 40, 3) := by decide +kernel
theorem dX10_step_236 : decode cX10_step 236 = .ok (.iload 6, 2) := by decide +kernel
theorem dX10_step_238 : decode cX10_step 238 = .ok (.dup2, 1) := by decide +kernel
theorem dX10_step_239 : decode cX10_step 239 = .ok (.iaload, 1) := by decide +kernel
theorem dX10_step_240 : decode cX10_step 240 = .ok (.iload_n 1, 1) := by decide +kernel
theorem dX10_step_241 : decode cX10_step 241 = .ok (.iconst 2, 1) := by decide +kernel
theorem dX10_step_242 : decode cX10_step 242 = .ok (.if_icmp .ne 7, 3) := by decide +kernel
theorem dX10_step_245 : decode cX10_step 245 = .ok (.iconst 1, 1) := by decide +kernel
theorem dX10_step_246 : decode cX10_step 246 = .ok (.goto 4, 3) := by decide +kernel
theorem dX10_step_249 : decode cX10_step 249 = .ok (.iconst 0, 1) := by decide +kernel
theorem dX10_step_250 : decode cX10_step 250 = .ok (.iadd, 1) := by decide +kernel
theorem dX10_step_251 : decode cX10_step 251 = .ok (.iastore, 1) := by decide +kernel
theorem dX10_step_252 : decode cX10_step 252 = .ok (.iload_n 1, 1) := by decide +kernel
theorem dX10_step_253 : decode cX10_step 253 = .ok (.ifCond .ne 30, 3) := by decide +kernel
theorem dX10_step_256 : decode cX10_step 256 = .ok (.aload_n 0, 1) := by decide +kernel
theorem dX10_step_257 : decode cX10_step 257 = .ok (.getfield 22, 3) := by decide +kernel
theorem dX10_step_260 : decode cX10_step 260 = .ok (.aload_n 0, 1) := by decide +kernel
theorem dX10_step_261 : decode cX10_step 261 = .ok (.getfield 34, 3) := by decide +kernel
theorem dX10_step_264 : decode cX10_step 264 = .ok (.iload 6, 2) := by decide +kernel
theorem dX10_step_266 : decode cX10_step 266 = .ok (.iaload, 1) := by decide +kernel
theorem dX10_step_267 : decode cX10_step 267 = .ok (.iload 5, 2) := by decide +kernel
theorem dX10_step_269 : decode cX10_step 269 = .ok (.iastore, 1) := by decide +kernel
theorem dX10_step_270 : decode cX10_step 270 = .ok (.aload_n 0, 1) := by decide +kernel
theorem dX10_step_271 : decode cX10_step 271 = .ok (.getfield 31, 3) := by decide +kernel
theorem dX10_step_274 : decode cX10_step 274 = .ok (.aload_n 0, 1) := by decide +kernel
theorem dX10_step_275 : decode cX10_step 275 = .ok (.getfield 104, 3) := by decide +kernel
theorem dX10_step_278 : decode cX10_step 278 = .ok (.dup2, 1) := by decide +kernel
theorem dX10_step_279 : decode cX10_step 279 = .ok (.iaload, 1) := by decide +kernel
theorem dX10_step_280 : decode cX10_step 280 = .ok (.iconst 1, 1) := by decide +kernel
theorem dX10_step_281 : decode cX10_step 281 = .ok (.isub, 1) := by decide +kernel
theorem dX10_step_282 : decode cX10_step 282 = .ok (.iastore, 1) := by decide +kernel
theorem dX10_step_283 : decode cX10_step 283 = .ok (.aload_n 0, 1) := by decide +kernel
theorem dX10_step_284 : decode cX10_step 284 = .ok (.getfield 28, 3) := by decide +kernel
theorem dX10_step_287 : decode cX10_step 287 = .ok (.aload_n 0, 1) := by decide +kernel
theorem dX10_step_288 : decode cX10_step 288 = .ok (.getfield 104, 3) := by decide +kernel
theorem dX10_step_291 : decode cX10_step 291 = .ok (.iaload, 1) := by decide +kernel
theorem dX10_step_292 : decode cX10_step 292 = .ok (.ireturn, 1) := by decide +kernel
theorem dX10_clear_0 : decode cX10_clear 0 = .ok (.aload_n 0, 1) := by decide +kernel
theorem dX10_clear_1 : decode cX10_clear 1 = .ok (.getfield 28, 3) := by decide +kernel
theorem dX10_clear_4 : decode cX10_clear 4 = .ok (.aload_n 0, 1) := by decide +kernel
theorem dX10_clear_5 : decode cX10_clear 5 = .ok (.getfield 104, 3) := by decide +kernel
theorem dX10_clear_8 : decode cX10_clear 8 = .ok (.iaload, 1) := by decide +kernel
theorem dX10_clear_9 : decode cX10_clear 9 = .ok (.istore_n 1, 1) := by decide +kernel
theorem dX10_clear_10 : decode cX10_clear 10 = .ok (.aload_n 0, 1) := by decide +kernel
theorem dX10_clear_11 : decode cX10_clear 11 = .ok (.getfield 28, 3) := by decide +kernel
theorem dX10_clear_14 : decode cX10_clear 14 = .ok (.aload_n 0, 1) := by decide +kernel
theorem dX10_clear_15 : decode cX10_clear 15 = .ok (.getfield 104, 3) := by decide +kernel
theorem dX10_clear_18 : decode cX10_clear 18 = .ok (.iconst 0, 1) := by decide +kernel
theorem dX10_clear_19 : decode cX10_clear 19 = .ok (.iastore, 1) := by decide +kernel
theorem dX10_clear_20 : decode cX10_clear 20 = .ok (.aload_n 0, 1) := by decide +kernel
theorem dX10_clear_21 : decode cX10_clear 21 = .ok (.getfield 31, 3) := by decide +kernel
theorem dX10_clear_24 : decode cX10_clear 24 = .ok (.aload_n 0, 1) := by decide +kernel
theorem dX10_clear_25 : decode cX10_clear 25 = .ok (.getfield 104, 3) := by decide +kernel
theorem dX10_clear_28 : decode cX10_clear 28 = .ok (.iconst 0, 1) := by decide +kernel
theorem dX10_clear_29 : decode cX10_clear 29 = .ok (.iastore, 1) := by decide +kernel
theorem dX10_clear_30 : decode cX10_clear 30 = .ok (.iload_n 1, 1) := by decide +kernel
theorem dX10_clear_31 : decode cX10_clear 31 = .ok (.ireturn, 1) := by decide +kernel
theorem dX10_isUnder_0 : decode cX10_isUnder 0 = .ok (.iload_n 1, 1) := by decide +kernel
theorem dX10_isUnder_1 : decode cX10_isUnder 1 = .ok (.istore_n 3, 1) := by decide +kernel
theorem dX10_isUnder_2 : decode cX10_isUnder 2 = .ok (.iconst 0, 1) := by decide +kernel
theorem dX10_isUnder_3 : decode cX10_isUnder 3 = .ok (.istore 4, 2) := by decide +kernel
theorem dX10_isUnder_5 : decode cX10_isUnder 5 = .ok (.iload 4, 2) := by decide +kernel
theorem dX10_isUnder_7 : decode cX10_isUnder 7 = .ok (.iconst 4, 1) := by decide +kernel
theorem dX10_isUnder_8 : decode cX10_isUnder 8 = .ok (.if_icmp .ge 27, 3) := by decide +kernel
theorem dX10_isUnder_11 : decode cX10_isUnder 11 = .ok (.iload_n 3, 1) := by decide +kernel
theorem dX10_isUnder_12 : decode cX10_isUnder 12 = .ok (.ifCond .le 23, 3) := by decide +kernel
theorem dX10_isUnder_15 : decode cX10_isUnder 15 = .ok (.iload_n 3, 1) := by decide +kernel
theorem dX10_isUnder_16 : decode cX10_isUnder 16 = .ok (.iload_n 2, 1) := by decide +kernel
theorem dX10_isUnder_17 : decode cX10_isUnder 17 = .ok (.if_icmp .ne 5, 3) := by decide +kernel
theorem dX10_isUnder_20 : decode cX10_isUnder 20 = .ok (.iconst 1, 1) := by decide +kernel
theorem dX10_isUnder_21 : decode cX10_isUnder 21 = .ok (.ireturn, 1) := by decide +kernel
theorem dX10_isUnder_22 : decode cX10_isUnder 22 = .ok (.aload_n 0, 1) := by decide +kernel
theorem dX10_isUnder_23 : decode cX10_isUnder 23 = .ok (.getfield 97, 3) := by decide +kernel
theorem dX10_isUnder_26 : decode cX10_isUnder 26 = .ok (.iload_n 3, 1) := by decide +kernel
theorem dX10_isUnder_27 : decode cX10_isUnder 27 = .ok (.iaload, 1) := by decide +kernel
theorem dX10_isUnder_28 : decode cX10_isUnder 28 = .ok (.istore_n 3, 1) := by decide +kernel
theorem dX10_isUnder_29 : decode cX10_isUnder 29 = .ok (.iinc 4 1, 3) := by decide +kernel
theorem dX10_isUnder_32 : decode cX10_isUnder 32 = .ok (.goto (-27), 3) := by decide +kernel
theorem dX10_isUnder_35 : decode cX10_isUnder 35 = .ok (.iconst 0, 1) := by decide +kernel
theorem dX10_isUnder_36 : decode cX10_isUnder 36 = .ok (.ireturn, 1) := by decide +kernel
theorem dX10_throwNew_0 : decode cX10_throwNew 0 = .ok (.aload_n 0, 1) := by decide +kernel
theorem dX10_throwNew_1 : decode cX10_throwNew 1 = .ok (.getfield 60, 3) := by decide +kernel
theorem dX10_throwNew_4 : decode cX10_throwNew 4 = .ok (.aload_n 0, 1) := by decide +kernel
theorem dX10_throwNew_5 : decode cX10_throwNew 5 = .ok (.getfield 132, 3) := by decide +kernel
theorem dX10_throwNew_8 : decode cX10_throwNew 8 = .ok (.iload_n 1, 1) := by decide +kernel
theorem dX10_throwNew_9 : decode cX10_throwNew 9 = .ok (.iastore, 1) := by decide +kernel
theorem dX10_throwNew_10 : decode cX10_throwNew 10 = .ok (.aload_n 0, 1) := by decide +kernel
theorem dX10_throwNew_11 : decode cX10_throwNew 11 = .ok (.getfield 63, 3) := by decide +kernel
theorem dX10_throwNew_14 : decode cX10_throwNew 14 = .ok (.aload_n 0, 1) := by decide +kernel
theorem dX10_throwNew_15 : decode cX10_throwNew 15 = .ok (.getfield 132, 3) := by decide +kernel
theorem dX10_throwNew_18 : decode cX10_throwNew 18 = .ok (.iload_n 2, 1) := by decide +kernel
theorem dX10_throwNew_19 : decode cX10_throwNew 19 = .ok (.iastore, 1) := by decide +kernel
theorem dX10_throwNew_20 : decode cX10_throwNew 20 = .ok (.aload_n 0, 1) := by decide +kernel
theorem dX10_throwNew_21 : decode cX10_throwNew 21 = .ok (.getfield 66, 3) := by decide +kernel
theorem dX10_throwNew_24 : decode cX10_throwNew 24 = .ok (.aload_n 0, 1) := by decide +kernel
theorem dX10_throwNew_25 : decode cX10_throwNew 25 = .ok (.getfield 132, 3) := by decide +kernel
theorem dX10_throwNew_28 : decode cX10_throwNew 28 = .ok (.iload_n 3, 1) := by decide +kernel
theorem dX10_throwNew_29 : decode cX10_throwNew 29 = .ok (.iastore, 1) := by decide +kernel
theorem dX10_throwNew_30 : decode cX10_throwNew 30 = .ok (.aload_n 0, 1) := by decide +kernel
theorem dX10_throwNew_31 : decode cX10_throwNew 31 = .ok (.getfield 69, 3) := by decide +kernel
theorem dX10_throwNew_34 : decode cX10_throwNew 34 = .ok (.aload_n 0, 1) := by decide +kernel
theorem dX10_throwNew_35 : decode cX10_throwNew 35 = .ok (.getfield 132, 3) := by decide +kernel
theorem dX10_throwNew_38 : decode cX10_throwNew 38 = .ok (.iload 4, 2) := by decide +kernel
theorem dX10_throwNew_40 : decode cX10_throwNew 40 = .ok (.iastore, 1) := by decide +kernel
theorem dX10_throwNew_41 : decode cX10_throwNew 41 = .ok (.aload_n 0, 1) := by decide +kernel
theorem dX10_throwNew_42 : decode cX10_throwNew 42 = .ok (.getfield 72, 3) := by decide +kernel
theorem dX10_throwNew_45 : decode cX10_throwNew 45 = .ok (.aload_n 0, 1) := by decide +kernel
theorem dX10_throwNew_46 : decode cX10_throwNew 46 = .ok (.getfield 132, 3) := by decide +kernel
theorem dX10_throwNew_49 : decode cX10_throwNew 49 = .ok (.iload 4, 2) := by decide +kernel
theorem dX10_throwNew_51 : decode cX10_throwNew 51 = .ok (.ifCond .ge 7, 3) := by decide +kernel
theorem dX10_throwNew_54 : decode cX10_throwNew 54 = .ok (.iconst 0, 1) := by decide +kernel
theorem dX10_throwNew_55 : decode cX10_throwNew 55 = .ok (.goto 12, 3) := by decide +kernel
theorem dX10_throwNew_58 : decode cX10_throwNew 58 = .ok (.aload_n 0, 1) := by decide +kernel
theorem dX10_throwNew_59 : decode cX10_throwNew 59 = .ok (.getfield 72, 3) := by decide +kernel
theorem dX10_throwNew_62 : decode cX10_throwNew 62 = .ok (.iload 4, 2) := by decide +kernel
theorem dX10_throwNew_64 : decode cX10_throwNew 64 = .ok (.iaload, 1) := by decide +kernel
theorem dX10_throwNew_65 : decode cX10_throwNew 65 = .ok (.iconst 1, 1) := by decide +kernel
theorem dX10_throwNew_66 : decode cX10_throwNew 66 = .ok (.iadd, 1) := by decide +kernel
theorem dX10_throwNew_67 : decode cX10_throwNew 67 = .ok (.iastore, 1) := by decide +kernel
theorem dX10_throwNew_68 : decode cX10_throwNew 68 = .ok (.aload_n 0, 1) := by decide +kernel
theorem dX10_throwNew_69 : decode cX10_throwNew 69 = .ok (.aload_n 0, 1) := by decide +kernel
theorem dX10_throwNew_70 : decode cX10_throwNew 70 = .ok (.getfield 132, 3) := by decide +kernel
theorem dX10_throwNew_73 : decode cX10_throwNew 73 = .ok (.putfield 135, 3) := by decide +kernel
theorem dX10_throwNew_76 : decode cX10_throwNew 76 = .ok (.aload_n 0, 1) := by decide +kernel
theorem dX10_throwNew_77 : decode cX10_throwNew 77 = .ok (.iconst 3, 1) := by decide +kernel
theorem dX10_throwNew_78 : decode cX10_throwNew 78 = .ok (.putfield 138, 3) := by decide +kernel
theorem dX10_throwNew_81 : decode cX10_throwNew 81 = .ok (.aload_n 0, 1) := by decide +kernel
theorem dX10_throwNew_82 : decode cX10_throwNew 82 = .ok (.dup, 1) := by decide +kernel
theorem dX10_throwNew_83 : decode cX10_throwNew 83 = .ok (.getfield 132, 3) := by decide +kernel
theorem dX10_throwNew_86 : decode cX10_throwNew 86 = .ok (.iconst 1, 1) := by decide +kernel
theorem dX10_throwNew_87 : decode cX10_throwNew 87 = .ok (.iadd, 1) := by decide +kernel
theorem dX10_throwNew_88 : decode cX10_throwNew 88 = .ok (.putfield 132, 3) := by decide +kernel
theorem dX10_throwNew_91 : decode cX10_throwNew 91 = .ok (.return_, 1) := by decide +kernel
theorem dX10_fail_0 : decode cX10_fail 0 = .ok (.aload_n 0, 1) := by decide +kernel
theorem dX10_fail_1 : decode cX10_fail 1 = .ok (.iload_n 1, 1) := by decide +kernel
theorem dX10_fail_2 : decode cX10_fail 2 = .ok (.aload_n 0, 1) := by decide +kernel
theorem dX10_fail_3 : decode cX10_fail 3 = .ok (.getfield 141, 3) := by decide +kernel
theorem dX10_fail_6 : decode cX10_fail 6 = .ok (.iconst 0, 1) := by decide +kernel
theorem dX10_fail_7 : decode cX10_fail 7 = .ok (.iconst (-1), 1) := by decide +kernel
theorem dX10_fail_8 : decode cX10_fail 8 = .ok (.invokevirtual 144, 3) := by decide +kernel
theorem dX10_fail_11 : decode cX10_fail 11 = .ok (.return_, 1) := by decide +kernel
theorem dX10_weighed_0 : decode cX10_weighed 0 = .ok (.iload_n 0, 1) := by decide +kernel
theorem dX10_weighed_1 : decode cX10_weighed 1 = .ok (.tableswitch 80 3 11 #[51, 80, 56, 80, 60, 65, 70, 80, 74], 51) := by decide +kernel
theorem dX10_weighed_52 : decode cX10_weighed 52 = .ok (.iload_n 1, 1) := by decide +kernel
theorem dX10_weighed_53 : decode cX10_weighed 53 = .ok (.bipush 10, 2) := by decide +kernel
theorem dX10_weighed_55 : decode cX10_weighed 55 = .ok (.iadd, 1) := by decide +kernel
theorem dX10_weighed_56 : decode cX10_weighed 56 = .ok (.ireturn, 1) := by decide +kernel
theorem dX10_weighed_57 : decode cX10_weighed 57 = .ok (.iconst 3, 1) := by decide +kernel
theorem dX10_weighed_58 : decode cX10_weighed 58 = .ok (.iload_n 1, 1) := by decide +kernel
theorem dX10_weighed_59 : decode cX10_weighed 59 = .ok (.imul, 1) := by decide +kernel
theorem dX10_weighed_60 : decode cX10_weighed 60 = .ok (.ireturn, 1) := by decide +kernel
theorem dX10_weighed_61 : decode cX10_weighed 61 = .ok (.iload_n 1, 1) := by decide +kernel
theorem dX10_weighed_62 : decode cX10_weighed 62 = .ok (.bipush 100, 2) := by decide +kernel
theorem dX10_weighed_64 : decode cX10_weighed 64 = .ok (.iadd, 1) := by decide +kernel
theorem dX10_weighed_65 : decode cX10_weighed 65 = .ok (.ireturn, 1) := by decide +kernel
theorem dX10_weighed_66 : decode cX10_weighed 66 = .ok (.iload_n 1, 1) := by decide +kernel
theorem dX10_weighed_67 : decode cX10_weighed 67 = .ok (.bipush 105, 2) := by decide +kernel
theorem dX10_weighed_69 : decode cX10_weighed 69 = .ok (.iadd, 1) := by decide +kernel
theorem dX10_weighed_70 : decode cX10_weighed 70 = .ok (.ireturn, 1) := by decide +kernel
theorem dX10_weighed_71 : decode cX10_weighed 71 = .ok (.iload_n 1, 1) := by decide +kernel
theorem dX10_weighed_72 : decode cX10_weighed 72 = .ok (.iload_n 2, 1) := by decide +kernel
theorem dX10_weighed_73 : decode cX10_weighed 73 = .ok (.iadd, 1) := by decide +kernel
theorem dX10_weighed_74 : decode cX10_weighed 74 = .ok (.ireturn, 1) := by decide +kernel
theorem dX10_weighed_75 : decode cX10_weighed 75 = .ok (.iconst 2, 1) := by decide +kernel
theorem dX10_weighed_76 : decode cX10_weighed 76 = .ok (.iload_n 1, 1) := by decide +kernel
theorem dX10_weighed_77 : decode cX10_weighed 77 = .ok (.iload_n 2, 1) := by decide +kernel
theorem dX10_weighed_78 : decode cX10_weighed 78 = .ok (.iadd, 1) := by decide +kernel
theorem dX10_weighed_79 : decode cX10_weighed 79 = .ok (.imul, 1) := by decide +kernel
theorem dX10_weighed_80 : decode cX10_weighed 80 = .ok (.ireturn, 1) := by decide +kernel
theorem dX10_weighed_81 : decode cX10_weighed 81 = .ok (.iload_n 1, 1) := by decide +kernel
theorem dX10_weighed_82 : decode cX10_weighed 82 = .ok (.ireturn, 1) := by decide +kernel
theorem dX10_below_0 : decode cX10_below 0 = .ok (.iload_n 1, 1) := by decide +kernel
theorem dX10_below_1 : decode cX10_below 1 = .ok (.istore_n 3, 1) := by decide +kernel
theorem dX10_below_2 : decode cX10_below 2 = .ok (.iconst 0, 1) := by decide +kernel
theorem dX10_below_3 : decode cX10_below 3 = .ok (.istore 4, 2) := by decide +kernel
theorem dX10_below_5 : decode cX10_below 5 = .ok (.iload 4, 2) := by decide +kernel
theorem dX10_below_7 : decode cX10_below 7 = .ok (.iload_n 2, 1) := by decide +kernel
theorem dX10_below_8 : decode cX10_below 8 = .ok (.if_icmp .ge 16, 3) := by decide +kernel
theorem dX10_below_11 : decode cX10_below 11 = .ok (.aload_n 0, 1) := by decide +kernel
theorem dX10_below_12 : decode cX10_below 12 = .ok (.getfield 69, 3) := by decide +kernel
theorem dX10_below_15 : decode cX10_below 15 = .ok (.iload_n 3, 1) := by decide +kernel
theorem dX10_below_16 : decode cX10_below 16 = .ok (.iaload, 1) := by decide +kernel
theorem dX10_below_17 : decode cX10_below 17 = .ok (.istore_n 3, 1) := by decide +kernel
theorem dX10_below_18 : decode cX10_below 18 = .ok (.iinc 4 1, 3) := by decide +kernel
theorem dX10_below_21 : decode cX10_below 21 = .ok (.goto (-16), 3) := by decide +kernel
theorem dX10_below_24 : decode cX10_below 24 = .ok (.iload_n 3, 1) := by decide +kernel
theorem dX10_below_25 : decode cX10_below 25 = .ok (.ireturn, 1) := by decide +kernel
theorem dX10_weight_0 : decode cX10_weight 0 = .ok (.iconst 0, 1) := by decide +kernel
theorem dX10_weight_1 : decode cX10_weight 1 = .ok (.istore_n 2, 1) := by decide +kernel
theorem dX10_weight_2 : decode cX10_weight 2 = .ok (.aload_n 0, 1) := by decide +kernel
theorem dX10_weight_3 : decode cX10_weight 3 = .ok (.getfield 72, 3) := by decide +kernel
theorem dX10_weight_6 : decode cX10_weight 6 = .ok (.iload_n 1, 1) := by decide +kernel
theorem dX10_weight_7 : decode cX10_weight 7 = .ok (.iaload, 1) := by decide +kernel
theorem dX10_weight_8 : decode cX10_weight 8 = .ok (.istore_n 3, 1) := by decide +kernel
theorem dX10_weight_9 : decode cX10_weight 9 = .ok (.iload_n 3, 1) := by decide +kernel
theorem dX10_weight_10 : decode cX10_weight 10 = .ok (.ifCond .lt 38, 3) := by decide +kernel
theorem dX10_weight_13 : decode cX10_weight 13 = .ok (.aload_n 0, 1) := by decide +kernel
theorem dX10_weight_14 : decode cX10_weight 14 = .ok (.iload_n 1, 1) := by decide +kernel
theorem dX10_weight_15 : decode cX10_weight 15 = .ok (.iload_n 3, 1) := by decide +kernel
theorem dX10_weight_16 : decode cX10_weight 16 = .ok (.invokevirtual 148, 3) := by decide +kernel
theorem dX10_weight_19 : decode cX10_weight 19 = .ok (.istore 4, 2) := by decide +kernel
theorem dX10_weight_21 : decode cX10_weight 21 = .ok (.aload_n 0, 1) := by decide +kernel
theorem dX10_weight_22 : decode cX10_weight 22 = .ok (.getfield 60, 3) := by decide +kernel
theorem dX10_weight_25 : decode cX10_weight 25 = .ok (.iload 4, 2) := by decide +kernel
theorem dX10_weight_27 : decode cX10_weight 27 = .ok (.iaload, 1) := by decide +kernel
theorem dX10_weight_28 : decode cX10_weight 28 = .ok (.iconst 1, 1) := by decide +kernel
theorem dX10_weight_29 : decode cX10_weight 29 = .ok (.iload_n 2, 1) := by decide +kernel
theorem dX10_weight_30 : decode cX10_weight 30 = .ok (.iadd, 1) := by decide +kernel
theorem dX10_weight_31 : decode cX10_weight 31 = .ok (.aload_n 0, 1) := by decide +kernel
theorem dX10_weight_32 : decode cX10_weight 32 = .ok (.getfield 66, 3) := by decide +kernel
theorem dX10_weight_35 : decode cX10_weight 35 = .ok (.iload 4, 2) := by decide +kernel
theorem dX10_weight_37 : decode cX10_weight 37 = .ok (.iaload, 1) := by decide +kernel
theorem dX10_weight_38 : decode cX10_weight 38 = .ok (.invokestatic 152, 3) := by decide +kernel
theorem dX10_weight_41 : decode cX10_weight 41 = .ok (.istore_n 2, 1) := by decide +kernel
theorem dX10_weight_42 : decode cX10_weight 42 = .ok (.iinc 3 (-1), 3) := by decide +kernel
theorem dX10_weight_45 : decode cX10_weight 45 = .ok (.goto (-36), 3) := by decide +kernel
theorem dX10_weight_48 : decode cX10_weight 48 = .ok (.iload_n 2, 1) := by decide +kernel
theorem dX10_weight_49 : decode cX10_weight 49 = .ok (.ireturn, 1) := by decide +kernel
theorem dX10_push_0 : decode cX10_push 0 = .ok (.aload_n 0, 1) := by decide +kernel
theorem dX10_push_1 : decode cX10_push 1 = .ok (.getfield 79, 3) := by decide +kernel
theorem dX10_push_4 : decode cX10_push 4 = .ok (.aload_n 0, 1) := by decide +kernel
theorem dX10_push_5 : decode cX10_push 5 = .ok (.getfield 156, 3) := by decide +kernel
theorem dX10_push_8 : decode cX10_push 8 = .ok (.iload_n 1, 1) := by decide +kernel
theorem dX10_push_9 : decode cX10_push 9 = .ok (.iastore, 1) := by decide +kernel
theorem dX10_push_10 : decode cX10_push 10 = .ok (.aload_n 0, 1) := by decide +kernel
theorem dX10_push_11 : decode cX10_push 11 = .ok (.getfield 82, 3) := by decide +kernel
theorem dX10_push_14 : decode cX10_push 14 = .ok (.aload_n 0, 1) := by decide +kernel
theorem dX10_push_15 : decode cX10_push 15 = .ok (.getfield 156, 3) := by decide +kernel
theorem dX10_push_18 : decode cX10_push 18 = .ok (.iload_n 2, 1) := by decide +kernel
theorem dX10_push_19 : decode cX10_push 19 = .ok (.iastore, 1) := by decide +kernel
theorem dX10_push_20 : decode cX10_push 20 = .ok (.aload_n 0, 1) := by decide +kernel
theorem dX10_push_21 : decode cX10_push 21 = .ok (.getfield 85, 3) := by decide +kernel
theorem dX10_push_24 : decode cX10_push 24 = .ok (.aload_n 0, 1) := by decide +kernel
theorem dX10_push_25 : decode cX10_push 25 = .ok (.getfield 156, 3) := by decide +kernel
theorem dX10_push_28 : decode cX10_push 28 = .ok (.iload_n 3, 1) := by decide +kernel
theorem dX10_push_29 : decode cX10_push 29 = .ok (.iastore, 1) := by decide +kernel
theorem dX10_push_30 : decode cX10_push 30 = .ok (.aload_n 0, 1) := by decide +kernel
theorem dX10_push_31 : decode cX10_push 31 = .ok (.getfield 88, 3) := by decide +kernel
theorem dX10_push_34 : decode cX10_push 34 = .ok (.aload_n 0, 1) := by decide +kernel
theorem dX10_push_35 : decode cX10_push 35 = .ok (.getfield 156, 3) := by decide +kernel
theorem dX10_push_38 : decode cX10_push 38 = .ok (.iconst (-1), 1) := by decide +kernel
theorem dX10_push_39 : decode cX10_push 39 = .ok (.iastore, 1) := by decide +kernel
theorem dX10_push_40 : decode cX10_push 40 = .ok (.aload_n 0, 1) := by decide +kernel
theorem dX10_push_41 : decode cX10_push 41 = .ok (.getfield 91, 3) := by decide +kernel
theorem dX10_push_44 : decode cX10_push 44 = .ok (.aload_n 0, 1) := by decide +kernel
theorem dX10_push_45 : decode cX10_push 45 = .ok (.getfield 156, 3) := by decide +kernel
theorem dX10_push_48 : decode cX10_push 48 = .ok (.iconst 0, 1) := by decide +kernel
theorem dX10_push_49 : decode cX10_push 49 = .ok (.iastore, 1) := by decide +kernel
theorem dX10_push_50 : decode cX10_push 50 = .ok (.aload_n 0, 1) := by decide +kernel
theorem dX10_push_51 : decode cX10_push 51 = .ok (.dup, 1) := by decide +kernel
theorem dX10_push_52 : decode cX10_push 52 = .ok (.getfield 156, 3) := by decide +kernel
theorem dX10_push_55 : decode cX10_push 55 = .ok (.iconst 1, 1) := by decide +kernel
theorem dX10_push_56 : decode cX10_push 56 = .ok (.iadd, 1) := by decide +kernel
theorem dX10_push_57 : decode cX10_push 57 = .ok (.putfield 156, 3) := by decide +kernel
theorem dX10_push_60 : decode cX10_push 60 = .ok (.return_, 1) := by decide +kernel
theorem dX10_begin_0 : decode cX10_begin 0 = .ok (.aload_n 0, 1) := by decide +kernel
theorem dX10_begin_1 : decode cX10_begin 1 = .ok (.iconst 0, 1) := by decide +kernel
theorem dX10_begin_2 : decode cX10_begin 2 = .ok (.iload_n 1, 1) := by decide +kernel
theorem dX10_begin_3 : decode cX10_begin 3 = .ok (.iload_n 2, 1) := by decide +kernel
theorem dX10_begin_4 : decode cX10_begin 4 = .ok (.invokevirtual 159, 3) := by decide +kernel
theorem dX10_begin_7 : decode cX10_begin 7 = .ok (.aload_n 0, 1) := by decide +kernel
theorem dX10_begin_8 : decode cX10_begin 8 = .ok (.bipush 40, 2) := by decide +kernel
theorem dX10_begin_10 : decode cX10_begin 10 = .ok (.iload_n 1, 1) := by decide +kernel
theorem dX10_begin_11 : decode cX10_begin 11 = .ok (.imul, 1) := by decide +kernel
theorem dX10_begin_12 : decode cX10_begin 12 = .ok (.putfield 141, 3) := by decide +kernel
theorem dX10_begin_15 : decode cX10_begin 15 = .ok (.return_, 1) := by decide +kernel
theorem dX10_over_0 : decode cX10_over 0 = .ok (.aload_n 0, 1) := by decide +kernel
theorem dX10_over_1 : decode cX10_over 1 = .ok (.dup, 1) := by decide +kernel
theorem dX10_over_2 : decode cX10_over 2 = .ok (.getfield 156, 3) := by decide +kernel
theorem dX10_over_5 : decode cX10_over 5 = .ok (.iconst 1, 1) := by decide +kernel
theorem dX10_over_6 : decode cX10_over 6 = .ok (.isub, 1) := by decide +kernel
theorem dX10_over_7 : decode cX10_over 7 = .ok (.putfield 156, 3) := by decide +kernel
theorem dX10_over_10 : decode cX10_over 10 = .ok (.aload_n 0, 1) := by decide +kernel
theorem dX10_over_11 : decode cX10_over 11 = .ok (.aload_n 0, 1) := by decide +kernel
theorem dX10_over_12 : decode cX10_over 12 = .ok (.getfield 85, 3) := by decide +kernel
theorem dX10_over_15 : decode cX10_over 15 = .ok (.aload_n 0, 1) := by decide +kernel
theorem dX10_over_16 : decode cX10_over 16 = .ok (.getfield 156, 3) := by decide +kernel
theorem dX10_over_19 : decode cX10_over 19 = .ok (.iaload, 1) := by decide +kernel
theorem dX10_over_20 : decode cX10_over 20 = .ok (.putfield 141, 3) := by decide +kernel
theorem dX10_over_23 : decode cX10_over 23 = .ok (.aload_n 0, 1) := by decide +kernel
theorem dX10_over_24 : decode cX10_over 24 = .ok (.dup, 1) := by decide +kernel
theorem dX10_over_25 : decode cX10_over 25 = .ok (.getfield 163, 3) := by decide +kernel
theorem dX10_over_28 : decode cX10_over 28 = .ok (.iconst 1, 1) := by decide +kernel
theorem dX10_over_29 : decode cX10_over 29 = .ok (.isub, 1) := by decide +kernel
theorem dX10_over_30 : decode cX10_over 30 = .ok (.putfield 163, 3) := by decide +kernel
theorem dX10_over_33 : decode cX10_over 33 = .ok (.aload_n 0, 1) := by decide +kernel
theorem dX10_over_34 : decode cX10_over 34 = .ok (.iconst 0, 1) := by decide +kernel
theorem dX10_over_35 : decode cX10_over 35 = .ok (.putfield 138, 3) := by decide +kernel
theorem dX10_over_38 : decode cX10_over 38 = .ok (.return_, 1) := by decide +kernel
theorem dX10_lastPart_0 : decode cX10_lastPart 0 = .ok (.aload_n 0, 1) := by decide +kernel
theorem dX10_lastPart_1 : decode cX10_lastPart 1 = .ok (.getfield 156, 3) := by decide +kernel
theorem dX10_lastPart_4 : decode cX10_lastPart 4 = .ok (.iconst 1, 1) := by decide +kernel
theorem dX10_lastPart_5 : decode cX10_lastPart 5 = .ok (.isub, 1) := by decide +kernel
theorem dX10_lastPart_6 : decode cX10_lastPart 6 = .ok (.istore_n 1, 1) := by decide +kernel
theorem dX10_lastPart_7 : decode cX10_lastPart 7 = .ok (.aload_n 0, 1) := by decide +kernel
theorem dX10_lastPart_8 : decode cX10_lastPart 8 = .ok (.getfield 82, 3) := by decide +kernel
theorem dX10_lastPart_11 : decode cX10_lastPart 11 = .ok (.iload_n 1, 1) := by decide +kernel
theorem dX10_lastPart_12 : decode cX10_lastPart 12 = .ok (.iaload, 1) := by decide +kernel
theorem dX10_lastPart_13 : decode cX10_lastPart 13 = .ok (.istore_n 2, 1) := by decide +kernel
theorem dX10_lastPart_14 : decode cX10_lastPart 14 = .ok (.iconst 0, 1) := by decide +kernel
theorem dX10_lastPart_15 : decode cX10_lastPart 15 = .ok (.istore_n 3, 1) := by decide +kernel
theorem dX10_lastPart_16 : decode cX10_lastPart 16 = .ok (.iload_n 3, 1) := by decide +kernel
theorem dX10_lastPart_17 : decode cX10_lastPart 17 = .ok (.iconst 4, 1) := by decide +kernel
theorem dX10_lastPart_18 : decode cX10_lastPart 18 = .ok (.if_icmp .ge 35, 3) := by decide +kernel
theorem dX10_lastPart_21 : decode cX10_lastPart 21 = .ok (.aload_n 0, 1) := by decide +kernel
theorem dX10_lastPart_22 : decode cX10_lastPart 22 = .ok (.getfield 7, 3) := by decide +kernel
theorem dX10_lastPart_25 : decode cX10_lastPart 25 = .ok (.iload_n 2, 1) := by decide +kernel
theorem dX10_lastPart_26 : decode cX10_lastPart 26 = .ok (.iaload, 1) := by decide +kernel
theorem dX10_lastPart_27 : decode cX10_lastPart 27 = .ok (.iconst 3, 1) := by decide +kernel
theorem dX10_lastPart_28 : decode cX10_lastPart 28 = .ok (.if_icmp .eq 25, 3) := by decide +kernel
theorem dX10_lastPart_31 : decode cX10_lastPart 31 = .ok (.aload_n 0, 1) := by decide +kernel
theorem dX10_lastPart_32 : decode cX10_lastPart 32 = .ok (.getfield 7, 3) := by decide +kernel
theorem dX10_lastPart_35 : decode cX10_lastPart 35 = .ok (.iload_n 2, 1) := by decide +kernel
theorem dX10_lastPart_36 : decode cX10_lastPart 36 = .ok (.iaload, 1) := by decide +kernel
theorem dX10_lastPart_37 : decode cX10_lastPart 37 = .ok (.ifCond .eq 16, 3) := by decide +kernel
theorem dX10_lastPart_40 : decode cX10_lastPart 40 = .ok (.aload_n 0, 1) := by decide +kernel
theorem dX10_lastPart_41 : decode cX10_lastPart 41 = .ok (.getfield 25, 3) := by decide +kernel
theorem dX10_lastPart_44 : decode cX10_lastPart 44 = .ok (.iload_n 2, 1) := by decide +kernel
theorem dX10_lastPart_45 : decode cX10_lastPart 45 = .ok (.iaload, 1) := by decide +kernel
theorem dX10_lastPart_46 : decode cX10_lastPart 46 = .ok (.istore_n 2, 1) := by decide +kernel
theorem dX10_lastPart_47 : decode cX10_lastPart 47 = .ok (.iinc 3 1, 3) := by decide +kernel
theorem dX10_lastPart_50 : decode cX10_lastPart 50 = .ok (.goto (-34), 3) := by decide +kernel
theorem dX10_lastPart_53 : decode cX10_lastPart 53 = .ok (.aload_n 0, 1) := by decide +kernel
theorem dX10_lastPart_54 : decode cX10_lastPart 54 = .ok (.getfield 7, 3) := by decide +kernel
theorem dX10_lastPart_57 : decode cX10_lastPart 57 = .ok (.iload_n 2, 1) := by decide +kernel
theorem dX10_lastPart_58 : decode cX10_lastPart 58 = .ok (.iaload, 1) := by decide +kernel
theorem dX10_lastPart_59 : decode cX10_lastPart 59 = .ok (.iconst 3, 1) := by decide +kernel
theorem dX10_lastPart_60 : decode cX10_lastPart 60 = .ok (.if_icmp .ne 55, 3) := by decide +kernel
theorem dX10_lastPart_63 : decode cX10_lastPart 63 = .ok (.aload_n 0, 1) := by decide +kernel
theorem dX10_lastPart_64 : decode cX10_lastPart 64 = .ok (.getfield 79, 3) := by decide +kernel
theorem dX10_lastPart_67 : decode cX10_lastPart 67 = .ok (.iload_n 1, 1) := by decide +kernel
theorem dX10_lastPart_68 : decode cX10_lastPart 68 = .ok (.iconst 5, 1) := by decide +kernel
theorem dX10_lastPart_69 : decode cX10_lastPart 69 = .ok (.iastore, 1) := by decide +kernel
theorem dX10_lastPart_70 : decode cX10_lastPart 70 = .ok (.aload_n 0, 1) := by decide +kernel
theorem dX10_lastPart_71 : decode cX10_lastPart 71 = .ok (.getfield 91, 3) := by decide +kernel
theorem dX10_lastPart_74 : decode cX10_lastPart 74 = .ok (.iload_n 1, 1) := by decide +kernel
theorem dX10_lastPart_75 : decode cX10_lastPart 75 = .ok (.aload_n 0, 1) := by decide +kernel
theorem dX10_lastPart_76 : decode cX10_lastPart 76 = .ok (.getfield 138, 3) := by decide +kernel
theorem dX10_lastPart_79 : decode cX10_lastPart 79 = .ok (.iastore, 1) := by decide +kernel
theorem dX10_lastPart_80 : decode cX10_lastPart 80 = .ok (.aload_n 0, 1) := by decide +kernel
theorem dX10_lastPart_81 : decode cX10_lastPart 81 = .ok (.getfield 88, 3) := by decide +kernel
theorem dX10_lastPart_84 : decode cX10_lastPart 84 = .ok (.iload_n 1, 1) := by decide +kernel
theorem dX10_lastPart_85 : decode cX10_lastPart 85 = .ok (.aload_n 0, 1) := by decide +kernel
theorem dX10_lastPart_86 : decode cX10_lastPart 86 = .ok (.getfield 135, 3) := by decide +kernel
theorem dX10_lastPart_89 : decode cX10_lastPart 89 = .ok (.iastore, 1) := by decide +kernel
theorem dX10_lastPart_90 : decode cX10_lastPart 90 = .ok (.aload_n 0, 1) := by decide +kernel
theorem dX10_lastPart_91 : decode cX10_lastPart 91 = .ok (.dup, 1) := by decide +kernel
theorem dX10_lastPart_92 : decode cX10_lastPart 92 = .ok (.getfield 166, 3) := by decide +kernel
theorem dX10_lastPart_95 : decode cX10_lastPart 95 = .ok (.iconst 1, 1) := by decide +kernel
theorem dX10_lastPart_96 : decode cX10_lastPart 96 = .ok (.iadd, 1) := by decide +kernel
theorem dX10_lastPart_97 : decode cX10_lastPart 97 = .ok (.putfield 166, 3) := by decide +kernel
theorem dX10_lastPart_100 : decode cX10_lastPart 100 = .ok (.aload_n 0, 1) := by decide +kernel
theorem dX10_lastPart_101 : decode cX10_lastPart 101 = .ok (.iload_n 2, 1) := by decide +kernel
theorem dX10_lastPart_102 : decode cX10_lastPart 102 = .ok (.iconst 1, 1) := by decide +kernel
theorem dX10_lastPart_103 : decode cX10_lastPart 103 = .ok (.iadd, 1) := by decide +kernel
theorem dX10_lastPart_104 : decode cX10_lastPart 104 = .ok (.putfield 141, 3) := by decide +kernel
theorem dX10_lastPart_107 : decode cX10_lastPart 107 = .ok (.aload_n 0, 1) := by decide +kernel
theorem dX10_lastPart_108 : decode cX10_lastPart 108 = .ok (.iconst 0, 1) := by decide +kernel
theorem dX10_lastPart_109 : decode cX10_lastPart 109 = .ok (.putfield 138, 3) := by decide +kernel
theorem dX10_lastPart_112 : decode cX10_lastPart 112 = .ok (.goto 44, 3) := by decide +kernel
theorem dX10_lastPart_115 : decode cX10_lastPart 115 = .ok (.aload_n 0, 1) := by decide +kernel
theorem dX10_lastPart_116 : decode cX10_lastPart 116 = .ok (.aload_n 0, 1) := by decide +kernel
theorem dX10_lastPart_117 : decode cX10_lastPart 117 = .ok (.getfield 138, 3) := by decide +kernel
theorem dX10_lastPart_120 : decode cX10_lastPart 120 = .ok (.ifCond .ne 19, 3) := by decide +kernel
theorem dX10_lastPart_123 : decode cX10_lastPart 123 = .ok (.aload_n 0, 1) := by decide +kernel
theorem dX10_lastPart_124 : decode cX10_lastPart 124 = .ok (.getfield 22, 3) := by decide +kernel
theorem dX10_lastPart_127 : decode cX10_lastPart 127 = .ok (.aload_n 0, 1) := by decide +kernel
theorem dX10_lastPart_128 : decode cX10_lastPart 128 = .ok (.getfield 82, 3) := by decide +kernel
theorem dX10_lastPart_131 : decode cX10_lastPart 131 = .ok (.iload_n 1, 1) := by decide +kernel
theorem dX10_lastPart_132 : decode cX10_lastPart 132 = .ok (.iaload, 1) := by decide +kernel
theorem dX10_lastPart_133 : decode cX10_lastPart 133 = .ok (.iaload, 1) := by decide +kernel
theorem dX10_lastPart_134 : decode cX10_lastPart 134 = .ok (.iconst 1, 1) := by decide +kernel
theorem dX10_lastPart_135 : decode cX10_lastPart 135 = .ok (.iadd, 1) := by decide +kernel
theorem dX10_lastPart_136 : decode cX10_lastPart 136 = .ok (.goto 7, 3) := by decide +kernel
theorem dX10_lastPart_139 : decode cX10_lastPart 139 = .ok (.aload_n 0, 1) := by decide +kernel
theorem dX10_lastPart_140 : decode cX10_lastPart 140 = .ok (.getfield 141, 3) := by decide +kernel
theorem dX10_lastPart_143 : decode cX10_lastPart 143 = .ok (.putfield 141, 3) := by decide +kernel
theorem dX10_lastPart_146 : decode cX10_lastPart 146 = .ok (.aload_n 0, 1) := by decide +kernel
theorem dX10_lastPart_147 : decode cX10_lastPart 147 = .ok (.dup, 1) := by decide +kernel
theorem dX10_lastPart_148 : decode cX10_lastPart 148 = .ok (.getfield 156, 3) := by decide +kernel
theorem dX10_lastPart_151 : decode cX10_lastPart 151 = .ok (.iconst 1, 1) := by decide +kernel
theorem dX10_lastPart_152 : decode cX10_lastPart 152 = .ok (.isub, 1) := by decide +kernel
theorem dX10_lastPart_153 : decode cX10_lastPart 153 = .ok (.putfield 156, 3) := by decide +kernel
theorem dX10_lastPart_156 : decode cX10_lastPart 156 = .ok (.return_, 1) := by decide +kernel
theorem dX10_seekCatch_0 : decode cX10_seekCatch 0 = .ok (.aload_n 0, 1) := by decide +kernel
theorem dX10_seekCatch_1 : decode cX10_seekCatch 1 = .ok (.getfield 156, 3) := by decide +kernel
theorem dX10_seekCatch_4 : decode cX10_seekCatch 4 = .ok (.iconst 1, 1) := by decide +kernel
theorem dX10_seekCatch_5 : decode cX10_seekCatch 5 = .ok (.isub, 1) := by decide +kernel
theorem dX10_seekCatch_6 : decode cX10_seekCatch 6 = .ok (.istore_n 1, 1) := by decide +kernel
theorem dX10_seekCatch_7 : decode cX10_seekCatch 7 = .ok (.aload_n 0, 1) := by decide +kernel
theorem dX10_seekCatch_8 : decode cX10_seekCatch 8 = .ok (.getfield 25, 3) := by decide +kernel
theorem dX10_seekCatch_11 : decode cX10_seekCatch 11 = .ok (.aload_n 0, 1) := by decide +kernel
theorem dX10_seekCatch_12 : decode cX10_seekCatch 12 = .ok (.getfield 82, 3) := by decide +kernel
theorem dX10_seekCatch_15 : decode cX10_seekCatch 15 = .ok (.iload_n 1, 1) := by decide +kernel
theorem dX10_seekCatch_16 : decode cX10_seekCatch 16 = .ok (.iaload, 1) := by decide +kernel
theorem dX10_seekCatch_17 : decode cX10_seekCatch 17 = .ok (.iaload, 1) := by decide +kernel
theorem dX10_seekCatch_18 : decode cX10_seekCatch 18 = .ok (.istore_n 2, 1) := by decide +kernel
theorem dX10_seekCatch_19 : decode cX10_seekCatch 19 = .ok (.iconst 0, 1) := by decide +kernel
theorem dX10_seekCatch_20 : decode cX10_seekCatch 20 = .ok (.istore_n 3, 1) := by decide +kernel
theorem dX10_seekCatch_21 : decode cX10_seekCatch 21 = .ok (.iload_n 3, 1) := by decide +kernel
theorem dX10_seekCatch_22 : decode cX10_seekCatch 22 = .ok (.iconst 3, 1) := by decide +kernel
theorem dX10_seekCatch_23 : decode cX10_seekCatch 23 = .ok (.if_icmp .ge 48, 3) := by decide +kernel
theorem dX10_seekCatch_26 : decode cX10_seekCatch 26 = .ok (.aload_n 0, 1) := by decide +kernel
theorem dX10_seekCatch_27 : decode cX10_seekCatch 27 = .ok (.getfield 7, 3) := by decide +kernel
theorem dX10_seekCatch_30 : decode cX10_seekCatch 30 = .ok (.iload_n 2, 1) := by decide +kernel
theorem dX10_seekCatch_31 : decode cX10_seekCatch 31 = .ok (.iaload, 1) := by decide +kernel
theorem dX10_seekCatch_32 : decode cX10_seekCatch 32 = .ok (.iconst 2, 1) := by decide +kernel
theorem dX10_seekCatch_33 : decode cX10_seekCatch 33 = .ok (.if_icmp .ne 38, 3) := by decide +kernel
theorem dX10_seekCatch_36 : decode cX10_seekCatch 36 = .ok (.aload_n 0, 1) := by decide +kernel
theorem dX10_seekCatch_37 : decode cX10_seekCatch 37 = .ok (.aload_n 0, 1) := by decide +kernel
theorem dX10_seekCatch_38 : decode cX10_seekCatch 38 = .ok (.getfield 60, 3) := by decide +kernel
theorem dX10_seekCatch_41 : decode cX10_seekCatch 41 = .ok (.aload_n 0, 1) := by decide +kernel
theorem dX10_seekCatch_42 : decode cX10_seekCatch 42 = .ok (.getfield 135, 3) := by decide +kernel
theorem dX10_seekCatch_45 : decode cX10_seekCatch 45 = .ok (.iaload, 1) := by decide +kernel
theorem dX10_seekCatch_46 : decode cX10_seekCatch 46 = .ok (.aload_n 0, 1) := by decide +kernel
theorem dX10_seekCatch_47 : decode cX10_seekCatch 47 = .ok (.getfield 13, 3) := by decide +kernel
theorem dX10_seekCatch_50 : decode cX10_seekCatch 50 = .ok (.iload_n 2, 1) := by decide +kernel
theorem dX10_seekCatch_51 : decode cX10_seekCatch 51 = .ok (.iaload, 1) := by decide +kernel
theorem dX10_seekCatch_52 : decode cX10_seekCatch 52 = .ok (.invokevirtual 169, 3) := by decide +kernel
theorem dX10_seekCatch_55 : decode cX10_seekCatch 55 = .ok (.ifCond .ne 16, 3) := by decide +kernel
theorem dX10_seekCatch_58 : decode cX10_seekCatch 58 = .ok (.aload_n 0, 1) := by decide +kernel
theorem dX10_seekCatch_59 : decode cX10_seekCatch 59 = .ok (.getfield 25, 3) := by decide +kernel
theorem dX10_seekCatch_62 : decode cX10_seekCatch 62 = .ok (.iload_n 2, 1) := by decide +kernel
theorem dX10_seekCatch_63 : decode cX10_seekCatch 63 = .ok (.iaload, 1) := by decide +kernel
theorem dX10_seekCatch_64 : decode cX10_seekCatch 64 = .ok (.istore_n 2, 1) := by decide +kernel
theorem dX10_seekCatch_65 : decode cX10_seekCatch 65 = .ok (.iinc 3 1, 3) := by decide +kernel
theorem dX10_seekCatch_68 : decode cX10_seekCatch 68 = .ok (.goto (-47), 3) := by decide +kernel
theorem dX10_seekCatch_71 : decode cX10_seekCatch 71 = .ok (.aload_n 0, 1) := by decide +kernel
theorem dX10_seekCatch_72 : decode cX10_seekCatch 72 = .ok (.getfield 7, 3) := by decide +kernel
theorem dX10_seekCatch_75 : decode cX10_seekCatch 75 = .ok (.iload_n 2, 1) := by decide +kernel
theorem dX10_seekCatch_76 : decode cX10_seekCatch 76 = .ok (.iaload, 1) := by decide +kernel
theorem dX10_seekCatch_77 : decode cX10_seekCatch 77 = .ok (.iconst 2, 1) := by decide +kernel
theorem dX10_seekCatch_78 : decode cX10_seekCatch 78 = .ok (.if_icmp .eq 8, 3) := by decide +kernel
theorem dX10_seekCatch_81 : decode cX10_seekCatch 81 = .ok (.aload_n 0, 1) := by decide +kernel
theorem dX10_seekCatch_82 : decode cX10_seekCatch 82 = .ok (.invokevirtual 172, 3) := by decide +kernel
theorem dX10_seekCatch_85 : decode cX10_seekCatch 85 = .ok (.return_, 1) := by decide +kernel
theorem dX10_seekCatch_86 : decode cX10_seekCatch 86 = .ok (.aload_n 0, 1) := by decide +kernel
theorem dX10_seekCatch_87 : decode cX10_seekCatch 87 = .ok (.getfield 79, 3) := by decide +kernel
theorem dX10_seekCatch_90 : decode cX10_seekCatch 90 = .ok (.iload_n 1, 1) := by decide +kernel
theorem dX10_seekCatch_91 : decode cX10_seekCatch 91 = .ok (.iconst 4, 1) := by decide +kernel
theorem dX10_seekCatch_92 : decode cX10_seekCatch 92 = .ok (.iastore, 1) := by decide +kernel
theorem dX10_seekCatch_93 : decode cX10_seekCatch 93 = .ok (.aload_n 0, 1) := by decide +kernel
theorem dX10_seekCatch_94 : decode cX10_seekCatch 94 = .ok (.getfield 88, 3) := by decide +kernel
theorem dX10_seekCatch_97 : decode cX10_seekCatch 97 = .ok (.iload_n 1, 1) := by decide +kernel
theorem dX10_seekCatch_98 : decode cX10_seekCatch 98 = .ok (.aload_n 0, 1) := by decide +kernel
theorem dX10_seekCatch_99 : decode cX10_seekCatch 99 = .ok (.getfield 135, 3) := by decide +kernel
theorem dX10_seekCatch_102 : decode cX10_seekCatch 102 = .ok (.iastore, 1) := by decide +kernel
theorem dX10_seekCatch_103 : decode cX10_seekCatch 103 = .ok (.aload_n 0, 1) := by decide +kernel
theorem dX10_seekCatch_104 : decode cX10_seekCatch 104 = .ok (.dup, 1) := by decide +kernel
theorem dX10_seekCatch_105 : decode cX10_seekCatch 105 = .ok (.getfield 175, 3) := by decide +kernel
theorem dX10_seekCatch_108 : decode cX10_seekCatch 108 = .ok (.iconst 1, 1) := by decide +kernel
theorem dX10_seekCatch_109 : decode cX10_seekCatch 109 = .ok (.iadd, 1) := by decide +kernel
theorem dX10_seekCatch_110 : decode cX10_seekCatch 110 = .ok (.putfield 175, 3) := by decide +kernel
theorem dX10_seekCatch_113 : decode cX10_seekCatch 113 = .ok (.aload_n 0, 1) := by decide +kernel
theorem dX10_seekCatch_114 : decode cX10_seekCatch 114 = .ok (.iload_n 2, 1) := by decide +kernel
theorem dX10_seekCatch_115 : decode cX10_seekCatch 115 = .ok (.iconst 1, 1) := by decide +kernel
theorem dX10_seekCatch_116 : decode cX10_seekCatch 116 = .ok (.iadd, 1) := by decide +kernel
theorem dX10_seekCatch_117 : decode cX10_seekCatch 117 = .ok (.putfield 141, 3) := by decide +kernel
theorem dX10_seekCatch_120 : decode cX10_seekCatch 120 = .ok (.aload_n 0, 1) := by decide +kernel
theorem dX10_seekCatch_121 : decode cX10_seekCatch 121 = .ok (.iconst 0, 1) := by decide +kernel
theorem dX10_seekCatch_122 : decode cX10_seekCatch 122 = .ok (.putfield 138, 3) := by decide +kernel
theorem dX10_seekCatch_125 : decode cX10_seekCatch 125 = .ok (.return_, 1) := by decide +kernel
theorem dX10_leave_0 : decode cX10_leave 0 = .ok (.aload_n 0, 1) := by decide +kernel
theorem dX10_leave_1 : decode cX10_leave 1 = .ok (.getfield 156, 3) := by decide +kernel
theorem dX10_leave_4 : decode cX10_leave 4 = .ok (.iconst 1, 1) := by decide +kernel
theorem dX10_leave_5 : decode cX10_leave 5 = .ok (.isub, 1) := by decide +kernel
theorem dX10_leave_6 : decode cX10_leave 6 = .ok (.istore_n 1, 1) := by decide +kernel
theorem dX10_leave_7 : decode cX10_leave 7 = .ok (.aload_n 0, 1) := by decide +kernel
theorem dX10_leave_8 : decode cX10_leave 8 = .ok (.getfield 79, 3) := by decide +kernel
theorem dX10_leave_11 : decode cX10_leave 11 = .ok (.iload_n 1, 1) := by decide +kernel
theorem dX10_leave_12 : decode cX10_leave 12 = .ok (.iaload, 1) := by decide +kernel
theorem dX10_leave_13 : decode cX10_leave 13 = .ok (.tableswitch 145 0 4 #[35, 73, 145, 116, 138], 35) := by decide +kernel
theorem dX10_leave_48 : decode cX10_leave 48 = .ok (.aload_n 0, 1) := by decide +kernel
theorem dX10_leave_49 : decode cX10_leave 49 = .ok (.getfield 138, 3) := by decide +kernel
theorem dX10_leave_52 : decode cX10_leave 52 = .ok (.iconst 2, 1) := by decide +kernel
theorem dX10_leave_53 : decode cX10_leave 53 = .ok (.if_icmp .ne 10, 3) := by decide +kernel
theorem dX10_leave_56 : decode cX10_leave 56 = .ok (.aload_n 0, 1) := by decide +kernel
theorem dX10_leave_57 : decode cX10_leave 57 = .ok (.invokevirtual 178, 3) := by decide +kernel
theorem dX10_leave_60 : decode cX10_leave 60 = .ok (.goto 108, 3) := by decide +kernel
theorem dX10_leave_63 : decode cX10_leave 63 = .ok (.aload_n 0, 1) := by decide +kernel
theorem dX10_leave_64 : decode cX10_leave 64 = .ok (.dup, 1) := by decide +kernel
theorem dX10_leave_65 : decode cX10_leave 65 = .ok (.getfield 156, 3) := by decide +kernel
theorem dX10_leave_68 : decode cX10_leave 68 = .ok (.iconst 1, 1) := by decide +kernel
theorem dX10_leave_69 : decode cX10_leave 69 = .ok (.isub, 1) := by decide +kernel
theorem dX10_leave_70 : decode cX10_leave 70 = .ok (.putfield 156, 3) := by decide +kernel
theorem dX10_leave_73 : decode cX10_leave 73 = .ok (.aload_n 0, 1) := by decide +kernel
theorem dX10_leave_74 : decode cX10_leave 74 = .ok (.dup, 1) := by decide +kernel
theorem dX10_leave_75 : decode cX10_leave 75 = .ok (.getfield 163, 3) := by decide +kernel
theorem dX10_leave_78 : decode cX10_leave 78 = .ok (.iconst 1, 1) := by decide +kernel
theorem dX10_leave_79 : decode cX10_leave 79 = .ok (.isub, 1) := by decide +kernel
theorem dX10_leave_80 : decode cX10_leave 80 = .ok (.putfield 163, 3) := by decide +kernel
theorem dX10_leave_83 : decode cX10_leave 83 = .ok (.goto 85, 3) := by decide +kernel
theorem dX10_leave_86 : decode cX10_leave 86 = .ok (.aload_n 0, 1) := by decide +kernel
theorem dX10_leave_87 : decode cX10_leave 87 = .ok (.dup, 1) := by decide +kernel
theorem dX10_leave_88 : decode cX10_leave 88 = .ok (.getfield 156, 3) := by decide +kernel
theorem dX10_leave_91 : decode cX10_leave 91 = .ok (.iconst 1, 1) := by decide +kernel
theorem dX10_leave_92 : decode cX10_leave 92 = .ok (.isub, 1) := by decide +kernel
theorem dX10_leave_93 : decode cX10_leave 93 = .ok (.putfield 156, 3) := by decide +kernel
theorem dX10_leave_96 : decode cX10_leave 96 = .ok (.aload_n 0, 1) := by decide +kernel
theorem dX10_leave_97 : decode cX10_leave 97 = .ok (.getfield 138, 3) := by decide +kernel
theorem dX10_leave_100 : decode cX10_leave 100 = .ok (.iconst 1, 1) := by decide +kernel
theorem dX10_leave_101 : decode cX10_leave 101 = .ok (.if_icmp .ne 67, 3) := by decide +kernel
theorem dX10_leave_104 : decode cX10_leave 104 = .ok (.aload_n 0, 1) := by decide +kernel
theorem dX10_leave_105 : decode cX10_leave 105 = .ok (.iconst 0, 1) := by decide +kernel
theorem dX10_leave_106 : decode cX10_leave 106 = .ok (.putfield 138, 3) := by decide +kernel
theorem dX10_leave_109 : decode cX10_leave 109 = .ok (.aload_n 0, 1) := by decide +kernel
theorem dX10_leave_110 : decode cX10_leave 110 = .ok (.aload_n 0, 1) := by decide +kernel
theorem dX10_leave_111 : decode cX10_leave 111 = .ok (.getfield 22, 3) := by decide +kernel
theorem dX10_leave_114 : decode cX10_leave 114 = .ok (.aload_n 0, 1) := by decide +kernel
theorem dX10_leave_115 : decode cX10_leave 115 = .ok (.getfield 82, 3) := by decide +kernel
theorem dX10_leave_118 : decode cX10_leave 118 = .ok (.iload_n 1, 1) := by decide +kernel
theorem dX10_leave_119 : decode cX10_leave 119 = .ok (.iaload, 1) := by decide +kernel
theorem dX10_leave_120 : decode cX10_leave 120 = .ok (.iaload, 1) := by decide +kernel
theorem dX10_leave_121 : decode cX10_leave 121 = .ok (.iconst 1, 1) := by decide +kernel
theorem dX10_leave_122 : decode cX10_leave 122 = .ok (.iadd, 1) := by decide +kernel
theorem dX10_leave_123 : decode cX10_leave 123 = .ok (.putfield 141, 3) := by decide +kernel
theorem dX10_leave_126 : decode cX10_leave 126 = .ok (.goto 42, 3) := by decide +kernel
theorem dX10_leave_129 : decode cX10_leave 129 = .ok (.aload_n 0, 1) := by decide +kernel
theorem dX10_leave_130 : decode cX10_leave 130 = .ok (.getfield 138, 3) := by decide +kernel
theorem dX10_leave_133 : decode cX10_leave 133 = .ok (.iconst 3, 1) := by decide +kernel
theorem dX10_leave_134 : decode cX10_leave 134 = .ok (.if_icmp .ne 10, 3) := by decide +kernel
theorem dX10_leave_137 : decode cX10_leave 137 = .ok (.aload_n 0, 1) := by decide +kernel
theorem dX10_leave_138 : decode cX10_leave 138 = .ok (.invokevirtual 181, 3) := by decide +kernel
theorem dX10_leave_141 : decode cX10_leave 141 = .ok (.goto 27, 3) := by decide +kernel
theorem dX10_leave_144 : decode cX10_leave 144 = .ok (.aload_n 0, 1) := by decide +kernel
theorem dX10_leave_145 : decode cX10_leave 145 = .ok (.invokevirtual 172, 3) := by decide +kernel
theorem dX10_leave_148 : decode cX10_leave 148 = .ok (.goto 20, 3) := by decide +kernel
theorem dX10_leave_151 : decode cX10_leave 151 = .ok (.aload_n 0, 1) := by decide +kernel
theorem dX10_leave_152 : decode cX10_leave 152 = .ok (.invokevirtual 172, 3) := by decide +kernel
theorem dX10_leave_155 : decode cX10_leave 155 = .ok (.goto 13, 3) := by decide +kernel
theorem dX10_leave_158 : decode cX10_leave 158 = .ok (.aload_n 0, 1) := by decide +kernel
theorem dX10_leave_159 : decode cX10_leave 159 = .ok (.dup, 1) := by decide +kernel
theorem dX10_leave_160 : decode cX10_leave 160 = .ok (.getfield 156, 3) := by decide +kernel
theorem dX10_leave_163 : decode cX10_leave 163 = .ok (.iconst 1, 1) := by decide +kernel
theorem dX10_leave_164 : decode cX10_leave 164 = .ok (.isub, 1) := by decide +kernel
theorem dX10_leave_165 : decode cX10_leave 165 = .ok (.putfield 156, 3) := by decide +kernel
theorem dX10_leave_168 : decode cX10_leave 168 = .ok (.return_, 1) := by decide +kernel
theorem dX10_isCounted_0 : decode cX10_isCounted 0 = .ok (.aload_n 0, 1) := by decide +kernel
theorem dX10_isCounted_1 : decode cX10_isCounted 1 = .ok (.getfield 184, 3) := by decide +kernel
theorem dX10_isCounted_4 : decode cX10_isCounted 4 = .ok (.sipush 200, 3) := by decide +kernel
theorem dX10_isCounted_7 : decode cX10_isCounted 7 = .ok (.if_icmp .ne 5, 3) := by decide +kernel
theorem dX10_isCounted_10 : decode cX10_isCounted 10 = .ok (.iconst 0, 1) := by decide +kernel
theorem dX10_isCounted_11 : decode cX10_isCounted 11 = .ok (.ireturn, 1) := by decide +kernel
theorem dX10_isCounted_12 : decode cX10_isCounted 12 = .ok (.aload_n 0, 1) := by decide +kernel
theorem dX10_isCounted_13 : decode cX10_isCounted 13 = .ok (.dup, 1) := by decide +kernel
theorem dX10_isCounted_14 : decode cX10_isCounted 14 = .ok (.getfield 184, 3) := by decide +kernel
theorem dX10_isCounted_17 : decode cX10_isCounted 17 = .ok (.iconst 1, 1) := by decide +kernel
theorem dX10_isCounted_18 : decode cX10_isCounted 18 = .ok (.iadd, 1) := by decide +kernel
theorem dX10_isCounted_19 : decode cX10_isCounted 19 = .ok (.putfield 184, 3) := by decide +kernel
theorem dX10_isCounted_22 : decode cX10_isCounted 22 = .ok (.iconst 1, 1) := by decide +kernel
theorem dX10_isCounted_23 : decode cX10_isCounted 23 = .ok (.ireturn, 1) := by decide +kernel
theorem dX10_round_0 : decode cX10_round 0 = .ok (.aload_n 0, 1) := by decide +kernel
theorem dX10_round_1 : decode cX10_round 1 = .ok (.getfield 156, 3) := by decide +kernel
theorem dX10_round_4 : decode cX10_round 4 = .ok (.iconst 1, 1) := by decide +kernel
theorem dX10_round_5 : decode cX10_round 5 = .ok (.isub, 1) := by decide +kernel
theorem dX10_round_6 : decode cX10_round 6 = .ok (.istore_n 1, 1) := by decide +kernel
theorem dX10_round_7 : decode cX10_round 7 = .ok (.aload_n 0, 1) := by decide +kernel
theorem dX10_round_8 : decode cX10_round 8 = .ok (.getfield 85, 3) := by decide +kernel
theorem dX10_round_11 : decode cX10_round 11 = .ok (.iload_n 1, 1) := by decide +kernel
theorem dX10_round_12 : decode cX10_round 12 = .ok (.iaload, 1) := by decide +kernel
theorem dX10_round_13 : decode cX10_round 13 = .ok (.ifCond .ne 31, 3) := by decide +kernel
theorem dX10_round_16 : decode cX10_round 16 = .ok (.aload_n 0, 1) := by decide +kernel
theorem dX10_round_17 : decode cX10_round 17 = .ok (.dup, 1) := by decide +kernel
theorem dX10_round_18 : decode cX10_round 18 = .ok (.getfield 156, 3) := by decide +kernel
theorem dX10_round_21 : decode cX10_round 21 = .ok (.iconst 1, 1) := by decide +kernel
theorem dX10_round_22 : decode cX10_round 22 = .ok (.isub, 1) := by decide +kernel
theorem dX10_round_23 : decode cX10_round 23 = .ok (.putfield 156, 3) := by decide +kernel
theorem dX10_round_26 : decode cX10_round 26 = .ok (.aload_n 0, 1) := by decide +kernel
theorem dX10_round_27 : decode cX10_round 27 = .ok (.aload_n 0, 1) := by decide +kernel
theorem dX10_round_28 : decode cX10_round 28 = .ok (.getfield 22, 3) := by decide +kernel
theorem dX10_round_31 : decode cX10_round 31 = .ok (.aload_n 0, 1) := by decide +kernel
theorem dX10_round_32 : decode cX10_round 32 = .ok (.getfield 82, 3) := by decide +kernel
theorem dX10_round_35 : decode cX10_round 35 = .ok (.iload_n 1, 1) := by decide +kernel
theorem dX10_round_36 : decode cX10_round 36 = .ok (.iaload, 1) := by decide +kernel
theorem dX10_round_37 : decode cX10_round 37 = .ok (.iaload, 1) := by decide +kernel
theorem dX10_round_38 : decode cX10_round 38 = .ok (.iconst 1, 1) := by decide +kernel
theorem dX10_round_39 : decode cX10_round 39 = .ok (.iadd, 1) := by decide +kernel
theorem dX10_round_40 : decode cX10_round 40 = .ok (.putfield 141, 3) := by decide +kernel
theorem dX10_round_43 : decode cX10_round 43 = .ok (.return_, 1) := by decide +kernel
theorem dX10_round_44 : decode cX10_round 44 = .ok (.aload_n 0, 1) := by decide +kernel
theorem dX10_round_45 : decode cX10_round 45 = .ok (.getfield 85, 3) := by decide +kernel
theorem dX10_round_48 : decode cX10_round 48 = .ok (.iload_n 1, 1) := by decide +kernel
theorem dX10_round_49 : decode cX10_round 49 = .ok (.dup2, 1) := by decide +kernel
theorem dX10_round_50 : decode cX10_round 50 = .ok (.iaload, 1) := by decide +kernel
theorem dX10_round_51 : decode cX10_round 51 = .ok (.iconst 1, 1) := by decide +kernel
theorem dX10_round_52 : decode cX10_round 52 = .ok (.isub, 1) := by decide +kernel
theorem dX10_round_53 : decode cX10_round 53 = .ok (.iastore, 1) := by decide +kernel
theorem dX10_round_54 : decode cX10_round 54 = .ok (.aload_n 0, 1) := by decide +kernel
theorem dX10_round_55 : decode cX10_round 55 = .ok (.aload_n 0, 1) := by decide +kernel
theorem dX10_round_56 : decode cX10_round 56 = .ok (.getfield 82, 3) := by decide +kernel
theorem dX10_round_59 : decode cX10_round 59 = .ok (.iload_n 1, 1) := by decide +kernel
theorem dX10_round_60 : decode cX10_round 60 = .ok (.iaload, 1) := by decide +kernel
theorem dX10_round_61 : decode cX10_round 61 = .ok (.putfield 141, 3) := by decide +kernel
theorem dX10_round_64 : decode cX10_round 64 = .ok (.aload_n 0, 1) := by decide +kernel
theorem dX10_round_65 : decode cX10_round 65 = .ok (.invokevirtual 187, 3) := by decide +kernel
theorem dX10_round_68 : decode cX10_round 68 = .ok (.ifCond .eq 16, 3) := by decide +kernel
theorem dX10_round_71 : decode cX10_round 71 = .ok (.aload_n 0, 1) := by decide +kernel
theorem dX10_round_72 : decode cX10_round 72 = .ok (.dup, 1) := by decide +kernel
theorem dX10_round_73 : decode cX10_round 73 = .ok (.getfield 141, 3) := by decide +kernel
theorem dX10_round_76 : decode cX10_round 76 = .ok (.iconst 1, 1) := by decide +kernel
theorem dX10_round_77 : decode cX10_round 77 = .ok (.iadd, 1) := by decide +kernel
theorem dX10_round_78 : decode cX10_round 78 = .ok (.putfield 141, 3) := by decide +kernel
theorem dX10_round_81 : decode cX10_round 81 = .ok (.goto 9, 3) := by decide +kernel
theorem dX10_round_84 : decode cX10_round 84 = .ok (.aload_n 0, 1) := by decide +kernel
theorem dX10_round_85 : decode cX10_round 85 = .ok (.bipush 10, 2) := by decide +kernel
theorem dX10_round_87 : decode cX10_round 87 = .ok (.invokevirtual 191, 3) := by decide +kernel
theorem dX10_round_90 : decode cX10_round 90 = .ok (.return_, 1) := by decide +kernel
theorem dX10_endPart_0 : decode cX10_endPart 0 = .ok (.aload_n 0, 1) := by decide +kernel
theorem dX10_endPart_1 : decode cX10_endPart 1 = .ok (.getfield 156, 3) := by decide +kernel
theorem dX10_endPart_4 : decode cX10_endPart 4 = .ok (.iconst 1, 1) := by decide +kernel
theorem dX10_endPart_5 : decode cX10_endPart 5 = .ok (.isub, 1) := by decide +kernel
theorem dX10_endPart_6 : decode cX10_endPart 6 = .ok (.istore_n 1, 1) := by decide +kernel
theorem dX10_endPart_7 : decode cX10_endPart 7 = .ok (.aload_n 0, 1) := by decide +kernel
theorem dX10_endPart_8 : decode cX10_endPart 8 = .ok (.getfield 79, 3) := by decide +kernel
theorem dX10_endPart_11 : decode cX10_endPart 11 = .ok (.iload_n 1, 1) := by decide +kernel
theorem dX10_endPart_12 : decode cX10_endPart 12 = .ok (.iaload, 1) := by decide +kernel
theorem dX10_endPart_13 : decode cX10_endPart 13 = .ok (.tableswitch 115 1 5 #[35, 42, 115, 115, 65], 35) := by decide +kernel
theorem dX10_endPart_48 : decode cX10_endPart 48 = .ok (.aload_n 0, 1) := by decide +kernel
theorem dX10_endPart_49 : decode cX10_endPart 49 = .ok (.invokevirtual 195, 3) := by decide +kernel
theorem dX10_endPart_52 : decode cX10_endPart 52 = .ok (.goto 80, 3) := by decide +kernel
theorem dX10_endPart_55 : decode cX10_endPart 55 = .ok (.aload_n 0, 1) := by decide +kernel
theorem dX10_endPart_56 : decode cX10_endPart 56 = .ok (.dup, 1) := by decide +kernel
theorem dX10_endPart_57 : decode cX10_endPart 57 = .ok (.getfield 156, 3) := by decide +kernel
theorem dX10_endPart_60 : decode cX10_endPart 60 = .ok (.iconst 1, 1) := by decide +kernel
theorem dX10_endPart_61 : decode cX10_endPart 61 = .ok (.isub, 1) := by decide +kernel
theorem dX10_endPart_62 : decode cX10_endPart 62 = .ok (.putfield 156, 3) := by decide +kernel
theorem dX10_endPart_65 : decode cX10_endPart 65 = .ok (.aload_n 0, 1) := by decide +kernel
theorem dX10_endPart_66 : decode cX10_endPart 66 = .ok (.dup, 1) := by decide +kernel
theorem dX10_endPart_67 : decode cX10_endPart 67 = .ok (.getfield 141, 3) := by decide +kernel
theorem dX10_endPart_70 : decode cX10_endPart 70 = .ok (.iconst 1, 1) := by decide +kernel
theorem dX10_endPart_71 : decode cX10_endPart 71 = .ok (.iadd, 1) := by decide +kernel
theorem dX10_endPart_72 : decode cX10_endPart 72 = .ok (.putfield 141, 3) := by decide +kernel
theorem dX10_endPart_75 : decode cX10_endPart 75 = .ok (.goto 57, 3) := by decide +kernel
theorem dX10_endPart_78 : decode cX10_endPart 78 = .ok (.aload_n 0, 1) := by decide +kernel
theorem dX10_endPart_79 : decode cX10_endPart 79 = .ok (.aload_n 0, 1) := by decide +kernel
theorem dX10_endPart_80 : decode cX10_endPart 80 = .ok (.getfield 91, 3) := by decide +kernel
theorem dX10_endPart_83 : decode cX10_endPart 83 = .ok (.iload_n 1, 1) := by decide +kernel
theorem dX10_endPart_84 : decode cX10_endPart 84 = .ok (.iaload, 1) := by decide +kernel
theorem dX10_endPart_85 : decode cX10_endPart 85 = .ok (.putfield 138, 3) := by decide +kernel
theorem dX10_endPart_88 : decode cX10_endPart 88 = .ok (.aload_n 0, 1) := by decide +kernel
theorem dX10_endPart_89 : decode cX10_endPart 89 = .ok (.aload_n 0, 1) := by decide +kernel
theorem dX10_endPart_90 : decode cX10_endPart 90 = .ok (.getfield 88, 3) := by decide +kernel
theorem dX10_endPart_93 : decode cX10_endPart 93 = .ok (.iload_n 1, 1) := by decide +kernel
theorem dX10_endPart_94 : decode cX10_endPart 94 = .ok (.iaload, 1) := by decide +kernel
theorem dX10_endPart_95 : decode cX10_endPart 95 = .ok (.putfield 135, 3) := by decide +kernel
theorem dX10_endPart_98 : decode cX10_endPart 98 = .ok (.aload_n 0, 1) := by decide +kernel
theorem dX10_endPart_99 : decode cX10_endPart 99 = .ok (.aload_n 0, 1) := by decide +kernel
theorem dX10_endPart_100 : decode cX10_endPart 100 = .ok (.getfield 22, 3) := by decide +kernel
theorem dX10_endPart_103 : decode cX10_endPart 103 = .ok (.aload_n 0, 1) := by decide +kernel
theorem dX10_endPart_104 : decode cX10_endPart 104 = .ok (.getfield 82, 3) := by decide +kernel
theorem dX10_endPart_107 : decode cX10_endPart 107 = .ok (.iload_n 1, 1) := by decide +kernel
theorem dX10_endPart_108 : decode cX10_endPart 108 = .ok (.iaload, 1) := by decide +kernel
theorem dX10_endPart_109 : decode cX10_endPart 109 = .ok (.iaload, 1) := by decide +kernel
theorem dX10_endPart_110 : decode cX10_endPart 110 = .ok (.iconst 1, 1) := by decide +kernel
theorem dX10_endPart_111 : decode cX10_endPart 111 = .ok (.iadd, 1) := by decide +kernel
theorem dX10_endPart_112 : decode cX10_endPart 112 = .ok (.putfield 141, 3) := by decide +kernel
theorem dX10_endPart_115 : decode cX10_endPart 115 = .ok (.aload_n 0, 1) := by decide +kernel
theorem dX10_endPart_116 : decode cX10_endPart 116 = .ok (.dup, 1) := by decide +kernel
theorem dX10_endPart_117 : decode cX10_endPart 117 = .ok (.getfield 156, 3) := by decide +kernel
theorem dX10_endPart_120 : decode cX10_endPart 120 = .ok (.iconst 1, 1) := by decide +kernel
theorem dX10_endPart_121 : decode cX10_endPart 121 = .ok (.isub, 1) := by decide +kernel
theorem dX10_endPart_122 : decode cX10_endPart 122 = .ok (.putfield 156, 3) := by decide +kernel
theorem dX10_endPart_125 : decode cX10_endPart 125 = .ok (.goto 7, 3) := by decide +kernel
theorem dX10_endPart_128 : decode cX10_endPart 128 = .ok (.aload_n 0, 1) := by decide +kernel
theorem dX10_endPart_129 : decode cX10_endPart 129 = .ok (.invokevirtual 172, 3) := by decide +kernel
theorem dX10_endPart_132 : decode cX10_endPart 132 = .ok (.return_, 1) := by decide +kernel
theorem dX10_go_0 : decode cX10_go 0 = .ok (.aload_n 0, 1) := by decide +kernel
theorem dX10_go_1 : decode cX10_go 1 = .ok (.getfield 156, 3) := by decide +kernel
theorem dX10_go_4 : decode cX10_go 4 = .ok (.iconst 1, 1) := by decide +kernel
theorem dX10_go_5 : decode cX10_go 5 = .ok (.isub, 1) := by decide +kernel
theorem dX10_go_6 : decode cX10_go 6 = .ok (.istore_n 1, 1) := by decide +kernel
theorem dX10_go_7 : decode cX10_go 7 = .ok (.aload_n 0, 1) := by decide +kernel
theorem dX10_go_8 : decode cX10_go 8 = .ok (.getfield 79, 3) := by decide +kernel
theorem dX10_go_11 : decode cX10_go 11 = .ok (.iload_n 1, 1) := by decide +kernel
theorem dX10_go_12 : decode cX10_go 12 = .ok (.iaload, 1) := by decide +kernel
theorem dX10_go_13 : decode cX10_go 13 = .ok (.ifCond .eq 9, 3) := by decide +kernel
theorem dX10_go_16 : decode cX10_go 16 = .ok (.iinc 1 (-1), 3) := by decide +kernel
theorem dX10_go_19 : decode cX10_go 19 = .ok (.goto (-12), 3) := by decide +kernel
theorem dX10_go_22 : decode cX10_go 22 = .ok (.aload_n 0, 1) := by decide +kernel
theorem dX10_go_23 : decode cX10_go 23 = .ok (.getfield 141, 3) := by decide +kernel
theorem dX10_go_26 : decode cX10_go 26 = .ok (.bipush 40, 2) := by decide +kernel
theorem dX10_go_28 : decode cX10_go 28 = .ok (.aload_n 0, 1) := by decide +kernel
theorem dX10_go_29 : decode cX10_go 29 = .ok (.getfield 82, 3) := by decide +kernel
theorem dX10_go_32 : decode cX10_go 32 = .ok (.iload_n 1, 1) := by decide +kernel
theorem dX10_go_33 : decode cX10_go 33 = .ok (.iaload, 1) := by decide +kernel
theorem dX10_go_34 : decode cX10_go 34 = .ok (.imul, 1) := by decide +kernel
theorem dX10_go_35 : decode cX10_go 35 = .ok (.aload_n 0, 1) := by decide +kernel
theorem dX10_go_36 : decode cX10_go 36 = .ok (.getfield 28, 3) := by decide +kernel
theorem dX10_go_39 : decode cX10_go 39 = .ok (.aload_n 0, 1) := by decide +kernel
theorem dX10_go_40 : decode cX10_go 40 = .ok (.getfield 82, 3) := by decide +kernel
theorem dX10_go_43 : decode cX10_go 43 = .ok (.iload_n 1, 1) := by decide +kernel
theorem dX10_go_44 : decode cX10_go 44 = .ok (.iaload, 1) := by decide +kernel
theorem dX10_go_45 : decode cX10_go 45 = .ok (.iaload, 1) := by decide +kernel
theorem dX10_go_46 : decode cX10_go 46 = .ok (.iadd, 1) := by decide +kernel
theorem dX10_go_47 : decode cX10_go 47 = .ok (.if_icmp .ne 10, 3) := by decide +kernel
theorem dX10_go_50 : decode cX10_go 50 = .ok (.aload_n 0, 1) := by decide +kernel
theorem dX10_go_51 : decode cX10_go 51 = .ok (.invokevirtual 178, 3) := by decide +kernel
theorem dX10_go_54 : decode cX10_go 54 = .ok (.goto 118, 3) := by decide +kernel
theorem dX10_go_57 : decode cX10_go 57 = .ok (.aload_n 0, 1) := by decide +kernel
theorem dX10_go_58 : decode cX10_go 58 = .ok (.getfield 7, 3) := by decide +kernel
theorem dX10_go_61 : decode cX10_go 61 = .ok (.aload_n 0, 1) := by decide +kernel
theorem dX10_go_62 : decode cX10_go 62 = .ok (.getfield 141, 3) := by decide +kernel
theorem dX10_go_65 : decode cX10_go 65 = .ok (.iaload, 1) := by decide +kernel
theorem dX10_go_66 : decode cX10_go 66 = .ok (.ifCond .eq 29, 3) := by decide +kernel
theorem dX10_go_69 : decode cX10_go 69 = .ok (.aload_n 0, 1) := by decide +kernel
theorem dX10_go_70 : decode cX10_go 70 = .ok (.getfield 7, 3) := by decide +kernel
theorem dX10_go_73 : decode cX10_go 73 = .ok (.aload_n 0, 1) := by decide +kernel
theorem dX10_go_74 : decode cX10_go 74 = .ok (.getfield 141, 3) := by decide +kernel
theorem dX10_go_77 : decode cX10_go 77 = .ok (.iaload, 1) := by decide +kernel
theorem dX10_go_78 : decode cX10_go 78 = .ok (.iconst 2, 1) := by decide +kernel
theorem dX10_go_79 : decode cX10_go 79 = .ok (.if_icmp .eq 16, 3) := by decide +kernel
theorem dX10_go_82 : decode cX10_go 82 = .ok (.aload_n 0, 1) := by decide +kernel
theorem dX10_go_83 : decode cX10_go 83 = .ok (.getfield 7, 3) := by decide +kernel
theorem dX10_go_86 : decode cX10_go 86 = .ok (.aload_n 0, 1) := by decide +kernel
theorem dX10_go_87 : decode cX10_go 87 = .ok (.getfield 141, 3) := by decide +kernel
theorem dX10_go_90 : decode cX10_go 90 = .ok (.iaload, 1) := by decide +kernel
theorem dX10_go_91 : decode cX10_go 91 = .ok (.iconst 3, 1) := by decide +kernel
theorem dX10_go_92 : decode cX10_go 92 = .ok (.if_icmp .ne 10, 3) := by decide +kernel
theorem dX10_go_95 : decode cX10_go 95 = .ok (.aload_n 0, 1) := by decide +kernel
theorem dX10_go_96 : decode cX10_go 96 = .ok (.invokevirtual 198, 3) := by decide +kernel
theorem dX10_go_99 : decode cX10_go 99 = .ok (.goto 73, 3) := by decide +kernel
theorem dX10_go_102 : decode cX10_go 102 = .ok (.aload_n 0, 1) := by decide +kernel
theorem dX10_go_103 : decode cX10_go 103 = .ok (.invokevirtual 187, 3) := by decide +kernel
theorem dX10_go_106 : decode cX10_go 106 = .ok (.ifCond .ne 12, 3) := by decide +kernel
theorem dX10_go_109 : decode cX10_go 109 = .ok (.aload_n 0, 1) := by decide +kernel
theorem dX10_go_110 : decode cX10_go 110 = .ok (.bipush 10, 2) := by decide +kernel
theorem dX10_go_112 : decode cX10_go 112 = .ok (.invokevirtual 191, 3) := by decide +kernel
theorem dX10_go_115 : decode cX10_go 115 = .ok (.goto 57, 3) := by decide +kernel
theorem dX10_go_118 : decode cX10_go 118 = .ok (.aload_n 0, 1) := by decide +kernel
theorem dX10_go_119 : decode cX10_go 119 = .ok (.getfield 7, 3) := by decide +kernel
theorem dX10_go_122 : decode cX10_go 122 = .ok (.aload_n 0, 1) := by decide +kernel
theorem dX10_go_123 : decode cX10_go 123 = .ok (.getfield 141, 3) := by decide +kernel
theorem dX10_go_126 : decode cX10_go 126 = .ok (.iaload, 1) := by decide +kernel
theorem dX10_go_127 : decode cX10_go 127 = .ok (.bipush 13, 2) := by decide +kernel
theorem dX10_go_129 : decode cX10_go 129 = .ok (.if_icmp .ge 14, 3) := by decide +kernel
theorem dX10_go_132 : decode cX10_go 132 = .ok (.aload_n 0, 1) := by decide +kernel
theorem dX10_go_133 : decode cX10_go 133 = .ok (.aload_n 0, 1) := by decide +kernel
theorem dX10_go_134 : decode cX10_go 134 = .ok (.getfield 141, 3) := by decide +kernel
theorem dX10_go_137 : decode cX10_go 137 = .ok (.invokevirtual 201, 3) := by decide +kernel
theorem dX10_go_140 : decode cX10_go 140 = .ok (.goto 32, 3) := by decide +kernel
theorem dX10_go_143 : decode cX10_go 143 = .ok (.aload_n 0, 1) := by decide +kernel
theorem dX10_go_144 : decode cX10_go 144 = .ok (.aload_n 0, 1) := by decide +kernel
theorem dX10_go_145 : decode cX10_go 145 = .ok (.getfield 141, 3) := by decide +kernel
theorem dX10_go_148 : decode cX10_go 148 = .ok (.invokevirtual 204, 3) := by decide +kernel
theorem dX10_go_151 : decode cX10_go 151 = .ok (.aload_n 0, 1) := by decide +kernel
theorem dX10_go_152 : decode cX10_go 152 = .ok (.dup, 1) := by decide +kernel
theorem dX10_go_153 : decode cX10_go 153 = .ok (.getfield 141, 3) := by decide +kernel
theorem dX10_go_156 : decode cX10_go 156 = .ok (.aload_n 0, 1) := by decide +kernel
theorem dX10_go_157 : decode cX10_go 157 = .ok (.getfield 138, 3) := by decide +kernel
theorem dX10_go_160 : decode cX10_go 160 = .ok (.ifCond .ne 7, 3) := by decide +kernel
theorem dX10_go_163 : decode cX10_go 163 = .ok (.iconst 1, 1) := by decide +kernel
theorem dX10_go_164 : decode cX10_go 164 = .ok (.goto 4, 3) := by decide +kernel
theorem dX10_go_167 : decode cX10_go 167 = .ok (.iconst 0, 1) := by decide +kernel
theorem dX10_go_168 : decode cX10_go 168 = .ok (.iadd, 1) := by decide +kernel
theorem dX10_go_169 : decode cX10_go 169 = .ok (.putfield 141, 3) := by decide +kernel
theorem dX10_go_172 : decode cX10_go 172 = .ok (.return_, 1) := by decide +kernel
theorem dX10_run_0 : decode cX10_run 0 = .ok (.aload_n 0, 1) := by decide +kernel
theorem dX10_run_1 : decode cX10_run 1 = .ok (.getfield 31, 3) := by decide +kernel
theorem dX10_run_4 : decode cX10_run 4 = .ok (.aload_n 0, 1) := by decide +kernel
theorem dX10_run_5 : decode cX10_run 5 = .ok (.getfield 104, 3) := by decide +kernel
theorem dX10_run_8 : decode cX10_run 8 = .ok (.iaload, 1) := by decide +kernel
theorem dX10_run_9 : decode cX10_run 9 = .ok (.ifCond .le 5, 3) := by decide +kernel
theorem dX10_run_12 : decode cX10_run 12 = .ok (.iconst (-1), 1) := by decide +kernel
theorem dX10_run_13 : decode cX10_run 13 = .ok (.ireturn, 1) := by decide +kernel
theorem dX10_run_14 : decode cX10_run 14 = .ok (.aload_n 0, 1) := by decide +kernel
theorem dX10_run_15 : decode cX10_run 15 = .ok (.iconst 0, 1) := by decide +kernel
theorem dX10_run_16 : decode cX10_run 16 = .ok (.putfield 132, 3) := by decide +kernel
theorem dX10_run_19 : decode cX10_run 19 = .ok (.aload_n 0, 1) := by decide +kernel
theorem dX10_run_20 : decode cX10_run 20 = .ok (.iconst 0, 1) := by decide +kernel
theorem dX10_run_21 : decode cX10_run 21 = .ok (.putfield 156, 3) := by decide +kernel
theorem dX10_run_24 : decode cX10_run 24 = .ok (.aload_n 0, 1) := by decide +kernel
theorem dX10_run_25 : decode cX10_run 25 = .ok (.iconst 0, 1) := by decide +kernel
theorem dX10_run_26 : decode cX10_run 26 = .ok (.putfield 138, 3) := by decide +kernel
theorem dX10_run_29 : decode cX10_run 29 = .ok (.aload_n 0, 1) := by decide +kernel
theorem dX10_run_30 : decode cX10_run 30 = .ok (.iconst (-1), 1) := by decide +kernel
theorem dX10_run_31 : decode cX10_run 31 = .ok (.putfield 135, 3) := by decide +kernel
theorem dX10_run_34 : decode cX10_run 34 = .ok (.aload_n 0, 1) := by decide +kernel
theorem dX10_run_35 : decode cX10_run 35 = .ok (.iconst 0, 1) := by decide +kernel
theorem dX10_run_36 : decode cX10_run 36 = .ok (.putfield 163, 3) := by decide +kernel
theorem dX10_run_39 : decode cX10_run 39 = .ok (.aload_n 0, 1) := by decide +kernel
theorem dX10_run_40 : decode cX10_run 40 = .ok (.iconst 0, 1) := by decide +kernel
theorem dX10_run_41 : decode cX10_run 41 = .ok (.putfield 184, 3) := by decide +kernel
theorem dX10_run_44 : decode cX10_run 44 = .ok (.aload_n 0, 1) := by decide +kernel
theorem dX10_run_45 : decode cX10_run 45 = .ok (.iconst 0, 1) := by decide +kernel
theorem dX10_run_46 : decode cX10_run 46 = .ok (.putfield 175, 3) := by decide +kernel
theorem dX10_run_49 : decode cX10_run 49 = .ok (.aload_n 0, 1) := by decide +kernel
theorem dX10_run_50 : decode cX10_run 50 = .ok (.iconst 0, 1) := by decide +kernel
theorem dX10_run_51 : decode cX10_run 51 = .ok (.putfield 166, 3) := by decide +kernel
theorem dX10_run_54 : decode cX10_run 54 = .ok (.aload_n 0, 1) := by decide +kernel
theorem dX10_run_55 : decode cX10_run 55 = .ok (.iconst 0, 1) := by decide +kernel
theorem dX10_run_56 : decode cX10_run 56 = .ok (.putfield 207, 3) := by decide +kernel
theorem dX10_run_59 : decode cX10_run 59 = .ok (.aload_n 0, 1) := by decide +kernel
theorem dX10_run_60 : decode cX10_run 60 = .ok (.iconst (-1), 1) := by decide +kernel
theorem dX10_run_61 : decode cX10_run 61 = .ok (.putfield 75, 3) := by decide +kernel
theorem dX10_run_64 : decode cX10_run 64 = .ok (.aload_n 0, 1) := by decide +kernel
theorem dX10_run_65 : decode cX10_run 65 = .ok (.aload_n 0, 1) := by decide +kernel
theorem dX10_run_66 : decode cX10_run 66 = .ok (.getfield 104, 3) := by decide +kernel
theorem dX10_run_69 : decode cX10_run 69 = .ok (.iconst (-1), 1) := by decide +kernel
theorem dX10_run_70 : decode cX10_run 70 = .ok (.invokevirtual 210, 3) := by decide +kernel
theorem dX10_run_73 : decode cX10_run 73 = .ok (.iconst 0, 1) := by decide +kernel
theorem dX10_run_74 : decode cX10_run 74 = .ok (.istore_n 1, 1) := by decide +kernel
theorem dX10_run_75 : decode cX10_run 75 = .ok (.iload_n 1, 1) := by decide +kernel
theorem dX10_run_76 : decode cX10_run 76 = .ok (.ldc 214, 2) := by decide +kernel
theorem dX10_run_78 : decode cX10_run 78 = .ok (.if_icmp .ge 34, 3) := by decide +kernel
theorem dX10_run_81 : decode cX10_run 81 = .ok (.aload_n 0, 1) := by decide +kernel
theorem dX10_run_82 : decode cX10_run 82 = .ok (.getfield 156, 3) := by decide +kernel
theorem dX10_run_85 : decode cX10_run 85 = .ok (.ifCond .le 27, 3) := by decide +kernel
theorem dX10_run_88 : decode cX10_run 88 = .ok (.aload_n 0, 1) := by decide +kernel
theorem dX10_run_89 : decode cX10_run 89 = .ok (.getfield 138, 3) := by decide +kernel
theorem dX10_run_92 : decode cX10_run 92 = .ok (.ifCond .ne 10, 3) := by decide +kernel
theorem dX10_run_95 : decode cX10_run 95 = .ok (.aload_n 0, 1) := by decide +kernel
theorem dX10_run_96 : decode cX10_run 96 = .ok (.invokevirtual 215, 3) := by decide +kernel
theorem dX10_run_99 : decode cX10_run 99 = .ok (.goto 7, 3) := by decide +kernel
theorem dX10_run_102 : decode cX10_run 102 = .ok (.aload_n 0, 1) := by decide +kernel
theorem dX10_run_103 : decode cX10_run 103 = .ok (.invokevirtual 218, 3) := by decide +kernel
theorem dX10_run_106 : decode cX10_run 106 = .ok (.iinc 1 1, 3) := by decide +kernel
theorem dX10_run_109 : decode cX10_run 109 = .ok (.goto (-34), 3) := by decide +kernel
theorem dX10_run_112 : decode cX10_run 112 = .ok (.aload_n 0, 1) := by decide +kernel
theorem dX10_run_113 : decode cX10_run 113 = .ok (.getfield 138, 3) := by decide +kernel
theorem dX10_run_116 : decode cX10_run 116 = .ok (.iconst 3, 1) := by decide +kernel
theorem dX10_run_117 : decode cX10_run 117 = .ok (.if_icmp .eq 5, 3) := by decide +kernel
theorem dX10_run_120 : decode cX10_run 120 = .ok (.iconst 0, 1) := by decide +kernel
theorem dX10_run_121 : decode cX10_run 121 = .ok (.ireturn, 1) := by decide +kernel
theorem dX10_run_122 : decode cX10_run 122 = .ok (.aload_n 0, 1) := by decide +kernel
theorem dX10_run_123 : decode cX10_run 123 = .ok (.aload_n 0, 1) := by decide +kernel
theorem dX10_run_124 : decode cX10_run 124 = .ok (.getfield 135, 3) := by decide +kernel
theorem dX10_run_127 : decode cX10_run 127 = .ok (.putfield 75, 3) := by decide +kernel
theorem dX10_run_130 : decode cX10_run 130 = .ok (.aload_n 0, 1) := by decide +kernel
theorem dX10_run_131 : decode cX10_run 131 = .ok (.getfield 60, 3) := by decide +kernel
theorem dX10_run_134 : decode cX10_run 134 = .ok (.aload_n 0, 1) := by decide +kernel
theorem dX10_run_135 : decode cX10_run 135 = .ok (.getfield 75, 3) := by decide +kernel
