theorem dX10_rough_149 : decode cX10_rough 149 = .ok (.fload 4, 2) := by decide +kernel
theorem dX10_rough_151 : decode cX10_rough 151 = .ok (.fmul, 1) := by decide +kernel
theorem dX10_rough_152 : decode cX10_rough 152 = .ok (.f2d, 1) := by decide +kernel
theorem dX10_rough_153 : decode cX10_rough 153 = .ok (.dstore 5, 2) := by decide +kernel
theorem dX10_rough_155 : decode cX10_rough 155 = .ok (.goto 43, 3) := by decide +kernel
theorem dX10_rough_158 : decode cX10_rough 158 = .ok (.fload_n 3, 1) := by decide +kernel
theorem dX10_rough_159 : decode cX10_rough 159 = .ok (.fload 4, 2) := by decide +kernel
theorem dX10_rough_161 : decode cX10_rough 161 = .ok (.fdiv, 1) := by decide +kernel
theorem dX10_rough_162 : decode cX10_rough 162 = .ok (.f2d, 1) := by decide +kernel
theorem dX10_rough_163 : decode cX10_rough 163 = .ok (.dstore 5, 2) := by decide +kernel
theorem dX10_rough_165 : decode cX10_rough 165 = .ok (.goto 33, 3) := by decide +kernel
theorem dX10_rough_168 : decode cX10_rough 168 = .ok (.fload_n 3, 1) := by decide +kernel
theorem dX10_rough_169 : decode cX10_rough 169 = .ok (.fload 4, 2) := by decide +kernel
theorem dX10_rough_171 : decode cX10_rough 171 = .ok (.frem, 1) := by decide +kernel
theorem dX10_rough_172 : decode cX10_rough 172 = .ok (.f2d, 1) := by decide +kernel
theorem dX10_rough_173 : decode cX10_rough 173 = .ok (.dstore 5, 2) := by decide +kernel
theorem dX10_rough_175 : decode cX10_rough 175 = .ok (.goto 23, 3) := by decide +kernel
theorem dX10_rough_178 : decode cX10_rough 178 = .ok (.fload 4, 2) := by decide +kernel
theorem dX10_rough_180 : decode cX10_rough 180 = .ok (.f2l, 1) := by decide +kernel
theorem dX10_rough_181 : decode cX10_rough 181 = .ok (.l2d, 1) := by decide +kernel
theorem dX10_rough_182 : decode cX10_rough 182 = .ok (.dstore 5, 2) := by decide +kernel
theorem dX10_rough_184 : decode cX10_rough 184 = .ok (.goto 14, 3) := by decide +kernel
theorem dX10_rough_187 : decode cX10_rough 187 = .ok (.iload_n 2, 1) := by decide +kernel
theorem dX10_rough_188 : decode cX10_rough 188 = .ok (.fload_n 3, 1) := by decide +kernel
theorem dX10_rough_189 : decode cX10_rough 189 = .ok (.f2d, 1) := by decide +kernel
theorem dX10_rough_190 : decode cX10_rough 190 = .ok (.fload 4, 2) := by decide +kernel
theorem dX10_rough_192 : decode cX10_rough 192 = .ok (.f2d, 1) := by decide +kernel
theorem dX10_rough_193 : decode cX10_rough 193 = .ok (.invokestatic 304, 3) := by decide +kernel
theorem dX10_rough_196 : decode cX10_rough 196 = .ok (.dstore 5, 2) := by decide +kernel
theorem dX10_rough_198 : decode cX10_rough 198 = .ok (.aload_n 0, 1) := by decide +kernel
theorem dX10_rough_199 : decode cX10_rough 199 = .ok (.aload_n 0, 1) := by decide +kernel
theorem dX10_rough_200 : decode cX10_rough 200 = .ok (.getfield 16, 3) := by decide +kernel
theorem dX10_rough_203 : decode cX10_rough 203 = .ok (.iload_n 1, 1) := by decide +kernel
theorem dX10_rough_204 : decode cX10_rough 204 = .ok (.iaload, 1) := by decide +kernel
theorem dX10_rough_205 : decode cX10_rough 205 = .ok (.dload 5, 2) := by decide +kernel
theorem dX10_rough_207 : decode cX10_rough 207 = .ok (.invokevirtual 308, 3) := by decide +kernel
theorem dX10_rough_210 : decode cX10_rough 210 = .ok (.return_, 1) := by decide +kernel
theorem dX10_whole_0 : decode cX10_whole 0 = .ok (.aload_n 0, 1) := by decide +kernel
theorem dX10_whole_1 : decode cX10_whole 1 = .ok (.getfield 43, 3) := by decide +kernel
theorem dX10_whole_4 : decode cX10_whole 4 = .ok (.aload_n 0, 1) := by decide +kernel
theorem dX10_whole_5 : decode cX10_whole 5 = .ok (.getfield 16, 3) := by decide +kernel
theorem dX10_whole_8 : decode cX10_whole 8 = .ok (.iload_n 1, 1) := by decide +kernel
theorem dX10_whole_9 : decode cX10_whole 9 = .ok (.iaload, 1) := by decide +kernel
theorem dX10_whole_10 : decode cX10_whole 10 = .ok (.daload, 1) := by decide +kernel
theorem dX10_whole_11 : decode cX10_whole 11 = .ok (.d2i, 1) := by decide +kernel
theorem dX10_whole_12 : decode cX10_whole 12 = .ok (.istore_n 2, 1) := by decide +kernel
theorem dX10_whole_13 : decode cX10_whole 13 = .ok (.aload_n 0, 1) := by decide +kernel
theorem dX10_whole_14 : decode cX10_whole 14 = .ok (.getfield 43, 3) := by decide +kernel
theorem dX10_whole_17 : decode cX10_whole 17 = .ok (.aload_n 0, 1) := by decide +kernel
theorem dX10_whole_18 : decode cX10_whole 18 = .ok (.getfield 19, 3) := by decide +kernel
theorem dX10_whole_21 : decode cX10_whole 21 = .ok (.iload_n 1, 1) := by decide +kernel
theorem dX10_whole_22 : decode cX10_whole 22 = .ok (.iaload, 1) := by decide +kernel
theorem dX10_whole_23 : decode cX10_whole 23 = .ok (.daload, 1) := by decide +kernel
theorem dX10_whole_24 : decode cX10_whole 24 = .ok (.d2i, 1) := by decide +kernel
theorem dX10_whole_25 : decode cX10_whole 25 = .ok (.istore_n 3, 1) := by decide +kernel
theorem dX10_whole_26 : decode cX10_whole 26 = .ok (.aload_n 0, 1) := by decide +kernel
theorem dX10_whole_27 : decode cX10_whole 27 = .ok (.getfield 13, 3) := by decide +kernel
theorem dX10_whole_30 : decode cX10_whole 30 = .ok (.iload_n 1, 1) := by decide +kernel
theorem dX10_whole_31 : decode cX10_whole 31 = .ok (.iaload, 1) := by decide +kernel
theorem dX10_whole_32 : decode cX10_whole 32 = .ok (.istore 4, 2) := by decide +kernel
theorem dX10_whole_34 : decode cX10_whole 34 = .ok (.iload 4, 2) := by decide +kernel
theorem dX10_whole_36 : decode cX10_whole 36 = .ok (.iconst 3, 1) := by decide +kernel
theorem dX10_whole_37 : decode cX10_whole 37 = .ok (.if_icmp .eq 9, 3) := by decide +kernel
theorem dX10_whole_40 : decode cX10_whole 40 = .ok (.iload 4, 2) := by decide +kernel
theorem dX10_whole_42 : decode cX10_whole 42 = .ok (.iconst 4, 1) := by decide +kernel
theorem dX10_whole_43 : decode cX10_whole 43 = .ok (.if_icmp .ne 14, 3) := by decide +kernel
theorem dX10_whole_46 : decode cX10_whole 46 = .ok (.iload_n 3, 1) := by decide +kernel
theorem dX10_whole_47 : decode cX10_whole 47 = .ok (.ifCond .ne 10, 3) := by decide +kernel
theorem dX10_whole_50 : decode cX10_whole 50 = .ok (.aload_n 0, 1) := by decide +kernel
theorem dX10_whole_51 : decode cX10_whole 51 = .ok (.bipush 7, 2) := by decide +kernel
theorem dX10_whole_53 : decode cX10_whole 53 = .ok (.invokevirtual 191, 3) := by decide +kernel
theorem dX10_whole_56 : decode cX10_whole 56 = .ok (.return_, 1) := by decide +kernel
theorem dX10_whole_57 : decode cX10_whole 57 = .ok (.iload 4, 2) := by decide +kernel
theorem dX10_whole_59 : decode cX10_whole 59 = .ok (.tableswitch 97 0 6 #[41, 49, 57, 65, 73, 81, 89], 41) := by decide +kernel
theorem dX10_whole_100 : decode cX10_whole 100 = .ok (.iload_n 2, 1) := by decide +kernel
theorem dX10_whole_101 : decode cX10_whole 101 = .ok (.iload_n 3, 1) := by decide +kernel
theorem dX10_whole_102 : decode cX10_whole 102 = .ok (.iadd, 1) := by decide +kernel
theorem dX10_whole_103 : decode cX10_whole 103 = .ok (.istore 5, 2) := by decide +kernel
theorem dX10_whole_105 : decode cX10_whole 105 = .ok (.goto 56, 3) := by decide +kernel
theorem dX10_whole_108 : decode cX10_whole 108 = .ok (.iload_n 2, 1) := by decide +kernel
theorem dX10_whole_109 : decode cX10_whole 109 = .ok (.iload_n 3, 1) := by decide +kernel
theorem dX10_whole_110 : decode cX10_whole 110 = .ok (.isub, 1) := by decide +kernel
theorem dX10_whole_111 : decode cX10_whole 111 = .ok (.istore 5, 2) := by decide +kernel
theorem dX10_whole_113 : decode cX10_whole 113 = .ok (.goto 48, 3) := by decide +kernel
theorem dX10_whole_116 : decode cX10_whole 116 = .ok (.iload_n 2, 1) := by decide +kernel
theorem dX10_whole_117 : decode cX10_whole 117 = .ok (.iload_n 3, 1) := by decide +kernel
theorem dX10_whole_118 : decode cX10_whole 118 = .ok (.imul, 1) := by decide +kernel
theorem dX10_whole_119 : decode cX10_whole 119 = .ok (.istore 5, 2) := by decide +kernel
theorem dX10_whole_121 : decode cX10_whole 121 = .ok (.goto 40, 3) := by decide +kernel
theorem dX10_whole_124 : decode cX10_whole 124 = .ok (.iload_n 2, 1) := by decide +kernel
theorem dX10_whole_125 : decode cX10_whole 125 = .ok (.iload_n 3, 1) := by decide +kernel
theorem dX10_whole_126 : decode cX10_whole 126 = .ok (.idiv, 1) := by decide +kernel
theorem dX10_whole_127 : decode cX10_whole 127 = .ok (.istore 5, 2) := by decide +kernel
theorem dX10_whole_129 : decode cX10_whole 129 = .ok (.goto 32, 3) := by decide +kernel
theorem dX10_whole_132 : decode cX10_whole 132 = .ok (.iload_n 2, 1) := by decide +kernel
theorem dX10_whole_133 : decode cX10_whole 133 = .ok (.iload_n 3, 1) := by decide +kernel
theorem dX10_whole_134 : decode cX10_whole 134 = .ok (.irem, 1) := by decide +kernel
theorem dX10_whole_135 : decode cX10_whole 135 = .ok (.istore 5, 2) := by decide +kernel
theorem dX10_whole_137 : decode cX10_whole 137 = .ok (.goto 24, 3) := by decide +kernel
theorem dX10_whole_140 : decode cX10_whole 140 = .ok (.iload_n 2, 1) := by decide +kernel
theorem dX10_whole_141 : decode cX10_whole 141 = .ok (.iload_n 3, 1) := by decide +kernel
theorem dX10_whole_142 : decode cX10_whole 142 = .ok (.iand, 1) := by decide +kernel
theorem dX10_whole_143 : decode cX10_whole 143 = .ok (.istore 5, 2) := by decide +kernel
theorem dX10_whole_145 : decode cX10_whole 145 = .ok (.goto 16, 3) := by decide +kernel
theorem dX10_whole_148 : decode cX10_whole 148 = .ok (.iload_n 2, 1) := by decide +kernel
theorem dX10_whole_149 : decode cX10_whole 149 = .ok (.iload_n 3, 1) := by decide +kernel
theorem dX10_whole_150 : decode cX10_whole 150 = .ok (.ior, 1) := by decide +kernel
theorem dX10_whole_151 : decode cX10_whole 151 = .ok (.istore 5, 2) := by decide +kernel
theorem dX10_whole_153 : decode cX10_whole 153 = .ok (.goto 8, 3) := by decide +kernel
theorem dX10_whole_156 : decode cX10_whole 156 = .ok (.iload_n 2, 1) := by decide +kernel
theorem dX10_whole_157 : decode cX10_whole 157 = .ok (.iload_n 3, 1) := by decide +kernel
theorem dX10_whole_158 : decode cX10_whole 158 = .ok (.ixor, 1) := by decide +kernel
theorem dX10_whole_159 : decode cX10_whole 159 = .ok (.istore 5, 2) := by decide +kernel
theorem dX10_whole_161 : decode cX10_whole 161 = .ok (.aload_n 0, 1) := by decide +kernel
theorem dX10_whole_162 : decode cX10_whole 162 = .ok (.getfield 43, 3) := by decide +kernel
theorem dX10_whole_165 : decode cX10_whole 165 = .ok (.aload_n 0, 1) := by decide +kernel
theorem dX10_whole_166 : decode cX10_whole 166 = .ok (.getfield 16, 3) := by decide +kernel
theorem dX10_whole_169 : decode cX10_whole 169 = .ok (.iload_n 1, 1) := by decide +kernel
theorem dX10_whole_170 : decode cX10_whole 170 = .ok (.iaload, 1) := by decide +kernel
theorem dX10_whole_171 : decode cX10_whole 171 = .ok (.iload 5, 2) := by decide +kernel
theorem dX10_whole_173 : decode cX10_whole 173 = .ok (.i2d, 1) := by decide +kernel
theorem dX10_whole_174 : decode cX10_whole 174 = .ok (.dastore, 1) := by decide +kernel
theorem dX10_whole_175 : decode cX10_whole 175 = .ok (.return_, 1) := by decide +kernel
theorem dX10_wide_0 : decode cX10_wide 0 = .ok (.aload_n 0, 1) := by decide +kernel
theorem dX10_wide_1 : decode cX10_wide 1 = .ok (.getfield 43, 3) := by decide +kernel
theorem dX10_wide_4 : decode cX10_wide 4 = .ok (.aload_n 0, 1) := by decide +kernel
theorem dX10_wide_5 : decode cX10_wide 5 = .ok (.getfield 16, 3) := by decide +kernel
theorem dX10_wide_8 : decode cX10_wide 8 = .ok (.iload_n 1, 1) := by decide +kernel
theorem dX10_wide_9 : decode cX10_wide 9 = .ok (.iaload, 1) := by decide +kernel
theorem dX10_wide_10 : decode cX10_wide 10 = .ok (.daload, 1) := by decide +kernel
theorem dX10_wide_11 : decode cX10_wide 11 = .ok (.d2l, 1) := by decide +kernel
theorem dX10_wide_12 : decode cX10_wide 12 = .ok (.lstore_n 2, 1) := by decide +kernel
theorem dX10_wide_13 : decode cX10_wide 13 = .ok (.aload_n 0, 1) := by decide +kernel
theorem dX10_wide_14 : decode cX10_wide 14 = .ok (.getfield 43, 3) := by decide +kernel
theorem dX10_wide_17 : decode cX10_wide 17 = .ok (.aload_n 0, 1) := by decide +kernel
theorem dX10_wide_18 : decode cX10_wide 18 = .ok (.getfield 19, 3) := by decide +kernel
theorem dX10_wide_21 : decode cX10_wide 21 = .ok (.iload_n 1, 1) := by decide +kernel
theorem dX10_wide_22 : decode cX10_wide 22 = .ok (.iaload, 1) := by decide +kernel
theorem dX10_wide_23 : decode cX10_wide 23 = .ok (.daload, 1) := by decide +kernel
theorem dX10_wide_24 : decode cX10_wide 24 = .ok (.d2l, 1) := by decide +kernel
theorem dX10_wide_25 : decode cX10_wide 25 = .ok (.lstore 4, 2) := by decide +kernel
theorem dX10_wide_27 : decode cX10_wide 27 = .ok (.aload_n 0, 1) := by decide +kernel
theorem dX10_wide_28 : decode cX10_wide 28 = .ok (.getfield 13, 3) := by decide +kernel
theorem dX10_wide_31 : decode cX10_wide 31 = .ok (.iload_n 1, 1) := by decide +kernel
theorem dX10_wide_32 : decode cX10_wide 32 = .ok (.iaload, 1) := by decide +kernel
theorem dX10_wide_33 : decode cX10_wide 33 = .ok (.istore 6, 2) := by decide +kernel
theorem dX10_wide_35 : decode cX10_wide 35 = .ok (.iload 6, 2) := by decide +kernel
theorem dX10_wide_37 : decode cX10_wide 37 = .ok (.iconst 3, 1) := by decide +kernel
theorem dX10_wide_38 : decode cX10_wide 38 = .ok (.if_icmp .eq 9, 3) := by decide +kernel
theorem dX10_wide_41 : decode cX10_wide 41 = .ok (.iload 6, 2) := by decide +kernel
theorem dX10_wide_43 : decode cX10_wide 43 = .ok (.iconst 4, 1) := by decide +kernel
theorem dX10_wide_44 : decode cX10_wide 44 = .ok (.if_icmp .ne 17, 3) := by decide +kernel
theorem dX10_wide_47 : decode cX10_wide 47 = .ok (.lload 4, 2) := by decide +kernel
theorem dX10_wide_49 : decode cX10_wide 49 = .ok (.lconst 0, 1) := by decide +kernel
theorem dX10_wide_50 : decode cX10_wide 50 = .ok (.lcmp, 1) := by decide +kernel
theorem dX10_wide_51 : decode cX10_wide 51 = .ok (.ifCond .ne 10, 3) := by decide +kernel
theorem dX10_wide_54 : decode cX10_wide 54 = .ok (.aload_n 0, 1) := by decide +kernel
theorem dX10_wide_55 : decode cX10_wide 55 = .ok (.bipush 7, 2) := by decide +kernel
theorem dX10_wide_57 : decode cX10_wide 57 = .ok (.invokevirtual 191, 3) := by decide +kernel
theorem dX10_wide_60 : decode cX10_wide 60 = .ok (.return_, 1) := by decide +kernel
theorem dX10_wide_61 : decode cX10_wide 61 = .ok (.iload 6, 2) := by decide +kernel
theorem dX10_wide_63 : decode cX10_wide 63 = .ok (.tableswitch 104 0 6 #[41, 50, 59, 68, 77, 86, 95], 41) := by decide +kernel
theorem dX10_wide_104 : decode cX10_wide 104 = .ok (.lload_n 2, 1) := by decide +kernel
theorem dX10_wide_105 : decode cX10_wide 105 = .ok (.lload 4, 2) := by decide +kernel
theorem dX10_wide_107 : decode cX10_wide 107 = .ok (.ladd, 1) := by decide +kernel
theorem dX10_wide_108 : decode cX10_wide 108 = .ok (.lstore 7, 2) := by decide +kernel
theorem dX10_wide_110 : decode cX10_wide 110 = .ok (.goto 63, 3) := by decide +kernel
theorem dX10_wide_113 : decode cX10_wide 113 = .ok (.lload_n 2, 1) := by decide +kernel
theorem dX10_wide_114 : decode cX10_wide 114 = .ok (.lload 4, 2) := by decide +kernel
theorem dX10_wide_116 : decode cX10_wide 116 = .ok (.lsub, 1) := by decide +kernel
theorem dX10_wide_117 : decode cX10_wide 117 = .ok (.lstore 7, 2) := by decide +kernel
theorem dX10_wide_119 : decode cX10_wide 119 = .ok (.goto 54, 3) := by decide +kernel
theorem dX10_wide_122 : decode cX10_wide 122 = .ok (.lload_n 2, 1) := by decide +kernel
theorem dX10_wide_123 : decode cX10_wide 123 = .ok (.lload 4, 2) := by decide +kernel
theorem dX10_wide_125 : decode cX10_wide 125 = .ok (.lmul, 1) := by decide +kernel
theorem dX10_wide_126 : decode cX10_wide 126 = .ok (.lstore 7, 2) := by decide +kernel
theorem dX10_wide_128 : decode cX10_wide 128 = .ok (.goto 45, 3) := by decide +kernel
theorem dX10_wide_131 : decode cX10_wide 131 = .ok (.lload_n 2, 1) := by decide +kernel
theorem dX10_wide_132 : decode cX10_wide 132 = .ok (.lload 4, 2) := by decide +kernel
theorem dX10_wide_134 : decode cX10_wide 134 = .ok (.ldiv, 1) := by decide +kernel
theorem dX10_wide_135 : decode cX10_wide 135 = .ok (.lstore 7, 2) := by decide +kernel
theorem dX10_wide_137 : decode cX10_wide 137 = .ok (.goto 36, 3) := by decide +kernel
theorem dX10_wide_140 : decode cX10_wide 140 = .ok (.lload_n 2, 1) := by decide +kernel
theorem dX10_wide_141 : decode cX10_wide 141 = .ok (.lload 4, 2) := by decide +kernel
theorem dX10_wide_143 : decode cX10_wide 143 = .ok (.lrem, 1) := by decide +kernel
theorem dX10_wide_144 : decode cX10_wide 144 = .ok (.lstore 7, 2) := by decide +kernel
theorem dX10_wide_146 : decode cX10_wide 146 = .ok (.goto 27, 3) := by decide +kernel
theorem dX10_wide_149 : decode cX10_wide 149 = .ok (.lload_n 2, 1) := by decide +kernel
theorem dX10_wide_150 : decode cX10_wide 150 = .ok (.lload 4, 2) := by decide +kernel
theorem dX10_wide_152 : decode cX10_wide 152 = .ok (.land, 1) := by decide +kernel
theorem dX10_wide_153 : decode cX10_wide 153 = .ok (.lstore 7, 2) := by decide +kernel
theorem dX10_wide_155 : decode cX10_wide 155 = .ok (.goto 18, 3) := by decide +kernel
theorem dX10_wide_158 : decode cX10_wide 158 = .ok (.lload_n 2, 1) := by decide +kernel
theorem dX10_wide_159 : decode cX10_wide 159 = .ok (.lload 4, 2) := by decide +kernel
theorem dX10_wide_161 : decode cX10_wide 161 = .ok (.lor, 1) := by decide +kernel
theorem dX10_wide_162 : decode cX10_wide 162 = .ok (.lstore 7, 2) := by decide +kernel
theorem dX10_wide_164 : decode cX10_wide 164 = .ok (.goto 9, 3) := by decide +kernel
theorem dX10_wide_167 : decode cX10_wide 167 = .ok (.lload_n 2, 1) := by decide +kernel
theorem dX10_wide_168 : decode cX10_wide 168 = .ok (.lload 4, 2) := by decide +kernel
theorem dX10_wide_170 : decode cX10_wide 170 = .ok (.lxor, 1) := by decide +kernel
theorem dX10_wide_171 : decode cX10_wide 171 = .ok (.lstore 7, 2) := by decide +kernel
theorem dX10_wide_173 : decode cX10_wide 173 = .ok (.aload_n 0, 1) := by decide +kernel
theorem dX10_wide_174 : decode cX10_wide 174 = .ok (.aload_n 0, 1) := by decide +kernel
theorem dX10_wide_175 : decode cX10_wide 175 = .ok (.getfield 16, 3) := by decide +kernel
theorem dX10_wide_178 : decode cX10_wide 178 = .ok (.iload_n 1, 1) := by decide +kernel
theorem dX10_wide_179 : decode cX10_wide 179 = .ok (.iaload, 1) := by decide +kernel
theorem dX10_wide_180 : decode cX10_wide 180 = .ok (.lload 7, 2) := by decide +kernel
theorem dX10_wide_182 : decode cX10_wide 182 = .ok (.l2d, 1) := by decide +kernel
theorem dX10_wide_183 : decode cX10_wide 183 = .ok (.invokevirtual 308, 3) := by decide +kernel
theorem dX10_wide_186 : decode cX10_wide 186 = .ok (.return_, 1) := by decide +kernel
theorem dX10_dial_0 : decode cX10_dial 0 = .ok (.iload_n 1, 1) := by decide +kernel
theorem dX10_dial_1 : decode cX10_dial 1 = .ok (.invokestatic 107, 3) := by decide +kernel
theorem dX10_dial_4 : decode cX10_dial 4 = .ok (.ifCond .eq 12, 3) := by decide +kernel
theorem dX10_dial_7 : decode cX10_dial 7 = .ok (.aload_n 0, 1) := by decide +kernel
theorem dX10_dial_8 : decode cX10_dial 8 = .ok (.getfield 43, 3) := by decide +kernel
theorem dX10_dial_11 : decode cX10_dial 11 = .ok (.iload_n 1, 1) := by decide +kernel
theorem dX10_dial_12 : decode cX10_dial 12 = .ok (.daload, 1) := by decide +kernel
theorem dX10_dial_13 : decode cX10_dial 13 = .ok (.goto 4, 3) := by decide +kernel
theorem dX10_dial_16 : decode cX10_dial 16 = .ok (.dconst 0, 1) := by decide +kernel
theorem dX10_dial_17 : decode cX10_dial 17 = .ok (.dreturn, 1) := by decide +kernel
theorem dX10_size_0 : decode cX10_size 0 = .ok (.iload_n 1, 1) := by decide +kernel
theorem dX10_size_1 : decode cX10_size 1 = .ok (.invokestatic 111, 3) := by decide +kernel
theorem dX10_size_4 : decode cX10_size 4 = .ok (.ifCond .ne 6, 3) := by decide +kernel
theorem dX10_size_7 : decode cX10_size 7 = .ok (.bipush (-2), 2) := by decide +kernel
theorem dX10_size_9 : decode cX10_size 9 = .ok (.ireturn, 1) := by decide +kernel
theorem dX10_size_10 : decode cX10_size 10 = .ok (.aload_n 0, 1) := by decide +kernel
theorem dX10_size_11 : decode cX10_size 11 = .ok (.getfield 47, 3) := by decide +kernel
theorem dX10_size_14 : decode cX10_size 14 = .ok (.iload_n 1, 1) := by decide +kernel
theorem dX10_size_15 : decode cX10_size 15 = .ok (.baload, 1) := by decide +kernel
theorem dX10_size_16 : decode cX10_size 16 = .ok (.ifCond .eq 12, 3) := by decide +kernel
theorem dX10_size_19 : decode cX10_size 19 = .ok (.aload_n 0, 1) := by decide +kernel
theorem dX10_size_20 : decode cX10_size 20 = .ok (.getfield 51, 3) := by decide +kernel
theorem dX10_size_23 : decode cX10_size 23 = .ok (.iload_n 1, 1) := by decide +kernel
theorem dX10_size_24 : decode cX10_size 24 = .ok (.iaload, 1) := by decide +kernel
theorem dX10_size_25 : decode cX10_size 25 = .ok (.goto 4, 3) := by decide +kernel
theorem dX10_size_28 : decode cX10_size 28 = .ok (.iconst (-1), 1) := by decide +kernel
theorem dX10_size_29 : decode cX10_size 29 = .ok (.ireturn, 1) := by decide +kernel
theorem dX10_value_0 : decode cX10_value 0 = .ok (.iload_n 1, 1) := by decide +kernel
theorem dX10_value_1 : decode cX10_value 1 = .ok (.invokestatic 111, 3) := by decide +kernel
theorem dX10_value_4 : decode cX10_value 4 = .ok (.ifCond .eq 27, 3) := by decide +kernel
theorem dX10_value_7 : decode cX10_value 7 = .ok (.aload_n 0, 1) := by decide +kernel
theorem dX10_value_8 : decode cX10_value 8 = .ok (.iload_n 1, 1) := by decide +kernel
theorem dX10_value_9 : decode cX10_value 9 = .ok (.iload_n 2, 1) := by decide +kernel
theorem dX10_value_10 : decode cX10_value 10 = .ok (.iconst 1, 1) := by decide +kernel
theorem dX10_value_11 : decode cX10_value 11 = .ok (.invokevirtual 244, 3) := by decide +kernel
theorem dX10_value_14 : decode cX10_value 14 = .ok (.ifCond .ne 17, 3) := by decide +kernel
theorem dX10_value_17 : decode cX10_value 17 = .ok (.aload_n 0, 1) := by decide +kernel
theorem dX10_value_18 : decode cX10_value 18 = .ok (.getfield 54, 3) := by decide +kernel
theorem dX10_value_21 : decode cX10_value 21 = .ok (.bipush 16, 2) := by decide +kernel
theorem dX10_value_23 : decode cX10_value 23 = .ok (.iload_n 1, 1) := by decide +kernel
theorem dX10_value_24 : decode cX10_value 24 = .ok (.imul, 1) := by decide +kernel
theorem dX10_value_25 : decode cX10_value 25 = .ok (.iload_n 2, 1) := by decide +kernel
theorem dX10_value_26 : decode cX10_value 26 = .ok (.iadd, 1) := by decide +kernel
theorem dX10_value_27 : decode cX10_value 27 = .ok (.daload, 1) := by decide +kernel
theorem dX10_value_28 : decode cX10_value 28 = .ok (.goto 4, 3) := by decide +kernel
theorem dX10_value_31 : decode cX10_value 31 = .ok (.dconst 0, 1) := by decide +kernel
theorem dX10_value_32 : decode cX10_value 32 = .ok (.dreturn, 1) := by decide +kernel
theorem dX10_isFitted_0 : decode cX10_isFitted 0 = .ok (.iload_n 1, 1) := by decide +kernel
theorem dX10_isFitted_1 : decode cX10_isFitted 1 = .ok (.invokestatic 111, 3) := by decide +kernel
theorem dX10_isFitted_4 : decode cX10_isFitted 4 = .ok (.ifCond .eq 23, 3) := by decide +kernel
theorem dX10_isFitted_7 : decode cX10_isFitted 7 = .ok (.iload_n 1, 1) := by decide +kernel
theorem dX10_isFitted_8 : decode cX10_isFitted 8 = .ok (.bipush 16, 2) := by decide +kernel
theorem dX10_isFitted_10 : decode cX10_isFitted 10 = .ok (.if_icmp .lt 17, 3) := by decide +kernel
theorem dX10_isFitted_13 : decode cX10_isFitted 13 = .ok (.aload_n 0, 1) := by decide +kernel
theorem dX10_isFitted_14 : decode cX10_isFitted 14 = .ok (.iload_n 1, 1) := by decide +kernel
theorem dX10_isFitted_15 : decode cX10_isFitted 15 = .ok (.iload_n 2, 1) := by decide +kernel
theorem dX10_isFitted_16 : decode cX10_isFitted 16 = .ok (.iconst 1, 1) := by decide +kernel
theorem dX10_isFitted_17 : decode cX10_isFitted 17 = .ok (.invokevirtual 244, 3) := by decide +kernel
theorem dX10_isFitted_20 : decode cX10_isFitted 20 = .ok (.ifCond .ne 7, 3) := by decide +kernel
theorem dX10_isFitted_23 : decode cX10_isFitted 23 = .ok (.iconst 1, 1) := by decide +kernel
theorem dX10_isFitted_24 : decode cX10_isFitted 24 = .ok (.goto 4, 3) := by decide +kernel
theorem dX10_isFitted_27 : decode cX10_isFitted 27 = .ok (.iconst 0, 1) := by decide +kernel
theorem dX10_isFitted_28 : decode cX10_isFitted 28 = .ok (.ireturn, 1) := by decide +kernel
theorem dX10_log_0 : decode cX10_log 0 = .ok (.iload_n 1, 1) := by decide +kernel
theorem dX10_log_1 : decode cX10_log 1 = .ok (.iconst 0, 1) := by decide +kernel
theorem dX10_log_2 : decode cX10_log 2 = .ok (.aload_n 0, 1) := by decide +kernel
theorem dX10_log_3 : decode cX10_log 3 = .ok (.getfield 207, 3) := by decide +kernel
theorem dX10_log_6 : decode cX10_log 6 = .ok (.iconst 1, 1) := by decide +kernel
theorem dX10_log_7 : decode cX10_log 7 = .ok (.isub, 1) := by decide +kernel
theorem dX10_log_8 : decode cX10_log 8 = .ok (.invokestatic 100, 3) := by decide +kernel
theorem dX10_log_11 : decode cX10_log 11 = .ok (.ifCond .eq 12, 3) := by decide +kernel
theorem dX10_log_14 : decode cX10_log 14 = .ok (.aload_n 0, 1) := by decide +kernel
theorem dX10_log_15 : decode cX10_log 15 = .ok (.getfield 94, 3) := by decide +kernel
theorem dX10_log_18 : decode cX10_log 18 = .ok (.iload_n 1, 1) := by decide +kernel
theorem dX10_log_19 : decode cX10_log 19 = .ok (.daload, 1) := by decide +kernel
theorem dX10_log_20 : decode cX10_log 20 = .ok (.goto 4, 3) := by decide +kernel
theorem dX10_log_23 : decode cX10_log 23 = .ok (.dconst 0, 1) := by decide +kernel
theorem dX10_log_24 : decode cX10_log 24 = .ok (.dreturn, 1) := by decide +kernel
theorem dX10_isMinus_0 : decode cX10_isMinus 0 = .ok (.iload_n 1, 1) := by decide +kernel
theorem dX10_isMinus_1 : decode cX10_isMinus 1 = .ok (.iconst 0, 1) := by decide +kernel
theorem dX10_isMinus_2 : decode cX10_isMinus 2 = .ok (.aload_n 0, 1) := by decide +kernel
theorem dX10_isMinus_3 : decode cX10_isMinus 3 = .ok (.getfield 207, 3) := by decide +kernel
theorem dX10_isMinus_6 : decode cX10_isMinus 6 = .ok (.iconst 1, 1) := by decide +kernel
theorem dX10_isMinus_7 : decode cX10_isMinus 7 = .ok (.isub, 1) := by decide +kernel
theorem dX10_isMinus_8 : decode cX10_isMinus 8 = .ok (.invokestatic 100, 3) := by decide +kernel
theorem dX10_isMinus_11 : decode cX10_isMinus 11 = .ok (.ifCond .eq 19, 3) := by decide +kernel
theorem dX10_isMinus_14 : decode cX10_isMinus 14 = .ok (.aload_n 0, 1) := by decide +kernel
theorem dX10_isMinus_15 : decode cX10_isMinus 15 = .ok (.getfield 94, 3) := by decide +kernel
theorem dX10_isMinus_18 : decode cX10_isMinus 18 = .ok (.iload_n 1, 1) := by decide +kernel
theorem dX10_isMinus_19 : decode cX10_isMinus 19 = .ok (.daload, 1) := by decide +kernel
theorem dX10_isMinus_20 : decode cX10_isMinus 20 = .ok (.invokestatic 272, 3) := by decide +kernel
theorem dX10_isMinus_23 : decode cX10_isMinus 23 = .ok (.ifCond .eq 7, 3) := by decide +kernel
theorem dX10_isMinus_26 : decode cX10_isMinus 26 = .ok (.iconst 1, 1) := by decide +kernel
theorem dX10_isMinus_27 : decode cX10_isMinus 27 = .ok (.goto 4, 3) := by decide +kernel
theorem dX10_isMinus_30 : decode cX10_isMinus 30 = .ok (.iconst 0, 1) := by decide +kernel
theorem dX10_isMinus_31 : decode cX10_isMinus 31 = .ok (.ireturn, 1) := by decide +kernel
theorem dX10_count_0 : decode cX10_count 0 = .ok (.iload_n 1, 1) := by decide +kernel
theorem dX10_count_1 : decode cX10_count 1 = .ok (.tableswitch 79 0 5 #[39, 49, 59, 64, 69, 74], 39) := by decide +kernel
theorem dX10_count_40 : decode cX10_count 40 = .ok (.aload_n 0, 1) := by decide +kernel
theorem dX10_count_41 : decode cX10_count 41 = .ok (.getfield 28, 3) := by decide +kernel
theorem dX10_count_44 : decode cX10_count 44 = .ok (.aload_n 0, 1) := by decide +kernel
theorem dX10_count_45 : decode cX10_count 45 = .ok (.getfield 104, 3) := by decide +kernel
theorem dX10_count_48 : decode cX10_count 48 = .ok (.iaload, 1) := by decide +kernel
theorem dX10_count_49 : decode cX10_count 49 = .ok (.ireturn, 1) := by decide +kernel
theorem dX10_count_50 : decode cX10_count 50 = .ok (.aload_n 0, 1) := by decide +kernel
theorem dX10_count_51 : decode cX10_count 51 = .ok (.getfield 31, 3) := by decide +kernel
theorem dX10_count_54 : decode cX10_count 54 = .ok (.aload_n 0, 1) := by decide +kernel
theorem dX10_count_55 : decode cX10_count 55 = .ok (.getfield 104, 3) := by decide +kernel
theorem dX10_count_58 : decode cX10_count 58 = .ok (.iaload, 1) := by decide +kernel
theorem dX10_count_59 : decode cX10_count 59 = .ok (.ireturn, 1) := by decide +kernel
theorem dX10_count_60 : decode cX10_count 60 = .ok (.aload_n 0, 1) := by decide +kernel
theorem dX10_count_61 : decode cX10_count 61 = .ok (.getfield 184, 3) := by decide +kernel
theorem dX10_count_64 : decode cX10_count 64 = .ok (.ireturn, 1) := by decide +kernel
theorem dX10_count_65 : decode cX10_count 65 = .ok (.aload_n 0, 1) := by decide +kernel
theorem dX10_count_66 : decode cX10_count 66 = .ok (.getfield 207, 3) := by decide +kernel
theorem dX10_count_69 : decode cX10_count 69 = .ok (.ireturn, 1) := by decide +kernel
theorem dX10_count_70 : decode cX10_count 70 = .ok (.aload_n 0, 1) := by decide +kernel
theorem dX10_count_71 : decode cX10_count 71 = .ok (.getfield 175, 3) := by decide +kernel
theorem dX10_count_74 : decode cX10_count 74 = .ok (.ireturn, 1) := by decide +kernel
theorem dX10_count_75 : decode cX10_count 75 = .ok (.aload_n 0, 1) := by decide +kernel
theorem dX10_count_76 : decode cX10_count 76 = .ok (.getfield 166, 3) := by decide +kernel
theorem dX10_count_79 : decode cX10_count 79 = .ok (.ireturn, 1) := by decide +kernel
theorem dX10_count_80 : decode cX10_count 80 = .ok (.iconst (-1), 1) := by decide +kernel
theorem dX10_count_81 : decode cX10_count 81 = .ok (.ireturn, 1) := by decide +kernel
theorem dX10_fault_0 : decode cX10_fault 0 = .ok (.aload_n 0, 1) := by decide +kernel
theorem dX10_fault_1 : decode cX10_fault 1 = .ok (.getfield 75, 3) := by decide +kernel
theorem dX10_fault_4 : decode cX10_fault 4 = .ok (.ifCond .ge 5, 3) := by decide +kernel
theorem dX10_fault_7 : decode cX10_fault 7 = .ok (.iconst (-1), 1) := by decide +kernel
theorem dX10_fault_8 : decode cX10_fault 8 = .ok (.ireturn, 1) := by decide +kernel
theorem dX10_fault_9 : decode cX10_fault 9 = .ok (.iload_n 1, 1) := by decide +kernel
theorem dX10_fault_10 : decode cX10_fault 10 = .ok (.tableswitch 110 0 5 #[38, 48, 58, 67, 77, 87], 38) := by decide +kernel
theorem dX10_fault_48 : decode cX10_fault 48 = .ok (.aload_n 0, 1) := by decide +kernel
theorem dX10_fault_49 : decode cX10_fault 49 = .ok (.getfield 60, 3) := by decide +kernel
theorem dX10_fault_52 : decode cX10_fault 52 = .ok (.aload_n 0, 1) := by decide +kernel
theorem dX10_fault_53 : decode cX10_fault 53 = .ok (.getfield 75, 3) := by decide +kernel
theorem dX10_fault_56 : decode cX10_fault 56 = .ok (.iaload, 1) := by decide +kernel
theorem dX10_fault_57 : decode cX10_fault 57 = .ok (.ireturn, 1) := by decide +kernel
theorem dX10_fault_58 : decode cX10_fault 58 = .ok (.aload_n 0, 1) := by decide +kernel
theorem dX10_fault_59 : decode cX10_fault 59 = .ok (.getfield 63, 3) := by decide +kernel
theorem dX10_fault_62 : decode cX10_fault 62 = .ok (.aload_n 0, 1) := by decide +kernel
theorem dX10_fault_63 : decode cX10_fault 63 = .ok (.getfield 75, 3) := by decide +kernel
theorem dX10_fault_66 : decode cX10_fault 66 = .ok (.iaload, 1) := by decide +kernel
theorem dX10_fault_67 : decode cX10_fault 67 = .ok (.ireturn, 1) := by decide +kernel
theorem dX10_fault_68 : decode cX10_fault 68 = .ok (.aload_n 0, 1) := by decide +kernel
theorem dX10_fault_69 : decode cX10_fault 69 = .ok (.aload_n 0, 1) := by decide +kernel
theorem dX10_fault_70 : decode cX10_fault 70 = .ok (.getfield 75, 3) := by decide +kernel
theorem dX10_fault_73 : decode cX10_fault 73 = .ok (.invokevirtual 229, 3) := by decide +kernel
theorem dX10_fault_76 : decode cX10_fault 76 = .ok (.ireturn, 1) := by decide +kernel
theorem dX10_fault_77 : decode cX10_fault 77 = .ok (.aload_n 0, 1) := by decide +kernel
theorem dX10_fault_78 : decode cX10_fault 78 = .ok (.getfield 66, 3) := by decide +kernel
theorem dX10_fault_81 : decode cX10_fault 81 = .ok (.aload_n 0, 1) := by decide +kernel
theorem dX10_fault_82 : decode cX10_fault 82 = .ok (.getfield 75, 3) := by decide +kernel
theorem dX10_fault_85 : decode cX10_fault 85 = .ok (.iaload, 1) := by decide +kernel
theorem dX10_fault_86 : decode cX10_fault 86 = .ok (.ireturn, 1) := by decide +kernel
theorem dX10_fault_87 : decode cX10_fault 87 = .ok (.aload_n 0, 1) := by decide +kernel
theorem dX10_fault_88 : decode cX10_fault 88 = .ok (.getfield 72, 3) := by decide +kernel
theorem dX10_fault_91 : decode cX10_fault 91 = .ok (.aload_n 0, 1) := by decide +kernel
theorem dX10_fault_92 : decode cX10_fault 92 = .ok (.getfield 75, 3) := by decide +kernel
theorem dX10_fault_95 : decode cX10_fault 95 = .ok (.iaload, 1) := by decide +kernel
theorem dX10_fault_96 : decode cX10_fault 96 = .ok (.ireturn, 1) := by decide +kernel
theorem dX10_fault_97 : decode cX10_fault 97 = .ok (.aload_n 0, 1) := by decide +kernel
theorem dX10_fault_98 : decode cX10_fault 98 = .ok (.getfield 63, 3) := by decide +kernel
theorem dX10_fault_101 : decode cX10_fault 101 = .ok (.aload_n 0, 1) := by decide +kernel
theorem dX10_fault_102 : decode cX10_fault 102 = .ok (.aload_n 0, 1) := by decide +kernel
theorem dX10_fault_103 : decode cX10_fault 103 = .ok (.getfield 75, 3) := by decide +kernel
theorem dX10_fault_106 : decode cX10_fault 106 = .ok (.aload_n 0, 1) := by decide +kernel
theorem dX10_fault_107 : decode cX10_fault 107 = .ok (.getfield 72, 3) := by decide +kernel
theorem dX10_fault_110 : decode cX10_fault 110 = .ok (.aload_n 0, 1) := by decide +kernel
theorem dX10_fault_111 : decode cX10_fault 111 = .ok (.getfield 75, 3) := by decide +kernel
theorem dX10_fault_114 : decode cX10_fault 114 = .ok (.iaload, 1) := by decide +kernel
theorem dX10_fault_115 : decode cX10_fault 115 = .ok (.invokevirtual 148, 3) := by decide +kernel
theorem dX10_fault_118 : decode cX10_fault 118 = .ok (.iaload, 1) := by decide +kernel
theorem dX10_fault_119 : decode cX10_fault 119 = .ok (.ireturn, 1) := by decide +kernel
theorem dX10_fault_120 : decode cX10_fault 120 = .ok (.iconst (-1), 1) := by decide +kernel
theorem dX10_fault_121 : decode cX10_fault 121 = .ok (.ireturn, 1) := by decide +kernel
theorem dJ9_max_7cf53_0 : decode cJ9_max_7cf53 0 = .ok (.iload_n 0, 1) := by decide +kernel
theorem dJ9_max_7cf53_1 : decode cJ9_max_7cf53 1 = .ok (.iload_n 1, 1) := by decide +kernel
theorem dJ9_max_7cf53_2 : decode cJ9_max_7cf53 2 = .ok (.if_icmp .lt 7, 3) := by decide +kernel
theorem dJ9_max_7cf53_5 : decode cJ9_max_7cf53 5 = .ok (.iload_n 0, 1) := by decide +kernel
theorem dJ9_max_7cf53_6 : decode cJ9_max_7cf53 6 = .ok (.goto 4, 3) := by decide +kernel
theorem dJ9_max_7cf53_9 : decode cJ9_max_7cf53 9 = .ok (.iload_n 1, 1) := by decide +kernel
theorem dJ9_max_7cf53_10 : decode cJ9_max_7cf53 10 = .ok (.ireturn, 1) := by decide +kernel
theorem dL_law_0 : decode cL_law 0 = .ok (.new 7, 3) := by decide +kernel
theorem dL_law_3 : decode cL_law 3 = .ok (.dup, 1) := by decide +kernel
theorem dL_law_4 : decode cL_law 4 = .ok (.invokespecial 9, 3) := by decide +kernel
theorem dL_law_7 : decode cL_law 7 = .ok (.astore_n 1, 1) := by decide +kernel
theorem dL_law_8 : decode cL_law 8 = .ok (.new 10, 3) := by decide +kernel
theorem dL_law_11 : decode cL_law 11 = .ok (.dup, 1) := by decide +kernel
theorem dL_law_12 : decode cL_law 12 = .ok (.invokespecial 12, 3) := by decide +kernel
theorem dL_law_15 : decode cL_law 15 = .ok (.astore_n 2, 1) := by decide +kernel
theorem dL_law_16 : decode cL_law 16 = .ok (.iconst 0, 1) := by decide +kernel
theorem dL_law_17 : decode cL_law 17 = .ok (.istore_n 3, 1) := by decide +kernel
theorem dL_law_18 : decode cL_law 18 = .ok (.iload_n 3, 1) := by decide +kernel
theorem dL_law_19 : decode cL_law 19 = .ok (.aload_n 0, 1) := by decide +kernel
theorem dL_law_20 : decode cL_law 20 = .ok (.arraylength, 1) := by decide +kernel
theorem dL_law_21 : decode cL_law 21 = .ok (.iconst 5, 1) := by decide +kernel
theorem dL_law_22 : decode cL_law 22 = .ok (.isub, 1) := by decide +kernel
theorem dL_law_23 : decode cL_law 23 = .ok (.if_icmp .gt 469, 3) := by decide +kernel
theorem dL_law_26 : decode cL_law 26 = .ok (.aload_n 0, 1) := by decide +kernel
theorem dL_law_27 : decode cL_law 27 = .ok (.iload_n 3, 1) := by decide +kernel
theorem dL_law_28 : decode cL_law 28 = .ok (.iaload, 1) := by decide +kernel
theorem dL_law_29 : decode cL_law 29 = .ok (.bipush 15, 2) := by decide +kernel
theorem dL_law_31 : decode cL_law 31 = .ok (.iand, 1) := by decide +kernel
theorem dL_law_32 : decode cL_law 32 = .ok (.tableswitch 454 0 11 #[64, 87, 140, 153, 166, 217, 240, 301, 334, 385, 408, 431], 64) := by decide +kernel
theorem dL_law_96 : decode cL_law 96 = .ok (.aload_n 1, 1) := by decide +kernel
theorem dL_law_97 : decode cL_law 97 = .ok (.aload_n 0, 1) := by decide +kernel
theorem dL_law_98 : decode cL_law 98 = .ok (.iload_n 3, 1) := by decide +kernel
theorem dL_law_99 : decode cL_law 99 = .ok (.iconst 1, 1) := by decide +kernel
theorem dL_law_100 : decode cL_law 100 = .ok (.iadd, 1) := by decide +kernel
theorem dL_law_101 : decode cL_law 101 = .ok (.iaload, 1) := by decide +kernel
theorem dL_law_102 : decode cL_law 102 = .ok (.invokevirtual 13, 3) := by decide +kernel
theorem dL_law_105 : decode cL_law 105 = .ok (.aload_n 2, 1) := by decide +kernel
theorem dL_law_106 : decode cL_law 106 = .ok (.aload_n 0, 1) := by decide +kernel
theorem dL_law_107 : decode cL_law 107 = .ok (.iload_n 3, 1) := by decide +kernel
theorem dL_law_108 : decode cL_law 108 = .ok (.iconst 1, 1) := by decide +kernel
theorem dL_law_109 : decode cL_law 109 = .ok (.iadd, 1) := by decide +kernel
theorem dL_law_110 : decode cL_law 110 = .ok (.iaload, 1) := by decide +kernel
theorem dL_law_111 : decode cL_law 111 = .ok (.invokevirtual 17, 3) := by decide +kernel
theorem dL_law_114 : decode cL_law 114 = .ok (.if_icmp .eq 372, 3) := by decide +kernel
theorem dL_law_117 : decode cL_law 117 = .ok (.iconst 0, 1) := by decide +kernel
theorem dL_law_118 : decode cL_law 118 = .ok (.ireturn, 1) := by decide +kernel
theorem dL_law_119 : decode cL_law 119 = .ok (.aload_n 1, 1) := by decide +kernel
theorem dL_law_120 : decode cL_law 120 = .ok (.aload_n 0, 1) := by decide +kernel
theorem dL_law_121 : decode cL_law 121 = .ok (.iload_n 3, 1) := by decide +kernel
theorem dL_law_122 : decode cL_law 122 = .ok (.iconst 1, 1) := by decide +kernel
theorem dL_law_123 : decode cL_law 123 = .ok (.iadd, 1) := by decide +kernel
theorem dL_law_124 : decode cL_law 124 = .ok (.iaload, 1) := by decide +kernel
theorem dL_law_125 : decode cL_law 125 = .ok (.aload_n 0, 1) := by decide +kernel
theorem dL_law_126 : decode cL_law 126 = .ok (.iload_n 3, 1) := by decide +kernel
theorem dL_law_127 : decode cL_law 127 = .ok (.iconst 2, 1) := by decide +kernel
theorem dL_law_128 : decode cL_law 128 = .ok (.iadd, 1) := by decide +kernel
theorem dL_law_129 : decode cL_law 129 = .ok (.iaload, 1) := by decide +kernel
theorem dL_law_130 : decode cL_law 130 = .ok (.aload_n 0, 1) := by decide +kernel
theorem dL_law_131 : decode cL_law 131 = .ok (.iload_n 3, 1) := by decide +kernel
theorem dL_law_132 : decode cL_law 132 = .ok (.iconst 3, 1) := by decide +kernel
theorem dL_law_133 : decode cL_law 133 = .ok (.iadd, 1) := by decide +kernel
theorem dL_law_134 : decode cL_law 134 = .ok (.iaload, 1) := by decide +kernel
theorem dL_law_135 : decode cL_law 135 = .ok (.aload_n 0, 1) := by decide +kernel
theorem dL_law_136 : decode cL_law 136 = .ok (.iload_n 3, 1) := by decide +kernel
theorem dL_law_137 : decode cL_law 137 = .ok (.iconst 4, 1) := by decide +kernel
theorem dL_law_138 : decode cL_law 138 = .ok (.iadd, 1) := by decide +kernel
theorem dL_law_139 : decode cL_law 139 = .ok (.iaload, 1) := by decide +kernel
theorem dL_law_140 : decode cL_law 140 = .ok (.invokevirtual 18, 3) := by decide +kernel
theorem dL_law_143 : decode cL_law 143 = .ok (.aload_n 2, 1) := by decide +kernel
theorem dL_law_144 : decode cL_law 144 = .ok (.aload_n 0, 1) := by decide +kernel
theorem dL_law_145 : decode cL_law 145 = .ok (.iload_n 3, 1) := by decide +kernel
theorem dL_law_146 : decode cL_law 146 = .ok (.iconst 1, 1) := by decide +kernel
theorem dL_law_147 : decode cL_law 147 = .ok (.iadd, 1) := by decide +kernel
theorem dL_law_148 : decode cL_law 148 = .ok (.iaload, 1) := by decide +kernel
theorem dL_law_149 : decode cL_law 149 = .ok (.aload_n 0, 1) := by decide +kernel
theorem dL_law_150 : decode cL_law 150 = .ok (.iload_n 3, 1) := by decide +kernel
theorem dL_law_151 : decode cL_law 151 = .ok (.iconst 2, 1) := by decide +kernel
theorem dL_law_152 : decode cL_law 152 = .ok (.iadd, 1) := by decide +kernel
theorem dL_law_153 : decode cL_law 153 = .ok (.iaload, 1) := by decide +kernel
theorem dL_law_154 : decode cL_law 154 = .ok (.aload_n 0, 1) := by decide +kernel
theorem dL_law_155 : decode cL_law 155 = .ok (.iload_n 3, 1) := by decide +kernel
theorem dL_law_156 : decode cL_law 156 = .ok (.iconst 3, 1) := by decide +kernel
theorem dL_law_157 : decode cL_law 157 = .ok (.iadd, 1) := by decide +kernel
theorem dL_law_158 : decode cL_law 158 = .ok (.iaload, 1) := by decide +kernel
theorem dL_law_159 : decode cL_law 159 = .ok (.aload_n 0, 1) := by decide +kernel
theorem dL_law_160 : decode cL_law 160 = .ok (.iload_n 3, 1) := by decide +kernel
theorem dL_law_161 : decode cL_law 161 = .ok (.iconst 4, 1) := by decide +kernel
theorem dL_law_162 : decode cL_law 162 = .ok (.iadd, 1) := by decide +kernel
theorem dL_law_163 : decode cL_law 163 = .ok (.iaload, 1) := by decide +kernel
theorem dL_law_164 : decode cL_law 164 = .ok (.invokevirtual 22, 3) := by decide +kernel
theorem dL_law_167 : decode cL_law 167 = .ok (.if_icmp .eq 319, 3) := by decide +kernel
theorem dL_law_170 : decode cL_law 170 = .ok (.iconst 0, 1) := by decide +kernel
theorem dL_law_171 : decode cL_law 171 = .ok (.ireturn, 1) := by decide +kernel
theorem dL_law_172 : decode cL_law 172 = .ok (.aload_n 1, 1) := by decide +kernel
theorem dL_law_173 : decode cL_law 173 = .ok (.invokevirtual 23, 3) := by decide +kernel
theorem dL_law_176 : decode cL_law 176 = .ok (.aload_n 2, 1) := by decide +kernel
theorem dL_law_177 : decode cL_law 177 = .ok (.invokevirtual 27, 3) := by decide +kernel
theorem dL_law_180 : decode cL_law 180 = .ok (.if_icmp .eq 306, 3) := by decide +kernel
theorem dL_law_183 : decode cL_law 183 = .ok (.iconst 0, 1) := by decide +kernel
theorem dL_law_184 : decode cL_law 184 = .ok (.ireturn, 1) := by decide +kernel
theorem dL_law_185 : decode cL_law 185 = .ok (.aload_n 1, 1) := by decide +kernel
theorem dL_law_186 : decode cL_law 186 = .ok (.invokevirtual 28, 3) := by decide +kernel
theorem dL_law_189 : decode cL_law 189 = .ok (.aload_n 2, 1) := by decide +kernel
theorem dL_law_190 : decode cL_law 190 = .ok (.invokevirtual 31, 3) := by decide +kernel
theorem dL_law_193 : decode cL_law 193 = .ok (.if_icmp .eq 293, 3) := by decide +kernel
theorem dL_law_196 : decode cL_law 196 = .ok (.iconst 0, 1) := by decide +kernel
theorem dL_law_197 : decode cL_law 197 = .ok (.ireturn, 1) := by decide +kernel
theorem dL_law_198 : decode cL_law 198 = .ok (.aload_n 1, 1) := by decide +kernel
theorem dL_law_199 : decode cL_law 199 = .ok (.aload_n 0, 1) := by decide +kernel
theorem dL_law_200 : decode cL_law 200 = .ok (.iload_n 3, 1) := by decide +kernel
theorem dL_law_201 : decode cL_law 201 = .ok (.iconst 1, 1) := by decide +kernel
theorem dL_law_202 : decode cL_law 202 = .ok (.iadd, 1) := by decide +kernel
theorem dL_law_203 : decode cL_law 203 = .ok (.iaload, 1) := by decide +kernel
theorem dL_law_204 : decode cL_law 204 = .ok (.invokevirtual 32, 3) := by decide +kernel
theorem dL_law_207 : decode cL_law 207 = .ok (.dstore 4, 2) := by decide +kernel
theorem dL_law_209 : decode cL_law 209 = .ok (.aload_n 2, 1) := by decide +kernel
theorem dL_law_210 : decode cL_law 210 = .ok (.aload_n 0, 1) := by decide +kernel
theorem dL_law_211 : decode cL_law 211 = .ok (.iload_n 3, 1) := by decide +kernel
theorem dL_law_212 : decode cL_law 212 = .ok (.iconst 1, 1) := by decide +kernel
theorem dL_law_213 : decode cL_law 213 = .ok (.iadd, 1) := by decide +kernel
theorem dL_law_214 : decode cL_law 214 = .ok (.iaload, 1) := by decide +kernel
theorem dL_law_215 : decode cL_law 215 = .ok (.invokevirtual 36, 3) := by decide +kernel
theorem dL_law_218 : decode cL_law 218 = .ok (.dstore 6, 2) := by decide +kernel
theorem dL_law_220 : decode cL_law 220 = .ok (.dload 4, 2) := by decide +kernel
theorem dL_law_222 : decode cL_law 222 = .ok (.dload 6, 2) := by decide +kernel
theorem dL_law_224 : decode cL_law 224 = .ok (.dcmp .l, 1) := by decide +kernel
theorem dL_law_225 : decode cL_law 225 = .ok (.ifCond .eq 21, 3) := by decide +kernel
theorem dL_law_228 : decode cL_law 228 = .ok (.dload 4, 2) := by decide +kernel
theorem dL_law_230 : decode cL_law 230 = .ok (.dload 4, 2) := by decide +kernel
theorem dL_law_232 : decode cL_law 232 = .ok (.dcmp .l, 1) := by decide +kernel
theorem dL_law_233 : decode cL_law 233 = .ok (.ifCond .eq 11, 3) := by decide +kernel
theorem dL_law_236 : decode cL_law 236 = .ok (.dload 6, 2) := by decide +kernel
theorem dL_law_238 : decode cL_law 238 = .ok (.dload 6, 2) := by decide +kernel
theorem dL_law_240 : decode cL_law 240 = .ok (.dcmp .l, 1) := by decide +kernel
theorem dL_law_241 : decode cL_law 241 = .ok (.ifCond .ne 5, 3) := by decide +kernel
theorem dL_law_244 : decode cL_law 244 = .ok (.iconst 0, 1) := by decide +kernel
theorem dL_law_245 : decode cL_law 245 = .ok (.ireturn, 1) := by decide +kernel
theorem dL_law_246 : decode cL_law 246 = .ok (.goto 240, 3) := by decide +kernel
theorem dL_law_249 : decode cL_law 249 = .ok (.aload_n 1, 1) := by decide +kernel
theorem dL_law_250 : decode cL_law 250 = .ok (.aload_n 0, 1) := by decide +kernel
theorem dL_law_251 : decode cL_law 251 = .ok (.iload_n 3, 1) := by decide +kernel
theorem dL_law_252 : decode cL_law 252 = .ok (.iconst 1, 1) := by decide +kernel
theorem dL_law_253 : decode cL_law 253 = .ok (.iadd, 1) := by decide +kernel
theorem dL_law_254 : decode cL_law 254 = .ok (.iaload, 1) := by decide +kernel
theorem dL_law_255 : decode cL_law 255 = .ok (.invokevirtual 37, 3) := by decide +kernel
theorem dL_law_258 : decode cL_law 258 = .ok (.aload_n 2, 1) := by decide +kernel
theorem dL_law_259 : decode cL_law 259 = .ok (.aload_n 0, 1) := by decide +kernel
theorem dL_law_260 : decode cL_law 260 = .ok (.iload_n 3, 1) := by decide +kernel
theorem dL_law_261 : decode cL_law 261 = .ok (.iconst 1, 1) := by decide +kernel
theorem dL_law_262 : decode cL_law 262 = .ok (.iadd, 1) := by decide +kernel
theorem dL_law_263 : decode cL_law 263 = .ok (.iaload, 1) := by decide +kernel
theorem dL_law_264 : decode cL_law 264 = .ok (.invokevirtual 40, 3) := by decide +kernel
theorem dL_law_267 : decode cL_law 267 = .ok (.if_icmp .eq 219, 3) := by decide +kernel
theorem dL_law_270 : decode cL_law 270 = .ok (.iconst 0, 1) := by decide +kernel
theorem dL_law_271 : decode cL_law 271 = .ok (.ireturn, 1) := by decide +kernel
theorem dL_law_272 : decode cL_law 272 = .ok (.aload_n 1, 1) := by decide +kernel
theorem dL_law_273 : decode cL_law 273 = .ok (.aload_n 0, 1) := by decide +kernel
theorem dL_law_274 : decode cL_law 274 = .ok (.iload_n 3, 1) := by decide +kernel
theorem dL_law_275 : decode cL_law 275 = .ok (.iconst 1, 1) := by decide +kernel
theorem dL_law_276 : decode cL_law 276 = .ok (.iadd, 1) := by decide +kernel
theorem dL_law_277 : decode cL_law 277 = .ok (.iaload, 1) := by decide +kernel
theorem dL_law_278 : decode cL_law 278 = .ok (.aload_n 0, 1) := by decide +kernel
theorem dL_law_279 : decode cL_law 279 = .ok (.iload_n 3, 1) := by decide +kernel
theorem dL_law_280 : decode cL_law 280 = .ok (.iconst 2, 1) := by decide +kernel
theorem dL_law_281 : decode cL_law 281 = .ok (.iadd, 1) := by decide +kernel
theorem dL_law_282 : decode cL_law 282 = .ok (.iaload, 1) := by decide +kernel
theorem dL_law_283 : decode cL_law 283 = .ok (.invokevirtual 41, 3) := by decide +kernel
theorem dL_law_286 : decode cL_law 286 = .ok (.dstore 4, 2) := by decide +kernel
theorem dL_law_288 : decode cL_law 288 = .ok (.aload_n 2, 1) := by decide +kernel
theorem dL_law_289 : decode cL_law 289 = .ok (.aload_n 0, 1) := by decide +kernel
theorem dL_law_290 : decode cL_law 290 = .ok (.iload_n 3, 1) := by decide +kernel
theorem dL_law_291 : decode cL_law 291 = .ok (.iconst 1, 1) := by decide +kernel
theorem dL_law_292 : decode cL_law 292 = .ok (.iadd, 1) := by decide +kernel
theorem dL_law_293 : decode cL_law 293 = .ok (.iaload, 1) := by decide +kernel
theorem dL_law_294 : decode cL_law 294 = .ok (.aload_n 0, 1) := by decide +kernel
theorem dL_law_295 : decode cL_law 295 = .ok (.iload_n 3, 1) := by decide +kernel
theorem dL_law_296 : decode cL_law 296 = .ok (.iconst 2, 1) := by decide +kernel
theorem dL_law_297 : decode cL_law 297 = .ok (.iadd, 1) := by decide +kernel
theorem dL_law_298 : decode cL_law 298 = .ok (.iaload, 1) := by decide +kernel
theorem dL_law_299 : decode cL_law 299 = .ok (.invokevirtual 45, 3) := by decide +kernel
theorem dL_law_302 : decode cL_law 302 = .ok (.dstore 6, 2) := by decide +kernel
theorem dL_law_304 : decode cL_law 304 = .ok (.dload 4, 2) := by decide +kernel
theorem dL_law_306 : decode cL_law 306 = .ok (.dload 6, 2) := by decide +kernel
theorem dL_law_308 : decode cL_law 308 = .ok (.dcmp .l, 1) := by decide +kernel
theorem dL_law_309 : decode cL_law 309 = .ok (.ifCond .eq 21, 3) := by decide +kernel
theorem dL_law_312 : decode cL_law 312 = .ok (.dload 4, 2) := by decide +kernel
theorem dL_law_314 : decode cL_law 314 = .ok (.dload 4, 2) := by decide +kernel
theorem dL_law_316 : decode cL_law 316 = .ok (.dcmp .l, 1) := by decide +kernel
theorem dL_law_317 : decode cL_law 317 = .ok (.ifCond .eq 11, 3) := by decide +kernel
theorem dL_law_320 : decode cL_law 320 = .ok (.dload 6, 2) := by decide +kernel
theorem dL_law_322 : decode cL_law 322 = .ok (.dload 6, 2) := by decide +kernel
theorem dL_law_324 : decode cL_law 324 = .ok (.dcmp .l, 1) := by decide +kernel
theorem dL_law_325 : decode cL_law 325 = .ok (.ifCond .ne 5, 3) := by decide +kernel
theorem dL_law_328 : decode cL_law 328 = .ok (.iconst 0, 1) := by decide +kernel
theorem dL_law_329 : decode cL_law 329 = .ok (.ireturn, 1) := by decide +kernel
theorem dL_law_330 : decode cL_law 330 = .ok (.goto 156, 3) := by decide +kernel
theorem dL_law_333 : decode cL_law 333 = .ok (.aload_n 1, 1) := by decide +kernel
theorem dL_law_334 : decode cL_law 334 = .ok (.aload_n 0, 1) := by decide +kernel
theorem dL_law_335 : decode cL_law 335 = .ok (.iload_n 3, 1) := by decide +kernel
theorem dL_law_336 : decode cL_law 336 = .ok (.iconst 1, 1) := by decide +kernel
theorem dL_law_337 : decode cL_law 337 = .ok (.iadd, 1) := by decide +kernel
theorem dL_law_338 : decode cL_law 338 = .ok (.iaload, 1) := by decide +kernel
theorem dL_law_339 : decode cL_law 339 = .ok (.aload_n 0, 1) := by decide +kernel
theorem dL_law_340 : decode cL_law 340 = .ok (.iload_n 3, 1) := by decide +kernel
theorem dL_law_341 : decode cL_law 341 = .ok (.iconst 2, 1) := by decide +kernel
theorem dL_law_342 : decode cL_law 342 = .ok (.iadd, 1) := by decide +kernel
theorem dL_law_343 : decode cL_law 343 = .ok (.iaload, 1) := by decide +kernel
theorem dL_law_344 : decode cL_law 344 = .ok (.invokevirtual 46, 3) := by decide +kernel
theorem dL_law_347 : decode cL_law 347 = .ok (.aload_n 2, 1) := by decide +kernel
theorem dL_law_348 : decode cL_law 348 = .ok (.aload_n 0, 1) := by decide +kernel
theorem dL_law_349 : decode cL_law 349 = .ok (.iload_n 3, 1) := by decide +kernel
theorem dL_law_350 : decode cL_law 350 = .ok (.iconst 1, 1) := by decide +kernel
theorem dL_law_351 : decode cL_law 351 = .ok (.iadd, 1) := by decide +kernel
theorem dL_law_352 : decode cL_law 352 = .ok (.iaload, 1) := by decide +kernel
theorem dL_law_353 : decode cL_law 353 = .ok (.aload_n 0, 1) := by decide +kernel
theorem dL_law_354 : decode cL_law 354 = .ok (.iload_n 3, 1) := by decide +kernel
theorem dL_law_355 : decode cL_law 355 = .ok (.iconst 2, 1) := by decide +kernel
theorem dL_law_356 : decode cL_law 356 = .ok (.iadd, 1) := by decide +kernel
theorem dL_law_357 : decode cL_law 357 = .ok (.iaload, 1) := by decide +kernel
theorem dL_law_358 : decode cL_law 358 = .ok (.invokevirtual 50, 3) := by decide +kernel
theorem dL_law_361 : decode cL_law 361 = .ok (.if_icmp .eq 125, 3) := by decide +kernel
theorem dL_law_364 : decode cL_law 364 = .ok (.iconst 0, 1) := by decide +kernel
theorem dL_law_365 : decode cL_law 365 = .ok (.ireturn, 1) := by decide +kernel
theorem dL_law_366 : decode cL_law 366 = .ok (.aload_n 1, 1) := by decide +kernel
theorem dL_law_367 : decode cL_law 367 = .ok (.aload_n 0, 1) := by decide +kernel
theorem dL_law_368 : decode cL_law 368 = .ok (.iload_n 3, 1) := by decide +kernel
theorem dL_law_369 : decode cL_law 369 = .ok (.iconst 1, 1) := by decide +kernel
theorem dL_law_370 : decode cL_law 370 = .ok (.iadd, 1) := by decide +kernel
theorem dL_law_371 : decode cL_law 371 = .ok (.iaload, 1) := by decide +kernel
theorem dL_law_372 : decode cL_law 372 = .ok (.invokevirtual 51, 3) := by decide +kernel
theorem dL_law_375 : decode cL_law 375 = .ok (.dstore 4, 2) := by decide +kernel
theorem dL_law_377 : decode cL_law 377 = .ok (.aload_n 2, 1) := by decide +kernel
theorem dL_law_378 : decode cL_law 378 = .ok (.aload_n 0, 1) := by decide +kernel
theorem dL_law_379 : decode cL_law 379 = .ok (.iload_n 3, 1) := by decide +kernel
theorem dL_law_380 : decode cL_law 380 = .ok (.iconst 1, 1) := by decide +kernel
theorem dL_law_381 : decode cL_law 381 = .ok (.iadd, 1) := by decide +kernel
theorem dL_law_382 : decode cL_law 382 = .ok (.iaload, 1) := by decide +kernel
theorem dL_law_383 : decode cL_law 383 = .ok (.invokevirtual 54, 3) := by decide +kernel
theorem dL_law_386 : decode cL_law 386 = .ok (.dstore 6, 2) := by decide +kernel
theorem dL_law_388 : decode cL_law 388 = .ok (.dload 4, 2) := by decide +kernel
theorem dL_law_390 : decode cL_law 390 = .ok (.dload 6, 2) := by decide +kernel
theorem dL_law_392 : decode cL_law 392 = .ok (.dcmp .l, 1) := by decide +kernel
theorem dL_law_393 : decode cL_law 393 = .ok (.ifCond .eq 21, 3) := by decide +kernel
theorem dL_law_396 : decode cL_law 396 = .ok (.dload 4, 2) := by decide +kernel
theorem dL_law_398 : decode cL_law 398 = .ok (.dload 4, 2) := by decide +kernel
theorem dL_law_400 : decode cL_law 400 = .ok (.dcmp .l, 1) := by decide +kernel
theorem dL_law_401 : decode cL_law 401 = .ok (.ifCond .eq 11, 3) := by decide +kernel
theorem dL_law_404 : decode cL_law 404 = .ok (.dload 6, 2) := by decide +kernel
theorem dL_law_406 : decode cL_law 406 = .ok (.dload 6, 2) := by decide +kernel
theorem dL_law_408 : decode cL_law 408 = .ok (.dcmp .l, 1) := by decide +kernel
theorem dL_law_409 : decode cL_law 409 = .ok (.ifCond .ne 5, 3) := by decide +kernel
theorem dL_law_412 : decode cL_law 412 = .ok (.iconst 0, 1) := by decide +kernel
theorem dL_law_413 : decode cL_law 413 = .ok (.ireturn, 1) := by decide +kernel
theorem dL_law_414 : decode cL_law 414 = .ok (.goto 72, 3) := by decide +kernel
theorem dL_law_417 : decode cL_law 417 = .ok (.aload_n 1, 1) := by decide +kernel
theorem dL_law_418 : decode cL_law 418 = .ok (.aload_n 0, 1) := by decide +kernel
theorem dL_law_419 : decode cL_law 419 = .ok (.iload_n 3, 1) := by decide +kernel
theorem dL_law_420 : decode cL_law 420 = .ok (.iconst 1, 1) := by decide +kernel
theorem dL_law_421 : decode cL_law 421 = .ok (.iadd, 1) := by decide +kernel
theorem dL_law_422 : decode cL_law 422 = .ok (.iaload, 1) := by decide +kernel
theorem dL_law_423 : decode cL_law 423 = .ok (.invokevirtual 55, 3) := by decide +kernel
theorem dL_law_426 : decode cL_law 426 = .ok (.aload_n 2, 1) := by decide +kernel
theorem dL_law_427 : decode cL_law 427 = .ok (.aload_n 0, 1) := by decide +kernel
theorem dL_law_428 : decode cL_law 428 = .ok (.iload_n 3, 1) := by decide +kernel
theorem dL_law_429 : decode cL_law 429 = .ok (.iconst 1, 1) := by decide +kernel
theorem dL_law_430 : decode cL_law 430 = .ok (.iadd, 1) := by decide +kernel
theorem dL_law_431 : decode cL_law 431 = .ok (.iaload, 1) := by decide +kernel
theorem dL_law_432 : decode cL_law 432 = .ok (.invokevirtual 59, 3) := by decide +kernel
theorem dL_law_435 : decode cL_law 435 = .ok (.if_icmp .eq 51, 3) := by decide +kernel
theorem dL_law_438 : decode cL_law 438 = .ok (.iconst 0, 1) := by decide +kernel
theorem dL_law_439 : decode cL_law 439 = .ok (.ireturn, 1) := by decide +kernel
theorem dL_law_440 : decode cL_law 440 = .ok (.aload_n 1, 1) := by decide +kernel
theorem dL_law_441 : decode cL_law 441 = .ok (.aload_n 0, 1) := by decide +kernel
theorem dL_law_442 : decode cL_law 442 = .ok (.iload_n 3, 1) := by decide +kernel
theorem dL_law_443 : decode cL_law 443 = .ok (.iconst 1, 1) := by decide +kernel
theorem dL_law_444 : decode cL_law 444 = .ok (.iadd, 1) := by decide +kernel
theorem dL_law_445 : decode cL_law 445 = .ok (.iaload, 1) := by decide +kernel
theorem dL_law_446 : decode cL_law 446 = .ok (.invokevirtual 60, 3) := by decide +kernel
theorem dL_law_449 : decode cL_law 449 = .ok (.aload_n 2, 1) := by decide +kernel
theorem dL_law_450 : decode cL_law 450 = .ok (.aload_n 0, 1) := by decide +kernel
theorem dL_law_451 : decode cL_law 451 = .ok (.iload_n 3, 1) := by decide +kernel
theorem dL_law_452 : decode cL_law 452 = .ok (.iconst 1, 1) := by decide +kernel
theorem dL_law_453 : decode cL_law 453 = .ok (.iadd, 1) := by decide +kernel
theorem dL_law_454 : decode cL_law 454 = .ok (.iaload, 1) := by decide +kernel
theorem dL_law_455 : decode cL_law 455 = .ok (.invokevirtual 63, 3) := by decide +kernel
theorem dL_law_458 : decode cL_law 458 = .ok (.if_icmp .eq 28, 3) := by decide +kernel
theorem dL_law_461 : decode cL_law 461 = .ok (.iconst 0, 1) := by decide +kernel
theorem dL_law_462 : decode cL_law 462 = .ok (.ireturn, 1) := by decide +kernel
theorem dL_law_463 : decode cL_law 463 = .ok (.aload_n 1, 1) := by decide +kernel
theorem dL_law_464 : decode cL_law 464 = .ok (.aload_n 0, 1) := by decide +kernel
theorem dL_law_465 : decode cL_law 465 = .ok (.iload_n 3, 1) := by decide +kernel
theorem dL_law_466 : decode cL_law 466 = .ok (.iconst 1, 1) := by decide +kernel
theorem dL_law_467 : decode cL_law 467 = .ok (.iadd, 1) := by decide +kernel
theorem dL_law_468 : decode cL_law 468 = .ok (.iaload, 1) := by decide +kernel
theorem dL_law_469 : decode cL_law 469 = .ok (.invokevirtual 64, 3) := by decide +kernel
theorem dL_law_472 : decode cL_law 472 = .ok (.aload_n 2, 1) := by decide +kernel
theorem dL_law_473 : decode cL_law 473 = .ok (.aload_n 0, 1) := by decide +kernel
theorem dL_law_474 : decode cL_law 474 = .ok (.iload_n 3, 1) := by decide +kernel
theorem dL_law_475 : decode cL_law 475 = .ok (.iconst 1, 1) := by decide +kernel
theorem dL_law_476 : decode cL_law 476 = .ok (.iadd, 1) := by decide +kernel
theorem dL_law_477 : decode cL_law 477 = .ok (.iaload, 1) := by decide +kernel
theorem dL_law_478 : decode cL_law 478 = .ok (.invokevirtual 67, 3) := by decide +kernel
theorem dL_law_481 : decode cL_law 481 = .ok (.if_icmp .eq 5, 3) := by decide +kernel
theorem dL_law_484 : decode cL_law 484 = .ok (.iconst 0, 1) := by decide +kernel
theorem dL_law_485 : decode cL_law 485 = .ok (.ireturn, 1) := by decide +kernel
theorem dL_law_486 : decode cL_law 486 = .ok (.iinc 3 5, 3) := by decide +kernel
theorem dL_law_489 : decode cL_law 489 = .ok (.goto (-471), 3) := by decide +kernel
theorem dL_law_492 : decode cL_law 492 = .ok (.iconst 1, 1) := by decide +kernel
theorem dL_law_493 : decode cL_law 493 = .ok (.ireturn, 1) := by decide +kernel
