theorem dX7_isItem_145 : decode cX7_isItem 145 = .ok (.ifCond .eq 32, 3) := by decide +kernel
theorem dX7_isItem_148 : decode cX7_isItem 148 = .ok (.aload_n 0, 1) := by decide +kernel
theorem dX7_isItem_149 : decode cX7_isItem 149 = .ok (.getfield 85, 3) := by decide +kernel
theorem dX7_isItem_152 : decode cX7_isItem 152 = .ok (.aload_n 0, 1) := by decide +kernel
theorem dX7_isItem_153 : decode cX7_isItem 153 = .ok (.getfield 81, 3) := by decide +kernel
theorem dX7_isItem_156 : decode cX7_isItem 156 = .ok (.if_icmp .ge 21, 3) := by decide +kernel
theorem dX7_isItem_159 : decode cX7_isItem 159 = .ok (.aload_n 0, 1) := by decide +kernel
theorem dX7_isItem_160 : decode cX7_isItem 160 = .ok (.getfield 7, 3) := by decide +kernel
theorem dX7_isItem_163 : decode cX7_isItem 163 = .ok (.aload_n 0, 1) := by decide +kernel
theorem dX7_isItem_164 : decode cX7_isItem 164 = .ok (.getfield 85, 3) := by decide +kernel
theorem dX7_isItem_167 : decode cX7_isItem 167 = .ok (.baload, 1) := by decide +kernel
theorem dX7_isItem_168 : decode cX7_isItem 168 = .ok (.bipush 59, 2) := by decide +kernel
theorem dX7_isItem_170 : decode cX7_isItem 170 = .ok (.if_icmp .ne 7, 3) := by decide +kernel
theorem dX7_isItem_173 : decode cX7_isItem 173 = .ok (.iconst 1, 1) := by decide +kernel
theorem dX7_isItem_174 : decode cX7_isItem 174 = .ok (.goto 4, 3) := by decide +kernel
theorem dX7_isItem_177 : decode cX7_isItem 177 = .ok (.iconst 0, 1) := by decide +kernel
theorem dX7_isItem_178 : decode cX7_isItem 178 = .ok (.istore_n 3, 1) := by decide +kernel
theorem dX7_isItem_179 : decode cX7_isItem 179 = .ok (.aload_n 0, 1) := by decide +kernel
theorem dX7_isItem_180 : decode cX7_isItem 180 = .ok (.dup, 1) := by decide +kernel
theorem dX7_isItem_181 : decode cX7_isItem 181 = .ok (.getfield 85, 3) := by decide +kernel
theorem dX7_isItem_184 : decode cX7_isItem 184 = .ok (.iconst 1, 1) := by decide +kernel
theorem dX7_isItem_185 : decode cX7_isItem 185 = .ok (.iadd, 1) := by decide +kernel
theorem dX7_isItem_186 : decode cX7_isItem 186 = .ok (.putfield 85, 3) := by decide +kernel
theorem dX7_isItem_189 : decode cX7_isItem 189 = .ok (.iload_n 3, 1) := by decide +kernel
theorem dX7_isItem_190 : decode cX7_isItem 190 = .ok (.ifCond .eq 15, 3) := by decide +kernel
theorem dX7_isItem_193 : decode cX7_isItem 193 = .ok (.aload_n 0, 1) := by decide +kernel
theorem dX7_isItem_194 : decode cX7_isItem 194 = .ok (.iload_n 1, 1) := by decide +kernel
theorem dX7_isItem_195 : decode cX7_isItem 195 = .ok (.invokevirtual 102, 3) := by decide +kernel
theorem dX7_isItem_198 : decode cX7_isItem 198 = .ok (.ifCond .eq 7, 3) := by decide +kernel
theorem dX7_isItem_201 : decode cX7_isItem 201 = .ok (.iconst 1, 1) := by decide +kernel
theorem dX7_isItem_202 : decode cX7_isItem 202 = .ok (.goto 4, 3) := by decide +kernel
theorem dX7_isItem_205 : decode cX7_isItem 205 = .ok (.iconst 0, 1) := by decide +kernel
theorem dX7_isItem_206 : decode cX7_isItem 206 = .ok (.ireturn, 1) := by decide +kernel
theorem dX7_isGood_0 : decode cX7_isGood 0 = .ok (.iload_n 1, 1) := by decide +kernel
theorem dX7_isGood_1 : decode cX7_isGood 1 = .ok (.bipush 98, 2) := by decide +kernel
theorem dX7_isGood_3 : decode cX7_isGood 3 = .ok (.if_icmp .ne 57, 3) := by decide +kernel
theorem dX7_isGood_6 : decode cX7_isGood 6 = .ok (.aload_n 0, 1) := by decide +kernel
theorem dX7_isGood_7 : decode cX7_isGood 7 = .ok (.getfield 13, 3) := by decide +kernel
theorem dX7_isGood_10 : decode cX7_isGood 10 = .ok (.iconst 5, 1) := by decide +kernel
theorem dX7_isGood_11 : decode cX7_isGood 11 = .ok (.aload_n 0, 1) := by decide +kernel
theorem dX7_isGood_12 : decode cX7_isGood 12 = .ok (.getfield 66, 3) := by decide +kernel
theorem dX7_isGood_15 : decode cX7_isGood 15 = .ok (.iconst 0, 1) := by decide +kernel
theorem dX7_isGood_16 : decode cX7_isGood 16 = .ok (.iaload, 1) := by decide +kernel
theorem dX7_isGood_17 : decode cX7_isGood 17 = .ok (.iastore, 1) := by decide +kernel
theorem dX7_isGood_18 : decode cX7_isGood 18 = .ok (.aload_n 0, 1) := by decide +kernel
theorem dX7_isGood_19 : decode cX7_isGood 19 = .ok (.getfield 13, 3) := by decide +kernel
theorem dX7_isGood_22 : decode cX7_isGood 22 = .ok (.bipush 6, 2) := by decide +kernel
theorem dX7_isGood_24 : decode cX7_isGood 24 = .ok (.aload_n 0, 1) := by decide +kernel
theorem dX7_isGood_25 : decode cX7_isGood 25 = .ok (.getfield 66, 3) := by decide +kernel
theorem dX7_isGood_28 : decode cX7_isGood 28 = .ok (.iconst 1, 1) := by decide +kernel
theorem dX7_isGood_29 : decode cX7_isGood 29 = .ok (.iaload, 1) := by decide +kernel
theorem dX7_isGood_30 : decode cX7_isGood 30 = .ok (.iastore, 1) := by decide +kernel
theorem dX7_isGood_31 : decode cX7_isGood 31 = .ok (.aload_n 0, 1) := by decide +kernel
theorem dX7_isGood_32 : decode cX7_isGood 32 = .ok (.iconst 0, 1) := by decide +kernel
theorem dX7_isGood_33 : decode cX7_isGood 33 = .ok (.iconst 1, 1) := by decide +kernel
theorem dX7_isGood_34 : decode cX7_isGood 34 = .ok (.sipush 999, 3) := by decide +kernel
theorem dX7_isGood_37 : decode cX7_isGood 37 = .ok (.invokevirtual 106, 3) := by decide +kernel
theorem dX7_isGood_40 : decode cX7_isGood 40 = .ok (.ifCond .eq 18, 3) := by decide +kernel
theorem dX7_isGood_43 : decode cX7_isGood 43 = .ok (.aload_n 0, 1) := by decide +kernel
theorem dX7_isGood_44 : decode cX7_isGood 44 = .ok (.iconst 1, 1) := by decide +kernel
theorem dX7_isGood_45 : decode cX7_isGood 45 = .ok (.iconst 1, 1) := by decide +kernel
theorem dX7_isGood_46 : decode cX7_isGood 46 = .ok (.bipush 99, 2) := by decide +kernel
theorem dX7_isGood_48 : decode cX7_isGood 48 = .ok (.invokevirtual 106, 3) := by decide +kernel
theorem dX7_isGood_51 : decode cX7_isGood 51 = .ok (.ifCond .eq 7, 3) := by decide +kernel
theorem dX7_isGood_54 : decode cX7_isGood 54 = .ok (.iconst 1, 1) := by decide +kernel
theorem dX7_isGood_55 : decode cX7_isGood 55 = .ok (.goto 4, 3) := by decide +kernel
theorem dX7_isGood_58 : decode cX7_isGood 58 = .ok (.iconst 0, 1) := by decide +kernel
theorem dX7_isGood_59 : decode cX7_isGood 59 = .ok (.ireturn, 1) := by decide +kernel
theorem dX7_isGood_60 : decode cX7_isGood 60 = .ok (.iload_n 1, 1) := by decide +kernel
theorem dX7_isGood_61 : decode cX7_isGood 61 = .ok (.bipush 102, 2) := by decide +kernel
theorem dX7_isGood_63 : decode cX7_isGood 63 = .ok (.if_icmp .ne 139, 3) := by decide +kernel
theorem dX7_isGood_66 : decode cX7_isGood 66 = .ok (.bipush 48, 2) := by decide +kernel
theorem dX7_isGood_68 : decode cX7_isGood 68 = .ok (.iconst 4, 1) := by decide +kernel
theorem dX7_isGood_69 : decode cX7_isGood 69 = .ok (.aload_n 0, 1) := by decide +kernel
theorem dX7_isGood_70 : decode cX7_isGood 70 = .ok (.getfield 17, 3) := by decide +kernel
theorem dX7_isGood_73 : decode cX7_isGood 73 = .ok (.iconst 1, 1) := by decide +kernel
theorem dX7_isGood_74 : decode cX7_isGood 74 = .ok (.iaload, 1) := by decide +kernel
theorem dX7_isGood_75 : decode cX7_isGood 75 = .ok (.imul, 1) := by decide +kernel
theorem dX7_isGood_76 : decode cX7_isGood 76 = .ok (.iadd, 1) := by decide +kernel
theorem dX7_isGood_77 : decode cX7_isGood 77 = .ok (.istore_n 2, 1) := by decide +kernel
theorem dX7_isGood_78 : decode cX7_isGood 78 = .ok (.aload_n 0, 1) := by decide +kernel
theorem dX7_isGood_79 : decode cX7_isGood 79 = .ok (.getfield 17, 3) := by decide +kernel
theorem dX7_isGood_82 : decode cX7_isGood 82 = .ok (.iconst 1, 1) := by decide +kernel
theorem dX7_isGood_83 : decode cX7_isGood 83 = .ok (.iaload, 1) := by decide +kernel
theorem dX7_isGood_84 : decode cX7_isGood 84 = .ok (.ifCond .ne 7, 3) := by decide +kernel
theorem dX7_isGood_87 : decode cX7_isGood 87 = .ok (.iconst 0, 1) := by decide +kernel
theorem dX7_isGood_88 : decode cX7_isGood 88 = .ok (.goto 13, 3) := by decide +kernel
theorem dX7_isGood_91 : decode cX7_isGood 91 = .ok (.aload_n 0, 1) := by decide +kernel
theorem dX7_isGood_92 : decode cX7_isGood 92 = .ok (.getfield 20, 3) := by decide +kernel
theorem dX7_isGood_95 : decode cX7_isGood 95 = .ok (.iload_n 2, 1) := by decide +kernel
theorem dX7_isGood_96 : decode cX7_isGood 96 = .ok (.iconst 4, 1) := by decide +kernel
theorem dX7_isGood_97 : decode cX7_isGood 97 = .ok (.isub, 1) := by decide +kernel
theorem dX7_isGood_98 : decode cX7_isGood 98 = .ok (.iconst 0, 1) := by decide +kernel
theorem dX7_isGood_99 : decode cX7_isGood 99 = .ok (.iadd, 1) := by decide +kernel
theorem dX7_isGood_100 : decode cX7_isGood 100 = .ok (.iaload, 1) := by decide +kernel
theorem dX7_isGood_101 : decode cX7_isGood 101 = .ok (.istore_n 3, 1) := by decide +kernel
theorem dX7_isGood_102 : decode cX7_isGood 102 = .ok (.aload_n 0, 1) := by decide +kernel
theorem dX7_isGood_103 : decode cX7_isGood 103 = .ok (.iconst 0, 1) := by decide +kernel
theorem dX7_isGood_104 : decode cX7_isGood 104 = .ok (.iload_n 3, 1) := by decide +kernel
theorem dX7_isGood_105 : decode cX7_isGood 105 = .ok (.bipush 99, 2) := by decide +kernel
theorem dX7_isGood_107 : decode cX7_isGood 107 = .ok (.invokevirtual 106, 3) := by decide +kernel
theorem dX7_isGood_110 : decode cX7_isGood 110 = .ok (.ifCond .eq 47, 3) := by decide +kernel
theorem dX7_isGood_113 : decode cX7_isGood 113 = .ok (.aload_n 0, 1) := by decide +kernel
theorem dX7_isGood_114 : decode cX7_isGood 114 = .ok (.iconst 1, 1) := by decide +kernel
theorem dX7_isGood_115 : decode cX7_isGood 115 = .ok (.iconst 1, 1) := by decide +kernel
theorem dX7_isGood_116 : decode cX7_isGood 116 = .ok (.bipush 20, 2) := by decide +kernel
theorem dX7_isGood_118 : decode cX7_isGood 118 = .ok (.invokevirtual 106, 3) := by decide +kernel
theorem dX7_isGood_121 : decode cX7_isGood 121 = .ok (.ifCond .eq 36, 3) := by decide +kernel
theorem dX7_isGood_124 : decode cX7_isGood 124 = .ok (.aload_n 0, 1) := by decide +kernel
theorem dX7_isGood_125 : decode cX7_isGood 125 = .ok (.iconst 2, 1) := by decide +kernel
theorem dX7_isGood_126 : decode cX7_isGood 126 = .ok (.iconst 1, 1) := by decide +kernel
theorem dX7_isGood_127 : decode cX7_isGood 127 = .ok (.bipush 9, 2) := by decide +kernel
theorem dX7_isGood_129 : decode cX7_isGood 129 = .ok (.invokevirtual 106, 3) := by decide +kernel
theorem dX7_isGood_132 : decode cX7_isGood 132 = .ok (.ifCond .eq 25, 3) := by decide +kernel
theorem dX7_isGood_135 : decode cX7_isGood 135 = .ok (.aload_n 0, 1) := by decide +kernel
theorem dX7_isGood_136 : decode cX7_isGood 136 = .ok (.iconst 3, 1) := by decide +kernel
theorem dX7_isGood_137 : decode cX7_isGood 137 = .ok (.iconst 0, 1) := by decide +kernel
theorem dX7_isGood_138 : decode cX7_isGood 138 = .ok (.bipush 9, 2) := by decide +kernel
theorem dX7_isGood_140 : decode cX7_isGood 140 = .ok (.invokevirtual 106, 3) := by decide +kernel
theorem dX7_isGood_143 : decode cX7_isGood 143 = .ok (.ifCond .eq 14, 3) := by decide +kernel
theorem dX7_isGood_146 : decode cX7_isGood 146 = .ok (.aload_n 0, 1) := by decide +kernel
theorem dX7_isGood_147 : decode cX7_isGood 147 = .ok (.getfield 17, 3) := by decide +kernel
theorem dX7_isGood_150 : decode cX7_isGood 150 = .ok (.iconst 1, 1) := by decide +kernel
theorem dX7_isGood_151 : decode cX7_isGood 151 = .ok (.iaload, 1) := by decide +kernel
theorem dX7_isGood_152 : decode cX7_isGood 152 = .ok (.bipush 12, 2) := by decide +kernel
theorem dX7_isGood_154 : decode cX7_isGood 154 = .ok (.if_icmp .ne 5, 3) := by decide +kernel
theorem dX7_isGood_157 : decode cX7_isGood 157 = .ok (.iconst 0, 1) := by decide +kernel
theorem dX7_isGood_158 : decode cX7_isGood 158 = .ok (.ireturn, 1) := by decide +kernel
theorem dX7_isGood_159 : decode cX7_isGood 159 = .ok (.iconst 0, 1) := by decide +kernel
theorem dX7_isGood_160 : decode cX7_isGood 160 = .ok (.istore 4, 2) := by decide +kernel
theorem dX7_isGood_162 : decode cX7_isGood 162 = .ok (.iload 4, 2) := by decide +kernel
theorem dX7_isGood_164 : decode cX7_isGood 164 = .ok (.iconst 4, 1) := by decide +kernel
theorem dX7_isGood_165 : decode cX7_isGood 165 = .ok (.if_icmp .ge 25, 3) := by decide +kernel
theorem dX7_isGood_168 : decode cX7_isGood 168 = .ok (.aload_n 0, 1) := by decide +kernel
theorem dX7_isGood_169 : decode cX7_isGood 169 = .ok (.getfield 20, 3) := by decide +kernel
theorem dX7_isGood_172 : decode cX7_isGood 172 = .ok (.iload_n 2, 1) := by decide +kernel
theorem dX7_isGood_173 : decode cX7_isGood 173 = .ok (.iload 4, 2) := by decide +kernel
theorem dX7_isGood_175 : decode cX7_isGood 175 = .ok (.iadd, 1) := by decide +kernel
theorem dX7_isGood_176 : decode cX7_isGood 176 = .ok (.aload_n 0, 1) := by decide +kernel
theorem dX7_isGood_177 : decode cX7_isGood 177 = .ok (.getfield 66, 3) := by decide +kernel
theorem dX7_isGood_180 : decode cX7_isGood 180 = .ok (.iload 4, 2) := by decide +kernel
theorem dX7_isGood_182 : decode cX7_isGood 182 = .ok (.iaload, 1) := by decide +kernel
theorem dX7_isGood_183 : decode cX7_isGood 183 = .ok (.iastore, 1) := by decide +kernel
theorem dX7_isGood_184 : decode cX7_isGood 184 = .ok (.iinc 4 1, 3) := by decide +kernel
theorem dX7_isGood_187 : decode cX7_isGood 187 = .ok (.goto (-25), 3) := by decide +kernel
theorem dX7_isGood_190 : decode cX7_isGood 190 = .ok (.aload_n 0, 1) := by decide +kernel
theorem dX7_isGood_191 : decode cX7_isGood 191 = .ok (.getfield 17, 3) := by decide +kernel
theorem dX7_isGood_194 : decode cX7_isGood 194 = .ok (.iconst 1, 1) := by decide +kernel
theorem dX7_isGood_195 : decode cX7_isGood 195 = .ok (.dup2, 1) := by decide +kernel
theorem dX7_isGood_196 : decode cX7_isGood 196 = .ok (.iaload, 1) := by decide +kernel
theorem dX7_isGood_197 : decode cX7_isGood 197 = .ok (.iconst 1, 1) := by decide +kernel
theorem dX7_isGood_198 : decode cX7_isGood 198 = .ok (.iadd, 1) := by decide +kernel
theorem dX7_isGood_199 : decode cX7_isGood 199 = .ok (.iastore, 1) := by decide +kernel
theorem dX7_isGood_200 : decode cX7_isGood 200 = .ok (.iconst 1, 1) := by decide +kernel
theorem dX7_isGood_201 : decode cX7_isGood 201 = .ok (.ireturn, 1) := by decide +kernel
theorem dX7_isGood_202 : decode cX7_isGood 202 = .ok (.iload_n 1, 1) := by decide +kernel
theorem dX7_isGood_203 : decode cX7_isGood 203 = .ok (.bipush 112, 2) := by decide +kernel
theorem dX7_isGood_205 : decode cX7_isGood 205 = .ok (.if_icmp .ne 45, 3) := by decide +kernel
theorem dX7_isGood_208 : decode cX7_isGood 208 = .ok (.aload_n 0, 1) := by decide +kernel
theorem dX7_isGood_209 : decode cX7_isGood 209 = .ok (.iconst 0, 1) := by decide +kernel
theorem dX7_isGood_210 : decode cX7_isGood 210 = .ok (.iconst 0, 1) := by decide +kernel
theorem dX7_isGood_211 : decode cX7_isGood 211 = .ok (.bipush 99, 2) := by decide +kernel
theorem dX7_isGood_213 : decode cX7_isGood 213 = .ok (.invokevirtual 106, 3) := by decide +kernel
theorem dX7_isGood_216 : decode cX7_isGood 216 = .ok (.ifCond .ne 5, 3) := by decide +kernel
theorem dX7_isGood_219 : decode cX7_isGood 219 = .ok (.iconst 0, 1) := by decide +kernel
theorem dX7_isGood_220 : decode cX7_isGood 220 = .ok (.ireturn, 1) := by decide +kernel
theorem dX7_isGood_221 : decode cX7_isGood 221 = .ok (.aload_n 0, 1) := by decide +kernel
theorem dX7_isGood_222 : decode cX7_isGood 222 = .ok (.getfield 23, 3) := by decide +kernel
theorem dX7_isGood_225 : decode cX7_isGood 225 = .ok (.bipush 100, 2) := by decide +kernel
theorem dX7_isGood_227 : decode cX7_isGood 227 = .ok (.aload_n 0, 1) := by decide +kernel
theorem dX7_isGood_228 : decode cX7_isGood 228 = .ok (.getfield 66, 3) := by decide +kernel
theorem dX7_isGood_231 : decode cX7_isGood 231 = .ok (.iconst 0, 1) := by decide +kernel
theorem dX7_isGood_232 : decode cX7_isGood 232 = .ok (.iaload, 1) := by decide +kernel
theorem dX7_isGood_233 : decode cX7_isGood 233 = .ok (.iadd, 1) := by decide +kernel
theorem dX7_isGood_234 : decode cX7_isGood 234 = .ok (.aload_n 0, 1) := by decide +kernel
theorem dX7_isGood_235 : decode cX7_isGood 235 = .ok (.getfield 66, 3) := by decide +kernel
theorem dX7_isGood_238 : decode cX7_isGood 238 = .ok (.iconst 1, 1) := by decide +kernel
theorem dX7_isGood_239 : decode cX7_isGood 239 = .ok (.iaload, 1) := by decide +kernel
theorem dX7_isGood_240 : decode cX7_isGood 240 = .ok (.iastore, 1) := by decide +kernel
theorem dX7_isGood_241 : decode cX7_isGood 241 = .ok (.aload_n 0, 1) := by decide +kernel
theorem dX7_isGood_242 : decode cX7_isGood 242 = .ok (.iconst 1, 1) := by decide +kernel
theorem dX7_isGood_243 : decode cX7_isGood 243 = .ok (.iconst 0, 1) := by decide +kernel
theorem dX7_isGood_244 : decode cX7_isGood 244 = .ok (.bipush 99, 2) := by decide +kernel
theorem dX7_isGood_246 : decode cX7_isGood 246 = .ok (.invokevirtual 106, 3) := by decide +kernel
theorem dX7_isGood_249 : decode cX7_isGood 249 = .ok (.ireturn, 1) := by decide +kernel
theorem dX7_isGood_250 : decode cX7_isGood 250 = .ok (.aload_n 0, 1) := by decide +kernel
theorem dX7_isGood_251 : decode cX7_isGood 251 = .ok (.getfield 13, 3) := by decide +kernel
theorem dX7_isGood_254 : decode cX7_isGood 254 = .ok (.iload_n 1, 1) := by decide +kernel
theorem dX7_isGood_255 : decode cX7_isGood 255 = .ok (.bipush 116, 2) := by decide +kernel
theorem dX7_isGood_257 : decode cX7_isGood 257 = .ok (.if_icmp .ne 8, 3) := by decide +kernel
theorem dX7_isGood_260 : decode cX7_isGood 260 = .ok (.bipush 7, 2) := by decide +kernel
theorem dX7_isGood_262 : decode cX7_isGood 262 = .ok (.goto 16, 3) := by decide +kernel
theorem dX7_isGood_265 : decode cX7_isGood 265 = .ok (.iload_n 1, 1) := by decide +kernel
theorem dX7_isGood_266 : decode cX7_isGood 266 = .ok (.bipush 115, 2) := by decide +kernel
theorem dX7_isGood_268 : decode cX7_isGood 268 = .ok (.if_icmp .ne 8, 3) := by decide +kernel
theorem dX7_isGood_271 : decode cX7_isGood 271 = .ok (.bipush 8, 2) := by decide +kernel
theorem dX7_isGood_273 : decode cX7_isGood 273 = .ok (.goto 5, 3) := by decide +kernel
theorem dX7_isGood_276 : decode cX7_isGood 276 = .ok (.bipush 9, 2) := by decide +kernel
theorem dX7_isGood_278 : decode cX7_isGood 278 = .ok (.aload_n 0, 1) := by decide +kernel
theorem dX7_isGood_279 : decode cX7_isGood 279 = .ok (.getfield 66, 3) := by decide +kernel
theorem dX7_isGood_282 : decode cX7_isGood 282 = .ok (.iconst 0, 1) := by decide +kernel
theorem dX7_isGood_283 : decode cX7_isGood 283 = .ok (.iaload, 1) := by decide +kernel
theorem dX7_isGood_284 : decode cX7_isGood 284 = .ok (.iastore, 1) := by decide +kernel
theorem dX7_isGood_285 : decode cX7_isGood 285 = .ok (.iload_n 1, 1) := by decide +kernel
theorem dX7_isGood_286 : decode cX7_isGood 286 = .ok (.bipush 116, 2) := by decide +kernel
theorem dX7_isGood_288 : decode cX7_isGood 288 = .ok (.if_icmp .ne 14, 3) := by decide +kernel
theorem dX7_isGood_291 : decode cX7_isGood 291 = .ok (.aload_n 0, 1) := by decide +kernel
theorem dX7_isGood_292 : decode cX7_isGood 292 = .ok (.iconst 0, 1) := by decide +kernel
theorem dX7_isGood_293 : decode cX7_isGood 293 = .ok (.iconst 1, 1) := by decide +kernel
theorem dX7_isGood_294 : decode cX7_isGood 294 = .ok (.bipush 50, 2) := by decide +kernel
theorem dX7_isGood_296 : decode cX7_isGood 296 = .ok (.invokevirtual 106, 3) := by decide +kernel
theorem dX7_isGood_299 : decode cX7_isGood 299 = .ok (.goto 27, 3) := by decide +kernel
theorem dX7_isGood_302 : decode cX7_isGood 302 = .ok (.iload_n 1, 1) := by decide +kernel
theorem dX7_isGood_303 : decode cX7_isGood 303 = .ok (.bipush 115, 2) := by decide +kernel
theorem dX7_isGood_305 : decode cX7_isGood 305 = .ok (.if_icmp .ne 13, 3) := by decide +kernel
theorem dX7_isGood_308 : decode cX7_isGood 308 = .ok (.aload_n 0, 1) := by decide +kernel
theorem dX7_isGood_309 : decode cX7_isGood 309 = .ok (.iconst 0, 1) := by decide +kernel
theorem dX7_isGood_310 : decode cX7_isGood 310 = .ok (.iconst 0, 1) := by decide +kernel
theorem dX7_isGood_311 : decode cX7_isGood 311 = .ok (.iconst 4, 1) := by decide +kernel
theorem dX7_isGood_312 : decode cX7_isGood 312 = .ok (.invokevirtual 106, 3) := by decide +kernel
theorem dX7_isGood_315 : decode cX7_isGood 315 = .ok (.goto 11, 3) := by decide +kernel
theorem dX7_isGood_318 : decode cX7_isGood 318 = .ok (.aload_n 0, 1) := by decide +kernel
theorem dX7_isGood_319 : decode cX7_isGood 319 = .ok (.iconst 0, 1) := by decide +kernel
theorem dX7_isGood_320 : decode cX7_isGood 320 = .ok (.iconst 0, 1) := by decide +kernel
theorem dX7_isGood_321 : decode cX7_isGood 321 = .ok (.bipush 9, 2) := by decide +kernel
theorem dX7_isGood_323 : decode cX7_isGood 323 = .ok (.invokevirtual 106, 3) := by decide +kernel
theorem dX7_isGood_326 : decode cX7_isGood 326 = .ok (.ireturn, 1) := by decide +kernel
theorem dX7_begins_0 : decode cX7_begins 0 = .ok (.aload_n 0, 1) := by decide +kernel
theorem dX7_begins_1 : decode cX7_begins 1 = .ok (.getfield 17, 3) := by decide +kernel
theorem dX7_begins_4 : decode cX7_begins 4 = .ok (.iconst 1, 1) := by decide +kernel
theorem dX7_begins_5 : decode cX7_begins 5 = .ok (.iconst 0, 1) := by decide +kernel
theorem dX7_begins_6 : decode cX7_begins 6 = .ok (.iastore, 1) := by decide +kernel
theorem dX7_begins_7 : decode cX7_begins 7 = .ok (.aload_n 0, 1) := by decide +kernel
theorem dX7_begins_8 : decode cX7_begins 8 = .ok (.getfield 13, 3) := by decide +kernel
theorem dX7_begins_11 : decode cX7_begins 11 = .ok (.iconst 5, 1) := by decide +kernel
theorem dX7_begins_12 : decode cX7_begins 12 = .ok (.sipush 400, 3) := by decide +kernel
theorem dX7_begins_15 : decode cX7_begins 15 = .ok (.iastore, 1) := by decide +kernel
theorem dX7_begins_16 : decode cX7_begins 16 = .ok (.aload_n 0, 1) := by decide +kernel
theorem dX7_begins_17 : decode cX7_begins 17 = .ok (.getfield 13, 3) := by decide +kernel
theorem dX7_begins_20 : decode cX7_begins 20 = .ok (.bipush 6, 2) := by decide +kernel
theorem dX7_begins_22 : decode cX7_begins 22 = .ok (.bipush 60, 2) := by decide +kernel
theorem dX7_begins_24 : decode cX7_begins 24 = .ok (.iastore, 1) := by decide +kernel
theorem dX7_begins_25 : decode cX7_begins 25 = .ok (.aload_n 0, 1) := by decide +kernel
theorem dX7_begins_26 : decode cX7_begins 26 = .ok (.getfield 13, 3) := by decide +kernel
theorem dX7_begins_29 : decode cX7_begins 29 = .ok (.bipush 7, 2) := by decide +kernel
theorem dX7_begins_31 : decode cX7_begins 31 = .ok (.iconst 5, 1) := by decide +kernel
theorem dX7_begins_32 : decode cX7_begins 32 = .ok (.iastore, 1) := by decide +kernel
theorem dX7_begins_33 : decode cX7_begins 33 = .ok (.aload_n 0, 1) := by decide +kernel
theorem dX7_begins_34 : decode cX7_begins 34 = .ok (.getfield 13, 3) := by decide +kernel
theorem dX7_begins_37 : decode cX7_begins 37 = .ok (.bipush 8, 2) := by decide +kernel
theorem dX7_begins_39 : decode cX7_begins 39 = .ok (.iconst 1, 1) := by decide +kernel
theorem dX7_begins_40 : decode cX7_begins 40 = .ok (.iastore, 1) := by decide +kernel
theorem dX7_begins_41 : decode cX7_begins 41 = .ok (.aload_n 0, 1) := by decide +kernel
theorem dX7_begins_42 : decode cX7_begins 42 = .ok (.getfield 13, 3) := by decide +kernel
theorem dX7_begins_45 : decode cX7_begins 45 = .ok (.bipush 9, 2) := by decide +kernel
theorem dX7_begins_47 : decode cX7_begins 47 = .ok (.iconst 0, 1) := by decide +kernel
theorem dX7_begins_48 : decode cX7_begins 48 = .ok (.iastore, 1) := by decide +kernel
theorem dX7_begins_49 : decode cX7_begins 49 = .ok (.iconst 0, 1) := by decide +kernel
theorem dX7_begins_50 : decode cX7_begins 50 = .ok (.istore_n 1, 1) := by decide +kernel
theorem dX7_begins_51 : decode cX7_begins 51 = .ok (.iload_n 1, 1) := by decide +kernel
theorem dX7_begins_52 : decode cX7_begins 52 = .ok (.bipush 100, 2) := by decide +kernel
theorem dX7_begins_54 : decode cX7_begins 54 = .ok (.if_icmp .ge 20, 3) := by decide +kernel
theorem dX7_begins_57 : decode cX7_begins 57 = .ok (.aload_n 0, 1) := by decide +kernel
theorem dX7_begins_58 : decode cX7_begins 58 = .ok (.getfield 23, 3) := by decide +kernel
theorem dX7_begins_61 : decode cX7_begins 61 = .ok (.bipush 100, 2) := by decide +kernel
theorem dX7_begins_63 : decode cX7_begins 63 = .ok (.iload_n 1, 1) := by decide +kernel
theorem dX7_begins_64 : decode cX7_begins 64 = .ok (.iadd, 1) := by decide +kernel
theorem dX7_begins_65 : decode cX7_begins 65 = .ok (.bipush 10, 2) := by decide +kernel
theorem dX7_begins_67 : decode cX7_begins 67 = .ok (.iastore, 1) := by decide +kernel
theorem dX7_begins_68 : decode cX7_begins 68 = .ok (.iinc 1 1, 3) := by decide +kernel
theorem dX7_begins_71 : decode cX7_begins 71 = .ok (.goto (-20), 3) := by decide +kernel
theorem dX7_begins_74 : decode cX7_begins 74 = .ok (.return_, 1) := by decide +kernel
theorem dX7_takes_0 : decode cX7_takes 0 = .ok (.aload_n 0, 1) := by decide +kernel
theorem dX7_takes_1 : decode cX7_takes 1 = .ok (.getfield 17, 3) := by decide +kernel
theorem dX7_takes_4 : decode cX7_takes 4 = .ok (.iconst 0, 1) := by decide +kernel
theorem dX7_takes_5 : decode cX7_takes 5 = .ok (.aload_n 0, 1) := by decide +kernel
theorem dX7_takes_6 : decode cX7_takes 6 = .ok (.getfield 17, 3) := by decide +kernel
theorem dX7_takes_9 : decode cX7_takes 9 = .ok (.iconst 1, 1) := by decide +kernel
theorem dX7_takes_10 : decode cX7_takes 10 = .ok (.iaload, 1) := by decide +kernel
theorem dX7_takes_11 : decode cX7_takes 11 = .ok (.iastore, 1) := by decide +kernel
theorem dX7_takes_12 : decode cX7_takes 12 = .ok (.iconst 0, 1) := by decide +kernel
theorem dX7_takes_13 : decode cX7_takes 13 = .ok (.istore_n 1, 1) := by decide +kernel
theorem dX7_takes_14 : decode cX7_takes 14 = .ok (.iload_n 1, 1) := by decide +kernel
theorem dX7_takes_15 : decode cX7_takes 15 = .ok (.bipush 100, 2) := by decide +kernel
theorem dX7_takes_17 : decode cX7_takes 17 = .ok (.if_icmp .ge 64, 3) := by decide +kernel
theorem dX7_takes_20 : decode cX7_takes 20 = .ok (.aload_n 0, 1) := by decide +kernel
theorem dX7_takes_21 : decode cX7_takes 21 = .ok (.getfield 23, 3) := by decide +kernel
theorem dX7_takes_24 : decode cX7_takes 24 = .ok (.iload_n 1, 1) := by decide +kernel
theorem dX7_takes_25 : decode cX7_takes 25 = .ok (.aload_n 0, 1) := by decide +kernel
theorem dX7_takes_26 : decode cX7_takes 26 = .ok (.getfield 23, 3) := by decide +kernel
theorem dX7_takes_29 : decode cX7_takes 29 = .ok (.bipush 100, 2) := by decide +kernel
theorem dX7_takes_31 : decode cX7_takes 31 = .ok (.iload_n 1, 1) := by decide +kernel
theorem dX7_takes_32 : decode cX7_takes 32 = .ok (.iadd, 1) := by decide +kernel
theorem dX7_takes_33 : decode cX7_takes 33 = .ok (.iaload, 1) := by decide +kernel
theorem dX7_takes_34 : decode cX7_takes 34 = .ok (.iastore, 1) := by decide +kernel
theorem dX7_takes_35 : decode cX7_takes 35 = .ok (.iload_n 1, 1) := by decide +kernel
theorem dX7_takes_36 : decode cX7_takes 36 = .ok (.bipush 48, 2) := by decide +kernel
theorem dX7_takes_38 : decode cX7_takes 38 = .ok (.if_icmp .ge 18, 3) := by decide +kernel
theorem dX7_takes_41 : decode cX7_takes 41 = .ok (.aload_n 0, 1) := by decide +kernel
theorem dX7_takes_42 : decode cX7_takes 42 = .ok (.getfield 20, 3) := by decide +kernel
theorem dX7_takes_45 : decode cX7_takes 45 = .ok (.iload_n 1, 1) := by decide +kernel
theorem dX7_takes_46 : decode cX7_takes 46 = .ok (.aload_n 0, 1) := by decide +kernel
theorem dX7_takes_47 : decode cX7_takes 47 = .ok (.getfield 20, 3) := by decide +kernel
theorem dX7_takes_50 : decode cX7_takes 50 = .ok (.bipush 48, 2) := by decide +kernel
theorem dX7_takes_52 : decode cX7_takes 52 = .ok (.iload_n 1, 1) := by decide +kernel
theorem dX7_takes_53 : decode cX7_takes 53 = .ok (.iadd, 1) := by decide +kernel
theorem dX7_takes_54 : decode cX7_takes 54 = .ok (.iaload, 1) := by decide +kernel
theorem dX7_takes_55 : decode cX7_takes 55 = .ok (.iastore, 1) := by decide +kernel
theorem dX7_takes_56 : decode cX7_takes 56 = .ok (.iload_n 1, 1) := by decide +kernel
theorem dX7_takes_57 : decode cX7_takes 57 = .ok (.iconst 5, 1) := by decide +kernel
theorem dX7_takes_58 : decode cX7_takes 58 = .ok (.if_icmp .ge 17, 3) := by decide +kernel
theorem dX7_takes_61 : decode cX7_takes 61 = .ok (.aload_n 0, 1) := by decide +kernel
theorem dX7_takes_62 : decode cX7_takes 62 = .ok (.getfield 13, 3) := by decide +kernel
theorem dX7_takes_65 : decode cX7_takes 65 = .ok (.iload_n 1, 1) := by decide +kernel
theorem dX7_takes_66 : decode cX7_takes 66 = .ok (.aload_n 0, 1) := by decide +kernel
theorem dX7_takes_67 : decode cX7_takes 67 = .ok (.getfield 13, 3) := by decide +kernel
theorem dX7_takes_70 : decode cX7_takes 70 = .ok (.iconst 5, 1) := by decide +kernel
theorem dX7_takes_71 : decode cX7_takes 71 = .ok (.iload_n 1, 1) := by decide +kernel
theorem dX7_takes_72 : decode cX7_takes 72 = .ok (.iadd, 1) := by decide +kernel
theorem dX7_takes_73 : decode cX7_takes 73 = .ok (.iaload, 1) := by decide +kernel
theorem dX7_takes_74 : decode cX7_takes 74 = .ok (.iastore, 1) := by decide +kernel
theorem dX7_takes_75 : decode cX7_takes 75 = .ok (.iinc 1 1, 3) := by decide +kernel
theorem dX7_takes_78 : decode cX7_takes 78 = .ok (.goto (-64), 3) := by decide +kernel
theorem dX7_takes_81 : decode cX7_takes 81 = .ok (.aload_n 0, 1) := by decide +kernel
theorem dX7_takes_82 : decode cX7_takes 82 = .ok (.getfield 26, 3) := by decide +kernel
theorem dX7_takes_85 : decode cX7_takes 85 = .ok (.iconst 0, 1) := by decide +kernel
theorem dX7_takes_86 : decode cX7_takes 86 = .ok (.iconst 0, 1) := by decide +kernel
theorem dX7_takes_87 : decode cX7_takes 87 = .ok (.iastore, 1) := by decide +kernel
theorem dX7_takes_88 : decode cX7_takes 88 = .ok (.aload_n 0, 1) := by decide +kernel
theorem dX7_takes_89 : decode cX7_takes 89 = .ok (.getfield 35, 3) := by decide +kernel
theorem dX7_takes_92 : decode cX7_takes 92 = .ok (.iconst 0, 1) := by decide +kernel
theorem dX7_takes_93 : decode cX7_takes 93 = .ok (.lconst 0, 1) := by decide +kernel
theorem dX7_takes_94 : decode cX7_takes 94 = .ok (.lastore, 1) := by decide +kernel
theorem dX7_takes_95 : decode cX7_takes 95 = .ok (.aload_n 0, 1) := by decide +kernel
theorem dX7_takes_96 : decode cX7_takes 96 = .ok (.getfield 39, 3) := by decide +kernel
theorem dX7_takes_99 : decode cX7_takes 99 = .ok (.iconst 0, 1) := by decide +kernel
theorem dX7_takes_100 : decode cX7_takes 100 = .ok (.iconst 0, 1) := by decide +kernel
theorem dX7_takes_101 : decode cX7_takes 101 = .ok (.iastore, 1) := by decide +kernel
theorem dX7_takes_102 : decode cX7_takes 102 = .ok (.aload_n 0, 1) := by decide +kernel
theorem dX7_takes_103 : decode cX7_takes 103 = .ok (.iconst 0, 1) := by decide +kernel
theorem dX7_takes_104 : decode cX7_takes 104 = .ok (.putfield 110, 3) := by decide +kernel
theorem dX7_takes_107 : decode cX7_takes 107 = .ok (.aload_n 0, 1) := by decide +kernel
theorem dX7_takes_108 : decode cX7_takes 108 = .ok (.iconst 0, 1) := by decide +kernel
theorem dX7_takes_109 : decode cX7_takes 109 = .ok (.putfield 113, 3) := by decide +kernel
theorem dX7_takes_112 : decode cX7_takes 112 = .ok (.return_, 1) := by decide +kernel
theorem dX7_fault_0 : decode cX7_fault 0 = .ok (.aload_n 0, 1) := by decide +kernel
theorem dX7_fault_1 : decode cX7_fault 1 = .ok (.iconst 0, 1) := by decide +kernel
theorem dX7_fault_2 : decode cX7_fault 2 = .ok (.putfield 85, 3) := by decide +kernel
theorem dX7_fault_5 : decode cX7_fault 5 = .ok (.aload_n 0, 1) := by decide +kernel
theorem dX7_fault_6 : decode cX7_fault 6 = .ok (.invokevirtual 69, 3) := by decide +kernel
theorem dX7_fault_9 : decode cX7_fault 9 = .ok (.aload_n 0, 1) := by decide +kernel
theorem dX7_fault_10 : decode cX7_fault 10 = .ok (.getfield 85, 3) := by decide +kernel
theorem dX7_fault_13 : decode cX7_fault 13 = .ok (.aload_n 0, 1) := by decide +kernel
theorem dX7_fault_14 : decode cX7_fault 14 = .ok (.getfield 81, 3) := by decide +kernel
theorem dX7_fault_17 : decode cX7_fault 17 = .ok (.if_icmp .ge 20, 3) := by decide +kernel
theorem dX7_fault_20 : decode cX7_fault 20 = .ok (.aload_n 0, 1) := by decide +kernel
theorem dX7_fault_21 : decode cX7_fault 21 = .ok (.getfield 85, 3) := by decide +kernel
theorem dX7_fault_24 : decode cX7_fault 24 = .ok (.istore_n 1, 1) := by decide +kernel
theorem dX7_fault_25 : decode cX7_fault 25 = .ok (.aload_n 0, 1) := by decide +kernel
theorem dX7_fault_26 : decode cX7_fault 26 = .ok (.invokevirtual 116, 3) := by decide +kernel
theorem dX7_fault_29 : decode cX7_fault 29 = .ok (.ifCond .ne 5, 3) := by decide +kernel
theorem dX7_fault_32 : decode cX7_fault 32 = .ok (.iload_n 1, 1) := by decide +kernel
theorem dX7_fault_33 : decode cX7_fault 33 = .ok (.ireturn, 1) := by decide +kernel
theorem dX7_fault_34 : decode cX7_fault 34 = .ok (.goto (-25), 3) := by decide +kernel
theorem dX7_fault_37 : decode cX7_fault 37 = .ok (.bipush (-4), 2) := by decide +kernel
theorem dX7_fault_39 : decode cX7_fault 39 = .ok (.ireturn, 1) := by decide +kernel
theorem dX7_lay_0 : decode cX7_lay 0 = .ok (.aload_n 0, 1) := by decide +kernel
theorem dX7_lay_1 : decode cX7_lay 1 = .ok (.invokevirtual 120, 3) := by decide +kernel
theorem dX7_lay_4 : decode cX7_lay 4 = .ok (.bipush (-4), 2) := by decide +kernel
theorem dX7_lay_6 : decode cX7_lay 6 = .ok (.if_icmp .ne 12, 3) := by decide +kernel
theorem dX7_lay_9 : decode cX7_lay 9 = .ok (.aload_n 0, 1) := by decide +kernel
theorem dX7_lay_10 : decode cX7_lay 10 = .ok (.getfield 17, 3) := by decide +kernel
theorem dX7_lay_13 : decode cX7_lay 13 = .ok (.iconst 1, 1) := by decide +kernel
theorem dX7_lay_14 : decode cX7_lay 14 = .ok (.iaload, 1) := by decide +kernel
theorem dX7_lay_15 : decode cX7_lay 15 = .ok (.ifCond .ne 6, 3) := by decide +kernel
theorem dX7_lay_18 : decode cX7_lay 18 = .ok (.bipush (-2), 2) := by decide +kernel
theorem dX7_lay_20 : decode cX7_lay 20 = .ok (.ireturn, 1) := by decide +kernel
theorem dX7_lay_21 : decode cX7_lay 21 = .ok (.aload_n 0, 1) := by decide +kernel
theorem dX7_lay_22 : decode cX7_lay 22 = .ok (.invokevirtual 72, 3) := by decide +kernel
theorem dX7_lay_25 : decode cX7_lay 25 = .ok (.aload_n 0, 1) := by decide +kernel
theorem dX7_lay_26 : decode cX7_lay 26 = .ok (.getfield 17, 3) := by decide +kernel
theorem dX7_lay_29 : decode cX7_lay 29 = .ok (.iconst 0, 1) := by decide +kernel
theorem dX7_lay_30 : decode cX7_lay 30 = .ok (.iaload, 1) := by decide +kernel
theorem dX7_lay_31 : decode cX7_lay 31 = .ok (.ireturn, 1) := by decide +kernel
theorem dX7_of_0 : decode cX7_of 0 = .ok (.aload_n 0, 1) := by decide +kernel
theorem dX7_of_1 : decode cX7_of 1 = .ok (.getfield 20, 3) := by decide +kernel
theorem dX7_of_4 : decode cX7_of 4 = .ok (.iconst 4, 1) := by decide +kernel
theorem dX7_of_5 : decode cX7_of 5 = .ok (.iload_n 1, 1) := by decide +kernel
theorem dX7_of_6 : decode cX7_of 6 = .ok (.imul, 1) := by decide +kernel
theorem dX7_of_7 : decode cX7_of 7 = .ok (.iload_n 2, 1) := by decide +kernel
theorem dX7_of_8 : decode cX7_of 8 = .ok (.iadd, 1) := by decide +kernel
theorem dX7_of_9 : decode cX7_of 9 = .ok (.iaload, 1) := by decide +kernel
theorem dX7_of_10 : decode cX7_of 10 = .ok (.ireturn, 1) := by decide +kernel
theorem dX7_costOf_0 : decode cX7_costOf 0 = .ok (.aload_n 0, 1) := by decide +kernel
theorem dX7_costOf_1 : decode cX7_costOf 1 = .ok (.getfield 23, 3) := by decide +kernel
theorem dX7_costOf_4 : decode cX7_costOf 4 = .ok (.aload_n 0, 1) := by decide +kernel
theorem dX7_costOf_5 : decode cX7_costOf 5 = .ok (.iload_n 1, 1) := by decide +kernel
theorem dX7_costOf_6 : decode cX7_costOf 6 = .ok (.iconst 0, 1) := by decide +kernel
theorem dX7_costOf_7 : decode cX7_costOf 7 = .ok (.invokevirtual 123, 3) := by decide +kernel
theorem dX7_costOf_10 : decode cX7_costOf 10 = .ok (.iaload, 1) := by decide +kernel
theorem dX7_costOf_11 : decode cX7_costOf 11 = .ok (.ireturn, 1) := by decide +kernel
theorem dX7_isLayer_0 : decode cX7_isLayer 0 = .ok (.iload_n 1, 1) := by decide +kernel
theorem dX7_isLayer_1 : decode cX7_isLayer 1 = .ok (.i2l, 1) := by decide +kernel
theorem dX7_isLayer_2 : decode cX7_isLayer 2 = .ok (.lconst 0, 1) := by decide +kernel
theorem dX7_isLayer_3 : decode cX7_isLayer 3 = .ok (.aload_n 0, 1) := by decide +kernel
theorem dX7_isLayer_4 : decode cX7_isLayer 4 = .ok (.getfield 26, 3) := by decide +kernel
theorem dX7_isLayer_7 : decode cX7_isLayer 7 = .ok (.iconst 0, 1) := by decide +kernel
theorem dX7_isLayer_8 : decode cX7_isLayer 8 = .ok (.iaload, 1) := by decide +kernel
theorem dX7_isLayer_9 : decode cX7_isLayer 9 = .ok (.iconst 1, 1) := by decide +kernel
theorem dX7_isLayer_10 : decode cX7_isLayer 10 = .ok (.isub, 1) := by decide +kernel
theorem dX7_isLayer_11 : decode cX7_isLayer 11 = .ok (.i2l, 1) := by decide +kernel
theorem dX7_isLayer_12 : decode cX7_isLayer 12 = .ok (.invokestatic 77, 3) := by decide +kernel
theorem dX7_isLayer_15 : decode cX7_isLayer 15 = .ok (.ireturn, 1) := by decide +kernel
theorem dX7_isYear_0 : decode cX7_isYear 0 = .ok (.iload_n 0, 1) := by decide +kernel
theorem dX7_isYear_1 : decode cX7_isYear 1 = .ok (.i2l, 1) := by decide +kernel
theorem dX7_isYear_2 : decode cX7_isYear 2 = .ok (.lconst 0, 1) := by decide +kernel
theorem dX7_isYear_3 : decode cX7_isYear 3 = .ok (.ldc2_w 127, 3) := by decide +kernel
theorem dX7_isYear_6 : decode cX7_isYear 6 = .ok (.invokestatic 77, 3) := by decide +kernel
theorem dX7_isYear_9 : decode cX7_isYear 9 = .ok (.ireturn, 1) := by decide +kernel
theorem dX7_falls_0 : decode cX7_falls 0 = .ok (.iload_n 1, 1) := by decide +kernel
theorem dX7_falls_1 : decode cX7_falls 1 = .ok (.i2l, 1) := by decide +kernel
theorem dX7_falls_2 : decode cX7_falls 2 = .ok (.lconst 0, 1) := by decide +kernel
theorem dX7_falls_3 : decode cX7_falls 3 = .ok (.aload_n 0, 1) := by decide +kernel
theorem dX7_falls_4 : decode cX7_falls 4 = .ok (.getfield 17, 3) := by decide +kernel
theorem dX7_falls_7 : decode cX7_falls 7 = .ok (.iconst 0, 1) := by decide +kernel
theorem dX7_falls_8 : decode cX7_falls 8 = .ok (.iaload, 1) := by decide +kernel
theorem dX7_falls_9 : decode cX7_falls 9 = .ok (.iconst 1, 1) := by decide +kernel
theorem dX7_falls_10 : decode cX7_falls 10 = .ok (.isub, 1) := by decide +kernel
theorem dX7_falls_11 : decode cX7_falls 11 = .ok (.i2l, 1) := by decide +kernel
theorem dX7_falls_12 : decode cX7_falls 12 = .ok (.invokestatic 77, 3) := by decide +kernel
theorem dX7_falls_15 : decode cX7_falls 15 = .ok (.ifCond .eq 15, 3) := by decide +kernel
theorem dX7_falls_18 : decode cX7_falls 18 = .ok (.iload_n 2, 1) := by decide +kernel
theorem dX7_falls_19 : decode cX7_falls 19 = .ok (.i2l, 1) := by decide +kernel
theorem dX7_falls_20 : decode cX7_falls 20 = .ok (.lconst 0, 1) := by decide +kernel
theorem dX7_falls_21 : decode cX7_falls 21 = .ok (.ldc2_w 129, 3) := by decide +kernel
theorem dX7_falls_24 : decode cX7_falls 24 = .ok (.invokestatic 77, 3) := by decide +kernel
theorem dX7_falls_27 : decode cX7_falls 27 = .ok (.ifCond .ne 7, 3) := by decide +kernel
theorem dX7_falls_30 : decode cX7_falls 30 = .ok (.iconst (-1), 1) := by decide +kernel
theorem dX7_falls_31 : decode cX7_falls 31 = .ok (.goto 22, 3) := by decide +kernel
theorem dX7_falls_34 : decode cX7_falls 34 = .ok (.iload_n 2, 1) := by decide +kernel
theorem dX7_falls_35 : decode cX7_falls 35 = .ok (.iconst 4, 1) := by decide +kernel
theorem dX7_falls_36 : decode cX7_falls 36 = .ok (.if_icmp .ge 12, 3) := by decide +kernel
theorem dX7_falls_39 : decode cX7_falls 39 = .ok (.aload_n 0, 1) := by decide +kernel
theorem dX7_falls_40 : decode cX7_falls 40 = .ok (.iload_n 1, 1) := by decide +kernel
theorem dX7_falls_41 : decode cX7_falls 41 = .ok (.iload_n 2, 1) := by decide +kernel
theorem dX7_falls_42 : decode cX7_falls 42 = .ok (.invokevirtual 123, 3) := by decide +kernel
theorem dX7_falls_45 : decode cX7_falls 45 = .ok (.goto 8, 3) := by decide +kernel
theorem dX7_falls_48 : decode cX7_falls 48 = .ok (.aload_n 0, 1) := by decide +kernel
theorem dX7_falls_49 : decode cX7_falls 49 = .ok (.iload_n 1, 1) := by decide +kernel
theorem dX7_falls_50 : decode cX7_falls 50 = .ok (.invokevirtual 131, 3) := by decide +kernel
theorem dX7_falls_53 : decode cX7_falls 53 = .ok (.ireturn, 1) := by decide +kernel
theorem dX7_high_0 : decode cX7_high 0 = .ok (.iconst 0, 1) := by decide +kernel
theorem dX7_high_1 : decode cX7_high 1 = .ok (.istore_n 1, 1) := by decide +kernel
theorem dX7_high_2 : decode cX7_high 2 = .ok (.iconst 0, 1) := by decide +kernel
theorem dX7_high_3 : decode cX7_high 3 = .ok (.istore_n 2, 1) := by decide +kernel
theorem dX7_high_4 : decode cX7_high 4 = .ok (.iload_n 2, 1) := by decide +kernel
theorem dX7_high_5 : decode cX7_high 5 = .ok (.aload_n 0, 1) := by decide +kernel
theorem dX7_high_6 : decode cX7_high 6 = .ok (.getfield 26, 3) := by decide +kernel
theorem dX7_high_9 : decode cX7_high 9 = .ok (.iconst 0, 1) := by decide +kernel
theorem dX7_high_10 : decode cX7_high 10 = .ok (.iaload, 1) := by decide +kernel
theorem dX7_high_11 : decode cX7_high 11 = .ok (.if_icmp .ge 18, 3) := by decide +kernel
theorem dX7_high_14 : decode cX7_high 14 = .ok (.iload_n 1, 1) := by decide +kernel
theorem dX7_high_15 : decode cX7_high 15 = .ok (.aload_n 0, 1) := by decide +kernel
theorem dX7_high_16 : decode cX7_high 16 = .ok (.getfield 29, 3) := by decide +kernel
theorem dX7_high_19 : decode cX7_high 19 = .ok (.iload_n 2, 1) := by decide +kernel
theorem dX7_high_20 : decode cX7_high 20 = .ok (.iaload, 1) := by decide +kernel
theorem dX7_high_21 : decode cX7_high 21 = .ok (.iadd, 1) := by decide +kernel
theorem dX7_high_22 : decode cX7_high 22 = .ok (.istore_n 1, 1) := by decide +kernel
theorem dX7_high_23 : decode cX7_high 23 = .ok (.iinc 2 1, 3) := by decide +kernel
theorem dX7_high_26 : decode cX7_high 26 = .ok (.goto (-22), 3) := by decide +kernel
theorem dX7_high_29 : decode cX7_high 29 = .ok (.iload_n 1, 1) := by decide +kernel
theorem dX7_high_30 : decode cX7_high 30 = .ok (.ireturn, 1) := by decide +kernel
theorem dX7_load_0 : decode cX7_load 0 = .ok (.iconst 0, 1) := by decide +kernel
theorem dX7_load_1 : decode cX7_load 1 = .ok (.istore_n 1, 1) := by decide +kernel
theorem dX7_load_2 : decode cX7_load 2 = .ok (.iconst 0, 1) := by decide +kernel
theorem dX7_load_3 : decode cX7_load 3 = .ok (.istore_n 2, 1) := by decide +kernel
theorem dX7_load_4 : decode cX7_load 4 = .ok (.iload_n 2, 1) := by decide +kernel
theorem dX7_load_5 : decode cX7_load 5 = .ok (.aload_n 0, 1) := by decide +kernel
theorem dX7_load_6 : decode cX7_load 6 = .ok (.getfield 26, 3) := by decide +kernel
theorem dX7_load_9 : decode cX7_load 9 = .ok (.iconst 0, 1) := by decide +kernel
theorem dX7_load_10 : decode cX7_load 10 = .ok (.iaload, 1) := by decide +kernel
theorem dX7_load_11 : decode cX7_load 11 = .ok (.if_icmp .ge 25, 3) := by decide +kernel
theorem dX7_load_14 : decode cX7_load 14 = .ok (.iload_n 1, 1) := by decide +kernel
theorem dX7_load_15 : decode cX7_load 15 = .ok (.aload_n 0, 1) := by decide +kernel
theorem dX7_load_16 : decode cX7_load 16 = .ok (.getfield 29, 3) := by decide +kernel
theorem dX7_load_19 : decode cX7_load 19 = .ok (.iload_n 2, 1) := by decide +kernel
theorem dX7_load_20 : decode cX7_load 20 = .ok (.iaload, 1) := by decide +kernel
theorem dX7_load_21 : decode cX7_load 21 = .ok (.aload_n 0, 1) := by decide +kernel
theorem dX7_load_22 : decode cX7_load 22 = .ok (.iload_n 2, 1) := by decide +kernel
theorem dX7_load_23 : decode cX7_load 23 = .ok (.iconst 2, 1) := by decide +kernel
theorem dX7_load_24 : decode cX7_load 24 = .ok (.invokevirtual 123, 3) := by decide +kernel
theorem dX7_load_27 : decode cX7_load 27 = .ok (.imul, 1) := by decide +kernel
theorem dX7_load_28 : decode cX7_load 28 = .ok (.iadd, 1) := by decide +kernel
theorem dX7_load_29 : decode cX7_load 29 = .ok (.istore_n 1, 1) := by decide +kernel
theorem dX7_load_30 : decode cX7_load 30 = .ok (.iinc 2 1, 3) := by decide +kernel
theorem dX7_load_33 : decode cX7_load 33 = .ok (.goto (-29), 3) := by decide +kernel
theorem dX7_load_36 : decode cX7_load 36 = .ok (.iload_n 1, 1) := by decide +kernel
theorem dX7_load_37 : decode cX7_load 37 = .ok (.ireturn, 1) := by decide +kernel
theorem dX7_fits_0 : decode cX7_fits 0 = .ok (.iload_n 1, 1) := by decide +kernel
theorem dX7_fits_1 : decode cX7_fits 1 = .ok (.bipush 10, 2) := by decide +kernel
theorem dX7_fits_3 : decode cX7_fits 3 = .ok (.aload_n 0, 1) := by decide +kernel
theorem dX7_fits_4 : decode cX7_fits 4 = .ok (.getfield 13, 3) := by decide +kernel
theorem dX7_fits_7 : decode cX7_fits 7 = .ok (.iconst 1, 1) := by decide +kernel
theorem dX7_fits_8 : decode cX7_fits 8 = .ok (.iaload, 1) := by decide +kernel
theorem dX7_fits_9 : decode cX7_fits 9 = .ok (.imul, 1) := by decide +kernel
theorem dX7_fits_10 : decode cX7_fits 10 = .ok (.if_icmp .gt 20, 3) := by decide +kernel
theorem dX7_fits_13 : decode cX7_fits 13 = .ok (.iload_n 2, 1) := by decide +kernel
theorem dX7_fits_14 : decode cX7_fits 14 = .ok (.bipush 10, 2) := by decide +kernel
theorem dX7_fits_16 : decode cX7_fits 16 = .ok (.aload_n 0, 1) := by decide +kernel
theorem dX7_fits_17 : decode cX7_fits 17 = .ok (.getfield 13, 3) := by decide +kernel
theorem dX7_fits_20 : decode cX7_fits 20 = .ok (.iconst 0, 1) := by decide +kernel
theorem dX7_fits_21 : decode cX7_fits 21 = .ok (.iaload, 1) := by decide +kernel
theorem dX7_fits_22 : decode cX7_fits 22 = .ok (.imul, 1) := by decide +kernel
theorem dX7_fits_23 : decode cX7_fits 23 = .ok (.if_icmp .gt 7, 3) := by decide +kernel
theorem dX7_fits_26 : decode cX7_fits 26 = .ok (.iconst 1, 1) := by decide +kernel
theorem dX7_fits_27 : decode cX7_fits 27 = .ok (.goto 4, 3) := by decide +kernel
theorem dX7_fits_30 : decode cX7_fits 30 = .ok (.iconst 0, 1) := by decide +kernel
theorem dX7_fits_31 : decode cX7_fits 31 = .ok (.ireturn, 1) := by decide +kernel
theorem dX7_fall_0 : decode cX7_fall 0 = .ok (.aload_n 0, 1) := by decide +kernel
theorem dX7_fall_1 : decode cX7_fall 1 = .ok (.getfield 26, 3) := by decide +kernel
theorem dX7_fall_4 : decode cX7_fall 4 = .ok (.iconst 0, 1) := by decide +kernel
theorem dX7_fall_5 : decode cX7_fall 5 = .ok (.iaload, 1) := by decide +kernel
theorem dX7_fall_6 : decode cX7_fall 6 = .ok (.istore_n 1, 1) := by decide +kernel
theorem dX7_fall_7 : decode cX7_fall 7 = .ok (.iload_n 1, 1) := by decide +kernel
theorem dX7_fall_8 : decode cX7_fall 8 = .ok (.aload_n 0, 1) := by decide +kernel
theorem dX7_fall_9 : decode cX7_fall 9 = .ok (.getfield 17, 3) := by decide +kernel
theorem dX7_fall_12 : decode cX7_fall 12 = .ok (.iconst 0, 1) := by decide +kernel
theorem dX7_fall_13 : decode cX7_fall 13 = .ok (.iaload, 1) := by decide +kernel
theorem dX7_fall_14 : decode cX7_fall 14 = .ok (.if_icmp .ne 6, 3) := by decide +kernel
theorem dX7_fall_17 : decode cX7_fall 17 = .ok (.bipush (-2), 2) := by decide +kernel
theorem dX7_fall_19 : decode cX7_fall 19 = .ok (.ireturn, 1) := by decide +kernel
theorem dX7_fall_20 : decode cX7_fall 20 = .ok (.bipush 10, 2) := by decide +kernel
theorem dX7_fall_22 : decode cX7_fall 22 = .ok (.aload_n 0, 1) := by decide +kernel
theorem dX7_fall_23 : decode cX7_fall 23 = .ok (.iload_n 1, 1) := by decide +kernel
theorem dX7_fall_24 : decode cX7_fall 24 = .ok (.iconst 1, 1) := by decide +kernel
theorem dX7_fall_25 : decode cX7_fall 25 = .ok (.invokevirtual 123, 3) := by decide +kernel
theorem dX7_fall_28 : decode cX7_fall 28 = .ok (.imul, 1) := by decide +kernel
theorem dX7_fall_29 : decode cX7_fall 29 = .ok (.istore_n 2, 1) := by decide +kernel
theorem dX7_fall_30 : decode cX7_fall 30 = .ok (.aload_n 0, 1) := by decide +kernel
theorem dX7_fall_31 : decode cX7_fall 31 = .ok (.aload_n 0, 1) := by decide +kernel
theorem dX7_fall_32 : decode cX7_fall 32 = .ok (.invokevirtual 134, 3) := by decide +kernel
theorem dX7_fall_35 : decode cX7_fall 35 = .ok (.iload_n 2, 1) := by decide +kernel
theorem dX7_fall_36 : decode cX7_fall 36 = .ok (.iadd, 1) := by decide +kernel
theorem dX7_fall_37 : decode cX7_fall 37 = .ok (.aload_n 0, 1) := by decide +kernel
theorem dX7_fall_38 : decode cX7_fall 38 = .ok (.invokevirtual 137, 3) := by decide +kernel
theorem dX7_fall_41 : decode cX7_fall 41 = .ok (.iload_n 2, 1) := by decide +kernel
theorem dX7_fall_42 : decode cX7_fall 42 = .ok (.aload_n 0, 1) := by decide +kernel
theorem dX7_fall_43 : decode cX7_fall 43 = .ok (.iload_n 1, 1) := by decide +kernel
theorem dX7_fall_44 : decode cX7_fall 44 = .ok (.iconst 2, 1) := by decide +kernel
theorem dX7_fall_45 : decode cX7_fall 45 = .ok (.invokevirtual 123, 3) := by decide +kernel
theorem dX7_fall_48 : decode cX7_fall 48 = .ok (.imul, 1) := by decide +kernel
theorem dX7_fall_49 : decode cX7_fall 49 = .ok (.iadd, 1) := by decide +kernel
theorem dX7_fall_50 : decode cX7_fall 50 = .ok (.invokevirtual 140, 3) := by decide +kernel
theorem dX7_fall_53 : decode cX7_fall 53 = .ok (.ifCond .ne 6, 3) := by decide +kernel
theorem dX7_fall_56 : decode cX7_fall 56 = .ok (.bipush (-3), 2) := by decide +kernel
theorem dX7_fall_58 : decode cX7_fall 58 = .ok (.ireturn, 1) := by decide +kernel
theorem dX7_fall_59 : decode cX7_fall 59 = .ok (.aload_n 0, 1) := by decide +kernel
theorem dX7_fall_60 : decode cX7_fall 60 = .ok (.getfield 29, 3) := by decide +kernel
theorem dX7_fall_63 : decode cX7_fall 63 = .ok (.iload_n 1, 1) := by decide +kernel
theorem dX7_fall_64 : decode cX7_fall 64 = .ok (.iload_n 2, 1) := by decide +kernel
theorem dX7_fall_65 : decode cX7_fall 65 = .ok (.iastore, 1) := by decide +kernel
theorem dX7_fall_66 : decode cX7_fall 66 = .ok (.aload_n 0, 1) := by decide +kernel
theorem dX7_fall_67 : decode cX7_fall 67 = .ok (.getfield 32, 3) := by decide +kernel
theorem dX7_fall_70 : decode cX7_fall 70 = .ok (.iload_n 1, 1) := by decide +kernel
theorem dX7_fall_71 : decode cX7_fall 71 = .ok (.aload_n 0, 1) := by decide +kernel
theorem dX7_fall_72 : decode cX7_fall 72 = .ok (.iload_n 1, 1) := by decide +kernel
theorem dX7_fall_73 : decode cX7_fall 73 = .ok (.iconst 3, 1) := by decide +kernel
theorem dX7_fall_74 : decode cX7_fall 74 = .ok (.invokevirtual 123, 3) := by decide +kernel
theorem dX7_fall_77 : decode cX7_fall 77 = .ok (.iastore, 1) := by decide +kernel
theorem dX7_fall_78 : decode cX7_fall 78 = .ok (.aload_n 0, 1) := by decide +kernel
theorem dX7_fall_79 : decode cX7_fall 79 = .ok (.getfield 26, 3) := by decide +kernel
theorem dX7_fall_82 : decode cX7_fall 82 = .ok (.iconst 0, 1) := by decide +kernel
theorem dX7_fall_83 : decode cX7_fall 83 = .ok (.dup2, 1) := by decide +kernel
theorem dX7_fall_84 : decode cX7_fall 84 = .ok (.iaload, 1) := by decide +kernel
theorem dX7_fall_85 : decode cX7_fall 85 = .ok (.iconst 1, 1) := by decide +kernel
theorem dX7_fall_86 : decode cX7_fall 86 = .ok (.iadd, 1) := by decide +kernel
theorem dX7_fall_87 : decode cX7_fall 87 = .ok (.iastore, 1) := by decide +kernel
theorem dX7_fall_88 : decode cX7_fall 88 = .ok (.aload_n 0, 1) := by decide +kernel
theorem dX7_fall_89 : decode cX7_fall 89 = .ok (.getfield 26, 3) := by decide +kernel
theorem dX7_fall_92 : decode cX7_fall 92 = .ok (.iconst 0, 1) := by decide +kernel
theorem dX7_fall_93 : decode cX7_fall 93 = .ok (.iaload, 1) := by decide +kernel
theorem dX7_fall_94 : decode cX7_fall 94 = .ok (.ireturn, 1) := by decide +kernel
theorem dX7_doorOf_0 : decode cX7_doorOf 0 = .ok (.iconst 3, 1) := by decide +kernel
theorem dX7_doorOf_1 : decode cX7_doorOf 1 = .ok (.iload_n 0, 1) := by decide +kernel
theorem dX7_doorOf_2 : decode cX7_doorOf 2 = .ok (.imul, 1) := by decide +kernel
theorem dX7_doorOf_3 : decode cX7_doorOf 3 = .ok (.iload_n 1, 1) := by decide +kernel
theorem dX7_doorOf_4 : decode cX7_doorOf 4 = .ok (.idiv, 1) := by decide +kernel
theorem dX7_doorOf_5 : decode cX7_doorOf 5 = .ok (.ireturn, 1) := by decide +kernel
theorem dX7_layer_0 : decode cX7_layer 0 = .ok (.aload_n 0, 1) := by decide +kernel
theorem dX7_layer_1 : decode cX7_layer 1 = .ok (.iload_n 1, 1) := by decide +kernel
theorem dX7_layer_2 : decode cX7_layer 2 = .ok (.invokevirtual 144, 3) := by decide +kernel
theorem dX7_layer_5 : decode cX7_layer 5 = .ok (.ifCond .eq 15, 3) := by decide +kernel
theorem dX7_layer_8 : decode cX7_layer 8 = .ok (.iload_n 2, 1) := by decide +kernel
theorem dX7_layer_9 : decode cX7_layer 9 = .ok (.i2l, 1) := by decide +kernel
theorem dX7_layer_10 : decode cX7_layer 10 = .ok (.lconst 0, 1) := by decide +kernel
theorem dX7_layer_11 : decode cX7_layer 11 = .ok (.ldc2_w 147, 3) := by decide +kernel
theorem dX7_layer_14 : decode cX7_layer 14 = .ok (.invokestatic 77, 3) := by decide +kernel
theorem dX7_layer_17 : decode cX7_layer 17 = .ok (.ifCond .ne 7, 3) := by decide +kernel
theorem dX7_layer_20 : decode cX7_layer 20 = .ok (.iconst (-1), 1) := by decide +kernel
theorem dX7_layer_21 : decode cX7_layer 21 = .ok (.goto 40, 3) := by decide +kernel
theorem dX7_layer_24 : decode cX7_layer 24 = .ok (.iload_n 2, 1) := by decide +kernel
theorem dX7_layer_25 : decode cX7_layer 25 = .ok (.ifCond .ne 12, 3) := by decide +kernel
theorem dX7_layer_28 : decode cX7_layer 28 = .ok (.aload_n 0, 1) := by decide +kernel
theorem dX7_layer_29 : decode cX7_layer 29 = .ok (.getfield 29, 3) := by decide +kernel
theorem dX7_layer_32 : decode cX7_layer 32 = .ok (.iload_n 1, 1) := by decide +kernel
theorem dX7_layer_33 : decode cX7_layer 33 = .ok (.iaload, 1) := by decide +kernel
theorem dX7_layer_34 : decode cX7_layer 34 = .ok (.goto 27, 3) := by decide +kernel
theorem dX7_layer_37 : decode cX7_layer 37 = .ok (.iload_n 2, 1) := by decide +kernel
theorem dX7_layer_38 : decode cX7_layer 38 = .ok (.iconst 1, 1) := by decide +kernel
theorem dX7_layer_39 : decode cX7_layer 39 = .ok (.if_icmp .ne 12, 3) := by decide +kernel
theorem dX7_layer_42 : decode cX7_layer 42 = .ok (.aload_n 0, 1) := by decide +kernel
theorem dX7_layer_43 : decode cX7_layer 43 = .ok (.getfield 32, 3) := by decide +kernel
theorem dX7_layer_46 : decode cX7_layer 46 = .ok (.iload_n 1, 1) := by decide +kernel
theorem dX7_layer_47 : decode cX7_layer 47 = .ok (.iaload, 1) := by decide +kernel
theorem dX7_layer_48 : decode cX7_layer 48 = .ok (.goto 13, 3) := by decide +kernel
theorem dX7_layer_51 : decode cX7_layer 51 = .ok (.iload_n 1, 1) := by decide +kernel
theorem dX7_layer_52 : decode cX7_layer 52 = .ok (.aload_n 0, 1) := by decide +kernel
theorem dX7_layer_53 : decode cX7_layer 53 = .ok (.getfield 26, 3) := by decide +kernel
theorem dX7_layer_56 : decode cX7_layer 56 = .ok (.iconst 0, 1) := by decide +kernel
theorem dX7_layer_57 : decode cX7_layer 57 = .ok (.iaload, 1) := by decide +kernel
theorem dX7_layer_58 : decode cX7_layer 58 = .ok (.invokestatic 149, 3) := by decide +kernel
theorem dX7_layer_61 : decode cX7_layer 61 = .ok (.ireturn, 1) := by decide +kernel
theorem dX7_firstOut_0 : decode cX7_firstOut 0 = .ok (.aload_n 0, 1) := by decide +kernel
theorem dX7_firstOut_1 : decode cX7_firstOut 1 = .ok (.invokevirtual 134, 3) := by decide +kernel
theorem dX7_firstOut_4 : decode cX7_firstOut 4 = .ok (.istore_n 1, 1) := by decide +kernel
theorem dX7_firstOut_5 : decode cX7_firstOut 5 = .ok (.aload_n 0, 1) := by decide +kernel
theorem dX7_firstOut_6 : decode cX7_firstOut 6 = .ok (.invokevirtual 137, 3) := by decide +kernel
theorem dX7_firstOut_9 : decode cX7_firstOut 9 = .ok (.istore_n 2, 1) := by decide +kernel
theorem dX7_firstOut_10 : decode cX7_firstOut 10 = .ok (.aload_n 0, 1) := by decide +kernel
theorem dX7_firstOut_11 : decode cX7_firstOut 11 = .ok (.getfield 26, 3) := by decide +kernel
theorem dX7_firstOut_14 : decode cX7_firstOut 14 = .ok (.iconst 0, 1) := by decide +kernel
theorem dX7_firstOut_15 : decode cX7_firstOut 15 = .ok (.iaload, 1) := by decide +kernel
theorem dX7_firstOut_16 : decode cX7_firstOut 16 = .ok (.istore_n 3, 1) := by decide +kernel
theorem dX7_firstOut_17 : decode cX7_firstOut 17 = .ok (.iload_n 3, 1) := by decide +kernel
theorem dX7_firstOut_18 : decode cX7_firstOut 18 = .ok (.aload_n 0, 1) := by decide +kernel
theorem dX7_firstOut_19 : decode cX7_firstOut 19 = .ok (.getfield 17, 3) := by decide +kernel
theorem dX7_firstOut_22 : decode cX7_firstOut 22 = .ok (.iconst 0, 1) := by decide +kernel
theorem dX7_firstOut_23 : decode cX7_firstOut 23 = .ok (.iaload, 1) := by decide +kernel
theorem dX7_firstOut_24 : decode cX7_firstOut 24 = .ok (.if_icmp .ge 51, 3) := by decide +kernel
theorem dX7_firstOut_27 : decode cX7_firstOut 27 = .ok (.iload_n 1, 1) := by decide +kernel
theorem dX7_firstOut_28 : decode cX7_firstOut 28 = .ok (.bipush 10, 2) := by decide +kernel
theorem dX7_firstOut_30 : decode cX7_firstOut 30 = .ok (.aload_n 0, 1) := by decide +kernel
theorem dX7_firstOut_31 : decode cX7_firstOut 31 = .ok (.iload_n 3, 1) := by decide +kernel
theorem dX7_firstOut_32 : decode cX7_firstOut 32 = .ok (.iconst 1, 1) := by decide +kernel
theorem dX7_firstOut_33 : decode cX7_firstOut 33 = .ok (.invokevirtual 123, 3) := by decide +kernel
theorem dX7_firstOut_36 : decode cX7_firstOut 36 = .ok (.imul, 1) := by decide +kernel
theorem dX7_firstOut_37 : decode cX7_firstOut 37 = .ok (.iadd, 1) := by decide +kernel
theorem dX7_firstOut_38 : decode cX7_firstOut 38 = .ok (.istore_n 1, 1) := by decide +kernel
theorem dX7_firstOut_39 : decode cX7_firstOut 39 = .ok (.iload_n 2, 1) := by decide +kernel
theorem dX7_firstOut_40 : decode cX7_firstOut 40 = .ok (.bipush 10, 2) := by decide +kernel
theorem dX7_firstOut_42 : decode cX7_firstOut 42 = .ok (.aload_n 0, 1) := by decide +kernel
theorem dX7_firstOut_43 : decode cX7_firstOut 43 = .ok (.iload_n 3, 1) := by decide +kernel
theorem dX7_firstOut_44 : decode cX7_firstOut 44 = .ok (.iconst 1, 1) := by decide +kernel
theorem dX7_firstOut_45 : decode cX7_firstOut 45 = .ok (.invokevirtual 123, 3) := by decide +kernel
theorem dX7_firstOut_48 : decode cX7_firstOut 48 = .ok (.imul, 1) := by decide +kernel
theorem dX7_firstOut_49 : decode cX7_firstOut 49 = .ok (.aload_n 0, 1) := by decide +kernel
theorem dX7_firstOut_50 : decode cX7_firstOut 50 = .ok (.iload_n 3, 1) := by decide +kernel
theorem dX7_firstOut_51 : decode cX7_firstOut 51 = .ok (.iconst 2, 1) := by decide +kernel
theorem dX7_firstOut_52 : decode cX7_firstOut 52 = .ok (.invokevirtual 123, 3) := by decide +kernel
theorem dX7_firstOut_55 : decode cX7_firstOut 55 = .ok (.imul, 1) := by decide +kernel
theorem dX7_firstOut_56 : decode cX7_firstOut 56 = .ok (.iadd, 1) := by decide +kernel
theorem dX7_firstOut_57 : decode cX7_firstOut 57 = .ok (.istore_n 2, 1) := by decide +kernel
theorem dX7_firstOut_58 : decode cX7_firstOut 58 = .ok (.aload_n 0, 1) := by decide +kernel
theorem dX7_firstOut_59 : decode cX7_firstOut 59 = .ok (.iload_n 1, 1) := by decide +kernel
theorem dX7_firstOut_60 : decode cX7_firstOut 60 = .ok (.iload_n 2, 1) := by decide +kernel
theorem dX7_firstOut_61 : decode cX7_firstOut 61 = .ok (.invokevirtual 140, 3) := by decide +kernel
theorem dX7_firstOut_64 : decode cX7_firstOut 64 = .ok (.ifCond .ne 5, 3) := by decide +kernel
theorem dX7_firstOut_67 : decode cX7_firstOut 67 = .ok (.iload_n 3, 1) := by decide +kernel
theorem dX7_firstOut_68 : decode cX7_firstOut 68 = .ok (.ireturn, 1) := by decide +kernel
theorem dX7_firstOut_69 : decode cX7_firstOut 69 = .ok (.iinc 3 1, 3) := by decide +kernel
theorem dX7_firstOut_72 : decode cX7_firstOut 72 = .ok (.goto (-55), 3) := by decide +kernel
theorem dX7_firstOut_75 : decode cX7_firstOut 75 = .ok (.bipush (-4), 2) := by decide +kernel
theorem dX7_firstOut_77 : decode cX7_firstOut 77 = .ok (.ireturn, 1) := by decide +kernel
theorem dX7_thaw_0 : decode cX7_thaw 0 = .ok (.iload_n 1, 1) := by decide +kernel
theorem dX7_thaw_1 : decode cX7_thaw 1 = .ok (.i2l, 1) := by decide +kernel
theorem dX7_thaw_2 : decode cX7_thaw 2 = .ok (.lconst 0, 1) := by decide +kernel
theorem dX7_thaw_3 : decode cX7_thaw 3 = .ok (.ldc2_w 147, 3) := by decide +kernel
theorem dX7_thaw_6 : decode cX7_thaw 6 = .ok (.invokestatic 77, 3) := by decide +kernel
theorem dX7_thaw_9 : decode cX7_thaw 9 = .ok (.ifCond .ne 5, 3) := by decide +kernel
theorem dX7_thaw_12 : decode cX7_thaw 12 = .ok (.iconst (-1), 1) := by decide +kernel
theorem dX7_thaw_13 : decode cX7_thaw 13 = .ok (.ireturn, 1) := by decide +kernel
theorem dX7_thaw_14 : decode cX7_thaw 14 = .ok (.iconst 0, 1) := by decide +kernel
theorem dX7_thaw_15 : decode cX7_thaw 15 = .ok (.istore_n 2, 1) := by decide +kernel
theorem dX7_thaw_16 : decode cX7_thaw 16 = .ok (.iconst 0, 1) := by decide +kernel
theorem dX7_thaw_17 : decode cX7_thaw 17 = .ok (.istore_n 3, 1) := by decide +kernel
theorem dX7_thaw_18 : decode cX7_thaw 18 = .ok (.iload_n 3, 1) := by decide +kernel
theorem dX7_thaw_19 : decode cX7_thaw 19 = .ok (.aload_n 0, 1) := by decide +kernel
theorem dX7_thaw_20 : decode cX7_thaw 20 = .ok (.getfield 26, 3) := by decide +kernel
theorem dX7_thaw_23 : decode cX7_thaw 23 = .ok (.iconst 0, 1) := by decide +kernel
theorem dX7_thaw_24 : decode cX7_thaw 24 = .ok (.iaload, 1) := by decide +kernel
theorem dX7_thaw_25 : decode cX7_thaw 25 = .ok (.if_icmp .ge 71, 3) := by decide +kernel
theorem dX7_thaw_28 : decode cX7_thaw 28 = .ok (.iload_n 3, 1) := by decide +kernel
theorem dX7_thaw_29 : decode cX7_thaw 29 = .ok (.aload_n 0, 1) := by decide +kernel
theorem dX7_thaw_30 : decode cX7_thaw 30 = .ok (.getfield 26, 3) := by decide +kernel
theorem dX7_thaw_33 : decode cX7_thaw 33 = .ok (.iconst 0, 1) := by decide +kernel
theorem dX7_thaw_34 : decode cX7_thaw 34 = .ok (.iaload, 1) := by decide +kernel
theorem dX7_thaw_35 : decode cX7_thaw 35 = .ok (.invokestatic 149, 3) := by decide +kernel
theorem dX7_thaw_38 : decode cX7_thaw 38 = .ok (.iload_n 1, 1) := by decide +kernel
theorem dX7_thaw_39 : decode cX7_thaw 39 = .ok (.if_icmp .ne 51, 3) := by decide +kernel
theorem dX7_thaw_42 : decode cX7_thaw 42 = .ok (.aload_n 0, 1) := by decide +kernel
theorem dX7_thaw_43 : decode cX7_thaw 43 = .ok (.getfield 29, 3) := by decide +kernel
theorem dX7_thaw_46 : decode cX7_thaw 46 = .ok (.iload_n 3, 1) := by decide +kernel
theorem dX7_thaw_47 : decode cX7_thaw 47 = .ok (.iaload, 1) := by decide +kernel
theorem dX7_thaw_48 : decode cX7_thaw 48 = .ok (.aload_n 0, 1) := by decide +kernel
theorem dX7_thaw_49 : decode cX7_thaw 49 = .ok (.getfield 13, 3) := by decide +kernel
theorem dX7_thaw_52 : decode cX7_thaw 52 = .ok (.iconst 2, 1) := by decide +kernel
theorem dX7_thaw_53 : decode cX7_thaw 53 = .ok (.iaload, 1) := by decide +kernel
theorem dX7_thaw_54 : decode cX7_thaw 54 = .ok (.if_icmp .ge 12, 3) := by decide +kernel
theorem dX7_thaw_57 : decode cX7_thaw 57 = .ok (.aload_n 0, 1) := by decide +kernel
theorem dX7_thaw_58 : decode cX7_thaw 58 = .ok (.getfield 29, 3) := by decide +kernel
theorem dX7_thaw_61 : decode cX7_thaw 61 = .ok (.iload_n 3, 1) := by decide +kernel
theorem dX7_thaw_62 : decode cX7_thaw 62 = .ok (.iaload, 1) := by decide +kernel
theorem dX7_thaw_63 : decode cX7_thaw 63 = .ok (.goto 9, 3) := by decide +kernel
theorem dX7_thaw_66 : decode cX7_thaw 66 = .ok (.aload_n 0, 1) := by decide +kernel
theorem dX7_thaw_67 : decode cX7_thaw 67 = .ok (.getfield 13, 3) := by decide +kernel
theorem dX7_thaw_70 : decode cX7_thaw 70 = .ok (.iconst 2, 1) := by decide +kernel
theorem dX7_thaw_71 : decode cX7_thaw 71 = .ok (.iaload, 1) := by decide +kernel
theorem dX7_thaw_72 : decode cX7_thaw 72 = .ok (.istore 4, 2) := by decide +kernel
theorem dX7_thaw_74 : decode cX7_thaw 74 = .ok (.aload_n 0, 1) := by decide +kernel
theorem dX7_thaw_75 : decode cX7_thaw 75 = .ok (.getfield 29, 3) := by decide +kernel
theorem dX7_thaw_78 : decode cX7_thaw 78 = .ok (.iload_n 3, 1) := by decide +kernel
theorem dX7_thaw_79 : decode cX7_thaw 79 = .ok (.dup2, 1) := by decide +kernel
theorem dX7_thaw_80 : decode cX7_thaw 80 = .ok (.iaload, 1) := by decide +kernel
theorem dX7_thaw_81 : decode cX7_thaw 81 = .ok (.iload 4, 2) := by decide +kernel
theorem dX7_thaw_83 : decode cX7_thaw 83 = .ok (.isub, 1) := by decide +kernel
theorem dX7_thaw_84 : decode cX7_thaw 84 = .ok (.iastore, 1) := by decide +kernel
theorem dX7_thaw_85 : decode cX7_thaw 85 = .ok (.iload_n 2, 1) := by decide +kernel
theorem dX7_thaw_86 : decode cX7_thaw 86 = .ok (.iload 4, 2) := by decide +kernel
theorem dX7_thaw_88 : decode cX7_thaw 88 = .ok (.iadd, 1) := by decide +kernel
theorem dX7_thaw_89 : decode cX7_thaw 89 = .ok (.istore_n 2, 1) := by decide +kernel
theorem dX7_thaw_90 : decode cX7_thaw 90 = .ok (.iinc 3 1, 3) := by decide +kernel
theorem dX7_thaw_93 : decode cX7_thaw 93 = .ok (.goto (-75), 3) := by decide +kernel
theorem dX7_thaw_96 : decode cX7_thaw 96 = .ok (.iload_n 2, 1) := by decide +kernel
theorem dX7_thaw_97 : decode cX7_thaw 97 = .ok (.ireturn, 1) := by decide +kernel
theorem dX7_lostBy_0 : decode cX7_lostBy 0 = .ok (.iconst 0, 1) := by decide +kernel
theorem dX7_lostBy_1 : decode cX7_lostBy 1 = .ok (.istore_n 2, 1) := by decide +kernel
theorem dX7_lostBy_2 : decode cX7_lostBy 2 = .ok (.iconst 0, 1) := by decide +kernel
theorem dX7_lostBy_3 : decode cX7_lostBy 3 = .ok (.istore_n 3, 1) := by decide +kernel
theorem dX7_lostBy_4 : decode cX7_lostBy 4 = .ok (.iload_n 3, 1) := by decide +kernel
theorem dX7_lostBy_5 : decode cX7_lostBy 5 = .ok (.aload_n 0, 1) := by decide +kernel
theorem dX7_lostBy_6 : decode cX7_lostBy 6 = .ok (.getfield 26, 3) := by decide +kernel
theorem dX7_lostBy_9 : decode cX7_lostBy 9 = .ok (.iconst 0, 1) := by decide +kernel
theorem dX7_lostBy_10 : decode cX7_lostBy 10 = .ok (.iaload, 1) := by decide +kernel
theorem dX7_lostBy_11 : decode cX7_lostBy 11 = .ok (.if_icmp .ge 114, 3) := by decide +kernel
theorem dX7_lostBy_14 : decode cX7_lostBy 14 = .ok (.aload_n 0, 1) := by decide +kernel
theorem dX7_lostBy_15 : decode cX7_lostBy 15 = .ok (.getfield 48, 3) := by decide +kernel
theorem dX7_lostBy_18 : decode cX7_lostBy 18 = .ok (.iload_n 3, 1) := by decide +kernel
theorem dX7_lostBy_19 : decode cX7_lostBy 19 = .ok (.aload_n 0, 1) := by decide +kernel
theorem dX7_lostBy_20 : decode cX7_lostBy 20 = .ok (.getfield 29, 3) := by decide +kernel
theorem dX7_lostBy_23 : decode cX7_lostBy 23 = .ok (.iload_n 3, 1) := by decide +kernel
theorem dX7_lostBy_24 : decode cX7_lostBy 24 = .ok (.iaload, 1) := by decide +kernel
theorem dX7_lostBy_25 : decode cX7_lostBy 25 = .ok (.iastore, 1) := by decide +kernel
theorem dX7_lostBy_26 : decode cX7_lostBy 26 = .ok (.iconst 0, 1) := by decide +kernel
theorem dX7_lostBy_27 : decode cX7_lostBy 27 = .ok (.istore 4, 2) := by decide +kernel
theorem dX7_lostBy_29 : decode cX7_lostBy 29 = .ok (.iload 4, 2) := by decide +kernel
theorem dX7_lostBy_31 : decode cX7_lostBy 31 = .ok (.iload_n 1, 1) := by decide +kernel
theorem dX7_lostBy_32 : decode cX7_lostBy 32 = .ok (.if_icmp .ge 87, 3) := by decide +kernel
theorem dX7_lostBy_35 : decode cX7_lostBy 35 = .ok (.aload_n 0, 1) := by decide +kernel
theorem dX7_lostBy_36 : decode cX7_lostBy 36 = .ok (.getfield 54, 3) := by decide +kernel
theorem dX7_lostBy_39 : decode cX7_lostBy 39 = .ok (.iload 4, 2) := by decide +kernel
theorem dX7_lostBy_41 : decode cX7_lostBy 41 = .ok (.iaload, 1) := by decide +kernel
theorem dX7_lostBy_42 : decode cX7_lostBy 42 = .ok (.iload_n 3, 1) := by decide +kernel
theorem dX7_lostBy_43 : decode cX7_lostBy 43 = .ok (.aload_n 0, 1) := by decide +kernel
theorem dX7_lostBy_44 : decode cX7_lostBy 44 = .ok (.getfield 26, 3) := by decide +kernel
theorem dX7_lostBy_47 : decode cX7_lostBy 47 = .ok (.iconst 0, 1) := by decide +kernel
theorem dX7_lostBy_48 : decode cX7_lostBy 48 = .ok (.iaload, 1) := by decide +kernel
theorem dX7_lostBy_49 : decode cX7_lostBy 49 = .ok (.invokestatic 149, 3) := by decide +kernel
theorem dX7_lostBy_52 : decode cX7_lostBy 52 = .ok (.if_icmp .eq 7, 3) := by decide +kernel
theorem dX7_lostBy_55 : decode cX7_lostBy 55 = .ok (.iconst 0, 1) := by decide +kernel
theorem dX7_lostBy_56 : decode cX7_lostBy 56 = .ok (.goto 33, 3) := by decide +kernel
theorem dX7_lostBy_59 : decode cX7_lostBy 59 = .ok (.aload_n 0, 1) := by decide +kernel
theorem dX7_lostBy_60 : decode cX7_lostBy 60 = .ok (.getfield 48, 3) := by decide +kernel
theorem dX7_lostBy_63 : decode cX7_lostBy 63 = .ok (.iload_n 3, 1) := by decide +kernel
theorem dX7_lostBy_64 : decode cX7_lostBy 64 = .ok (.iaload, 1) := by decide +kernel
theorem dX7_lostBy_65 : decode cX7_lostBy 65 = .ok (.aload_n 0, 1) := by decide +kernel
theorem dX7_lostBy_66 : decode cX7_lostBy 66 = .ok (.getfield 13, 3) := by decide +kernel
theorem dX7_lostBy_69 : decode cX7_lostBy 69 = .ok (.iconst 2, 1) := by decide +kernel
theorem dX7_lostBy_70 : decode cX7_lostBy 70 = .ok (.iaload, 1) := by decide +kernel
theorem dX7_lostBy_71 : decode cX7_lostBy 71 = .ok (.if_icmp .ge 12, 3) := by decide +kernel
theorem dX7_lostBy_74 : decode cX7_lostBy 74 = .ok (.aload_n 0, 1) := by decide +kernel
theorem dX7_lostBy_75 : decode cX7_lostBy 75 = .ok (.getfield 48, 3) := by decide +kernel
theorem dX7_lostBy_78 : decode cX7_lostBy 78 = .ok (.iload_n 3, 1) := by decide +kernel
theorem dX7_lostBy_79 : decode cX7_lostBy 79 = .ok (.iaload, 1) := by decide +kernel
theorem dX7_lostBy_80 : decode cX7_lostBy 80 = .ok (.goto 9, 3) := by decide +kernel
theorem dX7_lostBy_83 : decode cX7_lostBy 83 = .ok (.aload_n 0, 1) := by decide +kernel
theorem dX7_lostBy_84 : decode cX7_lostBy 84 = .ok (.getfield 13, 3) := by decide +kernel
theorem dX7_lostBy_87 : decode cX7_lostBy 87 = .ok (.iconst 2, 1) := by decide +kernel
theorem dX7_lostBy_88 : decode cX7_lostBy 88 = .ok (.iaload, 1) := by decide +kernel
theorem dX7_lostBy_89 : decode cX7_lostBy 89 = .ok (.istore 5, 2) := by decide +kernel
theorem dX7_lostBy_91 : decode cX7_lostBy 91 = .ok (.aload_n 0, 1) := by decide +kernel
theorem dX7_lostBy_92 : decode cX7_lostBy 92 = .ok (.getfield 48, 3) := by decide +kernel
theorem dX7_lostBy_95 : decode cX7_lostBy 95 = .ok (.iload_n 3, 1) := by decide +kernel
theorem dX7_lostBy_96 : decode cX7_lostBy 96 = .ok (.dup2, 1) := by decide +kernel
theorem dX7_lostBy_97 : decode cX7_lostBy 97 = .ok (.iaload, 1) := by decide +kernel
theorem dX7_lostBy_98 : decode cX7_lostBy 98 = .ok (.iload 5, 2) := by decide +kernel
theorem dX7_lostBy_100 : decode cX7_lostBy 100 = .ok (.isub, 1) := by decide +kernel
theorem dX7_lostBy_101 : decode cX7_lostBy 101 = .ok (.iastore, 1) := by decide +kernel
theorem dX7_lostBy_102 : decode cX7_lostBy 102 = .ok (.iload_n 2, 1) := by decide +kernel
theorem dX7_lostBy_103 : decode cX7_lostBy 103 = .ok (.iload 5, 2) := by decide +kernel
theorem dX7_lostBy_105 : decode cX7_lostBy 105 = .ok (.aload_n 0, 1) := by decide +kernel
theorem dX7_lostBy_106 : decode cX7_lostBy 106 = .ok (.iload_n 3, 1) := by decide +kernel
theorem dX7_lostBy_107 : decode cX7_lostBy 107 = .ok (.invokevirtual 131, 3) := by decide +kernel
theorem dX7_lostBy_110 : decode cX7_lostBy 110 = .ok (.imul, 1) := by decide +kernel
theorem dX7_lostBy_111 : decode cX7_lostBy 111 = .ok (.iadd, 1) := by decide +kernel
theorem dX7_lostBy_112 : decode cX7_lostBy 112 = .ok (.istore_n 2, 1) := by decide +kernel
theorem dX7_lostBy_113 : decode cX7_lostBy 113 = .ok (.iinc 4 1, 3) := by decide +kernel
theorem dX7_lostBy_116 : decode cX7_lostBy 116 = .ok (.goto (-87), 3) := by decide +kernel
theorem dX7_lostBy_119 : decode cX7_lostBy 119 = .ok (.iinc 3 1, 3) := by decide +kernel
theorem dX7_lostBy_122 : decode cX7_lostBy 122 = .ok (.goto (-118), 3) := by decide +kernel
theorem dX7_lostBy_125 : decode cX7_lostBy 125 = .ok (.iload_n 2, 1) := by decide +kernel
theorem dX7_lostBy_126 : decode cX7_lostBy 126 = .ok (.ireturn, 1) := by decide +kernel
theorem dX7_doors_0 : decode cX7_doors 0 = .ok (.iload_n 1, 1) := by decide +kernel
theorem dX7_doors_1 : decode cX7_doors 1 = .ok (.i2l, 1) := by decide +kernel
theorem dX7_doors_2 : decode cX7_doors 2 = .ok (.lconst 1, 1) := by decide +kernel
theorem dX7_doors_3 : decode cX7_doors 3 = .ok (.ldc2_w 152, 3) := by decide +kernel
theorem dX7_doors_6 : decode cX7_doors 6 = .ok (.invokestatic 77, 3) := by decide +kernel
theorem dX7_doors_9 : decode cX7_doors 9 = .ok (.ifCond .eq 18, 3) := by decide +kernel
theorem dX7_doors_12 : decode cX7_doors 12 = .ok (.iload_n 2, 1) := by decide +kernel
theorem dX7_doors_13 : decode cX7_doors 13 = .ok (.i2l, 1) := by decide +kernel
theorem dX7_doors_14 : decode cX7_doors 14 = .ok (.ldc2_w 154, 3) := by decide +kernel
theorem dX7_doors_17 : decode cX7_doors 17 = .ok (.iload_n 1, 1) := by decide +kernel
theorem dX7_doors_18 : decode cX7_doors 18 = .ok (.iconst 1, 1) := by decide +kernel
theorem dX7_doors_19 : decode cX7_doors 19 = .ok (.isub, 1) := by decide +kernel
theorem dX7_doors_20 : decode cX7_doors 20 = .ok (.i2l, 1) := by decide +kernel
theorem dX7_doors_21 : decode cX7_doors 21 = .ok (.invokestatic 77, 3) := by decide +kernel
theorem dX7_doors_24 : decode cX7_doors 24 = .ok (.ifCond .ne 5, 3) := by decide +kernel
theorem dX7_doors_27 : decode cX7_doors 27 = .ok (.iconst (-1), 1) := by decide +kernel
theorem dX7_doors_28 : decode cX7_doors 28 = .ok (.ireturn, 1) := by decide +kernel
theorem dX7_doors_29 : decode cX7_doors 29 = .ok (.iconst 1, 1) := by decide +kernel
theorem dX7_doors_30 : decode cX7_doors 30 = .ok (.istore_n 3, 1) := by decide +kernel
theorem dX7_doors_31 : decode cX7_doors 31 = .ok (.iconst 0, 1) := by decide +kernel
theorem dX7_doors_32 : decode cX7_doors 32 = .ok (.istore 4, 2) := by decide +kernel
theorem dX7_doors_34 : decode cX7_doors 34 = .ok (.iload 4, 2) := by decide +kernel
theorem dX7_doors_36 : decode cX7_doors 36 = .ok (.iload_n 1, 1) := by decide +kernel
theorem dX7_doors_37 : decode cX7_doors 37 = .ok (.if_icmp .ge 13, 3) := by decide +kernel
theorem dX7_doors_40 : decode cX7_doors 40 = .ok (.iload_n 3, 1) := by decide +kernel
theorem dX7_doors_41 : decode cX7_doors 41 = .ok (.iconst 3, 1) := by decide +kernel
theorem dX7_doors_42 : decode cX7_doors 42 = .ok (.imul, 1) := by decide +kernel
theorem dX7_doors_43 : decode cX7_doors 43 = .ok (.istore_n 3, 1) := by decide +kernel
theorem dX7_doors_44 : decode cX7_doors 44 = .ok (.iinc 4 1, 3) := by decide +kernel
theorem dX7_doors_47 : decode cX7_doors 47 = .ok (.goto (-13), 3) := by decide +kernel
theorem dX7_doors_50 : decode cX7_doors 50 = .ok (.iconst (-1), 1) := by decide +kernel
theorem dX7_doors_51 : decode cX7_doors 51 = .ok (.istore 4, 2) := by decide +kernel
theorem dX7_doors_53 : decode cX7_doors 53 = .ok (.iconst 0, 1) := by decide +kernel
theorem dX7_doors_54 : decode cX7_doors 54 = .ok (.istore 5, 2) := by decide +kernel
theorem dX7_doors_56 : decode cX7_doors 56 = .ok (.iload 5, 2) := by decide +kernel
theorem dX7_doors_58 : decode cX7_doors 58 = .ok (.iload_n 3, 1) := by decide +kernel
theorem dX7_doors_59 : decode cX7_doors 59 = .ok (.if_icmp .ge 98, 3) := by decide +kernel
theorem dX7_doors_62 : decode cX7_doors 62 = .ok (.iload 5, 2) := by decide +kernel
theorem dX7_doors_64 : decode cX7_doors 64 = .ok (.istore 6, 2) := by decide +kernel
theorem dX7_doors_66 : decode cX7_doors 66 = .ok (.iload_n 1, 1) := by decide +kernel
theorem dX7_doors_67 : decode cX7_doors 67 = .ok (.iconst 1, 1) := by decide +kernel
theorem dX7_doors_68 : decode cX7_doors 68 = .ok (.isub, 1) := by decide +kernel
theorem dX7_doors_69 : decode cX7_doors 69 = .ok (.istore 7, 2) := by decide +kernel
theorem dX7_doors_71 : decode cX7_doors 71 = .ok (.iload 7, 2) := by decide +kernel
theorem dX7_doors_73 : decode cX7_doors 73 = .ok (.ifCond .lt 26, 3) := by decide +kernel
theorem dX7_doors_76 : decode cX7_doors 76 = .ok (.aload_n 0, 1) := by decide +kernel
theorem dX7_doors_77 : decode cX7_doors 77 = .ok (.getfield 54, 3) := by decide +kernel
theorem dX7_doors_80 : decode cX7_doors 80 = .ok (.iload 7, 2) := by decide +kernel
theorem dX7_doors_82 : decode cX7_doors 82 = .ok (.iload 6, 2) := by decide +kernel
theorem dX7_doors_84 : decode cX7_doors 84 = .ok (.iconst 3, 1) := by decide +kernel
theorem dX7_doors_85 : decode cX7_doors 85 = .ok (.irem, 1) := by decide +kernel
theorem dX7_doors_86 : decode cX7_doors 86 = .ok (.iastore, 1) := by decide +kernel
theorem dX7_doors_87 : decode cX7_doors 87 = .ok (.iload 6, 2) := by decide +kernel
theorem dX7_doors_89 : decode cX7_doors 89 = .ok (.iconst 3, 1) := by decide +kernel
theorem dX7_doors_90 : decode cX7_doors 90 = .ok (.idiv, 1) := by decide +kernel
theorem dX7_doors_91 : decode cX7_doors 91 = .ok (.istore 6, 2) := by decide +kernel
theorem dX7_doors_93 : decode cX7_doors 93 = .ok (.iinc 7 (-1), 3) := by decide +kernel
theorem dX7_doors_96 : decode cX7_doors 96 = .ok (.goto (-25), 3) := by decide +kernel
theorem dX7_doors_99 : decode cX7_doors 99 = .ok (.aload_n 0, 1) := by decide +kernel
theorem dX7_doors_100 : decode cX7_doors 100 = .ok (.iload_n 1, 1) := by decide +kernel
theorem dX7_doors_101 : decode cX7_doors 101 = .ok (.invokevirtual 156, 3) := by decide +kernel
theorem dX7_doors_104 : decode cX7_doors 104 = .ok (.istore 7, 2) := by decide +kernel
theorem dX7_doors_106 : decode cX7_doors 106 = .ok (.iload 4, 2) := by decide +kernel
theorem dX7_doors_108 : decode cX7_doors 108 = .ok (.ifCond .lt 10, 3) := by decide +kernel
theorem dX7_doors_111 : decode cX7_doors 111 = .ok (.iload 7, 2) := by decide +kernel
theorem dX7_doors_113 : decode cX7_doors 113 = .ok (.iload 4, 2) := by decide +kernel
theorem dX7_doors_115 : decode cX7_doors 115 = .ok (.if_icmp .ge 36, 3) := by decide +kernel
theorem dX7_doors_118 : decode cX7_doors 118 = .ok (.iload 7, 2) := by decide +kernel
theorem dX7_doors_120 : decode cX7_doors 120 = .ok (.istore 4, 2) := by decide +kernel
theorem dX7_doors_122 : decode cX7_doors 122 = .ok (.iconst 0, 1) := by decide +kernel
theorem dX7_doors_123 : decode cX7_doors 123 = .ok (.istore 8, 2) := by decide +kernel
theorem dX7_doors_125 : decode cX7_doors 125 = .ok (.iload 8, 2) := by decide +kernel
theorem dX7_doors_127 : decode cX7_doors 127 = .ok (.iload_n 1, 1) := by decide +kernel
theorem dX7_doors_128 : decode cX7_doors 128 = .ok (.if_icmp .ge 23, 3) := by decide +kernel
theorem dX7_doors_131 : decode cX7_doors 131 = .ok (.aload_n 0, 1) := by decide +kernel
theorem dX7_doors_132 : decode cX7_doors 132 = .ok (.getfield 51, 3) := by decide +kernel
theorem dX7_doors_135 : decode cX7_doors 135 = .ok (.iload 8, 2) := by decide +kernel
theorem dX7_doors_137 : decode cX7_doors 137 = .ok (.aload_n 0, 1) := by decide +kernel
theorem dX7_doors_138 : decode cX7_doors 138 = .ok (.getfield 54, 3) := by decide +kernel
theorem dX7_doors_141 : decode cX7_doors 141 = .ok (.iload 8, 2) := by decide +kernel
theorem dX7_doors_143 : decode cX7_doors 143 = .ok (.iaload, 1) := by decide +kernel
theorem dX7_doors_144 : decode cX7_doors 144 = .ok (.iastore, 1) := by decide +kernel
theorem dX7_doors_145 : decode cX7_doors 145 = .ok (.iinc 8 1, 3) := by decide +kernel
theorem dX7_doors_148 : decode cX7_doors 148 = .ok (.goto (-23), 3) := by decide +kernel
theorem dX7_doors_151 : decode cX7_doors 151 = .ok (.iinc 5 1, 3) := by decide +kernel
theorem dX7_doors_154 : decode cX7_doors 154 = .ok (.goto (-98), 3) := by decide +kernel
theorem dX7_doors_157 : decode cX7_doors 157 = .ok (.iload_n 2, 1) := by decide +kernel
theorem dX7_doors_158 : decode cX7_doors 158 = .ok (.ifCond .ge 8, 3) := by decide +kernel
theorem dX7_doors_161 : decode cX7_doors 161 = .ok (.iload 4, 2) := by decide +kernel
theorem dX7_doors_163 : decode cX7_doors 163 = .ok (.goto 9, 3) := by decide +kernel
theorem dX7_doors_166 : decode cX7_doors 166 = .ok (.aload_n 0, 1) := by decide +kernel
theorem dX7_doors_167 : decode cX7_doors 167 = .ok (.getfield 51, 3) := by decide +kernel
theorem dX7_doors_170 : decode cX7_doors 170 = .ok (.iload_n 2, 1) := by decide +kernel
theorem dX7_doors_171 : decode cX7_doors 171 = .ok (.iaload, 1) := by decide +kernel
theorem dX7_doors_172 : decode cX7_doors 172 = .ok (.ireturn, 1) := by decide +kernel
theorem dX7_sell_0 : decode cX7_sell 0 = .ok (.aload_n 0, 1) := by decide +kernel
theorem dX7_sell_1 : decode cX7_sell 1 = .ok (.iload_n 1, 1) := by decide +kernel
theorem dX7_sell_2 : decode cX7_sell 2 = .ok (.invokevirtual 144, 3) := by decide +kernel
theorem dX7_sell_5 : decode cX7_sell 5 = .ok (.ifCond .eq 15, 3) := by decide +kernel
theorem dX7_sell_8 : decode cX7_sell 8 = .ok (.iload_n 2, 1) := by decide +kernel
theorem dX7_sell_9 : decode cX7_sell 9 = .ok (.i2l, 1) := by decide +kernel
theorem dX7_sell_10 : decode cX7_sell 10 = .ok (.lconst 1, 1) := by decide +kernel
theorem dX7_sell_11 : decode cX7_sell 11 = .ok (.ldc2_w 159, 3) := by decide +kernel
theorem dX7_sell_14 : decode cX7_sell 14 = .ok (.invokestatic 77, 3) := by decide +kernel
theorem dX7_sell_17 : decode cX7_sell 17 = .ok (.ifCond .ne 5, 3) := by decide +kernel
theorem dX7_sell_20 : decode cX7_sell 20 = .ok (.iconst (-1), 1) := by decide +kernel
theorem dX7_sell_21 : decode cX7_sell 21 = .ok (.ireturn, 1) := by decide +kernel
theorem dX7_sell_22 : decode cX7_sell 22 = .ok (.aload_n 0, 1) := by decide +kernel
theorem dX7_sell_23 : decode cX7_sell 23 = .ok (.getfield 29, 3) := by decide +kernel
theorem dX7_sell_26 : decode cX7_sell 26 = .ok (.iload_n 1, 1) := by decide +kernel
theorem dX7_sell_27 : decode cX7_sell 27 = .ok (.iaload, 1) := by decide +kernel
theorem dX7_sell_28 : decode cX7_sell 28 = .ok (.iload_n 2, 1) := by decide +kernel
theorem dX7_sell_29 : decode cX7_sell 29 = .ok (.if_icmp .ge 6, 3) := by decide +kernel
theorem dX7_sell_32 : decode cX7_sell 32 = .ok (.bipush (-2), 2) := by decide +kernel
theorem dX7_sell_34 : decode cX7_sell 34 = .ok (.ireturn, 1) := by decide +kernel
theorem dX7_sell_35 : decode cX7_sell 35 = .ok (.iload_n 2, 1) := by decide +kernel
theorem dX7_sell_36 : decode cX7_sell 36 = .ok (.aload_n 0, 1) := by decide +kernel
theorem dX7_sell_37 : decode cX7_sell 37 = .ok (.iload_n 1, 1) := by decide +kernel
theorem dX7_sell_38 : decode cX7_sell 38 = .ok (.invokevirtual 131, 3) := by decide +kernel
theorem dX7_sell_41 : decode cX7_sell 41 = .ok (.imul, 1) := by decide +kernel
theorem dX7_sell_42 : decode cX7_sell 42 = .ok (.bipush 10, 2) := by decide +kernel
theorem dX7_sell_44 : decode cX7_sell 44 = .ok (.idiv, 1) := by decide +kernel
theorem dX7_sell_45 : decode cX7_sell 45 = .ok (.istore_n 3, 1) := by decide +kernel
theorem dX7_sell_46 : decode cX7_sell 46 = .ok (.aload_n 0, 1) := by decide +kernel
theorem dX7_sell_47 : decode cX7_sell 47 = .ok (.getfield 29, 3) := by decide +kernel
theorem dX7_sell_50 : decode cX7_sell 50 = .ok (.iload_n 1, 1) := by decide +kernel
theorem dX7_sell_51 : decode cX7_sell 51 = .ok (.dup2, 1) := by decide +kernel
theorem dX7_sell_52 : decode cX7_sell 52 = .ok (.iaload, 1) := by decide +kernel
theorem dX7_sell_53 : decode cX7_sell 53 = .ok (.iload_n 2, 1) := by decide +kernel
theorem dX7_sell_54 : decode cX7_sell 54 = .ok (.isub, 1) := by decide +kernel
theorem dX7_sell_55 : decode cX7_sell 55 = .ok (.iastore, 1) := by decide +kernel
theorem dX7_sell_56 : decode cX7_sell 56 = .ok (.aload_n 0, 1) := by decide +kernel
theorem dX7_sell_57 : decode cX7_sell 57 = .ok (.getfield 35, 3) := by decide +kernel
theorem dX7_sell_60 : decode cX7_sell 60 = .ok (.iconst 0, 1) := by decide +kernel
theorem dX7_sell_61 : decode cX7_sell 61 = .ok (.dup2, 1) := by decide +kernel
theorem dX7_sell_62 : decode cX7_sell 62 = .ok (.laload, 1) := by decide +kernel
theorem dX7_sell_63 : decode cX7_sell 63 = .ok (.iload_n 3, 1) := by decide +kernel
theorem dX7_sell_64 : decode cX7_sell 64 = .ok (.i2l, 1) := by decide +kernel
theorem dX7_sell_65 : decode cX7_sell 65 = .ok (.ladd, 1) := by decide +kernel
theorem dX7_sell_66 : decode cX7_sell 66 = .ok (.lastore, 1) := by decide +kernel
theorem dX7_sell_67 : decode cX7_sell 67 = .ok (.aload_n 0, 1) := by decide +kernel
theorem dX7_sell_68 : decode cX7_sell 68 = .ok (.getfield 39, 3) := by decide +kernel
theorem dX7_sell_71 : decode cX7_sell 71 = .ok (.iconst 0, 1) := by decide +kernel
theorem dX7_sell_72 : decode cX7_sell 72 = .ok (.iaload, 1) := by decide +kernel
theorem dX7_sell_73 : decode cX7_sell 73 = .ok (.bipush 8, 2) := by decide +kernel
theorem dX7_sell_75 : decode cX7_sell 75 = .ok (.if_icmp .ne 45, 3) := by decide +kernel
theorem dX7_sell_78 : decode cX7_sell 78 = .ok (.iconst 0, 1) := by decide +kernel
theorem dX7_sell_79 : decode cX7_sell 79 = .ok (.istore 4, 2) := by decide +kernel
theorem dX7_sell_81 : decode cX7_sell 81 = .ok (.iload 4, 2) := by decide +kernel
theorem dX7_sell_83 : decode cX7_sell 83 = .ok (.bipush 21, 2) := by decide +kernel
theorem dX7_sell_85 : decode cX7_sell 85 = .ok (.if_icmp .ge 25, 3) := by decide +kernel
theorem dX7_sell_88 : decode cX7_sell 88 = .ok (.aload_n 0, 1) := by decide +kernel
theorem dX7_sell_89 : decode cX7_sell 89 = .ok (.getfield 42, 3) := by decide +kernel
theorem dX7_sell_92 : decode cX7_sell 92 = .ok (.iload 4, 2) := by decide +kernel
theorem dX7_sell_94 : decode cX7_sell 94 = .ok (.aload_n 0, 1) := by decide +kernel
theorem dX7_sell_95 : decode cX7_sell 95 = .ok (.getfield 42, 3) := by decide +kernel
theorem dX7_sell_98 : decode cX7_sell 98 = .ok (.iload 4, 2) := by decide +kernel
theorem dX7_sell_100 : decode cX7_sell 100 = .ok (.iconst 3, 1) := by decide +kernel
theorem dX7_sell_101 : decode cX7_sell 101 = .ok (.iadd, 1) := by decide +kernel
theorem dX7_sell_102 : decode cX7_sell 102 = .ok (.iaload, 1) := by decide +kernel
theorem dX7_sell_103 : decode cX7_sell 103 = .ok (.iastore, 1) := by decide +kernel
theorem dX7_sell_104 : decode cX7_sell 104 = .ok (.iinc 4 1, 3) := by decide +kernel
theorem dX7_sell_107 : decode cX7_sell 107 = .ok (.goto (-26), 3) := by decide +kernel
theorem dX7_sell_110 : decode cX7_sell 110 = .ok (.aload_n 0, 1) := by decide +kernel
theorem dX7_sell_111 : decode cX7_sell 111 = .ok (.getfield 39, 3) := by decide +kernel
theorem dX7_sell_114 : decode cX7_sell 114 = .ok (.iconst 0, 1) := by decide +kernel
theorem dX7_sell_115 : decode cX7_sell 115 = .ok (.dup2, 1) := by decide +kernel
theorem dX7_sell_116 : decode cX7_sell 116 = .ok (.iaload, 1) := by decide +kernel
theorem dX7_sell_117 : decode cX7_sell 117 = .ok (.iconst 1, 1) := by decide +kernel
theorem dX7_sell_118 : decode cX7_sell 118 = .ok (.isub, 1) := by decide +kernel
theorem dX7_sell_119 : decode cX7_sell 119 = .ok (.iastore, 1) := by decide +kernel
theorem dX7_sell_120 : decode cX7_sell 120 = .ok (.aload_n 0, 1) := by decide +kernel
theorem dX7_sell_121 : decode cX7_sell 121 = .ok (.getfield 42, 3) := by decide +kernel
theorem dX7_sell_124 : decode cX7_sell 124 = .ok (.iconst 3, 1) := by decide +kernel
theorem dX7_sell_125 : decode cX7_sell 125 = .ok (.aload_n 0, 1) := by decide +kernel
theorem dX7_sell_126 : decode cX7_sell 126 = .ok (.getfield 39, 3) := by decide +kernel
theorem dX7_sell_129 : decode cX7_sell 129 = .ok (.iconst 0, 1) := by decide +kernel
theorem dX7_sell_130 : decode cX7_sell 130 = .ok (.iaload, 1) := by decide +kernel
theorem dX7_sell_131 : decode cX7_sell 131 = .ok (.imul, 1) := by decide +kernel
theorem dX7_sell_132 : decode cX7_sell 132 = .ok (.iload_n 1, 1) := by decide +kernel
theorem dX7_sell_133 : decode cX7_sell 133 = .ok (.iastore, 1) := by decide +kernel
theorem dX7_sell_134 : decode cX7_sell 134 = .ok (.aload_n 0, 1) := by decide +kernel
theorem dX7_sell_135 : decode cX7_sell 135 = .ok (.getfield 42, 3) := by decide +kernel
theorem dX7_sell_138 : decode cX7_sell 138 = .ok (.iconst 3, 1) := by decide +kernel
theorem dX7_sell_139 : decode cX7_sell 139 = .ok (.aload_n 0, 1) := by decide +kernel
theorem dX7_sell_140 : decode cX7_sell 140 = .ok (.getfield 39, 3) := by decide +kernel
theorem dX7_sell_143 : decode cX7_sell 143 = .ok (.iconst 0, 1) := by decide +kernel
theorem dX7_sell_144 : decode cX7_sell 144 = .ok (.iaload, 1) := by decide +kernel
theorem dX7_sell_145 : decode cX7_sell 145 = .ok (.imul, 1) := by decide +kernel
theorem dX7_sell_146 : decode cX7_sell 146 = .ok (.iconst 1, 1) := by decide +kernel
theorem dX7_sell_147 : decode cX7_sell 147 = .ok (.iadd, 1) := by decide +kernel
theorem dX7_sell_148 : decode cX7_sell 148 = .ok (.iload_n 2, 1) := by decide +kernel
theorem dX7_sell_149 : decode cX7_sell 149 = .ok (.iastore, 1) := by decide +kernel
theorem dX7_sell_150 : decode cX7_sell 150 = .ok (.aload_n 0, 1) := by decide +kernel
theorem dX7_sell_151 : decode cX7_sell 151 = .ok (.getfield 42, 3) := by decide +kernel
theorem dX7_sell_154 : decode cX7_sell 154 = .ok (.iconst 3, 1) := by decide +kernel
theorem dX7_sell_155 : decode cX7_sell 155 = .ok (.aload_n 0, 1) := by decide +kernel
theorem dX7_sell_156 : decode cX7_sell 156 = .ok (.getfield 39, 3) := by decide +kernel
theorem dX7_sell_159 : decode cX7_sell 159 = .ok (.iconst 0, 1) := by decide +kernel
theorem dX7_sell_160 : decode cX7_sell 160 = .ok (.iaload, 1) := by decide +kernel
theorem dX7_sell_161 : decode cX7_sell 161 = .ok (.imul, 1) := by decide +kernel
theorem dX7_sell_162 : decode cX7_sell 162 = .ok (.iconst 2, 1) := by decide +kernel
theorem dX7_sell_163 : decode cX7_sell 163 = .ok (.iadd, 1) := by decide +kernel
theorem dX7_sell_164 : decode cX7_sell 164 = .ok (.iload_n 3, 1) := by decide +kernel
theorem dX7_sell_165 : decode cX7_sell 165 = .ok (.iastore, 1) := by decide +kernel
theorem dX7_sell_166 : decode cX7_sell 166 = .ok (.aload_n 0, 1) := by decide +kernel
theorem dX7_sell_167 : decode cX7_sell 167 = .ok (.getfield 39, 3) := by decide +kernel
theorem dX7_sell_170 : decode cX7_sell 170 = .ok (.iconst 0, 1) := by decide +kernel
theorem dX7_sell_171 : decode cX7_sell 171 = .ok (.dup2, 1) := by decide +kernel
theorem dX7_sell_172 : decode cX7_sell 172 = .ok (.iaload, 1) := by decide +kernel
theorem dX7_sell_173 : decode cX7_sell 173 = .ok (.iconst 1, 1) := by decide +kernel
theorem dX7_sell_174 : decode cX7_sell 174 = .ok (.iadd, 1) := by decide +kernel
theorem dX7_sell_175 : decode cX7_sell 175 = .ok (.iastore, 1) := by decide +kernel
theorem dX7_sell_176 : decode cX7_sell 176 = .ok (.iload_n 3, 1) := by decide +kernel
theorem dX7_sell_177 : decode cX7_sell 177 = .ok (.ireturn, 1) := by decide +kernel
theorem dX7_undo_0 : decode cX7_undo 0 = .ok (.aload_n 0, 1) := by decide +kernel
theorem dX7_undo_1 : decode cX7_undo 1 = .ok (.getfield 39, 3) := by decide +kernel
theorem dX7_undo_4 : decode cX7_undo 4 = .ok (.iconst 0, 1) := by decide +kernel
theorem dX7_undo_5 : decode cX7_undo 5 = .ok (.iaload, 1) := by decide +kernel
theorem dX7_undo_6 : decode cX7_undo 6 = .ok (.ifCond .ne 6, 3) := by decide +kernel
theorem dX7_undo_9 : decode cX7_undo 9 = .ok (.bipush (-2), 2) := by decide +kernel
theorem dX7_undo_11 : decode cX7_undo 11 = .ok (.ireturn, 1) := by decide +kernel
theorem dX7_undo_12 : decode cX7_undo 12 = .ok (.aload_n 0, 1) := by decide +kernel
theorem dX7_undo_13 : decode cX7_undo 13 = .ok (.getfield 39, 3) := by decide +kernel
theorem dX7_undo_16 : decode cX7_undo 16 = .ok (.iconst 0, 1) := by decide +kernel
theorem dX7_undo_17 : decode cX7_undo 17 = .ok (.dup2, 1) := by decide +kernel
theorem dX7_undo_18 : decode cX7_undo 18 = .ok (.iaload, 1) := by decide +kernel
theorem dX7_undo_19 : decode cX7_undo 19 = .ok (.iconst 1, 1) := by decide +kernel
theorem dX7_undo_20 : decode cX7_undo 20 = .ok (.isub, 1) := by decide +kernel
theorem dX7_undo_21 : decode cX7_undo 21 = .ok (.iastore, 1) := by decide +kernel
theorem dX7_undo_22 : decode cX7_undo 22 = .ok (.iconst 3, 1) := by decide +kernel
theorem dX7_undo_23 : decode cX7_undo 23 = .ok (.aload_n 0, 1) := by decide +kernel
theorem dX7_undo_24 : decode cX7_undo 24 = .ok (.getfield 39, 3) := by decide +kernel
theorem dX7_undo_27 : decode cX7_undo 27 = .ok (.iconst 0, 1) := by decide +kernel
theorem dX7_undo_28 : decode cX7_undo 28 = .ok (.iaload, 1) := by decide +kernel
theorem dX7_undo_29 : decode cX7_undo 29 = .ok (.imul, 1) := by decide +kernel
theorem dX7_undo_30 : decode cX7_undo 30 = .ok (.istore_n 1, 1) := by decide +kernel
theorem dX7_undo_31 : decode cX7_undo 31 = .ok (.aload_n 0, 1) := by decide +kernel
theorem dX7_undo_32 : decode cX7_undo 32 = .ok (.getfield 29, 3) := by decide +kernel
theorem dX7_undo_35 : decode cX7_undo 35 = .ok (.aload_n 0, 1) := by decide +kernel
theorem dX7_undo_36 : decode cX7_undo 36 = .ok (.getfield 42, 3) := by decide +kernel
theorem dX7_undo_39 : decode cX7_undo 39 = .ok (.iload_n 1, 1) := by decide +kernel
theorem dX7_undo_40 : decode cX7_undo 40 = .ok (.iaload, 1) := by decide +kernel
theorem dX7_undo_41 : decode cX7_undo 41 = .ok (.dup2, 1) := by decide +kernel
theorem dX7_undo_42 : decode cX7_undo 42 = .ok (.iaload, 1) := by decide +kernel
theorem dX7_undo_43 : decode cX7_undo 43 = .ok (.aload_n 0, 1) := by decide +kernel
theorem dX7_undo_44 : decode cX7_undo 44 = .ok (.getfield 42, 3) := by decide +kernel
theorem dX7_undo_47 : decode cX7_undo 47 = .ok (.iload_n 1, 1) := by decide +kernel
theorem dX7_undo_48 : decode cX7_undo 48 = .ok (.iconst 1, 1) := by decide +kernel
theorem dX7_undo_49 : decode cX7_undo 49 = .ok (.iadd, 1) := by decide +kernel
theorem dX7_undo_50 : decode cX7_undo 50 = .ok (.iaload, 1) := by decide +kernel
theorem dX7_undo_51 : decode cX7_undo 51 = .ok (.iadd, 1) := by decide +kernel
theorem dX7_undo_52 : decode cX7_undo 52 = .ok (.iastore, 1) := by decide +kernel
theorem dX7_undo_53 : decode cX7_undo 53 = .ok (.aload_n 0, 1) := by decide +kernel
theorem dX7_undo_54 : decode cX7_undo 54 = .ok (.getfield 35, 3) := by decide +kernel
theorem dX7_undo_57 : decode cX7_undo 57 = .ok (.iconst 0, 1) := by decide +kernel
theorem dX7_undo_58 : decode cX7_undo 58 = .ok (.dup2, 1) := by decide +kernel
theorem dX7_undo_59 : decode cX7_undo 59 = .ok (.laload, 1) := by decide +kernel
theorem dX7_undo_60 : decode cX7_undo 60 = .ok (.aload_n 0, 1) := by decide +kernel
theorem dX7_undo_61 : decode cX7_undo 61 = .ok (.getfield 42, 3) := by decide +kernel
theorem dX7_undo_64 : decode cX7_undo 64 = .ok (.iload_n 1, 1) := by decide +kernel
theorem dX7_undo_65 : decode cX7_undo 65 = .ok (.iconst 2, 1) := by decide +kernel
theorem dX7_undo_66 : decode cX7_undo 66 = .ok (.iadd, 1) := by decide +kernel
theorem dX7_undo_67 : decode cX7_undo 67 = .ok (.iaload, 1) := by decide +kernel
theorem dX7_undo_68 : decode cX7_undo 68 = .ok (.i2l, 1) := by decide +kernel
theorem dX7_undo_69 : decode cX7_undo 69 = .ok (.lsub, 1) := by decide +kernel
theorem dX7_undo_70 : decode cX7_undo 70 = .ok (.lastore, 1) := by decide +kernel
theorem dX7_undo_71 : decode cX7_undo 71 = .ok (.aload_n 0, 1) := by decide +kernel
theorem dX7_undo_72 : decode cX7_undo 72 = .ok (.getfield 42, 3) := by decide +kernel
theorem dX7_undo_75 : decode cX7_undo 75 = .ok (.iload_n 1, 1) := by decide +kernel
theorem dX7_undo_76 : decode cX7_undo 76 = .ok (.iconst 1, 1) := by decide +kernel
theorem dX7_undo_77 : decode cX7_undo 77 = .ok (.iadd, 1) := by decide +kernel
theorem dX7_undo_78 : decode cX7_undo 78 = .ok (.iaload, 1) := by decide +kernel
theorem dX7_undo_79 : decode cX7_undo 79 = .ok (.ireturn, 1) := by decide +kernel
theorem dX7_swap_0 : decode cX7_swap 0 = .ok (.aload_n 0, 1) := by decide +kernel
theorem dX7_swap_1 : decode cX7_swap 1 = .ok (.iload_n 1, 1) := by decide +kernel
theorem dX7_swap_2 : decode cX7_swap 2 = .ok (.invokevirtual 144, 3) := by decide +kernel
theorem dX7_swap_5 : decode cX7_swap 5 = .ok (.ifCond .eq 15, 3) := by decide +kernel
theorem dX7_swap_8 : decode cX7_swap 8 = .ok (.iload_n 2, 1) := by decide +kernel
theorem dX7_swap_9 : decode cX7_swap 9 = .ok (.i2l, 1) := by decide +kernel
theorem dX7_swap_10 : decode cX7_swap 10 = .ok (.lconst 0, 1) := by decide +kernel
theorem dX7_swap_11 : decode cX7_swap 11 = .ok (.ldc2_w 161, 3) := by decide +kernel
theorem dX7_swap_14 : decode cX7_swap 14 = .ok (.invokestatic 77, 3) := by decide +kernel
theorem dX7_swap_17 : decode cX7_swap 17 = .ok (.ifCond .ne 5, 3) := by decide +kernel
theorem dX7_swap_20 : decode cX7_swap 20 = .ok (.iconst (-1), 1) := by decide +kernel
theorem dX7_swap_21 : decode cX7_swap 21 = .ok (.ireturn, 1) := by decide +kernel
theorem dX7_swap_22 : decode cX7_swap 22 = .ok (.aload_n 0, 1) := by decide +kernel
theorem dX7_swap_23 : decode cX7_swap 23 = .ok (.getfield 32, 3) := by decide +kernel
theorem dX7_swap_26 : decode cX7_swap 26 = .ok (.iload_n 1, 1) := by decide +kernel
theorem dX7_swap_27 : decode cX7_swap 27 = .ok (.iaload, 1) := by decide +kernel
theorem dX7_swap_28 : decode cX7_swap 28 = .ok (.istore_n 3, 1) := by decide +kernel
theorem dX7_swap_29 : decode cX7_swap 29 = .ok (.aload_n 0, 1) := by decide +kernel
theorem dX7_swap_30 : decode cX7_swap 30 = .ok (.getfield 32, 3) := by decide +kernel
theorem dX7_swap_33 : decode cX7_swap 33 = .ok (.iload_n 1, 1) := by decide +kernel
theorem dX7_swap_34 : decode cX7_swap 34 = .ok (.iload_n 2, 1) := by decide +kernel
theorem dX7_swap_35 : decode cX7_swap 35 = .ok (.iastore, 1) := by decide +kernel
theorem dX7_swap_36 : decode cX7_swap 36 = .ok (.iload_n 3, 1) := by decide +kernel
theorem dX7_swap_37 : decode cX7_swap 37 = .ok (.ireturn, 1) := by decide +kernel
theorem dX7_years_0 : decode cX7_years 0 = .ok (.iconst 0, 1) := by decide +kernel
theorem dX7_years_1 : decode cX7_years 1 = .ok (.istore_n 2, 1) := by decide +kernel
theorem dX7_years_2 : decode cX7_years 2 = .ok (.iconst (-1), 1) := by decide +kernel
theorem dX7_years_3 : decode cX7_years 3 = .ok (.istore_n 3, 1) := by decide +kernel
theorem dX7_years_4 : decode cX7_years 4 = .ok (.iconst 0, 1) := by decide +kernel
theorem dX7_years_5 : decode cX7_years 5 = .ok (.istore 4, 2) := by decide +kernel
theorem dX7_years_7 : decode cX7_years 7 = .ok (.iload 4, 2) := by decide +kernel
theorem dX7_years_9 : decode cX7_years 9 = .ok (.aload_n 0, 1) := by decide +kernel
theorem dX7_years_10 : decode cX7_years 10 = .ok (.getfield 26, 3) := by decide +kernel
theorem dX7_years_13 : decode cX7_years 13 = .ok (.iconst 0, 1) := by decide +kernel
theorem dX7_years_14 : decode cX7_years 14 = .ok (.iaload, 1) := by decide +kernel
theorem dX7_years_15 : decode cX7_years 15 = .ok (.if_icmp .ge 55, 3) := by decide +kernel
theorem dX7_years_18 : decode cX7_years 18 = .ok (.iload_n 1, 1) := by decide +kernel
theorem dX7_years_19 : decode cX7_years 19 = .ok (.iload 4, 2) := by decide +kernel
theorem dX7_years_21 : decode cX7_years 21 = .ok (.ishr, 1) := by decide +kernel
theorem dX7_years_22 : decode cX7_years 22 = .ok (.iconst 1, 1) := by decide +kernel
theorem dX7_years_23 : decode cX7_years 23 = .ok (.iand, 1) := by decide +kernel
theorem dX7_years_24 : decode cX7_years 24 = .ok (.ifCond .ne 40, 3) := by decide +kernel
theorem dX7_years_27 : decode cX7_years 27 = .ok (.aload_n 0, 1) := by decide +kernel
theorem dX7_years_28 : decode cX7_years 28 = .ok (.getfield 29, 3) := by decide +kernel
theorem dX7_years_31 : decode cX7_years 31 = .ok (.iload 4, 2) := by decide +kernel
theorem dX7_years_33 : decode cX7_years 33 = .ok (.iaload, 1) := by decide +kernel
theorem dX7_years_34 : decode cX7_years 34 = .ok (.ifCond .le 30, 3) := by decide +kernel
theorem dX7_years_37 : decode cX7_years 37 = .ok (.iload_n 2, 1) := by decide +kernel
theorem dX7_years_38 : decode cX7_years 38 = .ok (.aload_n 0, 1) := by decide +kernel
theorem dX7_years_39 : decode cX7_years 39 = .ok (.iload 4, 2) := by decide +kernel
theorem dX7_years_41 : decode cX7_years 41 = .ok (.iconst 0, 1) := by decide +kernel
theorem dX7_years_42 : decode cX7_years 42 = .ok (.invokevirtual 123, 3) := by decide +kernel
theorem dX7_years_45 : decode cX7_years 45 = .ok (.iload_n 3, 1) := by decide +kernel
theorem dX7_years_46 : decode cX7_years 46 = .ok (.if_icmp .ne 7, 3) := by decide +kernel
theorem dX7_years_49 : decode cX7_years 49 = .ok (.iconst 0, 1) := by decide +kernel
theorem dX7_years_50 : decode cX7_years 50 = .ok (.goto 4, 3) := by decide +kernel
theorem dX7_years_53 : decode cX7_years 53 = .ok (.iconst 1, 1) := by decide +kernel
theorem dX7_years_54 : decode cX7_years 54 = .ok (.iadd, 1) := by decide +kernel
theorem dX7_years_55 : decode cX7_years 55 = .ok (.istore_n 2, 1) := by decide +kernel
theorem dX7_years_56 : decode cX7_years 56 = .ok (.aload_n 0, 1) := by decide +kernel
theorem dX7_years_57 : decode cX7_years 57 = .ok (.iload 4, 2) := by decide +kernel
theorem dX7_years_59 : decode cX7_years 59 = .ok (.iconst 0, 1) := by decide +kernel
theorem dX7_years_60 : decode cX7_years 60 = .ok (.invokevirtual 123, 3) := by decide +kernel
theorem dX7_years_63 : decode cX7_years 63 = .ok (.istore_n 3, 1) := by decide +kernel
theorem dX7_years_64 : decode cX7_years 64 = .ok (.iinc 4 1, 3) := by decide +kernel
theorem dX7_years_67 : decode cX7_years 67 = .ok (.goto (-60), 3) := by decide +kernel
theorem dX7_years_70 : decode cX7_years 70 = .ok (.iload_n 2, 1) := by decide +kernel
theorem dX7_years_71 : decode cX7_years 71 = .ok (.ireturn, 1) := by decide +kernel
theorem dX7_letGo_0 : decode cX7_letGo 0 = .ok (.iload_n 1, 1) := by decide +kernel
theorem dX7_letGo_1 : decode cX7_letGo 1 = .ok (.i2l, 1) := by decide +kernel
theorem dX7_letGo_2 : decode cX7_letGo 2 = .ok (.lconst 1, 1) := by decide +kernel
theorem dX7_letGo_3 : decode cX7_letGo 3 = .ok (.ldc2_w 163, 3) := by decide +kernel
theorem dX7_letGo_6 : decode cX7_letGo 6 = .ok (.invokestatic 77, 3) := by decide +kernel
theorem dX7_letGo_9 : decode cX7_letGo 9 = .ok (.ifCond .eq 27, 3) := by decide +kernel
theorem dX7_letGo_12 : decode cX7_letGo 12 = .ok (.iload_n 2, 1) := by decide +kernel
theorem dX7_letGo_13 : decode cX7_letGo 13 = .ok (.i2l, 1) := by decide +kernel
theorem dX7_letGo_14 : decode cX7_letGo 14 = .ok (.lconst 1, 1) := by decide +kernel
theorem dX7_letGo_15 : decode cX7_letGo 15 = .ok (.ldc2_w 127, 3) := by decide +kernel
theorem dX7_letGo_18 : decode cX7_letGo 18 = .ok (.invokestatic 77, 3) := by decide +kernel
theorem dX7_letGo_21 : decode cX7_letGo 21 = .ok (.ifCond .eq 15, 3) := by decide +kernel
theorem dX7_letGo_24 : decode cX7_letGo 24 = .ok (.iload_n 3, 1) := by decide +kernel
theorem dX7_letGo_25 : decode cX7_letGo 25 = .ok (.i2l, 1) := by decide +kernel
theorem dX7_letGo_26 : decode cX7_letGo 26 = .ok (.lconst 0, 1) := by decide +kernel
theorem dX7_letGo_27 : decode cX7_letGo 27 = .ok (.ldc2_w 147, 3) := by decide +kernel
theorem dX7_letGo_30 : decode cX7_letGo 30 = .ok (.invokestatic 77, 3) := by decide +kernel
theorem dX7_letGo_33 : decode cX7_letGo 33 = .ok (.ifCond .ne 5, 3) := by decide +kernel
theorem dX7_letGo_36 : decode cX7_letGo 36 = .ok (.iconst (-1), 1) := by decide +kernel
theorem dX7_letGo_37 : decode cX7_letGo 37 = .ok (.ireturn, 1) := by decide +kernel
theorem dX7_letGo_38 : decode cX7_letGo 38 = .ok (.iconst (-1), 1) := by decide +kernel
theorem dX7_letGo_39 : decode cX7_letGo 39 = .ok (.istore 4, 2) := by decide +kernel
theorem dX7_letGo_41 : decode cX7_letGo 41 = .ok (.iconst (-1), 1) := by decide +kernel
theorem dX7_letGo_42 : decode cX7_letGo 42 = .ok (.istore 5, 2) := by decide +kernel
theorem dX7_letGo_44 : decode cX7_letGo 44 = .ok (.iconst (-1), 1) := by decide +kernel
theorem dX7_letGo_45 : decode cX7_letGo 45 = .ok (.istore 6, 2) := by decide +kernel
theorem dX7_letGo_47 : decode cX7_letGo 47 = .ok (.iconst 0, 1) := by decide +kernel
theorem dX7_letGo_48 : decode cX7_letGo 48 = .ok (.istore 7, 2) := by decide +kernel
theorem dX7_letGo_50 : decode cX7_letGo 50 = .ok (.iload 7, 2) := by decide +kernel
theorem dX7_letGo_52 : decode cX7_letGo 52 = .ok (.iconst 1, 1) := by decide +kernel
theorem dX7_letGo_53 : decode cX7_letGo 53 = .ok (.aload_n 0, 1) := by decide +kernel
theorem dX7_letGo_54 : decode cX7_letGo 54 = .ok (.getfield 26, 3) := by decide +kernel
theorem dX7_letGo_57 : decode cX7_letGo 57 = .ok (.iconst 0, 1) := by decide +kernel
theorem dX7_letGo_58 : decode cX7_letGo 58 = .ok (.iaload, 1) := by decide +kernel
theorem dX7_letGo_59 : decode cX7_letGo 59 = .ok (.ishl, 1) := by decide +kernel
theorem dX7_letGo_60 : decode cX7_letGo 60 = .ok (.if_icmp .ge 140, 3) := by decide +kernel
theorem dX7_letGo_63 : decode cX7_letGo 63 = .ok (.iconst 0, 1) := by decide +kernel
theorem dX7_letGo_64 : decode cX7_letGo 64 = .ok (.istore 8, 2) := by decide +kernel
theorem dX7_letGo_66 : decode cX7_letGo 66 = .ok (.iconst 0, 1) := by decide +kernel
theorem dX7_letGo_67 : decode cX7_letGo 67 = .ok (.istore 9, 2) := by decide +kernel
theorem dX7_letGo_69 : decode cX7_letGo 69 = .ok (.iconst 0, 1) := by decide +kernel
theorem dX7_letGo_70 : decode cX7_letGo 70 = .ok (.istore 10, 2) := by decide +kernel
theorem dX7_letGo_72 : decode cX7_letGo 72 = .ok (.iload 10, 2) := by decide +kernel
theorem dX7_letGo_74 : decode cX7_letGo 74 = .ok (.aload_n 0, 1) := by decide +kernel
theorem dX7_letGo_75 : decode cX7_letGo 75 = .ok (.getfield 26, 3) := by decide +kernel
theorem dX7_letGo_78 : decode cX7_letGo 78 = .ok (.iconst 0, 1) := by decide +kernel
theorem dX7_letGo_79 : decode cX7_letGo 79 = .ok (.iaload, 1) := by decide +kernel
theorem dX7_letGo_80 : decode cX7_letGo 80 = .ok (.if_icmp .ge 55, 3) := by decide +kernel
theorem dX7_letGo_83 : decode cX7_letGo 83 = .ok (.iload 7, 2) := by decide +kernel
theorem dX7_letGo_85 : decode cX7_letGo 85 = .ok (.iload 10, 2) := by decide +kernel
theorem dX7_letGo_87 : decode cX7_letGo 87 = .ok (.ishr, 1) := by decide +kernel
theorem dX7_letGo_88 : decode cX7_letGo 88 = .ok (.iconst 1, 1) := by decide +kernel
theorem dX7_letGo_89 : decode cX7_letGo 89 = .ok (.iand, 1) := by decide +kernel
theorem dX7_letGo_90 : decode cX7_letGo 90 = .ok (.iconst 1, 1) := by decide +kernel
theorem dX7_letGo_91 : decode cX7_letGo 91 = .ok (.if_icmp .ne 7, 3) := by decide +kernel
theorem dX7_letGo_94 : decode cX7_letGo 94 = .ok (.iconst 0, 1) := by decide +kernel
theorem dX7_letGo_95 : decode cX7_letGo 95 = .ok (.goto 10, 3) := by decide +kernel
theorem dX7_letGo_98 : decode cX7_letGo 98 = .ok (.aload_n 0, 1) := by decide +kernel
theorem dX7_letGo_99 : decode cX7_letGo 99 = .ok (.getfield 29, 3) := by decide +kernel
theorem dX7_letGo_102 : decode cX7_letGo 102 = .ok (.iload 10, 2) := by decide +kernel
theorem dX7_letGo_104 : decode cX7_letGo 104 = .ok (.iaload, 1) := by decide +kernel
theorem dX7_letGo_105 : decode cX7_letGo 105 = .ok (.istore 11, 2) := by decide +kernel
theorem dX7_letGo_107 : decode cX7_letGo 107 = .ok (.iload 8, 2) := by decide +kernel
theorem dX7_letGo_109 : decode cX7_letGo 109 = .ok (.iload 11, 2) := by decide +kernel
theorem dX7_letGo_111 : decode cX7_letGo 111 = .ok (.iadd, 1) := by decide +kernel
theorem dX7_letGo_112 : decode cX7_letGo 112 = .ok (.istore 8, 2) := by decide +kernel
theorem dX7_letGo_114 : decode cX7_letGo 114 = .ok (.iload 9, 2) := by decide +kernel
theorem dX7_letGo_116 : decode cX7_letGo 116 = .ok (.iload 11, 2) := by decide +kernel
theorem dX7_letGo_118 : decode cX7_letGo 118 = .ok (.aload_n 0, 1) := by decide +kernel
theorem dX7_letGo_119 : decode cX7_letGo 119 = .ok (.iload 10, 2) := by decide +kernel
theorem dX7_letGo_121 : decode cX7_letGo 121 = .ok (.iconst 2, 1) := by decide +kernel
theorem dX7_letGo_122 : decode cX7_letGo 122 = .ok (.invokevirtual 123, 3) := by decide +kernel
theorem dX7_letGo_125 : decode cX7_letGo 125 = .ok (.imul, 1) := by decide +kernel
theorem dX7_letGo_126 : decode cX7_letGo 126 = .ok (.iadd, 1) := by decide +kernel
theorem dX7_letGo_127 : decode cX7_letGo 127 = .ok (.istore 9, 2) := by decide +kernel
theorem dX7_letGo_129 : decode cX7_letGo 129 = .ok (.iinc 10 1, 3) := by decide +kernel
theorem dX7_letGo_132 : decode cX7_letGo 132 = .ok (.goto (-60), 3) := by decide +kernel
theorem dX7_letGo_135 : decode cX7_letGo 135 = .ok (.iload 8, 2) := by decide +kernel
theorem dX7_letGo_137 : decode cX7_letGo 137 = .ok (.bipush 10, 2) := by decide +kernel
theorem dX7_letGo_139 : decode cX7_letGo 139 = .ok (.iload_n 2, 1) := by decide +kernel
theorem dX7_letGo_140 : decode cX7_letGo 140 = .ok (.imul, 1) := by decide +kernel
theorem dX7_letGo_141 : decode cX7_letGo 141 = .ok (.if_icmp .gt 53, 3) := by decide +kernel
theorem dX7_letGo_144 : decode cX7_letGo 144 = .ok (.iload 9, 2) := by decide +kernel
theorem dX7_letGo_146 : decode cX7_letGo 146 = .ok (.bipush 10, 2) := by decide +kernel
theorem dX7_letGo_148 : decode cX7_letGo 148 = .ok (.iload_n 1, 1) := by decide +kernel
theorem dX7_letGo_149 : decode cX7_letGo 149 = .ok (.imul, 1) := by decide +kernel
theorem dX7_letGo_150 : decode cX7_letGo 150 = .ok (.if_icmp .gt 44, 3) := by decide +kernel
theorem dX7_letGo_153 : decode cX7_letGo 153 = .ok (.aload_n 0, 1) := by decide +kernel
theorem dX7_letGo_154 : decode cX7_letGo 154 = .ok (.iload 7, 2) := by decide +kernel
theorem dX7_letGo_156 : decode cX7_letGo 156 = .ok (.invokevirtual 165, 3) := by decide +kernel
theorem dX7_letGo_159 : decode cX7_letGo 159 = .ok (.istore 10, 2) := by decide +kernel
theorem dX7_letGo_161 : decode cX7_letGo 161 = .ok (.iload 10, 2) := by decide +kernel
theorem dX7_letGo_163 : decode cX7_letGo 163 = .ok (.iload 5, 2) := by decide +kernel
theorem dX7_letGo_165 : decode cX7_letGo 165 = .ok (.if_icmp .gt 17, 3) := by decide +kernel
theorem dX7_letGo_168 : decode cX7_letGo 168 = .ok (.iload 10, 2) := by decide +kernel
theorem dX7_letGo_170 : decode cX7_letGo 170 = .ok (.iload 5, 2) := by decide +kernel
theorem dX7_letGo_172 : decode cX7_letGo 172 = .ok (.if_icmp .ne 22, 3) := by decide +kernel
theorem dX7_letGo_175 : decode cX7_letGo 175 = .ok (.iload 8, 2) := by decide +kernel
theorem dX7_letGo_177 : decode cX7_letGo 177 = .ok (.iload 6, 2) := by decide +kernel
theorem dX7_letGo_179 : decode cX7_letGo 179 = .ok (.if_icmp .le 15, 3) := by decide +kernel
theorem dX7_letGo_182 : decode cX7_letGo 182 = .ok (.iload 7, 2) := by decide +kernel
theorem dX7_letGo_184 : decode cX7_letGo 184 = .ok (.istore 4, 2) := by decide +kernel
theorem dX7_letGo_186 : decode cX7_letGo 186 = .ok (.iload 10, 2) := by decide +kernel
theorem dX7_letGo_188 : decode cX7_letGo 188 = .ok (.istore 5, 2) := by decide +kernel
theorem dX7_letGo_190 : decode cX7_letGo 190 = .ok (.iload 8, 2) := by decide +kernel
theorem dX7_letGo_192 : decode cX7_letGo 192 = .ok (.istore 6, 2) := by decide +kernel
theorem dX7_letGo_194 : decode cX7_letGo 194 = .ok (.iinc 7 1, 3) := by decide +kernel
theorem dX7_letGo_197 : decode cX7_letGo 197 = .ok (.goto (-147), 3) := by decide +kernel
theorem dX7_letGo_200 : decode cX7_letGo 200 = .ok (.iload_n 3, 1) := by decide +kernel
theorem dX7_letGo_201 : decode cX7_letGo 201 = .ok (.ifCond .ne 8, 3) := by decide +kernel
theorem dX7_letGo_204 : decode cX7_letGo 204 = .ok (.iload 4, 2) := by decide +kernel
theorem dX7_letGo_206 : decode cX7_letGo 206 = .ok (.goto 15, 3) := by decide +kernel
theorem dX7_letGo_209 : decode cX7_letGo 209 = .ok (.iload_n 3, 1) := by decide +kernel
theorem dX7_letGo_210 : decode cX7_letGo 210 = .ok (.iconst 1, 1) := by decide +kernel
theorem dX7_letGo_211 : decode cX7_letGo 211 = .ok (.if_icmp .ne 8, 3) := by decide +kernel
theorem dX7_letGo_214 : decode cX7_letGo 214 = .ok (.iload 5, 2) := by decide +kernel
theorem dX7_letGo_216 : decode cX7_letGo 216 = .ok (.goto 5, 3) := by decide +kernel
theorem dX7_letGo_219 : decode cX7_letGo 219 = .ok (.iload 6, 2) := by decide +kernel
theorem dX7_letGo_221 : decode cX7_letGo 221 = .ok (.ireturn, 1) := by decide +kernel
theorem dX7_weight_0 : decode cX7_weight 0 = .ok (.aload_n 0, 1) := by decide +kernel
theorem dX7_weight_1 : decode cX7_weight 1 = .ok (.getfield 29, 3) := by decide +kernel
theorem dX7_weight_4 : decode cX7_weight 4 = .ok (.iload_n 1, 1) := by decide +kernel
theorem dX7_weight_5 : decode cX7_weight 5 = .ok (.iaload, 1) := by decide +kernel
theorem dX7_weight_6 : decode cX7_weight 6 = .ok (.i2l, 1) := by decide +kernel
theorem dX7_weight_7 : decode cX7_weight 7 = .ok (.iload_n 2, 1) := by decide +kernel
theorem dX7_weight_8 : decode cX7_weight 8 = .ok (.aload_n 0, 1) := by decide +kernel
theorem dX7_weight_9 : decode cX7_weight 9 = .ok (.iload_n 1, 1) := by decide +kernel
theorem dX7_weight_10 : decode cX7_weight 10 = .ok (.iconst 3, 1) := by decide +kernel
theorem dX7_weight_11 : decode cX7_weight 11 = .ok (.invokevirtual 123, 3) := by decide +kernel
theorem dX7_weight_14 : decode cX7_weight 14 = .ok (.if_icmp .ne 15, 3) := by decide +kernel
theorem dX7_weight_17 : decode cX7_weight 17 = .ok (.bipush 10, 2) := by decide +kernel
theorem dX7_weight_19 : decode cX7_weight 19 = .ok (.aload_n 0, 1) := by decide +kernel
theorem dX7_weight_20 : decode cX7_weight 20 = .ok (.getfield 13, 3) := by decide +kernel
theorem dX7_weight_23 : decode cX7_weight 23 = .ok (.iconst 3, 1) := by decide +kernel
theorem dX7_weight_24 : decode cX7_weight 24 = .ok (.iaload, 1) := by decide +kernel
theorem dX7_weight_25 : decode cX7_weight 25 = .ok (.isub, 1) := by decide +kernel
theorem dX7_weight_26 : decode cX7_weight 26 = .ok (.goto 9, 3) := by decide +kernel
theorem dX7_weight_29 : decode cX7_weight 29 = .ok (.aload_n 0, 1) := by decide +kernel
theorem dX7_weight_30 : decode cX7_weight 30 = .ok (.getfield 13, 3) := by decide +kernel
theorem dX7_weight_33 : decode cX7_weight 33 = .ok (.iconst 3, 1) := by decide +kernel
theorem dX7_weight_34 : decode cX7_weight 34 = .ok (.iaload, 1) := by decide +kernel
theorem dX7_weight_35 : decode cX7_weight 35 = .ok (.i2l, 1) := by decide +kernel
theorem dX7_weight_36 : decode cX7_weight 36 = .ok (.lmul, 1) := by decide +kernel
theorem dX7_weight_37 : decode cX7_weight 37 = .ok (.iload_n 3, 1) := by decide +kernel
theorem dX7_weight_38 : decode cX7_weight 38 = .ok (.aload_n 0, 1) := by decide +kernel
theorem dX7_weight_39 : decode cX7_weight 39 = .ok (.iload_n 1, 1) := by decide +kernel
theorem dX7_weight_40 : decode cX7_weight 40 = .ok (.iconst 2, 1) := by decide +kernel
theorem dX7_weight_41 : decode cX7_weight 41 = .ok (.invokevirtual 123, 3) := by decide +kernel
theorem dX7_weight_44 : decode cX7_weight 44 = .ok (.if_icmp .ne 8, 3) := by decide +kernel
theorem dX7_weight_47 : decode cX7_weight 47 = .ok (.bipush 9, 2) := by decide +kernel
theorem dX7_weight_49 : decode cX7_weight 49 = .ok (.goto 4, 3) := by decide +kernel
theorem dX7_weight_52 : decode cX7_weight 52 = .ok (.iconst 1, 1) := by decide +kernel
theorem dX7_weight_53 : decode cX7_weight 53 = .ok (.i2l, 1) := by decide +kernel
theorem dX7_weight_54 : decode cX7_weight 54 = .ok (.lmul, 1) := by decide +kernel
theorem dX7_weight_55 : decode cX7_weight 55 = .ok (.lreturn, 1) := by decide +kernel
theorem dX7_weights_0 : decode cX7_weights 0 = .ok (.lconst 0, 1) := by decide +kernel
theorem dX7_weights_1 : decode cX7_weights 1 = .ok (.lstore 4, 2) := by decide +kernel
theorem dX7_weights_3 : decode cX7_weights 3 = .ok (.iconst 0, 1) := by decide +kernel
theorem dX7_weights_4 : decode cX7_weights 4 = .ok (.istore 6, 2) := by decide +kernel
theorem dX7_weights_6 : decode cX7_weights 6 = .ok (.iload 6, 2) := by decide +kernel
theorem dX7_weights_8 : decode cX7_weights 8 = .ok (.aload_n 0, 1) := by decide +kernel
theorem dX7_weights_9 : decode cX7_weights 9 = .ok (.getfield 26, 3) := by decide +kernel
theorem dX7_weights_12 : decode cX7_weights 12 = .ok (.iconst 0, 1) := by decide +kernel
theorem dX7_weights_13 : decode cX7_weights 13 = .ok (.iaload, 1) := by decide +kernel
theorem dX7_weights_14 : decode cX7_weights 14 = .ok (.if_icmp .ge 41, 3) := by decide +kernel
theorem dX7_weights_17 : decode cX7_weights 17 = .ok (.lload 4, 2) := by decide +kernel
theorem dX7_weights_19 : decode cX7_weights 19 = .ok (.iload_n 3, 1) := by decide +kernel
theorem dX7_weights_20 : decode cX7_weights 20 = .ok (.ifCond .lt 14, 3) := by decide +kernel
theorem dX7_weights_23 : decode cX7_weights 23 = .ok (.aload_n 0, 1) := by decide +kernel
theorem dX7_weights_24 : decode cX7_weights 24 = .ok (.iload 6, 2) := by decide +kernel
theorem dX7_weights_26 : decode cX7_weights 26 = .ok (.iconst 0, 1) := by decide +kernel
theorem dX7_weights_27 : decode cX7_weights 27 = .ok (.invokevirtual 123, 3) := by decide +kernel
theorem dX7_weights_30 : decode cX7_weights 30 = .ok (.iload_n 3, 1) := by decide +kernel
theorem dX7_weights_31 : decode cX7_weights 31 = .ok (.if_icmp .ne 14, 3) := by decide +kernel
theorem dX7_weights_34 : decode cX7_weights 34 = .ok (.aload_n 0, 1) := by decide +kernel
theorem dX7_weights_35 : decode cX7_weights 35 = .ok (.iload 6, 2) := by decide +kernel
theorem dX7_weights_37 : decode cX7_weights 37 = .ok (.iload_n 1, 1) := by decide +kernel
theorem dX7_weights_38 : decode cX7_weights 38 = .ok (.iload_n 2, 1) := by decide +kernel
theorem dX7_weights_39 : decode cX7_weights 39 = .ok (.invokevirtual 168, 3) := by decide +kernel
theorem dX7_weights_42 : decode cX7_weights 42 = .ok (.goto 4, 3) := by decide +kernel
theorem dX7_weights_45 : decode cX7_weights 45 = .ok (.lconst 0, 1) := by decide +kernel
theorem dX7_weights_46 : decode cX7_weights 46 = .ok (.ladd, 1) := by decide +kernel
theorem dX7_weights_47 : decode cX7_weights 47 = .ok (.lstore 4, 2) := by decide +kernel
theorem dX7_weights_49 : decode cX7_weights 49 = .ok (.iinc 6 1, 3) := by decide +kernel
theorem dX7_weights_52 : decode cX7_weights 52 = .ok (.goto (-46), 3) := by decide +kernel
theorem dX7_weights_55 : decode cX7_weights 55 = .ok (.lload 4, 2) := by decide +kernel
theorem dX7_weights_57 : decode cX7_weights 57 = .ok (.lreturn, 1) := by decide +kernel
theorem dX7_isPiece_0 : decode cX7_isPiece 0 = .ok (.iload_n 0, 1) := by decide +kernel
theorem dX7_isPiece_1 : decode cX7_isPiece 1 = .ok (.i2l, 1) := by decide +kernel
theorem dX7_isPiece_2 : decode cX7_isPiece 2 = .ok (.lconst 0, 1) := by decide +kernel
theorem dX7_isPiece_3 : decode cX7_isPiece 3 = .ok (.ldc2_w 161, 3) := by decide +kernel
theorem dX7_isPiece_6 : decode cX7_isPiece 6 = .ok (.invokestatic 77, 3) := by decide +kernel
theorem dX7_isPiece_9 : decode cX7_isPiece 9 = .ok (.ifCond .eq 19, 3) := by decide +kernel
theorem dX7_isPiece_12 : decode cX7_isPiece 12 = .ok (.iload_n 1, 1) := by decide +kernel
theorem dX7_isPiece_13 : decode cX7_isPiece 13 = .ok (.i2l, 1) := by decide +kernel
theorem dX7_isPiece_14 : decode cX7_isPiece 14 = .ok (.lconst 1, 1) := by decide +kernel
theorem dX7_isPiece_15 : decode cX7_isPiece 15 = .ok (.ldc2_w 161, 3) := by decide +kernel
theorem dX7_isPiece_18 : decode cX7_isPiece 18 = .ok (.invokestatic 77, 3) := by decide +kernel
theorem dX7_isPiece_21 : decode cX7_isPiece 21 = .ok (.ifCond .eq 7, 3) := by decide +kernel
theorem dX7_isPiece_24 : decode cX7_isPiece 24 = .ok (.iconst 1, 1) := by decide +kernel
theorem dX7_isPiece_25 : decode cX7_isPiece 25 = .ok (.goto 4, 3) := by decide +kernel
theorem dX7_isPiece_28 : decode cX7_isPiece 28 = .ok (.iconst 0, 1) := by decide +kernel
theorem dX7_isPiece_29 : decode cX7_isPiece 29 = .ok (.ireturn, 1) := by decide +kernel
theorem dX7_lowest_0 : decode cX7_lowest 0 = .ok (.lload_n 1, 1) := by decide +kernel
theorem dX7_lowest_1 : decode cX7_lowest 1 = .ok (.lstore 5, 2) := by decide +kernel
theorem dX7_lowest_3 : decode cX7_lowest 3 = .ok (.lload_n 3, 1) := by decide +kernel
theorem dX7_lowest_4 : decode cX7_lowest 4 = .ok (.lstore 7, 2) := by decide +kernel
theorem dX7_lowest_6 : decode cX7_lowest 6 = .ok (.lload 7, 2) := by decide +kernel
theorem dX7_lowest_8 : decode cX7_lowest 8 = .ok (.lconst 0, 1) := by decide +kernel
theorem dX7_lowest_9 : decode cX7_lowest 9 = .ok (.lcmp, 1) := by decide +kernel
theorem dX7_lowest_10 : decode cX7_lowest 10 = .ok (.ifCond .eq 21, 3) := by decide +kernel
theorem dX7_lowest_13 : decode cX7_lowest 13 = .ok (.lload 5, 2) := by decide +kernel
theorem dX7_lowest_15 : decode cX7_lowest 15 = .ok (.lload 7, 2) := by decide +kernel
theorem dX7_lowest_17 : decode cX7_lowest 17 = .ok (.lrem, 1) := by decide +kernel
theorem dX7_lowest_18 : decode cX7_lowest 18 = .ok (.lstore 9, 2) := by decide +kernel
theorem dX7_lowest_20 : decode cX7_lowest 20 = .ok (.lload 7, 2) := by decide +kernel
theorem dX7_lowest_22 : decode cX7_lowest 22 = .ok (.lstore 5, 2) := by decide +kernel
theorem dX7_lowest_24 : decode cX7_lowest 24 = .ok (.lload 9, 2) := by decide +kernel
theorem dX7_lowest_26 : decode cX7_lowest 26 = .ok (.lstore 7, 2) := by decide +kernel
theorem dX7_lowest_28 : decode cX7_lowest 28 = .ok (.goto (-22), 3) := by decide +kernel
theorem dX7_lowest_31 : decode cX7_lowest 31 = .ok (.aload_n 0, 1) := by decide +kernel
theorem dX7_lowest_32 : decode cX7_lowest 32 = .ok (.lload_n 1, 1) := by decide +kernel
theorem dX7_lowest_33 : decode cX7_lowest 33 = .ok (.lload 5, 2) := by decide +kernel
theorem dX7_lowest_35 : decode cX7_lowest 35 = .ok (.ldiv, 1) := by decide +kernel
theorem dX7_lowest_36 : decode cX7_lowest 36 = .ok (.putfield 172, 3) := by decide +kernel
theorem dX7_lowest_39 : decode cX7_lowest 39 = .ok (.aload_n 0, 1) := by decide +kernel
theorem dX7_lowest_40 : decode cX7_lowest 40 = .ok (.lload_n 3, 1) := by decide +kernel
theorem dX7_lowest_41 : decode cX7_lowest 41 = .ok (.lload 5, 2) := by decide +kernel
theorem dX7_lowest_43 : decode cX7_lowest 43 = .ok (.ldiv, 1) := by decide +kernel
theorem dX7_lowest_44 : decode cX7_lowest 44 = .ok (.putfield 176, 3) := by decide +kernel
theorem dX7_lowest_47 : decode cX7_lowest 47 = .ok (.return_, 1) := by decide +kernel
theorem dX7_odds_0 : decode cX7_odds 0 = .ok (.iload_n 1, 1) := by decide +kernel
theorem dX7_odds_1 : decode cX7_odds 1 = .ok (.iload_n 2, 1) := by decide +kernel
theorem dX7_odds_2 : decode cX7_odds 2 = .ok (.invokestatic 179, 3) := by decide +kernel
theorem dX7_odds_5 : decode cX7_odds 5 = .ok (.ifCond .eq 21, 3) := by decide +kernel
theorem dX7_odds_8 : decode cX7_odds 8 = .ok (.iload_n 3, 1) := by decide +kernel
theorem dX7_odds_9 : decode cX7_odds 9 = .ok (.invokestatic 182, 3) := by decide +kernel
theorem dX7_odds_12 : decode cX7_odds 12 = .ok (.ifCond .eq 14, 3) := by decide +kernel
theorem dX7_odds_15 : decode cX7_odds 15 = .ok (.iload 4, 2) := by decide +kernel
theorem dX7_odds_17 : decode cX7_odds 17 = .ok (.i2l, 1) := by decide +kernel
theorem dX7_odds_18 : decode cX7_odds 18 = .ok (.lconst 0, 1) := by decide +kernel
theorem dX7_odds_19 : decode cX7_odds 19 = .ok (.lconst 1, 1) := by decide +kernel
theorem dX7_odds_20 : decode cX7_odds 20 = .ok (.invokestatic 77, 3) := by decide +kernel
theorem dX7_odds_23 : decode cX7_odds 23 = .ok (.ifCond .ne 5, 3) := by decide +kernel
theorem dX7_odds_26 : decode cX7_odds 26 = .ok (.iconst (-1), 1) := by decide +kernel
theorem dX7_odds_27 : decode cX7_odds 27 = .ok (.ireturn, 1) := by decide +kernel
theorem dX7_odds_28 : decode cX7_odds 28 = .ok (.aload_n 0, 1) := by decide +kernel
theorem dX7_odds_29 : decode cX7_odds 29 = .ok (.iload_n 1, 1) := by decide +kernel
theorem dX7_odds_30 : decode cX7_odds 30 = .ok (.iload_n 2, 1) := by decide +kernel
theorem dX7_odds_31 : decode cX7_odds 31 = .ok (.iconst (-1), 1) := by decide +kernel
theorem dX7_odds_32 : decode cX7_odds 32 = .ok (.invokevirtual 185, 3) := by decide +kernel
theorem dX7_odds_35 : decode cX7_odds 35 = .ok (.lstore 5, 2) := by decide +kernel
theorem dX7_odds_37 : decode cX7_odds 37 = .ok (.lload 5, 2) := by decide +kernel
theorem dX7_odds_39 : decode cX7_odds 39 = .ok (.lconst 0, 1) := by decide +kernel
theorem dX7_odds_40 : decode cX7_odds 40 = .ok (.lcmp, 1) := by decide +kernel
theorem dX7_odds_41 : decode cX7_odds 41 = .ok (.ifCond .ne 6, 3) := by decide +kernel
theorem dX7_odds_44 : decode cX7_odds 44 = .ok (.bipush (-4), 2) := by decide +kernel
theorem dX7_odds_46 : decode cX7_odds 46 = .ok (.ireturn, 1) := by decide +kernel
theorem dX7_odds_47 : decode cX7_odds 47 = .ok (.aload_n 0, 1) := by decide +kernel
theorem dX7_odds_48 : decode cX7_odds 48 = .ok (.aload_n 0, 1) := by decide +kernel
theorem dX7_odds_49 : decode cX7_odds 49 = .ok (.iload_n 1, 1) := by decide +kernel
theorem dX7_odds_50 : decode cX7_odds 50 = .ok (.iload_n 2, 1) := by decide +kernel
theorem dX7_odds_51 : decode cX7_odds 51 = .ok (.iload_n 3, 1) := by decide +kernel
theorem dX7_odds_52 : decode cX7_odds 52 = .ok (.invokevirtual 185, 3) := by decide +kernel
theorem dX7_odds_55 : decode cX7_odds 55 = .ok (.lload 5, 2) := by decide +kernel
theorem dX7_odds_57 : decode cX7_odds 57 = .ok (.invokevirtual 188, 3) := by decide +kernel
theorem dX7_odds_60 : decode cX7_odds 60 = .ok (.iload 4, 2) := by decide +kernel
theorem dX7_odds_62 : decode cX7_odds 62 = .ok (.ifCond .ne 10, 3) := by decide +kernel
theorem dX7_odds_65 : decode cX7_odds 65 = .ok (.aload_n 0, 1) := by decide +kernel
theorem dX7_odds_66 : decode cX7_odds 66 = .ok (.getfield 172, 3) := by decide +kernel
theorem dX7_odds_69 : decode cX7_odds 69 = .ok (.goto 7, 3) := by decide +kernel
theorem dX7_odds_72 : decode cX7_odds 72 = .ok (.aload_n 0, 1) := by decide +kernel
theorem dX7_odds_73 : decode cX7_odds 73 = .ok (.getfield 176, 3) := by decide +kernel
theorem dX7_odds_76 : decode cX7_odds 76 = .ok (.l2i, 1) := by decide +kernel
theorem dX7_odds_77 : decode cX7_odds 77 = .ok (.ireturn, 1) := by decide +kernel
theorem dX7_likeliest_0 : decode cX7_likeliest 0 = .ok (.iload_n 1, 1) := by decide +kernel
theorem dX7_likeliest_1 : decode cX7_likeliest 1 = .ok (.iload_n 2, 1) := by decide +kernel
theorem dX7_likeliest_2 : decode cX7_likeliest 2 = .ok (.invokestatic 179, 3) := by decide +kernel
theorem dX7_likeliest_5 : decode cX7_likeliest 5 = .ok (.ifCond .ne 5, 3) := by decide +kernel
theorem dX7_likeliest_8 : decode cX7_likeliest 8 = .ok (.iconst (-1), 1) := by decide +kernel
theorem dX7_likeliest_9 : decode cX7_likeliest 9 = .ok (.ireturn, 1) := by decide +kernel
theorem dX7_likeliest_10 : decode cX7_likeliest 10 = .ok (.bipush (-4), 2) := by decide +kernel
theorem dX7_likeliest_12 : decode cX7_likeliest 12 = .ok (.istore_n 3, 1) := by decide +kernel
theorem dX7_likeliest_13 : decode cX7_likeliest 13 = .ok (.lconst 0, 1) := by decide +kernel
theorem dX7_likeliest_14 : decode cX7_likeliest 14 = .ok (.lstore 4, 2) := by decide +kernel
theorem dX7_likeliest_16 : decode cX7_likeliest 16 = .ok (.iconst 0, 1) := by decide +kernel
theorem dX7_likeliest_17 : decode cX7_likeliest 17 = .ok (.istore 6, 2) := by decide +kernel
theorem dX7_likeliest_19 : decode cX7_likeliest 19 = .ok (.iload 6, 2) := by decide +kernel
theorem dX7_likeliest_21 : decode cX7_likeliest 21 = .ok (.bipush 100, 2) := by decide +kernel
theorem dX7_likeliest_23 : decode cX7_likeliest 23 = .ok (.if_icmp .ge 51, 3) := by decide +kernel
theorem dX7_likeliest_26 : decode cX7_likeliest 26 = .ok (.aload_n 0, 1) := by decide +kernel
theorem dX7_likeliest_27 : decode cX7_likeliest 27 = .ok (.iload_n 1, 1) := by decide +kernel
theorem dX7_likeliest_28 : decode cX7_likeliest 28 = .ok (.iload_n 2, 1) := by decide +kernel
theorem dX7_likeliest_29 : decode cX7_likeliest 29 = .ok (.iload 6, 2) := by decide +kernel
theorem dX7_likeliest_31 : decode cX7_likeliest 31 = .ok (.invokevirtual 185, 3) := by decide +kernel
theorem dX7_likeliest_34 : decode cX7_likeliest 34 = .ok (.lstore 7, 2) := by decide +kernel
theorem dX7_likeliest_36 : decode cX7_likeliest 36 = .ok (.lload 7, 2) := by decide +kernel
theorem dX7_likeliest_38 : decode cX7_likeliest 38 = .ok (.lload 4, 2) := by decide +kernel
theorem dX7_likeliest_40 : decode cX7_likeliest 40 = .ok (.lcmp, 1) := by decide +kernel
theorem dX7_likeliest_41 : decode cX7_likeliest 41 = .ok (.ifCond .le 8, 3) := by decide +kernel
theorem dX7_likeliest_44 : decode cX7_likeliest 44 = .ok (.iload 6, 2) := by decide +kernel
theorem dX7_likeliest_46 : decode cX7_likeliest 46 = .ok (.goto 4, 3) := by decide +kernel
theorem dX7_likeliest_49 : decode cX7_likeliest 49 = .ok (.iload_n 3, 1) := by decide +kernel
theorem dX7_likeliest_50 : decode cX7_likeliest 50 = .ok (.istore_n 3, 1) := by decide +kernel
theorem dX7_likeliest_51 : decode cX7_likeliest 51 = .ok (.lload 7, 2) := by decide +kernel
theorem dX7_likeliest_53 : decode cX7_likeliest 53 = .ok (.lload 4, 2) := by decide +kernel
theorem dX7_likeliest_55 : decode cX7_likeliest 55 = .ok (.lcmp, 1) := by decide +kernel
theorem dX7_likeliest_56 : decode cX7_likeliest 56 = .ok (.ifCond .le 8, 3) := by decide +kernel
theorem dX7_likeliest_59 : decode cX7_likeliest 59 = .ok (.lload 7, 2) := by decide +kernel
theorem dX7_likeliest_61 : decode cX7_likeliest 61 = .ok (.goto 5, 3) := by decide +kernel
theorem dX7_likeliest_64 : decode cX7_likeliest 64 = .ok (.lload 4, 2) := by decide +kernel
theorem dX7_likeliest_66 : decode cX7_likeliest 66 = .ok (.lstore 4, 2) := by decide +kernel
theorem dX7_likeliest_68 : decode cX7_likeliest 68 = .ok (.iinc 6 1, 3) := by decide +kernel
theorem dX7_likeliest_71 : decode cX7_likeliest 71 = .ok (.goto (-52), 3) := by decide +kernel
theorem dX7_likeliest_74 : decode cX7_likeliest 74 = .ok (.iload_n 3, 1) := by decide +kernel
theorem dX7_likeliest_75 : decode cX7_likeliest 75 = .ok (.ireturn, 1) := by decide +kernel
theorem dX7_mark_0 : decode cX7_mark 0 = .ok (.iload_n 1, 1) := by decide +kernel
theorem dX7_mark_1 : decode cX7_mark 1 = .ok (.i2l, 1) := by decide +kernel
theorem dX7_mark_2 : decode cX7_mark 2 = .ok (.lconst 0, 1) := by decide +kernel
theorem dX7_mark_3 : decode cX7_mark 3 = .ok (.ldc2_w 161, 3) := by decide +kernel
theorem dX7_mark_6 : decode cX7_mark 6 = .ok (.invokestatic 77, 3) := by decide +kernel
theorem dX7_mark_9 : decode cX7_mark 9 = .ok (.ifCond .ne 5, 3) := by decide +kernel
theorem dX7_mark_12 : decode cX7_mark 12 = .ok (.iconst (-1), 1) := by decide +kernel
theorem dX7_mark_13 : decode cX7_mark 13 = .ok (.ireturn, 1) := by decide +kernel
theorem dX7_mark_14 : decode cX7_mark 14 = .ok (.aload_n 0, 1) := by decide +kernel
theorem dX7_mark_15 : decode cX7_mark 15 = .ok (.getfield 110, 3) := by decide +kernel
theorem dX7_mark_18 : decode cX7_mark 18 = .ok (.bipush 14, 2) := by decide +kernel
theorem dX7_mark_20 : decode cX7_mark 20 = .ok (.if_icmp .ne 6, 3) := by decide +kernel
theorem dX7_mark_23 : decode cX7_mark 23 = .ok (.bipush (-3), 2) := by decide +kernel
theorem dX7_mark_25 : decode cX7_mark 25 = .ok (.ireturn, 1) := by decide +kernel
theorem dX7_mark_26 : decode cX7_mark 26 = .ok (.aload_n 0, 1) := by decide +kernel
theorem dX7_mark_27 : decode cX7_mark 27 = .ok (.getfield 45, 3) := by decide +kernel
theorem dX7_mark_30 : decode cX7_mark 30 = .ok (.aload_n 0, 1) := by decide +kernel
theorem dX7_mark_31 : decode cX7_mark 31 = .ok (.getfield 110, 3) := by decide +kernel
theorem dX7_mark_34 : decode cX7_mark 34 = .ok (.iload_n 1, 1) := by decide +kernel
theorem dX7_mark_35 : decode cX7_mark 35 = .ok (.iastore, 1) := by decide +kernel
theorem dX7_mark_36 : decode cX7_mark 36 = .ok (.aload_n 0, 1) := by decide +kernel
theorem dX7_mark_37 : decode cX7_mark 37 = .ok (.dup, 1) := by decide +kernel
theorem dX7_mark_38 : decode cX7_mark 38 = .ok (.getfield 110, 3) := by decide +kernel
theorem dX7_mark_41 : decode cX7_mark 41 = .ok (.iconst 1, 1) := by decide +kernel
theorem dX7_mark_42 : decode cX7_mark 42 = .ok (.iadd, 1) := by decide +kernel
theorem dX7_mark_43 : decode cX7_mark 43 = .ok (.putfield 110, 3) := by decide +kernel
theorem dX7_mark_46 : decode cX7_mark 46 = .ok (.aload_n 0, 1) := by decide +kernel
theorem dX7_mark_47 : decode cX7_mark 47 = .ok (.getfield 110, 3) := by decide +kernel
theorem dX7_mark_50 : decode cX7_mark 50 = .ok (.ireturn, 1) := by decide +kernel
theorem dX7_noMarks_0 : decode cX7_noMarks 0 = .ok (.aload_n 0, 1) := by decide +kernel
theorem dX7_noMarks_1 : decode cX7_noMarks 1 = .ok (.getfield 110, 3) := by decide +kernel
theorem dX7_noMarks_4 : decode cX7_noMarks 4 = .ok (.istore_n 1, 1) := by decide +kernel
theorem dX7_noMarks_5 : decode cX7_noMarks 5 = .ok (.aload_n 0, 1) := by decide +kernel
theorem dX7_noMarks_6 : decode cX7_noMarks 6 = .ok (.iconst 0, 1) := by decide +kernel
theorem dX7_noMarks_7 : decode cX7_noMarks 7 = .ok (.putfield 110, 3) := by decide +kernel
theorem dX7_noMarks_10 : decode cX7_noMarks 10 = .ok (.iload_n 1, 1) := by decide +kernel
theorem dX7_noMarks_11 : decode cX7_noMarks 11 = .ok (.ireturn, 1) := by decide +kernel
theorem dX7_shows_0 : decode cX7_shows 0 = .ok (.iconst 0, 1) := by decide +kernel
theorem dX7_shows_1 : decode cX7_shows 1 = .ok (.istore_n 1, 1) := by decide +kernel
theorem dX7_shows_2 : decode cX7_shows 2 = .ok (.iconst 0, 1) := by decide +kernel
theorem dX7_shows_3 : decode cX7_shows 3 = .ok (.istore_n 2, 1) := by decide +kernel
theorem dX7_shows_4 : decode cX7_shows 4 = .ok (.iload_n 2, 1) := by decide +kernel
theorem dX7_shows_5 : decode cX7_shows 5 = .ok (.aload_n 0, 1) := by decide +kernel
theorem dX7_shows_6 : decode cX7_shows 6 = .ok (.getfield 26, 3) := by decide +kernel
theorem dX7_shows_9 : decode cX7_shows 9 = .ok (.iconst 0, 1) := by decide +kernel
theorem dX7_shows_10 : decode cX7_shows 10 = .ok (.iaload, 1) := by decide +kernel
theorem dX7_shows_11 : decode cX7_shows 11 = .ok (.if_icmp .ge 40, 3) := by decide +kernel
theorem dX7_shows_14 : decode cX7_shows 14 = .ok (.aload_n 0, 1) := by decide +kernel
theorem dX7_shows_15 : decode cX7_shows 15 = .ok (.getfield 29, 3) := by decide +kernel
theorem dX7_shows_18 : decode cX7_shows 18 = .ok (.iload_n 2, 1) := by decide +kernel
theorem dX7_shows_19 : decode cX7_shows 19 = .ok (.iaload, 1) := by decide +kernel
theorem dX7_shows_20 : decode cX7_shows 20 = .ok (.ifCond .le 25, 3) := by decide +kernel
theorem dX7_shows_23 : decode cX7_shows 23 = .ok (.aload_n 0, 1) := by decide +kernel
theorem dX7_shows_24 : decode cX7_shows 24 = .ok (.getfield 57, 3) := by decide +kernel
theorem dX7_shows_27 : decode cX7_shows 27 = .ok (.iload_n 1, 1) := by decide +kernel
theorem dX7_shows_28 : decode cX7_shows 28 = .ok (.aload_n 0, 1) := by decide +kernel
theorem dX7_shows_29 : decode cX7_shows 29 = .ok (.getfield 32, 3) := by decide +kernel
theorem dX7_shows_32 : decode cX7_shows 32 = .ok (.iload_n 2, 1) := by decide +kernel
theorem dX7_shows_33 : decode cX7_shows 33 = .ok (.iaload, 1) := by decide +kernel
theorem dX7_shows_34 : decode cX7_shows 34 = .ok (.iastore, 1) := by decide +kernel
theorem dX7_shows_35 : decode cX7_shows 35 = .ok (.aload_n 0, 1) := by decide +kernel
theorem dX7_shows_36 : decode cX7_shows 36 = .ok (.getfield 60, 3) := by decide +kernel
theorem dX7_shows_39 : decode cX7_shows 39 = .ok (.iload_n 1, 1) := by decide +kernel
theorem dX7_shows_40 : decode cX7_shows 40 = .ok (.iload_n 2, 1) := by decide +kernel
theorem dX7_shows_41 : decode cX7_shows 41 = .ok (.iastore, 1) := by decide +kernel
theorem dX7_shows_42 : decode cX7_shows 42 = .ok (.iinc 1 1, 3) := by decide +kernel
theorem dX7_shows_45 : decode cX7_shows 45 = .ok (.iinc 2 1, 3) := by decide +kernel
theorem dX7_shows_48 : decode cX7_shows 48 = .ok (.goto (-44), 3) := by decide +kernel
theorem dX7_shows_51 : decode cX7_shows 51 = .ok (.iload_n 1, 1) := by decide +kernel
theorem dX7_shows_52 : decode cX7_shows 52 = .ok (.ireturn, 1) := by decide +kernel
theorem dX7_far_0 : decode cX7_far 0 = .ok (.aload_n 0, 1) := by decide +kernel
theorem dX7_far_1 : decode cX7_far 1 = .ok (.invokevirtual 192, 3) := by decide +kernel
theorem dX7_far_4 : decode cX7_far 4 = .ok (.istore_n 1, 1) := by decide +kernel
theorem dX7_far_5 : decode cX7_far 5 = .ok (.iconst 0, 1) := by decide +kernel
theorem dX7_far_6 : decode cX7_far 6 = .ok (.istore_n 2, 1) := by decide +kernel
theorem dX7_far_7 : decode cX7_far 7 = .ok (.iload_n 2, 1) := by decide +kernel
theorem dX7_far_8 : decode cX7_far 8 = .ok (.aload_n 0, 1) := by decide +kernel
theorem dX7_far_9 : decode cX7_far 9 = .ok (.getfield 110, 3) := by decide +kernel
theorem dX7_far_12 : decode cX7_far 12 = .ok (.if_icmp .gt 185, 3) := by decide +kernel
theorem dX7_far_15 : decode cX7_far 15 = .ok (.iconst 0, 1) := by decide +kernel
theorem dX7_far_16 : decode cX7_far 16 = .ok (.istore_n 3, 1) := by decide +kernel
theorem dX7_far_17 : decode cX7_far 17 = .ok (.iload_n 3, 1) := by decide +kernel
theorem dX7_far_18 : decode cX7_far 18 = .ok (.iload_n 1, 1) := by decide +kernel
theorem dX7_far_19 : decode cX7_far 19 = .ok (.if_icmp .gt 172, 3) := by decide +kernel
theorem dX7_far_22 : decode cX7_far 22 = .ok (.iload_n 2, 1) := by decide +kernel
theorem dX7_far_23 : decode cX7_far 23 = .ok (.ifCond .ne 7, 3) := by decide +kernel
theorem dX7_far_26 : decode cX7_far 26 = .ok (.iload_n 3, 1) := by decide +kernel
theorem dX7_far_27 : decode cX7_far 27 = .ok (.goto 51, 3) := by decide +kernel
theorem dX7_far_30 : decode cX7_far 30 = .ok (.iload_n 3, 1) := by decide +kernel
theorem dX7_far_31 : decode cX7_far 31 = .ok (.ifCond .ne 7, 3) := by decide +kernel
theorem dX7_far_34 : decode cX7_far 34 = .ok (.iload_n 2, 1) := by decide +kernel
theorem dX7_far_35 : decode cX7_far 35 = .ok (.goto 43, 3) := by decide +kernel
theorem dX7_far_38 : decode cX7_far 38 = .ok (.aload_n 0, 1) := by decide +kernel
theorem dX7_far_39 : decode cX7_far 39 = .ok (.getfield 63, 3) := by decide +kernel
theorem dX7_far_42 : decode cX7_far 42 = .ok (.bipush 15, 2) := by decide +kernel
theorem dX7_far_44 : decode cX7_far 44 = .ok (.iload_n 2, 1) := by decide +kernel
theorem dX7_far_45 : decode cX7_far 45 = .ok (.iconst 1, 1) := by decide +kernel
theorem dX7_far_46 : decode cX7_far 46 = .ok (.isub, 1) := by decide +kernel
theorem dX7_far_47 : decode cX7_far 47 = .ok (.imul, 1) := by decide +kernel
theorem dX7_far_48 : decode cX7_far 48 = .ok (.iload_n 3, 1) := by decide +kernel
theorem dX7_far_49 : decode cX7_far 49 = .ok (.iadd, 1) := by decide +kernel
theorem dX7_far_50 : decode cX7_far 50 = .ok (.iconst 1, 1) := by decide +kernel
theorem dX7_far_51 : decode cX7_far 51 = .ok (.isub, 1) := by decide +kernel
theorem dX7_far_52 : decode cX7_far 52 = .ok (.iaload, 1) := by decide +kernel
theorem dX7_far_53 : decode cX7_far 53 = .ok (.aload_n 0, 1) := by decide +kernel
theorem dX7_far_54 : decode cX7_far 54 = .ok (.getfield 45, 3) := by decide +kernel
theorem dX7_far_57 : decode cX7_far 57 = .ok (.iload_n 2, 1) := by decide +kernel
theorem dX7_far_58 : decode cX7_far 58 = .ok (.iconst 1, 1) := by decide +kernel
theorem dX7_far_59 : decode cX7_far 59 = .ok (.isub, 1) := by decide +kernel
theorem dX7_far_60 : decode cX7_far 60 = .ok (.iaload, 1) := by decide +kernel
theorem dX7_far_61 : decode cX7_far 61 = .ok (.aload_n 0, 1) := by decide +kernel
theorem dX7_far_62 : decode cX7_far 62 = .ok (.getfield 57, 3) := by decide +kernel
theorem dX7_far_65 : decode cX7_far 65 = .ok (.iload_n 3, 1) := by decide +kernel
theorem dX7_far_66 : decode cX7_far 66 = .ok (.iconst 1, 1) := by decide +kernel
theorem dX7_far_67 : decode cX7_far 67 = .ok (.isub, 1) := by decide +kernel
theorem dX7_far_68 : decode cX7_far 68 = .ok (.iaload, 1) := by decide +kernel
theorem dX7_far_69 : decode cX7_far 69 = .ok (.if_icmp .ne 7, 3) := by decide +kernel
theorem dX7_far_72 : decode cX7_far 72 = .ok (.iconst 0, 1) := by decide +kernel
theorem dX7_far_73 : decode cX7_far 73 = .ok (.goto 4, 3) := by decide +kernel
theorem dX7_far_76 : decode cX7_far 76 = .ok (.iconst 1, 1) := by decide +kernel
theorem dX7_far_77 : decode cX7_far 77 = .ok (.iadd, 1) := by decide +kernel
theorem dX7_far_78 : decode cX7_far 78 = .ok (.istore 4, 2) := by decide +kernel
theorem dX7_far_80 : decode cX7_far 80 = .ok (.iload_n 2, 1) := by decide +kernel
theorem dX7_far_81 : decode cX7_far 81 = .ok (.ifCond .le 91, 3) := by decide +kernel
theorem dX7_far_84 : decode cX7_far 84 = .ok (.iload_n 3, 1) := by decide +kernel
theorem dX7_far_85 : decode cX7_far 85 = .ok (.ifCond .le 87, 3) := by decide +kernel
theorem dX7_far_88 : decode cX7_far 88 = .ok (.aload_n 0, 1) := by decide +kernel
theorem dX7_far_89 : decode cX7_far 89 = .ok (.getfield 63, 3) := by decide +kernel
theorem dX7_far_92 : decode cX7_far 92 = .ok (.bipush 15, 2) := by decide +kernel
theorem dX7_far_94 : decode cX7_far 94 = .ok (.iload_n 2, 1) := by decide +kernel
theorem dX7_far_95 : decode cX7_far 95 = .ok (.iconst 1, 1) := by decide +kernel
theorem dX7_far_96 : decode cX7_far 96 = .ok (.isub, 1) := by decide +kernel
theorem dX7_far_97 : decode cX7_far 97 = .ok (.imul, 1) := by decide +kernel
theorem dX7_far_98 : decode cX7_far 98 = .ok (.iload_n 3, 1) := by decide +kernel
theorem dX7_far_99 : decode cX7_far 99 = .ok (.iadd, 1) := by decide +kernel
theorem dX7_far_100 : decode cX7_far 100 = .ok (.iaload, 1) := by decide +kernel
theorem dX7_far_101 : decode cX7_far 101 = .ok (.iconst 1, 1) := by decide +kernel
theorem dX7_far_102 : decode cX7_far 102 = .ok (.iadd, 1) := by decide +kernel
theorem dX7_far_103 : decode cX7_far 103 = .ok (.iload 4, 2) := by decide +kernel
theorem dX7_far_105 : decode cX7_far 105 = .ok (.if_icmp .ge 21, 3) := by decide +kernel
theorem dX7_far_108 : decode cX7_far 108 = .ok (.aload_n 0, 1) := by decide +kernel
theorem dX7_far_109 : decode cX7_far 109 = .ok (.getfield 63, 3) := by decide +kernel
theorem dX7_far_112 : decode cX7_far 112 = .ok (.bipush 15, 2) := by decide +kernel
theorem dX7_far_114 : decode cX7_far 114 = .ok (.iload_n 2, 1) := by decide +kernel
theorem dX7_far_115 : decode cX7_far 115 = .ok (.iconst 1, 1) := by decide +kernel
theorem dX7_far_116 : decode cX7_far 116 = .ok (.isub, 1) := by decide +kernel
theorem dX7_far_117 : decode cX7_far 117 = .ok (.imul, 1) := by decide +kernel
theorem dX7_far_118 : decode cX7_far 118 = .ok (.iload_n 3, 1) := by decide +kernel
theorem dX7_far_119 : decode cX7_far 119 = .ok (.iadd, 1) := by decide +kernel
theorem dX7_far_120 : decode cX7_far 120 = .ok (.iaload, 1) := by decide +kernel
theorem dX7_far_121 : decode cX7_far 121 = .ok (.iconst 1, 1) := by decide +kernel
theorem dX7_far_122 : decode cX7_far 122 = .ok (.iadd, 1) := by decide +kernel
theorem dX7_far_123 : decode cX7_far 123 = .ok (.goto 5, 3) := by decide +kernel
theorem dX7_far_126 : decode cX7_far 126 = .ok (.iload 4, 2) := by decide +kernel
theorem dX7_far_128 : decode cX7_far 128 = .ok (.istore 4, 2) := by decide +kernel
theorem dX7_far_130 : decode cX7_far 130 = .ok (.aload_n 0, 1) := by decide +kernel
theorem dX7_far_131 : decode cX7_far 131 = .ok (.getfield 63, 3) := by decide +kernel
theorem dX7_far_134 : decode cX7_far 134 = .ok (.bipush 15, 2) := by decide +kernel
theorem dX7_far_136 : decode cX7_far 136 = .ok (.iload_n 2, 1) := by decide +kernel
theorem dX7_far_137 : decode cX7_far 137 = .ok (.imul, 1) := by decide +kernel
theorem dX7_far_138 : decode cX7_far 138 = .ok (.iload_n 3, 1) := by decide +kernel
theorem dX7_far_139 : decode cX7_far 139 = .ok (.iadd, 1) := by decide +kernel
theorem dX7_far_140 : decode cX7_far 140 = .ok (.iconst 1, 1) := by decide +kernel
theorem dX7_far_141 : decode cX7_far 141 = .ok (.isub, 1) := by decide +kernel
theorem dX7_far_142 : decode cX7_far 142 = .ok (.iaload, 1) := by decide +kernel
theorem dX7_far_143 : decode cX7_far 143 = .ok (.iconst 1, 1) := by decide +kernel
theorem dX7_far_144 : decode cX7_far 144 = .ok (.iadd, 1) := by decide +kernel
theorem dX7_far_145 : decode cX7_far 145 = .ok (.iload 4, 2) := by decide +kernel
theorem dX7_far_147 : decode cX7_far 147 = .ok (.if_icmp .ge 21, 3) := by decide +kernel
theorem dX7_far_150 : decode cX7_far 150 = .ok (.aload_n 0, 1) := by decide +kernel
theorem dX7_far_151 : decode cX7_far 151 = .ok (.getfield 63, 3) := by decide +kernel
theorem dX7_far_154 : decode cX7_far 154 = .ok (.bipush 15, 2) := by decide +kernel
theorem dX7_far_156 : decode cX7_far 156 = .ok (.iload_n 2, 1) := by decide +kernel
theorem dX7_far_157 : decode cX7_far 157 = .ok (.imul, 1) := by decide +kernel
theorem dX7_far_158 : decode cX7_far 158 = .ok (.iload_n 3, 1) := by decide +kernel
theorem dX7_far_159 : decode cX7_far 159 = .ok (.iadd, 1) := by decide +kernel
theorem dX7_far_160 : decode cX7_far 160 = .ok (.iconst 1, 1) := by decide +kernel
theorem dX7_far_161 : decode cX7_far 161 = .ok (.isub, 1) := by decide +kernel
theorem dX7_far_162 : decode cX7_far 162 = .ok (.iaload, 1) := by decide +kernel
theorem dX7_far_163 : decode cX7_far 163 = .ok (.iconst 1, 1) := by decide +kernel
theorem dX7_far_164 : decode cX7_far 164 = .ok (.iadd, 1) := by decide +kernel
theorem dX7_far_165 : decode cX7_far 165 = .ok (.goto 5, 3) := by decide +kernel
theorem dX7_far_168 : decode cX7_far 168 = .ok (.iload 4, 2) := by decide +kernel
theorem dX7_far_170 : decode cX7_far 170 = .ok (.istore 4, 2) := by decide +kernel
theorem dX7_far_172 : decode cX7_far 172 = .ok (.aload_n 0, 1) := by decide +kernel
theorem dX7_far_173 : decode cX7_far 173 = .ok (.getfield 63, 3) := by decide +kernel
theorem dX7_far_176 : decode cX7_far 176 = .ok (.bipush 15, 2) := by decide +kernel
theorem dX7_far_178 : decode cX7_far 178 = .ok (.iload_n 2, 1) := by decide +kernel
theorem dX7_far_179 : decode cX7_far 179 = .ok (.imul, 1) := by decide +kernel
theorem dX7_far_180 : decode cX7_far 180 = .ok (.iload_n 3, 1) := by decide +kernel
theorem dX7_far_181 : decode cX7_far 181 = .ok (.iadd, 1) := by decide +kernel
theorem dX7_far_182 : decode cX7_far 182 = .ok (.iload 4, 2) := by decide +kernel
theorem dX7_far_184 : decode cX7_far 184 = .ok (.iastore, 1) := by decide +kernel
theorem dX7_far_185 : decode cX7_far 185 = .ok (.iinc 3 1, 3) := by decide +kernel
theorem dX7_far_188 : decode cX7_far 188 = .ok (.goto (-171), 3) := by decide +kernel
theorem dX7_far_191 : decode cX7_far 191 = .ok (.iinc 2 1, 3) := by decide +kernel
theorem dX7_far_194 : decode cX7_far 194 = .ok (.goto (-187), 3) := by decide +kernel
theorem dX7_far_197 : decode cX7_far 197 = .ok (.aload_n 0, 1) := by decide +kernel
theorem dX7_far_198 : decode cX7_far 198 = .ok (.getfield 63, 3) := by decide +kernel
theorem dX7_far_201 : decode cX7_far 201 = .ok (.bipush 15, 2) := by decide +kernel
theorem dX7_far_203 : decode cX7_far 203 = .ok (.aload_n 0, 1) := by decide +kernel
theorem dX7_far_204 : decode cX7_far 204 = .ok (.getfield 110, 3) := by decide +kernel
theorem dX7_far_207 : decode cX7_far 207 = .ok (.imul, 1) := by decide +kernel
theorem dX7_far_208 : decode cX7_far 208 = .ok (.iload_n 1, 1) := by decide +kernel
theorem dX7_far_209 : decode cX7_far 209 = .ok (.iadd, 1) := by decide +kernel
theorem dX7_far_210 : decode cX7_far 210 = .ok (.iaload, 1) := by decide +kernel
theorem dX7_far_211 : decode cX7_far 211 = .ok (.ireturn, 1) := by decide +kernel
theorem dX7_odd_0 : decode cX7_odd 0 = .ok (.aload_n 0, 1) := by decide +kernel
theorem dX7_odd_1 : decode cX7_odd 1 = .ok (.invokevirtual 195, 3) := by decide +kernel
theorem dX7_odd_4 : decode cX7_odd 4 = .ok (.ifCond .ne 6, 3) := by decide +kernel
theorem dX7_odd_7 : decode cX7_odd 7 = .ok (.bipush (-4), 2) := by decide +kernel
theorem dX7_odd_9 : decode cX7_odd 9 = .ok (.ireturn, 1) := by decide +kernel
theorem dX7_odd_10 : decode cX7_odd 10 = .ok (.aload_n 0, 1) := by decide +kernel
theorem dX7_odd_11 : decode cX7_odd 11 = .ok (.invokevirtual 192, 3) := by decide +kernel
theorem dX7_odd_14 : decode cX7_odd 14 = .ok (.istore_n 1, 1) := by decide +kernel
theorem dX7_odd_15 : decode cX7_odd 15 = .ok (.iconst 0, 1) := by decide +kernel
theorem dX7_odd_16 : decode cX7_odd 16 = .ok (.istore_n 2, 1) := by decide +kernel
theorem dX7_odd_17 : decode cX7_odd 17 = .ok (.iload_n 2, 1) := by decide +kernel
theorem dX7_odd_18 : decode cX7_odd 18 = .ok (.aload_n 0, 1) := by decide +kernel
theorem dX7_odd_19 : decode cX7_odd 19 = .ok (.getfield 110, 3) := by decide +kernel
theorem dX7_odd_22 : decode cX7_odd 22 = .ok (.if_icmp .ge 29, 3) := by decide +kernel
theorem dX7_odd_25 : decode cX7_odd 25 = .ok (.iload_n 2, 1) := by decide +kernel
theorem dX7_odd_26 : decode cX7_odd 26 = .ok (.iload_n 1, 1) := by decide +kernel
theorem dX7_odd_27 : decode cX7_odd 27 = .ok (.if_icmp .ge 24, 3) := by decide +kernel
theorem dX7_odd_30 : decode cX7_odd 30 = .ok (.aload_n 0, 1) := by decide +kernel
theorem dX7_odd_31 : decode cX7_odd 31 = .ok (.getfield 45, 3) := by decide +kernel
theorem dX7_odd_34 : decode cX7_odd 34 = .ok (.iload_n 2, 1) := by decide +kernel
theorem dX7_odd_35 : decode cX7_odd 35 = .ok (.iaload, 1) := by decide +kernel
theorem dX7_odd_36 : decode cX7_odd 36 = .ok (.aload_n 0, 1) := by decide +kernel
theorem dX7_odd_37 : decode cX7_odd 37 = .ok (.getfield 57, 3) := by decide +kernel
theorem dX7_odd_40 : decode cX7_odd 40 = .ok (.iload_n 2, 1) := by decide +kernel
theorem dX7_odd_41 : decode cX7_odd 41 = .ok (.iaload, 1) := by decide +kernel
theorem dX7_odd_42 : decode cX7_odd 42 = .ok (.if_icmp .ne 9, 3) := by decide +kernel
theorem dX7_odd_45 : decode cX7_odd 45 = .ok (.iinc 2 1, 3) := by decide +kernel
theorem dX7_odd_48 : decode cX7_odd 48 = .ok (.goto (-31), 3) := by decide +kernel
theorem dX7_odd_51 : decode cX7_odd 51 = .ok (.iload_n 2, 1) := by decide +kernel
theorem dX7_odd_52 : decode cX7_odd 52 = .ok (.iload_n 1, 1) := by decide +kernel
theorem dX7_odd_53 : decode cX7_odd 53 = .ok (.if_icmp .ge 12, 3) := by decide +kernel
theorem dX7_odd_56 : decode cX7_odd 56 = .ok (.aload_n 0, 1) := by decide +kernel
theorem dX7_odd_57 : decode cX7_odd 57 = .ok (.getfield 60, 3) := by decide +kernel
theorem dX7_odd_60 : decode cX7_odd 60 = .ok (.iload_n 2, 1) := by decide +kernel
theorem dX7_odd_61 : decode cX7_odd 61 = .ok (.iaload, 1) := by decide +kernel
theorem dX7_odd_62 : decode cX7_odd 62 = .ok (.goto 9, 3) := by decide +kernel
theorem dX7_odd_65 : decode cX7_odd 65 = .ok (.aload_n 0, 1) := by decide +kernel
theorem dX7_odd_66 : decode cX7_odd 66 = .ok (.getfield 26, 3) := by decide +kernel
theorem dX7_odd_69 : decode cX7_odd 69 = .ok (.iconst 0, 1) := by decide +kernel
theorem dX7_odd_70 : decode cX7_odd 70 = .ok (.iaload, 1) := by decide +kernel
theorem dX7_odd_71 : decode cX7_odd 71 = .ok (.ireturn, 1) := by decide +kernel
theorem dX7_tenthsOf_0 : decode cX7_tenthsOf 0 = .ok (.iconst 0, 1) := by decide +kernel
theorem dX7_tenthsOf_1 : decode cX7_tenthsOf 1 = .ok (.istore_n 2, 1) := by decide +kernel
theorem dX7_tenthsOf_2 : decode cX7_tenthsOf 2 = .ok (.iconst 0, 1) := by decide +kernel
theorem dX7_tenthsOf_3 : decode cX7_tenthsOf 3 = .ok (.istore_n 3, 1) := by decide +kernel
theorem dX7_tenthsOf_4 : decode cX7_tenthsOf 4 = .ok (.iload_n 3, 1) := by decide +kernel
theorem dX7_tenthsOf_5 : decode cX7_tenthsOf 5 = .ok (.aload_n 0, 1) := by decide +kernel
theorem dX7_tenthsOf_6 : decode cX7_tenthsOf 6 = .ok (.getfield 26, 3) := by decide +kernel
theorem dX7_tenthsOf_9 : decode cX7_tenthsOf 9 = .ok (.iconst 0, 1) := by decide +kernel
theorem dX7_tenthsOf_10 : decode cX7_tenthsOf 10 = .ok (.iaload, 1) := by decide +kernel
theorem dX7_tenthsOf_11 : decode cX7_tenthsOf 11 = .ok (.if_icmp .ge 32, 3) := by decide +kernel
theorem dX7_tenthsOf_14 : decode cX7_tenthsOf 14 = .ok (.iload_n 2, 1) := by decide +kernel
theorem dX7_tenthsOf_15 : decode cX7_tenthsOf 15 = .ok (.aload_n 0, 1) := by decide +kernel
theorem dX7_tenthsOf_16 : decode cX7_tenthsOf 16 = .ok (.iload_n 3, 1) := by decide +kernel
theorem dX7_tenthsOf_17 : decode cX7_tenthsOf 17 = .ok (.iconst 0, 1) := by decide +kernel
theorem dX7_tenthsOf_18 : decode cX7_tenthsOf 18 = .ok (.invokevirtual 123, 3) := by decide +kernel
theorem dX7_tenthsOf_21 : decode cX7_tenthsOf 21 = .ok (.iload_n 1, 1) := by decide +kernel
theorem dX7_tenthsOf_22 : decode cX7_tenthsOf 22 = .ok (.if_icmp .ne 12, 3) := by decide +kernel
theorem dX7_tenthsOf_25 : decode cX7_tenthsOf 25 = .ok (.aload_n 0, 1) := by decide +kernel
theorem dX7_tenthsOf_26 : decode cX7_tenthsOf 26 = .ok (.getfield 29, 3) := by decide +kernel
theorem dX7_tenthsOf_29 : decode cX7_tenthsOf 29 = .ok (.iload_n 3, 1) := by decide +kernel
theorem dX7_tenthsOf_30 : decode cX7_tenthsOf 30 = .ok (.iaload, 1) := by decide +kernel
theorem dX7_tenthsOf_31 : decode cX7_tenthsOf 31 = .ok (.goto 4, 3) := by decide +kernel
theorem dX7_tenthsOf_34 : decode cX7_tenthsOf 34 = .ok (.iconst 0, 1) := by decide +kernel
theorem dX7_tenthsOf_35 : decode cX7_tenthsOf 35 = .ok (.iadd, 1) := by decide +kernel
theorem dX7_tenthsOf_36 : decode cX7_tenthsOf 36 = .ok (.istore_n 2, 1) := by decide +kernel
theorem dX7_tenthsOf_37 : decode cX7_tenthsOf 37 = .ok (.iinc 3 1, 3) := by decide +kernel
theorem dX7_tenthsOf_40 : decode cX7_tenthsOf 40 = .ok (.goto (-36), 3) := by decide +kernel
theorem dX7_tenthsOf_43 : decode cX7_tenthsOf 43 = .ok (.iload_n 2, 1) := by decide +kernel
theorem dX7_tenthsOf_44 : decode cX7_tenthsOf 44 = .ok (.ireturn, 1) := by decide +kernel
theorem dX7_wish_0 : decode cX7_wish 0 = .ok (.iload_n 1, 1) := by decide +kernel
theorem dX7_wish_1 : decode cX7_wish 1 = .ok (.invokestatic 182, 3) := by decide +kernel
theorem dX7_wish_4 : decode cX7_wish 4 = .ok (.ifCond .eq 11, 3) := by decide +kernel
theorem dX7_wish_7 : decode cX7_wish 7 = .ok (.aload_n 0, 1) := by decide +kernel
theorem dX7_wish_8 : decode cX7_wish 8 = .ok (.iload_n 1, 1) := by decide +kernel
theorem dX7_wish_9 : decode cX7_wish 9 = .ok (.invokevirtual 198, 3) := by decide +kernel
theorem dX7_wish_12 : decode cX7_wish 12 = .ok (.goto 4, 3) := by decide +kernel
theorem dX7_wish_15 : decode cX7_wish 15 = .ok (.iconst (-1), 1) := by decide +kernel
theorem dX7_wish_16 : decode cX7_wish 16 = .ok (.ireturn, 1) := by decide +kernel
theorem dX7_nearest_0 : decode cX7_nearest 0 = .ok (.iload_n 1, 1) := by decide +kernel
theorem dX7_nearest_1 : decode cX7_nearest 1 = .ok (.invokestatic 182, 3) := by decide +kernel
theorem dX7_nearest_4 : decode cX7_nearest 4 = .ok (.ifCond .eq 15, 3) := by decide +kernel
theorem dX7_nearest_7 : decode cX7_nearest 7 = .ok (.iload_n 2, 1) := by decide +kernel
theorem dX7_nearest_8 : decode cX7_nearest 8 = .ok (.i2l, 1) := by decide +kernel
theorem dX7_nearest_9 : decode cX7_nearest 9 = .ok (.lconst 1, 1) := by decide +kernel
theorem dX7_nearest_10 : decode cX7_nearest 10 = .ok (.ldc2_w 163, 3) := by decide +kernel
theorem dX7_nearest_13 : decode cX7_nearest 13 = .ok (.invokestatic 77, 3) := by decide +kernel
theorem dX7_nearest_16 : decode cX7_nearest 16 = .ok (.ifCond .ne 5, 3) := by decide +kernel
theorem dX7_nearest_19 : decode cX7_nearest 19 = .ok (.iconst (-1), 1) := by decide +kernel
theorem dX7_nearest_20 : decode cX7_nearest 20 = .ok (.ireturn, 1) := by decide +kernel
theorem dX7_nearest_21 : decode cX7_nearest 21 = .ok (.iconst 0, 1) := by decide +kernel
theorem dX7_nearest_22 : decode cX7_nearest 22 = .ok (.istore_n 3, 1) := by decide +kernel
theorem dX7_nearest_23 : decode cX7_nearest 23 = .ok (.iload_n 3, 1) := by decide +kernel
theorem dX7_nearest_24 : decode cX7_nearest 24 = .ok (.bipush 100, 2) := by decide +kernel
theorem dX7_nearest_26 : decode cX7_nearest 26 = .ok (.if_icmp .ge 53, 3) := by decide +kernel
theorem dX7_nearest_29 : decode cX7_nearest 29 = .ok (.iload_n 1, 1) := by decide +kernel
theorem dX7_nearest_30 : decode cX7_nearest 30 = .ok (.iload_n 3, 1) := by decide +kernel
theorem dX7_nearest_31 : decode cX7_nearest 31 = .ok (.isub, 1) := by decide +kernel
theorem dX7_nearest_32 : decode cX7_nearest 32 = .ok (.ifCond .lt 18, 3) := by decide +kernel
theorem dX7_nearest_35 : decode cX7_nearest 35 = .ok (.aload_n 0, 1) := by decide +kernel
theorem dX7_nearest_36 : decode cX7_nearest 36 = .ok (.iload_n 1, 1) := by decide +kernel
theorem dX7_nearest_37 : decode cX7_nearest 37 = .ok (.iload_n 3, 1) := by decide +kernel
theorem dX7_nearest_38 : decode cX7_nearest 38 = .ok (.isub, 1) := by decide +kernel
theorem dX7_nearest_39 : decode cX7_nearest 39 = .ok (.invokevirtual 198, 3) := by decide +kernel
theorem dX7_nearest_42 : decode cX7_nearest 42 = .ok (.iload_n 2, 1) := by decide +kernel
theorem dX7_nearest_43 : decode cX7_nearest 43 = .ok (.if_icmp .lt 7, 3) := by decide +kernel
theorem dX7_nearest_46 : decode cX7_nearest 46 = .ok (.iload_n 1, 1) := by decide +kernel
theorem dX7_nearest_47 : decode cX7_nearest 47 = .ok (.iload_n 3, 1) := by decide +kernel
theorem dX7_nearest_48 : decode cX7_nearest 48 = .ok (.isub, 1) := by decide +kernel
theorem dX7_nearest_49 : decode cX7_nearest 49 = .ok (.ireturn, 1) := by decide +kernel
theorem dX7_nearest_50 : decode cX7_nearest 50 = .ok (.iload_n 1, 1) := by decide +kernel
theorem dX7_nearest_51 : decode cX7_nearest 51 = .ok (.iload_n 3, 1) := by decide +kernel
theorem dX7_nearest_52 : decode cX7_nearest 52 = .ok (.iadd, 1) := by decide +kernel
theorem dX7_nearest_53 : decode cX7_nearest 53 = .ok (.bipush 100, 2) := by decide +kernel
theorem dX7_nearest_55 : decode cX7_nearest 55 = .ok (.if_icmp .ge 18, 3) := by decide +kernel
theorem dX7_nearest_58 : decode cX7_nearest 58 = .ok (.aload_n 0, 1) := by decide +kernel
theorem dX7_nearest_59 : decode cX7_nearest 59 = .ok (.iload_n 1, 1) := by decide +kernel
theorem dX7_nearest_60 : decode cX7_nearest 60 = .ok (.iload_n 3, 1) := by decide +kernel
theorem dX7_nearest_61 : decode cX7_nearest 61 = .ok (.iadd, 1) := by decide +kernel
theorem dX7_nearest_62 : decode cX7_nearest 62 = .ok (.invokevirtual 198, 3) := by decide +kernel
theorem dX7_nearest_65 : decode cX7_nearest 65 = .ok (.iload_n 2, 1) := by decide +kernel
theorem dX7_nearest_66 : decode cX7_nearest 66 = .ok (.if_icmp .lt 7, 3) := by decide +kernel
theorem dX7_nearest_69 : decode cX7_nearest 69 = .ok (.iload_n 1, 1) := by decide +kernel
theorem dX7_nearest_70 : decode cX7_nearest 70 = .ok (.iload_n 3, 1) := by decide +kernel
theorem dX7_nearest_71 : decode cX7_nearest 71 = .ok (.iadd, 1) := by decide +kernel
theorem dX7_nearest_72 : decode cX7_nearest 72 = .ok (.ireturn, 1) := by decide +kernel
theorem dX7_nearest_73 : decode cX7_nearest 73 = .ok (.iinc 3 1, 3) := by decide +kernel
theorem dX7_nearest_76 : decode cX7_nearest 76 = .ok (.goto (-53), 3) := by decide +kernel
theorem dX7_nearest_79 : decode cX7_nearest 79 = .ok (.bipush (-4), 2) := by decide +kernel
theorem dX7_nearest_81 : decode cX7_nearest 81 = .ok (.ireturn, 1) := by decide +kernel
theorem dX7_moved_0 : decode cX7_moved 0 = .ok (.iload_n 1, 1) := by decide +kernel
theorem dX7_moved_1 : decode cX7_moved 1 = .ok (.i2l, 1) := by decide +kernel
theorem dX7_moved_2 : decode cX7_moved 2 = .ok (.ldc2_w 201, 3) := by decide +kernel
theorem dX7_moved_5 : decode cX7_moved 5 = .ok (.ldc2_w 203, 3) := by decide +kernel
theorem dX7_moved_8 : decode cX7_moved 8 = .ok (.invokestatic 77, 3) := by decide +kernel
theorem dX7_moved_11 : decode cX7_moved 11 = .ok (.ifCond .ne 5, 3) := by decide +kernel
theorem dX7_moved_14 : decode cX7_moved 14 = .ok (.iconst (-1), 1) := by decide +kernel
theorem dX7_moved_15 : decode cX7_moved 15 = .ok (.ireturn, 1) := by decide +kernel
theorem dX7_moved_16 : decode cX7_moved 16 = .ok (.iconst 0, 1) := by decide +kernel
theorem dX7_moved_17 : decode cX7_moved 17 = .ok (.istore_n 2, 1) := by decide +kernel
theorem dX7_moved_18 : decode cX7_moved 18 = .ok (.iload_n 1, 1) := by decide +kernel
theorem dX7_moved_19 : decode cX7_moved 19 = .ok (.istore_n 3, 1) := by decide +kernel
theorem dX7_moved_20 : decode cX7_moved 20 = .ok (.iconst 0, 1) := by decide +kernel
theorem dX7_moved_21 : decode cX7_moved 21 = .ok (.istore 4, 2) := by decide +kernel
theorem dX7_moved_23 : decode cX7_moved 23 = .ok (.iload 4, 2) := by decide +kernel
theorem dX7_moved_25 : decode cX7_moved 25 = .ok (.aload_n 0, 1) := by decide +kernel
theorem dX7_moved_26 : decode cX7_moved 26 = .ok (.getfield 26, 3) := by decide +kernel
theorem dX7_moved_29 : decode cX7_moved 29 = .ok (.iconst 0, 1) := by decide +kernel
theorem dX7_moved_30 : decode cX7_moved 30 = .ok (.iaload, 1) := by decide +kernel
theorem dX7_moved_31 : decode cX7_moved 31 = .ok (.if_icmp .ge 74, 3) := by decide +kernel
theorem dX7_moved_34 : decode cX7_moved 34 = .ok (.aload_n 0, 1) := by decide +kernel
theorem dX7_moved_35 : decode cX7_moved 35 = .ok (.getfield 29, 3) := by decide +kernel
theorem dX7_moved_38 : decode cX7_moved 38 = .ok (.iload 4, 2) := by decide +kernel
theorem dX7_moved_40 : decode cX7_moved 40 = .ok (.iaload, 1) := by decide +kernel
theorem dX7_moved_41 : decode cX7_moved 41 = .ok (.aload_n 0, 1) := by decide +kernel
theorem dX7_moved_42 : decode cX7_moved 42 = .ok (.iload 4, 2) := by decide +kernel
theorem dX7_moved_44 : decode cX7_moved 44 = .ok (.iconst 2, 1) := by decide +kernel
theorem dX7_moved_45 : decode cX7_moved 45 = .ok (.invokevirtual 123, 3) := by decide +kernel
theorem dX7_moved_48 : decode cX7_moved 48 = .ok (.imul, 1) := by decide +kernel
theorem dX7_moved_49 : decode cX7_moved 49 = .ok (.istore 5, 2) := by decide +kernel
theorem dX7_moved_51 : decode cX7_moved 51 = .ok (.iload 5, 2) := by decide +kernel
theorem dX7_moved_53 : decode cX7_moved 53 = .ok (.iload_n 1, 1) := by decide +kernel
theorem dX7_moved_54 : decode cX7_moved 54 = .ok (.if_icmp .le 6, 3) := by decide +kernel
theorem dX7_moved_57 : decode cX7_moved 57 = .ok (.bipush (-4), 2) := by decide +kernel
theorem dX7_moved_59 : decode cX7_moved 59 = .ok (.ireturn, 1) := by decide +kernel
theorem dX7_moved_60 : decode cX7_moved 60 = .ok (.iload_n 2, 1) := by decide +kernel
theorem dX7_moved_61 : decode cX7_moved 61 = .ok (.iload_n 3, 1) := by decide +kernel
theorem dX7_moved_62 : decode cX7_moved 62 = .ok (.iload 5, 2) := by decide +kernel
theorem dX7_moved_64 : decode cX7_moved 64 = .ok (.iadd, 1) := by decide +kernel
theorem dX7_moved_65 : decode cX7_moved 65 = .ok (.iload_n 1, 1) := by decide +kernel
theorem dX7_moved_66 : decode cX7_moved 66 = .ok (.if_icmp .le 12, 3) := by decide +kernel
theorem dX7_moved_69 : decode cX7_moved 69 = .ok (.iload 5, 2) := by decide +kernel
theorem dX7_moved_71 : decode cX7_moved 71 = .ok (.ifCond .le 7, 3) := by decide +kernel
theorem dX7_moved_74 : decode cX7_moved 74 = .ok (.iconst 1, 1) := by decide +kernel
theorem dX7_moved_75 : decode cX7_moved 75 = .ok (.goto 4, 3) := by decide +kernel
theorem dX7_moved_78 : decode cX7_moved 78 = .ok (.iconst 0, 1) := by decide +kernel
theorem dX7_moved_79 : decode cX7_moved 79 = .ok (.iadd, 1) := by decide +kernel
theorem dX7_moved_80 : decode cX7_moved 80 = .ok (.istore_n 2, 1) := by decide +kernel
theorem dX7_moved_81 : decode cX7_moved 81 = .ok (.iload_n 3, 1) := by decide +kernel
theorem dX7_moved_82 : decode cX7_moved 82 = .ok (.iload 5, 2) := by decide +kernel
theorem dX7_moved_84 : decode cX7_moved 84 = .ok (.iadd, 1) := by decide +kernel
theorem dX7_moved_85 : decode cX7_moved 85 = .ok (.iload_n 1, 1) := by decide +kernel
theorem dX7_moved_86 : decode cX7_moved 86 = .ok (.if_icmp .le 8, 3) := by decide +kernel
theorem dX7_moved_89 : decode cX7_moved 89 = .ok (.iload 5, 2) := by decide +kernel
theorem dX7_moved_91 : decode cX7_moved 91 = .ok (.goto 7, 3) := by decide +kernel
theorem dX7_moved_94 : decode cX7_moved 94 = .ok (.iload_n 3, 1) := by decide +kernel
theorem dX7_moved_95 : decode cX7_moved 95 = .ok (.iload 5, 2) := by decide +kernel
theorem dX7_moved_97 : decode cX7_moved 97 = .ok (.iadd, 1) := by decide +kernel
theorem dX7_moved_98 : decode cX7_moved 98 = .ok (.istore_n 3, 1) := by decide +kernel
theorem dX7_moved_99 : decode cX7_moved 99 = .ok (.iinc 4 1, 3) := by decide +kernel
theorem dX7_moved_102 : decode cX7_moved 102 = .ok (.goto (-79), 3) := by decide +kernel
theorem dX7_moved_105 : decode cX7_moved 105 = .ok (.iload_n 2, 1) := by decide +kernel
theorem dX7_moved_106 : decode cX7_moved 106 = .ok (.ifCond .ne 7, 3) := by decide +kernel
theorem dX7_moved_109 : decode cX7_moved 109 = .ok (.iconst 0, 1) := by decide +kernel
theorem dX7_moved_110 : decode cX7_moved 110 = .ok (.goto 8, 3) := by decide +kernel
theorem dX7_moved_113 : decode cX7_moved 113 = .ok (.iconst 2, 1) := by decide +kernel
theorem dX7_moved_114 : decode cX7_moved 114 = .ok (.iload_n 2, 1) := by decide +kernel
theorem dX7_moved_115 : decode cX7_moved 115 = .ok (.imul, 1) := by decide +kernel
theorem dX7_moved_116 : decode cX7_moved 116 = .ok (.iconst 1, 1) := by decide +kernel
theorem dX7_moved_117 : decode cX7_moved 117 = .ok (.isub, 1) := by decide +kernel
theorem dX7_moved_118 : decode cX7_moved 118 = .ok (.ireturn, 1) := by decide +kernel
theorem dX7_rent_0 : decode cX7_rent 0 = .ok (.iload_n 1, 1) := by decide +kernel
theorem dX7_rent_1 : decode cX7_rent 1 = .ok (.i2l, 1) := by decide +kernel
theorem dX7_rent_2 : decode cX7_rent 2 = .ok (.lconst 1, 1) := by decide +kernel
theorem dX7_rent_3 : decode cX7_rent 3 = .ok (.ldc2_w 205, 3) := by decide +kernel
theorem dX7_rent_6 : decode cX7_rent 6 = .ok (.invokestatic 77, 3) := by decide +kernel
theorem dX7_rent_9 : decode cX7_rent 9 = .ok (.ifCond .ne 7, 3) := by decide +kernel
theorem dX7_rent_12 : decode cX7_rent 12 = .ok (.ldc2_w 154, 3) := by decide +kernel
theorem dX7_rent_15 : decode cX7_rent 15 = .ok (.lreturn, 1) := by decide +kernel
theorem dX7_rent_16 : decode cX7_rent 16 = .ok (.lconst 0, 1) := by decide +kernel
theorem dX7_rent_17 : decode cX7_rent 17 = .ok (.lstore_n 2, 1) := by decide +kernel
theorem dX7_rent_18 : decode cX7_rent 18 = .ok (.iconst 0, 1) := by decide +kernel
theorem dX7_rent_19 : decode cX7_rent 19 = .ok (.istore 4, 2) := by decide +kernel
theorem dX7_rent_21 : decode cX7_rent 21 = .ok (.iload 4, 2) := by decide +kernel
theorem dX7_rent_23 : decode cX7_rent 23 = .ok (.aload_n 0, 1) := by decide +kernel
theorem dX7_rent_24 : decode cX7_rent 24 = .ok (.getfield 26, 3) := by decide +kernel
theorem dX7_rent_27 : decode cX7_rent 27 = .ok (.iconst 0, 1) := by decide +kernel
theorem dX7_rent_28 : decode cX7_rent 28 = .ok (.iaload, 1) := by decide +kernel
theorem dX7_rent_29 : decode cX7_rent 29 = .ok (.if_icmp .ge 28, 3) := by decide +kernel
theorem dX7_rent_32 : decode cX7_rent 32 = .ok (.lload_n 2, 1) := by decide +kernel
theorem dX7_rent_33 : decode cX7_rent 33 = .ok (.aload_n 0, 1) := by decide +kernel
theorem dX7_rent_34 : decode cX7_rent 34 = .ok (.getfield 29, 3) := by decide +kernel
theorem dX7_rent_37 : decode cX7_rent 37 = .ok (.iload 4, 2) := by decide +kernel
theorem dX7_rent_39 : decode cX7_rent 39 = .ok (.iaload, 1) := by decide +kernel
theorem dX7_rent_40 : decode cX7_rent 40 = .ok (.i2l, 1) := by decide +kernel
theorem dX7_rent_41 : decode cX7_rent 41 = .ok (.aload_n 0, 1) := by decide +kernel
theorem dX7_rent_42 : decode cX7_rent 42 = .ok (.iload 4, 2) := by decide +kernel
theorem dX7_rent_44 : decode cX7_rent 44 = .ok (.invokevirtual 131, 3) := by decide +kernel
theorem dX7_rent_47 : decode cX7_rent 47 = .ok (.i2l, 1) := by decide +kernel
theorem dX7_rent_48 : decode cX7_rent 48 = .ok (.lmul, 1) := by decide +kernel
theorem dX7_rent_49 : decode cX7_rent 49 = .ok (.ladd, 1) := by decide +kernel
theorem dX7_rent_50 : decode cX7_rent 50 = .ok (.lstore_n 2, 1) := by decide +kernel
theorem dX7_rent_51 : decode cX7_rent 51 = .ok (.iinc 4 1, 3) := by decide +kernel
theorem dX7_rent_54 : decode cX7_rent 54 = .ok (.goto (-33), 3) := by decide +kernel
theorem dX7_rent_57 : decode cX7_rent 57 = .ok (.iload_n 1, 1) := by decide +kernel
theorem dX7_rent_58 : decode cX7_rent 58 = .ok (.i2l, 1) := by decide +kernel
theorem dX7_rent_59 : decode cX7_rent 59 = .ok (.lload_n 2, 1) := by decide +kernel
theorem dX7_rent_60 : decode cX7_rent 60 = .ok (.lmul, 1) := by decide +kernel
theorem dX7_rent_61 : decode cX7_rent 61 = .ok (.ldc2_w 207, 3) := by decide +kernel
theorem dX7_rent_64 : decode cX7_rent 64 = .ok (.ldiv, 1) := by decide +kernel
theorem dX7_rent_65 : decode cX7_rent 65 = .ok (.lreturn, 1) := by decide +kernel
theorem dX7_comes_0 : decode cX7_comes 0 = .ok (.iconst 0, 1) := by decide +kernel
theorem dX7_comes_1 : decode cX7_comes 1 = .ok (.istore_n 2, 1) := by decide +kernel
theorem dX7_comes_2 : decode cX7_comes 2 = .ok (.iconst 0, 1) := by decide +kernel
theorem dX7_comes_3 : decode cX7_comes 3 = .ok (.istore_n 3, 1) := by decide +kernel
theorem dX7_comes_4 : decode cX7_comes 4 = .ok (.iconst 0, 1) := by decide +kernel
theorem dX7_comes_5 : decode cX7_comes 5 = .ok (.istore 4, 2) := by decide +kernel
theorem dX7_comes_7 : decode cX7_comes 7 = .ok (.iload 4, 2) := by decide +kernel
theorem dX7_comes_9 : decode cX7_comes 9 = .ok (.aload_n 0, 1) := by decide +kernel
theorem dX7_comes_10 : decode cX7_comes 10 = .ok (.getfield 17, 3) := by decide +kernel
theorem dX7_comes_13 : decode cX7_comes 13 = .ok (.iconst 0, 1) := by decide +kernel
theorem dX7_comes_14 : decode cX7_comes 14 = .ok (.iaload, 1) := by decide +kernel
theorem dX7_comes_15 : decode cX7_comes 15 = .ok (.if_icmp .ge 93, 3) := by decide +kernel
theorem dX7_comes_18 : decode cX7_comes 18 = .ok (.ldc2_w 209, 3) := by decide +kernel
theorem dX7_comes_21 : decode cX7_comes 21 = .ok (.iload_n 1, 1) := by decide +kernel
theorem dX7_comes_22 : decode cX7_comes 22 = .ok (.i2l, 1) := by decide +kernel
theorem dX7_comes_23 : decode cX7_comes 23 = .ok (.lmul, 1) := by decide +kernel
theorem dX7_comes_24 : decode cX7_comes 24 = .ok (.ldc2_w 211, 3) := by decide +kernel
theorem dX7_comes_27 : decode cX7_comes 27 = .ok (.iload 4, 2) := by decide +kernel
theorem dX7_comes_29 : decode cX7_comes 29 = .ok (.i2l, 1) := by decide +kernel
theorem dX7_comes_30 : decode cX7_comes 30 = .ok (.lmul, 1) := by decide +kernel
theorem dX7_comes_31 : decode cX7_comes 31 = .ok (.ladd, 1) := by decide +kernel
theorem dX7_comes_32 : decode cX7_comes 32 = .ok (.lconst 1, 1) := by decide +kernel
theorem dX7_comes_33 : decode cX7_comes 33 = .ok (.ladd, 1) := by decide +kernel
theorem dX7_comes_34 : decode cX7_comes 34 = .ok (.lstore 5, 2) := by decide +kernel
theorem dX7_comes_36 : decode cX7_comes 36 = .ok (.aload_n 0, 1) := by decide +kernel
theorem dX7_comes_37 : decode cX7_comes 37 = .ok (.iload 4, 2) := by decide +kernel
theorem dX7_comes_39 : decode cX7_comes 39 = .ok (.iconst 1, 1) := by decide +kernel
theorem dX7_comes_40 : decode cX7_comes 40 = .ok (.invokevirtual 123, 3) := by decide +kernel
theorem dX7_comes_43 : decode cX7_comes 43 = .ok (.lload 5, 2) := by decide +kernel
theorem dX7_comes_45 : decode cX7_comes 45 = .ok (.lload 5, 2) := by decide +kernel
theorem dX7_comes_47 : decode cX7_comes 47 = .ok (.lmul, 1) := by decide +kernel
theorem dX7_comes_48 : decode cX7_comes 48 = .ok (.ldc2_w 213, 3) := by decide +kernel
theorem dX7_comes_51 : decode cX7_comes 51 = .ok (.lrem, 1) := by decide +kernel
theorem dX7_comes_52 : decode cX7_comes 52 = .ok (.aload_n 0, 1) := by decide +kernel
theorem dX7_comes_53 : decode cX7_comes 53 = .ok (.getfield 13, 3) := by decide +kernel
theorem dX7_comes_56 : decode cX7_comes 56 = .ok (.iconst 4, 1) := by decide +kernel
theorem dX7_comes_57 : decode cX7_comes 57 = .ok (.iaload, 1) := by decide +kernel
theorem dX7_comes_58 : decode cX7_comes 58 = .ok (.iconst 1, 1) := by decide +kernel
theorem dX7_comes_59 : decode cX7_comes 59 = .ok (.iadd, 1) := by decide +kernel
theorem dX7_comes_60 : decode cX7_comes 60 = .ok (.i2l, 1) := by decide +kernel
theorem dX7_comes_61 : decode cX7_comes 61 = .ok (.lrem, 1) := by decide +kernel
theorem dX7_comes_62 : decode cX7_comes 62 = .ok (.l2i, 1) := by decide +kernel
theorem dX7_comes_63 : decode cX7_comes 63 = .ok (.iadd, 1) := by decide +kernel
theorem dX7_comes_64 : decode cX7_comes 64 = .ok (.istore 7, 2) := by decide +kernel
theorem dX7_comes_66 : decode cX7_comes 66 = .ok (.iload_n 2, 1) := by decide +kernel
theorem dX7_comes_67 : decode cX7_comes 67 = .ok (.bipush 10, 2) := by decide +kernel
theorem dX7_comes_69 : decode cX7_comes 69 = .ok (.iload 7, 2) := by decide +kernel
theorem dX7_comes_71 : decode cX7_comes 71 = .ok (.imul, 1) := by decide +kernel
theorem dX7_comes_72 : decode cX7_comes 72 = .ok (.iadd, 1) := by decide +kernel
theorem dX7_comes_73 : decode cX7_comes 73 = .ok (.istore_n 2, 1) := by decide +kernel
theorem dX7_comes_74 : decode cX7_comes 74 = .ok (.iload_n 3, 1) := by decide +kernel
theorem dX7_comes_75 : decode cX7_comes 75 = .ok (.bipush 10, 2) := by decide +kernel
theorem dX7_comes_77 : decode cX7_comes 77 = .ok (.iload 7, 2) := by decide +kernel
theorem dX7_comes_79 : decode cX7_comes 79 = .ok (.imul, 1) := by decide +kernel
theorem dX7_comes_80 : decode cX7_comes 80 = .ok (.aload_n 0, 1) := by decide +kernel
theorem dX7_comes_81 : decode cX7_comes 81 = .ok (.iload 4, 2) := by decide +kernel
theorem dX7_comes_83 : decode cX7_comes 83 = .ok (.iconst 2, 1) := by decide +kernel
theorem dX7_comes_84 : decode cX7_comes 84 = .ok (.invokevirtual 123, 3) := by decide +kernel
theorem dX7_comes_87 : decode cX7_comes 87 = .ok (.imul, 1) := by decide +kernel
theorem dX7_comes_88 : decode cX7_comes 88 = .ok (.iadd, 1) := by decide +kernel
theorem dX7_comes_89 : decode cX7_comes 89 = .ok (.istore_n 3, 1) := by decide +kernel
theorem dX7_comes_90 : decode cX7_comes 90 = .ok (.aload_n 0, 1) := by decide +kernel
theorem dX7_comes_91 : decode cX7_comes 91 = .ok (.iload_n 2, 1) := by decide +kernel
theorem dX7_comes_92 : decode cX7_comes 92 = .ok (.iload_n 3, 1) := by decide +kernel
theorem dX7_comes_93 : decode cX7_comes 93 = .ok (.invokevirtual 140, 3) := by decide +kernel
theorem dX7_comes_96 : decode cX7_comes 96 = .ok (.ifCond .ne 6, 3) := by decide +kernel
theorem dX7_comes_99 : decode cX7_comes 99 = .ok (.iload 4, 2) := by decide +kernel
theorem dX7_comes_101 : decode cX7_comes 101 = .ok (.ireturn, 1) := by decide +kernel
theorem dX7_comes_102 : decode cX7_comes 102 = .ok (.iinc 4 1, 3) := by decide +kernel
theorem dX7_comes_105 : decode cX7_comes 105 = .ok (.goto (-98), 3) := by decide +kernel
theorem dX7_comes_108 : decode cX7_comes 108 = .ok (.aload_n 0, 1) := by decide +kernel
theorem dX7_comes_109 : decode cX7_comes 109 = .ok (.getfield 17, 3) := by decide +kernel
theorem dX7_comes_112 : decode cX7_comes 112 = .ok (.iconst 0, 1) := by decide +kernel
theorem dX7_comes_113 : decode cX7_comes 113 = .ok (.iaload, 1) := by decide +kernel
theorem dX7_comes_114 : decode cX7_comes 114 = .ok (.ireturn, 1) := by decide +kernel
theorem dX7_isSeed_0 : decode cX7_isSeed 0 = .ok (.iload_n 0, 1) := by decide +kernel
theorem dX7_isSeed_1 : decode cX7_isSeed 1 = .ok (.i2l, 1) := by decide +kernel
theorem dX7_isSeed_2 : decode cX7_isSeed 2 = .ok (.lconst 0, 1) := by decide +kernel
theorem dX7_isSeed_3 : decode cX7_isSeed 3 = .ok (.ldc2_w 215, 3) := by decide +kernel
theorem dX7_isSeed_6 : decode cX7_isSeed 6 = .ok (.invokestatic 77, 3) := by decide +kernel
theorem dX7_isSeed_9 : decode cX7_isSeed 9 = .ok (.ireturn, 1) := by decide +kernel
theorem dX7_winter_0 : decode cX7_winter 0 = .ok (.iload_n 1, 1) := by decide +kernel
theorem dX7_winter_1 : decode cX7_winter 1 = .ok (.invokestatic 217, 3) := by decide +kernel
theorem dX7_winter_4 : decode cX7_winter 4 = .ok (.ifCond .eq 11, 3) := by decide +kernel
theorem dX7_winter_7 : decode cX7_winter 7 = .ok (.aload_n 0, 1) := by decide +kernel
theorem dX7_winter_8 : decode cX7_winter 8 = .ok (.iload_n 1, 1) := by decide +kernel
theorem dX7_winter_9 : decode cX7_winter 9 = .ok (.invokevirtual 220, 3) := by decide +kernel
theorem dX7_winter_12 : decode cX7_winter 12 = .ok (.goto 4, 3) := by decide +kernel
theorem dX7_winter_15 : decode cX7_winter 15 = .ok (.iconst (-1), 1) := by decide +kernel
theorem dX7_winter_16 : decode cX7_winter 16 = .ok (.ireturn, 1) := by decide +kernel
theorem dX7_ten_0 : decode cX7_ten 0 = .ok (.iload_n 1, 1) := by decide +kernel
theorem dX7_ten_1 : decode cX7_ten 1 = .ok (.invokestatic 217, 3) := by decide +kernel
theorem dX7_ten_4 : decode cX7_ten 4 = .ok (.ifCond .ne 5, 3) := by decide +kernel
theorem dX7_ten_7 : decode cX7_ten 7 = .ok (.iconst (-1), 1) := by decide +kernel
theorem dX7_ten_8 : decode cX7_ten 8 = .ok (.ireturn, 1) := by decide +kernel
theorem dX7_ten_9 : decode cX7_ten 9 = .ok (.iconst 0, 1) := by decide +kernel
theorem dX7_ten_10 : decode cX7_ten 10 = .ok (.istore_n 2, 1) := by decide +kernel
theorem dX7_ten_11 : decode cX7_ten 11 = .ok (.iconst 0, 1) := by decide +kernel
theorem dX7_ten_12 : decode cX7_ten 12 = .ok (.istore_n 3, 1) := by decide +kernel
theorem dX7_ten_13 : decode cX7_ten 13 = .ok (.iload_n 3, 1) := by decide +kernel
theorem dX7_ten_14 : decode cX7_ten 14 = .ok (.bipush 10, 2) := by decide +kernel
theorem dX7_ten_16 : decode cX7_ten 16 = .ok (.if_icmp .ge 37, 3) := by decide +kernel
theorem dX7_ten_19 : decode cX7_ten 19 = .ok (.iload_n 2, 1) := by decide +kernel
theorem dX7_ten_20 : decode cX7_ten 20 = .ok (.aload_n 0, 1) := by decide +kernel
theorem dX7_ten_21 : decode cX7_ten 21 = .ok (.iload_n 1, 1) := by decide +kernel
theorem dX7_ten_22 : decode cX7_ten 22 = .ok (.iload_n 3, 1) := by decide +kernel
theorem dX7_ten_23 : decode cX7_ten 23 = .ok (.iadd, 1) := by decide +kernel
theorem dX7_ten_24 : decode cX7_ten 24 = .ok (.sipush 10000, 3) := by decide +kernel
theorem dX7_ten_27 : decode cX7_ten 27 = .ok (.irem, 1) := by decide +kernel
theorem dX7_ten_28 : decode cX7_ten 28 = .ok (.invokevirtual 220, 3) := by decide +kernel
theorem dX7_ten_31 : decode cX7_ten 31 = .ok (.aload_n 0, 1) := by decide +kernel
theorem dX7_ten_32 : decode cX7_ten 32 = .ok (.getfield 17, 3) := by decide +kernel
theorem dX7_ten_35 : decode cX7_ten 35 = .ok (.iconst 0, 1) := by decide +kernel
theorem dX7_ten_36 : decode cX7_ten 36 = .ok (.iaload, 1) := by decide +kernel
theorem dX7_ten_37 : decode cX7_ten 37 = .ok (.if_icmp .ne 7, 3) := by decide +kernel
theorem dX7_ten_40 : decode cX7_ten 40 = .ok (.iconst 1, 1) := by decide +kernel
theorem dX7_ten_41 : decode cX7_ten 41 = .ok (.goto 4, 3) := by decide +kernel
theorem dX7_ten_44 : decode cX7_ten 44 = .ok (.iconst 0, 1) := by decide +kernel
theorem dX7_ten_45 : decode cX7_ten 45 = .ok (.iadd, 1) := by decide +kernel
theorem dX7_ten_46 : decode cX7_ten 46 = .ok (.istore_n 2, 1) := by decide +kernel
theorem dX7_ten_47 : decode cX7_ten 47 = .ok (.iinc 3 1, 3) := by decide +kernel
theorem dX7_ten_50 : decode cX7_ten 50 = .ok (.goto (-37), 3) := by decide +kernel
theorem dX7_ten_53 : decode cX7_ten 53 = .ok (.iload_n 2, 1) := by decide +kernel
theorem dX7_ten_54 : decode cX7_ten 54 = .ok (.ireturn, 1) := by decide +kernel
theorem dX7_copies_0 : decode cX7_copies 0 = .ok (.aload_n 0, 1) := by decide +kernel
theorem dX7_copies_1 : decode cX7_copies 1 = .ok (.getfield 26, 3) := by decide +kernel
theorem dX7_copies_4 : decode cX7_copies 4 = .ok (.iload_n 2, 1) := by decide +kernel
theorem dX7_copies_5 : decode cX7_copies 5 = .ok (.aload_n 0, 1) := by decide +kernel
theorem dX7_copies_6 : decode cX7_copies 6 = .ok (.getfield 26, 3) := by decide +kernel
theorem dX7_copies_9 : decode cX7_copies 9 = .ok (.iload_n 1, 1) := by decide +kernel
theorem dX7_copies_10 : decode cX7_copies 10 = .ok (.iaload, 1) := by decide +kernel
theorem dX7_copies_11 : decode cX7_copies 11 = .ok (.iastore, 1) := by decide +kernel
theorem dX7_copies_12 : decode cX7_copies 12 = .ok (.aload_n 0, 1) := by decide +kernel
theorem dX7_copies_13 : decode cX7_copies 13 = .ok (.getfield 35, 3) := by decide +kernel
theorem dX7_copies_16 : decode cX7_copies 16 = .ok (.iload_n 2, 1) := by decide +kernel
theorem dX7_copies_17 : decode cX7_copies 17 = .ok (.aload_n 0, 1) := by decide +kernel
theorem dX7_copies_18 : decode cX7_copies 18 = .ok (.getfield 35, 3) := by decide +kernel
theorem dX7_copies_21 : decode cX7_copies 21 = .ok (.iload_n 1, 1) := by decide +kernel
theorem dX7_copies_22 : decode cX7_copies 22 = .ok (.laload, 1) := by decide +kernel
theorem dX7_copies_23 : decode cX7_copies 23 = .ok (.lastore, 1) := by decide +kernel
theorem dX7_copies_24 : decode cX7_copies 24 = .ok (.aload_n 0, 1) := by decide +kernel
theorem dX7_copies_25 : decode cX7_copies 25 = .ok (.getfield 39, 3) := by decide +kernel
theorem dX7_copies_28 : decode cX7_copies 28 = .ok (.iload_n 2, 1) := by decide +kernel
theorem dX7_copies_29 : decode cX7_copies 29 = .ok (.aload_n 0, 1) := by decide +kernel
theorem dX7_copies_30 : decode cX7_copies 30 = .ok (.getfield 39, 3) := by decide +kernel
theorem dX7_copies_33 : decode cX7_copies 33 = .ok (.iload_n 1, 1) := by decide +kernel
theorem dX7_copies_34 : decode cX7_copies 34 = .ok (.iaload, 1) := by decide +kernel
theorem dX7_copies_35 : decode cX7_copies 35 = .ok (.iastore, 1) := by decide +kernel
theorem dX7_copies_36 : decode cX7_copies 36 = .ok (.iconst 0, 1) := by decide +kernel
theorem dX7_copies_37 : decode cX7_copies 37 = .ok (.istore_n 3, 1) := by decide +kernel
theorem dX7_copies_38 : decode cX7_copies 38 = .ok (.iload_n 3, 1) := by decide +kernel
theorem dX7_copies_39 : decode cX7_copies 39 = .ok (.bipush 24, 2) := by decide +kernel
theorem dX7_copies_41 : decode cX7_copies 41 = .ok (.if_icmp .ge 81, 3) := by decide +kernel
theorem dX7_copies_44 : decode cX7_copies 44 = .ok (.aload_n 0, 1) := by decide +kernel
theorem dX7_copies_45 : decode cX7_copies 45 = .ok (.getfield 42, 3) := by decide +kernel
theorem dX7_copies_48 : decode cX7_copies 48 = .ok (.bipush 24, 2) := by decide +kernel
theorem dX7_copies_50 : decode cX7_copies 50 = .ok (.iload_n 2, 1) := by decide +kernel
theorem dX7_copies_51 : decode cX7_copies 51 = .ok (.imul, 1) := by decide +kernel
theorem dX7_copies_52 : decode cX7_copies 52 = .ok (.iload_n 3, 1) := by decide +kernel
theorem dX7_copies_53 : decode cX7_copies 53 = .ok (.iadd, 1) := by decide +kernel
theorem dX7_copies_54 : decode cX7_copies 54 = .ok (.aload_n 0, 1) := by decide +kernel
theorem dX7_copies_55 : decode cX7_copies 55 = .ok (.getfield 42, 3) := by decide +kernel
theorem dX7_copies_58 : decode cX7_copies 58 = .ok (.bipush 24, 2) := by decide +kernel
theorem dX7_copies_60 : decode cX7_copies 60 = .ok (.iload_n 1, 1) := by decide +kernel
theorem dX7_copies_61 : decode cX7_copies 61 = .ok (.imul, 1) := by decide +kernel
theorem dX7_copies_62 : decode cX7_copies 62 = .ok (.iload_n 3, 1) := by decide +kernel
theorem dX7_copies_63 : decode cX7_copies 63 = .ok (.iadd, 1) := by decide +kernel
theorem dX7_copies_64 : decode cX7_copies 64 = .ok (.iaload, 1) := by decide +kernel
theorem dX7_copies_65 : decode cX7_copies 65 = .ok (.iastore, 1) := by decide +kernel
theorem dX7_copies_66 : decode cX7_copies 66 = .ok (.iload_n 3, 1) := by decide +kernel
theorem dX7_copies_67 : decode cX7_copies 67 = .ok (.bipush 12, 2) := by decide +kernel
theorem dX7_copies_69 : decode cX7_copies 69 = .ok (.if_icmp .ge 47, 3) := by decide +kernel
theorem dX7_copies_72 : decode cX7_copies 72 = .ok (.aload_n 0, 1) := by decide +kernel
theorem dX7_copies_73 : decode cX7_copies 73 = .ok (.getfield 29, 3) := by decide +kernel
theorem dX7_copies_76 : decode cX7_copies 76 = .ok (.bipush 12, 2) := by decide +kernel
theorem dX7_copies_78 : decode cX7_copies 78 = .ok (.iload_n 2, 1) := by decide +kernel
theorem dX7_copies_79 : decode cX7_copies 79 = .ok (.imul, 1) := by decide +kernel
theorem dX7_copies_80 : decode cX7_copies 80 = .ok (.iload_n 3, 1) := by decide +kernel
theorem dX7_copies_81 : decode cX7_copies 81 = .ok (.iadd, 1) := by decide +kernel
theorem dX7_copies_82 : decode cX7_copies 82 = .ok (.aload_n 0, 1) := by decide +kernel
theorem dX7_copies_83 : decode cX7_copies 83 = .ok (.getfield 29, 3) := by decide +kernel
theorem dX7_copies_86 : decode cX7_copies 86 = .ok (.bipush 12, 2) := by decide +kernel
theorem dX7_copies_88 : decode cX7_copies 88 = .ok (.iload_n 1, 1) := by decide +kernel
theorem dX7_copies_89 : decode cX7_copies 89 = .ok (.imul, 1) := by decide +kernel
theorem dX7_copies_90 : decode cX7_copies 90 = .ok (.iload_n 3, 1) := by decide +kernel
theorem dX7_copies_91 : decode cX7_copies 91 = .ok (.iadd, 1) := by decide +kernel
theorem dX7_copies_92 : decode cX7_copies 92 = .ok (.iaload, 1) := by decide +kernel
theorem dX7_copies_93 : decode cX7_copies 93 = .ok (.iastore, 1) := by decide +kernel
theorem dX7_copies_94 : decode cX7_copies 94 = .ok (.aload_n 0, 1) := by decide +kernel
theorem dX7_copies_95 : decode cX7_copies 95 = .ok (.getfield 32, 3) := by decide +kernel
theorem dX7_copies_98 : decode cX7_copies 98 = .ok (.bipush 12, 2) := by decide +kernel
theorem dX7_copies_100 : decode cX7_copies 100 = .ok (.iload_n 2, 1) := by decide +kernel
theorem dX7_copies_101 : decode cX7_copies 101 = .ok (.imul, 1) := by decide +kernel
theorem dX7_copies_102 : decode cX7_copies 102 = .ok (.iload_n 3, 1) := by decide +kernel
theorem dX7_copies_103 : decode cX7_copies 103 = .ok (.iadd, 1) := by decide +kernel
theorem dX7_copies_104 : decode cX7_copies 104 = .ok (.aload_n 0, 1) := by decide +kernel
theorem dX7_copies_105 : decode cX7_copies 105 = .ok (.getfield 32, 3) := by decide +kernel
theorem dX7_copies_108 : decode cX7_copies 108 = .ok (.bipush 12, 2) := by decide +kernel
theorem dX7_copies_110 : decode cX7_copies 110 = .ok (.iload_n 1, 1) := by decide +kernel
theorem dX7_copies_111 : decode cX7_copies 111 = .ok (.imul, 1) := by decide +kernel
theorem dX7_copies_112 : decode cX7_copies 112 = .ok (.iload_n 3, 1) := by decide +kernel
theorem dX7_copies_113 : decode cX7_copies 113 = .ok (.iadd, 1) := by decide +kernel
theorem dX7_copies_114 : decode cX7_copies 114 = .ok (.iaload, 1) := by decide +kernel
theorem dX7_copies_115 : decode cX7_copies 115 = .ok (.iastore, 1) := by decide +kernel
theorem dX7_copies_116 : decode cX7_copies 116 = .ok (.iinc 3 1, 3) := by decide +kernel
theorem dX7_copies_119 : decode cX7_copies 119 = .ok (.goto (-81), 3) := by decide +kernel
theorem dX7_copies_122 : decode cX7_copies 122 = .ok (.return_, 1) := by decide +kernel
theorem dX7_keep_0 : decode cX7_keep 0 = .ok (.aload_n 0, 1) := by decide +kernel
theorem dX7_keep_1 : decode cX7_keep 1 = .ok (.getfield 113, 3) := by decide +kernel
theorem dX7_keep_4 : decode cX7_keep 4 = .ok (.iconst 2, 1) := by decide +kernel
theorem dX7_keep_5 : decode cX7_keep 5 = .ok (.if_icmp .ne 6, 3) := by decide +kernel
theorem dX7_keep_8 : decode cX7_keep 8 = .ok (.bipush (-3), 2) := by decide +kernel
theorem dX7_keep_10 : decode cX7_keep 10 = .ok (.ireturn, 1) := by decide +kernel
theorem dX7_keep_11 : decode cX7_keep 11 = .ok (.aload_n 0, 1) := by decide +kernel
theorem dX7_keep_12 : decode cX7_keep 12 = .ok (.dup, 1) := by decide +kernel
theorem dX7_keep_13 : decode cX7_keep 13 = .ok (.getfield 113, 3) := by decide +kernel
theorem dX7_keep_16 : decode cX7_keep 16 = .ok (.iconst 1, 1) := by decide +kernel
theorem dX7_keep_17 : decode cX7_keep 17 = .ok (.iadd, 1) := by decide +kernel
theorem dX7_keep_18 : decode cX7_keep 18 = .ok (.putfield 113, 3) := by decide +kernel
theorem dX7_keep_21 : decode cX7_keep 21 = .ok (.aload_n 0, 1) := by decide +kernel
theorem dX7_keep_22 : decode cX7_keep 22 = .ok (.iconst 0, 1) := by decide +kernel
theorem dX7_keep_23 : decode cX7_keep 23 = .ok (.aload_n 0, 1) := by decide +kernel
theorem dX7_keep_24 : decode cX7_keep 24 = .ok (.getfield 113, 3) := by decide +kernel
theorem dX7_keep_27 : decode cX7_keep 27 = .ok (.invokevirtual 223, 3) := by decide +kernel
theorem dX7_keep_30 : decode cX7_keep 30 = .ok (.aload_n 0, 1) := by decide +kernel
theorem dX7_keep_31 : decode cX7_keep 31 = .ok (.getfield 113, 3) := by decide +kernel
theorem dX7_keep_34 : decode cX7_keep 34 = .ok (.ireturn, 1) := by decide +kernel
theorem dX7_back_0 : decode cX7_back 0 = .ok (.aload_n 0, 1) := by decide +kernel
theorem dX7_back_1 : decode cX7_back 1 = .ok (.getfield 113, 3) := by decide +kernel
theorem dX7_back_4 : decode cX7_back 4 = .ok (.ifCond .ne 6, 3) := by decide +kernel
theorem dX7_back_7 : decode cX7_back 7 = .ok (.bipush (-2), 2) := by decide +kernel
theorem dX7_back_9 : decode cX7_back 9 = .ok (.ireturn, 1) := by decide +kernel
theorem dX7_back_10 : decode cX7_back 10 = .ok (.aload_n 0, 1) := by decide +kernel
theorem dX7_back_11 : decode cX7_back 11 = .ok (.aload_n 0, 1) := by decide +kernel
theorem dX7_back_12 : decode cX7_back 12 = .ok (.getfield 113, 3) := by decide +kernel
theorem dX7_back_15 : decode cX7_back 15 = .ok (.iconst 0, 1) := by decide +kernel
theorem dX7_back_16 : decode cX7_back 16 = .ok (.invokevirtual 223, 3) := by decide +kernel
theorem dX7_back_19 : decode cX7_back 19 = .ok (.aload_n 0, 1) := by decide +kernel
theorem dX7_back_20 : decode cX7_back 20 = .ok (.dup, 1) := by decide +kernel
theorem dX7_back_21 : decode cX7_back 21 = .ok (.getfield 113, 3) := by decide +kernel
theorem dX7_back_24 : decode cX7_back 24 = .ok (.iconst 1, 1) := by decide +kernel
theorem dX7_back_25 : decode cX7_back 25 = .ok (.isub, 1) := by decide +kernel
theorem dX7_back_26 : decode cX7_back 26 = .ok (.putfield 113, 3) := by decide +kernel
theorem dX7_back_29 : decode cX7_back 29 = .ok (.aload_n 0, 1) := by decide +kernel
theorem dX7_back_30 : decode cX7_back 30 = .ok (.getfield 113, 3) := by decide +kernel
theorem dX7_back_33 : decode cX7_back 33 = .ok (.ireturn, 1) := by decide +kernel
theorem dX7_count_0 : decode cX7_count 0 = .ok (.iload_n 1, 1) := by decide +kernel
theorem dX7_count_1 : decode cX7_count 1 = .ok (.tableswitch 105 0 8 #[51, 58, 65, 70, 75, 83, 90, 95, 100], 51) := by decide +kernel
theorem dX7_count_52 : decode cX7_count 52 = .ok (.aload_n 0, 1) := by decide +kernel
theorem dX7_count_53 : decode cX7_count 53 = .ok (.getfield 17, 3) := by decide +kernel
theorem dX7_count_56 : decode cX7_count 56 = .ok (.iconst 0, 1) := by decide +kernel
theorem dX7_count_57 : decode cX7_count 57 = .ok (.iaload, 1) := by decide +kernel
theorem dX7_count_58 : decode cX7_count 58 = .ok (.ireturn, 1) := by decide +kernel
theorem dX7_count_59 : decode cX7_count 59 = .ok (.aload_n 0, 1) := by decide +kernel
theorem dX7_count_60 : decode cX7_count 60 = .ok (.getfield 26, 3) := by decide +kernel
theorem dX7_count_63 : decode cX7_count 63 = .ok (.iconst 0, 1) := by decide +kernel
theorem dX7_count_64 : decode cX7_count 64 = .ok (.iaload, 1) := by decide +kernel
theorem dX7_count_65 : decode cX7_count 65 = .ok (.ireturn, 1) := by decide +kernel
theorem dX7_count_66 : decode cX7_count 66 = .ok (.aload_n 0, 1) := by decide +kernel
theorem dX7_count_67 : decode cX7_count 67 = .ok (.invokevirtual 134, 3) := by decide +kernel
theorem dX7_count_70 : decode cX7_count 70 = .ok (.ireturn, 1) := by decide +kernel
theorem dX7_count_71 : decode cX7_count 71 = .ok (.aload_n 0, 1) := by decide +kernel
theorem dX7_count_72 : decode cX7_count 72 = .ok (.invokevirtual 137, 3) := by decide +kernel
theorem dX7_count_75 : decode cX7_count 75 = .ok (.ireturn, 1) := by decide +kernel
theorem dX7_count_76 : decode cX7_count 76 = .ok (.aload_n 0, 1) := by decide +kernel
theorem dX7_count_77 : decode cX7_count 77 = .ok (.getfield 35, 3) := by decide +kernel
theorem dX7_count_80 : decode cX7_count 80 = .ok (.iconst 0, 1) := by decide +kernel
theorem dX7_count_81 : decode cX7_count 81 = .ok (.laload, 1) := by decide +kernel
theorem dX7_count_82 : decode cX7_count 82 = .ok (.l2i, 1) := by decide +kernel
theorem dX7_count_83 : decode cX7_count 83 = .ok (.ireturn, 1) := by decide +kernel
theorem dX7_count_84 : decode cX7_count 84 = .ok (.aload_n 0, 1) := by decide +kernel
theorem dX7_count_85 : decode cX7_count 85 = .ok (.getfield 39, 3) := by decide +kernel
theorem dX7_count_88 : decode cX7_count 88 = .ok (.iconst 0, 1) := by decide +kernel
theorem dX7_count_89 : decode cX7_count 89 = .ok (.iaload, 1) := by decide +kernel
theorem dX7_count_90 : decode cX7_count 90 = .ok (.ireturn, 1) := by decide +kernel
theorem dX7_count_91 : decode cX7_count 91 = .ok (.aload_n 0, 1) := by decide +kernel
theorem dX7_count_92 : decode cX7_count 92 = .ok (.getfield 110, 3) := by decide +kernel
theorem dX7_count_95 : decode cX7_count 95 = .ok (.ireturn, 1) := by decide +kernel
theorem dX7_count_96 : decode cX7_count 96 = .ok (.aload_n 0, 1) := by decide +kernel
theorem dX7_count_97 : decode cX7_count 97 = .ok (.getfield 113, 3) := by decide +kernel
theorem dX7_count_100 : decode cX7_count 100 = .ok (.ireturn, 1) := by decide +kernel
theorem dX7_count_101 : decode cX7_count 101 = .ok (.aload_n 0, 1) := by decide +kernel
theorem dX7_count_102 : decode cX7_count 102 = .ok (.getfield 81, 3) := by decide +kernel
theorem dX7_count_105 : decode cX7_count 105 = .ok (.ireturn, 1) := by decide +kernel
theorem dX7_count_106 : decode cX7_count 106 = .ok (.iconst (-1), 1) := by decide +kernel
theorem dX7_count_107 : decode cX7_count 107 = .ok (.ireturn, 1) := by decide +kernel
theorem dJ9_abs_0f7a4_0 : decode cJ9_abs_0f7a4 0 = .ok (.iload_n 0, 1) := by decide +kernel
theorem dJ9_abs_0f7a4_1 : decode cJ9_abs_0f7a4 1 = .ok (.ifCond .ge 8, 3) := by decide +kernel
theorem dJ9_abs_0f7a4_4 : decode cJ9_abs_0f7a4 4 = .ok (.iload_n 0, 1) := by decide +kernel
theorem dJ9_abs_0f7a4_5 : decode cJ9_abs_0f7a4 5 = .ok (.ineg, 1) := by decide +kernel
theorem dJ9_abs_0f7a4_6 : decode cJ9_abs_0f7a4 6 = .ok (.goto 4, 3) := by decide +kernel
theorem dJ9_abs_0f7a4_9 : decode cJ9_abs_0f7a4 9 = .ok (.iload_n 0, 1) := by decide +kernel
theorem dJ9_abs_0f7a4_10 : decode cJ9_abs_0f7a4 10 = .ok (.ireturn, 1) := by decide +kernel
theorem dJ9_max_7cf53_0 : decode cJ9_max_7cf53 0 = .ok (.iload_n 0, 1) := by decide +kernel
theorem dJ9_max_7cf53_1 : decode cJ9_max_7cf53 1 = .ok (.iload_n 1, 1) := by decide +kernel
theorem dJ9_max_7cf53_2 : decode cJ9_max_7cf53 2 = .ok (.if_icmp .lt 7, 3) := by decide +kernel
theorem dJ9_max_7cf53_5 : decode cJ9_max_7cf53 5 = .ok (.iload_n 0, 1) := by decide +kernel
theorem dJ9_max_7cf53_6 : decode cJ9_max_7cf53 6 = .ok (.goto 4, 3) := by decide +kernel
theorem dJ9_max_7cf53_9 : decode cJ9_max_7cf53 9 = .ok (.iload_n 1, 1) := by decide +kernel
theorem dJ9_max_7cf53_10 : decode cJ9_max_7cf53 10 = .ok (.ireturn, 1) := by decide +kernel
theorem dJ9_min_7cf53_0 : decode cJ9_min_7cf53 0 = .ok (.iload_n 0, 1) := by decide +kernel
theorem dJ9_min_7cf53_1 : decode cJ9_min_7cf53 1 = .ok (.iload_n 1, 1) := by decide +kernel
theorem dJ9_min_7cf53_2 : decode cJ9_min_7cf53 2 = .ok (.if_icmp .gt 7, 3) := by decide +kernel
theorem dJ9_min_7cf53_5 : decode cJ9_min_7cf53 5 = .ok (.iload_n 0, 1) := by decide +kernel
theorem dJ9_min_7cf53_6 : decode cJ9_min_7cf53 6 = .ok (.goto 4, 3) := by decide +kernel
theorem dJ9_min_7cf53_9 : decode cJ9_min_7cf53 9 = .ok (.iload_n 1, 1) := by decide +kernel
theorem dJ9_min_7cf53_10 : decode cJ9_min_7cf53 10 = .ok (.ireturn, 1) := by decide +kernel
theorem dJ7_fill_53178_0 : decode cJ7_fill_53178 0 = .ok (.iconst 0, 1) := by decide +kernel
theorem dJ7_fill_53178_1 : decode cJ7_fill_53178 1 = .ok (.istore_n 2, 1) := by decide +kernel
theorem dJ7_fill_53178_2 : decode cJ7_fill_53178 2 = .ok (.aload_n 0, 1) := by decide +kernel
theorem dJ7_fill_53178_3 : decode cJ7_fill_53178 3 = .ok (.arraylength, 1) := by decide +kernel
theorem dJ7_fill_53178_4 : decode cJ7_fill_53178 4 = .ok (.istore_n 3, 1) := by decide +kernel
theorem dJ7_fill_53178_5 : decode cJ7_fill_53178 5 = .ok (.iload_n 2, 1) := by decide +kernel
theorem dJ7_fill_53178_6 : decode cJ7_fill_53178 6 = .ok (.iload_n 3, 1) := by decide +kernel
theorem dJ7_fill_53178_7 : decode cJ7_fill_53178 7 = .ok (.if_icmp .ge 13, 3) := by decide +kernel
theorem dJ7_fill_53178_10 : decode cJ7_fill_53178 10 = .ok (.aload_n 0, 1) := by decide +kernel
theorem dJ7_fill_53178_11 : decode cJ7_fill_53178 11 = .ok (.iload_n 2, 1) := by decide +kernel
theorem dJ7_fill_53178_12 : decode cJ7_fill_53178 12 = .ok (.iload_n 1, 1) := by decide +kernel
theorem dJ7_fill_53178_13 : decode cJ7_fill_53178 13 = .ok (.iastore, 1) := by decide +kernel
theorem dJ7_fill_53178_14 : decode cJ7_fill_53178 14 = .ok (.iinc 2 1, 3) := by decide +kernel
theorem dJ7_fill_53178_17 : decode cJ7_fill_53178 17 = .ok (.goto (-12), 3) := by decide +kernel
theorem dJ7_fill_53178_20 : decode cJ7_fill_53178 20 = .ok (.return_, 1) := by decide +kernel
theorem dL_law_0 : decode cL_law 0 = .ok (.new 7, 3) := by decide +kernel
theorem dL_law_3 : decode cL_law 3 = .ok (.dup, 1) := by decide +kernel
theorem dL_law_4 : decode cL_law 4 = .ok (.invokespecial 9, 3) := by decide +kernel
theorem dL_law_7 : decode cL_law 7 = .ok (.astore_n 1, 1) := by decide +kernel
theorem dL_law_8 : decode cL_law 8 = .ok (.new 10, 3) := by decide +kernel
theorem dL_law_11 : decode cL_law 11 = .ok (.dup, 1) := by decide +kernel
theorem dL_law_12 : decode cL_law 12 = .ok (.invokespecial 12, 3) := by decide +kernel
theorem dL_law_15 : decode cL_law 15 = .ok (.astore_n 2, 1) := by decide +kernel
theorem dL_law_16 : decode cL_law 16 = .ok (.iconst 0, 1) := by decide +kernel
theorem dL_law_17 : decode cL_law 17 = .ok (.istore_n 3, 1) := by decide +kernel
theorem dL_law_18 : decode cL_law 18 = .ok (.iload_n 3, 1) := by decide +kernel
theorem dL_law_19 : decode cL_law 19 = .ok (.aload_n 0, 1) := by decide +kernel
theorem dL_law_20 : decode cL_law 20 = .ok (.arraylength, 1) := by decide +kernel
theorem dL_law_21 : decode cL_law 21 = .ok (.iconst 5, 1) := by decide +kernel
theorem dL_law_22 : decode cL_law 22 = .ok (.isub, 1) := by decide +kernel
theorem dL_law_23 : decode cL_law 23 = .ok (.if_icmp .gt 865, 3) := by decide +kernel
theorem dL_law_26 : decode cL_law 26 = .ok (.aload_n 0, 1) := by decide +kernel
theorem dL_law_27 : decode cL_law 27 = .ok (.iload_n 3, 1) := by decide +kernel
theorem dL_law_28 : decode cL_law 28 = .ok (.iaload, 1) := by decide +kernel
theorem dL_law_29 : decode cL_law 29 = .ok (.bipush 31, 2) := by decide +kernel
theorem dL_law_31 : decode cL_law 31 = .ok (.iand, 1) := by decide +kernel
theorem dL_law_32 : decode cL_law 32 = .ok (.tableswitch 850 0 28 #[132, 195, 208, 221, 234, 267, 280, 313, 326, 349, 382, 415, 428, 461, 504, 557, 590, 613, 626, 639, 652, 675, 708, 731, 755, 778, 801, 814, 827], 132) := by decide +kernel
theorem dL_law_164 : decode cL_law 164 = .ok (.aload_n 1, 1) := by decide +kernel
theorem dL_law_165 : decode cL_law 165 = .ok (.aload_n 0, 1) := by decide +kernel
theorem dL_law_166 : decode cL_law 166 = .ok (.iload_n 3, 1) := by decide +kernel
theorem dL_law_167 : decode cL_law 167 = .ok (.iconst 1, 1) := by decide +kernel
theorem dL_law_168 : decode cL_law 168 = .ok (.iadd, 1) := by decide +kernel
theorem dL_law_169 : decode cL_law 169 = .ok (.iaload, 1) := by decide +kernel
theorem dL_law_170 : decode cL_law 170 = .ok (.aload_n 0, 1) := by decide +kernel
theorem dL_law_171 : decode cL_law 171 = .ok (.iload_n 3, 1) := by decide +kernel
theorem dL_law_172 : decode cL_law 172 = .ok (.iconst 2, 1) := by decide +kernel
theorem dL_law_173 : decode cL_law 173 = .ok (.iadd, 1) := by decide +kernel
theorem dL_law_174 : decode cL_law 174 = .ok (.iaload, 1) := by decide +kernel
theorem dL_law_175 : decode cL_law 175 = .ok (.i2l, 1) := by decide +kernel
theorem dL_law_176 : decode cL_law 176 = .ok (.bipush 32, 2) := by decide +kernel
theorem dL_law_178 : decode cL_law 178 = .ok (.lshl, 1) := by decide +kernel
theorem dL_law_179 : decode cL_law 179 = .ok (.aload_n 0, 1) := by decide +kernel
theorem dL_law_180 : decode cL_law 180 = .ok (.iload_n 3, 1) := by decide +kernel
theorem dL_law_181 : decode cL_law 181 = .ok (.iconst 3, 1) := by decide +kernel
theorem dL_law_182 : decode cL_law 182 = .ok (.iadd, 1) := by decide +kernel
theorem dL_law_183 : decode cL_law 183 = .ok (.iaload, 1) := by decide +kernel
theorem dL_law_184 : decode cL_law 184 = .ok (.i2l, 1) := by decide +kernel
theorem dL_law_185 : decode cL_law 185 = .ok (.ldc2_w 13, 3) := by decide +kernel
theorem dL_law_188 : decode cL_law 188 = .ok (.land, 1) := by decide +kernel
theorem dL_law_189 : decode cL_law 189 = .ok (.lor, 1) := by decide +kernel
theorem dL_law_190 : decode cL_law 190 = .ok (.invokevirtual 15, 3) := by decide +kernel
theorem dL_law_193 : decode cL_law 193 = .ok (.aload_n 2, 1) := by decide +kernel
theorem dL_law_194 : decode cL_law 194 = .ok (.aload_n 0, 1) := by decide +kernel
theorem dL_law_195 : decode cL_law 195 = .ok (.iload_n 3, 1) := by decide +kernel
theorem dL_law_196 : decode cL_law 196 = .ok (.iconst 1, 1) := by decide +kernel
theorem dL_law_197 : decode cL_law 197 = .ok (.iadd, 1) := by decide +kernel
theorem dL_law_198 : decode cL_law 198 = .ok (.iaload, 1) := by decide +kernel
theorem dL_law_199 : decode cL_law 199 = .ok (.aload_n 0, 1) := by decide +kernel
theorem dL_law_200 : decode cL_law 200 = .ok (.iload_n 3, 1) := by decide +kernel
theorem dL_law_201 : decode cL_law 201 = .ok (.iconst 2, 1) := by decide +kernel
theorem dL_law_202 : decode cL_law 202 = .ok (.iadd, 1) := by decide +kernel
theorem dL_law_203 : decode cL_law 203 = .ok (.iaload, 1) := by decide +kernel
theorem dL_law_204 : decode cL_law 204 = .ok (.i2l, 1) := by decide +kernel
theorem dL_law_205 : decode cL_law 205 = .ok (.bipush 32, 2) := by decide +kernel
theorem dL_law_207 : decode cL_law 207 = .ok (.lshl, 1) := by decide +kernel
theorem dL_law_208 : decode cL_law 208 = .ok (.aload_n 0, 1) := by decide +kernel
theorem dL_law_209 : decode cL_law 209 = .ok (.iload_n 3, 1) := by decide +kernel
theorem dL_law_210 : decode cL_law 210 = .ok (.iconst 3, 1) := by decide +kernel
theorem dL_law_211 : decode cL_law 211 = .ok (.iadd, 1) := by decide +kernel
theorem dL_law_212 : decode cL_law 212 = .ok (.iaload, 1) := by decide +kernel
theorem dL_law_213 : decode cL_law 213 = .ok (.i2l, 1) := by decide +kernel
theorem dL_law_214 : decode cL_law 214 = .ok (.ldc2_w 13, 3) := by decide +kernel
theorem dL_law_217 : decode cL_law 217 = .ok (.land, 1) := by decide +kernel
theorem dL_law_218 : decode cL_law 218 = .ok (.lor, 1) := by decide +kernel
theorem dL_law_219 : decode cL_law 219 = .ok (.invokevirtual 19, 3) := by decide +kernel
theorem dL_law_222 : decode cL_law 222 = .ok (.if_icmp .eq 660, 3) := by decide +kernel
theorem dL_law_225 : decode cL_law 225 = .ok (.iconst 0, 1) := by decide +kernel
theorem dL_law_226 : decode cL_law 226 = .ok (.ireturn, 1) := by decide +kernel
theorem dL_law_227 : decode cL_law 227 = .ok (.aload_n 1, 1) := by decide +kernel
theorem dL_law_228 : decode cL_law 228 = .ok (.invokevirtual 20, 3) := by decide +kernel
theorem dL_law_231 : decode cL_law 231 = .ok (.aload_n 2, 1) := by decide +kernel
theorem dL_law_232 : decode cL_law 232 = .ok (.invokevirtual 24, 3) := by decide +kernel
theorem dL_law_235 : decode cL_law 235 = .ok (.if_icmp .eq 647, 3) := by decide +kernel
theorem dL_law_238 : decode cL_law 238 = .ok (.iconst 0, 1) := by decide +kernel
theorem dL_law_239 : decode cL_law 239 = .ok (.ireturn, 1) := by decide +kernel
theorem dL_law_240 : decode cL_law 240 = .ok (.aload_n 1, 1) := by decide +kernel
theorem dL_law_241 : decode cL_law 241 = .ok (.invokevirtual 25, 3) := by decide +kernel
theorem dL_law_244 : decode cL_law 244 = .ok (.aload_n 2, 1) := by decide +kernel
theorem dL_law_245 : decode cL_law 245 = .ok (.invokevirtual 28, 3) := by decide +kernel
theorem dL_law_248 : decode cL_law 248 = .ok (.if_icmp .eq 634, 3) := by decide +kernel
theorem dL_law_251 : decode cL_law 251 = .ok (.iconst 0, 1) := by decide +kernel
theorem dL_law_252 : decode cL_law 252 = .ok (.ireturn, 1) := by decide +kernel
theorem dL_law_253 : decode cL_law 253 = .ok (.aload_n 1, 1) := by decide +kernel
theorem dL_law_254 : decode cL_law 254 = .ok (.invokevirtual 29, 3) := by decide +kernel
theorem dL_law_257 : decode cL_law 257 = .ok (.aload_n 2, 1) := by decide +kernel
theorem dL_law_258 : decode cL_law 258 = .ok (.invokevirtual 32, 3) := by decide +kernel
theorem dL_law_261 : decode cL_law 261 = .ok (.if_icmp .eq 621, 3) := by decide +kernel
theorem dL_law_264 : decode cL_law 264 = .ok (.iconst 0, 1) := by decide +kernel
theorem dL_law_265 : decode cL_law 265 = .ok (.ireturn, 1) := by decide +kernel
theorem dL_law_266 : decode cL_law 266 = .ok (.aload_n 1, 1) := by decide +kernel
theorem dL_law_267 : decode cL_law 267 = .ok (.aload_n 0, 1) := by decide +kernel
theorem dL_law_268 : decode cL_law 268 = .ok (.iload_n 3, 1) := by decide +kernel
theorem dL_law_269 : decode cL_law 269 = .ok (.iconst 1, 1) := by decide +kernel
theorem dL_law_270 : decode cL_law 270 = .ok (.iadd, 1) := by decide +kernel
theorem dL_law_271 : decode cL_law 271 = .ok (.iaload, 1) := by decide +kernel
theorem dL_law_272 : decode cL_law 272 = .ok (.aload_n 0, 1) := by decide +kernel
theorem dL_law_273 : decode cL_law 273 = .ok (.iload_n 3, 1) := by decide +kernel
theorem dL_law_274 : decode cL_law 274 = .ok (.iconst 2, 1) := by decide +kernel
theorem dL_law_275 : decode cL_law 275 = .ok (.iadd, 1) := by decide +kernel
theorem dL_law_276 : decode cL_law 276 = .ok (.iaload, 1) := by decide +kernel
theorem dL_law_277 : decode cL_law 277 = .ok (.invokevirtual 33, 3) := by decide +kernel
theorem dL_law_280 : decode cL_law 280 = .ok (.aload_n 2, 1) := by decide +kernel
theorem dL_law_281 : decode cL_law 281 = .ok (.aload_n 0, 1) := by decide +kernel
theorem dL_law_282 : decode cL_law 282 = .ok (.iload_n 3, 1) := by decide +kernel
theorem dL_law_283 : decode cL_law 283 = .ok (.iconst 1, 1) := by decide +kernel
theorem dL_law_284 : decode cL_law 284 = .ok (.iadd, 1) := by decide +kernel
theorem dL_law_285 : decode cL_law 285 = .ok (.iaload, 1) := by decide +kernel
theorem dL_law_286 : decode cL_law 286 = .ok (.aload_n 0, 1) := by decide +kernel
theorem dL_law_287 : decode cL_law 287 = .ok (.iload_n 3, 1) := by decide +kernel
theorem dL_law_288 : decode cL_law 288 = .ok (.iconst 2, 1) := by decide +kernel
theorem dL_law_289 : decode cL_law 289 = .ok (.iadd, 1) := by decide +kernel
theorem dL_law_290 : decode cL_law 290 = .ok (.iaload, 1) := by decide +kernel
theorem dL_law_291 : decode cL_law 291 = .ok (.invokevirtual 37, 3) := by decide +kernel
theorem dL_law_294 : decode cL_law 294 = .ok (.if_icmp .eq 588, 3) := by decide +kernel
theorem dL_law_297 : decode cL_law 297 = .ok (.iconst 0, 1) := by decide +kernel
theorem dL_law_298 : decode cL_law 298 = .ok (.ireturn, 1) := by decide +kernel
theorem dL_law_299 : decode cL_law 299 = .ok (.aload_n 1, 1) := by decide +kernel
theorem dL_law_300 : decode cL_law 300 = .ok (.invokevirtual 38, 3) := by decide +kernel
theorem dL_law_303 : decode cL_law 303 = .ok (.aload_n 2, 1) := by decide +kernel
theorem dL_law_304 : decode cL_law 304 = .ok (.invokevirtual 41, 3) := by decide +kernel
theorem dL_law_307 : decode cL_law 307 = .ok (.if_icmp .eq 575, 3) := by decide +kernel
theorem dL_law_310 : decode cL_law 310 = .ok (.iconst 0, 1) := by decide +kernel
theorem dL_law_311 : decode cL_law 311 = .ok (.ireturn, 1) := by decide +kernel
theorem dL_law_312 : decode cL_law 312 = .ok (.aload_n 1, 1) := by decide +kernel
theorem dL_law_313 : decode cL_law 313 = .ok (.aload_n 0, 1) := by decide +kernel
theorem dL_law_314 : decode cL_law 314 = .ok (.iload_n 3, 1) := by decide +kernel
theorem dL_law_315 : decode cL_law 315 = .ok (.iconst 1, 1) := by decide +kernel
theorem dL_law_316 : decode cL_law 316 = .ok (.iadd, 1) := by decide +kernel
theorem dL_law_317 : decode cL_law 317 = .ok (.iaload, 1) := by decide +kernel
theorem dL_law_318 : decode cL_law 318 = .ok (.aload_n 0, 1) := by decide +kernel
theorem dL_law_319 : decode cL_law 319 = .ok (.iload_n 3, 1) := by decide +kernel
theorem dL_law_320 : decode cL_law 320 = .ok (.iconst 2, 1) := by decide +kernel
theorem dL_law_321 : decode cL_law 321 = .ok (.iadd, 1) := by decide +kernel
theorem dL_law_322 : decode cL_law 322 = .ok (.iaload, 1) := by decide +kernel
theorem dL_law_323 : decode cL_law 323 = .ok (.invokevirtual 42, 3) := by decide +kernel
theorem dL_law_326 : decode cL_law 326 = .ok (.aload_n 2, 1) := by decide +kernel
theorem dL_law_327 : decode cL_law 327 = .ok (.aload_n 0, 1) := by decide +kernel
theorem dL_law_328 : decode cL_law 328 = .ok (.iload_n 3, 1) := by decide +kernel
theorem dL_law_329 : decode cL_law 329 = .ok (.iconst 1, 1) := by decide +kernel
theorem dL_law_330 : decode cL_law 330 = .ok (.iadd, 1) := by decide +kernel
theorem dL_law_331 : decode cL_law 331 = .ok (.iaload, 1) := by decide +kernel
theorem dL_law_332 : decode cL_law 332 = .ok (.aload_n 0, 1) := by decide +kernel
theorem dL_law_333 : decode cL_law 333 = .ok (.iload_n 3, 1) := by decide +kernel
theorem dL_law_334 : decode cL_law 334 = .ok (.iconst 2, 1) := by decide +kernel
theorem dL_law_335 : decode cL_law 335 = .ok (.iadd, 1) := by decide +kernel
theorem dL_law_336 : decode cL_law 336 = .ok (.iaload, 1) := by decide +kernel
theorem dL_law_337 : decode cL_law 337 = .ok (.invokevirtual 45, 3) := by decide +kernel
theorem dL_law_340 : decode cL_law 340 = .ok (.if_icmp .eq 542, 3) := by decide +kernel
theorem dL_law_343 : decode cL_law 343 = .ok (.iconst 0, 1) := by decide +kernel
theorem dL_law_344 : decode cL_law 344 = .ok (.ireturn, 1) := by decide +kernel
theorem dL_law_345 : decode cL_law 345 = .ok (.aload_n 1, 1) := by decide +kernel
theorem dL_law_346 : decode cL_law 346 = .ok (.invokevirtual 46, 3) := by decide +kernel
theorem dL_law_349 : decode cL_law 349 = .ok (.aload_n 2, 1) := by decide +kernel
theorem dL_law_350 : decode cL_law 350 = .ok (.invokevirtual 49, 3) := by decide +kernel
theorem dL_law_353 : decode cL_law 353 = .ok (.if_icmp .eq 529, 3) := by decide +kernel
theorem dL_law_356 : decode cL_law 356 = .ok (.iconst 0, 1) := by decide +kernel
theorem dL_law_357 : decode cL_law 357 = .ok (.ireturn, 1) := by decide +kernel
theorem dL_law_358 : decode cL_law 358 = .ok (.aload_n 1, 1) := by decide +kernel
theorem dL_law_359 : decode cL_law 359 = .ok (.aload_n 0, 1) := by decide +kernel
theorem dL_law_360 : decode cL_law 360 = .ok (.iload_n 3, 1) := by decide +kernel
theorem dL_law_361 : decode cL_law 361 = .ok (.iconst 1, 1) := by decide +kernel
theorem dL_law_362 : decode cL_law 362 = .ok (.iadd, 1) := by decide +kernel
theorem dL_law_363 : decode cL_law 363 = .ok (.iaload, 1) := by decide +kernel
theorem dL_law_364 : decode cL_law 364 = .ok (.invokevirtual 50, 3) := by decide +kernel
theorem dL_law_367 : decode cL_law 367 = .ok (.aload_n 2, 1) := by decide +kernel
theorem dL_law_368 : decode cL_law 368 = .ok (.aload_n 0, 1) := by decide +kernel
theorem dL_law_369 : decode cL_law 369 = .ok (.iload_n 3, 1) := by decide +kernel
theorem dL_law_370 : decode cL_law 370 = .ok (.iconst 1, 1) := by decide +kernel
theorem dL_law_371 : decode cL_law 371 = .ok (.iadd, 1) := by decide +kernel
theorem dL_law_372 : decode cL_law 372 = .ok (.iaload, 1) := by decide +kernel
theorem dL_law_373 : decode cL_law 373 = .ok (.invokevirtual 54, 3) := by decide +kernel
theorem dL_law_376 : decode cL_law 376 = .ok (.if_icmp .eq 506, 3) := by decide +kernel
theorem dL_law_379 : decode cL_law 379 = .ok (.iconst 0, 1) := by decide +kernel
theorem dL_law_380 : decode cL_law 380 = .ok (.ireturn, 1) := by decide +kernel
theorem dL_law_381 : decode cL_law 381 = .ok (.aload_n 1, 1) := by decide +kernel
theorem dL_law_382 : decode cL_law 382 = .ok (.aload_n 0, 1) := by decide +kernel
theorem dL_law_383 : decode cL_law 383 = .ok (.iload_n 3, 1) := by decide +kernel
theorem dL_law_384 : decode cL_law 384 = .ok (.iconst 1, 1) := by decide +kernel
theorem dL_law_385 : decode cL_law 385 = .ok (.iadd, 1) := by decide +kernel
theorem dL_law_386 : decode cL_law 386 = .ok (.iaload, 1) := by decide +kernel
theorem dL_law_387 : decode cL_law 387 = .ok (.aload_n 0, 1) := by decide +kernel
theorem dL_law_388 : decode cL_law 388 = .ok (.iload_n 3, 1) := by decide +kernel
theorem dL_law_389 : decode cL_law 389 = .ok (.iconst 2, 1) := by decide +kernel
theorem dL_law_390 : decode cL_law 390 = .ok (.iadd, 1) := by decide +kernel
theorem dL_law_391 : decode cL_law 391 = .ok (.iaload, 1) := by decide +kernel
theorem dL_law_392 : decode cL_law 392 = .ok (.invokevirtual 55, 3) := by decide +kernel
theorem dL_law_395 : decode cL_law 395 = .ok (.aload_n 2, 1) := by decide +kernel
theorem dL_law_396 : decode cL_law 396 = .ok (.aload_n 0, 1) := by decide +kernel
theorem dL_law_397 : decode cL_law 397 = .ok (.iload_n 3, 1) := by decide +kernel
theorem dL_law_398 : decode cL_law 398 = .ok (.iconst 1, 1) := by decide +kernel
theorem dL_law_399 : decode cL_law 399 = .ok (.iadd, 1) := by decide +kernel
theorem dL_law_400 : decode cL_law 400 = .ok (.iaload, 1) := by decide +kernel
theorem dL_law_401 : decode cL_law 401 = .ok (.aload_n 0, 1) := by decide +kernel
theorem dL_law_402 : decode cL_law 402 = .ok (.iload_n 3, 1) := by decide +kernel
theorem dL_law_403 : decode cL_law 403 = .ok (.iconst 2, 1) := by decide +kernel
theorem dL_law_404 : decode cL_law 404 = .ok (.iadd, 1) := by decide +kernel
theorem dL_law_405 : decode cL_law 405 = .ok (.iaload, 1) := by decide +kernel
theorem dL_law_406 : decode cL_law 406 = .ok (.invokevirtual 58, 3) := by decide +kernel
theorem dL_law_409 : decode cL_law 409 = .ok (.if_icmp .eq 473, 3) := by decide +kernel
theorem dL_law_412 : decode cL_law 412 = .ok (.iconst 0, 1) := by decide +kernel
theorem dL_law_413 : decode cL_law 413 = .ok (.ireturn, 1) := by decide +kernel
theorem dL_law_414 : decode cL_law 414 = .ok (.aload_n 1, 1) := by decide +kernel
theorem dL_law_415 : decode cL_law 415 = .ok (.aload_n 0, 1) := by decide +kernel
theorem dL_law_416 : decode cL_law 416 = .ok (.iload_n 3, 1) := by decide +kernel
theorem dL_law_417 : decode cL_law 417 = .ok (.iconst 1, 1) := by decide +kernel
theorem dL_law_418 : decode cL_law 418 = .ok (.iadd, 1) := by decide +kernel
theorem dL_law_419 : decode cL_law 419 = .ok (.iaload, 1) := by decide +kernel
theorem dL_law_420 : decode cL_law 420 = .ok (.aload_n 0, 1) := by decide +kernel
theorem dL_law_421 : decode cL_law 421 = .ok (.iload_n 3, 1) := by decide +kernel
theorem dL_law_422 : decode cL_law 422 = .ok (.iconst 2, 1) := by decide +kernel
theorem dL_law_423 : decode cL_law 423 = .ok (.iadd, 1) := by decide +kernel
theorem dL_law_424 : decode cL_law 424 = .ok (.iaload, 1) := by decide +kernel
theorem dL_law_425 : decode cL_law 425 = .ok (.invokevirtual 59, 3) := by decide +kernel
theorem dL_law_428 : decode cL_law 428 = .ok (.aload_n 2, 1) := by decide +kernel
theorem dL_law_429 : decode cL_law 429 = .ok (.aload_n 0, 1) := by decide +kernel
theorem dL_law_430 : decode cL_law 430 = .ok (.iload_n 3, 1) := by decide +kernel
theorem dL_law_431 : decode cL_law 431 = .ok (.iconst 1, 1) := by decide +kernel
theorem dL_law_432 : decode cL_law 432 = .ok (.iadd, 1) := by decide +kernel
theorem dL_law_433 : decode cL_law 433 = .ok (.iaload, 1) := by decide +kernel
theorem dL_law_434 : decode cL_law 434 = .ok (.aload_n 0, 1) := by decide +kernel
theorem dL_law_435 : decode cL_law 435 = .ok (.iload_n 3, 1) := by decide +kernel
theorem dL_law_436 : decode cL_law 436 = .ok (.iconst 2, 1) := by decide +kernel
theorem dL_law_437 : decode cL_law 437 = .ok (.iadd, 1) := by decide +kernel
theorem dL_law_438 : decode cL_law 438 = .ok (.iaload, 1) := by decide +kernel
theorem dL_law_439 : decode cL_law 439 = .ok (.invokevirtual 62, 3) := by decide +kernel
theorem dL_law_442 : decode cL_law 442 = .ok (.if_icmp .eq 440, 3) := by decide +kernel
theorem dL_law_445 : decode cL_law 445 = .ok (.iconst 0, 1) := by decide +kernel
theorem dL_law_446 : decode cL_law 446 = .ok (.ireturn, 1) := by decide +kernel
theorem dL_law_447 : decode cL_law 447 = .ok (.aload_n 1, 1) := by decide +kernel
theorem dL_law_448 : decode cL_law 448 = .ok (.invokevirtual 63, 3) := by decide +kernel
theorem dL_law_451 : decode cL_law 451 = .ok (.aload_n 2, 1) := by decide +kernel
theorem dL_law_452 : decode cL_law 452 = .ok (.invokevirtual 66, 3) := by decide +kernel
theorem dL_law_455 : decode cL_law 455 = .ok (.if_icmp .eq 427, 3) := by decide +kernel
theorem dL_law_458 : decode cL_law 458 = .ok (.iconst 0, 1) := by decide +kernel
theorem dL_law_459 : decode cL_law 459 = .ok (.ireturn, 1) := by decide +kernel
theorem dL_law_460 : decode cL_law 460 = .ok (.aload_n 1, 1) := by decide +kernel
theorem dL_law_461 : decode cL_law 461 = .ok (.aload_n 0, 1) := by decide +kernel
theorem dL_law_462 : decode cL_law 462 = .ok (.iload_n 3, 1) := by decide +kernel
theorem dL_law_463 : decode cL_law 463 = .ok (.iconst 1, 1) := by decide +kernel
theorem dL_law_464 : decode cL_law 464 = .ok (.iadd, 1) := by decide +kernel
theorem dL_law_465 : decode cL_law 465 = .ok (.iaload, 1) := by decide +kernel
theorem dL_law_466 : decode cL_law 466 = .ok (.aload_n 0, 1) := by decide +kernel
theorem dL_law_467 : decode cL_law 467 = .ok (.iload_n 3, 1) := by decide +kernel
theorem dL_law_468 : decode cL_law 468 = .ok (.iconst 2, 1) := by decide +kernel
theorem dL_law_469 : decode cL_law 469 = .ok (.iadd, 1) := by decide +kernel
theorem dL_law_470 : decode cL_law 470 = .ok (.iaload, 1) := by decide +kernel
theorem dL_law_471 : decode cL_law 471 = .ok (.invokevirtual 67, 3) := by decide +kernel
theorem dL_law_474 : decode cL_law 474 = .ok (.aload_n 2, 1) := by decide +kernel
theorem dL_law_475 : decode cL_law 475 = .ok (.aload_n 0, 1) := by decide +kernel
theorem dL_law_476 : decode cL_law 476 = .ok (.iload_n 3, 1) := by decide +kernel
theorem dL_law_477 : decode cL_law 477 = .ok (.iconst 1, 1) := by decide +kernel
theorem dL_law_478 : decode cL_law 478 = .ok (.iadd, 1) := by decide +kernel
theorem dL_law_479 : decode cL_law 479 = .ok (.iaload, 1) := by decide +kernel
theorem dL_law_480 : decode cL_law 480 = .ok (.aload_n 0, 1) := by decide +kernel
theorem dL_law_481 : decode cL_law 481 = .ok (.iload_n 3, 1) := by decide +kernel
theorem dL_law_482 : decode cL_law 482 = .ok (.iconst 2, 1) := by decide +kernel
theorem dL_law_483 : decode cL_law 483 = .ok (.iadd, 1) := by decide +kernel
theorem dL_law_484 : decode cL_law 484 = .ok (.iaload, 1) := by decide +kernel
theorem dL_law_485 : decode cL_law 485 = .ok (.invokevirtual 70, 3) := by decide +kernel
theorem dL_law_488 : decode cL_law 488 = .ok (.if_icmp .eq 394, 3) := by decide +kernel
theorem dL_law_491 : decode cL_law 491 = .ok (.iconst 0, 1) := by decide +kernel
theorem dL_law_492 : decode cL_law 492 = .ok (.ireturn, 1) := by decide +kernel
theorem dL_law_493 : decode cL_law 493 = .ok (.aload_n 1, 1) := by decide +kernel
theorem dL_law_494 : decode cL_law 494 = .ok (.aload_n 0, 1) := by decide +kernel
theorem dL_law_495 : decode cL_law 495 = .ok (.iload_n 3, 1) := by decide +kernel
theorem dL_law_496 : decode cL_law 496 = .ok (.iconst 1, 1) := by decide +kernel
theorem dL_law_497 : decode cL_law 497 = .ok (.iadd, 1) := by decide +kernel
theorem dL_law_498 : decode cL_law 498 = .ok (.iaload, 1) := by decide +kernel
theorem dL_law_499 : decode cL_law 499 = .ok (.aload_n 0, 1) := by decide +kernel
theorem dL_law_500 : decode cL_law 500 = .ok (.iload_n 3, 1) := by decide +kernel
theorem dL_law_501 : decode cL_law 501 = .ok (.iconst 2, 1) := by decide +kernel
theorem dL_law_502 : decode cL_law 502 = .ok (.iadd, 1) := by decide +kernel
theorem dL_law_503 : decode cL_law 503 = .ok (.iaload, 1) := by decide +kernel
theorem dL_law_504 : decode cL_law 504 = .ok (.aload_n 0, 1) := by decide +kernel
theorem dL_law_505 : decode cL_law 505 = .ok (.iload_n 3, 1) := by decide +kernel
theorem dL_law_506 : decode cL_law 506 = .ok (.iconst 3, 1) := by decide +kernel
theorem dL_law_507 : decode cL_law 507 = .ok (.iadd, 1) := by decide +kernel
theorem dL_law_508 : decode cL_law 508 = .ok (.iaload, 1) := by decide +kernel
theorem dL_law_509 : decode cL_law 509 = .ok (.invokevirtual 71, 3) := by decide +kernel
theorem dL_law_512 : decode cL_law 512 = .ok (.aload_n 2, 1) := by decide +kernel
theorem dL_law_513 : decode cL_law 513 = .ok (.aload_n 0, 1) := by decide +kernel
theorem dL_law_514 : decode cL_law 514 = .ok (.iload_n 3, 1) := by decide +kernel
theorem dL_law_515 : decode cL_law 515 = .ok (.iconst 1, 1) := by decide +kernel
theorem dL_law_516 : decode cL_law 516 = .ok (.iadd, 1) := by decide +kernel
theorem dL_law_517 : decode cL_law 517 = .ok (.iaload, 1) := by decide +kernel
theorem dL_law_518 : decode cL_law 518 = .ok (.aload_n 0, 1) := by decide +kernel
theorem dL_law_519 : decode cL_law 519 = .ok (.iload_n 3, 1) := by decide +kernel
theorem dL_law_520 : decode cL_law 520 = .ok (.iconst 2, 1) := by decide +kernel
theorem dL_law_521 : decode cL_law 521 = .ok (.iadd, 1) := by decide +kernel
theorem dL_law_522 : decode cL_law 522 = .ok (.iaload, 1) := by decide +kernel
theorem dL_law_523 : decode cL_law 523 = .ok (.aload_n 0, 1) := by decide +kernel
theorem dL_law_524 : decode cL_law 524 = .ok (.iload_n 3, 1) := by decide +kernel
theorem dL_law_525 : decode cL_law 525 = .ok (.iconst 3, 1) := by decide +kernel
theorem dL_law_526 : decode cL_law 526 = .ok (.iadd, 1) := by decide +kernel
theorem dL_law_527 : decode cL_law 527 = .ok (.iaload, 1) := by decide +kernel
theorem dL_law_528 : decode cL_law 528 = .ok (.invokevirtual 75, 3) := by decide +kernel
theorem dL_law_531 : decode cL_law 531 = .ok (.if_icmp .eq 351, 3) := by decide +kernel
theorem dL_law_534 : decode cL_law 534 = .ok (.iconst 0, 1) := by decide +kernel
theorem dL_law_535 : decode cL_law 535 = .ok (.ireturn, 1) := by decide +kernel
theorem dL_law_536 : decode cL_law 536 = .ok (.aload_n 1, 1) := by decide +kernel
theorem dL_law_537 : decode cL_law 537 = .ok (.aload_n 0, 1) := by decide +kernel
theorem dL_law_538 : decode cL_law 538 = .ok (.iload_n 3, 1) := by decide +kernel
theorem dL_law_539 : decode cL_law 539 = .ok (.iconst 1, 1) := by decide +kernel
theorem dL_law_540 : decode cL_law 540 = .ok (.iadd, 1) := by decide +kernel
theorem dL_law_541 : decode cL_law 541 = .ok (.iaload, 1) := by decide +kernel
theorem dL_law_542 : decode cL_law 542 = .ok (.aload_n 0, 1) := by decide +kernel
theorem dL_law_543 : decode cL_law 543 = .ok (.iload_n 3, 1) := by decide +kernel
theorem dL_law_544 : decode cL_law 544 = .ok (.iconst 2, 1) := by decide +kernel
theorem dL_law_545 : decode cL_law 545 = .ok (.iadd, 1) := by decide +kernel
theorem dL_law_546 : decode cL_law 546 = .ok (.iaload, 1) := by decide +kernel
theorem dL_law_547 : decode cL_law 547 = .ok (.aload_n 0, 1) := by decide +kernel
theorem dL_law_548 : decode cL_law 548 = .ok (.iload_n 3, 1) := by decide +kernel
theorem dL_law_549 : decode cL_law 549 = .ok (.iconst 3, 1) := by decide +kernel
theorem dL_law_550 : decode cL_law 550 = .ok (.iadd, 1) := by decide +kernel
theorem dL_law_551 : decode cL_law 551 = .ok (.iaload, 1) := by decide +kernel
theorem dL_law_552 : decode cL_law 552 = .ok (.aload_n 0, 1) := by decide +kernel
theorem dL_law_553 : decode cL_law 553 = .ok (.iload_n 3, 1) := by decide +kernel
theorem dL_law_554 : decode cL_law 554 = .ok (.iconst 4, 1) := by decide +kernel
theorem dL_law_555 : decode cL_law 555 = .ok (.iadd, 1) := by decide +kernel
theorem dL_law_556 : decode cL_law 556 = .ok (.iaload, 1) := by decide +kernel
theorem dL_law_557 : decode cL_law 557 = .ok (.invokevirtual 76, 3) := by decide +kernel
theorem dL_law_560 : decode cL_law 560 = .ok (.aload_n 2, 1) := by decide +kernel
theorem dL_law_561 : decode cL_law 561 = .ok (.aload_n 0, 1) := by decide +kernel
theorem dL_law_562 : decode cL_law 562 = .ok (.iload_n 3, 1) := by decide +kernel
theorem dL_law_563 : decode cL_law 563 = .ok (.iconst 1, 1) := by decide +kernel
theorem dL_law_564 : decode cL_law 564 = .ok (.iadd, 1) := by decide +kernel
theorem dL_law_565 : decode cL_law 565 = .ok (.iaload, 1) := by decide +kernel
theorem dL_law_566 : decode cL_law 566 = .ok (.aload_n 0, 1) := by decide +kernel
theorem dL_law_567 : decode cL_law 567 = .ok (.iload_n 3, 1) := by decide +kernel
theorem dL_law_568 : decode cL_law 568 = .ok (.iconst 2, 1) := by decide +kernel
theorem dL_law_569 : decode cL_law 569 = .ok (.iadd, 1) := by decide +kernel
theorem dL_law_570 : decode cL_law 570 = .ok (.iaload, 1) := by decide +kernel
theorem dL_law_571 : decode cL_law 571 = .ok (.aload_n 0, 1) := by decide +kernel
theorem dL_law_572 : decode cL_law 572 = .ok (.iload_n 3, 1) := by decide +kernel
theorem dL_law_573 : decode cL_law 573 = .ok (.iconst 3, 1) := by decide +kernel
theorem dL_law_574 : decode cL_law 574 = .ok (.iadd, 1) := by decide +kernel
theorem dL_law_575 : decode cL_law 575 = .ok (.iaload, 1) := by decide +kernel
theorem dL_law_576 : decode cL_law 576 = .ok (.aload_n 0, 1) := by decide +kernel
theorem dL_law_577 : decode cL_law 577 = .ok (.iload_n 3, 1) := by decide +kernel
theorem dL_law_578 : decode cL_law 578 = .ok (.iconst 4, 1) := by decide +kernel
theorem dL_law_579 : decode cL_law 579 = .ok (.iadd, 1) := by decide +kernel
theorem dL_law_580 : decode cL_law 580 = .ok (.iaload, 1) := by decide +kernel
theorem dL_law_581 : decode cL_law 581 = .ok (.invokevirtual 80, 3) := by decide +kernel
theorem dL_law_584 : decode cL_law 584 = .ok (.if_icmp .eq 298, 3) := by decide +kernel
theorem dL_law_587 : decode cL_law 587 = .ok (.iconst 0, 1) := by decide +kernel
theorem dL_law_588 : decode cL_law 588 = .ok (.ireturn, 1) := by decide +kernel
theorem dL_law_589 : decode cL_law 589 = .ok (.aload_n 1, 1) := by decide +kernel
theorem dL_law_590 : decode cL_law 590 = .ok (.aload_n 0, 1) := by decide +kernel
theorem dL_law_591 : decode cL_law 591 = .ok (.iload_n 3, 1) := by decide +kernel
theorem dL_law_592 : decode cL_law 592 = .ok (.iconst 1, 1) := by decide +kernel
theorem dL_law_593 : decode cL_law 593 = .ok (.iadd, 1) := by decide +kernel
theorem dL_law_594 : decode cL_law 594 = .ok (.iaload, 1) := by decide +kernel
theorem dL_law_595 : decode cL_law 595 = .ok (.aload_n 0, 1) := by decide +kernel
theorem dL_law_596 : decode cL_law 596 = .ok (.iload_n 3, 1) := by decide +kernel
theorem dL_law_597 : decode cL_law 597 = .ok (.iconst 2, 1) := by decide +kernel
theorem dL_law_598 : decode cL_law 598 = .ok (.iadd, 1) := by decide +kernel
theorem dL_law_599 : decode cL_law 599 = .ok (.iaload, 1) := by decide +kernel
theorem dL_law_600 : decode cL_law 600 = .ok (.invokevirtual 81, 3) := by decide +kernel
theorem dL_law_603 : decode cL_law 603 = .ok (.aload_n 2, 1) := by decide +kernel
theorem dL_law_604 : decode cL_law 604 = .ok (.aload_n 0, 1) := by decide +kernel
theorem dL_law_605 : decode cL_law 605 = .ok (.iload_n 3, 1) := by decide +kernel
theorem dL_law_606 : decode cL_law 606 = .ok (.iconst 1, 1) := by decide +kernel
theorem dL_law_607 : decode cL_law 607 = .ok (.iadd, 1) := by decide +kernel
theorem dL_law_608 : decode cL_law 608 = .ok (.iaload, 1) := by decide +kernel
theorem dL_law_609 : decode cL_law 609 = .ok (.aload_n 0, 1) := by decide +kernel
theorem dL_law_610 : decode cL_law 610 = .ok (.iload_n 3, 1) := by decide +kernel
theorem dL_law_611 : decode cL_law 611 = .ok (.iconst 2, 1) := by decide +kernel
theorem dL_law_612 : decode cL_law 612 = .ok (.iadd, 1) := by decide +kernel
theorem dL_law_613 : decode cL_law 613 = .ok (.iaload, 1) := by decide +kernel
theorem dL_law_614 : decode cL_law 614 = .ok (.invokevirtual 84, 3) := by decide +kernel
theorem dL_law_617 : decode cL_law 617 = .ok (.if_icmp .eq 265, 3) := by decide +kernel
theorem dL_law_620 : decode cL_law 620 = .ok (.iconst 0, 1) := by decide +kernel
theorem dL_law_621 : decode cL_law 621 = .ok (.ireturn, 1) := by decide +kernel
theorem dL_law_622 : decode cL_law 622 = .ok (.aload_n 1, 1) := by decide +kernel
theorem dL_law_623 : decode cL_law 623 = .ok (.aload_n 0, 1) := by decide +kernel
theorem dL_law_624 : decode cL_law 624 = .ok (.iload_n 3, 1) := by decide +kernel
theorem dL_law_625 : decode cL_law 625 = .ok (.iconst 1, 1) := by decide +kernel
theorem dL_law_626 : decode cL_law 626 = .ok (.iadd, 1) := by decide +kernel
theorem dL_law_627 : decode cL_law 627 = .ok (.iaload, 1) := by decide +kernel
theorem dL_law_628 : decode cL_law 628 = .ok (.invokevirtual 85, 3) := by decide +kernel
theorem dL_law_631 : decode cL_law 631 = .ok (.aload_n 2, 1) := by decide +kernel
theorem dL_law_632 : decode cL_law 632 = .ok (.aload_n 0, 1) := by decide +kernel
theorem dL_law_633 : decode cL_law 633 = .ok (.iload_n 3, 1) := by decide +kernel
theorem dL_law_634 : decode cL_law 634 = .ok (.iconst 1, 1) := by decide +kernel
theorem dL_law_635 : decode cL_law 635 = .ok (.iadd, 1) := by decide +kernel
theorem dL_law_636 : decode cL_law 636 = .ok (.iaload, 1) := by decide +kernel
theorem dL_law_637 : decode cL_law 637 = .ok (.invokevirtual 88, 3) := by decide +kernel
theorem dL_law_640 : decode cL_law 640 = .ok (.if_icmp .eq 242, 3) := by decide +kernel
theorem dL_law_643 : decode cL_law 643 = .ok (.iconst 0, 1) := by decide +kernel
theorem dL_law_644 : decode cL_law 644 = .ok (.ireturn, 1) := by decide +kernel
theorem dL_law_645 : decode cL_law 645 = .ok (.aload_n 1, 1) := by decide +kernel
theorem dL_law_646 : decode cL_law 646 = .ok (.invokevirtual 89, 3) := by decide +kernel
theorem dL_law_649 : decode cL_law 649 = .ok (.aload_n 2, 1) := by decide +kernel
theorem dL_law_650 : decode cL_law 650 = .ok (.invokevirtual 92, 3) := by decide +kernel
theorem dL_law_653 : decode cL_law 653 = .ok (.if_icmp .eq 229, 3) := by decide +kernel
theorem dL_law_656 : decode cL_law 656 = .ok (.iconst 0, 1) := by decide +kernel
theorem dL_law_657 : decode cL_law 657 = .ok (.ireturn, 1) := by decide +kernel
theorem dL_law_658 : decode cL_law 658 = .ok (.aload_n 1, 1) := by decide +kernel
theorem dL_law_659 : decode cL_law 659 = .ok (.invokevirtual 93, 3) := by decide +kernel
theorem dL_law_662 : decode cL_law 662 = .ok (.aload_n 2, 1) := by decide +kernel
theorem dL_law_663 : decode cL_law 663 = .ok (.invokevirtual 96, 3) := by decide +kernel
theorem dL_law_666 : decode cL_law 666 = .ok (.if_icmp .eq 216, 3) := by decide +kernel
theorem dL_law_669 : decode cL_law 669 = .ok (.iconst 0, 1) := by decide +kernel
theorem dL_law_670 : decode cL_law 670 = .ok (.ireturn, 1) := by decide +kernel
theorem dL_law_671 : decode cL_law 671 = .ok (.aload_n 1, 1) := by decide +kernel
theorem dL_law_672 : decode cL_law 672 = .ok (.invokevirtual 97, 3) := by decide +kernel
theorem dL_law_675 : decode cL_law 675 = .ok (.aload_n 2, 1) := by decide +kernel
theorem dL_law_676 : decode cL_law 676 = .ok (.invokevirtual 100, 3) := by decide +kernel
theorem dL_law_679 : decode cL_law 679 = .ok (.if_icmp .eq 203, 3) := by decide +kernel
theorem dL_law_682 : decode cL_law 682 = .ok (.iconst 0, 1) := by decide +kernel
theorem dL_law_683 : decode cL_law 683 = .ok (.ireturn, 1) := by decide +kernel
theorem dL_law_684 : decode cL_law 684 = .ok (.aload_n 1, 1) := by decide +kernel
theorem dL_law_685 : decode cL_law 685 = .ok (.aload_n 0, 1) := by decide +kernel
theorem dL_law_686 : decode cL_law 686 = .ok (.iload_n 3, 1) := by decide +kernel
theorem dL_law_687 : decode cL_law 687 = .ok (.iconst 1, 1) := by decide +kernel
theorem dL_law_688 : decode cL_law 688 = .ok (.iadd, 1) := by decide +kernel
theorem dL_law_689 : decode cL_law 689 = .ok (.iaload, 1) := by decide +kernel
theorem dL_law_690 : decode cL_law 690 = .ok (.invokevirtual 101, 3) := by decide +kernel
theorem dL_law_693 : decode cL_law 693 = .ok (.aload_n 2, 1) := by decide +kernel
theorem dL_law_694 : decode cL_law 694 = .ok (.aload_n 0, 1) := by decide +kernel
theorem dL_law_695 : decode cL_law 695 = .ok (.iload_n 3, 1) := by decide +kernel
theorem dL_law_696 : decode cL_law 696 = .ok (.iconst 1, 1) := by decide +kernel
theorem dL_law_697 : decode cL_law 697 = .ok (.iadd, 1) := by decide +kernel
theorem dL_law_698 : decode cL_law 698 = .ok (.iaload, 1) := by decide +kernel
theorem dL_law_699 : decode cL_law 699 = .ok (.invokevirtual 104, 3) := by decide +kernel
theorem dL_law_702 : decode cL_law 702 = .ok (.if_icmp .eq 180, 3) := by decide +kernel
theorem dL_law_705 : decode cL_law 705 = .ok (.iconst 0, 1) := by decide +kernel
theorem dL_law_706 : decode cL_law 706 = .ok (.ireturn, 1) := by decide +kernel
theorem dL_law_707 : decode cL_law 707 = .ok (.aload_n 1, 1) := by decide +kernel
theorem dL_law_708 : decode cL_law 708 = .ok (.aload_n 0, 1) := by decide +kernel
theorem dL_law_709 : decode cL_law 709 = .ok (.iload_n 3, 1) := by decide +kernel
theorem dL_law_710 : decode cL_law 710 = .ok (.iconst 1, 1) := by decide +kernel
theorem dL_law_711 : decode cL_law 711 = .ok (.iadd, 1) := by decide +kernel
theorem dL_law_712 : decode cL_law 712 = .ok (.iaload, 1) := by decide +kernel
theorem dL_law_713 : decode cL_law 713 = .ok (.aload_n 0, 1) := by decide +kernel
theorem dL_law_714 : decode cL_law 714 = .ok (.iload_n 3, 1) := by decide +kernel
theorem dL_law_715 : decode cL_law 715 = .ok (.iconst 2, 1) := by decide +kernel
theorem dL_law_716 : decode cL_law 716 = .ok (.iadd, 1) := by decide +kernel
theorem dL_law_717 : decode cL_law 717 = .ok (.iaload, 1) := by decide +kernel
theorem dL_law_718 : decode cL_law 718 = .ok (.invokevirtual 105, 3) := by decide +kernel
theorem dL_law_721 : decode cL_law 721 = .ok (.aload_n 2, 1) := by decide +kernel
theorem dL_law_722 : decode cL_law 722 = .ok (.aload_n 0, 1) := by decide +kernel
theorem dL_law_723 : decode cL_law 723 = .ok (.iload_n 3, 1) := by decide +kernel
theorem dL_law_724 : decode cL_law 724 = .ok (.iconst 1, 1) := by decide +kernel
theorem dL_law_725 : decode cL_law 725 = .ok (.iadd, 1) := by decide +kernel
theorem dL_law_726 : decode cL_law 726 = .ok (.iaload, 1) := by decide +kernel
theorem dL_law_727 : decode cL_law 727 = .ok (.aload_n 0, 1) := by decide +kernel
theorem dL_law_728 : decode cL_law 728 = .ok (.iload_n 3, 1) := by decide +kernel
theorem dL_law_729 : decode cL_law 729 = .ok (.iconst 2, 1) := by decide +kernel
theorem dL_law_730 : decode cL_law 730 = .ok (.iadd, 1) := by decide +kernel
theorem dL_law_731 : decode cL_law 731 = .ok (.iaload, 1) := by decide +kernel
theorem dL_law_732 : decode cL_law 732 = .ok (.invokevirtual 108, 3) := by decide +kernel
theorem dL_law_735 : decode cL_law 735 = .ok (.if_icmp .eq 147, 3) := by decide +kernel
theorem dL_law_738 : decode cL_law 738 = .ok (.iconst 0, 1) := by decide +kernel
theorem dL_law_739 : decode cL_law 739 = .ok (.ireturn, 1) := by decide +kernel
theorem dL_law_740 : decode cL_law 740 = .ok (.aload_n 1, 1) := by decide +kernel
theorem dL_law_741 : decode cL_law 741 = .ok (.aload_n 0, 1) := by decide +kernel
theorem dL_law_742 : decode cL_law 742 = .ok (.iload_n 3, 1) := by decide +kernel
theorem dL_law_743 : decode cL_law 743 = .ok (.iconst 1, 1) := by decide +kernel
theorem dL_law_744 : decode cL_law 744 = .ok (.iadd, 1) := by decide +kernel
theorem dL_law_745 : decode cL_law 745 = .ok (.iaload, 1) := by decide +kernel
theorem dL_law_746 : decode cL_law 746 = .ok (.invokevirtual 109, 3) := by decide +kernel
theorem dL_law_749 : decode cL_law 749 = .ok (.aload_n 2, 1) := by decide +kernel
theorem dL_law_750 : decode cL_law 750 = .ok (.aload_n 0, 1) := by decide +kernel
theorem dL_law_751 : decode cL_law 751 = .ok (.iload_n 3, 1) := by decide +kernel
theorem dL_law_752 : decode cL_law 752 = .ok (.iconst 1, 1) := by decide +kernel
theorem dL_law_753 : decode cL_law 753 = .ok (.iadd, 1) := by decide +kernel
theorem dL_law_754 : decode cL_law 754 = .ok (.iaload, 1) := by decide +kernel
theorem dL_law_755 : decode cL_law 755 = .ok (.invokevirtual 112, 3) := by decide +kernel
theorem dL_law_758 : decode cL_law 758 = .ok (.if_icmp .eq 124, 3) := by decide +kernel
theorem dL_law_761 : decode cL_law 761 = .ok (.iconst 0, 1) := by decide +kernel
theorem dL_law_762 : decode cL_law 762 = .ok (.ireturn, 1) := by decide +kernel
theorem dL_law_763 : decode cL_law 763 = .ok (.aload_n 1, 1) := by decide +kernel
theorem dL_law_764 : decode cL_law 764 = .ok (.aload_n 0, 1) := by decide +kernel
theorem dL_law_765 : decode cL_law 765 = .ok (.iload_n 3, 1) := by decide +kernel
theorem dL_law_766 : decode cL_law 766 = .ok (.iconst 1, 1) := by decide +kernel
theorem dL_law_767 : decode cL_law 767 = .ok (.iadd, 1) := by decide +kernel
theorem dL_law_768 : decode cL_law 768 = .ok (.iaload, 1) := by decide +kernel
theorem dL_law_769 : decode cL_law 769 = .ok (.invokevirtual 113, 3) := by decide +kernel
theorem dL_law_772 : decode cL_law 772 = .ok (.aload_n 2, 1) := by decide +kernel
theorem dL_law_773 : decode cL_law 773 = .ok (.aload_n 0, 1) := by decide +kernel
theorem dL_law_774 : decode cL_law 774 = .ok (.iload_n 3, 1) := by decide +kernel
theorem dL_law_775 : decode cL_law 775 = .ok (.iconst 1, 1) := by decide +kernel
theorem dL_law_776 : decode cL_law 776 = .ok (.iadd, 1) := by decide +kernel
theorem dL_law_777 : decode cL_law 777 = .ok (.iaload, 1) := by decide +kernel
theorem dL_law_778 : decode cL_law 778 = .ok (.invokevirtual 117, 3) := by decide +kernel
theorem dL_law_781 : decode cL_law 781 = .ok (.lcmp, 1) := by decide +kernel
theorem dL_law_782 : decode cL_law 782 = .ok (.ifCond .eq 100, 3) := by decide +kernel
theorem dL_law_785 : decode cL_law 785 = .ok (.iconst 0, 1) := by decide +kernel
theorem dL_law_786 : decode cL_law 786 = .ok (.ireturn, 1) := by decide +kernel
theorem dL_law_787 : decode cL_law 787 = .ok (.aload_n 1, 1) := by decide +kernel
theorem dL_law_788 : decode cL_law 788 = .ok (.aload_n 0, 1) := by decide +kernel
theorem dL_law_789 : decode cL_law 789 = .ok (.iload_n 3, 1) := by decide +kernel
theorem dL_law_790 : decode cL_law 790 = .ok (.iconst 1, 1) := by decide +kernel
theorem dL_law_791 : decode cL_law 791 = .ok (.iadd, 1) := by decide +kernel
theorem dL_law_792 : decode cL_law 792 = .ok (.iaload, 1) := by decide +kernel
theorem dL_law_793 : decode cL_law 793 = .ok (.invokevirtual 118, 3) := by decide +kernel
theorem dL_law_796 : decode cL_law 796 = .ok (.aload_n 2, 1) := by decide +kernel
theorem dL_law_797 : decode cL_law 797 = .ok (.aload_n 0, 1) := by decide +kernel
theorem dL_law_798 : decode cL_law 798 = .ok (.iload_n 3, 1) := by decide +kernel
theorem dL_law_799 : decode cL_law 799 = .ok (.iconst 1, 1) := by decide +kernel
theorem dL_law_800 : decode cL_law 800 = .ok (.iadd, 1) := by decide +kernel
theorem dL_law_801 : decode cL_law 801 = .ok (.iaload, 1) := by decide +kernel
theorem dL_law_802 : decode cL_law 802 = .ok (.invokevirtual 121, 3) := by decide +kernel
theorem dL_law_805 : decode cL_law 805 = .ok (.if_icmp .eq 77, 3) := by decide +kernel
theorem dL_law_808 : decode cL_law 808 = .ok (.iconst 0, 1) := by decide +kernel
theorem dL_law_809 : decode cL_law 809 = .ok (.ireturn, 1) := by decide +kernel
theorem dL_law_810 : decode cL_law 810 = .ok (.aload_n 1, 1) := by decide +kernel
theorem dL_law_811 : decode cL_law 811 = .ok (.aload_n 0, 1) := by decide +kernel
theorem dL_law_812 : decode cL_law 812 = .ok (.iload_n 3, 1) := by decide +kernel
theorem dL_law_813 : decode cL_law 813 = .ok (.iconst 1, 1) := by decide +kernel
theorem dL_law_814 : decode cL_law 814 = .ok (.iadd, 1) := by decide +kernel
theorem dL_law_815 : decode cL_law 815 = .ok (.iaload, 1) := by decide +kernel
theorem dL_law_816 : decode cL_law 816 = .ok (.invokevirtual 122, 3) := by decide +kernel
theorem dL_law_819 : decode cL_law 819 = .ok (.aload_n 2, 1) := by decide +kernel
theorem dL_law_820 : decode cL_law 820 = .ok (.aload_n 0, 1) := by decide +kernel
theorem dL_law_821 : decode cL_law 821 = .ok (.iload_n 3, 1) := by decide +kernel
theorem dL_law_822 : decode cL_law 822 = .ok (.iconst 1, 1) := by decide +kernel
theorem dL_law_823 : decode cL_law 823 = .ok (.iadd, 1) := by decide +kernel
theorem dL_law_824 : decode cL_law 824 = .ok (.iaload, 1) := by decide +kernel
theorem dL_law_825 : decode cL_law 825 = .ok (.invokevirtual 125, 3) := by decide +kernel
theorem dL_law_828 : decode cL_law 828 = .ok (.if_icmp .eq 54, 3) := by decide +kernel
theorem dL_law_831 : decode cL_law 831 = .ok (.iconst 0, 1) := by decide +kernel
theorem dL_law_832 : decode cL_law 832 = .ok (.ireturn, 1) := by decide +kernel
theorem dL_law_833 : decode cL_law 833 = .ok (.aload_n 1, 1) := by decide +kernel
theorem dL_law_834 : decode cL_law 834 = .ok (.invokevirtual 126, 3) := by decide +kernel
theorem dL_law_837 : decode cL_law 837 = .ok (.aload_n 2, 1) := by decide +kernel
theorem dL_law_838 : decode cL_law 838 = .ok (.invokevirtual 129, 3) := by decide +kernel
theorem dL_law_841 : decode cL_law 841 = .ok (.if_icmp .eq 41, 3) := by decide +kernel
theorem dL_law_844 : decode cL_law 844 = .ok (.iconst 0, 1) := by decide +kernel
theorem dL_law_845 : decode cL_law 845 = .ok (.ireturn, 1) := by decide +kernel
theorem dL_law_846 : decode cL_law 846 = .ok (.aload_n 1, 1) := by decide +kernel
theorem dL_law_847 : decode cL_law 847 = .ok (.invokevirtual 130, 3) := by decide +kernel
theorem dL_law_850 : decode cL_law 850 = .ok (.aload_n 2, 1) := by decide +kernel
theorem dL_law_851 : decode cL_law 851 = .ok (.invokevirtual 133, 3) := by decide +kernel
theorem dL_law_854 : decode cL_law 854 = .ok (.if_icmp .eq 28, 3) := by decide +kernel
theorem dL_law_857 : decode cL_law 857 = .ok (.iconst 0, 1) := by decide +kernel
theorem dL_law_858 : decode cL_law 858 = .ok (.ireturn, 1) := by decide +kernel
theorem dL_law_859 : decode cL_law 859 = .ok (.aload_n 1, 1) := by decide +kernel
theorem dL_law_860 : decode cL_law 860 = .ok (.aload_n 0, 1) := by decide +kernel
theorem dL_law_861 : decode cL_law 861 = .ok (.iload_n 3, 1) := by decide +kernel
theorem dL_law_862 : decode cL_law 862 = .ok (.iconst 1, 1) := by decide +kernel
theorem dL_law_863 : decode cL_law 863 = .ok (.iadd, 1) := by decide +kernel
theorem dL_law_864 : decode cL_law 864 = .ok (.iaload, 1) := by decide +kernel
theorem dL_law_865 : decode cL_law 865 = .ok (.invokevirtual 134, 3) := by decide +kernel
theorem dL_law_868 : decode cL_law 868 = .ok (.aload_n 2, 1) := by decide +kernel
theorem dL_law_869 : decode cL_law 869 = .ok (.aload_n 0, 1) := by decide +kernel
theorem dL_law_870 : decode cL_law 870 = .ok (.iload_n 3, 1) := by decide +kernel
theorem dL_law_871 : decode cL_law 871 = .ok (.iconst 1, 1) := by decide +kernel
theorem dL_law_872 : decode cL_law 872 = .ok (.iadd, 1) := by decide +kernel
theorem dL_law_873 : decode cL_law 873 = .ok (.iaload, 1) := by decide +kernel
theorem dL_law_874 : decode cL_law 874 = .ok (.invokevirtual 137, 3) := by decide +kernel
theorem dL_law_877 : decode cL_law 877 = .ok (.if_icmp .eq 5, 3) := by decide +kernel
theorem dL_law_880 : decode cL_law 880 = .ok (.iconst 0, 1) := by decide +kernel
theorem dL_law_881 : decode cL_law 881 = .ok (.ireturn, 1) := by decide +kernel
theorem dL_law_882 : decode cL_law 882 = .ok (.iinc 3 5, 3) := by decide +kernel
theorem dL_law_885 : decode cL_law 885 = .ok (.goto (-867), 3) := by decide +kernel
theorem dL_law_888 : decode cL_law 888 = .ok (.iconst 1, 1) := by decide +kernel
theorem dL_law_889 : decode cL_law 889 = .ok (.ireturn, 1) := by decide +kernel
