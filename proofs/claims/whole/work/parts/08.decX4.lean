set_option maxRecDepth 20000 in
theorem ggX4_init_X4_rest : GoodIn wsX4_init wsX4_rest := goodIn_r _ [29] (by decide +kernel) (by decide +kernel)
set_option maxRecDepth 20000 in
theorem gX4_init_X4_rest : GoodIn wsX4_init (va_wsS RX4 59 yX4_rest wsX4_rest) := goodIn_app (goodIn_of _ (by decide +kernel)) ggX4_init_X4_rest
theorem dX4_init_0 : decode cX4_init 0 = .ok (.aload_n 0, 1) := by decide +kernel
theorem dX4_init_1 : decode cX4_init 1 = .ok (.invokespecial 1, 3) := by decide +kernel
theorem dX4_init_4 : decode cX4_init 4 = .ok (.aload_n 0, 1) := by decide +kernel
theorem dX4_init_5 : decode cX4_init 5 = .ok (.bipush 32, 2) := by decide +kernel
theorem dX4_init_7 : decode cX4_init 7 = .ok (.newarray .int, 2) := by decide +kernel
theorem dX4_init_9 : decode cX4_init 9 = .ok (.putfield 7, 3) := by decide +kernel
theorem dX4_init_12 : decode cX4_init 12 = .ok (.aload_n 0, 1) := by decide +kernel
theorem dX4_init_13 : decode cX4_init 13 = .ok (.bipush 32, 2) := by decide +kernel
theorem dX4_init_15 : decode cX4_init 15 = .ok (.newarray .int, 2) := by decide +kernel
theorem dX4_init_17 : decode cX4_init 17 = .ok (.putfield 13, 3) := by decide +kernel
theorem dX4_init_20 : decode cX4_init 20 = .ok (.aload_n 0, 1) := by decide +kernel
theorem dX4_init_21 : decode cX4_init 21 = .ok (.bipush 96, 2) := by decide +kernel
theorem dX4_init_23 : decode cX4_init 23 = .ok (.newarray .int, 2) := by decide +kernel
theorem dX4_init_25 : decode cX4_init 25 = .ok (.putfield 16, 3) := by decide +kernel
theorem dX4_init_28 : decode cX4_init 28 = .ok (.aload_n 0, 1) := by decide +kernel
theorem dX4_init_29 : decode cX4_init 29 = .ok (.bipush 96, 2) := by decide +kernel
theorem dX4_init_31 : decode cX4_init 31 = .ok (.newarray .boolean, 2) := by decide +kernel
theorem dX4_init_33 : decode cX4_init 33 = .ok (.putfield 19, 3) := by decide +kernel
theorem dX4_init_36 : decode cX4_init 36 = .ok (.aload_n 0, 1) := by decide +kernel
theorem dX4_init_37 : decode cX4_init 37 = .ok (.bipush 96, 2) := by decide +kernel
theorem dX4_init_39 : decode cX4_init 39 = .ok (.newarray .int, 2) := by decide +kernel
theorem dX4_init_41 : decode cX4_init 41 = .ok (.putfield 23, 3) := by decide +kernel
theorem dX4_init_44 : decode cX4_init 44 = .ok (.aload_n 0, 1) := by decide +kernel
theorem dX4_init_45 : decode cX4_init 45 = .ok (.bipush 64, 2) := by decide +kernel
theorem dX4_init_47 : decode cX4_init 47 = .ok (.newarray .int, 2) := by decide +kernel
theorem dX4_init_49 : decode cX4_init 49 = .ok (.putfield 26, 3) := by decide +kernel
theorem dX4_init_52 : decode cX4_init 52 = .ok (.aload_n 0, 1) := by decide +kernel
theorem dX4_init_53 : decode cX4_init 53 = .ok (.bipush 64, 2) := by decide +kernel
theorem dX4_init_55 : decode cX4_init 55 = .ok (.newarray .int, 2) := by decide +kernel
theorem dX4_init_57 : decode cX4_init 57 = .ok (.putfield 29, 3) := by decide +kernel
theorem dX4_init_60 : decode cX4_init 60 = .ok (.aload_n 0, 1) := by decide +kernel
theorem dX4_init_61 : decode cX4_init 61 = .ok (.bipush 64, 2) := by decide +kernel
theorem dX4_init_63 : decode cX4_init 63 = .ok (.newarray .int, 2) := by decide +kernel
theorem dX4_init_65 : decode cX4_init 65 = .ok (.putfield 32, 3) := by decide +kernel
theorem dX4_init_68 : decode cX4_init 68 = .ok (.aload_n 0, 1) := by decide +kernel
theorem dX4_init_69 : decode cX4_init 69 = .ok (.bipush 64, 2) := by decide +kernel
theorem dX4_init_71 : decode cX4_init 71 = .ok (.newarray .int, 2) := by decide +kernel
theorem dX4_init_73 : decode cX4_init 73 = .ok (.putfield 35, 3) := by decide +kernel
theorem dX4_init_76 : decode cX4_init 76 = .ok (.aload_n 0, 1) := by decide +kernel
theorem dX4_init_77 : decode cX4_init 77 = .ok (.bipush 64, 2) := by decide +kernel
theorem dX4_init_79 : decode cX4_init 79 = .ok (.newarray .int, 2) := by decide +kernel
theorem dX4_init_81 : decode cX4_init 81 = .ok (.putfield 38, 3) := by decide +kernel
theorem dX4_init_84 : decode cX4_init 84 = .ok (.aload_n 0, 1) := by decide +kernel
theorem dX4_init_85 : decode cX4_init 85 = .ok (.bipush 64, 2) := by decide +kernel
theorem dX4_init_87 : decode cX4_init 87 = .ok (.newarray .int, 2) := by decide +kernel
theorem dX4_init_89 : decode cX4_init 89 = .ok (.putfield 41, 3) := by decide +kernel
theorem dX4_init_92 : decode cX4_init 92 = .ok (.aload_n 0, 1) := by decide +kernel
theorem dX4_init_93 : decode cX4_init 93 = .ok (.bipush 64, 2) := by decide +kernel
theorem dX4_init_95 : decode cX4_init 95 = .ok (.newarray .int, 2) := by decide +kernel
theorem dX4_init_97 : decode cX4_init 97 = .ok (.putfield 44, 3) := by decide +kernel
theorem dX4_init_100 : decode cX4_init 100 = .ok (.aload_n 0, 1) := by decide +kernel
theorem dX4_init_101 : decode cX4_init 101 = .ok (.bipush 8, 2) := by decide +kernel
theorem dX4_init_103 : decode cX4_init 103 = .ok (.newarray .boolean, 2) := by decide +kernel
theorem dX4_init_105 : decode cX4_init 105 = .ok (.putfield 47, 3) := by decide +kernel
theorem dX4_init_108 : decode cX4_init 108 = .ok (.aload_n 0, 1) := by decide +kernel
theorem dX4_init_109 : decode cX4_init 109 = .ok (.bipush 8, 2) := by decide +kernel
theorem dX4_init_111 : decode cX4_init 111 = .ok (.newarray .int, 2) := by decide +kernel
theorem dX4_init_113 : decode cX4_init 113 = .ok (.putfield 50, 3) := by decide +kernel
theorem dX4_init_116 : decode cX4_init 116 = .ok (.aload_n 0, 1) := by decide +kernel
theorem dX4_init_117 : decode cX4_init 117 = .ok (.bipush 8, 2) := by decide +kernel
theorem dX4_init_119 : decode cX4_init 119 = .ok (.newarray .int, 2) := by decide +kernel
theorem dX4_init_121 : decode cX4_init 121 = .ok (.putfield 53, 3) := by decide +kernel
theorem dX4_init_124 : decode cX4_init 124 = .ok (.aload_n 0, 1) := by decide +kernel
theorem dX4_init_125 : decode cX4_init 125 = .ok (.bipush 8, 2) := by decide +kernel
theorem dX4_init_127 : decode cX4_init 127 = .ok (.newarray .int, 2) := by decide +kernel
theorem dX4_init_129 : decode cX4_init 129 = .ok (.dup, 1) := by decide +kernel
theorem dX4_init_130 : decode cX4_init 130 = .ok (.iconst 0, 1) := by decide +kernel
theorem dX4_init_131 : decode cX4_init 131 = .ok (.iconst (-1), 1) := by decide +kernel
theorem dX4_init_132 : decode cX4_init 132 = .ok (.iastore, 1) := by decide +kernel
theorem dX4_init_133 : decode cX4_init 133 = .ok (.dup, 1) := by decide +kernel
theorem dX4_init_134 : decode cX4_init 134 = .ok (.iconst 1, 1) := by decide +kernel
theorem dX4_init_135 : decode cX4_init 135 = .ok (.iconst (-1), 1) := by decide +kernel
theorem dX4_init_136 : decode cX4_init 136 = .ok (.iastore, 1) := by decide +kernel
theorem dX4_init_137 : decode cX4_init 137 = .ok (.dup, 1) := by decide +kernel
theorem dX4_init_138 : decode cX4_init 138 = .ok (.iconst 2, 1) := by decide +kernel
theorem dX4_init_139 : decode cX4_init 139 = .ok (.iconst (-1), 1) := by decide +kernel
theorem dX4_init_140 : decode cX4_init 140 = .ok (.iastore, 1) := by decide +kernel
theorem dX4_init_141 : decode cX4_init 141 = .ok (.dup, 1) := by decide +kernel
theorem dX4_init_142 : decode cX4_init 142 = .ok (.iconst 3, 1) := by decide +kernel
theorem dX4_init_143 : decode cX4_init 143 = .ok (.iconst (-1), 1) := by decide +kernel
theorem dX4_init_144 : decode cX4_init 144 = .ok (.iastore, 1) := by decide +kernel
theorem dX4_init_145 : decode cX4_init 145 = .ok (.dup, 1) := by decide +kernel
theorem dX4_init_146 : decode cX4_init 146 = .ok (.iconst 4, 1) := by decide +kernel
theorem dX4_init_147 : decode cX4_init 147 = .ok (.iconst (-1), 1) := by decide +kernel
theorem dX4_init_148 : decode cX4_init 148 = .ok (.iastore, 1) := by decide +kernel
theorem dX4_init_149 : decode cX4_init 149 = .ok (.dup, 1) := by decide +kernel
theorem dX4_init_150 : decode cX4_init 150 = .ok (.iconst 5, 1) := by decide +kernel
theorem dX4_init_151 : decode cX4_init 151 = .ok (.iconst (-1), 1) := by decide +kernel
theorem dX4_init_152 : decode cX4_init 152 = .ok (.iastore, 1) := by decide +kernel
theorem dX4_init_153 : decode cX4_init 153 = .ok (.dup, 1) := by decide +kernel
theorem dX4_init_154 : decode cX4_init 154 = .ok (.bipush 6, 2) := by decide +kernel
theorem dX4_init_156 : decode cX4_init 156 = .ok (.iconst (-1), 1) := by decide +kernel
theorem dX4_init_157 : decode cX4_init 157 = .ok (.iastore, 1) := by decide +kernel
theorem dX4_init_158 : decode cX4_init 158 = .ok (.dup, 1) := by decide +kernel
theorem dX4_init_159 : decode cX4_init 159 = .ok (.bipush 7, 2) := by decide +kernel
theorem dX4_init_161 : decode cX4_init 161 = .ok (.iconst (-1), 1) := by decide +kernel
theorem dX4_init_162 : decode cX4_init 162 = .ok (.iastore, 1) := by decide +kernel
theorem dX4_init_163 : decode cX4_init 163 = .ok (.putfield 56, 3) := by decide +kernel
theorem dX4_init_166 : decode cX4_init 166 = .ok (.aload_n 0, 1) := by decide +kernel
theorem dX4_init_167 : decode cX4_init 167 = .ok (.iconst 1, 1) := by decide +kernel
theorem dX4_init_168 : decode cX4_init 168 = .ok (.iload_n 1, 1) := by decide +kernel
theorem dX4_init_169 : decode cX4_init 169 = .ok (.iconst 1, 1) := by decide +kernel
theorem dX4_init_170 : decode cX4_init 170 = .ok (.isub, 1) := by decide +kernel
theorem dX4_init_171 : decode cX4_init 171 = .ok (.bipush 32, 2) := by decide +kernel
theorem dX4_init_173 : decode cX4_init 173 = .ok (.invokestatic 59, 3) := by decide +kernel
theorem dX4_init_176 : decode cX4_init 176 = .ok (.iadd, 1) := by decide +kernel
theorem dX4_init_177 : decode cX4_init 177 = .ok (.putfield 63, 3) := by decide +kernel
theorem dX4_init_180 : decode cX4_init 180 = .ok (.aload_n 0, 1) := by decide +kernel
theorem dX4_init_181 : decode cX4_init 181 = .ok (.aload_n 0, 1) := by decide +kernel
theorem dX4_init_182 : decode cX4_init 182 = .ok (.getfield 63, 3) := by decide +kernel
theorem dX4_init_185 : decode cX4_init 185 = .ok (.iconst 1, 1) := by decide +kernel
theorem dX4_init_186 : decode cX4_init 186 = .ok (.iadd, 1) := by decide +kernel
theorem dX4_init_187 : decode cX4_init 187 = .ok (.iload_n 2, 1) := by decide +kernel
theorem dX4_init_188 : decode cX4_init 188 = .ok (.iconst 1, 1) := by decide +kernel
theorem dX4_init_189 : decode cX4_init 189 = .ok (.isub, 1) := by decide +kernel
theorem dX4_init_190 : decode cX4_init 190 = .ok (.bipush 64, 2) := by decide +kernel
theorem dX4_init_192 : decode cX4_init 192 = .ok (.invokestatic 59, 3) := by decide +kernel
theorem dX4_init_195 : decode cX4_init 195 = .ok (.iadd, 1) := by decide +kernel
theorem dX4_init_196 : decode cX4_init 196 = .ok (.putfield 67, 3) := by decide +kernel
theorem dX4_init_199 : decode cX4_init 199 = .ok (.aload_n 0, 1) := by decide +kernel
theorem dX4_init_200 : decode cX4_init 200 = .ok (.iconst 1, 1) := by decide +kernel
theorem dX4_init_201 : decode cX4_init 201 = .ok (.iload_n 3, 1) := by decide +kernel
theorem dX4_init_202 : decode cX4_init 202 = .ok (.iconst 1, 1) := by decide +kernel
theorem dX4_init_203 : decode cX4_init 203 = .ok (.isub, 1) := by decide +kernel
theorem dX4_init_204 : decode cX4_init 204 = .ok (.bipush 64, 2) := by decide +kernel
theorem dX4_init_206 : decode cX4_init 206 = .ok (.invokestatic 59, 3) := by decide +kernel
theorem dX4_init_209 : decode cX4_init 209 = .ok (.iadd, 1) := by decide +kernel
theorem dX4_init_210 : decode cX4_init 210 = .ok (.putfield 70, 3) := by decide +kernel
theorem dX4_init_213 : decode cX4_init 213 = .ok (.iconst 0, 1) := by decide +kernel
theorem dX4_init_214 : decode cX4_init 214 = .ok (.istore 4, 2) := by decide +kernel
theorem dX4_init_216 : decode cX4_init 216 = .ok (.iload 4, 2) := by decide +kernel
theorem dX4_init_218 : decode cX4_init 218 = .ok (.aload_n 0, 1) := by decide +kernel
theorem dX4_init_219 : decode cX4_init 219 = .ok (.getfield 63, 3) := by decide +kernel
theorem dX4_init_222 : decode cX4_init 222 = .ok (.if_icmp .ge 43, 3) := by decide +kernel
theorem dX4_init_225 : decode cX4_init 225 = .ok (.aload_n 0, 1) := by decide +kernel
theorem dX4_init_226 : decode cX4_init 226 = .ok (.getfield 7, 3) := by decide +kernel
theorem dX4_init_229 : decode cX4_init 229 = .ok (.iload 4, 2) := by decide +kernel
theorem dX4_init_231 : decode cX4_init 231 = .ok (.iload 4, 2) := by decide +kernel
theorem dX4_init_233 : decode cX4_init 233 = .ok (.iastore, 1) := by decide +kernel
theorem dX4_init_234 : decode cX4_init 234 = .ok (.aload_n 0, 1) := by decide +kernel
theorem dX4_init_235 : decode cX4_init 235 = .ok (.getfield 13, 3) := by decide +kernel
theorem dX4_init_238 : decode cX4_init 238 = .ok (.iload 4, 2) := by decide +kernel
theorem dX4_init_240 : decode cX4_init 240 = .ok (.iload 4, 2) := by decide +kernel
theorem dX4_init_242 : decode cX4_init 242 = .ok (.iastore, 1) := by decide +kernel
theorem dX4_init_243 : decode cX4_init 243 = .ok (.aload_n 0, 1) := by decide +kernel
theorem dX4_init_244 : decode cX4_init 244 = .ok (.getfield 16, 3) := by decide +kernel
theorem dX4_init_247 : decode cX4_init 247 = .ok (.iload 4, 2) := by decide +kernel
theorem dX4_init_249 : decode cX4_init 249 = .ok (.iconst 1, 1) := by decide +kernel
theorem dX4_init_250 : decode cX4_init 250 = .ok (.iastore, 1) := by decide +kernel
theorem dX4_init_251 : decode cX4_init 251 = .ok (.aload_n 0, 1) := by decide +kernel
theorem dX4_init_252 : decode cX4_init 252 = .ok (.getfield 19, 3) := by decide +kernel
theorem dX4_init_255 : decode cX4_init 255 = .ok (.iload 4, 2) := by decide +kernel
theorem dX4_init_257 : decode cX4_init 257 = .ok (.iconst 1, 1) := by decide +kernel
theorem dX4_init_258 : decode cX4_init 258 = .ok (.bastore, 1) := by decide +kernel
theorem dX4_init_259 : decode cX4_init 259 = .ok (.iinc 4 1, 3) := by decide +kernel
theorem dX4_init_262 : decode cX4_init 262 = .ok (.goto (-46), 3) := by decide +kernel
theorem dX4_init_265 : decode cX4_init 265 = .ok (.aload_n 0, 1) := by decide +kernel
theorem dX4_init_266 : decode cX4_init 266 = .ok (.getfield 63, 3) := by decide +kernel
theorem dX4_init_269 : decode cX4_init 269 = .ok (.istore 4, 2) := by decide +kernel
theorem dX4_init_271 : decode cX4_init 271 = .ok (.iload 4, 2) := by decide +kernel
theorem dX4_init_273 : decode cX4_init 273 = .ok (.aload_n 0, 1) := by decide +kernel
theorem dX4_init_274 : decode cX4_init 274 = .ok (.getfield 67, 3) := by decide +kernel
theorem dX4_init_277 : decode cX4_init 277 = .ok (.if_icmp .ge 30, 3) := by decide +kernel
theorem dX4_init_280 : decode cX4_init 280 = .ok (.aload_n 0, 1) := by decide +kernel
theorem dX4_init_281 : decode cX4_init 281 = .ok (.getfield 23, 3) := by decide +kernel
theorem dX4_init_284 : decode cX4_init 284 = .ok (.aload_n 0, 1) := by decide +kernel
theorem dX4_init_285 : decode cX4_init 285 = .ok (.getfield 73, 3) := by decide +kernel
theorem dX4_init_288 : decode cX4_init 288 = .ok (.iload 4, 2) := by decide +kernel
theorem dX4_init_290 : decode cX4_init 290 = .ok (.iastore, 1) := by decide +kernel
theorem dX4_init_291 : decode cX4_init 291 = .ok (.aload_n 0, 1) := by decide +kernel
theorem dX4_init_292 : decode cX4_init 292 = .ok (.dup, 1) := by decide +kernel
theorem dX4_init_293 : decode cX4_init 293 = .ok (.getfield 73, 3) := by decide +kernel
theorem dX4_init_296 : decode cX4_init 296 = .ok (.iconst 1, 1) := by decide +kernel
theorem dX4_init_297 : decode cX4_init 297 = .ok (.iadd, 1) := by decide +kernel
theorem dX4_init_298 : decode cX4_init 298 = .ok (.putfield 73, 3) := by decide +kernel
theorem dX4_init_301 : decode cX4_init 301 = .ok (.iinc 4 1, 3) := by decide +kernel
theorem dX4_init_304 : decode cX4_init 304 = .ok (.goto (-33), 3) := by decide +kernel
theorem dX4_init_307 : decode cX4_init 307 = .ok (.return_, 1) := by decide +kernel
theorem dX4_rest_0 : decode cX4_rest 0 = .ok (.iload_n 0, 1) := by decide +kernel
theorem dX4_rest_1 : decode cX4_rest 1 = .ok (.iload_n 1, 1) := by decide +kernel
theorem dX4_rest_2 : decode cX4_rest 2 = .ok (.irem, 1) := by decide +kernel
theorem dX4_rest_3 : decode cX4_rest 3 = .ok (.istore_n 2, 1) := by decide +kernel
theorem dX4_rest_4 : decode cX4_rest 4 = .ok (.iload_n 2, 1) := by decide +kernel
theorem dX4_rest_5 : decode cX4_rest 5 = .ok (.ifCond .ge 9, 3) := by decide +kernel
theorem dX4_rest_8 : decode cX4_rest 8 = .ok (.iload_n 2, 1) := by decide +kernel
theorem dX4_rest_9 : decode cX4_rest 9 = .ok (.iload_n 1, 1) := by decide +kernel
theorem dX4_rest_10 : decode cX4_rest 10 = .ok (.iadd, 1) := by decide +kernel
theorem dX4_rest_11 : decode cX4_rest 11 = .ok (.goto 4, 3) := by decide +kernel
theorem dX4_rest_14 : decode cX4_rest 14 = .ok (.iload_n 2, 1) := by decide +kernel
theorem dX4_rest_15 : decode cX4_rest 15 = .ok (.ireturn, 1) := by decide +kernel
theorem dX4_thrown_0 : decode cX4_thrown 0 = .ok (.aload_n 0, 1) := by decide +kernel
theorem dX4_thrown_1 : decode cX4_thrown 1 = .ok (.getfield 76, 3) := by decide +kernel
theorem dX4_thrown_4 : decode cX4_thrown 4 = .ok (.ireturn, 1) := by decide +kernel
theorem dX4_throwing_0 : decode cX4_throwing 0 = .ok (.aload_n 0, 1) := by decide +kernel
theorem dX4_throwing_1 : decode cX4_throwing 1 = .ok (.iload_n 1, 1) := by decide +kernel
theorem dX4_throwing_2 : decode cX4_throwing 2 = .ok (.ifCond .eq 7, 3) := by decide +kernel
theorem dX4_throwing_5 : decode cX4_throwing 5 = .ok (.iconst 1, 1) := by decide +kernel
theorem dX4_throwing_6 : decode cX4_throwing 6 = .ok (.goto 20, 3) := by decide +kernel
theorem dX4_throwing_9 : decode cX4_throwing 9 = .ok (.iload_n 2, 1) := by decide +kernel
theorem dX4_throwing_10 : decode cX4_throwing 10 = .ok (.ifCond .eq 7, 3) := by decide +kernel
theorem dX4_throwing_13 : decode cX4_throwing 13 = .ok (.iconst 2, 1) := by decide +kernel
theorem dX4_throwing_14 : decode cX4_throwing 14 = .ok (.goto 12, 3) := by decide +kernel
theorem dX4_throwing_17 : decode cX4_throwing 17 = .ok (.iload_n 3, 1) := by decide +kernel
theorem dX4_throwing_18 : decode cX4_throwing 18 = .ok (.ifCond .eq 7, 3) := by decide +kernel
theorem dX4_throwing_21 : decode cX4_throwing 21 = .ok (.iconst 3, 1) := by decide +kernel
theorem dX4_throwing_22 : decode cX4_throwing 22 = .ok (.goto 4, 3) := by decide +kernel
theorem dX4_throwing_25 : decode cX4_throwing 25 = .ok (.iconst 0, 1) := by decide +kernel
theorem dX4_throwing_26 : decode cX4_throwing 26 = .ok (.putfield 76, 3) := by decide +kernel
theorem dX4_throwing_29 : decode cX4_throwing 29 = .ok (.aload_n 0, 1) := by decide +kernel
theorem dX4_throwing_30 : decode cX4_throwing 30 = .ok (.getfield 76, 3) := by decide +kernel
theorem dX4_throwing_33 : decode cX4_throwing 33 = .ok (.ifCond .le 7, 3) := by decide +kernel
theorem dX4_throwing_36 : decode cX4_throwing 36 = .ok (.iconst 1, 1) := by decide +kernel
theorem dX4_throwing_37 : decode cX4_throwing 37 = .ok (.goto 4, 3) := by decide +kernel
theorem dX4_throwing_40 : decode cX4_throwing 40 = .ok (.iconst 0, 1) := by decide +kernel
theorem dX4_throwing_41 : decode cX4_throwing 41 = .ok (.ireturn, 1) := by decide +kernel
theorem dX4_isRegister_0 : decode cX4_isRegister 0 = .ok (.iload_n 1, 1) := by decide +kernel
theorem dX4_isRegister_1 : decode cX4_isRegister 1 = .ok (.ifCond .lt 15, 3) := by decide +kernel
theorem dX4_isRegister_4 : decode cX4_isRegister 4 = .ok (.iload_n 1, 1) := by decide +kernel
theorem dX4_isRegister_5 : decode cX4_isRegister 5 = .ok (.aload_n 0, 1) := by decide +kernel
theorem dX4_isRegister_6 : decode cX4_isRegister 6 = .ok (.getfield 63, 3) := by decide +kernel
theorem dX4_isRegister_9 : decode cX4_isRegister 9 = .ok (.if_icmp .ge 7, 3) := by decide +kernel
theorem dX4_isRegister_12 : decode cX4_isRegister 12 = .ok (.iconst 1, 1) := by decide +kernel
theorem dX4_isRegister_13 : decode cX4_isRegister 13 = .ok (.goto 4, 3) := by decide +kernel
theorem dX4_isRegister_16 : decode cX4_isRegister 16 = .ok (.iconst 0, 1) := by decide +kernel
theorem dX4_isRegister_17 : decode cX4_isRegister 17 = .ok (.ireturn, 1) := by decide +kernel
theorem dX4_isReady_0 : decode cX4_isReady 0 = .ok (.iload_n 1, 1) := by decide +kernel
theorem dX4_isReady_1 : decode cX4_isReady 1 = .ok (.ifCond .lt 12, 3) := by decide +kernel
theorem dX4_isReady_4 : decode cX4_isReady 4 = .ok (.aload_n 0, 1) := by decide +kernel
theorem dX4_isReady_5 : decode cX4_isReady 5 = .ok (.getfield 19, 3) := by decide +kernel
theorem dX4_isReady_8 : decode cX4_isReady 8 = .ok (.iload_n 1, 1) := by decide +kernel
theorem dX4_isReady_9 : decode cX4_isReady 9 = .ok (.baload, 1) := by decide +kernel
theorem dX4_isReady_10 : decode cX4_isReady 10 = .ok (.ifCond .eq 7, 3) := by decide +kernel
theorem dX4_isReady_13 : decode cX4_isReady 13 = .ok (.iconst 1, 1) := by decide +kernel
theorem dX4_isReady_14 : decode cX4_isReady 14 = .ok (.goto 4, 3) := by decide +kernel
theorem dX4_isReady_17 : decode cX4_isReady 17 = .ok (.iconst 0, 1) := by decide +kernel
theorem dX4_isReady_18 : decode cX4_isReady 18 = .ok (.ireturn, 1) := by decide +kernel
set_option maxRecDepth 20000 in
theorem ggX4_mayGo_X4_isReady : GoodIn wsX4_mayGo wsX4_isReady := goodIn_r _ [8, 9, 10, 11, 12, 13, 14, 15, 16, 17, 18, 19, 20, 21, 22, 23, 24, 25, 26, 27, 28, 29, 30, 31, 32, 33, 34, 35, 36, 37, 38] (by decide +kernel) (by decide +kernel)
set_option maxRecDepth 20000 in
theorem gX4_mayGo_X4_isReady : GoodIn wsX4_mayGo (wsV RX4 79 RX4 yX4_isReady wsX4_isReady) := goodIn_app (goodIn_of _ (by decide +kernel)) ggX4_mayGo_X4_isReady
theorem dX4_mayGo_0 : decode cX4_mayGo 0 = .ok (.aload_n 0, 1) := by decide +kernel
theorem dX4_mayGo_1 : decode cX4_mayGo 1 = .ok (.getfield 44, 3) := by decide +kernel
theorem dX4_mayGo_4 : decode cX4_mayGo 4 = .ok (.iload_n 1, 1) := by decide +kernel
theorem dX4_mayGo_5 : decode cX4_mayGo 5 = .ok (.iaload, 1) := by decide +kernel
theorem dX4_mayGo_6 : decode cX4_mayGo 6 = .ok (.ifCond .ne 33, 3) := by decide +kernel
theorem dX4_mayGo_9 : decode cX4_mayGo 9 = .ok (.aload_n 0, 1) := by decide +kernel
theorem dX4_mayGo_10 : decode cX4_mayGo 10 = .ok (.aload_n 0, 1) := by decide +kernel
theorem dX4_mayGo_11 : decode cX4_mayGo 11 = .ok (.getfield 26, 3) := by decide +kernel
theorem dX4_mayGo_14 : decode cX4_mayGo 14 = .ok (.iload_n 1, 1) := by decide +kernel
theorem dX4_mayGo_15 : decode cX4_mayGo 15 = .ok (.iaload, 1) := by decide +kernel
theorem dX4_mayGo_16 : decode cX4_mayGo 16 = .ok (.invokevirtual 79, 3) := by decide +kernel
theorem dX4_mayGo_19 : decode cX4_mayGo 19 = .ok (.ifCond .eq 20, 3) := by decide +kernel
theorem dX4_mayGo_22 : decode cX4_mayGo 22 = .ok (.aload_n 0, 1) := by decide +kernel
theorem dX4_mayGo_23 : decode cX4_mayGo 23 = .ok (.aload_n 0, 1) := by decide +kernel
theorem dX4_mayGo_24 : decode cX4_mayGo 24 = .ok (.getfield 29, 3) := by decide +kernel
theorem dX4_mayGo_27 : decode cX4_mayGo 27 = .ok (.iload_n 1, 1) := by decide +kernel
theorem dX4_mayGo_28 : decode cX4_mayGo 28 = .ok (.iaload, 1) := by decide +kernel
theorem dX4_mayGo_29 : decode cX4_mayGo 29 = .ok (.invokevirtual 79, 3) := by decide +kernel
theorem dX4_mayGo_32 : decode cX4_mayGo 32 = .ok (.ifCond .eq 7, 3) := by decide +kernel
theorem dX4_mayGo_35 : decode cX4_mayGo 35 = .ok (.iconst 1, 1) := by decide +kernel
theorem dX4_mayGo_36 : decode cX4_mayGo 36 = .ok (.goto 4, 3) := by decide +kernel
theorem dX4_mayGo_39 : decode cX4_mayGo 39 = .ok (.iconst 0, 1) := by decide +kernel
theorem dX4_mayGo_40 : decode cX4_mayGo 40 = .ok (.ireturn, 1) := by decide +kernel
theorem dX4_placeOf_0 : decode cX4_placeOf 0 = .ok (.aload_n 0, 1) := by decide +kernel
theorem dX4_placeOf_1 : decode cX4_placeOf 1 = .ok (.getfield 83, 3) := by decide +kernel
theorem dX4_placeOf_4 : decode cX4_placeOf 4 = .ok (.iload_n 1, 1) := by decide +kernel
theorem dX4_placeOf_5 : decode cX4_placeOf 5 = .ok (.iadd, 1) := by decide +kernel
theorem dX4_placeOf_6 : decode cX4_placeOf 6 = .ok (.aload_n 0, 1) := by decide +kernel
theorem dX4_placeOf_7 : decode cX4_placeOf 7 = .ok (.getfield 70, 3) := by decide +kernel
theorem dX4_placeOf_10 : decode cX4_placeOf 10 = .ok (.irem, 1) := by decide +kernel
theorem dX4_placeOf_11 : decode cX4_placeOf 11 = .ok (.ireturn, 1) := by decide +kernel
theorem dX4_at_0 : decode cX4_at 0 = .ok (.iload_n 1, 1) := by decide +kernel
theorem dX4_at_1 : decode cX4_at 1 = .ok (.aload_n 0, 1) := by decide +kernel
theorem dX4_at_2 : decode cX4_at 2 = .ok (.getfield 83, 3) := by decide +kernel
theorem dX4_at_5 : decode cX4_at 5 = .ok (.isub, 1) := by decide +kernel
theorem dX4_at_6 : decode cX4_at 6 = .ok (.aload_n 0, 1) := by decide +kernel
theorem dX4_at_7 : decode cX4_at 7 = .ok (.getfield 70, 3) := by decide +kernel
theorem dX4_at_10 : decode cX4_at 10 = .ok (.iadd, 1) := by decide +kernel
theorem dX4_at_11 : decode cX4_at 11 = .ok (.aload_n 0, 1) := by decide +kernel
theorem dX4_at_12 : decode cX4_at 12 = .ok (.getfield 70, 3) := by decide +kernel
theorem dX4_at_15 : decode cX4_at 15 = .ok (.irem, 1) := by decide +kernel
theorem dX4_at_16 : decode cX4_at 16 = .ok (.istore_n 2, 1) := by decide +kernel
theorem dX4_at_17 : decode cX4_at 17 = .ok (.iload_n 2, 1) := by decide +kernel
theorem dX4_at_18 : decode cX4_at 18 = .ok (.aload_n 0, 1) := by decide +kernel
theorem dX4_at_19 : decode cX4_at 19 = .ok (.getfield 86, 3) := by decide +kernel
theorem dX4_at_22 : decode cX4_at 22 = .ok (.if_icmp .ge 7, 3) := by decide +kernel
theorem dX4_at_25 : decode cX4_at 25 = .ok (.iload_n 2, 1) := by decide +kernel
theorem dX4_at_26 : decode cX4_at 26 = .ok (.goto 4, 3) := by decide +kernel
theorem dX4_at_29 : decode cX4_at 29 = .ok (.iconst (-1), 1) := by decide +kernel
theorem dX4_at_30 : decode cX4_at 30 = .ok (.ireturn, 1) := by decide +kernel
theorem dX4_isPlace_0 : decode cX4_isPlace 0 = .ok (.iload_n 1, 1) := by decide +kernel
theorem dX4_isPlace_1 : decode cX4_isPlace 1 = .ok (.ifCond .lt 15, 3) := by decide +kernel
theorem dX4_isPlace_4 : decode cX4_isPlace 4 = .ok (.iload_n 1, 1) := by decide +kernel
theorem dX4_isPlace_5 : decode cX4_isPlace 5 = .ok (.aload_n 0, 1) := by decide +kernel
theorem dX4_isPlace_6 : decode cX4_isPlace 6 = .ok (.getfield 70, 3) := by decide +kernel
theorem dX4_isPlace_9 : decode cX4_isPlace 9 = .ok (.if_icmp .ge 7, 3) := by decide +kernel
theorem dX4_isPlace_12 : decode cX4_isPlace 12 = .ok (.iconst 1, 1) := by decide +kernel
theorem dX4_isPlace_13 : decode cX4_isPlace 13 = .ok (.goto 4, 3) := by decide +kernel
theorem dX4_isPlace_16 : decode cX4_isPlace 16 = .ok (.iconst 0, 1) := by decide +kernel
theorem dX4_isPlace_17 : decode cX4_isPlace 17 = .ok (.ireturn, 1) := by decide +kernel
theorem dX4_giveBack_0 : decode cX4_giveBack 0 = .ok (.aload_n 0, 1) := by decide +kernel
theorem dX4_giveBack_1 : decode cX4_giveBack 1 = .ok (.getfield 16, 3) := by decide +kernel
theorem dX4_giveBack_4 : decode cX4_giveBack 4 = .ok (.iload_n 1, 1) := by decide +kernel
theorem dX4_giveBack_5 : decode cX4_giveBack 5 = .ok (.dup2, 1) := by decide +kernel
theorem dX4_giveBack_6 : decode cX4_giveBack 6 = .ok (.iaload, 1) := by decide +kernel
theorem dX4_giveBack_7 : decode cX4_giveBack 7 = .ok (.iconst 1, 1) := by decide +kernel
theorem dX4_giveBack_8 : decode cX4_giveBack 8 = .ok (.isub, 1) := by decide +kernel
theorem dX4_giveBack_9 : decode cX4_giveBack 9 = .ok (.iastore, 1) := by decide +kernel
theorem dX4_giveBack_10 : decode cX4_giveBack 10 = .ok (.aload_n 0, 1) := by decide +kernel
theorem dX4_giveBack_11 : decode cX4_giveBack 11 = .ok (.getfield 16, 3) := by decide +kernel
theorem dX4_giveBack_14 : decode cX4_giveBack 14 = .ok (.iload_n 1, 1) := by decide +kernel
theorem dX4_giveBack_15 : decode cX4_giveBack 15 = .ok (.iaload, 1) := by decide +kernel
theorem dX4_giveBack_16 : decode cX4_giveBack 16 = .ok (.ifCond .le 4, 3) := by decide +kernel
theorem dX4_giveBack_19 : decode cX4_giveBack 19 = .ok (.return_, 1) := by decide +kernel
theorem dX4_giveBack_20 : decode cX4_giveBack 20 = .ok (.aload_n 0, 1) := by decide +kernel
theorem dX4_giveBack_21 : decode cX4_giveBack 21 = .ok (.getfield 23, 3) := by decide +kernel
theorem dX4_giveBack_24 : decode cX4_giveBack 24 = .ok (.aload_n 0, 1) := by decide +kernel
theorem dX4_giveBack_25 : decode cX4_giveBack 25 = .ok (.getfield 73, 3) := by decide +kernel
theorem dX4_giveBack_28 : decode cX4_giveBack 28 = .ok (.iload_n 1, 1) := by decide +kernel
theorem dX4_giveBack_29 : decode cX4_giveBack 29 = .ok (.iastore, 1) := by decide +kernel
theorem dX4_giveBack_30 : decode cX4_giveBack 30 = .ok (.aload_n 0, 1) := by decide +kernel
theorem dX4_giveBack_31 : decode cX4_giveBack 31 = .ok (.dup, 1) := by decide +kernel
theorem dX4_giveBack_32 : decode cX4_giveBack 32 = .ok (.getfield 73, 3) := by decide +kernel
theorem dX4_giveBack_35 : decode cX4_giveBack 35 = .ok (.iconst 1, 1) := by decide +kernel
theorem dX4_giveBack_36 : decode cX4_giveBack 36 = .ok (.iadd, 1) := by decide +kernel
theorem dX4_giveBack_37 : decode cX4_giveBack 37 = .ok (.putfield 73, 3) := by decide +kernel
theorem dX4_giveBack_40 : decode cX4_giveBack 40 = .ok (.return_, 1) := by decide +kernel
theorem dX4_takeName_0 : decode cX4_takeName 0 = .ok (.aload_n 0, 1) := by decide +kernel
theorem dX4_takeName_1 : decode cX4_takeName 1 = .ok (.getfield 23, 3) := by decide +kernel
theorem dX4_takeName_4 : decode cX4_takeName 4 = .ok (.iconst 0, 1) := by decide +kernel
theorem dX4_takeName_5 : decode cX4_takeName 5 = .ok (.iaload, 1) := by decide +kernel
theorem dX4_takeName_6 : decode cX4_takeName 6 = .ok (.istore_n 1, 1) := by decide +kernel
theorem dX4_takeName_7 : decode cX4_takeName 7 = .ok (.aload_n 0, 1) := by decide +kernel
theorem dX4_takeName_8 : decode cX4_takeName 8 = .ok (.dup, 1) := by decide +kernel
theorem dX4_takeName_9 : decode cX4_takeName 9 = .ok (.getfield 73, 3) := by decide +kernel
theorem dX4_takeName_12 : decode cX4_takeName 12 = .ok (.iconst 1, 1) := by decide +kernel
theorem dX4_takeName_13 : decode cX4_takeName 13 = .ok (.isub, 1) := by decide +kernel
theorem dX4_takeName_14 : decode cX4_takeName 14 = .ok (.putfield 73, 3) := by decide +kernel
theorem dX4_takeName_17 : decode cX4_takeName 17 = .ok (.iconst 0, 1) := by decide +kernel
theorem dX4_takeName_18 : decode cX4_takeName 18 = .ok (.istore_n 2, 1) := by decide +kernel
theorem dX4_takeName_19 : decode cX4_takeName 19 = .ok (.iload_n 2, 1) := by decide +kernel
theorem dX4_takeName_20 : decode cX4_takeName 20 = .ok (.aload_n 0, 1) := by decide +kernel
theorem dX4_takeName_21 : decode cX4_takeName 21 = .ok (.getfield 73, 3) := by decide +kernel
theorem dX4_takeName_24 : decode cX4_takeName 24 = .ok (.if_icmp .ge 23, 3) := by decide +kernel
theorem dX4_takeName_27 : decode cX4_takeName 27 = .ok (.aload_n 0, 1) := by decide +kernel
theorem dX4_takeName_28 : decode cX4_takeName 28 = .ok (.getfield 23, 3) := by decide +kernel
theorem dX4_takeName_31 : decode cX4_takeName 31 = .ok (.iload_n 2, 1) := by decide +kernel
theorem dX4_takeName_32 : decode cX4_takeName 32 = .ok (.aload_n 0, 1) := by decide +kernel
theorem dX4_takeName_33 : decode cX4_takeName 33 = .ok (.getfield 23, 3) := by decide +kernel
theorem dX4_takeName_36 : decode cX4_takeName 36 = .ok (.iload_n 2, 1) := by decide +kernel
theorem dX4_takeName_37 : decode cX4_takeName 37 = .ok (.iconst 1, 1) := by decide +kernel
theorem dX4_takeName_38 : decode cX4_takeName 38 = .ok (.iadd, 1) := by decide +kernel
theorem dX4_takeName_39 : decode cX4_takeName 39 = .ok (.iaload, 1) := by decide +kernel
theorem dX4_takeName_40 : decode cX4_takeName 40 = .ok (.iastore, 1) := by decide +kernel
theorem dX4_takeName_41 : decode cX4_takeName 41 = .ok (.iinc 2 1, 3) := by decide +kernel
theorem dX4_takeName_44 : decode cX4_takeName 44 = .ok (.goto (-25), 3) := by decide +kernel
theorem dX4_takeName_47 : decode cX4_takeName 47 = .ok (.iload_n 1, 1) := by decide +kernel
theorem dX4_takeName_48 : decode cX4_takeName 48 = .ok (.ireturn, 1) := by decide +kernel
set_option maxRecDepth 20000 in
theorem ggX4_add_X4_placeOf : GoodIn wsX4_add wsX4_placeOf := goodIn_r _ [14, 15, 16, 17, 18, 19, 20, 21, 22, 23, 24, 25, 26, 27, 28, 29, 30, 31, 32, 33, 34, 35, 36, 37, 38, 39, 40, 41, 42, 43, 44, 45] (by decide +kernel) (by decide +kernel)
set_option maxRecDepth 20000 in
theorem gX4_add_X4_placeOf : GoodIn wsX4_add (wsV RX4 89 RX4 yX4_placeOf wsX4_placeOf) := goodIn_app (goodIn_of _ (by decide +kernel)) ggX4_add_X4_placeOf
theorem dX4_add_0 : decode cX4_add 0 = .ok (.aload_n 0, 1) := by decide +kernel
theorem dX4_add_1 : decode cX4_add 1 = .ok (.getfield 26, 3) := by decide +kernel
theorem dX4_add_4 : decode cX4_add 4 = .ok (.aload_n 0, 1) := by decide +kernel
theorem dX4_add_5 : decode cX4_add 5 = .ok (.getfield 86, 3) := by decide +kernel
theorem dX4_add_8 : decode cX4_add 8 = .ok (.iload_n 1, 1) := by decide +kernel
theorem dX4_add_9 : decode cX4_add 9 = .ok (.iastore, 1) := by decide +kernel
theorem dX4_add_10 : decode cX4_add 10 = .ok (.aload_n 0, 1) := by decide +kernel
theorem dX4_add_11 : decode cX4_add 11 = .ok (.getfield 29, 3) := by decide +kernel
theorem dX4_add_14 : decode cX4_add 14 = .ok (.aload_n 0, 1) := by decide +kernel
theorem dX4_add_15 : decode cX4_add 15 = .ok (.getfield 86, 3) := by decide +kernel
theorem dX4_add_18 : decode cX4_add 18 = .ok (.iload_n 2, 1) := by decide +kernel
theorem dX4_add_19 : decode cX4_add 19 = .ok (.iastore, 1) := by decide +kernel
theorem dX4_add_20 : decode cX4_add 20 = .ok (.aload_n 0, 1) := by decide +kernel
theorem dX4_add_21 : decode cX4_add 21 = .ok (.getfield 32, 3) := by decide +kernel
theorem dX4_add_24 : decode cX4_add 24 = .ok (.aload_n 0, 1) := by decide +kernel
theorem dX4_add_25 : decode cX4_add 25 = .ok (.getfield 86, 3) := by decide +kernel
theorem dX4_add_28 : decode cX4_add 28 = .ok (.iload_n 3, 1) := by decide +kernel
theorem dX4_add_29 : decode cX4_add 29 = .ok (.iastore, 1) := by decide +kernel
theorem dX4_add_30 : decode cX4_add 30 = .ok (.aload_n 0, 1) := by decide +kernel
theorem dX4_add_31 : decode cX4_add 31 = .ok (.getfield 35, 3) := by decide +kernel
theorem dX4_add_34 : decode cX4_add 34 = .ok (.aload_n 0, 1) := by decide +kernel
theorem dX4_add_35 : decode cX4_add 35 = .ok (.getfield 86, 3) := by decide +kernel
theorem dX4_add_38 : decode cX4_add 38 = .ok (.iload 4, 2) := by decide +kernel
theorem dX4_add_40 : decode cX4_add 40 = .ok (.ifCond .ge 7, 3) := by decide +kernel
theorem dX4_add_43 : decode cX4_add 43 = .ok (.iconst (-1), 1) := by decide +kernel
theorem dX4_add_44 : decode cX4_add 44 = .ok (.goto 10, 3) := by decide +kernel
theorem dX4_add_47 : decode cX4_add 47 = .ok (.aload_n 0, 1) := by decide +kernel
theorem dX4_add_48 : decode cX4_add 48 = .ok (.getfield 7, 3) := by decide +kernel
theorem dX4_add_51 : decode cX4_add 51 = .ok (.iload 4, 2) := by decide +kernel
theorem dX4_add_53 : decode cX4_add 53 = .ok (.iaload, 1) := by decide +kernel
theorem dX4_add_54 : decode cX4_add 54 = .ok (.iastore, 1) := by decide +kernel
theorem dX4_add_55 : decode cX4_add 55 = .ok (.aload_n 0, 1) := by decide +kernel
theorem dX4_add_56 : decode cX4_add 56 = .ok (.getfield 38, 3) := by decide +kernel
theorem dX4_add_59 : decode cX4_add 59 = .ok (.aload_n 0, 1) := by decide +kernel
theorem dX4_add_60 : decode cX4_add 60 = .ok (.getfield 86, 3) := by decide +kernel
theorem dX4_add_63 : decode cX4_add 63 = .ok (.iload 4, 2) := by decide +kernel
theorem dX4_add_65 : decode cX4_add 65 = .ok (.iastore, 1) := by decide +kernel
theorem dX4_add_66 : decode cX4_add 66 = .ok (.aload_n 0, 1) := by decide +kernel
theorem dX4_add_67 : decode cX4_add 67 = .ok (.getfield 41, 3) := by decide +kernel
theorem dX4_add_70 : decode cX4_add 70 = .ok (.aload_n 0, 1) := by decide +kernel
theorem dX4_add_71 : decode cX4_add 71 = .ok (.getfield 86, 3) := by decide +kernel
theorem dX4_add_74 : decode cX4_add 74 = .ok (.iconst 0, 1) := by decide +kernel
theorem dX4_add_75 : decode cX4_add 75 = .ok (.iastore, 1) := by decide +kernel
theorem dX4_add_76 : decode cX4_add 76 = .ok (.aload_n 0, 1) := by decide +kernel
theorem dX4_add_77 : decode cX4_add 77 = .ok (.getfield 44, 3) := by decide +kernel
theorem dX4_add_80 : decode cX4_add 80 = .ok (.aload_n 0, 1) := by decide +kernel
theorem dX4_add_81 : decode cX4_add 81 = .ok (.getfield 86, 3) := by decide +kernel
theorem dX4_add_84 : decode cX4_add 84 = .ok (.iload 5, 2) := by decide +kernel
theorem dX4_add_86 : decode cX4_add 86 = .ok (.iastore, 1) := by decide +kernel
theorem dX4_add_87 : decode cX4_add 87 = .ok (.iload 4, 2) := by decide +kernel
theorem dX4_add_89 : decode cX4_add 89 = .ok (.ifCond .lt 11, 3) := by decide +kernel
theorem dX4_add_92 : decode cX4_add 92 = .ok (.aload_n 0, 1) := by decide +kernel
theorem dX4_add_93 : decode cX4_add 93 = .ok (.getfield 7, 3) := by decide +kernel
theorem dX4_add_96 : decode cX4_add 96 = .ok (.iload 4, 2) := by decide +kernel
theorem dX4_add_98 : decode cX4_add 98 = .ok (.iload_n 3, 1) := by decide +kernel
theorem dX4_add_99 : decode cX4_add 99 = .ok (.iastore, 1) := by decide +kernel
theorem dX4_add_100 : decode cX4_add 100 = .ok (.aload_n 0, 1) := by decide +kernel
theorem dX4_add_101 : decode cX4_add 101 = .ok (.dup, 1) := by decide +kernel
theorem dX4_add_102 : decode cX4_add 102 = .ok (.getfield 86, 3) := by decide +kernel
theorem dX4_add_105 : decode cX4_add 105 = .ok (.iconst 1, 1) := by decide +kernel
theorem dX4_add_106 : decode cX4_add 106 = .ok (.iadd, 1) := by decide +kernel
theorem dX4_add_107 : decode cX4_add 107 = .ok (.putfield 86, 3) := by decide +kernel
theorem dX4_add_110 : decode cX4_add 110 = .ok (.aload_n 0, 1) := by decide +kernel
theorem dX4_add_111 : decode cX4_add 111 = .ok (.aload_n 0, 1) := by decide +kernel
theorem dX4_add_112 : decode cX4_add 112 = .ok (.getfield 86, 3) := by decide +kernel
theorem dX4_add_115 : decode cX4_add 115 = .ok (.iconst 1, 1) := by decide +kernel
theorem dX4_add_116 : decode cX4_add 116 = .ok (.isub, 1) := by decide +kernel
theorem dX4_add_117 : decode cX4_add 117 = .ok (.invokevirtual 89, 3) := by decide +kernel
theorem dX4_add_120 : decode cX4_add 120 = .ok (.ireturn, 1) := by decide +kernel
set_option maxRecDepth 20000 in
theorem ggX4_dispatch_X4_isRegister : GoodIn wsX4_dispatch wsX4_isRegister := goodIn_r _ [13, 14, 41, 42, 43, 44, 45, 46, 47, 48, 49, 50, 51, 52, 53, 54, 55, 56, 57, 58, 59, 60, 61, 62, 63, 64, 65, 66, 67, 68, 69] (by decide +kernel) (by decide +kernel)
set_option maxRecDepth 20000 in
theorem gX4_dispatch_X4_isRegister : GoodIn wsX4_dispatch (wsV RX4 93 RX4 yX4_isRegister wsX4_isRegister) := goodIn_app (goodIn_of _ (by decide +kernel)) ggX4_dispatch_X4_isRegister
set_option maxRecDepth 20000 in
theorem ggX4_dispatch_X4_throwing : GoodIn wsX4_dispatch wsX4_throwing := goodIn_r _ [18, 19, 41, 42, 43, 44, 45, 46, 47, 48, 49, 50, 51, 52, 53, 54, 55, 56, 57, 58, 59, 60, 61, 62, 63, 64, 65, 66, 67, 68, 69] (by decide +kernel) (by decide +kernel)
set_option maxRecDepth 20000 in
theorem gX4_dispatch_X4_throwing : GoodIn wsX4_dispatch (wsV RX4 96 RX4 yX4_throwing wsX4_throwing) := goodIn_app (goodIn_of _ (by decide +kernel)) ggX4_dispatch_X4_throwing
set_option maxRecDepth 20000 in
theorem ggX4_dispatch_X4_takeName : GoodIn wsX4_dispatch wsX4_takeName := goodIn_r _ [23, 24, 4, 41, 42, 43, 44, 45, 46, 47, 48, 49, 50, 51, 52, 53, 54, 55, 56, 57, 58, 59, 60, 61, 62, 63, 64, 65, 66, 67, 68, 69] (by decide +kernel) (by decide +kernel)
set_option maxRecDepth 20000 in
theorem gX4_dispatch_X4_takeName : GoodIn wsX4_dispatch (wsV RX4 106 RX4 yX4_takeName wsX4_takeName) := goodIn_app (goodIn_of _ (by decide +kernel)) ggX4_dispatch_X4_takeName
set_option maxRecDepth 20000 in
theorem ggX4_dispatch_X4_add : GoodIn wsX4_dispatch wsX4_add := goodIn_r _ [28, 29, 1, 30, 31, 32, 6, 33, 34, 35, 36, 37, 38, 12, 39, 40, 2, 41, 42, 43, 44, 45, 46, 47, 48, 49, 50, 51, 52, 53, 54, 55, 56, 57, 58, 59, 60, 61, 62, 63, 64, 65, 66, 67, 68, 69] (by decide +kernel) (by decide +kernel)
set_option maxRecDepth 20000 in
theorem gX4_dispatch_X4_add : GoodIn wsX4_dispatch (wsV RX4 110 RX4 yX4_add wsX4_add) := goodIn_app (goodIn_of _ (by decide +kernel)) ggX4_dispatch_X4_add
theorem dX4_dispatch_0 : decode cX4_dispatch 0 = .ok (.iload_n 1, 1) := by decide +kernel
theorem dX4_dispatch_1 : decode cX4_dispatch 1 = .ok (.iconst (-1), 1) := by decide +kernel
theorem dX4_dispatch_2 : decode cX4_dispatch 2 = .ok (.if_icmp .eq 11, 3) := by decide +kernel
theorem dX4_dispatch_5 : decode cX4_dispatch 5 = .ok (.aload_n 0, 1) := by decide +kernel
theorem dX4_dispatch_6 : decode cX4_dispatch 6 = .ok (.iload_n 1, 1) := by decide +kernel
theorem dX4_dispatch_7 : decode cX4_dispatch 7 = .ok (.invokevirtual 93, 3) := by decide +kernel
theorem dX4_dispatch_10 : decode cX4_dispatch 10 = .ok (.ifCond .eq 29, 3) := by decide +kernel
theorem dX4_dispatch_13 : decode cX4_dispatch 13 = .ok (.iload_n 2, 1) := by decide +kernel
theorem dX4_dispatch_14 : decode cX4_dispatch 14 = .ok (.iconst (-1), 1) := by decide +kernel
theorem dX4_dispatch_15 : decode cX4_dispatch 15 = .ok (.if_icmp .eq 11, 3) := by decide +kernel
theorem dX4_dispatch_18 : decode cX4_dispatch 18 = .ok (.aload_n 0, 1) := by decide +kernel
theorem dX4_dispatch_19 : decode cX4_dispatch 19 = .ok (.iload_n 2, 1) := by decide +kernel
theorem dX4_dispatch_20 : decode cX4_dispatch 20 = .ok (.invokevirtual 93, 3) := by decide +kernel
theorem dX4_dispatch_23 : decode cX4_dispatch 23 = .ok (.ifCond .eq 16, 3) := by decide +kernel
theorem dX4_dispatch_26 : decode cX4_dispatch 26 = .ok (.iload_n 3, 1) := by decide +kernel
theorem dX4_dispatch_27 : decode cX4_dispatch 27 = .ok (.iconst (-1), 1) := by decide +kernel
theorem dX4_dispatch_28 : decode cX4_dispatch 28 = .ok (.if_icmp .eq 15, 3) := by decide +kernel
theorem dX4_dispatch_31 : decode cX4_dispatch 31 = .ok (.aload_n 0, 1) := by decide +kernel
theorem dX4_dispatch_32 : decode cX4_dispatch 32 = .ok (.iload_n 3, 1) := by decide +kernel
theorem dX4_dispatch_33 : decode cX4_dispatch 33 = .ok (.invokevirtual 93, 3) := by decide +kernel
theorem dX4_dispatch_36 : decode cX4_dispatch 36 = .ok (.ifCond .ne 7, 3) := by decide +kernel
theorem dX4_dispatch_39 : decode cX4_dispatch 39 = .ok (.iconst 1, 1) := by decide +kernel
theorem dX4_dispatch_40 : decode cX4_dispatch 40 = .ok (.goto 4, 3) := by decide +kernel
theorem dX4_dispatch_43 : decode cX4_dispatch 43 = .ok (.iconst 0, 1) := by decide +kernel
theorem dX4_dispatch_44 : decode cX4_dispatch 44 = .ok (.istore 4, 2) := by decide +kernel
theorem dX4_dispatch_46 : decode cX4_dispatch 46 = .ok (.aload_n 0, 1) := by decide +kernel
theorem dX4_dispatch_47 : decode cX4_dispatch 47 = .ok (.iload 4, 2) := by decide +kernel
theorem dX4_dispatch_49 : decode cX4_dispatch 49 = .ok (.iconst 0, 1) := by decide +kernel
theorem dX4_dispatch_50 : decode cX4_dispatch 50 = .ok (.iconst 0, 1) := by decide +kernel
theorem dX4_dispatch_51 : decode cX4_dispatch 51 = .ok (.invokevirtual 96, 3) := by decide +kernel
theorem dX4_dispatch_54 : decode cX4_dispatch 54 = .ok (.ifCond .eq 5, 3) := by decide +kernel
theorem dX4_dispatch_57 : decode cX4_dispatch 57 = .ok (.iconst 0, 1) := by decide +kernel
theorem dX4_dispatch_58 : decode cX4_dispatch 58 = .ok (.ireturn, 1) := by decide +kernel
theorem dX4_dispatch_59 : decode cX4_dispatch 59 = .ok (.aload_n 0, 1) := by decide +kernel
theorem dX4_dispatch_60 : decode cX4_dispatch 60 = .ok (.getfield 86, 3) := by decide +kernel
theorem dX4_dispatch_63 : decode cX4_dispatch 63 = .ok (.aload_n 0, 1) := by decide +kernel
theorem dX4_dispatch_64 : decode cX4_dispatch 64 = .ok (.getfield 70, 3) := by decide +kernel
theorem dX4_dispatch_67 : decode cX4_dispatch 67 = .ok (.if_icmp .ne 15, 3) := by decide +kernel
theorem dX4_dispatch_70 : decode cX4_dispatch 70 = .ok (.aload_n 0, 1) := by decide +kernel
theorem dX4_dispatch_71 : decode cX4_dispatch 71 = .ok (.dup, 1) := by decide +kernel
theorem dX4_dispatch_72 : decode cX4_dispatch 72 = .ok (.getfield 100, 3) := by decide +kernel
theorem dX4_dispatch_75 : decode cX4_dispatch 75 = .ok (.iconst 1, 1) := by decide +kernel
theorem dX4_dispatch_76 : decode cX4_dispatch 76 = .ok (.iadd, 1) := by decide +kernel
theorem dX4_dispatch_77 : decode cX4_dispatch 77 = .ok (.putfield 100, 3) := by decide +kernel
theorem dX4_dispatch_80 : decode cX4_dispatch 80 = .ok (.iconst (-1), 1) := by decide +kernel
theorem dX4_dispatch_81 : decode cX4_dispatch 81 = .ok (.ireturn, 1) := by decide +kernel
theorem dX4_dispatch_82 : decode cX4_dispatch 82 = .ok (.iload_n 3, 1) := by decide +kernel
theorem dX4_dispatch_83 : decode cX4_dispatch 83 = .ok (.ifCond .lt 22, 3) := by decide +kernel
theorem dX4_dispatch_86 : decode cX4_dispatch 86 = .ok (.aload_n 0, 1) := by decide +kernel
theorem dX4_dispatch_87 : decode cX4_dispatch 87 = .ok (.getfield 73, 3) := by decide +kernel
theorem dX4_dispatch_90 : decode cX4_dispatch 90 = .ok (.ifCond .ne 15, 3) := by decide +kernel
theorem dX4_dispatch_93 : decode cX4_dispatch 93 = .ok (.aload_n 0, 1) := by decide +kernel
theorem dX4_dispatch_94 : decode cX4_dispatch 94 = .ok (.dup, 1) := by decide +kernel
theorem dX4_dispatch_95 : decode cX4_dispatch 95 = .ok (.getfield 103, 3) := by decide +kernel
theorem dX4_dispatch_98 : decode cX4_dispatch 98 = .ok (.iconst 1, 1) := by decide +kernel
theorem dX4_dispatch_99 : decode cX4_dispatch 99 = .ok (.iadd, 1) := by decide +kernel
theorem dX4_dispatch_100 : decode cX4_dispatch 100 = .ok (.putfield 103, 3) := by decide +kernel
theorem dX4_dispatch_103 : decode cX4_dispatch 103 = .ok (.iconst (-1), 1) := by decide +kernel
theorem dX4_dispatch_104 : decode cX4_dispatch 104 = .ok (.ireturn, 1) := by decide +kernel
theorem dX4_dispatch_105 : decode cX4_dispatch 105 = .ok (.iload_n 1, 1) := by decide +kernel
theorem dX4_dispatch_106 : decode cX4_dispatch 106 = .ok (.ifCond .ge 7, 3) := by decide +kernel
theorem dX4_dispatch_109 : decode cX4_dispatch 109 = .ok (.iconst (-1), 1) := by decide +kernel
theorem dX4_dispatch_110 : decode cX4_dispatch 110 = .ok (.goto 9, 3) := by decide +kernel
theorem dX4_dispatch_113 : decode cX4_dispatch 113 = .ok (.aload_n 0, 1) := by decide +kernel
theorem dX4_dispatch_114 : decode cX4_dispatch 114 = .ok (.getfield 7, 3) := by decide +kernel
theorem dX4_dispatch_117 : decode cX4_dispatch 117 = .ok (.iload_n 1, 1) := by decide +kernel
theorem dX4_dispatch_118 : decode cX4_dispatch 118 = .ok (.iaload, 1) := by decide +kernel
theorem dX4_dispatch_119 : decode cX4_dispatch 119 = .ok (.istore 5, 2) := by decide +kernel
theorem dX4_dispatch_121 : decode cX4_dispatch 121 = .ok (.iload_n 2, 1) := by decide +kernel
theorem dX4_dispatch_122 : decode cX4_dispatch 122 = .ok (.ifCond .ge 7, 3) := by decide +kernel
theorem dX4_dispatch_125 : decode cX4_dispatch 125 = .ok (.iconst (-1), 1) := by decide +kernel
theorem dX4_dispatch_126 : decode cX4_dispatch 126 = .ok (.goto 9, 3) := by decide +kernel
theorem dX4_dispatch_129 : decode cX4_dispatch 129 = .ok (.aload_n 0, 1) := by decide +kernel
theorem dX4_dispatch_130 : decode cX4_dispatch 130 = .ok (.getfield 7, 3) := by decide +kernel
theorem dX4_dispatch_133 : decode cX4_dispatch 133 = .ok (.iload_n 2, 1) := by decide +kernel
theorem dX4_dispatch_134 : decode cX4_dispatch 134 = .ok (.iaload, 1) := by decide +kernel
theorem dX4_dispatch_135 : decode cX4_dispatch 135 = .ok (.istore 6, 2) := by decide +kernel
theorem dX4_dispatch_137 : decode cX4_dispatch 137 = .ok (.iconst (-1), 1) := by decide +kernel
theorem dX4_dispatch_138 : decode cX4_dispatch 138 = .ok (.istore 7, 2) := by decide +kernel
theorem dX4_dispatch_140 : decode cX4_dispatch 140 = .ok (.iload_n 3, 1) := by decide +kernel
theorem dX4_dispatch_141 : decode cX4_dispatch 141 = .ok (.ifCond .lt 25, 3) := by decide +kernel
theorem dX4_dispatch_144 : decode cX4_dispatch 144 = .ok (.aload_n 0, 1) := by decide +kernel
theorem dX4_dispatch_145 : decode cX4_dispatch 145 = .ok (.invokevirtual 106, 3) := by decide +kernel
theorem dX4_dispatch_148 : decode cX4_dispatch 148 = .ok (.istore 7, 2) := by decide +kernel
theorem dX4_dispatch_150 : decode cX4_dispatch 150 = .ok (.aload_n 0, 1) := by decide +kernel
theorem dX4_dispatch_151 : decode cX4_dispatch 151 = .ok (.getfield 16, 3) := by decide +kernel
theorem dX4_dispatch_154 : decode cX4_dispatch 154 = .ok (.iload 7, 2) := by decide +kernel
theorem dX4_dispatch_156 : decode cX4_dispatch 156 = .ok (.iconst 1, 1) := by decide +kernel
theorem dX4_dispatch_157 : decode cX4_dispatch 157 = .ok (.iastore, 1) := by decide +kernel
theorem dX4_dispatch_158 : decode cX4_dispatch 158 = .ok (.aload_n 0, 1) := by decide +kernel
theorem dX4_dispatch_159 : decode cX4_dispatch 159 = .ok (.getfield 19, 3) := by decide +kernel
theorem dX4_dispatch_162 : decode cX4_dispatch 162 = .ok (.iload 7, 2) := by decide +kernel
theorem dX4_dispatch_164 : decode cX4_dispatch 164 = .ok (.iconst 0, 1) := by decide +kernel
theorem dX4_dispatch_165 : decode cX4_dispatch 165 = .ok (.bastore, 1) := by decide +kernel
theorem dX4_dispatch_166 : decode cX4_dispatch 166 = .ok (.aload_n 0, 1) := by decide +kernel
theorem dX4_dispatch_167 : decode cX4_dispatch 167 = .ok (.iload 5, 2) := by decide +kernel
theorem dX4_dispatch_169 : decode cX4_dispatch 169 = .ok (.iload 6, 2) := by decide +kernel
theorem dX4_dispatch_171 : decode cX4_dispatch 171 = .ok (.iload 7, 2) := by decide +kernel
theorem dX4_dispatch_173 : decode cX4_dispatch 173 = .ok (.iload_n 3, 1) := by decide +kernel
theorem dX4_dispatch_174 : decode cX4_dispatch 174 = .ok (.iconst 0, 1) := by decide +kernel
theorem dX4_dispatch_175 : decode cX4_dispatch 175 = .ok (.invokevirtual 110, 3) := by decide +kernel
theorem dX4_dispatch_178 : decode cX4_dispatch 178 = .ok (.ireturn, 1) := by decide +kernel
set_option maxRecDepth 20000 in
theorem ggX4_move_X4_isRegister : GoodIn wsX4_move wsX4_isRegister := goodIn_r _ [10, 11, 33, 34, 35, 36, 37, 38, 39, 40, 41, 42, 43, 44, 45, 46, 47, 48, 49, 50, 51, 52, 53, 54, 55, 56, 57, 58, 59, 60, 61] (by decide +kernel) (by decide +kernel)
set_option maxRecDepth 20000 in
theorem gX4_move_X4_isRegister : GoodIn wsX4_move (wsV RX4 93 RX4 yX4_isRegister wsX4_isRegister) := goodIn_app (goodIn_of _ (by decide +kernel)) ggX4_move_X4_isRegister
set_option maxRecDepth 20000 in
theorem ggX4_move_X4_throwing : GoodIn wsX4_move wsX4_throwing := goodIn_r _ [15, 16, 33, 34, 35, 36, 37, 38, 39, 40, 41, 42, 43, 44, 45, 46, 47, 48, 49, 50, 51, 52, 53, 54, 55, 56, 57, 58, 59, 60, 61] (by decide +kernel) (by decide +kernel)
set_option maxRecDepth 20000 in
theorem gX4_move_X4_throwing : GoodIn wsX4_move (wsV RX4 96 RX4 yX4_throwing wsX4_throwing) := goodIn_app (goodIn_of _ (by decide +kernel)) ggX4_move_X4_throwing
set_option maxRecDepth 20000 in
theorem ggX4_move_X4_add : GoodIn wsX4_move wsX4_add := goodIn_r _ [20, 21, 1, 22, 23, 24, 5, 25, 26, 27, 28, 29, 30, 9, 31, 32, 2, 33, 34, 35, 36, 37, 38, 39, 40, 41, 42, 43, 44, 45, 46, 47, 48, 49, 50, 51, 52, 53, 54, 55, 56, 57, 58, 59, 60, 61] (by decide +kernel) (by decide +kernel)
set_option maxRecDepth 20000 in
theorem gX4_move_X4_add : GoodIn wsX4_move (wsV RX4 110 RX4 yX4_add wsX4_add) := goodIn_app (goodIn_of _ (by decide +kernel)) ggX4_move_X4_add
theorem dX4_move_0 : decode cX4_move 0 = .ok (.aload_n 0, 1) := by decide +kernel
theorem dX4_move_1 : decode cX4_move 1 = .ok (.aload_n 0, 1) := by decide +kernel
theorem dX4_move_2 : decode cX4_move 2 = .ok (.iload_n 1, 1) := by decide +kernel
theorem dX4_move_3 : decode cX4_move 3 = .ok (.invokevirtual 93, 3) := by decide +kernel
theorem dX4_move_6 : decode cX4_move 6 = .ok (.ifCond .eq 11, 3) := by decide +kernel
theorem dX4_move_9 : decode cX4_move 9 = .ok (.aload_n 0, 1) := by decide +kernel
theorem dX4_move_10 : decode cX4_move 10 = .ok (.iload_n 2, 1) := by decide +kernel
theorem dX4_move_11 : decode cX4_move 11 = .ok (.invokevirtual 93, 3) := by decide +kernel
theorem dX4_move_14 : decode cX4_move 14 = .ok (.ifCond .ne 7, 3) := by decide +kernel
theorem dX4_move_17 : decode cX4_move 17 = .ok (.iconst 1, 1) := by decide +kernel
theorem dX4_move_18 : decode cX4_move 18 = .ok (.goto 4, 3) := by decide +kernel
theorem dX4_move_21 : decode cX4_move 21 = .ok (.iconst 0, 1) := by decide +kernel
theorem dX4_move_22 : decode cX4_move 22 = .ok (.iconst 0, 1) := by decide +kernel
theorem dX4_move_23 : decode cX4_move 23 = .ok (.iconst 0, 1) := by decide +kernel
theorem dX4_move_24 : decode cX4_move 24 = .ok (.invokevirtual 96, 3) := by decide +kernel
theorem dX4_move_27 : decode cX4_move 27 = .ok (.ifCond .eq 5, 3) := by decide +kernel
theorem dX4_move_30 : decode cX4_move 30 = .ok (.iconst 0, 1) := by decide +kernel
theorem dX4_move_31 : decode cX4_move 31 = .ok (.ireturn, 1) := by decide +kernel
theorem dX4_move_32 : decode cX4_move 32 = .ok (.aload_n 0, 1) := by decide +kernel
theorem dX4_move_33 : decode cX4_move 33 = .ok (.getfield 86, 3) := by decide +kernel
theorem dX4_move_36 : decode cX4_move 36 = .ok (.aload_n 0, 1) := by decide +kernel
theorem dX4_move_37 : decode cX4_move 37 = .ok (.getfield 70, 3) := by decide +kernel
theorem dX4_move_40 : decode cX4_move 40 = .ok (.if_icmp .ne 15, 3) := by decide +kernel
theorem dX4_move_43 : decode cX4_move 43 = .ok (.aload_n 0, 1) := by decide +kernel
theorem dX4_move_44 : decode cX4_move 44 = .ok (.dup, 1) := by decide +kernel
theorem dX4_move_45 : decode cX4_move 45 = .ok (.getfield 100, 3) := by decide +kernel
theorem dX4_move_48 : decode cX4_move 48 = .ok (.iconst 1, 1) := by decide +kernel
theorem dX4_move_49 : decode cX4_move 49 = .ok (.iadd, 1) := by decide +kernel
theorem dX4_move_50 : decode cX4_move 50 = .ok (.putfield 100, 3) := by decide +kernel
theorem dX4_move_53 : decode cX4_move 53 = .ok (.iconst (-1), 1) := by decide +kernel
theorem dX4_move_54 : decode cX4_move 54 = .ok (.ireturn, 1) := by decide +kernel
theorem dX4_move_55 : decode cX4_move 55 = .ok (.aload_n 0, 1) := by decide +kernel
theorem dX4_move_56 : decode cX4_move 56 = .ok (.getfield 16, 3) := by decide +kernel
theorem dX4_move_59 : decode cX4_move 59 = .ok (.aload_n 0, 1) := by decide +kernel
theorem dX4_move_60 : decode cX4_move 60 = .ok (.getfield 7, 3) := by decide +kernel
theorem dX4_move_63 : decode cX4_move 63 = .ok (.iload_n 1, 1) := by decide +kernel
theorem dX4_move_64 : decode cX4_move 64 = .ok (.iaload, 1) := by decide +kernel
theorem dX4_move_65 : decode cX4_move 65 = .ok (.dup2, 1) := by decide +kernel
theorem dX4_move_66 : decode cX4_move 66 = .ok (.iaload, 1) := by decide +kernel
theorem dX4_move_67 : decode cX4_move 67 = .ok (.iconst 1, 1) := by decide +kernel
theorem dX4_move_68 : decode cX4_move 68 = .ok (.iadd, 1) := by decide +kernel
theorem dX4_move_69 : decode cX4_move 69 = .ok (.iastore, 1) := by decide +kernel
theorem dX4_move_70 : decode cX4_move 70 = .ok (.aload_n 0, 1) := by decide +kernel
theorem dX4_move_71 : decode cX4_move 71 = .ok (.aload_n 0, 1) := by decide +kernel
theorem dX4_move_72 : decode cX4_move 72 = .ok (.getfield 7, 3) := by decide +kernel
theorem dX4_move_75 : decode cX4_move 75 = .ok (.iload_n 1, 1) := by decide +kernel
theorem dX4_move_76 : decode cX4_move 76 = .ok (.iaload, 1) := by decide +kernel
theorem dX4_move_77 : decode cX4_move 77 = .ok (.iconst (-1), 1) := by decide +kernel
theorem dX4_move_78 : decode cX4_move 78 = .ok (.aload_n 0, 1) := by decide +kernel
theorem dX4_move_79 : decode cX4_move 79 = .ok (.getfield 7, 3) := by decide +kernel
theorem dX4_move_82 : decode cX4_move 82 = .ok (.iload_n 1, 1) := by decide +kernel
theorem dX4_move_83 : decode cX4_move 83 = .ok (.iaload, 1) := by decide +kernel
theorem dX4_move_84 : decode cX4_move 84 = .ok (.iload_n 2, 1) := by decide +kernel
theorem dX4_move_85 : decode cX4_move 85 = .ok (.iconst 2, 1) := by decide +kernel
theorem dX4_move_86 : decode cX4_move 86 = .ok (.invokevirtual 110, 3) := by decide +kernel
theorem dX4_move_89 : decode cX4_move 89 = .ok (.ireturn, 1) := by decide +kernel
set_option maxRecDepth 20000 in
theorem ggX4_port_X4_isPlace : GoodIn wsX4_port wsX4_isPlace := goodIn_r _ [7, 8, 20, 21, 22, 23, 24, 25, 26, 27, 28, 29, 30, 31, 32, 33, 34, 35, 36, 37, 38, 39, 40, 41, 42, 43, 44, 45, 46, 47, 48] (by decide +kernel) (by decide +kernel)
set_option maxRecDepth 20000 in
theorem gX4_port_X4_isPlace : GoodIn wsX4_port (wsV RX4 114 RX4 yX4_isPlace wsX4_isPlace) := goodIn_app (goodIn_of _ (by decide +kernel)) ggX4_port_X4_isPlace
set_option maxRecDepth 20000 in
theorem ggX4_port_X4_at : GoodIn wsX4_port wsX4_at := goodIn_r _ [12, 13, 8, 14, 20, 21, 22, 23, 24, 25, 26, 27, 28, 29, 30, 31, 32, 33, 34, 35, 36, 37, 38, 39, 40, 41, 42, 43, 44, 45, 46, 47, 48] (by decide +kernel) (by decide +kernel)
set_option maxRecDepth 20000 in
theorem gX4_port_X4_at : GoodIn wsX4_port (wsV RX4 117 RX4 yX4_at wsX4_at) := goodIn_app (goodIn_of _ (by decide +kernel)) ggX4_port_X4_at
set_option maxRecDepth 20000 in
theorem ggX4_port_X4_throwing : GoodIn wsX4_port wsX4_throwing := goodIn_r _ [18, 19, 20, 21, 22, 23, 24, 25, 26, 27, 28, 29, 30, 31, 32, 33, 34, 35, 36, 37, 38, 39, 40, 41, 42, 43, 44, 45, 46, 47, 48] (by decide +kernel) (by decide +kernel)
set_option maxRecDepth 20000 in
theorem gX4_port_X4_throwing : GoodIn wsX4_port (wsV RX4 96 RX4 yX4_throwing wsX4_throwing) := goodIn_app (goodIn_of _ (by decide +kernel)) ggX4_port_X4_throwing
theorem dX4_port_0 : decode cX4_port 0 = .ok (.aload_n 0, 1) := by decide +kernel
theorem dX4_port_1 : decode cX4_port 1 = .ok (.iload_n 1, 1) := by decide +kernel
theorem dX4_port_2 : decode cX4_port 2 = .ok (.invokevirtual 114, 3) := by decide +kernel
theorem dX4_port_5 : decode cX4_port 5 = .ok (.ifCond .eq 11, 3) := by decide +kernel
theorem dX4_port_8 : decode cX4_port 8 = .ok (.aload_n 0, 1) := by decide +kernel
theorem dX4_port_9 : decode cX4_port 9 = .ok (.iload_n 1, 1) := by decide +kernel
theorem dX4_port_10 : decode cX4_port 10 = .ok (.invokevirtual 117, 3) := by decide +kernel
theorem dX4_port_13 : decode cX4_port 13 = .ok (.goto 4, 3) := by decide +kernel
theorem dX4_port_16 : decode cX4_port 16 = .ok (.iconst (-1), 1) := by decide +kernel
theorem dX4_port_17 : decode cX4_port 17 = .ok (.istore_n 3, 1) := by decide +kernel
theorem dX4_port_18 : decode cX4_port 18 = .ok (.aload_n 0, 1) := by decide +kernel
theorem dX4_port_19 : decode cX4_port 19 = .ok (.aload_n 0, 1) := by decide +kernel
theorem dX4_port_20 : decode cX4_port 20 = .ok (.iload_n 1, 1) := by decide +kernel
theorem dX4_port_21 : decode cX4_port 21 = .ok (.invokevirtual 114, 3) := by decide +kernel
theorem dX4_port_24 : decode cX4_port 24 = .ok (.ifCond .ne 7, 3) := by decide +kernel
theorem dX4_port_27 : decode cX4_port 27 = .ok (.iconst 1, 1) := by decide +kernel
theorem dX4_port_28 : decode cX4_port 28 = .ok (.goto 4, 3) := by decide +kernel
theorem dX4_port_31 : decode cX4_port 31 = .ok (.iconst 0, 1) := by decide +kernel
theorem dX4_port_32 : decode cX4_port 32 = .ok (.iload_n 3, 1) := by decide +kernel
theorem dX4_port_33 : decode cX4_port 33 = .ok (.ifCond .lt 20, 3) := by decide +kernel
theorem dX4_port_36 : decode cX4_port 36 = .ok (.aload_n 0, 1) := by decide +kernel
theorem dX4_port_37 : decode cX4_port 37 = .ok (.getfield 44, 3) := by decide +kernel
theorem dX4_port_40 : decode cX4_port 40 = .ok (.iload_n 3, 1) := by decide +kernel
theorem dX4_port_41 : decode cX4_port 41 = .ok (.ifCond .ge 7, 3) := by decide +kernel
theorem dX4_port_44 : decode cX4_port 44 = .ok (.iconst 0, 1) := by decide +kernel
theorem dX4_port_45 : decode cX4_port 45 = .ok (.goto 4, 3) := by decide +kernel
theorem dX4_port_48 : decode cX4_port 48 = .ok (.iload_n 3, 1) := by decide +kernel
theorem dX4_port_49 : decode cX4_port 49 = .ok (.iaload, 1) := by decide +kernel
theorem dX4_port_50 : decode cX4_port 50 = .ok (.ifCond .eq 7, 3) := by decide +kernel
theorem dX4_port_53 : decode cX4_port 53 = .ok (.iconst 1, 1) := by decide +kernel
theorem dX4_port_54 : decode cX4_port 54 = .ok (.goto 4, 3) := by decide +kernel
theorem dX4_port_57 : decode cX4_port 57 = .ok (.iconst 0, 1) := by decide +kernel
theorem dX4_port_58 : decode cX4_port 58 = .ok (.iload_n 2, 1) := by decide +kernel
theorem dX4_port_59 : decode cX4_port 59 = .ok (.ifCond .lt 9, 3) := by decide +kernel
theorem dX4_port_62 : decode cX4_port 62 = .ok (.iload_n 2, 1) := by decide +kernel
theorem dX4_port_63 : decode cX4_port 63 = .ok (.bipush 7, 2) := by decide +kernel
theorem dX4_port_65 : decode cX4_port 65 = .ok (.if_icmp .le 7, 3) := by decide +kernel
theorem dX4_port_68 : decode cX4_port 68 = .ok (.iconst 1, 1) := by decide +kernel
theorem dX4_port_69 : decode cX4_port 69 = .ok (.goto 4, 3) := by decide +kernel
theorem dX4_port_72 : decode cX4_port 72 = .ok (.iconst 0, 1) := by decide +kernel
theorem dX4_port_73 : decode cX4_port 73 = .ok (.invokevirtual 96, 3) := by decide +kernel
theorem dX4_port_76 : decode cX4_port 76 = .ok (.ifCond .eq 5, 3) := by decide +kernel
theorem dX4_port_79 : decode cX4_port 79 = .ok (.iconst 0, 1) := by decide +kernel
theorem dX4_port_80 : decode cX4_port 80 = .ok (.ireturn, 1) := by decide +kernel
theorem dX4_port_81 : decode cX4_port 81 = .ok (.aload_n 0, 1) := by decide +kernel
theorem dX4_port_82 : decode cX4_port 82 = .ok (.getfield 41, 3) := by decide +kernel
theorem dX4_port_85 : decode cX4_port 85 = .ok (.iload_n 3, 1) := by decide +kernel
theorem dX4_port_86 : decode cX4_port 86 = .ok (.iaload, 1) := by decide +kernel
theorem dX4_port_87 : decode cX4_port 87 = .ok (.istore 4, 2) := by decide +kernel
theorem dX4_port_89 : decode cX4_port 89 = .ok (.aload_n 0, 1) := by decide +kernel
theorem dX4_port_90 : decode cX4_port 90 = .ok (.getfield 41, 3) := by decide +kernel
theorem dX4_port_93 : decode cX4_port 93 = .ok (.iload_n 3, 1) := by decide +kernel
theorem dX4_port_94 : decode cX4_port 94 = .ok (.iload_n 2, 1) := by decide +kernel
theorem dX4_port_95 : decode cX4_port 95 = .ok (.iastore, 1) := by decide +kernel
theorem dX4_port_96 : decode cX4_port 96 = .ok (.iload 4, 2) := by decide +kernel
theorem dX4_port_98 : decode cX4_port 98 = .ok (.ireturn, 1) := by decide +kernel
set_option maxRecDepth 20000 in
theorem ggX4_select_X4_throwing : GoodIn wsX4_select wsX4_throwing := goodIn_r _ [9, 10, 28, 29, 30, 31, 32, 33, 34, 35, 36, 37, 38, 39, 40, 41, 42, 43, 44, 45, 46, 47, 48, 49, 50, 51, 52, 53, 54, 55, 56] (by decide +kernel) (by decide +kernel)
set_option maxRecDepth 20000 in
theorem gX4_select_X4_throwing : GoodIn wsX4_select (wsV RX4 96 RX4 yX4_throwing wsX4_throwing) := goodIn_app (goodIn_of _ (by decide +kernel)) ggX4_select_X4_throwing
set_option maxRecDepth 20000 in
theorem ggX4_select_X4_mayGo : GoodIn wsX4_select wsX4_mayGo := goodIn_r _ [14, 4, 15, 16, 17, 18, 19, 8, 20, 21, 28, 29, 30, 31, 32, 33, 34, 35, 36, 37, 38, 39, 40, 41, 42, 43, 44, 45, 46, 47, 48, 49, 50, 51, 52, 53, 54, 55, 56] (by decide +kernel) (by decide +kernel)
set_option maxRecDepth 20000 in
theorem gX4_select_X4_mayGo : GoodIn wsX4_select (wsV RX4 120 RX4 yX4_mayGo wsX4_mayGo) := goodIn_app (goodIn_of _ (by decide +kernel)) ggX4_select_X4_mayGo
set_option maxRecDepth 20000 in
theorem ggX4_select_X4_placeOf : GoodIn wsX4_select wsX4_placeOf := goodIn_r _ [25, 26, 27, 28, 29, 30, 31, 32, 33, 34, 35, 36, 37, 38, 39, 40, 41, 42, 43, 44, 45, 46, 47, 48, 49, 50, 51, 52, 53, 54, 55, 56] (by decide +kernel) (by decide +kernel)
set_option maxRecDepth 20000 in
theorem gX4_select_X4_placeOf : GoodIn wsX4_select (wsV RX4 89 RX4 yX4_placeOf wsX4_placeOf) := goodIn_app (goodIn_of _ (by decide +kernel)) ggX4_select_X4_placeOf
theorem dX4_select_0 : decode cX4_select 0 = .ok (.aload_n 0, 1) := by decide +kernel
theorem dX4_select_1 : decode cX4_select 1 = .ok (.iload_n 1, 1) := by decide +kernel
theorem dX4_select_2 : decode cX4_select 2 = .ok (.iconst 1, 1) := by decide +kernel
theorem dX4_select_3 : decode cX4_select 3 = .ok (.if_icmp .lt 9, 3) := by decide +kernel
theorem dX4_select_6 : decode cX4_select 6 = .ok (.iload_n 1, 1) := by decide +kernel
theorem dX4_select_7 : decode cX4_select 7 = .ok (.bipush 8, 2) := by decide +kernel
theorem dX4_select_9 : decode cX4_select 9 = .ok (.if_icmp .le 7, 3) := by decide +kernel
theorem dX4_select_12 : decode cX4_select 12 = .ok (.iconst 1, 1) := by decide +kernel
theorem dX4_select_13 : decode cX4_select 13 = .ok (.goto 4, 3) := by decide +kernel
theorem dX4_select_16 : decode cX4_select 16 = .ok (.iconst 0, 1) := by decide +kernel
theorem dX4_select_17 : decode cX4_select 17 = .ok (.iconst 0, 1) := by decide +kernel
theorem dX4_select_18 : decode cX4_select 18 = .ok (.iconst 0, 1) := by decide +kernel
theorem dX4_select_19 : decode cX4_select 19 = .ok (.invokevirtual 96, 3) := by decide +kernel
theorem dX4_select_22 : decode cX4_select 22 = .ok (.ifCond .eq 5, 3) := by decide +kernel
theorem dX4_select_25 : decode cX4_select 25 = .ok (.iconst 0, 1) := by decide +kernel
theorem dX4_select_26 : decode cX4_select 26 = .ok (.ireturn, 1) := by decide +kernel
theorem dX4_select_27 : decode cX4_select 27 = .ok (.iconst 0, 1) := by decide +kernel
theorem dX4_select_28 : decode cX4_select 28 = .ok (.istore_n 2, 1) := by decide +kernel
theorem dX4_select_29 : decode cX4_select 29 = .ok (.iconst 0, 1) := by decide +kernel
theorem dX4_select_30 : decode cX4_select 30 = .ok (.istore_n 3, 1) := by decide +kernel
theorem dX4_select_31 : decode cX4_select 31 = .ok (.iload_n 3, 1) := by decide +kernel
theorem dX4_select_32 : decode cX4_select 32 = .ok (.bipush 8, 2) := by decide +kernel
theorem dX4_select_34 : decode cX4_select 34 = .ok (.if_icmp .ge 94, 3) := by decide +kernel
theorem dX4_select_37 : decode cX4_select 37 = .ok (.aload_n 0, 1) := by decide +kernel
theorem dX4_select_38 : decode cX4_select 38 = .ok (.getfield 56, 3) := by decide +kernel
theorem dX4_select_41 : decode cX4_select 41 = .ok (.iload_n 3, 1) := by decide +kernel
theorem dX4_select_42 : decode cX4_select 42 = .ok (.iconst (-1), 1) := by decide +kernel
theorem dX4_select_43 : decode cX4_select 43 = .ok (.iastore, 1) := by decide +kernel
theorem dX4_select_44 : decode cX4_select 44 = .ok (.iconst 0, 1) := by decide +kernel
theorem dX4_select_45 : decode cX4_select 45 = .ok (.istore 4, 2) := by decide +kernel
theorem dX4_select_47 : decode cX4_select 47 = .ok (.iload 4, 2) := by decide +kernel
theorem dX4_select_49 : decode cX4_select 49 = .ok (.aload_n 0, 1) := by decide +kernel
theorem dX4_select_50 : decode cX4_select 50 = .ok (.getfield 86, 3) := by decide +kernel
theorem dX4_select_53 : decode cX4_select 53 = .ok (.if_icmp .ge 69, 3) := by decide +kernel
theorem dX4_select_56 : decode cX4_select 56 = .ok (.iload_n 3, 1) := by decide +kernel
theorem dX4_select_57 : decode cX4_select 57 = .ok (.iload_n 1, 1) := by decide +kernel
theorem dX4_select_58 : decode cX4_select 58 = .ok (.if_icmp .ge 64, 3) := by decide +kernel
theorem dX4_select_61 : decode cX4_select 61 = .ok (.aload_n 0, 1) := by decide +kernel
theorem dX4_select_62 : decode cX4_select 62 = .ok (.getfield 56, 3) := by decide +kernel
theorem dX4_select_65 : decode cX4_select 65 = .ok (.iload_n 3, 1) := by decide +kernel
theorem dX4_select_66 : decode cX4_select 66 = .ok (.iaload, 1) := by decide +kernel
theorem dX4_select_67 : decode cX4_select 67 = .ok (.ifCond .ge 55, 3) := by decide +kernel
theorem dX4_select_70 : decode cX4_select 70 = .ok (.aload_n 0, 1) := by decide +kernel
theorem dX4_select_71 : decode cX4_select 71 = .ok (.getfield 41, 3) := by decide +kernel
theorem dX4_select_74 : decode cX4_select 74 = .ok (.iload 4, 2) := by decide +kernel
theorem dX4_select_76 : decode cX4_select 76 = .ok (.iaload, 1) := by decide +kernel
theorem dX4_select_77 : decode cX4_select 77 = .ok (.iload_n 3, 1) := by decide +kernel
theorem dX4_select_78 : decode cX4_select 78 = .ok (.if_icmp .ne 38, 3) := by decide +kernel
theorem dX4_select_81 : decode cX4_select 81 = .ok (.aload_n 0, 1) := by decide +kernel
theorem dX4_select_82 : decode cX4_select 82 = .ok (.iload 4, 2) := by decide +kernel
theorem dX4_select_84 : decode cX4_select 84 = .ok (.invokevirtual 120, 3) := by decide +kernel
theorem dX4_select_87 : decode cX4_select 87 = .ok (.ifCond .ne 6, 3) := by decide +kernel
theorem dX4_select_90 : decode cX4_select 90 = .ok (.goto 26, 3) := by decide +kernel
theorem dX4_select_93 : decode cX4_select 93 = .ok (.aload_n 0, 1) := by decide +kernel
theorem dX4_select_94 : decode cX4_select 94 = .ok (.getfield 44, 3) := by decide +kernel
theorem dX4_select_97 : decode cX4_select 97 = .ok (.iload 4, 2) := by decide +kernel
theorem dX4_select_99 : decode cX4_select 99 = .ok (.iconst 1, 1) := by decide +kernel
theorem dX4_select_100 : decode cX4_select 100 = .ok (.iastore, 1) := by decide +kernel
theorem dX4_select_101 : decode cX4_select 101 = .ok (.aload_n 0, 1) := by decide +kernel
theorem dX4_select_102 : decode cX4_select 102 = .ok (.getfield 56, 3) := by decide +kernel
theorem dX4_select_105 : decode cX4_select 105 = .ok (.iload_n 3, 1) := by decide +kernel
theorem dX4_select_106 : decode cX4_select 106 = .ok (.aload_n 0, 1) := by decide +kernel
theorem dX4_select_107 : decode cX4_select 107 = .ok (.iload 4, 2) := by decide +kernel
theorem dX4_select_109 : decode cX4_select 109 = .ok (.invokevirtual 89, 3) := by decide +kernel
theorem dX4_select_112 : decode cX4_select 112 = .ok (.iastore, 1) := by decide +kernel
theorem dX4_select_113 : decode cX4_select 113 = .ok (.iinc 2 1, 3) := by decide +kernel
theorem dX4_select_116 : decode cX4_select 116 = .ok (.iinc 4 1, 3) := by decide +kernel
theorem dX4_select_119 : decode cX4_select 119 = .ok (.goto (-72), 3) := by decide +kernel
theorem dX4_select_122 : decode cX4_select 122 = .ok (.iinc 3 1, 3) := by decide +kernel
theorem dX4_select_125 : decode cX4_select 125 = .ok (.goto (-94), 3) := by decide +kernel
theorem dX4_select_128 : decode cX4_select 128 = .ok (.iload_n 2, 1) := by decide +kernel
theorem dX4_select_129 : decode cX4_select 129 = .ok (.ireturn, 1) := by decide +kernel
set_option maxRecDepth 20000 in
theorem ggX4_selected_X4_throwing : GoodIn wsX4_selected wsX4_throwing := goodIn_r _ [6, 7, 8, 9, 10, 11, 12, 13, 14, 15, 16, 17, 18, 19, 20, 21, 22, 23, 24, 25, 26, 27, 28, 29, 30, 31, 32, 33, 34, 35, 36] (by decide +kernel) (by decide +kernel)
set_option maxRecDepth 20000 in
theorem gX4_selected_X4_throwing : GoodIn wsX4_selected (wsV RX4 96 RX4 yX4_throwing wsX4_throwing) := goodIn_app (goodIn_of _ (by decide +kernel)) ggX4_selected_X4_throwing
theorem dX4_selected_0 : decode cX4_selected 0 = .ok (.aload_n 0, 1) := by decide +kernel
theorem dX4_selected_1 : decode cX4_selected 1 = .ok (.iload_n 1, 1) := by decide +kernel
theorem dX4_selected_2 : decode cX4_selected 2 = .ok (.ifCond .lt 9, 3) := by decide +kernel
theorem dX4_selected_5 : decode cX4_selected 5 = .ok (.iload_n 1, 1) := by decide +kernel
theorem dX4_selected_6 : decode cX4_selected 6 = .ok (.bipush 7, 2) := by decide +kernel
theorem dX4_selected_8 : decode cX4_selected 8 = .ok (.if_icmp .le 7, 3) := by decide +kernel
theorem dX4_selected_11 : decode cX4_selected 11 = .ok (.iconst 1, 1) := by decide +kernel
theorem dX4_selected_12 : decode cX4_selected 12 = .ok (.goto 4, 3) := by decide +kernel
theorem dX4_selected_15 : decode cX4_selected 15 = .ok (.iconst 0, 1) := by decide +kernel
theorem dX4_selected_16 : decode cX4_selected 16 = .ok (.iconst 0, 1) := by decide +kernel
theorem dX4_selected_17 : decode cX4_selected 17 = .ok (.iconst 0, 1) := by decide +kernel
theorem dX4_selected_18 : decode cX4_selected 18 = .ok (.invokevirtual 96, 3) := by decide +kernel
theorem dX4_selected_21 : decode cX4_selected 21 = .ok (.ifCond .eq 5, 3) := by decide +kernel
theorem dX4_selected_24 : decode cX4_selected 24 = .ok (.iconst 0, 1) := by decide +kernel
theorem dX4_selected_25 : decode cX4_selected 25 = .ok (.ireturn, 1) := by decide +kernel
theorem dX4_selected_26 : decode cX4_selected 26 = .ok (.aload_n 0, 1) := by decide +kernel
theorem dX4_selected_27 : decode cX4_selected 27 = .ok (.getfield 56, 3) := by decide +kernel
theorem dX4_selected_30 : decode cX4_selected 30 = .ok (.iload_n 1, 1) := by decide +kernel
theorem dX4_selected_31 : decode cX4_selected 31 = .ok (.iaload, 1) := by decide +kernel
theorem dX4_selected_32 : decode cX4_selected 32 = .ok (.ireturn, 1) := by decide +kernel
set_option maxRecDepth 20000 in
theorem ggX4_mayGoAll_X4_mayGo : GoodIn wsX4_mayGoAll wsX4_mayGo := goodIn_r _ [6, 7, 8, 9, 10, 11, 12, 5, 13, 14, 15, 16, 17, 18, 19, 20, 21, 22, 23, 24, 25, 26, 27, 28, 29, 30, 31, 32, 33, 34, 35, 36, 37, 38, 39, 40, 41, 42, 43] (by decide +kernel) (by decide +kernel)
set_option maxRecDepth 20000 in
theorem gX4_mayGoAll_X4_mayGo : GoodIn wsX4_mayGoAll (wsV RX4 120 RX4 yX4_mayGo wsX4_mayGo) := goodIn_app (goodIn_of _ (by decide +kernel)) ggX4_mayGoAll_X4_mayGo
theorem dX4_mayGoAll_0 : decode cX4_mayGoAll 0 = .ok (.iconst 0, 1) := by decide +kernel
theorem dX4_mayGoAll_1 : decode cX4_mayGoAll 1 = .ok (.istore_n 1, 1) := by decide +kernel
theorem dX4_mayGoAll_2 : decode cX4_mayGoAll 2 = .ok (.iconst 0, 1) := by decide +kernel
theorem dX4_mayGoAll_3 : decode cX4_mayGoAll 3 = .ok (.istore_n 2, 1) := by decide +kernel
theorem dX4_mayGoAll_4 : decode cX4_mayGoAll 4 = .ok (.iload_n 2, 1) := by decide +kernel
theorem dX4_mayGoAll_5 : decode cX4_mayGoAll 5 = .ok (.aload_n 0, 1) := by decide +kernel
theorem dX4_mayGoAll_6 : decode cX4_mayGoAll 6 = .ok (.getfield 86, 3) := by decide +kernel
theorem dX4_mayGoAll_9 : decode cX4_mayGoAll 9 = .ok (.if_icmp .ge 25, 3) := by decide +kernel
theorem dX4_mayGoAll_12 : decode cX4_mayGoAll 12 = .ok (.iload_n 1, 1) := by decide +kernel
theorem dX4_mayGoAll_13 : decode cX4_mayGoAll 13 = .ok (.aload_n 0, 1) := by decide +kernel
theorem dX4_mayGoAll_14 : decode cX4_mayGoAll 14 = .ok (.iload_n 2, 1) := by decide +kernel
theorem dX4_mayGoAll_15 : decode cX4_mayGoAll 15 = .ok (.invokevirtual 120, 3) := by decide +kernel
theorem dX4_mayGoAll_18 : decode cX4_mayGoAll 18 = .ok (.ifCond .eq 7, 3) := by decide +kernel
theorem dX4_mayGoAll_21 : decode cX4_mayGoAll 21 = .ok (.iconst 1, 1) := by decide +kernel
theorem dX4_mayGoAll_22 : decode cX4_mayGoAll 22 = .ok (.goto 4, 3) := by decide +kernel
theorem dX4_mayGoAll_25 : decode cX4_mayGoAll 25 = .ok (.iconst 0, 1) := by decide +kernel
theorem dX4_mayGoAll_26 : decode cX4_mayGoAll 26 = .ok (.iadd, 1) := by decide +kernel
theorem dX4_mayGoAll_27 : decode cX4_mayGoAll 27 = .ok (.istore_n 1, 1) := by decide +kernel
theorem dX4_mayGoAll_28 : decode cX4_mayGoAll 28 = .ok (.iinc 2 1, 3) := by decide +kernel
theorem dX4_mayGoAll_31 : decode cX4_mayGoAll 31 = .ok (.goto (-27), 3) := by decide +kernel
theorem dX4_mayGoAll_34 : decode cX4_mayGoAll 34 = .ok (.iload_n 1, 1) := by decide +kernel
theorem dX4_mayGoAll_35 : decode cX4_mayGoAll 35 = .ok (.ireturn, 1) := by decide +kernel
set_option maxRecDepth 20000 in
theorem ggX4_end_X4_isPlace : GoodIn wsX4_end wsX4_isPlace := goodIn_r _ [8, 9, 35, 36, 37, 38, 39, 40, 41, 42, 43, 44, 45, 46, 47, 48, 49, 50, 51, 52, 53, 54, 55, 56, 57, 58, 59, 60, 61, 62, 63] (by decide +kernel) (by decide +kernel)
set_option maxRecDepth 20000 in
theorem gX4_end_X4_isPlace : GoodIn wsX4_end (wsV RX4 114 RX4 yX4_isPlace wsX4_isPlace) := goodIn_app (goodIn_of _ (by decide +kernel)) ggX4_end_X4_isPlace
set_option maxRecDepth 20000 in
theorem ggX4_end_X4_at : GoodIn wsX4_end wsX4_at := goodIn_r _ [13, 14, 9, 15, 35, 36, 37, 38, 39, 40, 41, 42, 43, 44, 45, 46, 47, 48, 49, 50, 51, 52, 53, 54, 55, 56, 57, 58, 59, 60, 61, 62, 63] (by decide +kernel) (by decide +kernel)
set_option maxRecDepth 20000 in
theorem gX4_end_X4_at : GoodIn wsX4_end (wsV RX4 117 RX4 yX4_at wsX4_at) := goodIn_app (goodIn_of _ (by decide +kernel)) ggX4_end_X4_at
set_option maxRecDepth 20000 in
theorem ggX4_end_X4_throwing : GoodIn wsX4_end wsX4_throwing := goodIn_r _ [19, 20, 35, 36, 37, 38, 39, 40, 41, 42, 43, 44, 45, 46, 47, 48, 49, 50, 51, 52, 53, 54, 55, 56, 57, 58, 59, 60, 61, 62, 63] (by decide +kernel) (by decide +kernel)
set_option maxRecDepth 20000 in
theorem gX4_end_X4_throwing : GoodIn wsX4_end (wsV RX4 96 RX4 yX4_throwing wsX4_throwing) := goodIn_app (goodIn_of _ (by decide +kernel)) ggX4_end_X4_throwing
set_option maxRecDepth 20000 in
theorem ggX4_end_X4_mayGoAll : GoodIn wsX4_end wsX4_mayGoAll := goodIn_r _ [24, 15, 25, 26, 27, 7, 28, 1, 29, 30, 31, 32, 33, 34, 3, 35, 36, 37, 38, 39, 40, 41, 42, 43, 44, 45, 46, 47, 48, 49, 50, 51, 52, 53, 54, 55, 56, 57, 58, 59, 60, 61, 62, 63] (by decide +kernel) (by decide +kernel)
set_option maxRecDepth 20000 in
theorem gX4_end_X4_mayGoAll : GoodIn wsX4_end (wsV RX4 123 RX4 yX4_mayGoAll wsX4_mayGoAll) := goodIn_app (goodIn_of _ (by decide +kernel)) ggX4_end_X4_mayGoAll
theorem dX4_end_0 : decode cX4_end 0 = .ok (.aload_n 0, 1) := by decide +kernel
theorem dX4_end_1 : decode cX4_end 1 = .ok (.iload_n 1, 1) := by decide +kernel
theorem dX4_end_2 : decode cX4_end 2 = .ok (.invokevirtual 114, 3) := by decide +kernel
theorem dX4_end_5 : decode cX4_end 5 = .ok (.ifCond .eq 11, 3) := by decide +kernel
theorem dX4_end_8 : decode cX4_end 8 = .ok (.aload_n 0, 1) := by decide +kernel
theorem dX4_end_9 : decode cX4_end 9 = .ok (.iload_n 1, 1) := by decide +kernel
theorem dX4_end_10 : decode cX4_end 10 = .ok (.invokevirtual 117, 3) := by decide +kernel
theorem dX4_end_13 : decode cX4_end 13 = .ok (.goto 4, 3) := by decide +kernel
theorem dX4_end_16 : decode cX4_end 16 = .ok (.iconst (-1), 1) := by decide +kernel
theorem dX4_end_17 : decode cX4_end 17 = .ok (.istore_n 2, 1) := by decide +kernel
theorem dX4_end_18 : decode cX4_end 18 = .ok (.aload_n 0, 1) := by decide +kernel
theorem dX4_end_19 : decode cX4_end 19 = .ok (.aload_n 0, 1) := by decide +kernel
theorem dX4_end_20 : decode cX4_end 20 = .ok (.iload_n 1, 1) := by decide +kernel
theorem dX4_end_21 : decode cX4_end 21 = .ok (.invokevirtual 114, 3) := by decide +kernel
theorem dX4_end_24 : decode cX4_end 24 = .ok (.ifCond .ne 7, 3) := by decide +kernel
theorem dX4_end_27 : decode cX4_end 27 = .ok (.iconst 1, 1) := by decide +kernel
theorem dX4_end_28 : decode cX4_end 28 = .ok (.goto 4, 3) := by decide +kernel
theorem dX4_end_31 : decode cX4_end 31 = .ok (.iconst 0, 1) := by decide +kernel
theorem dX4_end_32 : decode cX4_end 32 = .ok (.iload_n 2, 1) := by decide +kernel
theorem dX4_end_33 : decode cX4_end 33 = .ok (.ifCond .lt 21, 3) := by decide +kernel
theorem dX4_end_36 : decode cX4_end 36 = .ok (.aload_n 0, 1) := by decide +kernel
theorem dX4_end_37 : decode cX4_end 37 = .ok (.getfield 44, 3) := by decide +kernel
theorem dX4_end_40 : decode cX4_end 40 = .ok (.iload_n 2, 1) := by decide +kernel
theorem dX4_end_41 : decode cX4_end 41 = .ok (.ifCond .ge 7, 3) := by decide +kernel
theorem dX4_end_44 : decode cX4_end 44 = .ok (.iconst 0, 1) := by decide +kernel
theorem dX4_end_45 : decode cX4_end 45 = .ok (.goto 4, 3) := by decide +kernel
theorem dX4_end_48 : decode cX4_end 48 = .ok (.iload_n 2, 1) := by decide +kernel
theorem dX4_end_49 : decode cX4_end 49 = .ok (.iaload, 1) := by decide +kernel
theorem dX4_end_50 : decode cX4_end 50 = .ok (.iconst 1, 1) := by decide +kernel
theorem dX4_end_51 : decode cX4_end 51 = .ok (.if_icmp .eq 7, 3) := by decide +kernel
theorem dX4_end_54 : decode cX4_end 54 = .ok (.iconst 1, 1) := by decide +kernel
theorem dX4_end_55 : decode cX4_end 55 = .ok (.goto 4, 3) := by decide +kernel
theorem dX4_end_58 : decode cX4_end 58 = .ok (.iconst 0, 1) := by decide +kernel
theorem dX4_end_59 : decode cX4_end 59 = .ok (.iconst 0, 1) := by decide +kernel
theorem dX4_end_60 : decode cX4_end 60 = .ok (.invokevirtual 96, 3) := by decide +kernel
theorem dX4_end_63 : decode cX4_end 63 = .ok (.ifCond .eq 5, 3) := by decide +kernel
theorem dX4_end_66 : decode cX4_end 66 = .ok (.iconst 0, 1) := by decide +kernel
theorem dX4_end_67 : decode cX4_end 67 = .ok (.ireturn, 1) := by decide +kernel
theorem dX4_end_68 : decode cX4_end 68 = .ok (.aload_n 0, 1) := by decide +kernel
theorem dX4_end_69 : decode cX4_end 69 = .ok (.invokevirtual 123, 3) := by decide +kernel
theorem dX4_end_72 : decode cX4_end 72 = .ok (.istore_n 3, 1) := by decide +kernel
theorem dX4_end_73 : decode cX4_end 73 = .ok (.aload_n 0, 1) := by decide +kernel
theorem dX4_end_74 : decode cX4_end 74 = .ok (.getfield 44, 3) := by decide +kernel
theorem dX4_end_77 : decode cX4_end 77 = .ok (.iload_n 2, 1) := by decide +kernel
theorem dX4_end_78 : decode cX4_end 78 = .ok (.iconst 2, 1) := by decide +kernel
theorem dX4_end_79 : decode cX4_end 79 = .ok (.iastore, 1) := by decide +kernel
theorem dX4_end_80 : decode cX4_end 80 = .ok (.aload_n 0, 1) := by decide +kernel
theorem dX4_end_81 : decode cX4_end 81 = .ok (.getfield 32, 3) := by decide +kernel
theorem dX4_end_84 : decode cX4_end 84 = .ok (.iload_n 2, 1) := by decide +kernel
theorem dX4_end_85 : decode cX4_end 85 = .ok (.iaload, 1) := by decide +kernel
theorem dX4_end_86 : decode cX4_end 86 = .ok (.ifCond .lt 15, 3) := by decide +kernel
theorem dX4_end_89 : decode cX4_end 89 = .ok (.aload_n 0, 1) := by decide +kernel
theorem dX4_end_90 : decode cX4_end 90 = .ok (.getfield 19, 3) := by decide +kernel
theorem dX4_end_93 : decode cX4_end 93 = .ok (.aload_n 0, 1) := by decide +kernel
theorem dX4_end_94 : decode cX4_end 94 = .ok (.getfield 32, 3) := by decide +kernel
theorem dX4_end_97 : decode cX4_end 97 = .ok (.iload_n 2, 1) := by decide +kernel
theorem dX4_end_98 : decode cX4_end 98 = .ok (.iaload, 1) := by decide +kernel
theorem dX4_end_99 : decode cX4_end 99 = .ok (.iconst 1, 1) := by decide +kernel
theorem dX4_end_100 : decode cX4_end 100 = .ok (.bastore, 1) := by decide +kernel
theorem dX4_end_101 : decode cX4_end 101 = .ok (.aload_n 0, 1) := by decide +kernel
theorem dX4_end_102 : decode cX4_end 102 = .ok (.invokevirtual 123, 3) := by decide +kernel
theorem dX4_end_105 : decode cX4_end 105 = .ok (.iload_n 3, 1) := by decide +kernel
theorem dX4_end_106 : decode cX4_end 106 = .ok (.isub, 1) := by decide +kernel
theorem dX4_end_107 : decode cX4_end 107 = .ok (.ireturn, 1) := by decide +kernel
theorem dX4_shift_0 : decode cX4_shift 0 = .ok (.aload_n 0, 1) := by decide +kernel
theorem dX4_shift_1 : decode cX4_shift 1 = .ok (.dup, 1) := by decide +kernel
theorem dX4_shift_2 : decode cX4_shift 2 = .ok (.getfield 86, 3) := by decide +kernel
theorem dX4_shift_5 : decode cX4_shift 5 = .ok (.iconst 1, 1) := by decide +kernel
theorem dX4_shift_6 : decode cX4_shift 6 = .ok (.isub, 1) := by decide +kernel
theorem dX4_shift_7 : decode cX4_shift 7 = .ok (.putfield 86, 3) := by decide +kernel
theorem dX4_shift_10 : decode cX4_shift 10 = .ok (.aload_n 0, 1) := by decide +kernel
theorem dX4_shift_11 : decode cX4_shift 11 = .ok (.aload_n 0, 1) := by decide +kernel
theorem dX4_shift_12 : decode cX4_shift 12 = .ok (.getfield 83, 3) := by decide +kernel
theorem dX4_shift_15 : decode cX4_shift 15 = .ok (.iconst 1, 1) := by decide +kernel
theorem dX4_shift_16 : decode cX4_shift 16 = .ok (.iadd, 1) := by decide +kernel
theorem dX4_shift_17 : decode cX4_shift 17 = .ok (.aload_n 0, 1) := by decide +kernel
theorem dX4_shift_18 : decode cX4_shift 18 = .ok (.getfield 70, 3) := by decide +kernel
theorem dX4_shift_21 : decode cX4_shift 21 = .ok (.irem, 1) := by decide +kernel
theorem dX4_shift_22 : decode cX4_shift 22 = .ok (.putfield 83, 3) := by decide +kernel
theorem dX4_shift_25 : decode cX4_shift 25 = .ok (.iconst 0, 1) := by decide +kernel
theorem dX4_shift_26 : decode cX4_shift 26 = .ok (.istore_n 1, 1) := by decide +kernel
theorem dX4_shift_27 : decode cX4_shift 27 = .ok (.iload_n 1, 1) := by decide +kernel
theorem dX4_shift_28 : decode cX4_shift 28 = .ok (.aload_n 0, 1) := by decide +kernel
theorem dX4_shift_29 : decode cX4_shift 29 = .ok (.getfield 86, 3) := by decide +kernel
theorem dX4_shift_32 : decode cX4_shift 32 = .ok (.if_icmp .ge 107, 3) := by decide +kernel
theorem dX4_shift_35 : decode cX4_shift 35 = .ok (.aload_n 0, 1) := by decide +kernel
theorem dX4_shift_36 : decode cX4_shift 36 = .ok (.getfield 26, 3) := by decide +kernel
theorem dX4_shift_39 : decode cX4_shift 39 = .ok (.iload_n 1, 1) := by decide +kernel
theorem dX4_shift_40 : decode cX4_shift 40 = .ok (.aload_n 0, 1) := by decide +kernel
theorem dX4_shift_41 : decode cX4_shift 41 = .ok (.getfield 26, 3) := by decide +kernel
theorem dX4_shift_44 : decode cX4_shift 44 = .ok (.iload_n 1, 1) := by decide +kernel
theorem dX4_shift_45 : decode cX4_shift 45 = .ok (.iconst 1, 1) := by decide +kernel
theorem dX4_shift_46 : decode cX4_shift 46 = .ok (.iadd, 1) := by decide +kernel
theorem dX4_shift_47 : decode cX4_shift 47 = .ok (.iaload, 1) := by decide +kernel
theorem dX4_shift_48 : decode cX4_shift 48 = .ok (.iastore, 1) := by decide +kernel
theorem dX4_shift_49 : decode cX4_shift 49 = .ok (.aload_n 0, 1) := by decide +kernel
theorem dX4_shift_50 : decode cX4_shift 50 = .ok (.getfield 29, 3) := by decide +kernel
theorem dX4_shift_53 : decode cX4_shift 53 = .ok (.iload_n 1, 1) := by decide +kernel
theorem dX4_shift_54 : decode cX4_shift 54 = .ok (.aload_n 0, 1) := by decide +kernel
theorem dX4_shift_55 : decode cX4_shift 55 = .ok (.getfield 29, 3) := by decide +kernel
theorem dX4_shift_58 : decode cX4_shift 58 = .ok (.iload_n 1, 1) := by decide +kernel
theorem dX4_shift_59 : decode cX4_shift 59 = .ok (.iconst 1, 1) := by decide +kernel
theorem dX4_shift_60 : decode cX4_shift 60 = .ok (.iadd, 1) := by decide +kernel
theorem dX4_shift_61 : decode cX4_shift 61 = .ok (.iaload, 1) := by decide +kernel
theorem dX4_shift_62 : decode cX4_shift 62 = .ok (.iastore, 1) := by decide +kernel
theorem dX4_shift_63 : decode cX4_shift 63 = .ok (.aload_n 0, 1) := by decide +kernel
theorem dX4_shift_64 : decode cX4_shift 64 = .ok (.getfield 32, 3) := by decide +kernel
theorem dX4_shift_67 : decode cX4_shift 67 = .ok (.iload_n 1, 1) := by decide +kernel
theorem dX4_shift_68 : decode cX4_shift 68 = .ok (.aload_n 0, 1) := by decide +kernel
theorem dX4_shift_69 : decode cX4_shift 69 = .ok (.getfield 32, 3) := by decide +kernel
theorem dX4_shift_72 : decode cX4_shift 72 = .ok (.iload_n 1, 1) := by decide +kernel
theorem dX4_shift_73 : decode cX4_shift 73 = .ok (.iconst 1, 1) := by decide +kernel
theorem dX4_shift_74 : decode cX4_shift 74 = .ok (.iadd, 1) := by decide +kernel
theorem dX4_shift_75 : decode cX4_shift 75 = .ok (.iaload, 1) := by decide +kernel
theorem dX4_shift_76 : decode cX4_shift 76 = .ok (.iastore, 1) := by decide +kernel
theorem dX4_shift_77 : decode cX4_shift 77 = .ok (.aload_n 0, 1) := by decide +kernel
theorem dX4_shift_78 : decode cX4_shift 78 = .ok (.getfield 35, 3) := by decide +kernel
theorem dX4_shift_81 : decode cX4_shift 81 = .ok (.iload_n 1, 1) := by decide +kernel
theorem dX4_shift_82 : decode cX4_shift 82 = .ok (.aload_n 0, 1) := by decide +kernel
theorem dX4_shift_83 : decode cX4_shift 83 = .ok (.getfield 35, 3) := by decide +kernel
theorem dX4_shift_86 : decode cX4_shift 86 = .ok (.iload_n 1, 1) := by decide +kernel
theorem dX4_shift_87 : decode cX4_shift 87 = .ok (.iconst 1, 1) := by decide +kernel
theorem dX4_shift_88 : decode cX4_shift 88 = .ok (.iadd, 1) := by decide +kernel
theorem dX4_shift_89 : decode cX4_shift 89 = .ok (.iaload, 1) := by decide +kernel
theorem dX4_shift_90 : decode cX4_shift 90 = .ok (.iastore, 1) := by decide +kernel
theorem dX4_shift_91 : decode cX4_shift 91 = .ok (.aload_n 0, 1) := by decide +kernel
theorem dX4_shift_92 : decode cX4_shift 92 = .ok (.getfield 38, 3) := by decide +kernel
theorem dX4_shift_95 : decode cX4_shift 95 = .ok (.iload_n 1, 1) := by decide +kernel
theorem dX4_shift_96 : decode cX4_shift 96 = .ok (.aload_n 0, 1) := by decide +kernel
theorem dX4_shift_97 : decode cX4_shift 97 = .ok (.getfield 38, 3) := by decide +kernel
theorem dX4_shift_100 : decode cX4_shift 100 = .ok (.iload_n 1, 1) := by decide +kernel
theorem dX4_shift_101 : decode cX4_shift 101 = .ok (.iconst 1, 1) := by decide +kernel
theorem dX4_shift_102 : decode cX4_shift 102 = .ok (.iadd, 1) := by decide +kernel
theorem dX4_shift_103 : decode cX4_shift 103 = .ok (.iaload, 1) := by decide +kernel
theorem dX4_shift_104 : decode cX4_shift 104 = .ok (.iastore, 1) := by decide +kernel
theorem dX4_shift_105 : decode cX4_shift 105 = .ok (.aload_n 0, 1) := by decide +kernel
theorem dX4_shift_106 : decode cX4_shift 106 = .ok (.getfield 41, 3) := by decide +kernel
theorem dX4_shift_109 : decode cX4_shift 109 = .ok (.iload_n 1, 1) := by decide +kernel
theorem dX4_shift_110 : decode cX4_shift 110 = .ok (.aload_n 0, 1) := by decide +kernel
theorem dX4_shift_111 : decode cX4_shift 111 = .ok (.getfield 41, 3) := by decide +kernel
theorem dX4_shift_114 : decode cX4_shift 114 = .ok (.iload_n 1, 1) := by decide +kernel
theorem dX4_shift_115 : decode cX4_shift 115 = .ok (.iconst 1, 1) := by decide +kernel
theorem dX4_shift_116 : decode cX4_shift 116 = .ok (.iadd, 1) := by decide +kernel
theorem dX4_shift_117 : decode cX4_shift 117 = .ok (.iaload, 1) := by decide +kernel
theorem dX4_shift_118 : decode cX4_shift 118 = .ok (.iastore, 1) := by decide +kernel
theorem dX4_shift_119 : decode cX4_shift 119 = .ok (.aload_n 0, 1) := by decide +kernel
theorem dX4_shift_120 : decode cX4_shift 120 = .ok (.getfield 44, 3) := by decide +kernel
theorem dX4_shift_123 : decode cX4_shift 123 = .ok (.iload_n 1, 1) := by decide +kernel
theorem dX4_shift_124 : decode cX4_shift 124 = .ok (.aload_n 0, 1) := by decide +kernel
theorem dX4_shift_125 : decode cX4_shift 125 = .ok (.getfield 44, 3) := by decide +kernel
theorem dX4_shift_128 : decode cX4_shift 128 = .ok (.iload_n 1, 1) := by decide +kernel
theorem dX4_shift_129 : decode cX4_shift 129 = .ok (.iconst 1, 1) := by decide +kernel
theorem dX4_shift_130 : decode cX4_shift 130 = .ok (.iadd, 1) := by decide +kernel
theorem dX4_shift_131 : decode cX4_shift 131 = .ok (.iaload, 1) := by decide +kernel
theorem dX4_shift_132 : decode cX4_shift 132 = .ok (.iastore, 1) := by decide +kernel
theorem dX4_shift_133 : decode cX4_shift 133 = .ok (.iinc 1 1, 3) := by decide +kernel
theorem dX4_shift_136 : decode cX4_shift 136 = .ok (.goto (-109), 3) := by decide +kernel
theorem dX4_shift_139 : decode cX4_shift 139 = .ok (.return_, 1) := by decide +kernel
theorem dX4_bound_0 : decode cX4_bound 0 = .ok (.ldc 126, 2) := by decide +kernel
theorem dX4_bound_2 : decode cX4_bound 2 = .ok (.istore_n 1, 1) := by decide +kernel
theorem dX4_bound_3 : decode cX4_bound 3 = .ok (.iconst 0, 1) := by decide +kernel
theorem dX4_bound_4 : decode cX4_bound 4 = .ok (.istore_n 2, 1) := by decide +kernel
theorem dX4_bound_5 : decode cX4_bound 5 = .ok (.iload_n 2, 1) := by decide +kernel
theorem dX4_bound_6 : decode cX4_bound 6 = .ok (.bipush 8, 2) := by decide +kernel
theorem dX4_bound_8 : decode cX4_bound 8 = .ok (.if_icmp .ge 35, 3) := by decide +kernel
theorem dX4_bound_11 : decode cX4_bound 11 = .ok (.aload_n 0, 1) := by decide +kernel
theorem dX4_bound_12 : decode cX4_bound 12 = .ok (.getfield 47, 3) := by decide +kernel
theorem dX4_bound_15 : decode cX4_bound 15 = .ok (.iload_n 2, 1) := by decide +kernel
theorem dX4_bound_16 : decode cX4_bound 16 = .ok (.baload, 1) := by decide +kernel
theorem dX4_bound_17 : decode cX4_bound 17 = .ok (.ifCond .eq 20, 3) := by decide +kernel
theorem dX4_bound_20 : decode cX4_bound 20 = .ok (.aload_n 0, 1) := by decide +kernel
theorem dX4_bound_21 : decode cX4_bound 21 = .ok (.getfield 50, 3) := by decide +kernel
theorem dX4_bound_24 : decode cX4_bound 24 = .ok (.iload_n 2, 1) := by decide +kernel
theorem dX4_bound_25 : decode cX4_bound 25 = .ok (.iaload, 1) := by decide +kernel
theorem dX4_bound_26 : decode cX4_bound 26 = .ok (.iload_n 1, 1) := by decide +kernel
theorem dX4_bound_27 : decode cX4_bound 27 = .ok (.if_icmp .ge 10, 3) := by decide +kernel
theorem dX4_bound_30 : decode cX4_bound 30 = .ok (.aload_n 0, 1) := by decide +kernel
theorem dX4_bound_31 : decode cX4_bound 31 = .ok (.getfield 50, 3) := by decide +kernel
theorem dX4_bound_34 : decode cX4_bound 34 = .ok (.iload_n 2, 1) := by decide +kernel
theorem dX4_bound_35 : decode cX4_bound 35 = .ok (.iaload, 1) := by decide +kernel
theorem dX4_bound_36 : decode cX4_bound 36 = .ok (.istore_n 1, 1) := by decide +kernel
theorem dX4_bound_37 : decode cX4_bound 37 = .ok (.iinc 2 1, 3) := by decide +kernel
theorem dX4_bound_40 : decode cX4_bound 40 = .ok (.goto (-35), 3) := by decide +kernel
theorem dX4_bound_43 : decode cX4_bound 43 = .ok (.iload_n 1, 1) := by decide +kernel
theorem dX4_bound_44 : decode cX4_bound 44 = .ok (.ireturn, 1) := by decide +kernel
set_option maxRecDepth 20000 in
theorem ggX4_commit_X4_throwing : GoodIn wsX4_commit wsX4_throwing := goodIn_r _ [12, 13, 37, 38, 39, 40, 41, 42, 43, 44, 45, 46, 47, 48, 49, 50, 51, 52, 53, 54, 55, 56, 57, 58, 59, 60, 61, 62, 63, 64, 65] (by decide +kernel) (by decide +kernel)
set_option maxRecDepth 20000 in
theorem gX4_commit_X4_throwing : GoodIn wsX4_commit (wsV RX4 96 RX4 yX4_throwing wsX4_throwing) := goodIn_app (goodIn_of _ (by decide +kernel)) ggX4_commit_X4_throwing
set_option maxRecDepth 20000 in
theorem ggX4_commit_X4_bound : GoodIn wsX4_commit wsX4_bound := goodIn_r _ [17, 18, 19, 20, 37, 38, 39, 40, 41, 42, 43, 44, 45, 46, 47, 48, 49, 50, 51, 52, 53, 54, 55, 56, 57, 58, 59, 60, 61, 62, 63, 64, 65] (by decide +kernel) (by decide +kernel)
set_option maxRecDepth 20000 in
theorem gX4_commit_X4_bound : GoodIn wsX4_commit (wsV RX4 130 RX4 yX4_bound wsX4_bound) := goodIn_app (goodIn_of _ (by decide +kernel)) ggX4_commit_X4_bound
set_option maxRecDepth 20000 in
theorem ggX4_commit_X4_giveBack : GoodIn wsX4_commit wsX4_giveBack := goodIn_r _ [24, 25, 26, 27, 37, 38, 39, 40, 41, 42, 43, 44, 45, 46, 47, 48, 49, 50, 51, 52, 53, 54, 55, 56, 57, 58, 59, 60, 61, 62, 63, 64, 65] (by decide +kernel) (by decide +kernel)
set_option maxRecDepth 20000 in
theorem gX4_commit_X4_giveBack : GoodIn wsX4_commit (wsV RX4 133 RX4 yX4_giveBack wsX4_giveBack) := goodIn_app (goodIn_of _ (by decide +kernel)) ggX4_commit_X4_giveBack
set_option maxRecDepth 20000 in
theorem ggX4_commit_X4_shift : GoodIn wsX4_commit wsX4_shift := goodIn_r _ [31, 1, 32, 33, 34, 35, 6, 7, 4, 36, 2, 37, 38, 39, 40, 41, 42, 43, 44, 45, 46, 47, 48, 49, 50, 51, 52, 53, 54, 55, 56, 57, 58, 59, 60, 61, 62, 63, 64, 65] (by decide +kernel) (by decide +kernel)
set_option maxRecDepth 20000 in
theorem gX4_commit_X4_shift : GoodIn wsX4_commit (wsV RX4 137 RX4 yX4_shift wsX4_shift) := goodIn_app (goodIn_of _ (by decide +kernel)) ggX4_commit_X4_shift
theorem dX4_commit_0 : decode cX4_commit 0 = .ok (.aload_n 0, 1) := by decide +kernel
theorem dX4_commit_1 : decode cX4_commit 1 = .ok (.iload_n 1, 1) := by decide +kernel
theorem dX4_commit_2 : decode cX4_commit 2 = .ok (.ifCond .ge 7, 3) := by decide +kernel
theorem dX4_commit_5 : decode cX4_commit 5 = .ok (.iconst 1, 1) := by decide +kernel
theorem dX4_commit_6 : decode cX4_commit 6 = .ok (.goto 4, 3) := by decide +kernel
theorem dX4_commit_9 : decode cX4_commit 9 = .ok (.iconst 0, 1) := by decide +kernel
theorem dX4_commit_10 : decode cX4_commit 10 = .ok (.iconst 0, 1) := by decide +kernel
theorem dX4_commit_11 : decode cX4_commit 11 = .ok (.iconst 0, 1) := by decide +kernel
theorem dX4_commit_12 : decode cX4_commit 12 = .ok (.invokevirtual 96, 3) := by decide +kernel
theorem dX4_commit_15 : decode cX4_commit 15 = .ok (.ifCond .eq 5, 3) := by decide +kernel
theorem dX4_commit_18 : decode cX4_commit 18 = .ok (.iconst 0, 1) := by decide +kernel
theorem dX4_commit_19 : decode cX4_commit 19 = .ok (.ireturn, 1) := by decide +kernel
theorem dX4_commit_20 : decode cX4_commit 20 = .ok (.iconst 0, 1) := by decide +kernel
theorem dX4_commit_21 : decode cX4_commit 21 = .ok (.istore_n 2, 1) := by decide +kernel
theorem dX4_commit_22 : decode cX4_commit 22 = .ok (.iload_n 2, 1) := by decide +kernel
theorem dX4_commit_23 : decode cX4_commit 23 = .ok (.iload_n 1, 1) := by decide +kernel
theorem dX4_commit_24 : decode cX4_commit 24 = .ok (.if_icmp .ge 87, 3) := by decide +kernel
theorem dX4_commit_27 : decode cX4_commit 27 = .ok (.aload_n 0, 1) := by decide +kernel
theorem dX4_commit_28 : decode cX4_commit 28 = .ok (.getfield 86, 3) := by decide +kernel
theorem dX4_commit_31 : decode cX4_commit 31 = .ok (.ifCond .le 80, 3) := by decide +kernel
theorem dX4_commit_34 : decode cX4_commit 34 = .ok (.aload_n 0, 1) := by decide +kernel
theorem dX4_commit_35 : decode cX4_commit 35 = .ok (.getfield 44, 3) := by decide +kernel
theorem dX4_commit_38 : decode cX4_commit 38 = .ok (.iconst 0, 1) := by decide +kernel
theorem dX4_commit_39 : decode cX4_commit 39 = .ok (.iaload, 1) := by decide +kernel
theorem dX4_commit_40 : decode cX4_commit 40 = .ok (.iconst 2, 1) := by decide +kernel
theorem dX4_commit_41 : decode cX4_commit 41 = .ok (.if_icmp .ne 70, 3) := by decide +kernel
theorem dX4_commit_44 : decode cX4_commit 44 = .ok (.aload_n 0, 1) := by decide +kernel
theorem dX4_commit_45 : decode cX4_commit 45 = .ok (.getfield 127, 3) := by decide +kernel
theorem dX4_commit_48 : decode cX4_commit 48 = .ok (.aload_n 0, 1) := by decide +kernel
theorem dX4_commit_49 : decode cX4_commit 49 = .ok (.invokevirtual 130, 3) := by decide +kernel
theorem dX4_commit_52 : decode cX4_commit 52 = .ok (.if_icmp .ge 59, 3) := by decide +kernel
theorem dX4_commit_55 : decode cX4_commit 55 = .ok (.aload_n 0, 1) := by decide +kernel
theorem dX4_commit_56 : decode cX4_commit 56 = .ok (.getfield 38, 3) := by decide +kernel
theorem dX4_commit_59 : decode cX4_commit 59 = .ok (.iconst 0, 1) := by decide +kernel
theorem dX4_commit_60 : decode cX4_commit 60 = .ok (.iaload, 1) := by decide +kernel
theorem dX4_commit_61 : decode cX4_commit 61 = .ok (.ifCond .lt 30, 3) := by decide +kernel
theorem dX4_commit_64 : decode cX4_commit 64 = .ok (.aload_n 0, 1) := by decide +kernel
theorem dX4_commit_65 : decode cX4_commit 65 = .ok (.getfield 13, 3) := by decide +kernel
theorem dX4_commit_68 : decode cX4_commit 68 = .ok (.aload_n 0, 1) := by decide +kernel
theorem dX4_commit_69 : decode cX4_commit 69 = .ok (.getfield 38, 3) := by decide +kernel
theorem dX4_commit_72 : decode cX4_commit 72 = .ok (.iconst 0, 1) := by decide +kernel
theorem dX4_commit_73 : decode cX4_commit 73 = .ok (.iaload, 1) := by decide +kernel
theorem dX4_commit_74 : decode cX4_commit 74 = .ok (.aload_n 0, 1) := by decide +kernel
theorem dX4_commit_75 : decode cX4_commit 75 = .ok (.getfield 32, 3) := by decide +kernel
theorem dX4_commit_78 : decode cX4_commit 78 = .ok (.iconst 0, 1) := by decide +kernel
theorem dX4_commit_79 : decode cX4_commit 79 = .ok (.iaload, 1) := by decide +kernel
theorem dX4_commit_80 : decode cX4_commit 80 = .ok (.iastore, 1) := by decide +kernel
theorem dX4_commit_81 : decode cX4_commit 81 = .ok (.aload_n 0, 1) := by decide +kernel
theorem dX4_commit_82 : decode cX4_commit 82 = .ok (.aload_n 0, 1) := by decide +kernel
theorem dX4_commit_83 : decode cX4_commit 83 = .ok (.getfield 35, 3) := by decide +kernel
theorem dX4_commit_86 : decode cX4_commit 86 = .ok (.iconst 0, 1) := by decide +kernel
theorem dX4_commit_87 : decode cX4_commit 87 = .ok (.iaload, 1) := by decide +kernel
theorem dX4_commit_88 : decode cX4_commit 88 = .ok (.invokevirtual 133, 3) := by decide +kernel
theorem dX4_commit_91 : decode cX4_commit 91 = .ok (.aload_n 0, 1) := by decide +kernel
theorem dX4_commit_92 : decode cX4_commit 92 = .ok (.invokevirtual 137, 3) := by decide +kernel
theorem dX4_commit_95 : decode cX4_commit 95 = .ok (.aload_n 0, 1) := by decide +kernel
theorem dX4_commit_96 : decode cX4_commit 96 = .ok (.dup, 1) := by decide +kernel
theorem dX4_commit_97 : decode cX4_commit 97 = .ok (.getfield 127, 3) := by decide +kernel
theorem dX4_commit_100 : decode cX4_commit 100 = .ok (.iconst 1, 1) := by decide +kernel
theorem dX4_commit_101 : decode cX4_commit 101 = .ok (.iadd, 1) := by decide +kernel
theorem dX4_commit_102 : decode cX4_commit 102 = .ok (.putfield 127, 3) := by decide +kernel
theorem dX4_commit_105 : decode cX4_commit 105 = .ok (.iinc 2 1, 3) := by decide +kernel
theorem dX4_commit_108 : decode cX4_commit 108 = .ok (.goto (-86), 3) := by decide +kernel
theorem dX4_commit_111 : decode cX4_commit 111 = .ok (.iload_n 2, 1) := by decide +kernel
theorem dX4_commit_112 : decode cX4_commit 112 = .ok (.ireturn, 1) := by decide +kernel
theorem dX4_branch_0 : decode cX4_branch 0 = .ok (.aload_n 0, 1) := by decide +kernel
theorem dX4_branch_1 : decode cX4_branch 1 = .ok (.iconst 0, 1) := by decide +kernel
theorem dX4_branch_2 : decode cX4_branch 2 = .ok (.putfield 76, 3) := by decide +kernel
theorem dX4_branch_5 : decode cX4_branch 5 = .ok (.iconst 0, 1) := by decide +kernel
theorem dX4_branch_6 : decode cX4_branch 6 = .ok (.istore_n 1, 1) := by decide +kernel
theorem dX4_branch_7 : decode cX4_branch 7 = .ok (.iload_n 1, 1) := by decide +kernel
theorem dX4_branch_8 : decode cX4_branch 8 = .ok (.bipush 8, 2) := by decide +kernel
theorem dX4_branch_10 : decode cX4_branch 10 = .ok (.if_icmp .ge 75, 3) := by decide +kernel
theorem dX4_branch_13 : decode cX4_branch 13 = .ok (.aload_n 0, 1) := by decide +kernel
theorem dX4_branch_14 : decode cX4_branch 14 = .ok (.getfield 47, 3) := by decide +kernel
theorem dX4_branch_17 : decode cX4_branch 17 = .ok (.iload_n 1, 1) := by decide +kernel
theorem dX4_branch_18 : decode cX4_branch 18 = .ok (.baload, 1) := by decide +kernel
theorem dX4_branch_19 : decode cX4_branch 19 = .ok (.ifCond .eq 6, 3) := by decide +kernel
theorem dX4_branch_22 : decode cX4_branch 22 = .ok (.goto 57, 3) := by decide +kernel
theorem dX4_branch_25 : decode cX4_branch 25 = .ok (.aload_n 0, 1) := by decide +kernel
theorem dX4_branch_26 : decode cX4_branch 26 = .ok (.getfield 47, 3) := by decide +kernel
theorem dX4_branch_29 : decode cX4_branch 29 = .ok (.iload_n 1, 1) := by decide +kernel
theorem dX4_branch_30 : decode cX4_branch 30 = .ok (.iconst 1, 1) := by decide +kernel
theorem dX4_branch_31 : decode cX4_branch 31 = .ok (.bastore, 1) := by decide +kernel
theorem dX4_branch_32 : decode cX4_branch 32 = .ok (.aload_n 0, 1) := by decide +kernel
theorem dX4_branch_33 : decode cX4_branch 33 = .ok (.dup, 1) := by decide +kernel
theorem dX4_branch_34 : decode cX4_branch 34 = .ok (.getfield 140, 3) := by decide +kernel
theorem dX4_branch_37 : decode cX4_branch 37 = .ok (.iconst 1, 1) := by decide +kernel
theorem dX4_branch_38 : decode cX4_branch 38 = .ok (.iadd, 1) := by decide +kernel
theorem dX4_branch_39 : decode cX4_branch 39 = .ok (.putfield 140, 3) := by decide +kernel
theorem dX4_branch_42 : decode cX4_branch 42 = .ok (.aload_n 0, 1) := by decide +kernel
theorem dX4_branch_43 : decode cX4_branch 43 = .ok (.getfield 50, 3) := by decide +kernel
theorem dX4_branch_46 : decode cX4_branch 46 = .ok (.iload_n 1, 1) := by decide +kernel
theorem dX4_branch_47 : decode cX4_branch 47 = .ok (.aload_n 0, 1) := by decide +kernel
theorem dX4_branch_48 : decode cX4_branch 48 = .ok (.getfield 127, 3) := by decide +kernel
theorem dX4_branch_51 : decode cX4_branch 51 = .ok (.aload_n 0, 1) := by decide +kernel
theorem dX4_branch_52 : decode cX4_branch 52 = .ok (.getfield 86, 3) := by decide +kernel
theorem dX4_branch_55 : decode cX4_branch 55 = .ok (.iadd, 1) := by decide +kernel
theorem dX4_branch_56 : decode cX4_branch 56 = .ok (.iastore, 1) := by decide +kernel
theorem dX4_branch_57 : decode cX4_branch 57 = .ok (.aload_n 0, 1) := by decide +kernel
theorem dX4_branch_58 : decode cX4_branch 58 = .ok (.getfield 53, 3) := by decide +kernel
theorem dX4_branch_61 : decode cX4_branch 61 = .ok (.iload_n 1, 1) := by decide +kernel
theorem dX4_branch_62 : decode cX4_branch 62 = .ok (.aload_n 0, 1) := by decide +kernel
theorem dX4_branch_63 : decode cX4_branch 63 = .ok (.getfield 143, 3) := by decide +kernel
theorem dX4_branch_66 : decode cX4_branch 66 = .ok (.iastore, 1) := by decide +kernel
theorem dX4_branch_67 : decode cX4_branch 67 = .ok (.aload_n 0, 1) := by decide +kernel
theorem dX4_branch_68 : decode cX4_branch 68 = .ok (.dup, 1) := by decide +kernel
theorem dX4_branch_69 : decode cX4_branch 69 = .ok (.getfield 143, 3) := by decide +kernel
theorem dX4_branch_72 : decode cX4_branch 72 = .ok (.iconst 1, 1) := by decide +kernel
theorem dX4_branch_73 : decode cX4_branch 73 = .ok (.iadd, 1) := by decide +kernel
theorem dX4_branch_74 : decode cX4_branch 74 = .ok (.putfield 143, 3) := by decide +kernel
theorem dX4_branch_77 : decode cX4_branch 77 = .ok (.iload_n 1, 1) := by decide +kernel
theorem dX4_branch_78 : decode cX4_branch 78 = .ok (.ireturn, 1) := by decide +kernel
theorem dX4_branch_79 : decode cX4_branch 79 = .ok (.iinc 1 1, 3) := by decide +kernel
theorem dX4_branch_82 : decode cX4_branch 82 = .ok (.goto (-75), 3) := by decide +kernel
theorem dX4_branch_85 : decode cX4_branch 85 = .ok (.iconst (-1), 1) := by decide +kernel
theorem dX4_branch_86 : decode cX4_branch 86 = .ok (.ireturn, 1) := by decide +kernel
theorem dX4_isMark_0 : decode cX4_isMark 0 = .ok (.iload_n 1, 1) := by decide +kernel
theorem dX4_isMark_1 : decode cX4_isMark 1 = .ok (.ifCond .lt 13, 3) := by decide +kernel
theorem dX4_isMark_4 : decode cX4_isMark 4 = .ok (.iload_n 1, 1) := by decide +kernel
theorem dX4_isMark_5 : decode cX4_isMark 5 = .ok (.bipush 8, 2) := by decide +kernel
theorem dX4_isMark_7 : decode cX4_isMark 7 = .ok (.if_icmp .ge 7, 3) := by decide +kernel
theorem dX4_isMark_10 : decode cX4_isMark 10 = .ok (.iconst 1, 1) := by decide +kernel
theorem dX4_isMark_11 : decode cX4_isMark 11 = .ok (.goto 4, 3) := by decide +kernel
theorem dX4_isMark_14 : decode cX4_isMark 14 = .ok (.iconst 0, 1) := by decide +kernel
theorem dX4_isMark_15 : decode cX4_isMark 15 = .ok (.ireturn, 1) := by decide +kernel
theorem dX4_drop_0 : decode cX4_drop 0 = .ok (.aload_n 0, 1) := by decide +kernel
theorem dX4_drop_1 : decode cX4_drop 1 = .ok (.getfield 47, 3) := by decide +kernel
theorem dX4_drop_4 : decode cX4_drop 4 = .ok (.iload_n 1, 1) := by decide +kernel
theorem dX4_drop_5 : decode cX4_drop 5 = .ok (.iconst 0, 1) := by decide +kernel
theorem dX4_drop_6 : decode cX4_drop 6 = .ok (.bastore, 1) := by decide +kernel
theorem dX4_drop_7 : decode cX4_drop 7 = .ok (.aload_n 0, 1) := by decide +kernel
theorem dX4_drop_8 : decode cX4_drop 8 = .ok (.dup, 1) := by decide +kernel
theorem dX4_drop_9 : decode cX4_drop 9 = .ok (.getfield 140, 3) := by decide +kernel
theorem dX4_drop_12 : decode cX4_drop 12 = .ok (.iconst 1, 1) := by decide +kernel
theorem dX4_drop_13 : decode cX4_drop 13 = .ok (.isub, 1) := by decide +kernel
theorem dX4_drop_14 : decode cX4_drop 14 = .ok (.putfield 140, 3) := by decide +kernel
theorem dX4_drop_17 : decode cX4_drop 17 = .ok (.return_, 1) := by decide +kernel
set_option maxRecDepth 20000 in
theorem ggX4_right_X4_isMark : GoodIn wsX4_right wsX4_isMark := goodIn_r _ [7] (by decide +kernel) (by decide +kernel)
set_option maxRecDepth 20000 in
theorem gX4_right_X4_isMark : GoodIn wsX4_right (wsV RX4 146 RX4 yX4_isMark wsX4_isMark) := goodIn_app (goodIn_of _ (by decide +kernel)) ggX4_right_X4_isMark
set_option maxRecDepth 20000 in
theorem ggX4_right_X4_throwing : GoodIn wsX4_right wsX4_throwing := goodIn_r _ [11, 12, 17, 18, 19, 20, 21, 22, 23, 24, 25, 26, 27, 28, 29, 30, 31, 32, 33, 34, 35, 36, 37, 38, 39, 40, 41, 42, 43, 44, 45] (by decide +kernel) (by decide +kernel)
set_option maxRecDepth 20000 in
theorem gX4_right_X4_throwing : GoodIn wsX4_right (wsV RX4 96 RX4 yX4_throwing wsX4_throwing) := goodIn_app (goodIn_of _ (by decide +kernel)) ggX4_right_X4_throwing
set_option maxRecDepth 20000 in
theorem ggX4_right_X4_drop : GoodIn wsX4_right wsX4_drop := goodIn_r _ [16, 1, 2, 17, 18, 19, 20, 21, 22, 23, 24, 25, 26, 27, 28, 29, 30, 31, 32, 33, 34, 35, 36, 37, 38, 39, 40, 41, 42, 43, 44, 45] (by decide +kernel) (by decide +kernel)
set_option maxRecDepth 20000 in
theorem gX4_right_X4_drop : GoodIn wsX4_right (wsV RX4 149 RX4 yX4_drop wsX4_drop) := goodIn_app (goodIn_of _ (by decide +kernel)) ggX4_right_X4_drop
theorem dX4_right_0 : decode cX4_right 0 = .ok (.aload_n 0, 1) := by decide +kernel
theorem dX4_right_1 : decode cX4_right 1 = .ok (.aload_n 0, 1) := by decide +kernel
theorem dX4_right_2 : decode cX4_right 2 = .ok (.iload_n 1, 1) := by decide +kernel
theorem dX4_right_3 : decode cX4_right 3 = .ok (.invokevirtual 146, 3) := by decide +kernel
theorem dX4_right_6 : decode cX4_right 6 = .ok (.ifCond .ne 7, 3) := by decide +kernel
theorem dX4_right_9 : decode cX4_right 9 = .ok (.iconst 1, 1) := by decide +kernel
theorem dX4_right_10 : decode cX4_right 10 = .ok (.goto 4, 3) := by decide +kernel
theorem dX4_right_13 : decode cX4_right 13 = .ok (.iconst 0, 1) := by decide +kernel
theorem dX4_right_14 : decode cX4_right 14 = .ok (.aload_n 0, 1) := by decide +kernel
theorem dX4_right_15 : decode cX4_right 15 = .ok (.getfield 47, 3) := by decide +kernel
theorem dX4_right_18 : decode cX4_right 18 = .ok (.aload_n 0, 1) := by decide +kernel
theorem dX4_right_19 : decode cX4_right 19 = .ok (.iload_n 1, 1) := by decide +kernel
theorem dX4_right_20 : decode cX4_right 20 = .ok (.invokevirtual 146, 3) := by decide +kernel
theorem dX4_right_23 : decode cX4_right 23 = .ok (.ifCond .eq 7, 3) := by decide +kernel
theorem dX4_right_26 : decode cX4_right 26 = .ok (.iload_n 1, 1) := by decide +kernel
theorem dX4_right_27 : decode cX4_right 27 = .ok (.goto 4, 3) := by decide +kernel
theorem dX4_right_30 : decode cX4_right 30 = .ok (.iconst 0, 1) := by decide +kernel
theorem dX4_right_31 : decode cX4_right 31 = .ok (.baload, 1) := by decide +kernel
theorem dX4_right_32 : decode cX4_right 32 = .ok (.ifCond .ne 7, 3) := by decide +kernel
theorem dX4_right_35 : decode cX4_right 35 = .ok (.iconst 1, 1) := by decide +kernel
theorem dX4_right_36 : decode cX4_right 36 = .ok (.goto 4, 3) := by decide +kernel
theorem dX4_right_39 : decode cX4_right 39 = .ok (.iconst 0, 1) := by decide +kernel
theorem dX4_right_40 : decode cX4_right 40 = .ok (.iconst 0, 1) := by decide +kernel
theorem dX4_right_41 : decode cX4_right 41 = .ok (.invokevirtual 96, 3) := by decide +kernel
theorem dX4_right_44 : decode cX4_right 44 = .ok (.ifCond .eq 5, 3) := by decide +kernel
theorem dX4_right_47 : decode cX4_right 47 = .ok (.iconst 0, 1) := by decide +kernel
theorem dX4_right_48 : decode cX4_right 48 = .ok (.ireturn, 1) := by decide +kernel
theorem dX4_right_49 : decode cX4_right 49 = .ok (.aload_n 0, 1) := by decide +kernel
theorem dX4_right_50 : decode cX4_right 50 = .ok (.iload_n 1, 1) := by decide +kernel
theorem dX4_right_51 : decode cX4_right 51 = .ok (.invokevirtual 149, 3) := by decide +kernel
theorem dX4_right_54 : decode cX4_right 54 = .ok (.aload_n 0, 1) := by decide +kernel
theorem dX4_right_55 : decode cX4_right 55 = .ok (.getfield 140, 3) := by decide +kernel
theorem dX4_right_58 : decode cX4_right 58 = .ok (.ireturn, 1) := by decide +kernel
set_option maxRecDepth 20000 in
theorem ggX4_wrong_X4_isMark : GoodIn wsX4_wrong wsX4_isMark := goodIn_r _ [15] (by decide +kernel) (by decide +kernel)
set_option maxRecDepth 20000 in
theorem gX4_wrong_X4_isMark : GoodIn wsX4_wrong (wsV RX4 146 RX4 yX4_isMark wsX4_isMark) := goodIn_app (goodIn_of _ (by decide +kernel)) ggX4_wrong_X4_isMark
set_option maxRecDepth 20000 in
theorem ggX4_wrong_X4_throwing : GoodIn wsX4_wrong wsX4_throwing := goodIn_r _ [19, 20, 33, 34, 35, 36, 37, 38, 39, 40, 41, 42, 43, 44, 45, 46, 47, 48, 49, 50, 51, 52, 53, 54, 55, 56, 57, 58, 59, 60, 61] (by decide +kernel) (by decide +kernel)
set_option maxRecDepth 20000 in
theorem gX4_wrong_X4_throwing : GoodIn wsX4_wrong (wsV RX4 96 RX4 yX4_throwing wsX4_throwing) := goodIn_app (goodIn_of _ (by decide +kernel)) ggX4_wrong_X4_throwing
set_option maxRecDepth 20000 in
theorem ggX4_wrong_X4_giveBack : GoodIn wsX4_wrong wsX4_giveBack := goodIn_r _ [24, 25, 26, 27, 33, 34, 35, 36, 37, 38, 39, 40, 41, 42, 43, 44, 45, 46, 47, 48, 49, 50, 51, 52, 53, 54, 55, 56, 57, 58, 59, 60, 61] (by decide +kernel) (by decide +kernel)
set_option maxRecDepth 20000 in
theorem gX4_wrong_X4_giveBack : GoodIn wsX4_wrong (wsV RX4 133 RX4 yX4_giveBack wsX4_giveBack) := goodIn_app (goodIn_of _ (by decide +kernel)) ggX4_wrong_X4_giveBack
set_option maxRecDepth 20000 in
theorem ggX4_wrong_X4_drop : GoodIn wsX4_wrong wsX4_drop := goodIn_r _ [31, 1, 32, 33, 34, 35, 36, 37, 38, 39, 40, 41, 42, 43, 44, 45, 46, 47, 48, 49, 50, 51, 52, 53, 54, 55, 56, 57, 58, 59, 60, 61] (by decide +kernel) (by decide +kernel)
set_option maxRecDepth 20000 in
theorem gX4_wrong_X4_drop : GoodIn wsX4_wrong (wsV RX4 149 RX4 yX4_drop wsX4_drop) := goodIn_app (goodIn_of _ (by decide +kernel)) ggX4_wrong_X4_drop
theorem dX4_wrong_0 : decode cX4_wrong 0 = .ok (.aload_n 0, 1) := by decide +kernel
theorem dX4_wrong_1 : decode cX4_wrong 1 = .ok (.aload_n 0, 1) := by decide +kernel
theorem dX4_wrong_2 : decode cX4_wrong 2 = .ok (.iload_n 1, 1) := by decide +kernel
theorem dX4_wrong_3 : decode cX4_wrong 3 = .ok (.invokevirtual 146, 3) := by decide +kernel
theorem dX4_wrong_6 : decode cX4_wrong 6 = .ok (.ifCond .ne 7, 3) := by decide +kernel
theorem dX4_wrong_9 : decode cX4_wrong 9 = .ok (.iconst 1, 1) := by decide +kernel
theorem dX4_wrong_10 : decode cX4_wrong 10 = .ok (.goto 4, 3) := by decide +kernel
theorem dX4_wrong_13 : decode cX4_wrong 13 = .ok (.iconst 0, 1) := by decide +kernel
theorem dX4_wrong_14 : decode cX4_wrong 14 = .ok (.aload_n 0, 1) := by decide +kernel
theorem dX4_wrong_15 : decode cX4_wrong 15 = .ok (.getfield 47, 3) := by decide +kernel
theorem dX4_wrong_18 : decode cX4_wrong 18 = .ok (.aload_n 0, 1) := by decide +kernel
theorem dX4_wrong_19 : decode cX4_wrong 19 = .ok (.iload_n 1, 1) := by decide +kernel
theorem dX4_wrong_20 : decode cX4_wrong 20 = .ok (.invokevirtual 146, 3) := by decide +kernel
theorem dX4_wrong_23 : decode cX4_wrong 23 = .ok (.ifCond .eq 7, 3) := by decide +kernel
theorem dX4_wrong_26 : decode cX4_wrong 26 = .ok (.iload_n 1, 1) := by decide +kernel
theorem dX4_wrong_27 : decode cX4_wrong 27 = .ok (.goto 4, 3) := by decide +kernel
theorem dX4_wrong_30 : decode cX4_wrong 30 = .ok (.iconst 0, 1) := by decide +kernel
theorem dX4_wrong_31 : decode cX4_wrong 31 = .ok (.baload, 1) := by decide +kernel
theorem dX4_wrong_32 : decode cX4_wrong 32 = .ok (.ifCond .ne 7, 3) := by decide +kernel
theorem dX4_wrong_35 : decode cX4_wrong 35 = .ok (.iconst 1, 1) := by decide +kernel
theorem dX4_wrong_36 : decode cX4_wrong 36 = .ok (.goto 4, 3) := by decide +kernel
theorem dX4_wrong_39 : decode cX4_wrong 39 = .ok (.iconst 0, 1) := by decide +kernel
theorem dX4_wrong_40 : decode cX4_wrong 40 = .ok (.iconst 0, 1) := by decide +kernel
theorem dX4_wrong_41 : decode cX4_wrong 41 = .ok (.invokevirtual 96, 3) := by decide +kernel
theorem dX4_wrong_44 : decode cX4_wrong 44 = .ok (.ifCond .eq 5, 3) := by decide +kernel
theorem dX4_wrong_47 : decode cX4_wrong 47 = .ok (.iconst 0, 1) := by decide +kernel
theorem dX4_wrong_48 : decode cX4_wrong 48 = .ok (.ireturn, 1) := by decide +kernel
theorem dX4_wrong_49 : decode cX4_wrong 49 = .ok (.iconst 0, 1) := by decide +kernel
theorem dX4_wrong_50 : decode cX4_wrong 50 = .ok (.istore_n 2, 1) := by decide +kernel
theorem dX4_wrong_51 : decode cX4_wrong 51 = .ok (.aload_n 0, 1) := by decide +kernel
theorem dX4_wrong_52 : decode cX4_wrong 52 = .ok (.getfield 127, 3) := by decide +kernel
theorem dX4_wrong_55 : decode cX4_wrong 55 = .ok (.aload_n 0, 1) := by decide +kernel
theorem dX4_wrong_56 : decode cX4_wrong 56 = .ok (.getfield 86, 3) := by decide +kernel
theorem dX4_wrong_59 : decode cX4_wrong 59 = .ok (.iadd, 1) := by decide +kernel
theorem dX4_wrong_60 : decode cX4_wrong 60 = .ok (.aload_n 0, 1) := by decide +kernel
theorem dX4_wrong_61 : decode cX4_wrong 61 = .ok (.getfield 50, 3) := by decide +kernel
theorem dX4_wrong_64 : decode cX4_wrong 64 = .ok (.iload_n 1, 1) := by decide +kernel
theorem dX4_wrong_65 : decode cX4_wrong 65 = .ok (.iaload, 1) := by decide +kernel
theorem dX4_wrong_66 : decode cX4_wrong 66 = .ok (.if_icmp .le 70, 3) := by decide +kernel
theorem dX4_wrong_69 : decode cX4_wrong 69 = .ok (.aload_n 0, 1) := by decide +kernel
theorem dX4_wrong_70 : decode cX4_wrong 70 = .ok (.dup, 1) := by decide +kernel
theorem dX4_wrong_71 : decode cX4_wrong 71 = .ok (.getfield 86, 3) := by decide +kernel
theorem dX4_wrong_74 : decode cX4_wrong 74 = .ok (.iconst 1, 1) := by decide +kernel
theorem dX4_wrong_75 : decode cX4_wrong 75 = .ok (.isub, 1) := by decide +kernel
theorem dX4_wrong_76 : decode cX4_wrong 76 = .ok (.putfield 86, 3) := by decide +kernel
theorem dX4_wrong_79 : decode cX4_wrong 79 = .ok (.iinc 2 1, 3) := by decide +kernel
theorem dX4_wrong_82 : decode cX4_wrong 82 = .ok (.aload_n 0, 1) := by decide +kernel
theorem dX4_wrong_83 : decode cX4_wrong 83 = .ok (.getfield 38, 3) := by decide +kernel
theorem dX4_wrong_86 : decode cX4_wrong 86 = .ok (.aload_n 0, 1) := by decide +kernel
theorem dX4_wrong_87 : decode cX4_wrong 87 = .ok (.getfield 86, 3) := by decide +kernel
theorem dX4_wrong_90 : decode cX4_wrong 90 = .ok (.iaload, 1) := by decide +kernel
theorem dX4_wrong_91 : decode cX4_wrong 91 = .ok (.ifCond .ge 6, 3) := by decide +kernel
theorem dX4_wrong_94 : decode cX4_wrong 94 = .ok (.goto (-43), 3) := by decide +kernel
theorem dX4_wrong_97 : decode cX4_wrong 97 = .ok (.aload_n 0, 1) := by decide +kernel
theorem dX4_wrong_98 : decode cX4_wrong 98 = .ok (.getfield 7, 3) := by decide +kernel
theorem dX4_wrong_101 : decode cX4_wrong 101 = .ok (.aload_n 0, 1) := by decide +kernel
theorem dX4_wrong_102 : decode cX4_wrong 102 = .ok (.getfield 38, 3) := by decide +kernel
theorem dX4_wrong_105 : decode cX4_wrong 105 = .ok (.aload_n 0, 1) := by decide +kernel
theorem dX4_wrong_106 : decode cX4_wrong 106 = .ok (.getfield 86, 3) := by decide +kernel
theorem dX4_wrong_109 : decode cX4_wrong 109 = .ok (.iaload, 1) := by decide +kernel
theorem dX4_wrong_110 : decode cX4_wrong 110 = .ok (.aload_n 0, 1) := by decide +kernel
theorem dX4_wrong_111 : decode cX4_wrong 111 = .ok (.getfield 35, 3) := by decide +kernel
theorem dX4_wrong_114 : decode cX4_wrong 114 = .ok (.aload_n 0, 1) := by decide +kernel
theorem dX4_wrong_115 : decode cX4_wrong 115 = .ok (.getfield 86, 3) := by decide +kernel
theorem dX4_wrong_118 : decode cX4_wrong 118 = .ok (.iaload, 1) := by decide +kernel
theorem dX4_wrong_119 : decode cX4_wrong 119 = .ok (.iastore, 1) := by decide +kernel
theorem dX4_wrong_120 : decode cX4_wrong 120 = .ok (.aload_n 0, 1) := by decide +kernel
theorem dX4_wrong_121 : decode cX4_wrong 121 = .ok (.aload_n 0, 1) := by decide +kernel
theorem dX4_wrong_122 : decode cX4_wrong 122 = .ok (.getfield 32, 3) := by decide +kernel
theorem dX4_wrong_125 : decode cX4_wrong 125 = .ok (.aload_n 0, 1) := by decide +kernel
theorem dX4_wrong_126 : decode cX4_wrong 126 = .ok (.getfield 86, 3) := by decide +kernel
theorem dX4_wrong_129 : decode cX4_wrong 129 = .ok (.iaload, 1) := by decide +kernel
theorem dX4_wrong_130 : decode cX4_wrong 130 = .ok (.invokevirtual 133, 3) := by decide +kernel
theorem dX4_wrong_133 : decode cX4_wrong 133 = .ok (.goto (-82), 3) := by decide +kernel
theorem dX4_wrong_136 : decode cX4_wrong 136 = .ok (.aload_n 0, 1) := by decide +kernel
theorem dX4_wrong_137 : decode cX4_wrong 137 = .ok (.dup, 1) := by decide +kernel
theorem dX4_wrong_138 : decode cX4_wrong 138 = .ok (.getfield 152, 3) := by decide +kernel
theorem dX4_wrong_141 : decode cX4_wrong 141 = .ok (.iload_n 2, 1) := by decide +kernel
theorem dX4_wrong_142 : decode cX4_wrong 142 = .ok (.iadd, 1) := by decide +kernel
theorem dX4_wrong_143 : decode cX4_wrong 143 = .ok (.putfield 152, 3) := by decide +kernel
theorem dX4_wrong_146 : decode cX4_wrong 146 = .ok (.iconst 0, 1) := by decide +kernel
theorem dX4_wrong_147 : decode cX4_wrong 147 = .ok (.istore_n 3, 1) := by decide +kernel
theorem dX4_wrong_148 : decode cX4_wrong 148 = .ok (.iload_n 3, 1) := by decide +kernel
theorem dX4_wrong_149 : decode cX4_wrong 149 = .ok (.bipush 8, 2) := by decide +kernel
theorem dX4_wrong_151 : decode cX4_wrong 151 = .ok (.if_icmp .ge 43, 3) := by decide +kernel
theorem dX4_wrong_154 : decode cX4_wrong 154 = .ok (.aload_n 0, 1) := by decide +kernel
theorem dX4_wrong_155 : decode cX4_wrong 155 = .ok (.getfield 47, 3) := by decide +kernel
theorem dX4_wrong_158 : decode cX4_wrong 158 = .ok (.iload_n 3, 1) := by decide +kernel
theorem dX4_wrong_159 : decode cX4_wrong 159 = .ok (.baload, 1) := by decide +kernel
theorem dX4_wrong_160 : decode cX4_wrong 160 = .ok (.ifCond .eq 28, 3) := by decide +kernel
theorem dX4_wrong_163 : decode cX4_wrong 163 = .ok (.iload_n 3, 1) := by decide +kernel
theorem dX4_wrong_164 : decode cX4_wrong 164 = .ok (.iload_n 1, 1) := by decide +kernel
theorem dX4_wrong_165 : decode cX4_wrong 165 = .ok (.if_icmp .eq 23, 3) := by decide +kernel
theorem dX4_wrong_168 : decode cX4_wrong 168 = .ok (.aload_n 0, 1) := by decide +kernel
theorem dX4_wrong_169 : decode cX4_wrong 169 = .ok (.getfield 53, 3) := by decide +kernel
theorem dX4_wrong_172 : decode cX4_wrong 172 = .ok (.iload_n 3, 1) := by decide +kernel
theorem dX4_wrong_173 : decode cX4_wrong 173 = .ok (.iaload, 1) := by decide +kernel
theorem dX4_wrong_174 : decode cX4_wrong 174 = .ok (.aload_n 0, 1) := by decide +kernel
theorem dX4_wrong_175 : decode cX4_wrong 175 = .ok (.getfield 53, 3) := by decide +kernel
theorem dX4_wrong_178 : decode cX4_wrong 178 = .ok (.iload_n 1, 1) := by decide +kernel
theorem dX4_wrong_179 : decode cX4_wrong 179 = .ok (.iaload, 1) := by decide +kernel
theorem dX4_wrong_180 : decode cX4_wrong 180 = .ok (.if_icmp .le 8, 3) := by decide +kernel
theorem dX4_wrong_183 : decode cX4_wrong 183 = .ok (.aload_n 0, 1) := by decide +kernel
theorem dX4_wrong_184 : decode cX4_wrong 184 = .ok (.iload_n 3, 1) := by decide +kernel
theorem dX4_wrong_185 : decode cX4_wrong 185 = .ok (.invokevirtual 149, 3) := by decide +kernel
theorem dX4_wrong_188 : decode cX4_wrong 188 = .ok (.iinc 3 1, 3) := by decide +kernel
theorem dX4_wrong_191 : decode cX4_wrong 191 = .ok (.goto (-43), 3) := by decide +kernel
theorem dX4_wrong_194 : decode cX4_wrong 194 = .ok (.aload_n 0, 1) := by decide +kernel
theorem dX4_wrong_195 : decode cX4_wrong 195 = .ok (.iload_n 1, 1) := by decide +kernel
theorem dX4_wrong_196 : decode cX4_wrong 196 = .ok (.invokevirtual 149, 3) := by decide +kernel
theorem dX4_wrong_199 : decode cX4_wrong 199 = .ok (.iload_n 2, 1) := by decide +kernel
theorem dX4_wrong_200 : decode cX4_wrong 200 = .ok (.ireturn, 1) := by decide +kernel
set_option maxRecDepth 20000 in
theorem ggX4_name_X4_isRegister : GoodIn wsX4_name wsX4_isRegister := goodIn_r _ [6, 7, 13, 14, 15, 16, 17, 18, 19, 20, 21, 22, 23, 24, 25, 26, 27, 28, 29, 30, 31, 32, 33, 34, 35, 36, 37, 38, 39, 40, 41] (by decide +kernel) (by decide +kernel)
set_option maxRecDepth 20000 in
theorem gX4_name_X4_isRegister : GoodIn wsX4_name (wsV RX4 93 RX4 yX4_isRegister wsX4_isRegister) := goodIn_app (goodIn_of _ (by decide +kernel)) ggX4_name_X4_isRegister
set_option maxRecDepth 20000 in
theorem ggX4_name_X4_throwing : GoodIn wsX4_name wsX4_throwing := goodIn_r _ [11, 12, 13, 14, 15, 16, 17, 18, 19, 20, 21, 22, 23, 24, 25, 26, 27, 28, 29, 30, 31, 32, 33, 34, 35, 36, 37, 38, 39, 40, 41] (by decide +kernel) (by decide +kernel)
set_option maxRecDepth 20000 in
theorem gX4_name_X4_throwing : GoodIn wsX4_name (wsV RX4 96 RX4 yX4_throwing wsX4_throwing) := goodIn_app (goodIn_of _ (by decide +kernel)) ggX4_name_X4_throwing
theorem dX4_name_0 : decode cX4_name 0 = .ok (.aload_n 0, 1) := by decide +kernel
theorem dX4_name_1 : decode cX4_name 1 = .ok (.aload_n 0, 1) := by decide +kernel
theorem dX4_name_2 : decode cX4_name 2 = .ok (.iload_n 1, 1) := by decide +kernel
theorem dX4_name_3 : decode cX4_name 3 = .ok (.invokevirtual 93, 3) := by decide +kernel
theorem dX4_name_6 : decode cX4_name 6 = .ok (.ifCond .ne 7, 3) := by decide +kernel
theorem dX4_name_9 : decode cX4_name 9 = .ok (.iconst 1, 1) := by decide +kernel
theorem dX4_name_10 : decode cX4_name 10 = .ok (.goto 4, 3) := by decide +kernel
theorem dX4_name_13 : decode cX4_name 13 = .ok (.iconst 0, 1) := by decide +kernel
theorem dX4_name_14 : decode cX4_name 14 = .ok (.iconst 0, 1) := by decide +kernel
theorem dX4_name_15 : decode cX4_name 15 = .ok (.iconst 0, 1) := by decide +kernel
theorem dX4_name_16 : decode cX4_name 16 = .ok (.invokevirtual 96, 3) := by decide +kernel
theorem dX4_name_19 : decode cX4_name 19 = .ok (.ifCond .eq 7, 3) := by decide +kernel
theorem dX4_name_22 : decode cX4_name 22 = .ok (.iconst 0, 1) := by decide +kernel
theorem dX4_name_23 : decode cX4_name 23 = .ok (.goto 9, 3) := by decide +kernel
theorem dX4_name_26 : decode cX4_name 26 = .ok (.aload_n 0, 1) := by decide +kernel
theorem dX4_name_27 : decode cX4_name 27 = .ok (.getfield 7, 3) := by decide +kernel
theorem dX4_name_30 : decode cX4_name 30 = .ok (.iload_n 1, 1) := by decide +kernel
theorem dX4_name_31 : decode cX4_name 31 = .ok (.iaload, 1) := by decide +kernel
theorem dX4_name_32 : decode cX4_name 32 = .ok (.ireturn, 1) := by decide +kernel
set_option maxRecDepth 20000 in
theorem ggX4_sure_X4_isRegister : GoodIn wsX4_sure wsX4_isRegister := goodIn_r _ [6, 7, 13, 14, 15, 16, 17, 18, 19, 20, 21, 22, 23, 24, 25, 26, 27, 28, 29, 30, 31, 32, 33, 34, 35, 36, 37, 38, 39, 40, 41] (by decide +kernel) (by decide +kernel)
set_option maxRecDepth 20000 in
theorem gX4_sure_X4_isRegister : GoodIn wsX4_sure (wsV RX4 93 RX4 yX4_isRegister wsX4_isRegister) := goodIn_app (goodIn_of _ (by decide +kernel)) ggX4_sure_X4_isRegister
set_option maxRecDepth 20000 in
theorem ggX4_sure_X4_throwing : GoodIn wsX4_sure wsX4_throwing := goodIn_r _ [11, 12, 13, 14, 15, 16, 17, 18, 19, 20, 21, 22, 23, 24, 25, 26, 27, 28, 29, 30, 31, 32, 33, 34, 35, 36, 37, 38, 39, 40, 41] (by decide +kernel) (by decide +kernel)
set_option maxRecDepth 20000 in
theorem gX4_sure_X4_throwing : GoodIn wsX4_sure (wsV RX4 96 RX4 yX4_throwing wsX4_throwing) := goodIn_app (goodIn_of _ (by decide +kernel)) ggX4_sure_X4_throwing
theorem dX4_sure_0 : decode cX4_sure 0 = .ok (.aload_n 0, 1) := by decide +kernel
theorem dX4_sure_1 : decode cX4_sure 1 = .ok (.aload_n 0, 1) := by decide +kernel
theorem dX4_sure_2 : decode cX4_sure 2 = .ok (.iload_n 1, 1) := by decide +kernel
theorem dX4_sure_3 : decode cX4_sure 3 = .ok (.invokevirtual 93, 3) := by decide +kernel
theorem dX4_sure_6 : decode cX4_sure 6 = .ok (.ifCond .ne 7, 3) := by decide +kernel
theorem dX4_sure_9 : decode cX4_sure 9 = .ok (.iconst 1, 1) := by decide +kernel
theorem dX4_sure_10 : decode cX4_sure 10 = .ok (.goto 4, 3) := by decide +kernel
theorem dX4_sure_13 : decode cX4_sure 13 = .ok (.iconst 0, 1) := by decide +kernel
theorem dX4_sure_14 : decode cX4_sure 14 = .ok (.iconst 0, 1) := by decide +kernel
theorem dX4_sure_15 : decode cX4_sure 15 = .ok (.iconst 0, 1) := by decide +kernel
theorem dX4_sure_16 : decode cX4_sure 16 = .ok (.invokevirtual 96, 3) := by decide +kernel
theorem dX4_sure_19 : decode cX4_sure 19 = .ok (.ifCond .eq 7, 3) := by decide +kernel
theorem dX4_sure_22 : decode cX4_sure 22 = .ok (.iconst 0, 1) := by decide +kernel
theorem dX4_sure_23 : decode cX4_sure 23 = .ok (.goto 9, 3) := by decide +kernel
theorem dX4_sure_26 : decode cX4_sure 26 = .ok (.aload_n 0, 1) := by decide +kernel
theorem dX4_sure_27 : decode cX4_sure 27 = .ok (.getfield 13, 3) := by decide +kernel
theorem dX4_sure_30 : decode cX4_sure 30 = .ok (.iload_n 1, 1) := by decide +kernel
theorem dX4_sure_31 : decode cX4_sure 31 = .ok (.iaload, 1) := by decide +kernel
theorem dX4_sure_32 : decode cX4_sure 32 = .ok (.ireturn, 1) := by decide +kernel
set_option maxRecDepth 20000 in
theorem ggX4_shares_X4_throwing : GoodIn wsX4_shares wsX4_throwing := goodIn_r _ [7, 8, 9, 10, 11, 12, 13, 14, 15, 16, 17, 18, 19, 20, 21, 22, 23, 24, 25, 26, 27, 28, 29, 30, 31, 32, 33, 34, 35, 36, 37] (by decide +kernel) (by decide +kernel)
set_option maxRecDepth 20000 in
theorem gX4_shares_X4_throwing : GoodIn wsX4_shares (wsV RX4 96 RX4 yX4_throwing wsX4_throwing) := goodIn_app (goodIn_of _ (by decide +kernel)) ggX4_shares_X4_throwing
theorem dX4_shares_0 : decode cX4_shares 0 = .ok (.aload_n 0, 1) := by decide +kernel
theorem dX4_shares_1 : decode cX4_shares 1 = .ok (.iload_n 1, 1) := by decide +kernel
theorem dX4_shares_2 : decode cX4_shares 2 = .ok (.ifCond .lt 11, 3) := by decide +kernel
theorem dX4_shares_5 : decode cX4_shares 5 = .ok (.iload_n 1, 1) := by decide +kernel
theorem dX4_shares_6 : decode cX4_shares 6 = .ok (.aload_n 0, 1) := by decide +kernel
theorem dX4_shares_7 : decode cX4_shares 7 = .ok (.getfield 67, 3) := by decide +kernel
theorem dX4_shares_10 : decode cX4_shares 10 = .ok (.if_icmp .lt 7, 3) := by decide +kernel
theorem dX4_shares_13 : decode cX4_shares 13 = .ok (.iconst 1, 1) := by decide +kernel
theorem dX4_shares_14 : decode cX4_shares 14 = .ok (.goto 4, 3) := by decide +kernel
theorem dX4_shares_17 : decode cX4_shares 17 = .ok (.iconst 0, 1) := by decide +kernel
theorem dX4_shares_18 : decode cX4_shares 18 = .ok (.iconst 0, 1) := by decide +kernel
theorem dX4_shares_19 : decode cX4_shares 19 = .ok (.iconst 0, 1) := by decide +kernel
theorem dX4_shares_20 : decode cX4_shares 20 = .ok (.invokevirtual 96, 3) := by decide +kernel
theorem dX4_shares_23 : decode cX4_shares 23 = .ok (.ifCond .eq 7, 3) := by decide +kernel
theorem dX4_shares_26 : decode cX4_shares 26 = .ok (.iconst 0, 1) := by decide +kernel
theorem dX4_shares_27 : decode cX4_shares 27 = .ok (.goto 9, 3) := by decide +kernel
theorem dX4_shares_30 : decode cX4_shares 30 = .ok (.aload_n 0, 1) := by decide +kernel
theorem dX4_shares_31 : decode cX4_shares 31 = .ok (.getfield 16, 3) := by decide +kernel
theorem dX4_shares_34 : decode cX4_shares 34 = .ok (.iload_n 1, 1) := by decide +kernel
theorem dX4_shares_35 : decode cX4_shares 35 = .ok (.iaload, 1) := by decide +kernel
theorem dX4_shares_36 : decode cX4_shares 36 = .ok (.ireturn, 1) := by decide +kernel
set_option maxRecDepth 20000 in
theorem ggX4_queue_X4_throwing : GoodIn wsX4_queue wsX4_throwing := goodIn_r _ [7, 8, 9, 10, 11, 12, 13, 14, 15, 16, 17, 18, 19, 20, 21, 22, 23, 24, 25, 26, 27, 28, 29, 30, 31, 32, 33, 34, 35, 36, 37] (by decide +kernel) (by decide +kernel)
set_option maxRecDepth 20000 in
theorem gX4_queue_X4_throwing : GoodIn wsX4_queue (wsV RX4 96 RX4 yX4_throwing wsX4_throwing) := goodIn_app (goodIn_of _ (by decide +kernel)) ggX4_queue_X4_throwing
theorem dX4_queue_0 : decode cX4_queue 0 = .ok (.aload_n 0, 1) := by decide +kernel
theorem dX4_queue_1 : decode cX4_queue 1 = .ok (.iload_n 1, 1) := by decide +kernel
theorem dX4_queue_2 : decode cX4_queue 2 = .ok (.ifCond .lt 11, 3) := by decide +kernel
theorem dX4_queue_5 : decode cX4_queue 5 = .ok (.iload_n 1, 1) := by decide +kernel
theorem dX4_queue_6 : decode cX4_queue 6 = .ok (.aload_n 0, 1) := by decide +kernel
theorem dX4_queue_7 : decode cX4_queue 7 = .ok (.getfield 73, 3) := by decide +kernel
theorem dX4_queue_10 : decode cX4_queue 10 = .ok (.if_icmp .lt 7, 3) := by decide +kernel
theorem dX4_queue_13 : decode cX4_queue 13 = .ok (.iconst 1, 1) := by decide +kernel
theorem dX4_queue_14 : decode cX4_queue 14 = .ok (.goto 4, 3) := by decide +kernel
theorem dX4_queue_17 : decode cX4_queue 17 = .ok (.iconst 0, 1) := by decide +kernel
theorem dX4_queue_18 : decode cX4_queue 18 = .ok (.iconst 0, 1) := by decide +kernel
theorem dX4_queue_19 : decode cX4_queue 19 = .ok (.iconst 0, 1) := by decide +kernel
theorem dX4_queue_20 : decode cX4_queue 20 = .ok (.invokevirtual 96, 3) := by decide +kernel
theorem dX4_queue_23 : decode cX4_queue 23 = .ok (.ifCond .eq 7, 3) := by decide +kernel
theorem dX4_queue_26 : decode cX4_queue 26 = .ok (.iconst 0, 1) := by decide +kernel
theorem dX4_queue_27 : decode cX4_queue 27 = .ok (.goto 9, 3) := by decide +kernel
theorem dX4_queue_30 : decode cX4_queue 30 = .ok (.aload_n 0, 1) := by decide +kernel
theorem dX4_queue_31 : decode cX4_queue 31 = .ok (.getfield 23, 3) := by decide +kernel
theorem dX4_queue_34 : decode cX4_queue 34 = .ok (.iload_n 1, 1) := by decide +kernel
theorem dX4_queue_35 : decode cX4_queue 35 = .ok (.iaload, 1) := by decide +kernel
theorem dX4_queue_36 : decode cX4_queue 36 = .ok (.ireturn, 1) := by decide +kernel
set_option maxRecDepth 20000 in
theorem ggX4_row_X4_isPlace : GoodIn wsX4_row wsX4_isPlace := goodIn_r _ [12, 13, 25, 26, 27, 28, 29, 30, 31, 32, 33, 34, 35, 36, 37, 38, 39, 40, 41, 42, 43, 44, 45, 46, 47, 48, 49, 50, 51, 52, 53] (by decide +kernel) (by decide +kernel)
set_option maxRecDepth 20000 in
theorem gX4_row_X4_isPlace : GoodIn wsX4_row (wsV RX4 114 RX4 yX4_isPlace wsX4_isPlace) := goodIn_app (goodIn_of _ (by decide +kernel)) ggX4_row_X4_isPlace
set_option maxRecDepth 20000 in
theorem ggX4_row_X4_at : GoodIn wsX4_row wsX4_at := goodIn_r _ [17, 18, 13, 19, 25, 26, 27, 28, 29, 30, 31, 32, 33, 34, 35, 36, 37, 38, 39, 40, 41, 42, 43, 44, 45, 46, 47, 48, 49, 50, 51, 52, 53] (by decide +kernel) (by decide +kernel)
set_option maxRecDepth 20000 in
theorem gX4_row_X4_at : GoodIn wsX4_row (wsV RX4 117 RX4 yX4_at wsX4_at) := goodIn_app (goodIn_of _ (by decide +kernel)) ggX4_row_X4_at
set_option maxRecDepth 20000 in
theorem ggX4_row_X4_throwing : GoodIn wsX4_row wsX4_throwing := goodIn_r _ [23, 24, 25, 26, 27, 28, 29, 30, 31, 32, 33, 34, 35, 36, 37, 38, 39, 40, 41, 42, 43, 44, 45, 46, 47, 48, 49, 50, 51, 52, 53] (by decide +kernel) (by decide +kernel)
set_option maxRecDepth 20000 in
theorem gX4_row_X4_throwing : GoodIn wsX4_row (wsV RX4 96 RX4 yX4_throwing wsX4_throwing) := goodIn_app (goodIn_of _ (by decide +kernel)) ggX4_row_X4_throwing
theorem dX4_row_0 : decode cX4_row 0 = .ok (.aload_n 0, 1) := by decide +kernel
theorem dX4_row_1 : decode cX4_row 1 = .ok (.iload_n 1, 1) := by decide +kernel
theorem dX4_row_2 : decode cX4_row 2 = .ok (.invokevirtual 114, 3) := by decide +kernel
theorem dX4_row_5 : decode cX4_row 5 = .ok (.ifCond .eq 11, 3) := by decide +kernel
theorem dX4_row_8 : decode cX4_row 8 = .ok (.aload_n 0, 1) := by decide +kernel
theorem dX4_row_9 : decode cX4_row 9 = .ok (.iload_n 1, 1) := by decide +kernel
theorem dX4_row_10 : decode cX4_row 10 = .ok (.invokevirtual 117, 3) := by decide +kernel
theorem dX4_row_13 : decode cX4_row 13 = .ok (.goto 4, 3) := by decide +kernel
theorem dX4_row_16 : decode cX4_row 16 = .ok (.iconst (-1), 1) := by decide +kernel
theorem dX4_row_17 : decode cX4_row 17 = .ok (.istore_n 3, 1) := by decide +kernel
theorem dX4_row_18 : decode cX4_row 18 = .ok (.aload_n 0, 1) := by decide +kernel
theorem dX4_row_19 : decode cX4_row 19 = .ok (.aload_n 0, 1) := by decide +kernel
theorem dX4_row_20 : decode cX4_row 20 = .ok (.iload_n 1, 1) := by decide +kernel
theorem dX4_row_21 : decode cX4_row 21 = .ok (.invokevirtual 114, 3) := by decide +kernel
theorem dX4_row_24 : decode cX4_row 24 = .ok (.ifCond .ne 7, 3) := by decide +kernel
theorem dX4_row_27 : decode cX4_row 27 = .ok (.iconst 1, 1) := by decide +kernel
theorem dX4_row_28 : decode cX4_row 28 = .ok (.goto 4, 3) := by decide +kernel
theorem dX4_row_31 : decode cX4_row 31 = .ok (.iconst 0, 1) := by decide +kernel
theorem dX4_row_32 : decode cX4_row 32 = .ok (.iload_n 3, 1) := by decide +kernel
theorem dX4_row_33 : decode cX4_row 33 = .ok (.ifCond .ge 7, 3) := by decide +kernel
theorem dX4_row_36 : decode cX4_row 36 = .ok (.iconst 1, 1) := by decide +kernel
theorem dX4_row_37 : decode cX4_row 37 = .ok (.goto 4, 3) := by decide +kernel
theorem dX4_row_40 : decode cX4_row 40 = .ok (.iconst 0, 1) := by decide +kernel
theorem dX4_row_41 : decode cX4_row 41 = .ok (.iload_n 2, 1) := by decide +kernel
theorem dX4_row_42 : decode cX4_row 42 = .ok (.ifCond .lt 9, 3) := by decide +kernel
theorem dX4_row_45 : decode cX4_row 45 = .ok (.iload_n 2, 1) := by decide +kernel
theorem dX4_row_46 : decode cX4_row 46 = .ok (.bipush 6, 2) := by decide +kernel
theorem dX4_row_48 : decode cX4_row 48 = .ok (.if_icmp .le 7, 3) := by decide +kernel
theorem dX4_row_51 : decode cX4_row 51 = .ok (.iconst 1, 1) := by decide +kernel
theorem dX4_row_52 : decode cX4_row 52 = .ok (.goto 4, 3) := by decide +kernel
theorem dX4_row_55 : decode cX4_row 55 = .ok (.iconst 0, 1) := by decide +kernel
theorem dX4_row_56 : decode cX4_row 56 = .ok (.invokevirtual 96, 3) := by decide +kernel
theorem dX4_row_59 : decode cX4_row 59 = .ok (.ifCond .eq 5, 3) := by decide +kernel
theorem dX4_row_62 : decode cX4_row 62 = .ok (.iconst 0, 1) := by decide +kernel
theorem dX4_row_63 : decode cX4_row 63 = .ok (.ireturn, 1) := by decide +kernel
theorem dX4_row_64 : decode cX4_row 64 = .ok (.iload_n 2, 1) := by decide +kernel
theorem dX4_row_65 : decode cX4_row 65 = .ok (.tableswitch 81 0 5 #[39, 46, 53, 60, 67, 74], 39) := by decide +kernel
theorem dX4_row_104 : decode cX4_row 104 = .ok (.aload_n 0, 1) := by decide +kernel
theorem dX4_row_105 : decode cX4_row 105 = .ok (.getfield 26, 3) := by decide +kernel
theorem dX4_row_108 : decode cX4_row 108 = .ok (.iload_n 3, 1) := by decide +kernel
theorem dX4_row_109 : decode cX4_row 109 = .ok (.iaload, 1) := by decide +kernel
theorem dX4_row_110 : decode cX4_row 110 = .ok (.ireturn, 1) := by decide +kernel
theorem dX4_row_111 : decode cX4_row 111 = .ok (.aload_n 0, 1) := by decide +kernel
theorem dX4_row_112 : decode cX4_row 112 = .ok (.getfield 29, 3) := by decide +kernel
theorem dX4_row_115 : decode cX4_row 115 = .ok (.iload_n 3, 1) := by decide +kernel
theorem dX4_row_116 : decode cX4_row 116 = .ok (.iaload, 1) := by decide +kernel
theorem dX4_row_117 : decode cX4_row 117 = .ok (.ireturn, 1) := by decide +kernel
theorem dX4_row_118 : decode cX4_row 118 = .ok (.aload_n 0, 1) := by decide +kernel
theorem dX4_row_119 : decode cX4_row 119 = .ok (.getfield 32, 3) := by decide +kernel
theorem dX4_row_122 : decode cX4_row 122 = .ok (.iload_n 3, 1) := by decide +kernel
theorem dX4_row_123 : decode cX4_row 123 = .ok (.iaload, 1) := by decide +kernel
theorem dX4_row_124 : decode cX4_row 124 = .ok (.ireturn, 1) := by decide +kernel
theorem dX4_row_125 : decode cX4_row 125 = .ok (.aload_n 0, 1) := by decide +kernel
theorem dX4_row_126 : decode cX4_row 126 = .ok (.getfield 35, 3) := by decide +kernel
theorem dX4_row_129 : decode cX4_row 129 = .ok (.iload_n 3, 1) := by decide +kernel
theorem dX4_row_130 : decode cX4_row 130 = .ok (.iaload, 1) := by decide +kernel
theorem dX4_row_131 : decode cX4_row 131 = .ok (.ireturn, 1) := by decide +kernel
theorem dX4_row_132 : decode cX4_row 132 = .ok (.aload_n 0, 1) := by decide +kernel
theorem dX4_row_133 : decode cX4_row 133 = .ok (.getfield 38, 3) := by decide +kernel
theorem dX4_row_136 : decode cX4_row 136 = .ok (.iload_n 3, 1) := by decide +kernel
theorem dX4_row_137 : decode cX4_row 137 = .ok (.iaload, 1) := by decide +kernel
theorem dX4_row_138 : decode cX4_row 138 = .ok (.ireturn, 1) := by decide +kernel
theorem dX4_row_139 : decode cX4_row 139 = .ok (.aload_n 0, 1) := by decide +kernel
theorem dX4_row_140 : decode cX4_row 140 = .ok (.getfield 41, 3) := by decide +kernel
theorem dX4_row_143 : decode cX4_row 143 = .ok (.iload_n 3, 1) := by decide +kernel
theorem dX4_row_144 : decode cX4_row 144 = .ok (.iaload, 1) := by decide +kernel
theorem dX4_row_145 : decode cX4_row 145 = .ok (.ireturn, 1) := by decide +kernel
theorem dX4_row_146 : decode cX4_row 146 = .ok (.aload_n 0, 1) := by decide +kernel
theorem dX4_row_147 : decode cX4_row 147 = .ok (.getfield 44, 3) := by decide +kernel
theorem dX4_row_150 : decode cX4_row 150 = .ok (.iload_n 3, 1) := by decide +kernel
theorem dX4_row_151 : decode cX4_row 151 = .ok (.iaload, 1) := by decide +kernel
theorem dX4_row_152 : decode cX4_row 152 = .ok (.ireturn, 1) := by decide +kernel
theorem dX4_count_0 : decode cX4_count 0 = .ok (.aload_n 0, 1) := by decide +kernel
theorem dX4_count_1 : decode cX4_count 1 = .ok (.iconst 0, 1) := by decide +kernel
theorem dX4_count_2 : decode cX4_count 2 = .ok (.putfield 76, 3) := by decide +kernel
theorem dX4_count_5 : decode cX4_count 5 = .ok (.iload_n 1, 1) := by decide +kernel
theorem dX4_count_6 : decode cX4_count 6 = .ok (.tableswitch 124 0 10 #[58, 63, 68, 73, 78, 83, 88, 93, 98, 114, 119], 58) := by decide +kernel
theorem dX4_count_64 : decode cX4_count 64 = .ok (.aload_n 0, 1) := by decide +kernel
theorem dX4_count_65 : decode cX4_count 65 = .ok (.getfield 63, 3) := by decide +kernel
theorem dX4_count_68 : decode cX4_count 68 = .ok (.ireturn, 1) := by decide +kernel
theorem dX4_count_69 : decode cX4_count 69 = .ok (.aload_n 0, 1) := by decide +kernel
theorem dX4_count_70 : decode cX4_count 70 = .ok (.getfield 67, 3) := by decide +kernel
theorem dX4_count_73 : decode cX4_count 73 = .ok (.ireturn, 1) := by decide +kernel
theorem dX4_count_74 : decode cX4_count 74 = .ok (.aload_n 0, 1) := by decide +kernel
theorem dX4_count_75 : decode cX4_count 75 = .ok (.getfield 70, 3) := by decide +kernel
theorem dX4_count_78 : decode cX4_count 78 = .ok (.ireturn, 1) := by decide +kernel
theorem dX4_count_79 : decode cX4_count 79 = .ok (.aload_n 0, 1) := by decide +kernel
theorem dX4_count_80 : decode cX4_count 80 = .ok (.getfield 86, 3) := by decide +kernel
theorem dX4_count_83 : decode cX4_count 83 = .ok (.ireturn, 1) := by decide +kernel
theorem dX4_count_84 : decode cX4_count 84 = .ok (.aload_n 0, 1) := by decide +kernel
theorem dX4_count_85 : decode cX4_count 85 = .ok (.getfield 73, 3) := by decide +kernel
theorem dX4_count_88 : decode cX4_count 88 = .ok (.ireturn, 1) := by decide +kernel
theorem dX4_count_89 : decode cX4_count 89 = .ok (.aload_n 0, 1) := by decide +kernel
theorem dX4_count_90 : decode cX4_count 90 = .ok (.getfield 140, 3) := by decide +kernel
theorem dX4_count_93 : decode cX4_count 93 = .ok (.ireturn, 1) := by decide +kernel
theorem dX4_count_94 : decode cX4_count 94 = .ok (.aload_n 0, 1) := by decide +kernel
theorem dX4_count_95 : decode cX4_count 95 = .ok (.getfield 127, 3) := by decide +kernel
theorem dX4_count_98 : decode cX4_count 98 = .ok (.ireturn, 1) := by decide +kernel
theorem dX4_count_99 : decode cX4_count 99 = .ok (.aload_n 0, 1) := by decide +kernel
theorem dX4_count_100 : decode cX4_count 100 = .ok (.getfield 152, 3) := by decide +kernel
theorem dX4_count_103 : decode cX4_count 103 = .ok (.ireturn, 1) := by decide +kernel
theorem dX4_count_104 : decode cX4_count 104 = .ok (.aload_n 0, 1) := by decide +kernel
theorem dX4_count_105 : decode cX4_count 105 = .ok (.getfield 86, 3) := by decide +kernel
theorem dX4_count_108 : decode cX4_count 108 = .ok (.ifCond .ne 7, 3) := by decide +kernel
theorem dX4_count_111 : decode cX4_count 111 = .ok (.iconst (-1), 1) := by decide +kernel
theorem dX4_count_112 : decode cX4_count 112 = .ok (.goto 7, 3) := by decide +kernel
theorem dX4_count_115 : decode cX4_count 115 = .ok (.aload_n 0, 1) := by decide +kernel
theorem dX4_count_116 : decode cX4_count 116 = .ok (.getfield 83, 3) := by decide +kernel
theorem dX4_count_119 : decode cX4_count 119 = .ok (.ireturn, 1) := by decide +kernel
theorem dX4_count_120 : decode cX4_count 120 = .ok (.aload_n 0, 1) := by decide +kernel
theorem dX4_count_121 : decode cX4_count 121 = .ok (.getfield 100, 3) := by decide +kernel
theorem dX4_count_124 : decode cX4_count 124 = .ok (.ireturn, 1) := by decide +kernel
theorem dX4_count_125 : decode cX4_count 125 = .ok (.aload_n 0, 1) := by decide +kernel
theorem dX4_count_126 : decode cX4_count 126 = .ok (.getfield 103, 3) := by decide +kernel
theorem dX4_count_129 : decode cX4_count 129 = .ok (.ireturn, 1) := by decide +kernel
theorem dX4_count_130 : decode cX4_count 130 = .ok (.iconst (-1), 1) := by decide +kernel
theorem dX4_count_131 : decode cX4_count 131 = .ok (.ireturn, 1) := by decide +kernel
