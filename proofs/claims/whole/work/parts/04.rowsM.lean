theorem dX6_init_0 : decode cX6_init 0 = .ok (.aload_n 0, 1) := by decide +kernel
theorem dX6_init_1 : decode cX6_init 1 = .ok (.invokespecial 1, 3) := by decide +kernel
theorem dX6_init_4 : decode cX6_init 4 = .ok (.aload_n 0, 1) := by decide +kernel
theorem dX6_init_5 : decode cX6_init 5 = .ok (.bipush 6, 2) := by decide +kernel
theorem dX6_init_7 : decode cX6_init 7 = .ok (.newarray .int, 2) := by decide +kernel
theorem dX6_init_9 : decode cX6_init 9 = .ok (.putfield 7, 3) := by decide +kernel
theorem dX6_init_12 : decode cX6_init 12 = .ok (.aload_n 0, 1) := by decide +kernel
theorem dX6_init_13 : decode cX6_init 13 = .ok (.bipush 6, 2) := by decide +kernel
theorem dX6_init_15 : decode cX6_init 15 = .ok (.newarray .int, 2) := by decide +kernel
theorem dX6_init_17 : decode cX6_init 17 = .ok (.putfield 13, 3) := by decide +kernel
theorem dX6_init_20 : decode cX6_init 20 = .ok (.aload_n 0, 1) := by decide +kernel
theorem dX6_init_21 : decode cX6_init 21 = .ok (.bipush 6, 2) := by decide +kernel
theorem dX6_init_23 : decode cX6_init 23 = .ok (.newarray .int, 2) := by decide +kernel
theorem dX6_init_25 : decode cX6_init 25 = .ok (.putfield 16, 3) := by decide +kernel
theorem dX6_init_28 : decode cX6_init 28 = .ok (.aload_n 0, 1) := by decide +kernel
theorem dX6_init_29 : decode cX6_init 29 = .ok (.bipush 6, 2) := by decide +kernel
theorem dX6_init_31 : decode cX6_init 31 = .ok (.newarray .int, 2) := by decide +kernel
theorem dX6_init_33 : decode cX6_init 33 = .ok (.putfield 19, 3) := by decide +kernel
theorem dX6_init_36 : decode cX6_init 36 = .ok (.aload_n 0, 1) := by decide +kernel
theorem dX6_init_37 : decode cX6_init 37 = .ok (.bipush 6, 2) := by decide +kernel
theorem dX6_init_39 : decode cX6_init 39 = .ok (.newarray .int, 2) := by decide +kernel
theorem dX6_init_41 : decode cX6_init 41 = .ok (.putfield 22, 3) := by decide +kernel
theorem dX6_init_44 : decode cX6_init 44 = .ok (.aload_n 0, 1) := by decide +kernel
theorem dX6_init_45 : decode cX6_init 45 = .ok (.bipush 6, 2) := by decide +kernel
theorem dX6_init_47 : decode cX6_init 47 = .ok (.newarray .int, 2) := by decide +kernel
theorem dX6_init_49 : decode cX6_init 49 = .ok (.putfield 25, 3) := by decide +kernel
theorem dX6_init_52 : decode cX6_init 52 = .ok (.aload_n 0, 1) := by decide +kernel
theorem dX6_init_53 : decode cX6_init 53 = .ok (.bipush 6, 2) := by decide +kernel
theorem dX6_init_55 : decode cX6_init 55 = .ok (.newarray .int, 2) := by decide +kernel
theorem dX6_init_57 : decode cX6_init 57 = .ok (.putfield 28, 3) := by decide +kernel
theorem dX6_init_60 : decode cX6_init 60 = .ok (.aload_n 0, 1) := by decide +kernel
theorem dX6_init_61 : decode cX6_init 61 = .ok (.bipush 6, 2) := by decide +kernel
theorem dX6_init_63 : decode cX6_init 63 = .ok (.newarray .int, 2) := by decide +kernel
theorem dX6_init_65 : decode cX6_init 65 = .ok (.putfield 31, 3) := by decide +kernel
theorem dX6_init_68 : decode cX6_init 68 = .ok (.aload_n 0, 1) := by decide +kernel
theorem dX6_init_69 : decode cX6_init 69 = .ok (.iconst 1, 1) := by decide +kernel
theorem dX6_init_70 : decode cX6_init 70 = .ok (.putfield 34, 3) := by decide +kernel
theorem dX6_init_73 : decode cX6_init 73 = .ok (.aload_n 0, 1) := by decide +kernel
theorem dX6_init_74 : decode cX6_init 74 = .ok (.bipush 40, 2) := by decide +kernel
theorem dX6_init_76 : decode cX6_init 76 = .ok (.newarray .int, 2) := by decide +kernel
theorem dX6_init_78 : decode cX6_init 78 = .ok (.putfield 38, 3) := by decide +kernel
theorem dX6_init_81 : decode cX6_init 81 = .ok (.aload_n 0, 1) := by decide +kernel
theorem dX6_init_82 : decode cX6_init 82 = .ok (.bipush 40, 2) := by decide +kernel
theorem dX6_init_84 : decode cX6_init 84 = .ok (.newarray .int, 2) := by decide +kernel
theorem dX6_init_86 : decode cX6_init 86 = .ok (.putfield 41, 3) := by decide +kernel
theorem dX6_init_89 : decode cX6_init 89 = .ok (.aload_n 0, 1) := by decide +kernel
theorem dX6_init_90 : decode cX6_init 90 = .ok (.bipush 40, 2) := by decide +kernel
theorem dX6_init_92 : decode cX6_init 92 = .ok (.newarray .int, 2) := by decide +kernel
theorem dX6_init_94 : decode cX6_init 94 = .ok (.putfield 44, 3) := by decide +kernel
theorem dX6_init_97 : decode cX6_init 97 = .ok (.aload_n 0, 1) := by decide +kernel
theorem dX6_init_98 : decode cX6_init 98 = .ok (.bipush 40, 2) := by decide +kernel
theorem dX6_init_100 : decode cX6_init 100 = .ok (.newarray .int, 2) := by decide +kernel
theorem dX6_init_102 : decode cX6_init 102 = .ok (.putfield 47, 3) := by decide +kernel
theorem dX6_init_105 : decode cX6_init 105 = .ok (.aload_n 0, 1) := by decide +kernel
theorem dX6_init_106 : decode cX6_init 106 = .ok (.bipush 40, 2) := by decide +kernel
theorem dX6_init_108 : decode cX6_init 108 = .ok (.newarray .int, 2) := by decide +kernel
theorem dX6_init_110 : decode cX6_init 110 = .ok (.putfield 50, 3) := by decide +kernel
theorem dX6_init_113 : decode cX6_init 113 = .ok (.aload_n 0, 1) := by decide +kernel
theorem dX6_init_114 : decode cX6_init 114 = .ok (.bipush 40, 2) := by decide +kernel
theorem dX6_init_116 : decode cX6_init 116 = .ok (.newarray .int, 2) := by decide +kernel
theorem dX6_init_118 : decode cX6_init 118 = .ok (.putfield 53, 3) := by decide +kernel
theorem dX6_init_121 : decode cX6_init 121 = .ok (.aload_n 0, 1) := by decide +kernel
theorem dX6_init_122 : decode cX6_init 122 = .ok (.bipush 40, 2) := by decide +kernel
theorem dX6_init_124 : decode cX6_init 124 = .ok (.newarray .int, 2) := by decide +kernel
theorem dX6_init_126 : decode cX6_init 126 = .ok (.putfield 56, 3) := by decide +kernel
theorem dX6_init_129 : decode cX6_init 129 = .ok (.aload_n 0, 1) := by decide +kernel
theorem dX6_init_130 : decode cX6_init 130 = .ok (.bipush 40, 2) := by decide +kernel
theorem dX6_init_132 : decode cX6_init 132 = .ok (.newarray .int, 2) := by decide +kernel
theorem dX6_init_134 : decode cX6_init 134 = .ok (.putfield 59, 3) := by decide +kernel
theorem dX6_init_137 : decode cX6_init 137 = .ok (.aload_n 0, 1) := by decide +kernel
theorem dX6_init_138 : decode cX6_init 138 = .ok (.bipush 40, 2) := by decide +kernel
theorem dX6_init_140 : decode cX6_init 140 = .ok (.newarray .int, 2) := by decide +kernel
theorem dX6_init_142 : decode cX6_init 142 = .ok (.putfield 62, 3) := by decide +kernel
theorem dX6_init_145 : decode cX6_init 145 = .ok (.aload_n 0, 1) := by decide +kernel
theorem dX6_init_146 : decode cX6_init 146 = .ok (.bipush 40, 2) := by decide +kernel
theorem dX6_init_148 : decode cX6_init 148 = .ok (.newarray .int, 2) := by decide +kernel
theorem dX6_init_150 : decode cX6_init 150 = .ok (.putfield 65, 3) := by decide +kernel
theorem dX6_init_153 : decode cX6_init 153 = .ok (.aload_n 0, 1) := by decide +kernel
theorem dX6_init_154 : decode cX6_init 154 = .ok (.bipush 40, 2) := by decide +kernel
theorem dX6_init_156 : decode cX6_init 156 = .ok (.newarray .int, 2) := by decide +kernel
theorem dX6_init_158 : decode cX6_init 158 = .ok (.putfield 68, 3) := by decide +kernel
theorem dX6_init_161 : decode cX6_init 161 = .ok (.aload_n 0, 1) := by decide +kernel
theorem dX6_init_162 : decode cX6_init 162 = .ok (.sipush 360, 3) := by decide +kernel
theorem dX6_init_165 : decode cX6_init 165 = .ok (.newarray .int, 2) := by decide +kernel
theorem dX6_init_167 : decode cX6_init 167 = .ok (.putfield 71, 3) := by decide +kernel
theorem dX6_init_170 : decode cX6_init 170 = .ok (.aload_n 0, 1) := by decide +kernel
theorem dX6_init_171 : decode cX6_init 171 = .ok (.sipush 360, 3) := by decide +kernel
theorem dX6_init_174 : decode cX6_init 174 = .ok (.newarray .int, 2) := by decide +kernel
theorem dX6_init_176 : decode cX6_init 176 = .ok (.putfield 74, 3) := by decide +kernel
theorem dX6_init_179 : decode cX6_init 179 = .ok (.aload_n 0, 1) := by decide +kernel
theorem dX6_init_180 : decode cX6_init 180 = .ok (.iconst (-1), 1) := by decide +kernel
theorem dX6_init_181 : decode cX6_init 181 = .ok (.putfield 77, 3) := by decide +kernel
theorem dX6_init_184 : decode cX6_init 184 = .ok (.aload_n 0, 1) := by decide +kernel
theorem dX6_init_185 : decode cX6_init 185 = .ok (.iconst (-1), 1) := by decide +kernel
theorem dX6_init_186 : decode cX6_init 186 = .ok (.putfield 80, 3) := by decide +kernel
theorem dX6_init_189 : decode cX6_init 189 = .ok (.aload_n 0, 1) := by decide +kernel
theorem dX6_init_190 : decode cX6_init 190 = .ok (.iconst 4, 1) := by decide +kernel
theorem dX6_init_191 : decode cX6_init 191 = .ok (.newarray .int, 2) := by decide +kernel
theorem dX6_init_193 : decode cX6_init 193 = .ok (.putfield 83, 3) := by decide +kernel
theorem dX6_init_196 : decode cX6_init 196 = .ok (.aload_n 0, 1) := by decide +kernel
theorem dX6_init_197 : decode cX6_init 197 = .ok (.iconst 4, 1) := by decide +kernel
theorem dX6_init_198 : decode cX6_init 198 = .ok (.newarray .int, 2) := by decide +kernel
theorem dX6_init_200 : decode cX6_init 200 = .ok (.putfield 86, 3) := by decide +kernel
theorem dX6_init_203 : decode cX6_init 203 = .ok (.aload_n 0, 1) := by decide +kernel
theorem dX6_init_204 : decode cX6_init 204 = .ok (.iconst 4, 1) := by decide +kernel
theorem dX6_init_205 : decode cX6_init 205 = .ok (.newarray .int, 2) := by decide +kernel
theorem dX6_init_207 : decode cX6_init 207 = .ok (.putfield 89, 3) := by decide +kernel
theorem dX6_init_210 : decode cX6_init 210 = .ok (.aload_n 0, 1) := by decide +kernel
theorem dX6_init_211 : decode cX6_init 211 = .ok (.iconst 5, 1) := by decide +kernel
theorem dX6_init_212 : decode cX6_init 212 = .ok (.newarray .int, 2) := by decide +kernel
theorem dX6_init_214 : decode cX6_init 214 = .ok (.putfield 92, 3) := by decide +kernel
theorem dX6_init_217 : decode cX6_init 217 = .ok (.iconst 0, 1) := by decide +kernel
theorem dX6_init_218 : decode cX6_init 218 = .ok (.istore_n 1, 1) := by decide +kernel
theorem dX6_init_219 : decode cX6_init 219 = .ok (.iload_n 1, 1) := by decide +kernel
theorem dX6_init_220 : decode cX6_init 220 = .ok (.bipush 6, 2) := by decide +kernel
theorem dX6_init_222 : decode cX6_init 222 = .ok (.if_icmp .ge 31, 3) := by decide +kernel
theorem dX6_init_225 : decode cX6_init 225 = .ok (.aload_n 0, 1) := by decide +kernel
theorem dX6_init_226 : decode cX6_init 226 = .ok (.getfield 22, 3) := by decide +kernel
theorem dX6_init_229 : decode cX6_init 229 = .ok (.iload_n 1, 1) := by decide +kernel
theorem dX6_init_230 : decode cX6_init 230 = .ok (.bipush 8, 2) := by decide +kernel
theorem dX6_init_232 : decode cX6_init 232 = .ok (.iastore, 1) := by decide +kernel
theorem dX6_init_233 : decode cX6_init 233 = .ok (.aload_n 0, 1) := by decide +kernel
theorem dX6_init_234 : decode cX6_init 234 = .ok (.getfield 25, 3) := by decide +kernel
theorem dX6_init_237 : decode cX6_init 237 = .ok (.iload_n 1, 1) := by decide +kernel
theorem dX6_init_238 : decode cX6_init 238 = .ok (.iconst 3, 1) := by decide +kernel
theorem dX6_init_239 : decode cX6_init 239 = .ok (.iastore, 1) := by decide +kernel
theorem dX6_init_240 : decode cX6_init 240 = .ok (.aload_n 0, 1) := by decide +kernel
theorem dX6_init_241 : decode cX6_init 241 = .ok (.getfield 28, 3) := by decide +kernel
theorem dX6_init_244 : decode cX6_init 244 = .ok (.iload_n 1, 1) := by decide +kernel
theorem dX6_init_245 : decode cX6_init 245 = .ok (.iload_n 1, 1) := by decide +kernel
theorem dX6_init_246 : decode cX6_init 246 = .ok (.iastore, 1) := by decide +kernel
theorem dX6_init_247 : decode cX6_init 247 = .ok (.iinc 1 1, 3) := by decide +kernel
theorem dX6_init_250 : decode cX6_init 250 = .ok (.goto (-31), 3) := by decide +kernel
theorem dX6_init_253 : decode cX6_init 253 = .ok (.iconst 0, 1) := by decide +kernel
theorem dX6_init_254 : decode cX6_init 254 = .ok (.istore_n 1, 1) := by decide +kernel
theorem dX6_init_255 : decode cX6_init 255 = .ok (.iload_n 1, 1) := by decide +kernel
theorem dX6_init_256 : decode cX6_init 256 = .ok (.bipush 40, 2) := by decide +kernel
theorem dX6_init_258 : decode cX6_init 258 = .ok (.if_icmp .ge 30, 3) := by decide +kernel
theorem dX6_init_261 : decode cX6_init 261 = .ok (.aload_n 0, 1) := by decide +kernel
theorem dX6_init_262 : decode cX6_init 262 = .ok (.getfield 59, 3) := by decide +kernel
theorem dX6_init_265 : decode cX6_init 265 = .ok (.iload_n 1, 1) := by decide +kernel
theorem dX6_init_266 : decode cX6_init 266 = .ok (.iconst (-1), 1) := by decide +kernel
theorem dX6_init_267 : decode cX6_init 267 = .ok (.iastore, 1) := by decide +kernel
theorem dX6_init_268 : decode cX6_init 268 = .ok (.aload_n 0, 1) := by decide +kernel
theorem dX6_init_269 : decode cX6_init 269 = .ok (.getfield 62, 3) := by decide +kernel
theorem dX6_init_272 : decode cX6_init 272 = .ok (.iload_n 1, 1) := by decide +kernel
theorem dX6_init_273 : decode cX6_init 273 = .ok (.iconst (-1), 1) := by decide +kernel
theorem dX6_init_274 : decode cX6_init 274 = .ok (.iastore, 1) := by decide +kernel
theorem dX6_init_275 : decode cX6_init 275 = .ok (.aload_n 0, 1) := by decide +kernel
theorem dX6_init_276 : decode cX6_init 276 = .ok (.getfield 68, 3) := by decide +kernel
theorem dX6_init_279 : decode cX6_init 279 = .ok (.iload_n 1, 1) := by decide +kernel
theorem dX6_init_280 : decode cX6_init 280 = .ok (.iconst (-1), 1) := by decide +kernel
theorem dX6_init_281 : decode cX6_init 281 = .ok (.iastore, 1) := by decide +kernel
theorem dX6_init_282 : decode cX6_init 282 = .ok (.iinc 1 1, 3) := by decide +kernel
theorem dX6_init_285 : decode cX6_init 285 = .ok (.goto (-30), 3) := by decide +kernel
theorem dX6_init_288 : decode cX6_init 288 = .ok (.return_, 1) := by decide +kernel
theorem dX6_thrown_0 : decode cX6_thrown 0 = .ok (.aload_n 0, 1) := by decide +kernel
theorem dX6_thrown_1 : decode cX6_thrown 1 = .ok (.getfield 95, 3) := by decide +kernel
theorem dX6_thrown_4 : decode cX6_thrown 4 = .ok (.ireturn, 1) := by decide +kernel
theorem dX6_goes_0 : decode cX6_goes 0 = .ok (.aload_n 0, 1) := by decide +kernel
theorem dX6_goes_1 : decode cX6_goes 1 = .ok (.iload_n 1, 1) := by decide +kernel
theorem dX6_goes_2 : decode cX6_goes 2 = .ok (.ifCond .ne 7, 3) := by decide +kernel
theorem dX6_goes_5 : decode cX6_goes 5 = .ok (.iconst 1, 1) := by decide +kernel
theorem dX6_goes_6 : decode cX6_goes 6 = .ok (.goto 20, 3) := by decide +kernel
theorem dX6_goes_9 : decode cX6_goes 9 = .ok (.iload_n 2, 1) := by decide +kernel
theorem dX6_goes_10 : decode cX6_goes 10 = .ok (.ifCond .ne 7, 3) := by decide +kernel
theorem dX6_goes_13 : decode cX6_goes 13 = .ok (.iconst 2, 1) := by decide +kernel
theorem dX6_goes_14 : decode cX6_goes 14 = .ok (.goto 12, 3) := by decide +kernel
theorem dX6_goes_17 : decode cX6_goes 17 = .ok (.iload_n 3, 1) := by decide +kernel
theorem dX6_goes_18 : decode cX6_goes 18 = .ok (.ifCond .ne 7, 3) := by decide +kernel
theorem dX6_goes_21 : decode cX6_goes 21 = .ok (.iconst 3, 1) := by decide +kernel
theorem dX6_goes_22 : decode cX6_goes 22 = .ok (.goto 4, 3) := by decide +kernel
theorem dX6_goes_25 : decode cX6_goes 25 = .ok (.iconst 0, 1) := by decide +kernel
theorem dX6_goes_26 : decode cX6_goes 26 = .ok (.putfield 95, 3) := by decide +kernel
theorem dX6_goes_29 : decode cX6_goes 29 = .ok (.aload_n 0, 1) := by decide +kernel
theorem dX6_goes_30 : decode cX6_goes 30 = .ok (.getfield 95, 3) := by decide +kernel
theorem dX6_goes_33 : decode cX6_goes 33 = .ok (.ifCond .ne 7, 3) := by decide +kernel
theorem dX6_goes_36 : decode cX6_goes 36 = .ok (.iconst 1, 1) := by decide +kernel
theorem dX6_goes_37 : decode cX6_goes 37 = .ok (.goto 4, 3) := by decide +kernel
theorem dX6_goes_40 : decode cX6_goes 40 = .ok (.iconst 0, 1) := by decide +kernel
theorem dX6_goes_41 : decode cX6_goes 41 = .ok (.ireturn, 1) := by decide +kernel
theorem dX6_isBetween_0 : decode cX6_isBetween 0 = .ok (.iload_n 0, 1) := by decide +kernel
theorem dX6_isBetween_1 : decode cX6_isBetween 1 = .ok (.iload_n 1, 1) := by decide +kernel
theorem dX6_isBetween_2 : decode cX6_isBetween 2 = .ok (.if_icmp .lt 12, 3) := by decide +kernel
theorem dX6_isBetween_5 : decode cX6_isBetween 5 = .ok (.iload_n 0, 1) := by decide +kernel
theorem dX6_isBetween_6 : decode cX6_isBetween 6 = .ok (.iload_n 2, 1) := by decide +kernel
theorem dX6_isBetween_7 : decode cX6_isBetween 7 = .ok (.if_icmp .gt 7, 3) := by decide +kernel
theorem dX6_isBetween_10 : decode cX6_isBetween 10 = .ok (.iconst 1, 1) := by decide +kernel
theorem dX6_isBetween_11 : decode cX6_isBetween 11 = .ok (.goto 4, 3) := by decide +kernel
theorem dX6_isBetween_14 : decode cX6_isBetween 14 = .ok (.iconst 0, 1) := by decide +kernel
theorem dX6_isBetween_15 : decode cX6_isBetween 15 = .ok (.ireturn, 1) := by decide +kernel
set_option maxRecDepth 20000 in
theorem ggX6_isProduct_X6_isBetween : GoodIn wsX6_isProduct wsX6_isBetween := goodIn_r _ [4] (by decide +kernel) (by decide +kernel)
set_option maxRecDepth 20000 in
theorem gX6_isProduct_X6_isBetween : GoodIn wsX6_isProduct (va_wsS RX6 98 yX6_isBetween wsX6_isBetween) := goodIn_app (goodIn_of _ (by decide +kernel)) ggX6_isProduct_X6_isBetween
theorem dX6_isProduct_0 : decode cX6_isProduct 0 = .ok (.iload_n 0, 1) := by decide +kernel
theorem dX6_isProduct_1 : decode cX6_isProduct 1 = .ok (.iconst 0, 1) := by decide +kernel
theorem dX6_isProduct_2 : decode cX6_isProduct 2 = .ok (.iconst 5, 1) := by decide +kernel
theorem dX6_isProduct_3 : decode cX6_isProduct 3 = .ok (.invokestatic 98, 3) := by decide +kernel
theorem dX6_isProduct_6 : decode cX6_isProduct 6 = .ok (.ireturn, 1) := by decide +kernel
set_option maxRecDepth 20000 in
theorem ggX6_isTank_X6_isBetween : GoodIn wsX6_isTank wsX6_isBetween := goodIn_r _ [4] (by decide +kernel) (by decide +kernel)
set_option maxRecDepth 20000 in
theorem gX6_isTank_X6_isBetween : GoodIn wsX6_isTank (va_wsS RX6 98 yX6_isBetween wsX6_isBetween) := goodIn_app (goodIn_of _ (by decide +kernel)) ggX6_isTank_X6_isBetween
theorem dX6_isTank_0 : decode cX6_isTank 0 = .ok (.iload_n 0, 1) := by decide +kernel
theorem dX6_isTank_1 : decode cX6_isTank 1 = .ok (.iconst 0, 1) := by decide +kernel
theorem dX6_isTank_2 : decode cX6_isTank 2 = .ok (.iconst 3, 1) := by decide +kernel
theorem dX6_isTank_3 : decode cX6_isTank 3 = .ok (.invokestatic 98, 3) := by decide +kernel
theorem dX6_isTank_6 : decode cX6_isTank 6 = .ok (.ireturn, 1) := by decide +kernel
set_option maxRecDepth 20000 in
theorem ggX6_isShipper_X6_isBetween : GoodIn wsX6_isShipper wsX6_isBetween := goodIn_r _ [4] (by decide +kernel) (by decide +kernel)
set_option maxRecDepth 20000 in
theorem gX6_isShipper_X6_isBetween : GoodIn wsX6_isShipper (va_wsS RX6 98 yX6_isBetween wsX6_isBetween) := goodIn_app (goodIn_of _ (by decide +kernel)) ggX6_isShipper_X6_isBetween
theorem dX6_isShipper_0 : decode cX6_isShipper 0 = .ok (.iload_n 0, 1) := by decide +kernel
theorem dX6_isShipper_1 : decode cX6_isShipper 1 = .ok (.iconst 0, 1) := by decide +kernel
theorem dX6_isShipper_2 : decode cX6_isShipper 2 = .ok (.iconst 3, 1) := by decide +kernel
theorem dX6_isShipper_3 : decode cX6_isShipper 3 = .ok (.invokestatic 98, 3) := by decide +kernel
theorem dX6_isShipper_6 : decode cX6_isShipper 6 = .ok (.ireturn, 1) := by decide +kernel
set_option maxRecDepth 20000 in
theorem ggX6_isSegment_X6_isBetween : GoodIn wsX6_isSegment wsX6_isBetween := goodIn_r _ [5] (by decide +kernel) (by decide +kernel)
set_option maxRecDepth 20000 in
theorem gX6_isSegment_X6_isBetween : GoodIn wsX6_isSegment (va_wsS RX6 98 yX6_isBetween wsX6_isBetween) := goodIn_app (goodIn_of _ (by decide +kernel)) ggX6_isSegment_X6_isBetween
theorem dX6_isSegment_0 : decode cX6_isSegment 0 = .ok (.iload_n 1, 1) := by decide +kernel
theorem dX6_isSegment_1 : decode cX6_isSegment 1 = .ok (.iconst 0, 1) := by decide +kernel
theorem dX6_isSegment_2 : decode cX6_isSegment 2 = .ok (.aload_n 0, 1) := by decide +kernel
theorem dX6_isSegment_3 : decode cX6_isSegment 3 = .ok (.getfield 102, 3) := by decide +kernel
theorem dX6_isSegment_6 : decode cX6_isSegment 6 = .ok (.iconst 1, 1) := by decide +kernel
theorem dX6_isSegment_7 : decode cX6_isSegment 7 = .ok (.isub, 1) := by decide +kernel
theorem dX6_isSegment_8 : decode cX6_isSegment 8 = .ok (.invokestatic 98, 3) := by decide +kernel
theorem dX6_isSegment_11 : decode cX6_isSegment 11 = .ok (.ireturn, 1) := by decide +kernel
set_option maxRecDepth 20000 in
theorem ggX6_isPlace_X6_isBetween : GoodIn wsX6_isPlace wsX6_isBetween := goodIn_r _ [5] (by decide +kernel) (by decide +kernel)
set_option maxRecDepth 20000 in
theorem gX6_isPlace_X6_isBetween : GoodIn wsX6_isPlace (va_wsS RX6 98 yX6_isBetween wsX6_isBetween) := goodIn_app (goodIn_of _ (by decide +kernel)) ggX6_isPlace_X6_isBetween
theorem dX6_isPlace_0 : decode cX6_isPlace 0 = .ok (.iload_n 1, 1) := by decide +kernel
theorem dX6_isPlace_1 : decode cX6_isPlace 1 = .ok (.iconst (-1), 1) := by decide +kernel
theorem dX6_isPlace_2 : decode cX6_isPlace 2 = .ok (.if_icmp .eq 17, 3) := by decide +kernel
theorem dX6_isPlace_5 : decode cX6_isPlace 5 = .ok (.iload_n 1, 1) := by decide +kernel
theorem dX6_isPlace_6 : decode cX6_isPlace 6 = .ok (.iconst 0, 1) := by decide +kernel
theorem dX6_isPlace_7 : decode cX6_isPlace 7 = .ok (.aload_n 0, 1) := by decide +kernel
theorem dX6_isPlace_8 : decode cX6_isPlace 8 = .ok (.getfield 102, 3) := by decide +kernel
theorem dX6_isPlace_11 : decode cX6_isPlace 11 = .ok (.iconst 2, 1) := by decide +kernel
theorem dX6_isPlace_12 : decode cX6_isPlace 12 = .ok (.isub, 1) := by decide +kernel
theorem dX6_isPlace_13 : decode cX6_isPlace 13 = .ok (.invokestatic 98, 3) := by decide +kernel
theorem dX6_isPlace_16 : decode cX6_isPlace 16 = .ok (.ifCond .eq 7, 3) := by decide +kernel
theorem dX6_isPlace_19 : decode cX6_isPlace 19 = .ok (.iconst 1, 1) := by decide +kernel
theorem dX6_isPlace_20 : decode cX6_isPlace 20 = .ok (.goto 4, 3) := by decide +kernel
theorem dX6_isPlace_23 : decode cX6_isPlace 23 = .ok (.iconst 0, 1) := by decide +kernel
theorem dX6_isPlace_24 : decode cX6_isPlace 24 = .ok (.ireturn, 1) := by decide +kernel
set_option maxRecDepth 20000 in
theorem ggX6_segment_X6_isBetween : GoodIn wsX6_segment wsX6_isBetween := goodIn_r _ [9] (by decide +kernel) (by decide +kernel)
set_option maxRecDepth 20000 in
theorem gX6_segment_X6_isBetween : GoodIn wsX6_segment (va_wsS RX6 98 yX6_isBetween wsX6_isBetween) := goodIn_app (goodIn_of _ (by decide +kernel)) ggX6_segment_X6_isBetween
set_option maxRecDepth 20000 in
theorem ggX6_segment_X6_goes : GoodIn wsX6_segment wsX6_goes := goodIn_r _ [13, 14, 15, 16, 17, 18, 19, 20, 21, 22, 23, 24, 25, 26, 27, 28, 29, 30, 31, 32, 33, 34, 35, 36, 37, 38, 39, 40, 41, 42, 43, 44, 45, 46, 47, 48, 49, 50, 51, 52, 53, 54, 55, 56, 57, 58, 59] (by decide +kernel) (by decide +kernel)
set_option maxRecDepth 20000 in
theorem gX6_segment_X6_goes : GoodIn wsX6_segment (wsV RX6 109 RX6 yX6_goes wsX6_goes) := goodIn_app (goodIn_of _ (by decide +kernel)) ggX6_segment_X6_goes
theorem dX6_segment_0 : decode cX6_segment 0 = .ok (.aload_n 0, 1) := by decide +kernel
theorem dX6_segment_1 : decode cX6_segment 1 = .ok (.iload_n 1, 1) := by decide +kernel
theorem dX6_segment_2 : decode cX6_segment 2 = .ok (.iconst 5, 1) := by decide +kernel
theorem dX6_segment_3 : decode cX6_segment 3 = .ok (.bipush 60, 2) := by decide +kernel
theorem dX6_segment_5 : decode cX6_segment 5 = .ok (.invokestatic 98, 3) := by decide +kernel
theorem dX6_segment_8 : decode cX6_segment 8 = .ok (.ifCond .eq 29, 3) := by decide +kernel
theorem dX6_segment_11 : decode cX6_segment 11 = .ok (.iload_n 2, 1) := by decide +kernel
theorem dX6_segment_12 : decode cX6_segment 12 = .ok (.iconst 0, 1) := by decide +kernel
theorem dX6_segment_13 : decode cX6_segment 13 = .ok (.bipush 50, 2) := by decide +kernel
theorem dX6_segment_15 : decode cX6_segment 15 = .ok (.invokestatic 98, 3) := by decide +kernel
theorem dX6_segment_18 : decode cX6_segment 18 = .ok (.ifCond .eq 19, 3) := by decide +kernel
theorem dX6_segment_21 : decode cX6_segment 21 = .ok (.iload_n 3, 1) := by decide +kernel
theorem dX6_segment_22 : decode cX6_segment 22 = .ok (.bipush 10, 2) := by decide +kernel
theorem dX6_segment_24 : decode cX6_segment 24 = .ok (.sipush 500, 3) := by decide +kernel
theorem dX6_segment_27 : decode cX6_segment 27 = .ok (.invokestatic 98, 3) := by decide +kernel
theorem dX6_segment_30 : decode cX6_segment 30 = .ok (.ifCond .eq 7, 3) := by decide +kernel
theorem dX6_segment_33 : decode cX6_segment 33 = .ok (.iconst 1, 1) := by decide +kernel
theorem dX6_segment_34 : decode cX6_segment 34 = .ok (.goto 4, 3) := by decide +kernel
theorem dX6_segment_37 : decode cX6_segment 37 = .ok (.iconst 0, 1) := by decide +kernel
theorem dX6_segment_38 : decode cX6_segment 38 = .ok (.aload_n 0, 1) := by decide +kernel
theorem dX6_segment_39 : decode cX6_segment 39 = .ok (.getfield 102, 3) := by decide +kernel
theorem dX6_segment_42 : decode cX6_segment 42 = .ok (.bipush 6, 2) := by decide +kernel
theorem dX6_segment_44 : decode cX6_segment 44 = .ok (.if_icmp .ge 14, 3) := by decide +kernel
theorem dX6_segment_47 : decode cX6_segment 47 = .ok (.aload_n 0, 1) := by decide +kernel
theorem dX6_segment_48 : decode cX6_segment 48 = .ok (.getfield 105, 3) := by decide +kernel
theorem dX6_segment_51 : decode cX6_segment 51 = .ok (.ifCond .ne 7, 3) := by decide +kernel
theorem dX6_segment_54 : decode cX6_segment 54 = .ok (.iconst 1, 1) := by decide +kernel
theorem dX6_segment_55 : decode cX6_segment 55 = .ok (.goto 4, 3) := by decide +kernel
theorem dX6_segment_58 : decode cX6_segment 58 = .ok (.iconst 0, 1) := by decide +kernel
theorem dX6_segment_59 : decode cX6_segment 59 = .ok (.iconst 1, 1) := by decide +kernel
theorem dX6_segment_60 : decode cX6_segment 60 = .ok (.invokevirtual 109, 3) := by decide +kernel
theorem dX6_segment_63 : decode cX6_segment 63 = .ok (.ifCond .ne 5, 3) := by decide +kernel
theorem dX6_segment_66 : decode cX6_segment 66 = .ok (.iconst 0, 1) := by decide +kernel
theorem dX6_segment_67 : decode cX6_segment 67 = .ok (.ireturn, 1) := by decide +kernel
theorem dX6_segment_68 : decode cX6_segment 68 = .ok (.aload_n 0, 1) := by decide +kernel
theorem dX6_segment_69 : decode cX6_segment 69 = .ok (.getfield 7, 3) := by decide +kernel
theorem dX6_segment_72 : decode cX6_segment 72 = .ok (.aload_n 0, 1) := by decide +kernel
theorem dX6_segment_73 : decode cX6_segment 73 = .ok (.getfield 102, 3) := by decide +kernel
theorem dX6_segment_76 : decode cX6_segment 76 = .ok (.iload_n 1, 1) := by decide +kernel
theorem dX6_segment_77 : decode cX6_segment 77 = .ok (.iastore, 1) := by decide +kernel
theorem dX6_segment_78 : decode cX6_segment 78 = .ok (.aload_n 0, 1) := by decide +kernel
theorem dX6_segment_79 : decode cX6_segment 79 = .ok (.getfield 13, 3) := by decide +kernel
theorem dX6_segment_82 : decode cX6_segment 82 = .ok (.aload_n 0, 1) := by decide +kernel
theorem dX6_segment_83 : decode cX6_segment 83 = .ok (.getfield 102, 3) := by decide +kernel
theorem dX6_segment_86 : decode cX6_segment 86 = .ok (.iload_n 2, 1) := by decide +kernel
theorem dX6_segment_87 : decode cX6_segment 87 = .ok (.iastore, 1) := by decide +kernel
theorem dX6_segment_88 : decode cX6_segment 88 = .ok (.aload_n 0, 1) := by decide +kernel
theorem dX6_segment_89 : decode cX6_segment 89 = .ok (.getfield 16, 3) := by decide +kernel
theorem dX6_segment_92 : decode cX6_segment 92 = .ok (.aload_n 0, 1) := by decide +kernel
theorem dX6_segment_93 : decode cX6_segment 93 = .ok (.getfield 102, 3) := by decide +kernel
theorem dX6_segment_96 : decode cX6_segment 96 = .ok (.iload_n 3, 1) := by decide +kernel
theorem dX6_segment_97 : decode cX6_segment 97 = .ok (.iastore, 1) := by decide +kernel
theorem dX6_segment_98 : decode cX6_segment 98 = .ok (.aload_n 0, 1) := by decide +kernel
theorem dX6_segment_99 : decode cX6_segment 99 = .ok (.dup, 1) := by decide +kernel
theorem dX6_segment_100 : decode cX6_segment 100 = .ok (.getfield 102, 3) := by decide +kernel
theorem dX6_segment_103 : decode cX6_segment 103 = .ok (.iconst 1, 1) := by decide +kernel
theorem dX6_segment_104 : decode cX6_segment 104 = .ok (.iadd, 1) := by decide +kernel
theorem dX6_segment_105 : decode cX6_segment 105 = .ok (.putfield 102, 3) := by decide +kernel
theorem dX6_segment_108 : decode cX6_segment 108 = .ok (.aload_n 0, 1) := by decide +kernel
theorem dX6_segment_109 : decode cX6_segment 109 = .ok (.getfield 102, 3) := by decide +kernel
theorem dX6_segment_112 : decode cX6_segment 112 = .ok (.iconst 1, 1) := by decide +kernel
theorem dX6_segment_113 : decode cX6_segment 113 = .ok (.isub, 1) := by decide +kernel
theorem dX6_segment_114 : decode cX6_segment 114 = .ok (.ireturn, 1) := by decide +kernel
set_option maxRecDepth 20000 in
theorem ggX6_product_X6_isProduct : GoodIn wsX6_product wsX6_isProduct := goodIn_r _ [8, 9, 10, 7, 11] (by decide +kernel) (by decide +kernel)
set_option maxRecDepth 20000 in
theorem gX6_product_X6_isProduct : GoodIn wsX6_product (va_wsS RX6 113 yX6_isProduct wsX6_isProduct) := goodIn_app (goodIn_of _ (by decide +kernel)) ggX6_product_X6_isProduct
set_option maxRecDepth 20000 in
theorem ggX6_product_X6_isBetween : GoodIn wsX6_product wsX6_isBetween := goodIn_r _ [11] (by decide +kernel) (by decide +kernel)
set_option maxRecDepth 20000 in
theorem gX6_product_X6_isBetween : GoodIn wsX6_product (va_wsS RX6 98 yX6_isBetween wsX6_isBetween) := goodIn_app (goodIn_of _ (by decide +kernel)) ggX6_product_X6_isBetween
set_option maxRecDepth 20000 in
theorem ggX6_product_X6_goes : GoodIn wsX6_product wsX6_goes := goodIn_r _ [15, 16, 17, 18, 19, 20, 21, 22, 23, 24, 25, 26, 27, 28, 29, 30, 31, 32, 33, 34, 35, 36, 37, 38, 39, 40, 41, 42, 43, 44, 45, 46, 47, 48, 49, 50, 51, 52, 53, 54, 55, 56, 57, 58, 59, 60, 61] (by decide +kernel) (by decide +kernel)
set_option maxRecDepth 20000 in
theorem gX6_product_X6_goes : GoodIn wsX6_product (wsV RX6 109 RX6 yX6_goes wsX6_goes) := goodIn_app (goodIn_of _ (by decide +kernel)) ggX6_product_X6_goes
theorem dX6_product_0 : decode cX6_product 0 = .ok (.iload_n 1, 1) := by decide +kernel
theorem dX6_product_1 : decode cX6_product 1 = .ok (.invokestatic 113, 3) := by decide +kernel
theorem dX6_product_4 : decode cX6_product 4 = .ok (.istore 6, 2) := by decide +kernel
theorem dX6_product_6 : decode cX6_product 6 = .ok (.iload_n 2, 1) := by decide +kernel
theorem dX6_product_7 : decode cX6_product 7 = .ok (.iconst 1, 1) := by decide +kernel
theorem dX6_product_8 : decode cX6_product 8 = .ok (.bipush 10, 2) := by decide +kernel
theorem dX6_product_10 : decode cX6_product 10 = .ok (.invokestatic 98, 3) := by decide +kernel
theorem dX6_product_13 : decode cX6_product 13 = .ok (.ifCond .eq 39, 3) := by decide +kernel
theorem dX6_product_16 : decode cX6_product 16 = .ok (.iload_n 3, 1) := by decide +kernel
theorem dX6_product_17 : decode cX6_product 17 = .ok (.iconst 1, 1) := by decide +kernel
theorem dX6_product_18 : decode cX6_product 18 = .ok (.bipush 10, 2) := by decide +kernel
theorem dX6_product_20 : decode cX6_product 20 = .ok (.invokestatic 98, 3) := by decide +kernel
theorem dX6_product_23 : decode cX6_product 23 = .ok (.ifCond .eq 29, 3) := by decide +kernel
theorem dX6_product_26 : decode cX6_product 26 = .ok (.iload 4, 2) := by decide +kernel
theorem dX6_product_28 : decode cX6_product 28 = .ok (.iconst 0, 1) := by decide +kernel
theorem dX6_product_29 : decode cX6_product 29 = .ok (.bipush 9, 2) := by decide +kernel
theorem dX6_product_31 : decode cX6_product 31 = .ok (.invokestatic 98, 3) := by decide +kernel
theorem dX6_product_34 : decode cX6_product 34 = .ok (.ifCond .eq 18, 3) := by decide +kernel
theorem dX6_product_37 : decode cX6_product 37 = .ok (.iload 5, 2) := by decide +kernel
theorem dX6_product_39 : decode cX6_product 39 = .ok (.iconst 0, 1) := by decide +kernel
theorem dX6_product_40 : decode cX6_product 40 = .ok (.bipush 63, 2) := by decide +kernel
theorem dX6_product_42 : decode cX6_product 42 = .ok (.invokestatic 98, 3) := by decide +kernel
theorem dX6_product_45 : decode cX6_product 45 = .ok (.ifCond .eq 7, 3) := by decide +kernel
theorem dX6_product_48 : decode cX6_product 48 = .ok (.iconst 1, 1) := by decide +kernel
theorem dX6_product_49 : decode cX6_product 49 = .ok (.goto 4, 3) := by decide +kernel
theorem dX6_product_52 : decode cX6_product 52 = .ok (.iconst 0, 1) := by decide +kernel
theorem dX6_product_53 : decode cX6_product 53 = .ok (.istore 7, 2) := by decide +kernel
theorem dX6_product_55 : decode cX6_product 55 = .ok (.aload_n 0, 1) := by decide +kernel
theorem dX6_product_56 : decode cX6_product 56 = .ok (.iload 6, 2) := by decide +kernel
theorem dX6_product_58 : decode cX6_product 58 = .ok (.iload 7, 2) := by decide +kernel
theorem dX6_product_60 : decode cX6_product 60 = .ok (.ifCond .eq 25, 3) := by decide +kernel
theorem dX6_product_63 : decode cX6_product 63 = .ok (.iload 5, 2) := by decide +kernel
theorem dX6_product_65 : decode cX6_product 65 = .ok (.iload 6, 2) := by decide +kernel
theorem dX6_product_67 : decode cX6_product 67 = .ok (.ifCond .eq 7, 3) := by decide +kernel
theorem dX6_product_70 : decode cX6_product 70 = .ok (.iload_n 1, 1) := by decide +kernel
theorem dX6_product_71 : decode cX6_product 71 = .ok (.goto 4, 3) := by decide +kernel
theorem dX6_product_74 : decode cX6_product 74 = .ok (.iconst 0, 1) := by decide +kernel
theorem dX6_product_75 : decode cX6_product 75 = .ok (.ishr, 1) := by decide +kernel
theorem dX6_product_76 : decode cX6_product 76 = .ok (.iconst 1, 1) := by decide +kernel
theorem dX6_product_77 : decode cX6_product 77 = .ok (.iand, 1) := by decide +kernel
theorem dX6_product_78 : decode cX6_product 78 = .ok (.ifCond .ne 7, 3) := by decide +kernel
theorem dX6_product_81 : decode cX6_product 81 = .ok (.iconst 1, 1) := by decide +kernel
theorem dX6_product_82 : decode cX6_product 82 = .ok (.goto 4, 3) := by decide +kernel
theorem dX6_product_85 : decode cX6_product 85 = .ok (.iconst 0, 1) := by decide +kernel
theorem dX6_product_86 : decode cX6_product 86 = .ok (.iconst 1, 1) := by decide +kernel
theorem dX6_product_87 : decode cX6_product 87 = .ok (.invokevirtual 109, 3) := by decide +kernel
theorem dX6_product_90 : decode cX6_product 90 = .ok (.ifCond .ne 4, 3) := by decide +kernel
theorem dX6_product_93 : decode cX6_product 93 = .ok (.return_, 1) := by decide +kernel
theorem dX6_product_94 : decode cX6_product 94 = .ok (.aload_n 0, 1) := by decide +kernel
theorem dX6_product_95 : decode cX6_product 95 = .ok (.getfield 22, 3) := by decide +kernel
theorem dX6_product_98 : decode cX6_product 98 = .ok (.iload_n 1, 1) := by decide +kernel
theorem dX6_product_99 : decode cX6_product 99 = .ok (.iload_n 2, 1) := by decide +kernel
theorem dX6_product_100 : decode cX6_product 100 = .ok (.iastore, 1) := by decide +kernel
theorem dX6_product_101 : decode cX6_product 101 = .ok (.aload_n 0, 1) := by decide +kernel
theorem dX6_product_102 : decode cX6_product 102 = .ok (.getfield 25, 3) := by decide +kernel
theorem dX6_product_105 : decode cX6_product 105 = .ok (.iload_n 1, 1) := by decide +kernel
theorem dX6_product_106 : decode cX6_product 106 = .ok (.iload_n 3, 1) := by decide +kernel
theorem dX6_product_107 : decode cX6_product 107 = .ok (.iastore, 1) := by decide +kernel
theorem dX6_product_108 : decode cX6_product 108 = .ok (.aload_n 0, 1) := by decide +kernel
theorem dX6_product_109 : decode cX6_product 109 = .ok (.getfield 28, 3) := by decide +kernel
theorem dX6_product_112 : decode cX6_product 112 = .ok (.iload_n 1, 1) := by decide +kernel
theorem dX6_product_113 : decode cX6_product 113 = .ok (.iload 4, 2) := by decide +kernel
theorem dX6_product_115 : decode cX6_product 115 = .ok (.iastore, 1) := by decide +kernel
theorem dX6_product_116 : decode cX6_product 116 = .ok (.aload_n 0, 1) := by decide +kernel
theorem dX6_product_117 : decode cX6_product 117 = .ok (.getfield 31, 3) := by decide +kernel
theorem dX6_product_120 : decode cX6_product 120 = .ok (.iload_n 1, 1) := by decide +kernel
theorem dX6_product_121 : decode cX6_product 121 = .ok (.iload 5, 2) := by decide +kernel
theorem dX6_product_123 : decode cX6_product 123 = .ok (.iastore, 1) := by decide +kernel
theorem dX6_product_124 : decode cX6_product 124 = .ok (.return_, 1) := by decide +kernel
set_option maxRecDepth 20000 in
theorem ggX6_open_X6_isProduct : GoodIn wsX6_open wsX6_isProduct := goodIn_r _ [14, 15, 16, 13, 17] (by decide +kernel) (by decide +kernel)
set_option maxRecDepth 20000 in
theorem gX6_open_X6_isProduct : GoodIn wsX6_open (va_wsS RX6 113 yX6_isProduct wsX6_isProduct) := goodIn_app (goodIn_of _ (by decide +kernel)) ggX6_open_X6_isProduct
set_option maxRecDepth 20000 in
theorem ggX6_open_X6_goes : GoodIn wsX6_open wsX6_goes := goodIn_r _ [21, 22, 23, 24, 25, 26, 27, 28, 29, 30, 31, 32, 33, 34, 35, 36, 37, 38, 39, 40, 41, 42, 43, 44, 45, 46, 47, 48, 49, 50, 51, 52, 53, 54, 55, 56, 57, 58, 59, 60, 61, 62, 63, 64, 65, 66, 67] (by decide +kernel) (by decide +kernel)
set_option maxRecDepth 20000 in
theorem gX6_open_X6_goes : GoodIn wsX6_open (wsV RX6 109 RX6 yX6_goes wsX6_goes) := goodIn_app (goodIn_of _ (by decide +kernel)) ggX6_open_X6_goes
theorem dX6_open_0 : decode cX6_open 0 = .ok (.aload_n 0, 1) := by decide +kernel
theorem dX6_open_1 : decode cX6_open 1 = .ok (.iload_n 1, 1) := by decide +kernel
theorem dX6_open_2 : decode cX6_open 2 = .ok (.invokestatic 113, 3) := by decide +kernel
theorem dX6_open_5 : decode cX6_open 5 = .ok (.aload_n 0, 1) := by decide +kernel
theorem dX6_open_6 : decode cX6_open 6 = .ok (.getfield 105, 3) := by decide +kernel
theorem dX6_open_9 : decode cX6_open 9 = .ok (.ifCond .ne 14, 3) := by decide +kernel
theorem dX6_open_12 : decode cX6_open 12 = .ok (.aload_n 0, 1) := by decide +kernel
theorem dX6_open_13 : decode cX6_open 13 = .ok (.getfield 102, 3) := by decide +kernel
theorem dX6_open_16 : decode cX6_open 16 = .ok (.ifCond .le 7, 3) := by decide +kernel
theorem dX6_open_19 : decode cX6_open 19 = .ok (.iconst 1, 1) := by decide +kernel
theorem dX6_open_20 : decode cX6_open 20 = .ok (.goto 4, 3) := by decide +kernel
theorem dX6_open_23 : decode cX6_open 23 = .ok (.iconst 0, 1) := by decide +kernel
theorem dX6_open_24 : decode cX6_open 24 = .ok (.iconst 1, 1) := by decide +kernel
theorem dX6_open_25 : decode cX6_open 25 = .ok (.invokevirtual 109, 3) := by decide +kernel
theorem dX6_open_28 : decode cX6_open 28 = .ok (.ifCond .ne 5, 3) := by decide +kernel
theorem dX6_open_31 : decode cX6_open 31 = .ok (.iconst 0, 1) := by decide +kernel
theorem dX6_open_32 : decode cX6_open 32 = .ok (.ireturn, 1) := by decide +kernel
theorem dX6_open_33 : decode cX6_open 33 = .ok (.aload_n 0, 1) := by decide +kernel
theorem dX6_open_34 : decode cX6_open 34 = .ok (.iconst 1, 1) := by decide +kernel
theorem dX6_open_35 : decode cX6_open 35 = .ok (.putfield 105, 3) := by decide +kernel
theorem dX6_open_38 : decode cX6_open 38 = .ok (.iconst 0, 1) := by decide +kernel
theorem dX6_open_39 : decode cX6_open 39 = .ok (.istore_n 2, 1) := by decide +kernel
theorem dX6_open_40 : decode cX6_open 40 = .ok (.iload_n 2, 1) := by decide +kernel
theorem dX6_open_41 : decode cX6_open 41 = .ok (.aload_n 0, 1) := by decide +kernel
theorem dX6_open_42 : decode cX6_open 42 = .ok (.getfield 102, 3) := by decide +kernel
theorem dX6_open_45 : decode cX6_open 45 = .ok (.if_icmp .ge 24, 3) := by decide +kernel
theorem dX6_open_48 : decode cX6_open 48 = .ok (.aload_n 0, 1) := by decide +kernel
theorem dX6_open_49 : decode cX6_open 49 = .ok (.dup, 1) := by decide +kernel
theorem dX6_open_50 : decode cX6_open 50 = .ok (.getfield 117, 3) := by decide +kernel
theorem dX6_open_53 : decode cX6_open 53 = .ok (.aload_n 0, 1) := by decide +kernel
theorem dX6_open_54 : decode cX6_open 54 = .ok (.getfield 7, 3) := by decide +kernel
theorem dX6_open_57 : decode cX6_open 57 = .ok (.iload_n 2, 1) := by decide +kernel
theorem dX6_open_58 : decode cX6_open 58 = .ok (.iaload, 1) := by decide +kernel
theorem dX6_open_59 : decode cX6_open 59 = .ok (.iadd, 1) := by decide +kernel
theorem dX6_open_60 : decode cX6_open 60 = .ok (.putfield 117, 3) := by decide +kernel
theorem dX6_open_63 : decode cX6_open 63 = .ok (.iinc 2 1, 3) := by decide +kernel
theorem dX6_open_66 : decode cX6_open 66 = .ok (.goto (-26), 3) := by decide +kernel
theorem dX6_open_69 : decode cX6_open 69 = .ok (.aload_n 0, 1) := by decide +kernel
theorem dX6_open_70 : decode cX6_open 70 = .ok (.getfield 41, 3) := by decide +kernel
theorem dX6_open_73 : decode cX6_open 73 = .ok (.iconst 0, 1) := by decide +kernel
theorem dX6_open_74 : decode cX6_open 74 = .ok (.iload_n 1, 1) := by decide +kernel
theorem dX6_open_75 : decode cX6_open 75 = .ok (.iastore, 1) := by decide +kernel
theorem dX6_open_76 : decode cX6_open 76 = .ok (.aload_n 0, 1) := by decide +kernel
theorem dX6_open_77 : decode cX6_open 77 = .ok (.getfield 44, 3) := by decide +kernel
theorem dX6_open_80 : decode cX6_open 80 = .ok (.iconst 0, 1) := by decide +kernel
theorem dX6_open_81 : decode cX6_open 81 = .ok (.aload_n 0, 1) := by decide +kernel
theorem dX6_open_82 : decode cX6_open 82 = .ok (.getfield 117, 3) := by decide +kernel
theorem dX6_open_85 : decode cX6_open 85 = .ok (.iastore, 1) := by decide +kernel
theorem dX6_open_86 : decode cX6_open 86 = .ok (.aload_n 0, 1) := by decide +kernel
theorem dX6_open_87 : decode cX6_open 87 = .ok (.getfield 47, 3) := by decide +kernel
theorem dX6_open_90 : decode cX6_open 90 = .ok (.iconst 0, 1) := by decide +kernel
theorem dX6_open_91 : decode cX6_open 91 = .ok (.aload_n 0, 1) := by decide +kernel
theorem dX6_open_92 : decode cX6_open 92 = .ok (.getfield 117, 3) := by decide +kernel
theorem dX6_open_95 : decode cX6_open 95 = .ok (.iastore, 1) := by decide +kernel
theorem dX6_open_96 : decode cX6_open 96 = .ok (.aload_n 0, 1) := by decide +kernel
theorem dX6_open_97 : decode cX6_open 97 = .ok (.aload_n 0, 1) := by decide +kernel
theorem dX6_open_98 : decode cX6_open 98 = .ok (.getfield 117, 3) := by decide +kernel
theorem dX6_open_101 : decode cX6_open 101 = .ok (.putfield 120, 3) := by decide +kernel
theorem dX6_open_104 : decode cX6_open 104 = .ok (.iconst 0, 1) := by decide +kernel
theorem dX6_open_105 : decode cX6_open 105 = .ok (.istore_n 2, 1) := by decide +kernel
theorem dX6_open_106 : decode cX6_open 106 = .ok (.iload_n 2, 1) := by decide +kernel
theorem dX6_open_107 : decode cX6_open 107 = .ok (.aload_n 0, 1) := by decide +kernel
theorem dX6_open_108 : decode cX6_open 108 = .ok (.getfield 117, 3) := by decide +kernel
theorem dX6_open_111 : decode cX6_open 111 = .ok (.if_icmp .ge 23, 3) := by decide +kernel
theorem dX6_open_114 : decode cX6_open 114 = .ok (.aload_n 0, 1) := by decide +kernel
theorem dX6_open_115 : decode cX6_open 115 = .ok (.getfield 71, 3) := by decide +kernel
theorem dX6_open_118 : decode cX6_open 118 = .ok (.iload_n 2, 1) := by decide +kernel
theorem dX6_open_119 : decode cX6_open 119 = .ok (.iconst 0, 1) := by decide +kernel
theorem dX6_open_120 : decode cX6_open 120 = .ok (.iastore, 1) := by decide +kernel
theorem dX6_open_121 : decode cX6_open 121 = .ok (.aload_n 0, 1) := by decide +kernel
theorem dX6_open_122 : decode cX6_open 122 = .ok (.getfield 74, 3) := by decide +kernel
theorem dX6_open_125 : decode cX6_open 125 = .ok (.iload_n 2, 1) := by decide +kernel
theorem dX6_open_126 : decode cX6_open 126 = .ok (.iload_n 2, 1) := by decide +kernel
theorem dX6_open_127 : decode cX6_open 127 = .ok (.iastore, 1) := by decide +kernel
theorem dX6_open_128 : decode cX6_open 128 = .ok (.iinc 2 1, 3) := by decide +kernel
theorem dX6_open_131 : decode cX6_open 131 = .ok (.goto (-25), 3) := by decide +kernel
theorem dX6_open_134 : decode cX6_open 134 = .ok (.aload_n 0, 1) := by decide +kernel
theorem dX6_open_135 : decode cX6_open 135 = .ok (.getfield 117, 3) := by decide +kernel
theorem dX6_open_138 : decode cX6_open 138 = .ok (.ireturn, 1) := by decide +kernel
set_option maxRecDepth 20000 in
theorem ggX6_order_X6_isShipper : GoodIn wsX6_order wsX6_isShipper := goodIn_r _ [8, 9, 10, 7, 11] (by decide +kernel) (by decide +kernel)
set_option maxRecDepth 20000 in
theorem gX6_order_X6_isShipper : GoodIn wsX6_order (va_wsS RX6 123 yX6_isShipper wsX6_isShipper) := goodIn_app (goodIn_of _ (by decide +kernel)) ggX6_order_X6_isShipper
set_option maxRecDepth 20000 in
theorem ggX6_order_X6_isProduct : GoodIn wsX6_order wsX6_isProduct := goodIn_r _ [14, 9, 10, 7, 11] (by decide +kernel) (by decide +kernel)
set_option maxRecDepth 20000 in
theorem gX6_order_X6_isProduct : GoodIn wsX6_order (va_wsS RX6 113 yX6_isProduct wsX6_isProduct) := goodIn_app (goodIn_of _ (by decide +kernel)) ggX6_order_X6_isProduct
set_option maxRecDepth 20000 in
theorem ggX6_order_X6_isBetween : GoodIn wsX6_order wsX6_isBetween := goodIn_r _ [11] (by decide +kernel) (by decide +kernel)
set_option maxRecDepth 20000 in
theorem gX6_order_X6_isBetween : GoodIn wsX6_order (va_wsS RX6 98 yX6_isBetween wsX6_isBetween) := goodIn_app (goodIn_of _ (by decide +kernel)) ggX6_order_X6_isBetween
set_option maxRecDepth 20000 in
theorem ggX6_order_X6_goes : GoodIn wsX6_order wsX6_goes := goodIn_r _ [18, 19, 20, 21, 22, 23, 24, 25, 26, 27, 28, 29, 30, 31, 32, 33, 34, 35, 36, 37, 38, 39, 40, 41, 42, 43, 44, 45, 46, 47, 48, 49, 50, 51, 52, 53, 54, 55, 56, 57, 58, 59, 60, 61, 62, 63, 64] (by decide +kernel) (by decide +kernel)
set_option maxRecDepth 20000 in
theorem gX6_order_X6_goes : GoodIn wsX6_order (wsV RX6 109 RX6 yX6_goes wsX6_goes) := goodIn_app (goodIn_of _ (by decide +kernel)) ggX6_order_X6_goes
theorem dX6_order_0 : decode cX6_order 0 = .ok (.aload_n 0, 1) := by decide +kernel
theorem dX6_order_1 : decode cX6_order 1 = .ok (.iload_n 1, 1) := by decide +kernel
theorem dX6_order_2 : decode cX6_order 2 = .ok (.invokestatic 123, 3) := by decide +kernel
theorem dX6_order_5 : decode cX6_order 5 = .ok (.ifCond .eq 14, 3) := by decide +kernel
theorem dX6_order_8 : decode cX6_order 8 = .ok (.iload_n 2, 1) := by decide +kernel
theorem dX6_order_9 : decode cX6_order 9 = .ok (.invokestatic 113, 3) := by decide +kernel
theorem dX6_order_12 : decode cX6_order 12 = .ok (.ifCond .eq 7, 3) := by decide +kernel
theorem dX6_order_15 : decode cX6_order 15 = .ok (.iconst 1, 1) := by decide +kernel
theorem dX6_order_16 : decode cX6_order 16 = .ok (.goto 4, 3) := by decide +kernel
theorem dX6_order_19 : decode cX6_order 19 = .ok (.iconst 0, 1) := by decide +kernel
theorem dX6_order_20 : decode cX6_order 20 = .ok (.iload_n 3, 1) := by decide +kernel
theorem dX6_order_21 : decode cX6_order 21 = .ok (.iconst 1, 1) := by decide +kernel
theorem dX6_order_22 : decode cX6_order 22 = .ok (.sipush 200, 3) := by decide +kernel
theorem dX6_order_25 : decode cX6_order 25 = .ok (.invokestatic 98, 3) := by decide +kernel
theorem dX6_order_28 : decode cX6_order 28 = .ok (.aload_n 0, 1) := by decide +kernel
theorem dX6_order_29 : decode cX6_order 29 = .ok (.getfield 34, 3) := by decide +kernel
theorem dX6_order_32 : decode cX6_order 32 = .ok (.bipush 40, 2) := by decide +kernel
theorem dX6_order_34 : decode cX6_order 34 = .ok (.if_icmp .ge 7, 3) := by decide +kernel
theorem dX6_order_37 : decode cX6_order 37 = .ok (.iconst 1, 1) := by decide +kernel
theorem dX6_order_38 : decode cX6_order 38 = .ok (.goto 4, 3) := by decide +kernel
theorem dX6_order_41 : decode cX6_order 41 = .ok (.iconst 0, 1) := by decide +kernel
theorem dX6_order_42 : decode cX6_order 42 = .ok (.invokevirtual 109, 3) := by decide +kernel
theorem dX6_order_45 : decode cX6_order 45 = .ok (.ifCond .ne 5, 3) := by decide +kernel
theorem dX6_order_48 : decode cX6_order 48 = .ok (.iconst 0, 1) := by decide +kernel
theorem dX6_order_49 : decode cX6_order 49 = .ok (.ireturn, 1) := by decide +kernel
theorem dX6_order_50 : decode cX6_order 50 = .ok (.aload_n 0, 1) := by decide +kernel
theorem dX6_order_51 : decode cX6_order 51 = .ok (.getfield 38, 3) := by decide +kernel
theorem dX6_order_54 : decode cX6_order 54 = .ok (.aload_n 0, 1) := by decide +kernel
theorem dX6_order_55 : decode cX6_order 55 = .ok (.getfield 34, 3) := by decide +kernel
theorem dX6_order_58 : decode cX6_order 58 = .ok (.iload_n 1, 1) := by decide +kernel
theorem dX6_order_59 : decode cX6_order 59 = .ok (.iastore, 1) := by decide +kernel
theorem dX6_order_60 : decode cX6_order 60 = .ok (.aload_n 0, 1) := by decide +kernel
theorem dX6_order_61 : decode cX6_order 61 = .ok (.getfield 41, 3) := by decide +kernel
theorem dX6_order_64 : decode cX6_order 64 = .ok (.aload_n 0, 1) := by decide +kernel
theorem dX6_order_65 : decode cX6_order 65 = .ok (.getfield 34, 3) := by decide +kernel
theorem dX6_order_68 : decode cX6_order 68 = .ok (.iload_n 2, 1) := by decide +kernel
theorem dX6_order_69 : decode cX6_order 69 = .ok (.iastore, 1) := by decide +kernel
theorem dX6_order_70 : decode cX6_order 70 = .ok (.aload_n 0, 1) := by decide +kernel
theorem dX6_order_71 : decode cX6_order 71 = .ok (.getfield 44, 3) := by decide +kernel
theorem dX6_order_74 : decode cX6_order 74 = .ok (.aload_n 0, 1) := by decide +kernel
theorem dX6_order_75 : decode cX6_order 75 = .ok (.getfield 34, 3) := by decide +kernel
theorem dX6_order_78 : decode cX6_order 78 = .ok (.iload_n 3, 1) := by decide +kernel
theorem dX6_order_79 : decode cX6_order 79 = .ok (.iastore, 1) := by decide +kernel
theorem dX6_order_80 : decode cX6_order 80 = .ok (.aload_n 0, 1) := by decide +kernel
theorem dX6_order_81 : decode cX6_order 81 = .ok (.dup, 1) := by decide +kernel
theorem dX6_order_82 : decode cX6_order 82 = .ok (.getfield 34, 3) := by decide +kernel
theorem dX6_order_85 : decode cX6_order 85 = .ok (.iconst 1, 1) := by decide +kernel
theorem dX6_order_86 : decode cX6_order 86 = .ok (.iadd, 1) := by decide +kernel
theorem dX6_order_87 : decode cX6_order 87 = .ok (.putfield 34, 3) := by decide +kernel
theorem dX6_order_90 : decode cX6_order 90 = .ok (.aload_n 0, 1) := by decide +kernel
theorem dX6_order_91 : decode cX6_order 91 = .ok (.getfield 34, 3) := by decide +kernel
theorem dX6_order_94 : decode cX6_order 94 = .ok (.iconst 1, 1) := by decide +kernel
theorem dX6_order_95 : decode cX6_order 95 = .ok (.isub, 1) := by decide +kernel
theorem dX6_order_96 : decode cX6_order 96 = .ok (.ireturn, 1) := by decide +kernel
set_option maxRecDepth 20000 in
theorem ggX6_rate_X6_isBetween : GoodIn wsX6_rate wsX6_isBetween := goodIn_r _ [5] (by decide +kernel) (by decide +kernel)
set_option maxRecDepth 20000 in
theorem gX6_rate_X6_isBetween : GoodIn wsX6_rate (va_wsS RX6 98 yX6_isBetween wsX6_isBetween) := goodIn_app (goodIn_of _ (by decide +kernel)) ggX6_rate_X6_isBetween
set_option maxRecDepth 20000 in
theorem ggX6_rate_X6_goes : GoodIn wsX6_rate wsX6_goes := goodIn_r _ [9, 10, 11, 12, 13, 14, 15, 16, 17, 18, 19, 20, 21, 22, 23, 24, 25, 26, 27, 28, 29, 30, 31, 32, 33, 34, 35, 36, 37, 38, 39, 40, 41, 42, 43, 44, 45, 46, 47, 48, 49, 50, 51, 52, 53, 54, 55] (by decide +kernel) (by decide +kernel)
set_option maxRecDepth 20000 in
theorem gX6_rate_X6_goes : GoodIn wsX6_rate (wsV RX6 109 RX6 yX6_goes wsX6_goes) := goodIn_app (goodIn_of _ (by decide +kernel)) ggX6_rate_X6_goes
theorem dX6_rate_0 : decode cX6_rate 0 = .ok (.aload_n 0, 1) := by decide +kernel
theorem dX6_rate_1 : decode cX6_rate 1 = .ok (.iload_n 1, 1) := by decide +kernel
theorem dX6_rate_2 : decode cX6_rate 2 = .ok (.iconst 0, 1) := by decide +kernel
theorem dX6_rate_3 : decode cX6_rate 3 = .ok (.bipush 10, 2) := by decide +kernel
theorem dX6_rate_5 : decode cX6_rate 5 = .ok (.invokestatic 98, 3) := by decide +kernel
theorem dX6_rate_8 : decode cX6_rate 8 = .ok (.iconst 1, 1) := by decide +kernel
theorem dX6_rate_9 : decode cX6_rate 9 = .ok (.iconst 1, 1) := by decide +kernel
theorem dX6_rate_10 : decode cX6_rate 10 = .ok (.invokevirtual 109, 3) := by decide +kernel
theorem dX6_rate_13 : decode cX6_rate 13 = .ok (.ifCond .ne 5, 3) := by decide +kernel
theorem dX6_rate_16 : decode cX6_rate 16 = .ok (.iconst 0, 1) := by decide +kernel
theorem dX6_rate_17 : decode cX6_rate 17 = .ok (.ireturn, 1) := by decide +kernel
theorem dX6_rate_18 : decode cX6_rate 18 = .ok (.aload_n 0, 1) := by decide +kernel
theorem dX6_rate_19 : decode cX6_rate 19 = .ok (.getfield 126, 3) := by decide +kernel
theorem dX6_rate_22 : decode cX6_rate 22 = .ok (.istore_n 2, 1) := by decide +kernel
theorem dX6_rate_23 : decode cX6_rate 23 = .ok (.aload_n 0, 1) := by decide +kernel
theorem dX6_rate_24 : decode cX6_rate 24 = .ok (.iload_n 1, 1) := by decide +kernel
theorem dX6_rate_25 : decode cX6_rate 25 = .ok (.putfield 126, 3) := by decide +kernel
theorem dX6_rate_28 : decode cX6_rate 28 = .ok (.iload_n 2, 1) := by decide +kernel
theorem dX6_rate_29 : decode cX6_rate 29 = .ok (.ireturn, 1) := by decide +kernel
set_option maxRecDepth 20000 in
theorem ggX6_drop_X6_isPlace : GoodIn wsX6_drop wsX6_isPlace := goodIn_r _ [8, 9, 10, 11, 7, 12, 21, 22, 23, 24, 25, 26, 27, 28, 29, 30, 31, 32, 33, 34, 35, 36, 37, 38, 39, 40, 41, 42, 43, 44, 45, 46, 47, 48, 49, 50, 51, 52, 53, 54, 55, 56, 57, 58, 59, 60, 61, 62, 63, 64, 65] (by decide +kernel) (by decide +kernel)
set_option maxRecDepth 20000 in
theorem gX6_drop_X6_isPlace : GoodIn wsX6_drop (wsV RX6 129 RX6 yX6_isPlace wsX6_isPlace) := goodIn_app (goodIn_of _ (by decide +kernel)) ggX6_drop_X6_isPlace
set_option maxRecDepth 20000 in
theorem ggX6_drop_X6_isTank : GoodIn wsX6_drop wsX6_isTank := goodIn_r _ [15, 10, 11, 7, 12] (by decide +kernel) (by decide +kernel)
set_option maxRecDepth 20000 in
theorem gX6_drop_X6_isTank : GoodIn wsX6_drop (va_wsS RX6 132 yX6_isTank wsX6_isTank) := goodIn_app (goodIn_of _ (by decide +kernel)) ggX6_drop_X6_isTank
set_option maxRecDepth 20000 in
theorem ggX6_drop_X6_isBetween : GoodIn wsX6_drop wsX6_isBetween := goodIn_r _ [12] (by decide +kernel) (by decide +kernel)
set_option maxRecDepth 20000 in
theorem gX6_drop_X6_isBetween : GoodIn wsX6_drop (va_wsS RX6 98 yX6_isBetween wsX6_isBetween) := goodIn_app (goodIn_of _ (by decide +kernel)) ggX6_drop_X6_isBetween
set_option maxRecDepth 20000 in
theorem ggX6_drop_X6_goes : GoodIn wsX6_drop wsX6_goes := goodIn_r _ [19, 20, 21, 22, 23, 24, 25, 26, 27, 28, 29, 30, 31, 32, 33, 34, 35, 36, 37, 38, 39, 40, 41, 42, 43, 44, 45, 46, 47, 48, 49, 50, 51, 52, 53, 54, 55, 56, 57, 58, 59, 60, 61, 62, 63, 64, 65] (by decide +kernel) (by decide +kernel)
set_option maxRecDepth 20000 in
theorem gX6_drop_X6_goes : GoodIn wsX6_drop (wsV RX6 109 RX6 yX6_goes wsX6_goes) := goodIn_app (goodIn_of _ (by decide +kernel)) ggX6_drop_X6_goes
theorem dX6_drop_0 : decode cX6_drop 0 = .ok (.aload_n 0, 1) := by decide +kernel
theorem dX6_drop_1 : decode cX6_drop 1 = .ok (.aload_n 0, 1) := by decide +kernel
theorem dX6_drop_2 : decode cX6_drop 2 = .ok (.iload_n 1, 1) := by decide +kernel
theorem dX6_drop_3 : decode cX6_drop 3 = .ok (.invokevirtual 129, 3) := by decide +kernel
theorem dX6_drop_6 : decode cX6_drop 6 = .ok (.ifCond .eq 14, 3) := by decide +kernel
theorem dX6_drop_9 : decode cX6_drop 9 = .ok (.iload_n 3, 1) := by decide +kernel
theorem dX6_drop_10 : decode cX6_drop 10 = .ok (.invokestatic 132, 3) := by decide +kernel
theorem dX6_drop_13 : decode cX6_drop 13 = .ok (.ifCond .eq 7, 3) := by decide +kernel
theorem dX6_drop_16 : decode cX6_drop 16 = .ok (.iconst 1, 1) := by decide +kernel
theorem dX6_drop_17 : decode cX6_drop 17 = .ok (.goto 4, 3) := by decide +kernel
theorem dX6_drop_20 : decode cX6_drop 20 = .ok (.iconst 0, 1) := by decide +kernel
theorem dX6_drop_21 : decode cX6_drop 21 = .ok (.iload_n 2, 1) := by decide +kernel
theorem dX6_drop_22 : decode cX6_drop 22 = .ok (.iconst 1, 1) := by decide +kernel
theorem dX6_drop_23 : decode cX6_drop 23 = .ok (.bipush 10, 2) := by decide +kernel
theorem dX6_drop_25 : decode cX6_drop 25 = .ok (.invokestatic 98, 3) := by decide +kernel
theorem dX6_drop_28 : decode cX6_drop 28 = .ok (.iconst 1, 1) := by decide +kernel
theorem dX6_drop_29 : decode cX6_drop 29 = .ok (.invokevirtual 109, 3) := by decide +kernel
theorem dX6_drop_32 : decode cX6_drop 32 = .ok (.ifCond .ne 4, 3) := by decide +kernel
theorem dX6_drop_35 : decode cX6_drop 35 = .ok (.return_, 1) := by decide +kernel
theorem dX6_drop_36 : decode cX6_drop 36 = .ok (.aload_n 0, 1) := by decide +kernel
theorem dX6_drop_37 : decode cX6_drop 37 = .ok (.iload_n 1, 1) := by decide +kernel
theorem dX6_drop_38 : decode cX6_drop 38 = .ok (.putfield 77, 3) := by decide +kernel
theorem dX6_drop_41 : decode cX6_drop 41 = .ok (.aload_n 0, 1) := by decide +kernel
theorem dX6_drop_42 : decode cX6_drop 42 = .ok (.iload_n 2, 1) := by decide +kernel
theorem dX6_drop_43 : decode cX6_drop 43 = .ok (.putfield 135, 3) := by decide +kernel
theorem dX6_drop_46 : decode cX6_drop 46 = .ok (.aload_n 0, 1) := by decide +kernel
theorem dX6_drop_47 : decode cX6_drop 47 = .ok (.iload_n 3, 1) := by decide +kernel
theorem dX6_drop_48 : decode cX6_drop 48 = .ok (.putfield 138, 3) := by decide +kernel
theorem dX6_drop_51 : decode cX6_drop 51 = .ok (.return_, 1) := by decide +kernel
set_option maxRecDepth 20000 in
theorem ggX6_leak_X6_isPlace : GoodIn wsX6_leak wsX6_isPlace := goodIn_r _ [7, 8, 9, 10, 6, 11, 17, 18, 19, 20, 21, 22, 23, 24, 25, 26, 27, 28, 29, 30, 31, 32, 33, 34, 35, 36, 37, 38, 39, 40, 41, 42, 43, 44, 45, 46, 47, 48, 49, 50, 51, 52, 53, 54, 55, 56, 57, 58, 59, 60, 61] (by decide +kernel) (by decide +kernel)
set_option maxRecDepth 20000 in
theorem gX6_leak_X6_isPlace : GoodIn wsX6_leak (wsV RX6 129 RX6 yX6_isPlace wsX6_isPlace) := goodIn_app (goodIn_of _ (by decide +kernel)) ggX6_leak_X6_isPlace
set_option maxRecDepth 20000 in
theorem ggX6_leak_X6_isBetween : GoodIn wsX6_leak wsX6_isBetween := goodIn_r _ [11] (by decide +kernel) (by decide +kernel)
set_option maxRecDepth 20000 in
theorem gX6_leak_X6_isBetween : GoodIn wsX6_leak (va_wsS RX6 98 yX6_isBetween wsX6_isBetween) := goodIn_app (goodIn_of _ (by decide +kernel)) ggX6_leak_X6_isBetween
set_option maxRecDepth 20000 in
theorem ggX6_leak_X6_goes : GoodIn wsX6_leak wsX6_goes := goodIn_r _ [15, 16, 17, 18, 19, 20, 21, 22, 23, 24, 25, 26, 27, 28, 29, 30, 31, 32, 33, 34, 35, 36, 37, 38, 39, 40, 41, 42, 43, 44, 45, 46, 47, 48, 49, 50, 51, 52, 53, 54, 55, 56, 57, 58, 59, 60, 61] (by decide +kernel) (by decide +kernel)
set_option maxRecDepth 20000 in
theorem gX6_leak_X6_goes : GoodIn wsX6_leak (wsV RX6 109 RX6 yX6_goes wsX6_goes) := goodIn_app (goodIn_of _ (by decide +kernel)) ggX6_leak_X6_goes
theorem dX6_leak_0 : decode cX6_leak 0 = .ok (.aload_n 0, 1) := by decide +kernel
theorem dX6_leak_1 : decode cX6_leak 1 = .ok (.aload_n 0, 1) := by decide +kernel
theorem dX6_leak_2 : decode cX6_leak 2 = .ok (.iload_n 1, 1) := by decide +kernel
theorem dX6_leak_3 : decode cX6_leak 3 = .ok (.invokevirtual 129, 3) := by decide +kernel
theorem dX6_leak_6 : decode cX6_leak 6 = .ok (.iload_n 2, 1) := by decide +kernel
theorem dX6_leak_7 : decode cX6_leak 7 = .ok (.iconst 1, 1) := by decide +kernel
theorem dX6_leak_8 : decode cX6_leak 8 = .ok (.bipush 10, 2) := by decide +kernel
theorem dX6_leak_10 : decode cX6_leak 10 = .ok (.invokestatic 98, 3) := by decide +kernel
theorem dX6_leak_13 : decode cX6_leak 13 = .ok (.iconst 1, 1) := by decide +kernel
theorem dX6_leak_14 : decode cX6_leak 14 = .ok (.invokevirtual 109, 3) := by decide +kernel
theorem dX6_leak_17 : decode cX6_leak 17 = .ok (.ifCond .ne 4, 3) := by decide +kernel
theorem dX6_leak_20 : decode cX6_leak 20 = .ok (.return_, 1) := by decide +kernel
theorem dX6_leak_21 : decode cX6_leak 21 = .ok (.aload_n 0, 1) := by decide +kernel
theorem dX6_leak_22 : decode cX6_leak 22 = .ok (.iload_n 1, 1) := by decide +kernel
theorem dX6_leak_23 : decode cX6_leak 23 = .ok (.putfield 80, 3) := by decide +kernel
theorem dX6_leak_26 : decode cX6_leak 26 = .ok (.aload_n 0, 1) := by decide +kernel
theorem dX6_leak_27 : decode cX6_leak 27 = .ok (.iload_n 2, 1) := by decide +kernel
theorem dX6_leak_28 : decode cX6_leak 28 = .ok (.putfield 141, 3) := by decide +kernel
theorem dX6_leak_31 : decode cX6_leak 31 = .ok (.return_, 1) := by decide +kernel
set_option maxRecDepth 20000 in
theorem ggX6_receive_X6_isTank : GoodIn wsX6_receive wsX6_isTank := goodIn_r _ [5, 6, 7, 4, 8] (by decide +kernel) (by decide +kernel)
set_option maxRecDepth 20000 in
theorem gX6_receive_X6_isTank : GoodIn wsX6_receive (va_wsS RX6 132 yX6_isTank wsX6_isTank) := goodIn_app (goodIn_of _ (by decide +kernel)) ggX6_receive_X6_isTank
set_option maxRecDepth 20000 in
theorem ggX6_receive_X6_goes : GoodIn wsX6_receive wsX6_goes := goodIn_r _ [12, 13, 14, 15, 16, 17, 18, 19, 20, 21, 22, 23, 24, 25, 26, 27, 28, 29, 30, 31, 32, 33, 34, 35, 36, 37, 38, 39, 40, 41, 42, 43, 44, 45, 46, 47, 48, 49, 50, 51, 52, 53, 54, 55, 56, 57, 58] (by decide +kernel) (by decide +kernel)
set_option maxRecDepth 20000 in
theorem gX6_receive_X6_goes : GoodIn wsX6_receive (wsV RX6 109 RX6 yX6_goes wsX6_goes) := goodIn_app (goodIn_of _ (by decide +kernel)) ggX6_receive_X6_goes
theorem dX6_receive_0 : decode cX6_receive 0 = .ok (.aload_n 0, 1) := by decide +kernel
theorem dX6_receive_1 : decode cX6_receive 1 = .ok (.iload_n 1, 1) := by decide +kernel
theorem dX6_receive_2 : decode cX6_receive 2 = .ok (.invokestatic 132, 3) := by decide +kernel
theorem dX6_receive_5 : decode cX6_receive 5 = .ok (.iconst 1, 1) := by decide +kernel
theorem dX6_receive_6 : decode cX6_receive 6 = .ok (.iconst 1, 1) := by decide +kernel
theorem dX6_receive_7 : decode cX6_receive 7 = .ok (.invokevirtual 109, 3) := by decide +kernel
theorem dX6_receive_10 : decode cX6_receive 10 = .ok (.ifCond .ne 5, 3) := by decide +kernel
theorem dX6_receive_13 : decode cX6_receive 13 = .ok (.iconst 0, 1) := by decide +kernel
theorem dX6_receive_14 : decode cX6_receive 14 = .ok (.ireturn, 1) := by decide +kernel
theorem dX6_receive_15 : decode cX6_receive 15 = .ok (.aload_n 0, 1) := by decide +kernel
theorem dX6_receive_16 : decode cX6_receive 16 = .ok (.getfield 144, 3) := by decide +kernel
theorem dX6_receive_19 : decode cX6_receive 19 = .ok (.istore_n 2, 1) := by decide +kernel
theorem dX6_receive_20 : decode cX6_receive 20 = .ok (.aload_n 0, 1) := by decide +kernel
theorem dX6_receive_21 : decode cX6_receive 21 = .ok (.iload_n 1, 1) := by decide +kernel
theorem dX6_receive_22 : decode cX6_receive 22 = .ok (.putfield 144, 3) := by decide +kernel
theorem dX6_receive_25 : decode cX6_receive 25 = .ok (.iload_n 2, 1) := by decide +kernel
theorem dX6_receive_26 : decode cX6_receive 26 = .ok (.ireturn, 1) := by decide +kernel
set_option maxRecDepth 20000 in
theorem ggX6_empty_X6_isTank : GoodIn wsX6_empty wsX6_isTank := goodIn_r _ [7, 8, 9, 6, 10] (by decide +kernel) (by decide +kernel)
set_option maxRecDepth 20000 in
theorem gX6_empty_X6_isTank : GoodIn wsX6_empty (va_wsS RX6 132 yX6_isTank wsX6_isTank) := goodIn_app (goodIn_of _ (by decide +kernel)) ggX6_empty_X6_isTank
set_option maxRecDepth 20000 in
theorem ggX6_empty_X6_goes : GoodIn wsX6_empty wsX6_goes := goodIn_r _ [14, 15, 16, 17, 18, 19, 20, 21, 22, 23, 24, 25, 26, 27, 28, 29, 30, 31, 32, 33, 34, 35, 36, 37, 38, 39, 40, 41, 42, 43, 44, 45, 46, 47, 48, 49, 50, 51, 52, 53, 54, 55, 56, 57, 58, 59, 60] (by decide +kernel) (by decide +kernel)
set_option maxRecDepth 20000 in
theorem gX6_empty_X6_goes : GoodIn wsX6_empty (wsV RX6 109 RX6 yX6_goes wsX6_goes) := goodIn_app (goodIn_of _ (by decide +kernel)) ggX6_empty_X6_goes
theorem dX6_empty_0 : decode cX6_empty 0 = .ok (.aload_n 0, 1) := by decide +kernel
theorem dX6_empty_1 : decode cX6_empty 1 = .ok (.iload_n 1, 1) := by decide +kernel
theorem dX6_empty_2 : decode cX6_empty 2 = .ok (.invokestatic 132, 3) := by decide +kernel
theorem dX6_empty_5 : decode cX6_empty 5 = .ok (.iconst 1, 1) := by decide +kernel
theorem dX6_empty_6 : decode cX6_empty 6 = .ok (.iconst 1, 1) := by decide +kernel
theorem dX6_empty_7 : decode cX6_empty 7 = .ok (.invokevirtual 109, 3) := by decide +kernel
theorem dX6_empty_10 : decode cX6_empty 10 = .ok (.ifCond .ne 5, 3) := by decide +kernel
theorem dX6_empty_13 : decode cX6_empty 13 = .ok (.iconst 0, 1) := by decide +kernel
theorem dX6_empty_14 : decode cX6_empty 14 = .ok (.ireturn, 1) := by decide +kernel
theorem dX6_empty_15 : decode cX6_empty 15 = .ok (.aload_n 0, 1) := by decide +kernel
theorem dX6_empty_16 : decode cX6_empty 16 = .ok (.getfield 83, 3) := by decide +kernel
theorem dX6_empty_19 : decode cX6_empty 19 = .ok (.iload_n 1, 1) := by decide +kernel
theorem dX6_empty_20 : decode cX6_empty 20 = .ok (.iaload, 1) := by decide +kernel
theorem dX6_empty_21 : decode cX6_empty 21 = .ok (.istore_n 2, 1) := by decide +kernel
theorem dX6_empty_22 : decode cX6_empty 22 = .ok (.aload_n 0, 1) := by decide +kernel
theorem dX6_empty_23 : decode cX6_empty 23 = .ok (.getfield 83, 3) := by decide +kernel
theorem dX6_empty_26 : decode cX6_empty 26 = .ok (.iload_n 1, 1) := by decide +kernel
theorem dX6_empty_27 : decode cX6_empty 27 = .ok (.iconst 0, 1) := by decide +kernel
theorem dX6_empty_28 : decode cX6_empty 28 = .ok (.iastore, 1) := by decide +kernel
theorem dX6_empty_29 : decode cX6_empty 29 = .ok (.aload_n 0, 1) := by decide +kernel
theorem dX6_empty_30 : decode cX6_empty 30 = .ok (.getfield 89, 3) := by decide +kernel
theorem dX6_empty_33 : decode cX6_empty 33 = .ok (.iload_n 1, 1) := by decide +kernel
theorem dX6_empty_34 : decode cX6_empty 34 = .ok (.iconst 0, 1) := by decide +kernel
theorem dX6_empty_35 : decode cX6_empty 35 = .ok (.iastore, 1) := by decide +kernel
theorem dX6_empty_36 : decode cX6_empty 36 = .ok (.aload_n 0, 1) := by decide +kernel
theorem dX6_empty_37 : decode cX6_empty 37 = .ok (.getfield 86, 3) := by decide +kernel
theorem dX6_empty_40 : decode cX6_empty 40 = .ok (.iload_n 1, 1) := by decide +kernel
theorem dX6_empty_41 : decode cX6_empty 41 = .ok (.iconst 0, 1) := by decide +kernel
theorem dX6_empty_42 : decode cX6_empty 42 = .ok (.iastore, 1) := by decide +kernel
theorem dX6_empty_43 : decode cX6_empty 43 = .ok (.iload_n 2, 1) := by decide +kernel
theorem dX6_empty_44 : decode cX6_empty 44 = .ok (.ireturn, 1) := by decide +kernel
set_option maxRecDepth 20000 in
theorem ggX6_launch_X6_goes : GoodIn wsX6_launch wsX6_goes := goodIn_r _ [12, 13, 14, 15, 16, 17, 18, 19, 20, 21, 22, 23, 24, 25, 26, 27, 28, 29, 30, 31, 32, 33, 34, 35, 36, 37, 38, 39, 40, 41, 42, 43, 44, 45, 46, 47, 48, 49, 50, 51, 52, 53, 54, 55, 56, 57, 58] (by decide +kernel) (by decide +kernel)
set_option maxRecDepth 20000 in
theorem gX6_launch_X6_goes : GoodIn wsX6_launch (wsV RX6 109 RX6 yX6_goes wsX6_goes) := goodIn_app (goodIn_of _ (by decide +kernel)) ggX6_launch_X6_goes
theorem dX6_launch_0 : decode cX6_launch 0 = .ok (.aload_n 0, 1) := by decide +kernel
theorem dX6_launch_1 : decode cX6_launch 1 = .ok (.aload_n 0, 1) := by decide +kernel
theorem dX6_launch_2 : decode cX6_launch 2 = .ok (.getfield 105, 3) := by decide +kernel
theorem dX6_launch_5 : decode cX6_launch 5 = .ok (.ifCond .eq 14, 3) := by decide +kernel
theorem dX6_launch_8 : decode cX6_launch 8 = .ok (.aload_n 0, 1) := by decide +kernel
theorem dX6_launch_9 : decode cX6_launch 9 = .ok (.getfield 147, 3) := by decide +kernel
theorem dX6_launch_12 : decode cX6_launch 12 = .ok (.ifCond .ne 7, 3) := by decide +kernel
theorem dX6_launch_15 : decode cX6_launch 15 = .ok (.iconst 1, 1) := by decide +kernel
theorem dX6_launch_16 : decode cX6_launch 16 = .ok (.goto 4, 3) := by decide +kernel
theorem dX6_launch_19 : decode cX6_launch 19 = .ok (.iconst 0, 1) := by decide +kernel
theorem dX6_launch_20 : decode cX6_launch 20 = .ok (.iconst 1, 1) := by decide +kernel
theorem dX6_launch_21 : decode cX6_launch 21 = .ok (.iconst 1, 1) := by decide +kernel
theorem dX6_launch_22 : decode cX6_launch 22 = .ok (.invokevirtual 109, 3) := by decide +kernel
theorem dX6_launch_25 : decode cX6_launch 25 = .ok (.ifCond .ne 4, 3) := by decide +kernel
theorem dX6_launch_28 : decode cX6_launch 28 = .ok (.return_, 1) := by decide +kernel
theorem dX6_launch_29 : decode cX6_launch 29 = .ok (.aload_n 0, 1) := by decide +kernel
theorem dX6_launch_30 : decode cX6_launch 30 = .ok (.iconst 1, 1) := by decide +kernel
theorem dX6_launch_31 : decode cX6_launch 31 = .ok (.putfield 147, 3) := by decide +kernel
theorem dX6_launch_34 : decode cX6_launch 34 = .ok (.aload_n 0, 1) := by decide +kernel
theorem dX6_launch_35 : decode cX6_launch 35 = .ok (.aload_n 0, 1) := by decide +kernel
theorem dX6_launch_36 : decode cX6_launch 36 = .ok (.getfield 71, 3) := by decide +kernel
theorem dX6_launch_39 : decode cX6_launch 39 = .ok (.aload_n 0, 1) := by decide +kernel
theorem dX6_launch_40 : decode cX6_launch 40 = .ok (.getfield 117, 3) := by decide +kernel
theorem dX6_launch_43 : decode cX6_launch 43 = .ok (.iconst 1, 1) := by decide +kernel
theorem dX6_launch_44 : decode cX6_launch 44 = .ok (.isub, 1) := by decide +kernel
theorem dX6_launch_45 : decode cX6_launch 45 = .ok (.iaload, 1) := by decide +kernel
theorem dX6_launch_46 : decode cX6_launch 46 = .ok (.putfield 150, 3) := by decide +kernel
theorem dX6_launch_49 : decode cX6_launch 49 = .ok (.aload_n 0, 1) := by decide +kernel
theorem dX6_launch_50 : decode cX6_launch 50 = .ok (.aload_n 0, 1) := by decide +kernel
theorem dX6_launch_51 : decode cX6_launch 51 = .ok (.getfield 74, 3) := by decide +kernel
theorem dX6_launch_54 : decode cX6_launch 54 = .ok (.aload_n 0, 1) := by decide +kernel
theorem dX6_launch_55 : decode cX6_launch 55 = .ok (.getfield 117, 3) := by decide +kernel
theorem dX6_launch_58 : decode cX6_launch 58 = .ok (.iconst 1, 1) := by decide +kernel
theorem dX6_launch_59 : decode cX6_launch 59 = .ok (.isub, 1) := by decide +kernel
theorem dX6_launch_60 : decode cX6_launch 60 = .ok (.iaload, 1) := by decide +kernel
theorem dX6_launch_61 : decode cX6_launch 61 = .ok (.putfield 153, 3) := by decide +kernel
theorem dX6_launch_64 : decode cX6_launch 64 = .ok (.return_, 1) := by decide +kernel
theorem dX6_lastOf_0 : decode cX6_lastOf 0 = .ok (.iconst 0, 1) := by decide +kernel
theorem dX6_lastOf_1 : decode cX6_lastOf 1 = .ok (.istore_n 2, 1) := by decide +kernel
theorem dX6_lastOf_2 : decode cX6_lastOf 2 = .ok (.iload_n 1, 1) := by decide +kernel
theorem dX6_lastOf_3 : decode cX6_lastOf 3 = .ok (.iconst 1, 1) := by decide +kernel
theorem dX6_lastOf_4 : decode cX6_lastOf 4 = .ok (.iadd, 1) := by decide +kernel
theorem dX6_lastOf_5 : decode cX6_lastOf 5 = .ok (.istore_n 3, 1) := by decide +kernel
theorem dX6_lastOf_6 : decode cX6_lastOf 6 = .ok (.iload_n 3, 1) := by decide +kernel
theorem dX6_lastOf_7 : decode cX6_lastOf 7 = .ok (.aload_n 0, 1) := by decide +kernel
theorem dX6_lastOf_8 : decode cX6_lastOf 8 = .ok (.getfield 102, 3) := by decide +kernel
theorem dX6_lastOf_11 : decode cX6_lastOf 11 = .ok (.if_icmp .ge 18, 3) := by decide +kernel
theorem dX6_lastOf_14 : decode cX6_lastOf 14 = .ok (.iload_n 2, 1) := by decide +kernel
theorem dX6_lastOf_15 : decode cX6_lastOf 15 = .ok (.aload_n 0, 1) := by decide +kernel
theorem dX6_lastOf_16 : decode cX6_lastOf 16 = .ok (.getfield 7, 3) := by decide +kernel
theorem dX6_lastOf_19 : decode cX6_lastOf 19 = .ok (.iload_n 3, 1) := by decide +kernel
theorem dX6_lastOf_20 : decode cX6_lastOf 20 = .ok (.iaload, 1) := by decide +kernel
theorem dX6_lastOf_21 : decode cX6_lastOf 21 = .ok (.iadd, 1) := by decide +kernel
theorem dX6_lastOf_22 : decode cX6_lastOf 22 = .ok (.istore_n 2, 1) := by decide +kernel
theorem dX6_lastOf_23 : decode cX6_lastOf 23 = .ok (.iinc 3 1, 3) := by decide +kernel
theorem dX6_lastOf_26 : decode cX6_lastOf 26 = .ok (.goto (-20), 3) := by decide +kernel
theorem dX6_lastOf_29 : decode cX6_lastOf 29 = .ok (.iload_n 2, 1) := by decide +kernel
theorem dX6_lastOf_30 : decode cX6_lastOf 30 = .ok (.ireturn, 1) := by decide +kernel
set_option maxRecDepth 20000 in
theorem ggX6_pressureOf_X6_lastOf : GoodIn wsX6_pressureOf wsX6_lastOf := goodIn_r _ [13, 1, 2, 14, 15, 16, 17, 18, 19, 20, 21, 22, 23, 24, 25, 26, 27, 28, 29, 30, 31, 32, 33, 34, 35, 36, 37, 38, 39, 40, 41, 42, 43, 44, 45, 46, 47, 48, 49, 50, 51, 52, 53, 54, 55, 56, 57, 58] (by decide +kernel) (by decide +kernel)
set_option maxRecDepth 20000 in
theorem gX6_pressureOf_X6_lastOf : GoodIn wsX6_pressureOf (wsV RX6 156 RX6 yX6_lastOf wsX6_lastOf) := goodIn_app (goodIn_of _ (by decide +kernel)) ggX6_pressureOf_X6_lastOf
theorem dX6_pressureOf_0 : decode cX6_pressureOf 0 = .ok (.iconst 0, 1) := by decide +kernel
theorem dX6_pressureOf_1 : decode cX6_pressureOf 1 = .ok (.istore_n 3, 1) := by decide +kernel
theorem dX6_pressureOf_2 : decode cX6_pressureOf 2 = .ok (.iload_n 1, 1) := by decide +kernel
theorem dX6_pressureOf_3 : decode cX6_pressureOf 3 = .ok (.istore 4, 2) := by decide +kernel
theorem dX6_pressureOf_5 : decode cX6_pressureOf 5 = .ok (.iload 4, 2) := by decide +kernel
theorem dX6_pressureOf_7 : decode cX6_pressureOf 7 = .ok (.aload_n 0, 1) := by decide +kernel
theorem dX6_pressureOf_8 : decode cX6_pressureOf 8 = .ok (.getfield 102, 3) := by decide +kernel
theorem dX6_pressureOf_11 : decode cX6_pressureOf 11 = .ok (.if_icmp .ge 88, 3) := by decide +kernel
theorem dX6_pressureOf_14 : decode cX6_pressureOf 14 = .ok (.aload_n 0, 1) := by decide +kernel
theorem dX6_pressureOf_15 : decode cX6_pressureOf 15 = .ok (.iload 4, 2) := by decide +kernel
theorem dX6_pressureOf_17 : decode cX6_pressureOf 17 = .ok (.invokevirtual 156, 3) := by decide +kernel
theorem dX6_pressureOf_20 : decode cX6_pressureOf 20 = .ok (.istore 5, 2) := by decide +kernel
theorem dX6_pressureOf_22 : decode cX6_pressureOf 22 = .ok (.iconst 0, 1) := by decide +kernel
theorem dX6_pressureOf_23 : decode cX6_pressureOf 23 = .ok (.istore 6, 2) := by decide +kernel
theorem dX6_pressureOf_25 : decode cX6_pressureOf 25 = .ok (.iload 5, 2) := by decide +kernel
theorem dX6_pressureOf_27 : decode cX6_pressureOf 27 = .ok (.istore 7, 2) := by decide +kernel
theorem dX6_pressureOf_29 : decode cX6_pressureOf 29 = .ok (.iload 7, 2) := by decide +kernel
theorem dX6_pressureOf_31 : decode cX6_pressureOf 31 = .ok (.iload 5, 2) := by decide +kernel
theorem dX6_pressureOf_33 : decode cX6_pressureOf 33 = .ok (.aload_n 0, 1) := by decide +kernel
theorem dX6_pressureOf_34 : decode cX6_pressureOf 34 = .ok (.getfield 7, 3) := by decide +kernel
theorem dX6_pressureOf_37 : decode cX6_pressureOf 37 = .ok (.iload 4, 2) := by decide +kernel
theorem dX6_pressureOf_39 : decode cX6_pressureOf 39 = .ok (.iaload, 1) := by decide +kernel
theorem dX6_pressureOf_40 : decode cX6_pressureOf 40 = .ok (.iadd, 1) := by decide +kernel
theorem dX6_pressureOf_41 : decode cX6_pressureOf 41 = .ok (.if_icmp .ge 31, 3) := by decide +kernel
theorem dX6_pressureOf_44 : decode cX6_pressureOf 44 = .ok (.iload 6, 2) := by decide +kernel
theorem dX6_pressureOf_46 : decode cX6_pressureOf 46 = .ok (.aload_n 0, 1) := by decide +kernel
theorem dX6_pressureOf_47 : decode cX6_pressureOf 47 = .ok (.getfield 25, 3) := by decide +kernel
theorem dX6_pressureOf_50 : decode cX6_pressureOf 50 = .ok (.aload_n 0, 1) := by decide +kernel
theorem dX6_pressureOf_51 : decode cX6_pressureOf 51 = .ok (.getfield 41, 3) := by decide +kernel
theorem dX6_pressureOf_54 : decode cX6_pressureOf 54 = .ok (.aload_n 0, 1) := by decide +kernel
theorem dX6_pressureOf_55 : decode cX6_pressureOf 55 = .ok (.getfield 71, 3) := by decide +kernel
theorem dX6_pressureOf_58 : decode cX6_pressureOf 58 = .ok (.iload 7, 2) := by decide +kernel
theorem dX6_pressureOf_60 : decode cX6_pressureOf 60 = .ok (.iaload, 1) := by decide +kernel
theorem dX6_pressureOf_61 : decode cX6_pressureOf 61 = .ok (.iaload, 1) := by decide +kernel
theorem dX6_pressureOf_62 : decode cX6_pressureOf 62 = .ok (.iaload, 1) := by decide +kernel
theorem dX6_pressureOf_63 : decode cX6_pressureOf 63 = .ok (.iadd, 1) := by decide +kernel
theorem dX6_pressureOf_64 : decode cX6_pressureOf 64 = .ok (.istore 6, 2) := by decide +kernel
theorem dX6_pressureOf_66 : decode cX6_pressureOf 66 = .ok (.iinc 7 1, 3) := by decide +kernel
theorem dX6_pressureOf_69 : decode cX6_pressureOf 69 = .ok (.goto (-40), 3) := by decide +kernel
theorem dX6_pressureOf_72 : decode cX6_pressureOf 72 = .ok (.iload_n 3, 1) := by decide +kernel
theorem dX6_pressureOf_73 : decode cX6_pressureOf 73 = .ok (.iload_n 2, 1) := by decide +kernel
theorem dX6_pressureOf_74 : decode cX6_pressureOf 74 = .ok (.iload 6, 2) := by decide +kernel
theorem dX6_pressureOf_76 : decode cX6_pressureOf 76 = .ok (.aload_n 0, 1) := by decide +kernel
theorem dX6_pressureOf_77 : decode cX6_pressureOf 77 = .ok (.getfield 19, 3) := by decide +kernel
theorem dX6_pressureOf_80 : decode cX6_pressureOf 80 = .ok (.iload 4, 2) := by decide +kernel
theorem dX6_pressureOf_82 : decode cX6_pressureOf 82 = .ok (.iaload, 1) := by decide +kernel
theorem dX6_pressureOf_83 : decode cX6_pressureOf 83 = .ok (.iadd, 1) := by decide +kernel
theorem dX6_pressureOf_84 : decode cX6_pressureOf 84 = .ok (.imul, 1) := by decide +kernel
theorem dX6_pressureOf_85 : decode cX6_pressureOf 85 = .ok (.bipush 99, 2) := by decide +kernel
theorem dX6_pressureOf_87 : decode cX6_pressureOf 87 = .ok (.iadd, 1) := by decide +kernel
theorem dX6_pressureOf_88 : decode cX6_pressureOf 88 = .ok (.bipush 100, 2) := by decide +kernel
theorem dX6_pressureOf_90 : decode cX6_pressureOf 90 = .ok (.idiv, 1) := by decide +kernel
theorem dX6_pressureOf_91 : decode cX6_pressureOf 91 = .ok (.iadd, 1) := by decide +kernel
theorem dX6_pressureOf_92 : decode cX6_pressureOf 92 = .ok (.istore_n 3, 1) := by decide +kernel
theorem dX6_pressureOf_93 : decode cX6_pressureOf 93 = .ok (.iinc 4 1, 3) := by decide +kernel
theorem dX6_pressureOf_96 : decode cX6_pressureOf 96 = .ok (.goto (-91), 3) := by decide +kernel
theorem dX6_pressureOf_99 : decode cX6_pressureOf 99 = .ok (.iload_n 3, 1) := by decide +kernel
theorem dX6_pressureOf_100 : decode cX6_pressureOf 100 = .ok (.aload_n 0, 1) := by decide +kernel
theorem dX6_pressureOf_101 : decode cX6_pressureOf 101 = .ok (.getfield 22, 3) := by decide +kernel
theorem dX6_pressureOf_104 : decode cX6_pressureOf 104 = .ok (.aload_n 0, 1) := by decide +kernel
theorem dX6_pressureOf_105 : decode cX6_pressureOf 105 = .ok (.getfield 41, 3) := by decide +kernel
theorem dX6_pressureOf_108 : decode cX6_pressureOf 108 = .ok (.aload_n 0, 1) := by decide +kernel
theorem dX6_pressureOf_109 : decode cX6_pressureOf 109 = .ok (.getfield 71, 3) := by decide +kernel
theorem dX6_pressureOf_112 : decode cX6_pressureOf 112 = .ok (.iconst 0, 1) := by decide +kernel
theorem dX6_pressureOf_113 : decode cX6_pressureOf 113 = .ok (.iaload, 1) := by decide +kernel
theorem dX6_pressureOf_114 : decode cX6_pressureOf 114 = .ok (.iaload, 1) := by decide +kernel
theorem dX6_pressureOf_115 : decode cX6_pressureOf 115 = .ok (.iaload, 1) := by decide +kernel
theorem dX6_pressureOf_116 : decode cX6_pressureOf 116 = .ok (.aload_n 0, 1) := by decide +kernel
theorem dX6_pressureOf_117 : decode cX6_pressureOf 117 = .ok (.getfield 13, 3) := by decide +kernel
theorem dX6_pressureOf_120 : decode cX6_pressureOf 120 = .ok (.aload_n 0, 1) := by decide +kernel
theorem dX6_pressureOf_121 : decode cX6_pressureOf 121 = .ok (.getfield 102, 3) := by decide +kernel
theorem dX6_pressureOf_124 : decode cX6_pressureOf 124 = .ok (.iconst 1, 1) := by decide +kernel
theorem dX6_pressureOf_125 : decode cX6_pressureOf 125 = .ok (.isub, 1) := by decide +kernel
theorem dX6_pressureOf_126 : decode cX6_pressureOf 126 = .ok (.iaload, 1) := by decide +kernel
theorem dX6_pressureOf_127 : decode cX6_pressureOf 127 = .ok (.imul, 1) := by decide +kernel
theorem dX6_pressureOf_128 : decode cX6_pressureOf 128 = .ok (.iadd, 1) := by decide +kernel
theorem dX6_pressureOf_129 : decode cX6_pressureOf 129 = .ok (.istore_n 3, 1) := by decide +kernel
theorem dX6_pressureOf_130 : decode cX6_pressureOf 130 = .ok (.iload_n 1, 1) := by decide +kernel
theorem dX6_pressureOf_131 : decode cX6_pressureOf 131 = .ok (.ifCond .le 37, 3) := by decide +kernel
theorem dX6_pressureOf_134 : decode cX6_pressureOf 134 = .ok (.iload_n 3, 1) := by decide +kernel
theorem dX6_pressureOf_135 : decode cX6_pressureOf 135 = .ok (.aload_n 0, 1) := by decide +kernel
theorem dX6_pressureOf_136 : decode cX6_pressureOf 136 = .ok (.getfield 22, 3) := by decide +kernel
theorem dX6_pressureOf_139 : decode cX6_pressureOf 139 = .ok (.aload_n 0, 1) := by decide +kernel
theorem dX6_pressureOf_140 : decode cX6_pressureOf 140 = .ok (.getfield 41, 3) := by decide +kernel
theorem dX6_pressureOf_143 : decode cX6_pressureOf 143 = .ok (.aload_n 0, 1) := by decide +kernel
theorem dX6_pressureOf_144 : decode cX6_pressureOf 144 = .ok (.getfield 71, 3) := by decide +kernel
theorem dX6_pressureOf_147 : decode cX6_pressureOf 147 = .ok (.aload_n 0, 1) := by decide +kernel
theorem dX6_pressureOf_148 : decode cX6_pressureOf 148 = .ok (.iload_n 1, 1) := by decide +kernel
theorem dX6_pressureOf_149 : decode cX6_pressureOf 149 = .ok (.iconst 1, 1) := by decide +kernel
theorem dX6_pressureOf_150 : decode cX6_pressureOf 150 = .ok (.isub, 1) := by decide +kernel
theorem dX6_pressureOf_151 : decode cX6_pressureOf 151 = .ok (.invokevirtual 156, 3) := by decide +kernel
theorem dX6_pressureOf_154 : decode cX6_pressureOf 154 = .ok (.iaload, 1) := by decide +kernel
theorem dX6_pressureOf_155 : decode cX6_pressureOf 155 = .ok (.iaload, 1) := by decide +kernel
theorem dX6_pressureOf_156 : decode cX6_pressureOf 156 = .ok (.iaload, 1) := by decide +kernel
theorem dX6_pressureOf_157 : decode cX6_pressureOf 157 = .ok (.aload_n 0, 1) := by decide +kernel
theorem dX6_pressureOf_158 : decode cX6_pressureOf 158 = .ok (.getfield 13, 3) := by decide +kernel
theorem dX6_pressureOf_161 : decode cX6_pressureOf 161 = .ok (.iload_n 1, 1) := by decide +kernel
theorem dX6_pressureOf_162 : decode cX6_pressureOf 162 = .ok (.iconst 1, 1) := by decide +kernel
theorem dX6_pressureOf_163 : decode cX6_pressureOf 163 = .ok (.isub, 1) := by decide +kernel
theorem dX6_pressureOf_164 : decode cX6_pressureOf 164 = .ok (.iaload, 1) := by decide +kernel
theorem dX6_pressureOf_165 : decode cX6_pressureOf 165 = .ok (.imul, 1) := by decide +kernel
theorem dX6_pressureOf_166 : decode cX6_pressureOf 166 = .ok (.isub, 1) := by decide +kernel
theorem dX6_pressureOf_167 : decode cX6_pressureOf 167 = .ok (.istore_n 3, 1) := by decide +kernel
theorem dX6_pressureOf_168 : decode cX6_pressureOf 168 = .ok (.iload_n 3, 1) := by decide +kernel
theorem dX6_pressureOf_169 : decode cX6_pressureOf 169 = .ok (.ifCond .ge 7, 3) := by decide +kernel
theorem dX6_pressureOf_172 : decode cX6_pressureOf 172 = .ok (.iconst 0, 1) := by decide +kernel
theorem dX6_pressureOf_173 : decode cX6_pressureOf 173 = .ok (.goto 4, 3) := by decide +kernel
theorem dX6_pressureOf_176 : decode cX6_pressureOf 176 = .ok (.iload_n 3, 1) := by decide +kernel
theorem dX6_pressureOf_177 : decode cX6_pressureOf 177 = .ok (.ireturn, 1) := by decide +kernel
set_option maxRecDepth 20000 in
theorem ggX6_rateThatGoes_X6_pressureOf : GoodIn wsX6_rateThatGoes wsX6_pressureOf := goodIn_r _ [8, 2, 9, 10, 11, 12, 13, 14, 15, 16, 17, 18, 7, 19, 20, 21, 22, 23, 24, 25, 26, 27, 28, 29, 30, 31, 32, 33, 34, 35, 36, 37, 38, 39, 40, 41, 42, 43, 44, 45, 46, 47, 48, 49, 50, 51, 52, 53, 54, 55, 56, 57, 58, 59, 60, 61, 62, 63, 64] (by decide +kernel) (by decide +kernel)
set_option maxRecDepth 20000 in
theorem gX6_rateThatGoes_X6_pressureOf : GoodIn wsX6_rateThatGoes (wsV RX6 160 RX6 yX6_pressureOf wsX6_pressureOf) := goodIn_app (goodIn_of _ (by decide +kernel)) ggX6_rateThatGoes_X6_pressureOf
theorem dX6_rateThatGoes_0 : decode cX6_rateThatGoes 0 = .ok (.aload_n 0, 1) := by decide +kernel
theorem dX6_rateThatGoes_1 : decode cX6_rateThatGoes 1 = .ok (.getfield 126, 3) := by decide +kernel
theorem dX6_rateThatGoes_4 : decode cX6_rateThatGoes 4 = .ok (.istore_n 1, 1) := by decide +kernel
theorem dX6_rateThatGoes_5 : decode cX6_rateThatGoes 5 = .ok (.iload_n 1, 1) := by decide +kernel
theorem dX6_rateThatGoes_6 : decode cX6_rateThatGoes 6 = .ok (.ifCond .le 58, 3) := by decide +kernel
theorem dX6_rateThatGoes_9 : decode cX6_rateThatGoes 9 = .ok (.iconst 1, 1) := by decide +kernel
theorem dX6_rateThatGoes_10 : decode cX6_rateThatGoes 10 = .ok (.istore_n 2, 1) := by decide +kernel
theorem dX6_rateThatGoes_11 : decode cX6_rateThatGoes 11 = .ok (.iconst 0, 1) := by decide +kernel
theorem dX6_rateThatGoes_12 : decode cX6_rateThatGoes 12 = .ok (.istore_n 3, 1) := by decide +kernel
theorem dX6_rateThatGoes_13 : decode cX6_rateThatGoes 13 = .ok (.iload_n 3, 1) := by decide +kernel
theorem dX6_rateThatGoes_14 : decode cX6_rateThatGoes 14 = .ok (.aload_n 0, 1) := by decide +kernel
theorem dX6_rateThatGoes_15 : decode cX6_rateThatGoes 15 = .ok (.getfield 102, 3) := by decide +kernel
theorem dX6_rateThatGoes_18 : decode cX6_rateThatGoes 18 = .ok (.if_icmp .ge 34, 3) := by decide +kernel
theorem dX6_rateThatGoes_21 : decode cX6_rateThatGoes 21 = .ok (.iload_n 2, 1) := by decide +kernel
theorem dX6_rateThatGoes_22 : decode cX6_rateThatGoes 22 = .ok (.ifCond .eq 30, 3) := by decide +kernel
theorem dX6_rateThatGoes_25 : decode cX6_rateThatGoes 25 = .ok (.aload_n 0, 1) := by decide +kernel
theorem dX6_rateThatGoes_26 : decode cX6_rateThatGoes 26 = .ok (.iload_n 3, 1) := by decide +kernel
theorem dX6_rateThatGoes_27 : decode cX6_rateThatGoes 27 = .ok (.iload_n 1, 1) := by decide +kernel
theorem dX6_rateThatGoes_28 : decode cX6_rateThatGoes 28 = .ok (.invokevirtual 160, 3) := by decide +kernel
theorem dX6_rateThatGoes_31 : decode cX6_rateThatGoes 31 = .ok (.aload_n 0, 1) := by decide +kernel
theorem dX6_rateThatGoes_32 : decode cX6_rateThatGoes 32 = .ok (.getfield 16, 3) := by decide +kernel
theorem dX6_rateThatGoes_35 : decode cX6_rateThatGoes 35 = .ok (.iload_n 3, 1) := by decide +kernel
theorem dX6_rateThatGoes_36 : decode cX6_rateThatGoes 36 = .ok (.iaload, 1) := by decide +kernel
theorem dX6_rateThatGoes_37 : decode cX6_rateThatGoes 37 = .ok (.if_icmp .gt 7, 3) := by decide +kernel
theorem dX6_rateThatGoes_40 : decode cX6_rateThatGoes 40 = .ok (.iconst 1, 1) := by decide +kernel
theorem dX6_rateThatGoes_41 : decode cX6_rateThatGoes 41 = .ok (.goto 4, 3) := by decide +kernel
theorem dX6_rateThatGoes_44 : decode cX6_rateThatGoes 44 = .ok (.iconst 0, 1) := by decide +kernel
theorem dX6_rateThatGoes_45 : decode cX6_rateThatGoes 45 = .ok (.istore_n 2, 1) := by decide +kernel
theorem dX6_rateThatGoes_46 : decode cX6_rateThatGoes 46 = .ok (.iinc 3 1, 3) := by decide +kernel
theorem dX6_rateThatGoes_49 : decode cX6_rateThatGoes 49 = .ok (.goto (-36), 3) := by decide +kernel
theorem dX6_rateThatGoes_52 : decode cX6_rateThatGoes 52 = .ok (.iload_n 2, 1) := by decide +kernel
theorem dX6_rateThatGoes_53 : decode cX6_rateThatGoes 53 = .ok (.ifCond .eq 5, 3) := by decide +kernel
theorem dX6_rateThatGoes_56 : decode cX6_rateThatGoes 56 = .ok (.iload_n 1, 1) := by decide +kernel
theorem dX6_rateThatGoes_57 : decode cX6_rateThatGoes 57 = .ok (.ireturn, 1) := by decide +kernel
theorem dX6_rateThatGoes_58 : decode cX6_rateThatGoes 58 = .ok (.iinc 1 (-1), 3) := by decide +kernel
theorem dX6_rateThatGoes_61 : decode cX6_rateThatGoes 61 = .ok (.goto (-56), 3) := by decide +kernel
theorem dX6_rateThatGoes_64 : decode cX6_rateThatGoes 64 = .ok (.iconst 0, 1) := by decide +kernel
theorem dX6_rateThatGoes_65 : decode cX6_rateThatGoes 65 = .ok (.ireturn, 1) := by decide +kernel
theorem dX6_root_0 : decode cX6_root 0 = .ok (.iconst 0, 1) := by decide +kernel
theorem dX6_root_1 : decode cX6_root 1 = .ok (.istore_n 1, 1) := by decide +kernel
theorem dX6_root_2 : decode cX6_root 2 = .ok (.iload_n 1, 1) := by decide +kernel
theorem dX6_root_3 : decode cX6_root 3 = .ok (.iconst 1, 1) := by decide +kernel
theorem dX6_root_4 : decode cX6_root 4 = .ok (.iadd, 1) := by decide +kernel
theorem dX6_root_5 : decode cX6_root 5 = .ok (.iload_n 1, 1) := by decide +kernel
theorem dX6_root_6 : decode cX6_root 6 = .ok (.iconst 1, 1) := by decide +kernel
theorem dX6_root_7 : decode cX6_root 7 = .ok (.iadd, 1) := by decide +kernel
theorem dX6_root_8 : decode cX6_root 8 = .ok (.imul, 1) := by decide +kernel
theorem dX6_root_9 : decode cX6_root 9 = .ok (.iload_n 0, 1) := by decide +kernel
theorem dX6_root_10 : decode cX6_root 10 = .ok (.if_icmp .gt 9, 3) := by decide +kernel
theorem dX6_root_13 : decode cX6_root 13 = .ok (.iinc 1 1, 3) := by decide +kernel
theorem dX6_root_16 : decode cX6_root 16 = .ok (.goto (-14), 3) := by decide +kernel
theorem dX6_root_19 : decode cX6_root 19 = .ok (.iload_n 1, 1) := by decide +kernel
theorem dX6_root_20 : decode cX6_root 20 = .ok (.ireturn, 1) := by decide +kernel
set_option maxRecDepth 20000 in
theorem ggX6_mixOf_X6_root : GoodIn wsX6_mixOf wsX6_root := goodIn_r _ [10] (by decide +kernel) (by decide +kernel)
set_option maxRecDepth 20000 in
theorem gX6_mixOf_X6_root : GoodIn wsX6_mixOf (va_wsS RX6 164 yX6_root wsX6_root) := goodIn_app (goodIn_of _ (by decide +kernel)) ggX6_mixOf_X6_root
theorem dX6_mixOf_0 : decode cX6_mixOf 0 = .ok (.iload_n 1, 1) := by decide +kernel
theorem dX6_mixOf_1 : decode cX6_mixOf 1 = .ok (.iconst 1, 1) := by decide +kernel
theorem dX6_mixOf_2 : decode cX6_mixOf 2 = .ok (.if_icmp .lt 32, 3) := by decide +kernel
theorem dX6_mixOf_5 : decode cX6_mixOf 5 = .ok (.aload_n 0, 1) := by decide +kernel
theorem dX6_mixOf_6 : decode cX6_mixOf 6 = .ok (.getfield 47, 3) := by decide +kernel
theorem dX6_mixOf_9 : decode cX6_mixOf 9 = .ok (.iload_n 1, 1) := by decide +kernel
theorem dX6_mixOf_10 : decode cX6_mixOf 10 = .ok (.iaload, 1) := by decide +kernel
theorem dX6_mixOf_11 : decode cX6_mixOf 11 = .ok (.ifCond .eq 23, 3) := by decide +kernel
theorem dX6_mixOf_14 : decode cX6_mixOf 14 = .ok (.aload_n 0, 1) := by decide +kernel
theorem dX6_mixOf_15 : decode cX6_mixOf 15 = .ok (.getfield 41, 3) := by decide +kernel
theorem dX6_mixOf_18 : decode cX6_mixOf 18 = .ok (.iload_n 1, 1) := by decide +kernel
theorem dX6_mixOf_19 : decode cX6_mixOf 19 = .ok (.iaload, 1) := by decide +kernel
theorem dX6_mixOf_20 : decode cX6_mixOf 20 = .ok (.aload_n 0, 1) := by decide +kernel
theorem dX6_mixOf_21 : decode cX6_mixOf 21 = .ok (.getfield 41, 3) := by decide +kernel
theorem dX6_mixOf_24 : decode cX6_mixOf 24 = .ok (.aload_n 0, 1) := by decide +kernel
theorem dX6_mixOf_25 : decode cX6_mixOf 25 = .ok (.getfield 59, 3) := by decide +kernel
theorem dX6_mixOf_28 : decode cX6_mixOf 28 = .ok (.iload_n 1, 1) := by decide +kernel
theorem dX6_mixOf_29 : decode cX6_mixOf 29 = .ok (.iaload, 1) := by decide +kernel
theorem dX6_mixOf_30 : decode cX6_mixOf 30 = .ok (.iaload, 1) := by decide +kernel
theorem dX6_mixOf_31 : decode cX6_mixOf 31 = .ok (.if_icmp .ne 5, 3) := by decide +kernel
theorem dX6_mixOf_34 : decode cX6_mixOf 34 = .ok (.iconst 0, 1) := by decide +kernel
theorem dX6_mixOf_35 : decode cX6_mixOf 35 = .ok (.ireturn, 1) := by decide +kernel
theorem dX6_mixOf_36 : decode cX6_mixOf 36 = .ok (.aload_n 0, 1) := by decide +kernel
theorem dX6_mixOf_37 : decode cX6_mixOf 37 = .ok (.getfield 68, 3) := by decide +kernel
theorem dX6_mixOf_40 : decode cX6_mixOf 40 = .ok (.iload_n 1, 1) := by decide +kernel
theorem dX6_mixOf_41 : decode cX6_mixOf 41 = .ok (.iaload, 1) := by decide +kernel
theorem dX6_mixOf_42 : decode cX6_mixOf 42 = .ok (.iconst (-1), 1) := by decide +kernel
theorem dX6_mixOf_43 : decode cX6_mixOf 43 = .ok (.if_icmp .eq 12, 3) := by decide +kernel
theorem dX6_mixOf_46 : decode cX6_mixOf 46 = .ok (.aload_n 0, 1) := by decide +kernel
theorem dX6_mixOf_47 : decode cX6_mixOf 47 = .ok (.getfield 68, 3) := by decide +kernel
theorem dX6_mixOf_50 : decode cX6_mixOf 50 = .ok (.iload_n 1, 1) := by decide +kernel
theorem dX6_mixOf_51 : decode cX6_mixOf 51 = .ok (.iaload, 1) := by decide +kernel
theorem dX6_mixOf_52 : decode cX6_mixOf 52 = .ok (.goto 17, 3) := by decide +kernel
theorem dX6_mixOf_55 : decode cX6_mixOf 55 = .ok (.aload_n 0, 1) := by decide +kernel
theorem dX6_mixOf_56 : decode cX6_mixOf 56 = .ok (.getfield 120, 3) := by decide +kernel
theorem dX6_mixOf_59 : decode cX6_mixOf 59 = .ok (.aload_n 0, 1) := by decide +kernel
theorem dX6_mixOf_60 : decode cX6_mixOf 60 = .ok (.getfield 65, 3) := by decide +kernel
theorem dX6_mixOf_63 : decode cX6_mixOf 63 = .ok (.iload_n 1, 1) := by decide +kernel
theorem dX6_mixOf_64 : decode cX6_mixOf 64 = .ok (.iaload, 1) := by decide +kernel
theorem dX6_mixOf_65 : decode cX6_mixOf 65 = .ok (.isub, 1) := by decide +kernel
theorem dX6_mixOf_66 : decode cX6_mixOf 66 = .ok (.invokestatic 164, 3) := by decide +kernel
theorem dX6_mixOf_69 : decode cX6_mixOf 69 = .ok (.ireturn, 1) := by decide +kernel
set_option maxRecDepth 20000 in
theorem ggX6_isMixedAhead_X6_mixOf : GoodIn wsX6_isMixedAhead wsX6_mixOf := goodIn_r _ [5, 6, 7, 8, 9, 10, 11, 12, 13, 4, 14, 15, 16, 17, 18, 19, 20, 21, 22, 23, 24, 25, 26, 27, 28, 29, 30, 31, 32, 33, 34, 35, 36, 37, 38, 39, 40, 41, 42, 43, 44, 45, 46, 47, 48, 49, 50, 51, 52, 53, 54, 55, 56, 57, 58, 59] (by decide +kernel) (by decide +kernel)
set_option maxRecDepth 20000 in
theorem gX6_isMixedAhead_X6_mixOf : GoodIn wsX6_isMixedAhead (wsV RX6 167 RX6 yX6_mixOf wsX6_mixOf) := goodIn_app (goodIn_of _ (by decide +kernel)) ggX6_isMixedAhead_X6_mixOf
theorem dX6_isMixedAhead_0 : decode cX6_isMixedAhead 0 = .ok (.iload_n 2, 1) := by decide +kernel
theorem dX6_isMixedAhead_1 : decode cX6_isMixedAhead 1 = .ok (.aload_n 0, 1) := by decide +kernel
theorem dX6_isMixedAhead_2 : decode cX6_isMixedAhead 2 = .ok (.iload_n 1, 1) := by decide +kernel
theorem dX6_isMixedAhead_3 : decode cX6_isMixedAhead 3 = .ok (.invokevirtual 167, 3) := by decide +kernel
theorem dX6_isMixedAhead_6 : decode cX6_isMixedAhead 6 = .ok (.iconst 1, 1) := by decide +kernel
theorem dX6_isMixedAhead_7 : decode cX6_isMixedAhead 7 = .ok (.iadd, 1) := by decide +kernel
theorem dX6_isMixedAhead_8 : decode cX6_isMixedAhead 8 = .ok (.iconst 2, 1) := by decide +kernel
theorem dX6_isMixedAhead_9 : decode cX6_isMixedAhead 9 = .ok (.idiv, 1) := by decide +kernel
theorem dX6_isMixedAhead_10 : decode cX6_isMixedAhead 10 = .ok (.if_icmp .ge 7, 3) := by decide +kernel
theorem dX6_isMixedAhead_13 : decode cX6_isMixedAhead 13 = .ok (.iconst 1, 1) := by decide +kernel
theorem dX6_isMixedAhead_14 : decode cX6_isMixedAhead 14 = .ok (.goto 4, 3) := by decide +kernel
theorem dX6_isMixedAhead_17 : decode cX6_isMixedAhead 17 = .ok (.iconst 0, 1) := by decide +kernel
theorem dX6_isMixedAhead_18 : decode cX6_isMixedAhead 18 = .ok (.ireturn, 1) := by decide +kernel
set_option maxRecDepth 20000 in
theorem ggX6_isMixedBehind_X6_mixOf : GoodIn wsX6_isMixedBehind wsX6_mixOf := goodIn_r _ [7, 2, 8, 9, 10, 11, 12, 13, 14, 6, 15, 16, 17, 18, 19, 20, 21, 22, 23, 24, 25, 26, 27, 28, 29, 30, 31, 32, 33, 34, 35, 36, 37, 38, 39, 40, 41, 42, 43, 44, 45, 46, 47, 48, 49, 50, 51, 52, 53, 54, 55, 56, 57, 58, 59, 60] (by decide +kernel) (by decide +kernel)
set_option maxRecDepth 20000 in
theorem gX6_isMixedBehind_X6_mixOf : GoodIn wsX6_isMixedBehind (wsV RX6 167 RX6 yX6_mixOf wsX6_mixOf) := goodIn_app (goodIn_of _ (by decide +kernel)) ggX6_isMixedBehind_X6_mixOf
theorem dX6_isMixedBehind_0 : decode cX6_isMixedBehind 0 = .ok (.aload_n 0, 1) := by decide +kernel
theorem dX6_isMixedBehind_1 : decode cX6_isMixedBehind 1 = .ok (.getfield 62, 3) := by decide +kernel
theorem dX6_isMixedBehind_4 : decode cX6_isMixedBehind 4 = .ok (.iload_n 1, 1) := by decide +kernel
theorem dX6_isMixedBehind_5 : decode cX6_isMixedBehind 5 = .ok (.iaload, 1) := by decide +kernel
theorem dX6_isMixedBehind_6 : decode cX6_isMixedBehind 6 = .ok (.istore_n 3, 1) := by decide +kernel
theorem dX6_isMixedBehind_7 : decode cX6_isMixedBehind 7 = .ok (.iload_n 3, 1) := by decide +kernel
theorem dX6_isMixedBehind_8 : decode cX6_isMixedBehind 8 = .ok (.iconst (-1), 1) := by decide +kernel
theorem dX6_isMixedBehind_9 : decode cX6_isMixedBehind 9 = .ok (.if_icmp .eq 37, 3) := by decide +kernel
theorem dX6_isMixedBehind_12 : decode cX6_isMixedBehind 12 = .ok (.aload_n 0, 1) := by decide +kernel
theorem dX6_isMixedBehind_13 : decode cX6_isMixedBehind 13 = .ok (.getfield 47, 3) := by decide +kernel
theorem dX6_isMixedBehind_16 : decode cX6_isMixedBehind 16 = .ok (.iload_n 1, 1) := by decide +kernel
theorem dX6_isMixedBehind_17 : decode cX6_isMixedBehind 17 = .ok (.iaload, 1) := by decide +kernel
theorem dX6_isMixedBehind_18 : decode cX6_isMixedBehind 18 = .ok (.iconst 1, 1) := by decide +kernel
theorem dX6_isMixedBehind_19 : decode cX6_isMixedBehind 19 = .ok (.isub, 1) := by decide +kernel
theorem dX6_isMixedBehind_20 : decode cX6_isMixedBehind 20 = .ok (.iload_n 2, 1) := by decide +kernel
theorem dX6_isMixedBehind_21 : decode cX6_isMixedBehind 21 = .ok (.isub, 1) := by decide +kernel
theorem dX6_isMixedBehind_22 : decode cX6_isMixedBehind 22 = .ok (.aload_n 0, 1) := by decide +kernel
theorem dX6_isMixedBehind_23 : decode cX6_isMixedBehind 23 = .ok (.iload_n 3, 1) := by decide +kernel
theorem dX6_isMixedBehind_24 : decode cX6_isMixedBehind 24 = .ok (.ifCond .ge 7, 3) := by decide +kernel
theorem dX6_isMixedBehind_27 : decode cX6_isMixedBehind 27 = .ok (.iconst 0, 1) := by decide +kernel
theorem dX6_isMixedBehind_28 : decode cX6_isMixedBehind 28 = .ok (.goto 4, 3) := by decide +kernel
theorem dX6_isMixedBehind_31 : decode cX6_isMixedBehind 31 = .ok (.iload_n 3, 1) := by decide +kernel
theorem dX6_isMixedBehind_32 : decode cX6_isMixedBehind 32 = .ok (.invokevirtual 167, 3) := by decide +kernel
theorem dX6_isMixedBehind_35 : decode cX6_isMixedBehind 35 = .ok (.iconst 1, 1) := by decide +kernel
theorem dX6_isMixedBehind_36 : decode cX6_isMixedBehind 36 = .ok (.iadd, 1) := by decide +kernel
theorem dX6_isMixedBehind_37 : decode cX6_isMixedBehind 37 = .ok (.iconst 2, 1) := by decide +kernel
theorem dX6_isMixedBehind_38 : decode cX6_isMixedBehind 38 = .ok (.idiv, 1) := by decide +kernel
theorem dX6_isMixedBehind_39 : decode cX6_isMixedBehind 39 = .ok (.if_icmp .ge 7, 3) := by decide +kernel
theorem dX6_isMixedBehind_42 : decode cX6_isMixedBehind 42 = .ok (.iconst 1, 1) := by decide +kernel
theorem dX6_isMixedBehind_43 : decode cX6_isMixedBehind 43 = .ok (.goto 4, 3) := by decide +kernel
theorem dX6_isMixedBehind_46 : decode cX6_isMixedBehind 46 = .ok (.iconst 0, 1) := by decide +kernel
theorem dX6_isMixedBehind_47 : decode cX6_isMixedBehind 47 = .ok (.ireturn, 1) := by decide +kernel
set_option maxRecDepth 20000 in
theorem ggX6_comesInto_X6_isMixedAhead : GoodIn wsX6_comesInto wsX6_isMixedAhead := goodIn_r _ [13, 14, 15, 16, 12, 17, 18, 4, 5, 19, 20, 21, 22, 23, 24, 29, 30, 31, 32, 33, 34, 35, 36, 37, 38, 39, 40, 41, 42, 43, 44, 45, 46, 47, 48, 49, 50, 51, 52, 53, 54, 55, 56, 57, 58, 59, 60, 61, 62, 63, 64, 65, 66, 67, 68, 69, 70, 71, 72, 73] (by decide +kernel) (by decide +kernel)
set_option maxRecDepth 20000 in
theorem gX6_comesInto_X6_isMixedAhead : GoodIn wsX6_comesInto (wsV RX6 173 RX6 yX6_isMixedAhead wsX6_isMixedAhead) := goodIn_app (goodIn_of _ (by decide +kernel)) ggX6_comesInto_X6_isMixedAhead
set_option maxRecDepth 20000 in
theorem ggX6_comesInto_X6_isMixedBehind : GoodIn wsX6_comesInto wsX6_isMixedBehind := goodIn_r _ [28, 6, 18, 14, 15, 16, 12, 17, 4, 5, 19, 20, 21, 22, 23, 24, 29, 30, 31, 32, 33, 34, 35, 36, 37, 38, 39, 40, 41, 42, 43, 44, 45, 46, 47, 48, 49, 50, 51, 52, 53, 54, 55, 56, 57, 58, 59, 60, 61, 62, 63, 64, 65, 66, 67, 68, 69, 70, 71, 72, 73] (by decide +kernel) (by decide +kernel)
set_option maxRecDepth 20000 in
theorem gX6_comesInto_X6_isMixedBehind : GoodIn wsX6_comesInto (wsV RX6 177 RX6 yX6_isMixedBehind wsX6_isMixedBehind) := goodIn_app (goodIn_of _ (by decide +kernel)) ggX6_comesInto_X6_isMixedBehind
theorem dX6_comesInto_0 : decode cX6_comesInto 0 = .ok (.aload_n 0, 1) := by decide +kernel
theorem dX6_comesInto_1 : decode cX6_comesInto 1 = .ok (.getfield 83, 3) := by decide +kernel
theorem dX6_comesInto_4 : decode cX6_comesInto 4 = .ok (.iload_n 1, 1) := by decide +kernel
theorem dX6_comesInto_5 : decode cX6_comesInto 5 = .ok (.iaload, 1) := by decide +kernel
theorem dX6_comesInto_6 : decode cX6_comesInto 6 = .ok (.bipush 100, 2) := by decide +kernel
theorem dX6_comesInto_8 : decode cX6_comesInto 8 = .ok (.if_icmp .ne 14, 3) := by decide +kernel
theorem dX6_comesInto_11 : decode cX6_comesInto 11 = .ok (.aload_n 0, 1) := by decide +kernel
theorem dX6_comesInto_12 : decode cX6_comesInto 12 = .ok (.dup, 1) := by decide +kernel
theorem dX6_comesInto_13 : decode cX6_comesInto 13 = .ok (.getfield 170, 3) := by decide +kernel
theorem dX6_comesInto_16 : decode cX6_comesInto 16 = .ok (.iconst 1, 1) := by decide +kernel
theorem dX6_comesInto_17 : decode cX6_comesInto 17 = .ok (.iadd, 1) := by decide +kernel
theorem dX6_comesInto_18 : decode cX6_comesInto 18 = .ok (.putfield 170, 3) := by decide +kernel
theorem dX6_comesInto_21 : decode cX6_comesInto 21 = .ok (.return_, 1) := by decide +kernel
theorem dX6_comesInto_22 : decode cX6_comesInto 22 = .ok (.aload_n 0, 1) := by decide +kernel
theorem dX6_comesInto_23 : decode cX6_comesInto 23 = .ok (.getfield 28, 3) := by decide +kernel
theorem dX6_comesInto_26 : decode cX6_comesInto 26 = .ok (.aload_n 0, 1) := by decide +kernel
theorem dX6_comesInto_27 : decode cX6_comesInto 27 = .ok (.getfield 41, 3) := by decide +kernel
theorem dX6_comesInto_30 : decode cX6_comesInto 30 = .ok (.iload_n 2, 1) := by decide +kernel
theorem dX6_comesInto_31 : decode cX6_comesInto 31 = .ok (.iaload, 1) := by decide +kernel
theorem dX6_comesInto_32 : decode cX6_comesInto 32 = .ok (.iaload, 1) := by decide +kernel
theorem dX6_comesInto_33 : decode cX6_comesInto 33 = .ok (.istore 4, 2) := by decide +kernel
theorem dX6_comesInto_35 : decode cX6_comesInto 35 = .ok (.aload_n 0, 1) := by decide +kernel
theorem dX6_comesInto_36 : decode cX6_comesInto 36 = .ok (.iload_n 2, 1) := by decide +kernel
theorem dX6_comesInto_37 : decode cX6_comesInto 37 = .ok (.iload_n 3, 1) := by decide +kernel
theorem dX6_comesInto_38 : decode cX6_comesInto 38 = .ok (.invokevirtual 173, 3) := by decide +kernel
theorem dX6_comesInto_41 : decode cX6_comesInto 41 = .ok (.istore 5, 2) := by decide +kernel
theorem dX6_comesInto_43 : decode cX6_comesInto 43 = .ok (.aload_n 0, 1) := by decide +kernel
theorem dX6_comesInto_44 : decode cX6_comesInto 44 = .ok (.iload_n 2, 1) := by decide +kernel
theorem dX6_comesInto_45 : decode cX6_comesInto 45 = .ok (.iload_n 3, 1) := by decide +kernel
theorem dX6_comesInto_46 : decode cX6_comesInto 46 = .ok (.invokevirtual 177, 3) := by decide +kernel
theorem dX6_comesInto_49 : decode cX6_comesInto 49 = .ok (.istore 6, 2) := by decide +kernel
theorem dX6_comesInto_51 : decode cX6_comesInto 51 = .ok (.iload 5, 2) := by decide +kernel
theorem dX6_comesInto_53 : decode cX6_comesInto 53 = .ok (.ifCond .eq 42, 3) := by decide +kernel
theorem dX6_comesInto_56 : decode cX6_comesInto 56 = .ok (.aload_n 0, 1) := by decide +kernel
theorem dX6_comesInto_57 : decode cX6_comesInto 57 = .ok (.getfield 28, 3) := by decide +kernel
theorem dX6_comesInto_60 : decode cX6_comesInto 60 = .ok (.aload_n 0, 1) := by decide +kernel
theorem dX6_comesInto_61 : decode cX6_comesInto 61 = .ok (.getfield 41, 3) := by decide +kernel
theorem dX6_comesInto_64 : decode cX6_comesInto 64 = .ok (.aload_n 0, 1) := by decide +kernel
theorem dX6_comesInto_65 : decode cX6_comesInto 65 = .ok (.getfield 59, 3) := by decide +kernel
theorem dX6_comesInto_68 : decode cX6_comesInto 68 = .ok (.iload_n 2, 1) := by decide +kernel
theorem dX6_comesInto_69 : decode cX6_comesInto 69 = .ok (.iaload, 1) := by decide +kernel
theorem dX6_comesInto_70 : decode cX6_comesInto 70 = .ok (.iaload, 1) := by decide +kernel
theorem dX6_comesInto_71 : decode cX6_comesInto 71 = .ok (.iaload, 1) := by decide +kernel
theorem dX6_comesInto_72 : decode cX6_comesInto 72 = .ok (.iload 4, 2) := by decide +kernel
theorem dX6_comesInto_74 : decode cX6_comesInto 74 = .ok (.if_icmp .le 21, 3) := by decide +kernel
theorem dX6_comesInto_77 : decode cX6_comesInto 77 = .ok (.aload_n 0, 1) := by decide +kernel
theorem dX6_comesInto_78 : decode cX6_comesInto 78 = .ok (.getfield 28, 3) := by decide +kernel
theorem dX6_comesInto_81 : decode cX6_comesInto 81 = .ok (.aload_n 0, 1) := by decide +kernel
theorem dX6_comesInto_82 : decode cX6_comesInto 82 = .ok (.getfield 41, 3) := by decide +kernel
theorem dX6_comesInto_85 : decode cX6_comesInto 85 = .ok (.aload_n 0, 1) := by decide +kernel
theorem dX6_comesInto_86 : decode cX6_comesInto 86 = .ok (.getfield 59, 3) := by decide +kernel
theorem dX6_comesInto_89 : decode cX6_comesInto 89 = .ok (.iload_n 2, 1) := by decide +kernel
theorem dX6_comesInto_90 : decode cX6_comesInto 90 = .ok (.iaload, 1) := by decide +kernel
theorem dX6_comesInto_91 : decode cX6_comesInto 91 = .ok (.iaload, 1) := by decide +kernel
theorem dX6_comesInto_92 : decode cX6_comesInto 92 = .ok (.iaload, 1) := by decide +kernel
theorem dX6_comesInto_93 : decode cX6_comesInto 93 = .ok (.istore 4, 2) := by decide +kernel
theorem dX6_comesInto_95 : decode cX6_comesInto 95 = .ok (.iload 6, 2) := by decide +kernel
theorem dX6_comesInto_97 : decode cX6_comesInto 97 = .ok (.ifCond .eq 42, 3) := by decide +kernel
theorem dX6_comesInto_100 : decode cX6_comesInto 100 = .ok (.aload_n 0, 1) := by decide +kernel
theorem dX6_comesInto_101 : decode cX6_comesInto 101 = .ok (.getfield 28, 3) := by decide +kernel
theorem dX6_comesInto_104 : decode cX6_comesInto 104 = .ok (.aload_n 0, 1) := by decide +kernel
theorem dX6_comesInto_105 : decode cX6_comesInto 105 = .ok (.getfield 41, 3) := by decide +kernel
theorem dX6_comesInto_108 : decode cX6_comesInto 108 = .ok (.aload_n 0, 1) := by decide +kernel
theorem dX6_comesInto_109 : decode cX6_comesInto 109 = .ok (.getfield 62, 3) := by decide +kernel
theorem dX6_comesInto_112 : decode cX6_comesInto 112 = .ok (.iload_n 2, 1) := by decide +kernel
theorem dX6_comesInto_113 : decode cX6_comesInto 113 = .ok (.iaload, 1) := by decide +kernel
theorem dX6_comesInto_114 : decode cX6_comesInto 114 = .ok (.iaload, 1) := by decide +kernel
theorem dX6_comesInto_115 : decode cX6_comesInto 115 = .ok (.iaload, 1) := by decide +kernel
theorem dX6_comesInto_116 : decode cX6_comesInto 116 = .ok (.iload 4, 2) := by decide +kernel
theorem dX6_comesInto_118 : decode cX6_comesInto 118 = .ok (.if_icmp .le 21, 3) := by decide +kernel
theorem dX6_comesInto_121 : decode cX6_comesInto 121 = .ok (.aload_n 0, 1) := by decide +kernel
theorem dX6_comesInto_122 : decode cX6_comesInto 122 = .ok (.getfield 28, 3) := by decide +kernel
theorem dX6_comesInto_125 : decode cX6_comesInto 125 = .ok (.aload_n 0, 1) := by decide +kernel
theorem dX6_comesInto_126 : decode cX6_comesInto 126 = .ok (.getfield 41, 3) := by decide +kernel
theorem dX6_comesInto_129 : decode cX6_comesInto 129 = .ok (.aload_n 0, 1) := by decide +kernel
theorem dX6_comesInto_130 : decode cX6_comesInto 130 = .ok (.getfield 62, 3) := by decide +kernel
theorem dX6_comesInto_133 : decode cX6_comesInto 133 = .ok (.iload_n 2, 1) := by decide +kernel
theorem dX6_comesInto_134 : decode cX6_comesInto 134 = .ok (.iaload, 1) := by decide +kernel
theorem dX6_comesInto_135 : decode cX6_comesInto 135 = .ok (.iaload, 1) := by decide +kernel
theorem dX6_comesInto_136 : decode cX6_comesInto 136 = .ok (.iaload, 1) := by decide +kernel
theorem dX6_comesInto_137 : decode cX6_comesInto 137 = .ok (.istore 4, 2) := by decide +kernel
theorem dX6_comesInto_139 : decode cX6_comesInto 139 = .ok (.aload_n 0, 1) := by decide +kernel
theorem dX6_comesInto_140 : decode cX6_comesInto 140 = .ok (.getfield 86, 3) := by decide +kernel
theorem dX6_comesInto_143 : decode cX6_comesInto 143 = .ok (.iload_n 1, 1) := by decide +kernel
theorem dX6_comesInto_144 : decode cX6_comesInto 144 = .ok (.aload_n 0, 1) := by decide +kernel
theorem dX6_comesInto_145 : decode cX6_comesInto 145 = .ok (.getfield 83, 3) := by decide +kernel
theorem dX6_comesInto_148 : decode cX6_comesInto 148 = .ok (.iload_n 1, 1) := by decide +kernel
theorem dX6_comesInto_149 : decode cX6_comesInto 149 = .ok (.iaload, 1) := by decide +kernel
theorem dX6_comesInto_150 : decode cX6_comesInto 150 = .ok (.ifCond .eq 14, 3) := by decide +kernel
theorem dX6_comesInto_153 : decode cX6_comesInto 153 = .ok (.iload 4, 2) := by decide +kernel
theorem dX6_comesInto_155 : decode cX6_comesInto 155 = .ok (.aload_n 0, 1) := by decide +kernel
theorem dX6_comesInto_156 : decode cX6_comesInto 156 = .ok (.getfield 86, 3) := by decide +kernel
theorem dX6_comesInto_159 : decode cX6_comesInto 159 = .ok (.iload_n 1, 1) := by decide +kernel
theorem dX6_comesInto_160 : decode cX6_comesInto 160 = .ok (.iaload, 1) := by decide +kernel
theorem dX6_comesInto_161 : decode cX6_comesInto 161 = .ok (.if_icmp .le 8, 3) := by decide +kernel
theorem dX6_comesInto_164 : decode cX6_comesInto 164 = .ok (.iload 4, 2) := by decide +kernel
theorem dX6_comesInto_166 : decode cX6_comesInto 166 = .ok (.goto 9, 3) := by decide +kernel
theorem dX6_comesInto_169 : decode cX6_comesInto 169 = .ok (.aload_n 0, 1) := by decide +kernel
theorem dX6_comesInto_170 : decode cX6_comesInto 170 = .ok (.getfield 86, 3) := by decide +kernel
theorem dX6_comesInto_173 : decode cX6_comesInto 173 = .ok (.iload_n 1, 1) := by decide +kernel
theorem dX6_comesInto_174 : decode cX6_comesInto 174 = .ok (.iaload, 1) := by decide +kernel
theorem dX6_comesInto_175 : decode cX6_comesInto 175 = .ok (.iastore, 1) := by decide +kernel
theorem dX6_comesInto_176 : decode cX6_comesInto 176 = .ok (.aload_n 0, 1) := by decide +kernel
theorem dX6_comesInto_177 : decode cX6_comesInto 177 = .ok (.getfield 83, 3) := by decide +kernel
theorem dX6_comesInto_180 : decode cX6_comesInto 180 = .ok (.iload_n 1, 1) := by decide +kernel
theorem dX6_comesInto_181 : decode cX6_comesInto 181 = .ok (.dup2, 1) := by decide +kernel
theorem dX6_comesInto_182 : decode cX6_comesInto 182 = .ok (.iaload, 1) := by decide +kernel
theorem dX6_comesInto_183 : decode cX6_comesInto 183 = .ok (.iconst 1, 1) := by decide +kernel
theorem dX6_comesInto_184 : decode cX6_comesInto 184 = .ok (.iadd, 1) := by decide +kernel
theorem dX6_comesInto_185 : decode cX6_comesInto 185 = .ok (.iastore, 1) := by decide +kernel
theorem dX6_comesInto_186 : decode cX6_comesInto 186 = .ok (.aload_n 0, 1) := by decide +kernel
theorem dX6_comesInto_187 : decode cX6_comesInto 187 = .ok (.getfield 89, 3) := by decide +kernel
theorem dX6_comesInto_190 : decode cX6_comesInto 190 = .ok (.iload_n 1, 1) := by decide +kernel
theorem dX6_comesInto_191 : decode cX6_comesInto 191 = .ok (.dup2, 1) := by decide +kernel
theorem dX6_comesInto_192 : decode cX6_comesInto 192 = .ok (.iaload, 1) := by decide +kernel
theorem dX6_comesInto_193 : decode cX6_comesInto 193 = .ok (.iload 5, 2) := by decide +kernel
theorem dX6_comesInto_195 : decode cX6_comesInto 195 = .ok (.ifCond .ne 8, 3) := by decide +kernel
theorem dX6_comesInto_198 : decode cX6_comesInto 198 = .ok (.iload 6, 2) := by decide +kernel
theorem dX6_comesInto_200 : decode cX6_comesInto 200 = .ok (.ifCond .eq 7, 3) := by decide +kernel
theorem dX6_comesInto_203 : decode cX6_comesInto 203 = .ok (.iconst 1, 1) := by decide +kernel
theorem dX6_comesInto_204 : decode cX6_comesInto 204 = .ok (.goto 4, 3) := by decide +kernel
theorem dX6_comesInto_207 : decode cX6_comesInto 207 = .ok (.iconst 0, 1) := by decide +kernel
theorem dX6_comesInto_208 : decode cX6_comesInto 208 = .ok (.iadd, 1) := by decide +kernel
theorem dX6_comesInto_209 : decode cX6_comesInto 209 = .ok (.iastore, 1) := by decide +kernel
theorem dX6_comesInto_210 : decode cX6_comesInto 210 = .ok (.return_, 1) := by decide +kernel
theorem dX6_isIn_0 : decode cX6_isIn 0 = .ok (.iload_n 1, 1) := by decide +kernel
theorem dX6_isIn_1 : decode cX6_isIn 1 = .ok (.iload_n 0, 1) := by decide +kernel
theorem dX6_isIn_2 : decode cX6_isIn 2 = .ok (.ishr, 1) := by decide +kernel
theorem dX6_isIn_3 : decode cX6_isIn 3 = .ok (.iconst 1, 1) := by decide +kernel
theorem dX6_isIn_4 : decode cX6_isIn 4 = .ok (.iand, 1) := by decide +kernel
theorem dX6_isIn_5 : decode cX6_isIn 5 = .ok (.iconst 1, 1) := by decide +kernel
theorem dX6_isIn_6 : decode cX6_isIn 6 = .ok (.if_icmp .ne 7, 3) := by decide +kernel
theorem dX6_isIn_9 : decode cX6_isIn 9 = .ok (.iconst 1, 1) := by decide +kernel
theorem dX6_isIn_10 : decode cX6_isIn 10 = .ok (.goto 4, 3) := by decide +kernel
theorem dX6_isIn_13 : decode cX6_isIn 13 = .ok (.iconst 0, 1) := by decide +kernel
theorem dX6_isIn_14 : decode cX6_isIn 14 = .ok (.ireturn, 1) := by decide +kernel
set_option maxRecDepth 20000 in
theorem ggX6_entering_X6_isIn : GoodIn wsX6_entering wsX6_isIn := goodIn_r _ [11] (by decide +kernel) (by decide +kernel)
set_option maxRecDepth 20000 in
theorem gX6_entering_X6_isIn : GoodIn wsX6_entering (va_wsS RX6 180 yX6_isIn wsX6_isIn) := goodIn_app (goodIn_of _ (by decide +kernel)) ggX6_entering_X6_isIn
theorem dX6_entering_0 : decode cX6_entering 0 = .ok (.iconst 1, 1) := by decide +kernel
theorem dX6_entering_1 : decode cX6_entering 1 = .ok (.istore_n 1, 1) := by decide +kernel
theorem dX6_entering_2 : decode cX6_entering 2 = .ok (.iload_n 1, 1) := by decide +kernel
theorem dX6_entering_3 : decode cX6_entering 3 = .ok (.aload_n 0, 1) := by decide +kernel
theorem dX6_entering_4 : decode cX6_entering 4 = .ok (.getfield 34, 3) := by decide +kernel
theorem dX6_entering_7 : decode cX6_entering 7 = .ok (.if_icmp .ge 35, 3) := by decide +kernel
theorem dX6_entering_10 : decode cX6_entering 10 = .ok (.aload_n 0, 1) := by decide +kernel
theorem dX6_entering_11 : decode cX6_entering 11 = .ok (.getfield 47, 3) := by decide +kernel
theorem dX6_entering_14 : decode cX6_entering 14 = .ok (.iload_n 1, 1) := by decide +kernel
theorem dX6_entering_15 : decode cX6_entering 15 = .ok (.iaload, 1) := by decide +kernel
theorem dX6_entering_16 : decode cX6_entering 16 = .ok (.ifCond .le 20, 3) := by decide +kernel
theorem dX6_entering_19 : decode cX6_entering 19 = .ok (.aload_n 0, 1) := by decide +kernel
theorem dX6_entering_20 : decode cX6_entering 20 = .ok (.getfield 47, 3) := by decide +kernel
theorem dX6_entering_23 : decode cX6_entering 23 = .ok (.iload_n 1, 1) := by decide +kernel
theorem dX6_entering_24 : decode cX6_entering 24 = .ok (.iaload, 1) := by decide +kernel
theorem dX6_entering_25 : decode cX6_entering 25 = .ok (.aload_n 0, 1) := by decide +kernel
theorem dX6_entering_26 : decode cX6_entering 26 = .ok (.getfield 44, 3) := by decide +kernel
theorem dX6_entering_29 : decode cX6_entering 29 = .ok (.iload_n 1, 1) := by decide +kernel
theorem dX6_entering_30 : decode cX6_entering 30 = .ok (.iaload, 1) := by decide +kernel
theorem dX6_entering_31 : decode cX6_entering 31 = .ok (.if_icmp .ge 5, 3) := by decide +kernel
theorem dX6_entering_34 : decode cX6_entering 34 = .ok (.iload_n 1, 1) := by decide +kernel
theorem dX6_entering_35 : decode cX6_entering 35 = .ok (.ireturn, 1) := by decide +kernel
theorem dX6_entering_36 : decode cX6_entering 36 = .ok (.iinc 1 1, 3) := by decide +kernel
theorem dX6_entering_39 : decode cX6_entering 39 = .ok (.goto (-37), 3) := by decide +kernel
theorem dX6_entering_42 : decode cX6_entering 42 = .ok (.aload_n 0, 1) := by decide +kernel
theorem dX6_entering_43 : decode cX6_entering 43 = .ok (.getfield 41, 3) := by decide +kernel
theorem dX6_entering_46 : decode cX6_entering 46 = .ok (.aload_n 0, 1) := by decide +kernel
theorem dX6_entering_47 : decode cX6_entering 47 = .ok (.getfield 71, 3) := by decide +kernel
theorem dX6_entering_50 : decode cX6_entering 50 = .ok (.aload_n 0, 1) := by decide +kernel
theorem dX6_entering_51 : decode cX6_entering 51 = .ok (.getfield 117, 3) := by decide +kernel
theorem dX6_entering_54 : decode cX6_entering 54 = .ok (.iconst 1, 1) := by decide +kernel
theorem dX6_entering_55 : decode cX6_entering 55 = .ok (.isub, 1) := by decide +kernel
theorem dX6_entering_56 : decode cX6_entering 56 = .ok (.iaload, 1) := by decide +kernel
theorem dX6_entering_57 : decode cX6_entering 57 = .ok (.iaload, 1) := by decide +kernel
theorem dX6_entering_58 : decode cX6_entering 58 = .ok (.istore_n 1, 1) := by decide +kernel
theorem dX6_entering_59 : decode cX6_entering 59 = .ok (.iconst 1, 1) := by decide +kernel
theorem dX6_entering_60 : decode cX6_entering 60 = .ok (.istore_n 2, 1) := by decide +kernel
theorem dX6_entering_61 : decode cX6_entering 61 = .ok (.iload_n 2, 1) := by decide +kernel
theorem dX6_entering_62 : decode cX6_entering 62 = .ok (.aload_n 0, 1) := by decide +kernel
theorem dX6_entering_63 : decode cX6_entering 63 = .ok (.getfield 34, 3) := by decide +kernel
theorem dX6_entering_66 : decode cX6_entering 66 = .ok (.if_icmp .ge 56, 3) := by decide +kernel
theorem dX6_entering_69 : decode cX6_entering 69 = .ok (.aload_n 0, 1) := by decide +kernel
theorem dX6_entering_70 : decode cX6_entering 70 = .ok (.getfield 47, 3) := by decide +kernel
theorem dX6_entering_73 : decode cX6_entering 73 = .ok (.iload_n 2, 1) := by decide +kernel
theorem dX6_entering_74 : decode cX6_entering 74 = .ok (.iaload, 1) := by decide +kernel
theorem dX6_entering_75 : decode cX6_entering 75 = .ok (.ifCond .ne 41, 3) := by decide +kernel
theorem dX6_entering_78 : decode cX6_entering 78 = .ok (.aload_n 0, 1) := by decide +kernel
theorem dX6_entering_79 : decode cX6_entering 79 = .ok (.getfield 41, 3) := by decide +kernel
theorem dX6_entering_82 : decode cX6_entering 82 = .ok (.iload_n 2, 1) := by decide +kernel
theorem dX6_entering_83 : decode cX6_entering 83 = .ok (.iaload, 1) := by decide +kernel
theorem dX6_entering_84 : decode cX6_entering 84 = .ok (.aload_n 0, 1) := by decide +kernel
theorem dX6_entering_85 : decode cX6_entering 85 = .ok (.getfield 31, 3) := by decide +kernel
theorem dX6_entering_88 : decode cX6_entering 88 = .ok (.iload_n 1, 1) := by decide +kernel
theorem dX6_entering_89 : decode cX6_entering 89 = .ok (.iaload, 1) := by decide +kernel
theorem dX6_entering_90 : decode cX6_entering 90 = .ok (.invokestatic 180, 3) := by decide +kernel
theorem dX6_entering_93 : decode cX6_entering 93 = .ok (.ifCond .ne 23, 3) := by decide +kernel
theorem dX6_entering_96 : decode cX6_entering 96 = .ok (.iload_n 1, 1) := by decide +kernel
theorem dX6_entering_97 : decode cX6_entering 97 = .ok (.aload_n 0, 1) := by decide +kernel
theorem dX6_entering_98 : decode cX6_entering 98 = .ok (.getfield 31, 3) := by decide +kernel
theorem dX6_entering_101 : decode cX6_entering 101 = .ok (.aload_n 0, 1) := by decide +kernel
theorem dX6_entering_102 : decode cX6_entering 102 = .ok (.getfield 41, 3) := by decide +kernel
theorem dX6_entering_105 : decode cX6_entering 105 = .ok (.iload_n 2, 1) := by decide +kernel
theorem dX6_entering_106 : decode cX6_entering 106 = .ok (.iaload, 1) := by decide +kernel
theorem dX6_entering_107 : decode cX6_entering 107 = .ok (.iaload, 1) := by decide +kernel
theorem dX6_entering_108 : decode cX6_entering 108 = .ok (.invokestatic 180, 3) := by decide +kernel
theorem dX6_entering_111 : decode cX6_entering 111 = .ok (.ifCond .ne 5, 3) := by decide +kernel
theorem dX6_entering_114 : decode cX6_entering 114 = .ok (.iload_n 2, 1) := by decide +kernel
theorem dX6_entering_115 : decode cX6_entering 115 = .ok (.ireturn, 1) := by decide +kernel
theorem dX6_entering_116 : decode cX6_entering 116 = .ok (.iinc 2 1, 3) := by decide +kernel
theorem dX6_entering_119 : decode cX6_entering 119 = .ok (.goto (-58), 3) := by decide +kernel
theorem dX6_entering_122 : decode cX6_entering 122 = .ok (.iconst (-1), 1) := by decide +kernel
theorem dX6_entering_123 : decode cX6_entering 123 = .ok (.ireturn, 1) := by decide +kernel
theorem dX6_clean_0 : decode cX6_clean 0 = .ok (.iconst 0, 1) := by decide +kernel
theorem dX6_clean_1 : decode cX6_clean 1 = .ok (.istore_n 2, 1) := by decide +kernel
theorem dX6_clean_2 : decode cX6_clean 2 = .ok (.iload_n 2, 1) := by decide +kernel
theorem dX6_clean_3 : decode cX6_clean 3 = .ok (.iload_n 1, 1) := by decide +kernel
theorem dX6_clean_4 : decode cX6_clean 4 = .ok (.if_icmp .gt 16, 3) := by decide +kernel
theorem dX6_clean_7 : decode cX6_clean 7 = .ok (.aload_n 0, 1) := by decide +kernel
theorem dX6_clean_8 : decode cX6_clean 8 = .ok (.getfield 19, 3) := by decide +kernel
theorem dX6_clean_11 : decode cX6_clean 11 = .ok (.iload_n 2, 1) := by decide +kernel
theorem dX6_clean_12 : decode cX6_clean 12 = .ok (.iconst 0, 1) := by decide +kernel
theorem dX6_clean_13 : decode cX6_clean 13 = .ok (.iastore, 1) := by decide +kernel
theorem dX6_clean_14 : decode cX6_clean 14 = .ok (.iinc 2 1, 3) := by decide +kernel
theorem dX6_clean_17 : decode cX6_clean 17 = .ok (.goto (-15), 3) := by decide +kernel
theorem dX6_clean_20 : decode cX6_clean 20 = .ok (.aload_n 0, 1) := by decide +kernel
theorem dX6_clean_21 : decode cX6_clean 21 = .ok (.iconst 0, 1) := by decide +kernel
theorem dX6_clean_22 : decode cX6_clean 22 = .ok (.putfield 147, 3) := by decide +kernel
theorem dX6_clean_25 : decode cX6_clean 25 = .ok (.return_, 1) := by decide +kernel
set_option maxRecDepth 20000 in
theorem ggX6_goesAway_X6_clean : GoodIn wsX6_goesAway wsX6_clean := goodIn_r _ [18, 19, 1, 48, 49, 50, 51, 52, 53, 54, 55, 56, 57, 58, 59, 60, 61, 62, 63, 64, 65, 66, 67, 68, 69, 70, 71, 72, 73, 74, 75, 76, 77, 78, 79, 80, 81, 82, 83, 84, 85, 86, 87, 88, 89, 90, 91, 92] (by decide +kernel) (by decide +kernel)
set_option maxRecDepth 20000 in
theorem gX6_goesAway_X6_clean : GoodIn wsX6_goesAway (wsV RX6 183 RX6 yX6_clean wsX6_clean) := goodIn_app (goodIn_of _ (by decide +kernel)) ggX6_goesAway_X6_clean
set_option maxRecDepth 20000 in
theorem ggX6_goesAway_X6_comesInto : GoodIn wsX6_goesAway wsX6_comesInto := goodIn_r _ [23, 24, 25, 26, 27, 28, 29, 30, 31, 32, 33, 34, 17, 35, 36, 37, 38, 39, 40, 11, 12, 13, 41, 42, 43, 44, 45, 46, 47, 48, 49, 50, 51, 52, 53, 54, 55, 56, 57, 58, 59, 60, 61, 62, 63, 64, 65, 66, 67, 68, 69, 70, 71, 72, 73, 74, 75, 76, 77, 78, 79, 80, 81, 82, 83, 84, 85, 86, 87, 88, 89, 90, 91, 92] (by decide +kernel) (by decide +kernel)
set_option maxRecDepth 20000 in
theorem gX6_goesAway_X6_comesInto : GoodIn wsX6_goesAway (wsV RX6 187 RX6 yX6_comesInto wsX6_comesInto) := goodIn_app (goodIn_of _ (by decide +kernel)) ggX6_goesAway_X6_comesInto
set_option maxRecDepth 20000 in
theorem ggX6_goesAway_X6_root : GoodIn wsX6_goesAway wsX6_root := goodIn_r _ [43] (by decide +kernel) (by decide +kernel)
set_option maxRecDepth 20000 in
theorem gX6_goesAway_X6_root : GoodIn wsX6_goesAway (va_wsS RX6 164 yX6_root wsX6_root) := goodIn_app (goodIn_of _ (by decide +kernel)) ggX6_goesAway_X6_root
theorem dX6_goesAway_0 : decode cX6_goesAway 0 = .ok (.aload_n 0, 1) := by decide +kernel
theorem dX6_goesAway_1 : decode cX6_goesAway 1 = .ok (.getfield 147, 3) := by decide +kernel
theorem dX6_goesAway_4 : decode cX6_goesAway 4 = .ok (.ifCond .eq 24, 3) := by decide +kernel
theorem dX6_goesAway_7 : decode cX6_goesAway 7 = .ok (.iload_n 1, 1) := by decide +kernel
theorem dX6_goesAway_8 : decode cX6_goesAway 8 = .ok (.aload_n 0, 1) := by decide +kernel
theorem dX6_goesAway_9 : decode cX6_goesAway 9 = .ok (.getfield 150, 3) := by decide +kernel
theorem dX6_goesAway_12 : decode cX6_goesAway 12 = .ok (.if_icmp .ne 16, 3) := by decide +kernel
theorem dX6_goesAway_15 : decode cX6_goesAway 15 = .ok (.iload_n 2, 1) := by decide +kernel
theorem dX6_goesAway_16 : decode cX6_goesAway 16 = .ok (.aload_n 0, 1) := by decide +kernel
theorem dX6_goesAway_17 : decode cX6_goesAway 17 = .ok (.getfield 153, 3) := by decide +kernel
theorem dX6_goesAway_20 : decode cX6_goesAway 20 = .ok (.if_icmp .ne 8, 3) := by decide +kernel
theorem dX6_goesAway_23 : decode cX6_goesAway 23 = .ok (.aload_n 0, 1) := by decide +kernel
theorem dX6_goesAway_24 : decode cX6_goesAway 24 = .ok (.iload_n 3, 1) := by decide +kernel
theorem dX6_goesAway_25 : decode cX6_goesAway 25 = .ok (.invokevirtual 183, 3) := by decide +kernel
theorem dX6_goesAway_28 : decode cX6_goesAway 28 = .ok (.iload_n 3, 1) := by decide +kernel
theorem dX6_goesAway_29 : decode cX6_goesAway 29 = .ok (.aload_n 0, 1) := by decide +kernel
theorem dX6_goesAway_30 : decode cX6_goesAway 30 = .ok (.getfield 102, 3) := by decide +kernel
theorem dX6_goesAway_33 : decode cX6_goesAway 33 = .ok (.iconst 1, 1) := by decide +kernel
theorem dX6_goesAway_34 : decode cX6_goesAway 34 = .ok (.isub, 1) := by decide +kernel
theorem dX6_goesAway_35 : decode cX6_goesAway 35 = .ok (.if_icmp .ne 26, 3) := by decide +kernel
theorem dX6_goesAway_38 : decode cX6_goesAway 38 = .ok (.aload_n 0, 1) := by decide +kernel
theorem dX6_goesAway_39 : decode cX6_goesAway 39 = .ok (.getfield 50, 3) := by decide +kernel
theorem dX6_goesAway_42 : decode cX6_goesAway 42 = .ok (.iload_n 1, 1) := by decide +kernel
theorem dX6_goesAway_43 : decode cX6_goesAway 43 = .ok (.dup2, 1) := by decide +kernel
theorem dX6_goesAway_44 : decode cX6_goesAway 44 = .ok (.iaload, 1) := by decide +kernel
theorem dX6_goesAway_45 : decode cX6_goesAway 45 = .ok (.iconst 1, 1) := by decide +kernel
theorem dX6_goesAway_46 : decode cX6_goesAway 46 = .ok (.iadd, 1) := by decide +kernel
theorem dX6_goesAway_47 : decode cX6_goesAway 47 = .ok (.iastore, 1) := by decide +kernel
theorem dX6_goesAway_48 : decode cX6_goesAway 48 = .ok (.aload_n 0, 1) := by decide +kernel
theorem dX6_goesAway_49 : decode cX6_goesAway 49 = .ok (.aload_n 0, 1) := by decide +kernel
theorem dX6_goesAway_50 : decode cX6_goesAway 50 = .ok (.getfield 144, 3) := by decide +kernel
theorem dX6_goesAway_53 : decode cX6_goesAway 53 = .ok (.iload_n 1, 1) := by decide +kernel
theorem dX6_goesAway_54 : decode cX6_goesAway 54 = .ok (.iload_n 2, 1) := by decide +kernel
theorem dX6_goesAway_55 : decode cX6_goesAway 55 = .ok (.invokevirtual 187, 3) := by decide +kernel
theorem dX6_goesAway_58 : decode cX6_goesAway 58 = .ok (.goto 43, 3) := by decide +kernel
theorem dX6_goesAway_61 : decode cX6_goesAway 61 = .ok (.aload_n 0, 1) := by decide +kernel
theorem dX6_goesAway_62 : decode cX6_goesAway 62 = .ok (.getfield 191, 3) := by decide +kernel
theorem dX6_goesAway_65 : decode cX6_goesAway 65 = .ok (.ifCond .eq 16, 3) := by decide +kernel
theorem dX6_goesAway_68 : decode cX6_goesAway 68 = .ok (.aload_n 0, 1) := by decide +kernel
theorem dX6_goesAway_69 : decode cX6_goesAway 69 = .ok (.getfield 56, 3) := by decide +kernel
theorem dX6_goesAway_72 : decode cX6_goesAway 72 = .ok (.iload_n 1, 1) := by decide +kernel
theorem dX6_goesAway_73 : decode cX6_goesAway 73 = .ok (.dup2, 1) := by decide +kernel
theorem dX6_goesAway_74 : decode cX6_goesAway 74 = .ok (.iaload, 1) := by decide +kernel
theorem dX6_goesAway_75 : decode cX6_goesAway 75 = .ok (.iconst 1, 1) := by decide +kernel
theorem dX6_goesAway_76 : decode cX6_goesAway 76 = .ok (.iadd, 1) := by decide +kernel
theorem dX6_goesAway_77 : decode cX6_goesAway 77 = .ok (.iastore, 1) := by decide +kernel
theorem dX6_goesAway_78 : decode cX6_goesAway 78 = .ok (.goto 23, 3) := by decide +kernel
theorem dX6_goesAway_81 : decode cX6_goesAway 81 = .ok (.aload_n 0, 1) := by decide +kernel
theorem dX6_goesAway_82 : decode cX6_goesAway 82 = .ok (.getfield 53, 3) := by decide +kernel
theorem dX6_goesAway_85 : decode cX6_goesAway 85 = .ok (.iload_n 1, 1) := by decide +kernel
theorem dX6_goesAway_86 : decode cX6_goesAway 86 = .ok (.dup2, 1) := by decide +kernel
theorem dX6_goesAway_87 : decode cX6_goesAway 87 = .ok (.iaload, 1) := by decide +kernel
theorem dX6_goesAway_88 : decode cX6_goesAway 88 = .ok (.iconst 1, 1) := by decide +kernel
theorem dX6_goesAway_89 : decode cX6_goesAway 89 = .ok (.iadd, 1) := by decide +kernel
theorem dX6_goesAway_90 : decode cX6_goesAway 90 = .ok (.iastore, 1) := by decide +kernel
theorem dX6_goesAway_91 : decode cX6_goesAway 91 = .ok (.aload_n 0, 1) := by decide +kernel
theorem dX6_goesAway_92 : decode cX6_goesAway 92 = .ok (.aload_n 0, 1) := by decide +kernel
theorem dX6_goesAway_93 : decode cX6_goesAway 93 = .ok (.getfield 138, 3) := by decide +kernel
theorem dX6_goesAway_96 : decode cX6_goesAway 96 = .ok (.iload_n 1, 1) := by decide +kernel
theorem dX6_goesAway_97 : decode cX6_goesAway 97 = .ok (.iload_n 2, 1) := by decide +kernel
theorem dX6_goesAway_98 : decode cX6_goesAway 98 = .ok (.invokevirtual 187, 3) := by decide +kernel
theorem dX6_goesAway_101 : decode cX6_goesAway 101 = .ok (.iload_n 2, 1) := by decide +kernel
theorem dX6_goesAway_102 : decode cX6_goesAway 102 = .ok (.ifCond .ne 27, 3) := by decide +kernel
theorem dX6_goesAway_105 : decode cX6_goesAway 105 = .ok (.iload_n 1, 1) := by decide +kernel
theorem dX6_goesAway_106 : decode cX6_goesAway 106 = .ok (.ifCond .le 23, 3) := by decide +kernel
theorem dX6_goesAway_109 : decode cX6_goesAway 109 = .ok (.aload_n 0, 1) := by decide +kernel
theorem dX6_goesAway_110 : decode cX6_goesAway 110 = .ok (.getfield 68, 3) := by decide +kernel
theorem dX6_goesAway_113 : decode cX6_goesAway 113 = .ok (.iload_n 1, 1) := by decide +kernel
theorem dX6_goesAway_114 : decode cX6_goesAway 114 = .ok (.aload_n 0, 1) := by decide +kernel
theorem dX6_goesAway_115 : decode cX6_goesAway 115 = .ok (.getfield 120, 3) := by decide +kernel
theorem dX6_goesAway_118 : decode cX6_goesAway 118 = .ok (.aload_n 0, 1) := by decide +kernel
theorem dX6_goesAway_119 : decode cX6_goesAway 119 = .ok (.getfield 65, 3) := by decide +kernel
theorem dX6_goesAway_122 : decode cX6_goesAway 122 = .ok (.iload_n 1, 1) := by decide +kernel
theorem dX6_goesAway_123 : decode cX6_goesAway 123 = .ok (.iaload, 1) := by decide +kernel
theorem dX6_goesAway_124 : decode cX6_goesAway 124 = .ok (.isub, 1) := by decide +kernel
theorem dX6_goesAway_125 : decode cX6_goesAway 125 = .ok (.invokestatic 164, 3) := by decide +kernel
theorem dX6_goesAway_128 : decode cX6_goesAway 128 = .ok (.iastore, 1) := by decide +kernel
theorem dX6_goesAway_129 : decode cX6_goesAway 129 = .ok (.return_, 1) := by decide +kernel
set_option maxRecDepth 20000 in
theorem ggX6_moves_X6_goesAway : GoodIn wsX6_moves wsX6_goesAway := goodIn_r _ [13, 14, 15, 16, 17, 18, 19, 20, 21, 22, 23, 24, 8, 7, 25, 26, 27, 12, 28, 29, 30, 31, 32, 33, 34, 35, 36, 37, 5, 6, 38, 39, 40, 41, 42, 43, 44, 45, 46, 47, 3, 48, 49, 50, 51, 52, 53, 54, 55, 56, 57, 58, 59, 60, 61, 62, 63, 64, 65, 66, 67, 68, 69, 70, 71, 72, 73, 74, 75, 76, 77, 78, 79, 80, 81, 82, 83, 84, 85, 86, 87, 88, 89, 90, 91, 92, 93, 94, 95, 96, 97, 98, 99] (by decide +kernel) (by decide +kernel)
set_option maxRecDepth 20000 in
theorem gX6_moves_X6_goesAway : GoodIn wsX6_moves (wsV RX6 194 RX6 yX6_goesAway wsX6_goesAway) := goodIn_app (goodIn_of _ (by decide +kernel)) ggX6_moves_X6_goesAway
theorem dX6_moves_0 : decode cX6_moves 0 = .ok (.aload_n 0, 1) := by decide +kernel
theorem dX6_moves_1 : decode cX6_moves 1 = .ok (.aload_n 0, 1) := by decide +kernel
theorem dX6_moves_2 : decode cX6_moves 2 = .ok (.getfield 71, 3) := by decide +kernel
theorem dX6_moves_5 : decode cX6_moves 5 = .ok (.iload_n 2, 1) := by decide +kernel
theorem dX6_moves_6 : decode cX6_moves 6 = .ok (.iaload, 1) := by decide +kernel
theorem dX6_moves_7 : decode cX6_moves 7 = .ok (.aload_n 0, 1) := by decide +kernel
theorem dX6_moves_8 : decode cX6_moves 8 = .ok (.getfield 74, 3) := by decide +kernel
theorem dX6_moves_11 : decode cX6_moves 11 = .ok (.iload_n 2, 1) := by decide +kernel
theorem dX6_moves_12 : decode cX6_moves 12 = .ok (.iaload, 1) := by decide +kernel
theorem dX6_moves_13 : decode cX6_moves 13 = .ok (.iload_n 3, 1) := by decide +kernel
theorem dX6_moves_14 : decode cX6_moves 14 = .ok (.invokevirtual 194, 3) := by decide +kernel
theorem dX6_moves_17 : decode cX6_moves 17 = .ok (.aload_n 0, 1) := by decide +kernel
theorem dX6_moves_18 : decode cX6_moves 18 = .ok (.getfield 47, 3) := by decide +kernel
theorem dX6_moves_21 : decode cX6_moves 21 = .ok (.iload_n 1, 1) := by decide +kernel
theorem dX6_moves_22 : decode cX6_moves 22 = .ok (.iaload, 1) := by decide +kernel
theorem dX6_moves_23 : decode cX6_moves 23 = .ok (.ifCond .ne 42, 3) := by decide +kernel
theorem dX6_moves_26 : decode cX6_moves 26 = .ok (.aload_n 0, 1) := by decide +kernel
theorem dX6_moves_27 : decode cX6_moves 27 = .ok (.getfield 71, 3) := by decide +kernel
theorem dX6_moves_30 : decode cX6_moves 30 = .ok (.aload_n 0, 1) := by decide +kernel
theorem dX6_moves_31 : decode cX6_moves 31 = .ok (.getfield 117, 3) := by decide +kernel
theorem dX6_moves_34 : decode cX6_moves 34 = .ok (.iconst 1, 1) := by decide +kernel
theorem dX6_moves_35 : decode cX6_moves 35 = .ok (.isub, 1) := by decide +kernel
theorem dX6_moves_36 : decode cX6_moves 36 = .ok (.iaload, 1) := by decide +kernel
theorem dX6_moves_37 : decode cX6_moves 37 = .ok (.istore 4, 2) := by decide +kernel
theorem dX6_moves_39 : decode cX6_moves 39 = .ok (.aload_n 0, 1) := by decide +kernel
theorem dX6_moves_40 : decode cX6_moves 40 = .ok (.getfield 59, 3) := by decide +kernel
theorem dX6_moves_43 : decode cX6_moves 43 = .ok (.iload_n 1, 1) := by decide +kernel
theorem dX6_moves_44 : decode cX6_moves 44 = .ok (.iload 4, 2) := by decide +kernel
theorem dX6_moves_46 : decode cX6_moves 46 = .ok (.iastore, 1) := by decide +kernel
theorem dX6_moves_47 : decode cX6_moves 47 = .ok (.aload_n 0, 1) := by decide +kernel
theorem dX6_moves_48 : decode cX6_moves 48 = .ok (.getfield 62, 3) := by decide +kernel
theorem dX6_moves_51 : decode cX6_moves 51 = .ok (.iload 4, 2) := by decide +kernel
theorem dX6_moves_53 : decode cX6_moves 53 = .ok (.iload_n 1, 1) := by decide +kernel
theorem dX6_moves_54 : decode cX6_moves 54 = .ok (.iastore, 1) := by decide +kernel
theorem dX6_moves_55 : decode cX6_moves 55 = .ok (.aload_n 0, 1) := by decide +kernel
theorem dX6_moves_56 : decode cX6_moves 56 = .ok (.getfield 65, 3) := by decide +kernel
theorem dX6_moves_59 : decode cX6_moves 59 = .ok (.iload_n 1, 1) := by decide +kernel
theorem dX6_moves_60 : decode cX6_moves 60 = .ok (.aload_n 0, 1) := by decide +kernel
theorem dX6_moves_61 : decode cX6_moves 61 = .ok (.getfield 120, 3) := by decide +kernel
theorem dX6_moves_64 : decode cX6_moves 64 = .ok (.iastore, 1) := by decide +kernel
theorem dX6_moves_65 : decode cX6_moves 65 = .ok (.iload_n 2, 1) := by decide +kernel
theorem dX6_moves_66 : decode cX6_moves 66 = .ok (.istore 4, 2) := by decide +kernel
theorem dX6_moves_68 : decode cX6_moves 68 = .ok (.iload 4, 2) := by decide +kernel
theorem dX6_moves_70 : decode cX6_moves 70 = .ok (.aload_n 0, 1) := by decide +kernel
theorem dX6_moves_71 : decode cX6_moves 71 = .ok (.getfield 117, 3) := by decide +kernel
theorem dX6_moves_74 : decode cX6_moves 74 = .ok (.iconst 1, 1) := by decide +kernel
theorem dX6_moves_75 : decode cX6_moves 75 = .ok (.isub, 1) := by decide +kernel
theorem dX6_moves_76 : decode cX6_moves 76 = .ok (.if_icmp .ge 41, 3) := by decide +kernel
theorem dX6_moves_79 : decode cX6_moves 79 = .ok (.aload_n 0, 1) := by decide +kernel
theorem dX6_moves_80 : decode cX6_moves 80 = .ok (.getfield 71, 3) := by decide +kernel
theorem dX6_moves_83 : decode cX6_moves 83 = .ok (.iload 4, 2) := by decide +kernel
theorem dX6_moves_85 : decode cX6_moves 85 = .ok (.aload_n 0, 1) := by decide +kernel
theorem dX6_moves_86 : decode cX6_moves 86 = .ok (.getfield 71, 3) := by decide +kernel
theorem dX6_moves_89 : decode cX6_moves 89 = .ok (.iload 4, 2) := by decide +kernel
theorem dX6_moves_91 : decode cX6_moves 91 = .ok (.iconst 1, 1) := by decide +kernel
theorem dX6_moves_92 : decode cX6_moves 92 = .ok (.iadd, 1) := by decide +kernel
theorem dX6_moves_93 : decode cX6_moves 93 = .ok (.iaload, 1) := by decide +kernel
theorem dX6_moves_94 : decode cX6_moves 94 = .ok (.iastore, 1) := by decide +kernel
theorem dX6_moves_95 : decode cX6_moves 95 = .ok (.aload_n 0, 1) := by decide +kernel
theorem dX6_moves_96 : decode cX6_moves 96 = .ok (.getfield 74, 3) := by decide +kernel
theorem dX6_moves_99 : decode cX6_moves 99 = .ok (.iload 4, 2) := by decide +kernel
theorem dX6_moves_101 : decode cX6_moves 101 = .ok (.aload_n 0, 1) := by decide +kernel
theorem dX6_moves_102 : decode cX6_moves 102 = .ok (.getfield 74, 3) := by decide +kernel
theorem dX6_moves_105 : decode cX6_moves 105 = .ok (.iload 4, 2) := by decide +kernel
theorem dX6_moves_107 : decode cX6_moves 107 = .ok (.iconst 1, 1) := by decide +kernel
theorem dX6_moves_108 : decode cX6_moves 108 = .ok (.iadd, 1) := by decide +kernel
theorem dX6_moves_109 : decode cX6_moves 109 = .ok (.iaload, 1) := by decide +kernel
theorem dX6_moves_110 : decode cX6_moves 110 = .ok (.iastore, 1) := by decide +kernel
theorem dX6_moves_111 : decode cX6_moves 111 = .ok (.iinc 4 1, 3) := by decide +kernel
theorem dX6_moves_114 : decode cX6_moves 114 = .ok (.goto (-46), 3) := by decide +kernel
theorem dX6_moves_117 : decode cX6_moves 117 = .ok (.aload_n 0, 1) := by decide +kernel
theorem dX6_moves_118 : decode cX6_moves 118 = .ok (.getfield 71, 3) := by decide +kernel
theorem dX6_moves_121 : decode cX6_moves 121 = .ok (.aload_n 0, 1) := by decide +kernel
theorem dX6_moves_122 : decode cX6_moves 122 = .ok (.getfield 117, 3) := by decide +kernel
theorem dX6_moves_125 : decode cX6_moves 125 = .ok (.iconst 1, 1) := by decide +kernel
theorem dX6_moves_126 : decode cX6_moves 126 = .ok (.isub, 1) := by decide +kernel
theorem dX6_moves_127 : decode cX6_moves 127 = .ok (.iload_n 1, 1) := by decide +kernel
theorem dX6_moves_128 : decode cX6_moves 128 = .ok (.iastore, 1) := by decide +kernel
theorem dX6_moves_129 : decode cX6_moves 129 = .ok (.aload_n 0, 1) := by decide +kernel
theorem dX6_moves_130 : decode cX6_moves 130 = .ok (.getfield 74, 3) := by decide +kernel
theorem dX6_moves_133 : decode cX6_moves 133 = .ok (.aload_n 0, 1) := by decide +kernel
theorem dX6_moves_134 : decode cX6_moves 134 = .ok (.getfield 117, 3) := by decide +kernel
theorem dX6_moves_137 : decode cX6_moves 137 = .ok (.iconst 1, 1) := by decide +kernel
theorem dX6_moves_138 : decode cX6_moves 138 = .ok (.isub, 1) := by decide +kernel
theorem dX6_moves_139 : decode cX6_moves 139 = .ok (.aload_n 0, 1) := by decide +kernel
theorem dX6_moves_140 : decode cX6_moves 140 = .ok (.getfield 47, 3) := by decide +kernel
theorem dX6_moves_143 : decode cX6_moves 143 = .ok (.iload_n 1, 1) := by decide +kernel
theorem dX6_moves_144 : decode cX6_moves 144 = .ok (.iaload, 1) := by decide +kernel
theorem dX6_moves_145 : decode cX6_moves 145 = .ok (.iastore, 1) := by decide +kernel
theorem dX6_moves_146 : decode cX6_moves 146 = .ok (.aload_n 0, 1) := by decide +kernel
theorem dX6_moves_147 : decode cX6_moves 147 = .ok (.getfield 47, 3) := by decide +kernel
theorem dX6_moves_150 : decode cX6_moves 150 = .ok (.iload_n 1, 1) := by decide +kernel
theorem dX6_moves_151 : decode cX6_moves 151 = .ok (.dup2, 1) := by decide +kernel
theorem dX6_moves_152 : decode cX6_moves 152 = .ok (.iaload, 1) := by decide +kernel
theorem dX6_moves_153 : decode cX6_moves 153 = .ok (.iconst 1, 1) := by decide +kernel
theorem dX6_moves_154 : decode cX6_moves 154 = .ok (.iadd, 1) := by decide +kernel
theorem dX6_moves_155 : decode cX6_moves 155 = .ok (.iastore, 1) := by decide +kernel
theorem dX6_moves_156 : decode cX6_moves 156 = .ok (.aload_n 0, 1) := by decide +kernel
theorem dX6_moves_157 : decode cX6_moves 157 = .ok (.dup, 1) := by decide +kernel
theorem dX6_moves_158 : decode cX6_moves 158 = .ok (.getfield 120, 3) := by decide +kernel
theorem dX6_moves_161 : decode cX6_moves 161 = .ok (.iconst 1, 1) := by decide +kernel
theorem dX6_moves_162 : decode cX6_moves 162 = .ok (.iadd, 1) := by decide +kernel
theorem dX6_moves_163 : decode cX6_moves 163 = .ok (.putfield 120, 3) := by decide +kernel
theorem dX6_moves_166 : decode cX6_moves 166 = .ok (.return_, 1) := by decide +kernel
set_option maxRecDepth 20000 in
theorem ggX6_passesMinute_X6_rateThatGoes : GoodIn wsX6_passesMinute wsX6_rateThatGoes := goodIn_r _ [15, 16, 8, 17, 18, 19, 20, 14, 21, 22, 23, 24, 25, 9, 26, 27, 28, 29, 30, 31, 94, 95, 96, 97, 98, 99, 100, 101, 102, 103, 104, 105, 106, 107, 108, 109, 110, 111, 112, 113, 114, 115, 116, 117, 118, 119, 120, 121, 122, 123, 124, 125, 126, 127, 128, 129, 130, 131, 132, 133, 134, 135, 136, 137, 138] (by decide +kernel) (by decide +kernel)
set_option maxRecDepth 20000 in
theorem gX6_passesMinute_X6_rateThatGoes : GoodIn wsX6_passesMinute (wsV RX6 200 RX6 yX6_rateThatGoes wsX6_rateThatGoes) := goodIn_app (goodIn_of _ (by decide +kernel)) ggX6_passesMinute_X6_rateThatGoes
set_option maxRecDepth 20000 in
theorem ggX6_passesMinute_X6_entering : GoodIn wsX6_passesMinute wsX6_entering := goodIn_r _ [35, 36, 37, 38, 24, 25, 39, 40, 41, 42, 14, 43, 94, 95, 96, 97, 98, 99, 100, 101, 102, 103, 104, 105, 106, 107, 108, 109, 110, 111, 112, 113, 114, 115, 116, 117, 118, 119, 120, 121, 122, 123, 124, 125, 126, 127, 128, 129, 130, 131, 132, 133, 134, 135, 136, 137, 138] (by decide +kernel) (by decide +kernel)
set_option maxRecDepth 20000 in
theorem gX6_passesMinute_X6_entering : GoodIn wsX6_passesMinute (wsV RX6 207 RX6 yX6_entering wsX6_entering) := goodIn_app (goodIn_of _ (by decide +kernel)) ggX6_passesMinute_X6_entering
set_option maxRecDepth 20000 in
theorem ggX6_passesMinute_X6_lastOf : GoodIn wsX6_passesMinute wsX6_lastOf := goodIn_r _ [31, 8, 22, 94, 95, 96, 97, 98, 99, 100, 101, 102, 103, 104, 105, 106, 107, 108, 109, 110, 111, 112, 113, 114, 115, 116, 117, 118, 119, 120, 121, 122, 123, 124, 125, 126, 127, 128, 129, 130, 131, 132, 133, 134, 135, 136, 137, 138] (by decide +kernel) (by decide +kernel)
set_option maxRecDepth 20000 in
theorem gX6_passesMinute_X6_lastOf : GoodIn wsX6_passesMinute (wsV RX6 156 RX6 yX6_lastOf wsX6_lastOf) := goodIn_app (goodIn_of _ (by decide +kernel)) ggX6_passesMinute_X6_lastOf
set_option maxRecDepth 20000 in
theorem ggX6_passesMinute_X6_moves : GoodIn wsX6_passesMinute wsX6_moves := goodIn_r _ [47, 25, 48, 37, 39, 49, 50, 51, 52, 53, 54, 55, 14, 56, 57, 58, 59, 8, 60, 61, 5, 62, 63, 64, 65, 66, 67, 68, 69, 9, 70, 71, 72, 73, 74, 75, 76, 24, 77, 78, 79, 80, 81, 82, 83, 84, 85, 86, 87, 88, 89, 90, 91, 92, 93, 94, 95, 96, 97, 98, 99, 100, 101, 102, 103, 104, 105, 106, 107, 108, 109, 110, 111, 112, 113, 114, 115, 116, 117, 118, 119, 120, 121, 122, 123, 124, 125, 126, 127, 128, 129, 130, 131, 132, 133, 134, 135, 136, 137, 138] (by decide +kernel) (by decide +kernel)
set_option maxRecDepth 20000 in
theorem gX6_passesMinute_X6_moves : GoodIn wsX6_passesMinute (wsV RX6 210 RX6 yX6_moves wsX6_moves) := goodIn_app (goodIn_of _ (by decide +kernel)) ggX6_passesMinute_X6_moves
theorem dX6_passesMinute_0 : decode cX6_passesMinute 0 = .ok (.aload_n 0, 1) := by decide +kernel
theorem dX6_passesMinute_1 : decode cX6_passesMinute 1 = .ok (.dup, 1) := by decide +kernel
theorem dX6_passesMinute_2 : decode cX6_passesMinute 2 = .ok (.getfield 197, 3) := by decide +kernel
theorem dX6_passesMinute_5 : decode cX6_passesMinute 5 = .ok (.iconst 1, 1) := by decide +kernel
theorem dX6_passesMinute_6 : decode cX6_passesMinute 6 = .ok (.iadd, 1) := by decide +kernel
theorem dX6_passesMinute_7 : decode cX6_passesMinute 7 = .ok (.putfield 197, 3) := by decide +kernel
theorem dX6_passesMinute_10 : decode cX6_passesMinute 10 = .ok (.aload_n 0, 1) := by decide +kernel
theorem dX6_passesMinute_11 : decode cX6_passesMinute 11 = .ok (.aload_n 0, 1) := by decide +kernel
theorem dX6_passesMinute_12 : decode cX6_passesMinute 12 = .ok (.invokevirtual 200, 3) := by decide +kernel
theorem dX6_passesMinute_15 : decode cX6_passesMinute 15 = .ok (.putfield 204, 3) := by decide +kernel
theorem dX6_passesMinute_18 : decode cX6_passesMinute 18 = .ok (.iconst 0, 1) := by decide +kernel
theorem dX6_passesMinute_19 : decode cX6_passesMinute 19 = .ok (.istore_n 1, 1) := by decide +kernel
theorem dX6_passesMinute_20 : decode cX6_passesMinute 20 = .ok (.iconst 0, 1) := by decide +kernel
theorem dX6_passesMinute_21 : decode cX6_passesMinute 21 = .ok (.istore_n 2, 1) := by decide +kernel
theorem dX6_passesMinute_22 : decode cX6_passesMinute 22 = .ok (.iconst 0, 1) := by decide +kernel
theorem dX6_passesMinute_23 : decode cX6_passesMinute 23 = .ok (.istore_n 3, 1) := by decide +kernel
theorem dX6_passesMinute_24 : decode cX6_passesMinute 24 = .ok (.iconst 1, 1) := by decide +kernel
theorem dX6_passesMinute_25 : decode cX6_passesMinute 25 = .ok (.istore 4, 2) := by decide +kernel
theorem dX6_passesMinute_27 : decode cX6_passesMinute 27 = .ok (.iconst 0, 1) := by decide +kernel
theorem dX6_passesMinute_28 : decode cX6_passesMinute 28 = .ok (.istore 5, 2) := by decide +kernel
theorem dX6_passesMinute_30 : decode cX6_passesMinute 30 = .ok (.iload 5, 2) := by decide +kernel
theorem dX6_passesMinute_32 : decode cX6_passesMinute 32 = .ok (.aload_n 0, 1) := by decide +kernel
theorem dX6_passesMinute_33 : decode cX6_passesMinute 33 = .ok (.getfield 204, 3) := by decide +kernel
theorem dX6_passesMinute_36 : decode cX6_passesMinute 36 = .ok (.if_icmp .ge 172, 3) := by decide +kernel
theorem dX6_passesMinute_39 : decode cX6_passesMinute 39 = .ok (.iload 4, 2) := by decide +kernel
theorem dX6_passesMinute_41 : decode cX6_passesMinute 41 = .ok (.ifCond .eq 167, 3) := by decide +kernel
theorem dX6_passesMinute_44 : decode cX6_passesMinute 44 = .ok (.aload_n 0, 1) := by decide +kernel
theorem dX6_passesMinute_45 : decode cX6_passesMinute 45 = .ok (.invokevirtual 207, 3) := by decide +kernel
theorem dX6_passesMinute_48 : decode cX6_passesMinute 48 = .ok (.istore 6, 2) := by decide +kernel
theorem dX6_passesMinute_50 : decode cX6_passesMinute 50 = .ok (.iload 6, 2) := by decide +kernel
theorem dX6_passesMinute_52 : decode cX6_passesMinute 52 = .ok (.iconst (-1), 1) := by decide +kernel
theorem dX6_passesMinute_53 : decode cX6_passesMinute 53 = .ok (.if_icmp .eq 7, 3) := by decide +kernel
theorem dX6_passesMinute_56 : decode cX6_passesMinute 56 = .ok (.iconst 1, 1) := by decide +kernel
theorem dX6_passesMinute_57 : decode cX6_passesMinute 57 = .ok (.goto 4, 3) := by decide +kernel
theorem dX6_passesMinute_60 : decode cX6_passesMinute 60 = .ok (.iconst 0, 1) := by decide +kernel
theorem dX6_passesMinute_61 : decode cX6_passesMinute 61 = .ok (.istore 4, 2) := by decide +kernel
theorem dX6_passesMinute_63 : decode cX6_passesMinute 63 = .ok (.iload 4, 2) := by decide +kernel
theorem dX6_passesMinute_65 : decode cX6_passesMinute 65 = .ok (.ifCond .eq 137, 3) := by decide +kernel
theorem dX6_passesMinute_68 : decode cX6_passesMinute 68 = .ok (.aload_n 0, 1) := by decide +kernel
theorem dX6_passesMinute_69 : decode cX6_passesMinute 69 = .ok (.aload_n 0, 1) := by decide +kernel
theorem dX6_passesMinute_70 : decode cX6_passesMinute 70 = .ok (.getfield 80, 3) := by decide +kernel
theorem dX6_passesMinute_73 : decode cX6_passesMinute 73 = .ok (.iconst (-1), 1) := by decide +kernel
theorem dX6_passesMinute_74 : decode cX6_passesMinute 74 = .ok (.if_icmp .eq 15, 3) := by decide +kernel
theorem dX6_passesMinute_77 : decode cX6_passesMinute 77 = .ok (.iload_n 2, 1) := by decide +kernel
theorem dX6_passesMinute_78 : decode cX6_passesMinute 78 = .ok (.aload_n 0, 1) := by decide +kernel
theorem dX6_passesMinute_79 : decode cX6_passesMinute 79 = .ok (.getfield 141, 3) := by decide +kernel
theorem dX6_passesMinute_82 : decode cX6_passesMinute 82 = .ok (.if_icmp .ge 7, 3) := by decide +kernel
theorem dX6_passesMinute_85 : decode cX6_passesMinute 85 = .ok (.iconst 1, 1) := by decide +kernel
theorem dX6_passesMinute_86 : decode cX6_passesMinute 86 = .ok (.goto 4, 3) := by decide +kernel
theorem dX6_passesMinute_89 : decode cX6_passesMinute 89 = .ok (.iconst 0, 1) := by decide +kernel
theorem dX6_passesMinute_90 : decode cX6_passesMinute 90 = .ok (.putfield 191, 3) := by decide +kernel
theorem dX6_passesMinute_93 : decode cX6_passesMinute 93 = .ok (.aload_n 0, 1) := by decide +kernel
theorem dX6_passesMinute_94 : decode cX6_passesMinute 94 = .ok (.getfield 191, 3) := by decide +kernel
theorem dX6_passesMinute_97 : decode cX6_passesMinute 97 = .ok (.ifCond .ne 23, 3) := by decide +kernel
theorem dX6_passesMinute_100 : decode cX6_passesMinute 100 = .ok (.aload_n 0, 1) := by decide +kernel
theorem dX6_passesMinute_101 : decode cX6_passesMinute 101 = .ok (.getfield 77, 3) := by decide +kernel
theorem dX6_passesMinute_104 : decode cX6_passesMinute 104 = .ok (.iconst (-1), 1) := by decide +kernel
theorem dX6_passesMinute_105 : decode cX6_passesMinute 105 = .ok (.if_icmp .eq 15, 3) := by decide +kernel
theorem dX6_passesMinute_108 : decode cX6_passesMinute 108 = .ok (.iload_n 3, 1) := by decide +kernel
theorem dX6_passesMinute_109 : decode cX6_passesMinute 109 = .ok (.aload_n 0, 1) := by decide +kernel
theorem dX6_passesMinute_110 : decode cX6_passesMinute 110 = .ok (.getfield 135, 3) := by decide +kernel
theorem dX6_passesMinute_113 : decode cX6_passesMinute 113 = .ok (.if_icmp .ge 7, 3) := by decide +kernel
theorem dX6_passesMinute_116 : decode cX6_passesMinute 116 = .ok (.iconst 1, 1) := by decide +kernel
theorem dX6_passesMinute_117 : decode cX6_passesMinute 117 = .ok (.goto 4, 3) := by decide +kernel
theorem dX6_passesMinute_120 : decode cX6_passesMinute 120 = .ok (.iconst 0, 1) := by decide +kernel
theorem dX6_passesMinute_121 : decode cX6_passesMinute 121 = .ok (.istore 7, 2) := by decide +kernel
theorem dX6_passesMinute_123 : decode cX6_passesMinute 123 = .ok (.aload_n 0, 1) := by decide +kernel
theorem dX6_passesMinute_124 : decode cX6_passesMinute 124 = .ok (.getfield 191, 3) := by decide +kernel
theorem dX6_passesMinute_127 : decode cX6_passesMinute 127 = .ok (.ifCond .eq 10, 3) := by decide +kernel
theorem dX6_passesMinute_130 : decode cX6_passesMinute 130 = .ok (.aload_n 0, 1) := by decide +kernel
theorem dX6_passesMinute_131 : decode cX6_passesMinute 131 = .ok (.getfield 80, 3) := by decide +kernel
theorem dX6_passesMinute_134 : decode cX6_passesMinute 134 = .ok (.goto 21, 3) := by decide +kernel
theorem dX6_passesMinute_137 : decode cX6_passesMinute 137 = .ok (.iload 7, 2) := by decide +kernel
theorem dX6_passesMinute_139 : decode cX6_passesMinute 139 = .ok (.ifCond .eq 10, 3) := by decide +kernel
theorem dX6_passesMinute_142 : decode cX6_passesMinute 142 = .ok (.aload_n 0, 1) := by decide +kernel
theorem dX6_passesMinute_143 : decode cX6_passesMinute 143 = .ok (.getfield 77, 3) := by decide +kernel
theorem dX6_passesMinute_146 : decode cX6_passesMinute 146 = .ok (.goto 9, 3) := by decide +kernel
theorem dX6_passesMinute_149 : decode cX6_passesMinute 149 = .ok (.aload_n 0, 1) := by decide +kernel
theorem dX6_passesMinute_150 : decode cX6_passesMinute 150 = .ok (.getfield 102, 3) := by decide +kernel
theorem dX6_passesMinute_153 : decode cX6_passesMinute 153 = .ok (.iconst 1, 1) := by decide +kernel
theorem dX6_passesMinute_154 : decode cX6_passesMinute 154 = .ok (.isub, 1) := by decide +kernel
theorem dX6_passesMinute_155 : decode cX6_passesMinute 155 = .ok (.istore 8, 2) := by decide +kernel
theorem dX6_passesMinute_157 : decode cX6_passesMinute 157 = .ok (.iload_n 2, 1) := by decide +kernel
theorem dX6_passesMinute_158 : decode cX6_passesMinute 158 = .ok (.aload_n 0, 1) := by decide +kernel
theorem dX6_passesMinute_159 : decode cX6_passesMinute 159 = .ok (.getfield 191, 3) := by decide +kernel
theorem dX6_passesMinute_162 : decode cX6_passesMinute 162 = .ok (.ifCond .eq 7, 3) := by decide +kernel
theorem dX6_passesMinute_165 : decode cX6_passesMinute 165 = .ok (.iconst 1, 1) := by decide +kernel
theorem dX6_passesMinute_166 : decode cX6_passesMinute 166 = .ok (.goto 4, 3) := by decide +kernel
theorem dX6_passesMinute_169 : decode cX6_passesMinute 169 = .ok (.iconst 0, 1) := by decide +kernel
theorem dX6_passesMinute_170 : decode cX6_passesMinute 170 = .ok (.iadd, 1) := by decide +kernel
theorem dX6_passesMinute_171 : decode cX6_passesMinute 171 = .ok (.istore_n 2, 1) := by decide +kernel
theorem dX6_passesMinute_172 : decode cX6_passesMinute 172 = .ok (.iload_n 3, 1) := by decide +kernel
theorem dX6_passesMinute_173 : decode cX6_passesMinute 173 = .ok (.iload 7, 2) := by decide +kernel
theorem dX6_passesMinute_175 : decode cX6_passesMinute 175 = .ok (.ifCond .eq 7, 3) := by decide +kernel
theorem dX6_passesMinute_178 : decode cX6_passesMinute 178 = .ok (.iconst 1, 1) := by decide +kernel
theorem dX6_passesMinute_179 : decode cX6_passesMinute 179 = .ok (.goto 4, 3) := by decide +kernel
theorem dX6_passesMinute_182 : decode cX6_passesMinute 182 = .ok (.iconst 0, 1) := by decide +kernel
theorem dX6_passesMinute_183 : decode cX6_passesMinute 183 = .ok (.iadd, 1) := by decide +kernel
theorem dX6_passesMinute_184 : decode cX6_passesMinute 184 = .ok (.istore_n 3, 1) := by decide +kernel
theorem dX6_passesMinute_185 : decode cX6_passesMinute 185 = .ok (.iinc 1 1, 3) := by decide +kernel
theorem dX6_passesMinute_188 : decode cX6_passesMinute 188 = .ok (.aload_n 0, 1) := by decide +kernel
theorem dX6_passesMinute_189 : decode cX6_passesMinute 189 = .ok (.iload 6, 2) := by decide +kernel
theorem dX6_passesMinute_191 : decode cX6_passesMinute 191 = .ok (.aload_n 0, 1) := by decide +kernel
theorem dX6_passesMinute_192 : decode cX6_passesMinute 192 = .ok (.iload 8, 2) := by decide +kernel
theorem dX6_passesMinute_194 : decode cX6_passesMinute 194 = .ok (.invokevirtual 156, 3) := by decide +kernel
theorem dX6_passesMinute_197 : decode cX6_passesMinute 197 = .ok (.iload 8, 2) := by decide +kernel
theorem dX6_passesMinute_199 : decode cX6_passesMinute 199 = .ok (.invokevirtual 210, 3) := by decide +kernel
theorem dX6_passesMinute_202 : decode cX6_passesMinute 202 = .ok (.iinc 5 1, 3) := by decide +kernel
theorem dX6_passesMinute_205 : decode cX6_passesMinute 205 = .ok (.goto (-175), 3) := by decide +kernel
theorem dX6_passesMinute_208 : decode cX6_passesMinute 208 = .ok (.iconst 0, 1) := by decide +kernel
theorem dX6_passesMinute_209 : decode cX6_passesMinute 209 = .ok (.istore 5, 2) := by decide +kernel
theorem dX6_passesMinute_211 : decode cX6_passesMinute 211 = .ok (.iload 5, 2) := by decide +kernel
theorem dX6_passesMinute_213 : decode cX6_passesMinute 213 = .ok (.aload_n 0, 1) := by decide +kernel
theorem dX6_passesMinute_214 : decode cX6_passesMinute 214 = .ok (.getfield 102, 3) := by decide +kernel
theorem dX6_passesMinute_217 : decode cX6_passesMinute 217 = .ok (.if_icmp .ge 41, 3) := by decide +kernel
theorem dX6_passesMinute_220 : decode cX6_passesMinute 220 = .ok (.iload_n 1, 1) := by decide +kernel
theorem dX6_passesMinute_221 : decode cX6_passesMinute 221 = .ok (.ifCond .le 37, 3) := by decide +kernel
theorem dX6_passesMinute_224 : decode cX6_passesMinute 224 = .ok (.aload_n 0, 1) := by decide +kernel
theorem dX6_passesMinute_225 : decode cX6_passesMinute 225 = .ok (.getfield 19, 3) := by decide +kernel
theorem dX6_passesMinute_228 : decode cX6_passesMinute 228 = .ok (.iload 5, 2) := by decide +kernel
theorem dX6_passesMinute_230 : decode cX6_passesMinute 230 = .ok (.dup2, 1) := by decide +kernel
theorem dX6_passesMinute_231 : decode cX6_passesMinute 231 = .ok (.iaload, 1) := by decide +kernel
theorem dX6_passesMinute_232 : decode cX6_passesMinute 232 = .ok (.aload_n 0, 1) := by decide +kernel
theorem dX6_passesMinute_233 : decode cX6_passesMinute 233 = .ok (.getfield 19, 3) := by decide +kernel
theorem dX6_passesMinute_236 : decode cX6_passesMinute 236 = .ok (.iload 5, 2) := by decide +kernel
theorem dX6_passesMinute_238 : decode cX6_passesMinute 238 = .ok (.iaload, 1) := by decide +kernel
theorem dX6_passesMinute_239 : decode cX6_passesMinute 239 = .ok (.sipush 200, 3) := by decide +kernel
theorem dX6_passesMinute_242 : decode cX6_passesMinute 242 = .ok (.if_icmp .ge 7, 3) := by decide +kernel
theorem dX6_passesMinute_245 : decode cX6_passesMinute 245 = .ok (.iconst 1, 1) := by decide +kernel
theorem dX6_passesMinute_246 : decode cX6_passesMinute 246 = .ok (.goto 4, 3) := by decide +kernel
theorem dX6_passesMinute_249 : decode cX6_passesMinute 249 = .ok (.iconst 0, 1) := by decide +kernel
theorem dX6_passesMinute_250 : decode cX6_passesMinute 250 = .ok (.iadd, 1) := by decide +kernel
theorem dX6_passesMinute_251 : decode cX6_passesMinute 251 = .ok (.iastore, 1) := by decide +kernel
theorem dX6_passesMinute_252 : decode cX6_passesMinute 252 = .ok (.iinc 5 1, 3) := by decide +kernel
theorem dX6_passesMinute_255 : decode cX6_passesMinute 255 = .ok (.goto (-44), 3) := by decide +kernel
theorem dX6_passesMinute_258 : decode cX6_passesMinute 258 = .ok (.aload_n 0, 1) := by decide +kernel
theorem dX6_passesMinute_259 : decode cX6_passesMinute 259 = .ok (.getfield 92, 3) := by decide +kernel
theorem dX6_passesMinute_262 : decode cX6_passesMinute 262 = .ok (.aload_n 0, 1) := by decide +kernel
theorem dX6_passesMinute_263 : decode cX6_passesMinute 263 = .ok (.getfield 197, 3) := by decide +kernel
theorem dX6_passesMinute_266 : decode cX6_passesMinute 266 = .ok (.iconst 5, 1) := by decide +kernel
theorem dX6_passesMinute_267 : decode cX6_passesMinute 267 = .ok (.irem, 1) := by decide +kernel
theorem dX6_passesMinute_268 : decode cX6_passesMinute 268 = .ok (.iload_n 2, 1) := by decide +kernel
theorem dX6_passesMinute_269 : decode cX6_passesMinute 269 = .ok (.iastore, 1) := by decide +kernel
theorem dX6_passesMinute_270 : decode cX6_passesMinute 270 = .ok (.iload_n 1, 1) := by decide +kernel
theorem dX6_passesMinute_271 : decode cX6_passesMinute 271 = .ok (.ireturn, 1) := by decide +kernel
set_option maxRecDepth 20000 in
theorem ggX6_pass_X6_isBetween : GoodIn wsX6_pass wsX6_isBetween := goodIn_r _ [6] (by decide +kernel) (by decide +kernel)
set_option maxRecDepth 20000 in
theorem gX6_pass_X6_isBetween : GoodIn wsX6_pass (va_wsS RX6 98 yX6_isBetween wsX6_isBetween) := goodIn_app (goodIn_of _ (by decide +kernel)) ggX6_pass_X6_isBetween
set_option maxRecDepth 20000 in
theorem ggX6_pass_X6_goes : GoodIn wsX6_pass wsX6_goes := goodIn_r _ [10, 11, 107, 108, 109, 110, 111, 112, 113, 114, 115, 116, 117, 118, 119, 120, 121, 122, 123, 124, 125, 126, 127, 128, 129, 130, 131, 132, 133, 134, 135, 136, 137, 138, 139, 140, 141, 142, 143, 144, 145, 146, 147, 148, 149, 150, 151] (by decide +kernel) (by decide +kernel)
set_option maxRecDepth 20000 in
theorem gX6_pass_X6_goes : GoodIn wsX6_pass (wsV RX6 109 RX6 yX6_goes wsX6_goes) := goodIn_app (goodIn_of _ (by decide +kernel)) ggX6_pass_X6_goes
set_option maxRecDepth 20000 in
theorem ggX6_pass_X6_passesMinute : GoodIn wsX6_pass wsX6_passesMinute := goodIn_r _ [15, 2, 16, 17, 18, 19, 20, 21, 22, 23, 24, 25, 26, 27, 5, 28, 29, 30, 31, 32, 33, 34, 35, 36, 37, 38, 39, 40, 41, 42, 43, 44, 45, 46, 47, 48, 49, 50, 51, 52, 53, 54, 55, 56, 57, 58, 59, 60, 61, 62, 63, 64, 65, 66, 67, 68, 69, 70, 71, 72, 73, 74, 75, 76, 77, 78, 79, 80, 81, 82, 83, 84, 85, 86, 87, 88, 89, 90, 91, 92, 93, 94, 95, 96, 97, 98, 99, 100, 101, 102, 103, 104, 105, 106, 107, 108, 109, 110, 111, 112, 113, 114, 115, 116, 117, 118, 119, 120, 121, 122, 123, 124, 125, 126, 127, 128, 129, 130, 131, 132, 133, 134, 135, 136, 137, 138, 139, 140, 141, 142, 143, 144, 145, 146, 147, 148, 149, 150, 151] (by decide +kernel) (by decide +kernel)
set_option maxRecDepth 20000 in
theorem gX6_pass_X6_passesMinute : GoodIn wsX6_pass (wsV RX6 213 RX6 yX6_passesMinute wsX6_passesMinute) := goodIn_app (goodIn_of _ (by decide +kernel)) ggX6_pass_X6_passesMinute
theorem dX6_pass_0 : decode cX6_pass 0 = .ok (.aload_n 0, 1) := by decide +kernel
theorem dX6_pass_1 : decode cX6_pass 1 = .ok (.iload_n 1, 1) := by decide +kernel
theorem dX6_pass_2 : decode cX6_pass 2 = .ok (.iconst 1, 1) := by decide +kernel
theorem dX6_pass_3 : decode cX6_pass 3 = .ok (.bipush 60, 2) := by decide +kernel
theorem dX6_pass_5 : decode cX6_pass 5 = .ok (.invokestatic 98, 3) := by decide +kernel
theorem dX6_pass_8 : decode cX6_pass 8 = .ok (.aload_n 0, 1) := by decide +kernel
theorem dX6_pass_9 : decode cX6_pass 9 = .ok (.getfield 105, 3) := by decide +kernel
theorem dX6_pass_12 : decode cX6_pass 12 = .ok (.ifCond .eq 19, 3) := by decide +kernel
theorem dX6_pass_15 : decode cX6_pass 15 = .ok (.aload_n 0, 1) := by decide +kernel
theorem dX6_pass_16 : decode cX6_pass 16 = .ok (.getfield 197, 3) := by decide +kernel
theorem dX6_pass_19 : decode cX6_pass 19 = .ok (.iload_n 1, 1) := by decide +kernel
theorem dX6_pass_20 : decode cX6_pass 20 = .ok (.iadd, 1) := by decide +kernel
theorem dX6_pass_21 : decode cX6_pass 21 = .ok (.sipush 9999, 3) := by decide +kernel
theorem dX6_pass_24 : decode cX6_pass 24 = .ok (.if_icmp .gt 7, 3) := by decide +kernel
theorem dX6_pass_27 : decode cX6_pass 27 = .ok (.iconst 1, 1) := by decide +kernel
theorem dX6_pass_28 : decode cX6_pass 28 = .ok (.goto 4, 3) := by decide +kernel
theorem dX6_pass_31 : decode cX6_pass 31 = .ok (.iconst 0, 1) := by decide +kernel
theorem dX6_pass_32 : decode cX6_pass 32 = .ok (.iconst 1, 1) := by decide +kernel
theorem dX6_pass_33 : decode cX6_pass 33 = .ok (.invokevirtual 109, 3) := by decide +kernel
theorem dX6_pass_36 : decode cX6_pass 36 = .ok (.ifCond .ne 5, 3) := by decide +kernel
theorem dX6_pass_39 : decode cX6_pass 39 = .ok (.iconst 0, 1) := by decide +kernel
theorem dX6_pass_40 : decode cX6_pass 40 = .ok (.ireturn, 1) := by decide +kernel
theorem dX6_pass_41 : decode cX6_pass 41 = .ok (.iconst 0, 1) := by decide +kernel
theorem dX6_pass_42 : decode cX6_pass 42 = .ok (.istore_n 2, 1) := by decide +kernel
theorem dX6_pass_43 : decode cX6_pass 43 = .ok (.iconst 0, 1) := by decide +kernel
theorem dX6_pass_44 : decode cX6_pass 44 = .ok (.istore_n 3, 1) := by decide +kernel
theorem dX6_pass_45 : decode cX6_pass 45 = .ok (.iload_n 3, 1) := by decide +kernel
theorem dX6_pass_46 : decode cX6_pass 46 = .ok (.iload_n 1, 1) := by decide +kernel
theorem dX6_pass_47 : decode cX6_pass 47 = .ok (.if_icmp .ge 16, 3) := by decide +kernel
theorem dX6_pass_50 : decode cX6_pass 50 = .ok (.iload_n 2, 1) := by decide +kernel
theorem dX6_pass_51 : decode cX6_pass 51 = .ok (.aload_n 0, 1) := by decide +kernel
theorem dX6_pass_52 : decode cX6_pass 52 = .ok (.invokevirtual 213, 3) := by decide +kernel
theorem dX6_pass_55 : decode cX6_pass 55 = .ok (.iadd, 1) := by decide +kernel
theorem dX6_pass_56 : decode cX6_pass 56 = .ok (.istore_n 2, 1) := by decide +kernel
theorem dX6_pass_57 : decode cX6_pass 57 = .ok (.iinc 3 1, 3) := by decide +kernel
theorem dX6_pass_60 : decode cX6_pass 60 = .ok (.goto (-15), 3) := by decide +kernel
theorem dX6_pass_63 : decode cX6_pass 63 = .ok (.iload_n 2, 1) := by decide +kernel
theorem dX6_pass_64 : decode cX6_pass 64 = .ok (.ireturn, 1) := by decide +kernel
set_option maxRecDepth 20000 in
theorem ggX6_isBatch_X6_isBetween : GoodIn wsX6_isBatch wsX6_isBetween := goodIn_r _ [6] (by decide +kernel) (by decide +kernel)
set_option maxRecDepth 20000 in
theorem gX6_isBatch_X6_isBetween : GoodIn wsX6_isBatch (va_wsS RX6 98 yX6_isBetween wsX6_isBetween) := goodIn_app (goodIn_of _ (by decide +kernel)) ggX6_isBatch_X6_isBetween
theorem dX6_isBatch_0 : decode cX6_isBatch 0 = .ok (.iload_n 1, 1) := by decide +kernel
theorem dX6_isBatch_1 : decode cX6_isBatch 1 = .ok (.aload_n 0, 1) := by decide +kernel
theorem dX6_isBatch_2 : decode cX6_isBatch 2 = .ok (.getfield 105, 3) := by decide +kernel
theorem dX6_isBatch_5 : decode cX6_isBatch 5 = .ok (.ifCond .eq 7, 3) := by decide +kernel
theorem dX6_isBatch_8 : decode cX6_isBatch 8 = .ok (.iconst 0, 1) := by decide +kernel
theorem dX6_isBatch_9 : decode cX6_isBatch 9 = .ok (.goto 4, 3) := by decide +kernel
theorem dX6_isBatch_12 : decode cX6_isBatch 12 = .ok (.iconst 1, 1) := by decide +kernel
theorem dX6_isBatch_13 : decode cX6_isBatch 13 = .ok (.aload_n 0, 1) := by decide +kernel
theorem dX6_isBatch_14 : decode cX6_isBatch 14 = .ok (.getfield 34, 3) := by decide +kernel
theorem dX6_isBatch_17 : decode cX6_isBatch 17 = .ok (.iconst 1, 1) := by decide +kernel
theorem dX6_isBatch_18 : decode cX6_isBatch 18 = .ok (.isub, 1) := by decide +kernel
theorem dX6_isBatch_19 : decode cX6_isBatch 19 = .ok (.invokestatic 98, 3) := by decide +kernel
theorem dX6_isBatch_22 : decode cX6_isBatch 22 = .ok (.ireturn, 1) := by decide +kernel
set_option maxRecDepth 20000 in
theorem ggX6_batch_X6_isBatch : GoodIn wsX6_batch wsX6_isBatch := goodIn_r _ [11, 12, 13, 14, 15, 10, 16, 33, 34, 35, 36, 37, 38, 39, 40, 41, 42, 43, 44, 45, 46, 47, 48, 49, 50, 51, 52, 53, 54, 55, 56, 57, 58, 59, 60, 61, 62, 63, 64, 65, 66, 67, 68, 69, 70, 71, 72, 73, 74, 75, 76, 77] (by decide +kernel) (by decide +kernel)
set_option maxRecDepth 20000 in
theorem gX6_batch_X6_isBatch : GoodIn wsX6_batch (wsV RX6 216 RX6 yX6_isBatch wsX6_isBatch) := goodIn_app (goodIn_of _ (by decide +kernel)) ggX6_batch_X6_isBatch
set_option maxRecDepth 20000 in
theorem ggX6_batch_X6_isBetween : GoodIn wsX6_batch wsX6_isBetween := goodIn_r _ [16] (by decide +kernel) (by decide +kernel)
set_option maxRecDepth 20000 in
theorem gX6_batch_X6_isBetween : GoodIn wsX6_batch (va_wsS RX6 98 yX6_isBetween wsX6_isBetween) := goodIn_app (goodIn_of _ (by decide +kernel)) ggX6_batch_X6_isBetween
set_option maxRecDepth 20000 in
theorem ggX6_batch_X6_goes : GoodIn wsX6_batch wsX6_goes := goodIn_r _ [20, 21, 33, 34, 35, 36, 37, 38, 39, 40, 41, 42, 43, 44, 45, 46, 47, 48, 49, 50, 51, 52, 53, 54, 55, 56, 57, 58, 59, 60, 61, 62, 63, 64, 65, 66, 67, 68, 69, 70, 71, 72, 73, 74, 75, 76, 77] (by decide +kernel) (by decide +kernel)
set_option maxRecDepth 20000 in
theorem gX6_batch_X6_goes : GoodIn wsX6_batch (wsV RX6 109 RX6 yX6_goes wsX6_goes) := goodIn_app (goodIn_of _ (by decide +kernel)) ggX6_batch_X6_goes
set_option maxRecDepth 20000 in
theorem ggX6_batch_X6_mixOf : GoodIn wsX6_batch wsX6_mixOf := goodIn_r _ [25, 1, 6, 26, 27, 28, 29, 30, 31, 10, 32, 33, 34, 35, 36, 37, 38, 39, 40, 41, 42, 43, 44, 45, 46, 47, 48, 49, 50, 51, 52, 53, 54, 55, 56, 57, 58, 59, 60, 61, 62, 63, 64, 65, 66, 67, 68, 69, 70, 71, 72, 73, 74, 75, 76, 77] (by decide +kernel) (by decide +kernel)
set_option maxRecDepth 20000 in
theorem gX6_batch_X6_mixOf : GoodIn wsX6_batch (wsV RX6 167 RX6 yX6_mixOf wsX6_mixOf) := goodIn_app (goodIn_of _ (by decide +kernel)) ggX6_batch_X6_mixOf
theorem dX6_batch_0 : decode cX6_batch 0 = .ok (.aload_n 0, 1) := by decide +kernel
theorem dX6_batch_1 : decode cX6_batch 1 = .ok (.aload_n 0, 1) := by decide +kernel
theorem dX6_batch_2 : decode cX6_batch 2 = .ok (.iload_n 1, 1) := by decide +kernel
theorem dX6_batch_3 : decode cX6_batch 3 = .ok (.invokevirtual 216, 3) := by decide +kernel
theorem dX6_batch_6 : decode cX6_batch 6 = .ok (.iload_n 2, 1) := by decide +kernel
theorem dX6_batch_7 : decode cX6_batch 7 = .ok (.iconst 0, 1) := by decide +kernel
theorem dX6_batch_8 : decode cX6_batch 8 = .ok (.bipush 7, 2) := by decide +kernel
theorem dX6_batch_10 : decode cX6_batch 10 = .ok (.invokestatic 98, 3) := by decide +kernel
theorem dX6_batch_13 : decode cX6_batch 13 = .ok (.iconst 1, 1) := by decide +kernel
theorem dX6_batch_14 : decode cX6_batch 14 = .ok (.invokevirtual 109, 3) := by decide +kernel
theorem dX6_batch_17 : decode cX6_batch 17 = .ok (.ifCond .ne 5, 3) := by decide +kernel
theorem dX6_batch_20 : decode cX6_batch 20 = .ok (.iconst 0, 1) := by decide +kernel
theorem dX6_batch_21 : decode cX6_batch 21 = .ok (.ireturn, 1) := by decide +kernel
theorem dX6_batch_22 : decode cX6_batch 22 = .ok (.iload_n 2, 1) := by decide +kernel
theorem dX6_batch_23 : decode cX6_batch 23 = .ok (.tableswitch 117 0 6 #[41, 69, 76, 83, 90, 97, 111], 41) := by decide +kernel
theorem dX6_batch_64 : decode cX6_batch 64 = .ok (.aload_n 0, 1) := by decide +kernel
theorem dX6_batch_65 : decode cX6_batch 65 = .ok (.getfield 47, 3) := by decide +kernel
theorem dX6_batch_68 : decode cX6_batch 68 = .ok (.iload_n 1, 1) := by decide +kernel
theorem dX6_batch_69 : decode cX6_batch 69 = .ok (.iaload, 1) := by decide +kernel
theorem dX6_batch_70 : decode cX6_batch 70 = .ok (.aload_n 0, 1) := by decide +kernel
theorem dX6_batch_71 : decode cX6_batch 71 = .ok (.getfield 50, 3) := by decide +kernel
theorem dX6_batch_74 : decode cX6_batch 74 = .ok (.iload_n 1, 1) := by decide +kernel
theorem dX6_batch_75 : decode cX6_batch 75 = .ok (.iaload, 1) := by decide +kernel
theorem dX6_batch_76 : decode cX6_batch 76 = .ok (.isub, 1) := by decide +kernel
theorem dX6_batch_77 : decode cX6_batch 77 = .ok (.aload_n 0, 1) := by decide +kernel
theorem dX6_batch_78 : decode cX6_batch 78 = .ok (.getfield 53, 3) := by decide +kernel
theorem dX6_batch_81 : decode cX6_batch 81 = .ok (.iload_n 1, 1) := by decide +kernel
theorem dX6_batch_82 : decode cX6_batch 82 = .ok (.iaload, 1) := by decide +kernel
theorem dX6_batch_83 : decode cX6_batch 83 = .ok (.isub, 1) := by decide +kernel
theorem dX6_batch_84 : decode cX6_batch 84 = .ok (.aload_n 0, 1) := by decide +kernel
theorem dX6_batch_85 : decode cX6_batch 85 = .ok (.getfield 56, 3) := by decide +kernel
theorem dX6_batch_88 : decode cX6_batch 88 = .ok (.iload_n 1, 1) := by decide +kernel
theorem dX6_batch_89 : decode cX6_batch 89 = .ok (.iaload, 1) := by decide +kernel
theorem dX6_batch_90 : decode cX6_batch 90 = .ok (.isub, 1) := by decide +kernel
theorem dX6_batch_91 : decode cX6_batch 91 = .ok (.ireturn, 1) := by decide +kernel
theorem dX6_batch_92 : decode cX6_batch 92 = .ok (.aload_n 0, 1) := by decide +kernel
theorem dX6_batch_93 : decode cX6_batch 93 = .ok (.getfield 47, 3) := by decide +kernel
theorem dX6_batch_96 : decode cX6_batch 96 = .ok (.iload_n 1, 1) := by decide +kernel
theorem dX6_batch_97 : decode cX6_batch 97 = .ok (.iaload, 1) := by decide +kernel
theorem dX6_batch_98 : decode cX6_batch 98 = .ok (.ireturn, 1) := by decide +kernel
theorem dX6_batch_99 : decode cX6_batch 99 = .ok (.aload_n 0, 1) := by decide +kernel
theorem dX6_batch_100 : decode cX6_batch 100 = .ok (.getfield 50, 3) := by decide +kernel
theorem dX6_batch_103 : decode cX6_batch 103 = .ok (.iload_n 1, 1) := by decide +kernel
theorem dX6_batch_104 : decode cX6_batch 104 = .ok (.iaload, 1) := by decide +kernel
theorem dX6_batch_105 : decode cX6_batch 105 = .ok (.ireturn, 1) := by decide +kernel
theorem dX6_batch_106 : decode cX6_batch 106 = .ok (.aload_n 0, 1) := by decide +kernel
theorem dX6_batch_107 : decode cX6_batch 107 = .ok (.getfield 53, 3) := by decide +kernel
theorem dX6_batch_110 : decode cX6_batch 110 = .ok (.iload_n 1, 1) := by decide +kernel
theorem dX6_batch_111 : decode cX6_batch 111 = .ok (.iaload, 1) := by decide +kernel
theorem dX6_batch_112 : decode cX6_batch 112 = .ok (.ireturn, 1) := by decide +kernel
theorem dX6_batch_113 : decode cX6_batch 113 = .ok (.aload_n 0, 1) := by decide +kernel
theorem dX6_batch_114 : decode cX6_batch 114 = .ok (.getfield 56, 3) := by decide +kernel
theorem dX6_batch_117 : decode cX6_batch 117 = .ok (.iload_n 1, 1) := by decide +kernel
theorem dX6_batch_118 : decode cX6_batch 118 = .ok (.iaload, 1) := by decide +kernel
theorem dX6_batch_119 : decode cX6_batch 119 = .ok (.ireturn, 1) := by decide +kernel
theorem dX6_batch_120 : decode cX6_batch 120 = .ok (.aload_n 0, 1) := by decide +kernel
theorem dX6_batch_121 : decode cX6_batch 121 = .ok (.getfield 44, 3) := by decide +kernel
theorem dX6_batch_124 : decode cX6_batch 124 = .ok (.iload_n 1, 1) := by decide +kernel
theorem dX6_batch_125 : decode cX6_batch 125 = .ok (.iaload, 1) := by decide +kernel
theorem dX6_batch_126 : decode cX6_batch 126 = .ok (.aload_n 0, 1) := by decide +kernel
theorem dX6_batch_127 : decode cX6_batch 127 = .ok (.getfield 47, 3) := by decide +kernel
theorem dX6_batch_130 : decode cX6_batch 130 = .ok (.iload_n 1, 1) := by decide +kernel
theorem dX6_batch_131 : decode cX6_batch 131 = .ok (.iaload, 1) := by decide +kernel
theorem dX6_batch_132 : decode cX6_batch 132 = .ok (.isub, 1) := by decide +kernel
theorem dX6_batch_133 : decode cX6_batch 133 = .ok (.ireturn, 1) := by decide +kernel
theorem dX6_batch_134 : decode cX6_batch 134 = .ok (.aload_n 0, 1) := by decide +kernel
theorem dX6_batch_135 : decode cX6_batch 135 = .ok (.iload_n 1, 1) := by decide +kernel
theorem dX6_batch_136 : decode cX6_batch 136 = .ok (.invokevirtual 167, 3) := by decide +kernel
theorem dX6_batch_139 : decode cX6_batch 139 = .ok (.ireturn, 1) := by decide +kernel
theorem dX6_batch_140 : decode cX6_batch 140 = .ok (.aload_n 0, 1) := by decide +kernel
theorem dX6_batch_141 : decode cX6_batch 141 = .ok (.getfield 41, 3) := by decide +kernel
theorem dX6_batch_144 : decode cX6_batch 144 = .ok (.iload_n 1, 1) := by decide +kernel
theorem dX6_batch_145 : decode cX6_batch 145 = .ok (.iaload, 1) := by decide +kernel
theorem dX6_batch_146 : decode cX6_batch 146 = .ok (.ireturn, 1) := by decide +kernel
set_option maxRecDepth 20000 in
theorem ggX6_unit_X6_goes : GoodIn wsX6_unit wsX6_goes := goodIn_r _ [8, 9, 10, 11, 12, 13, 14, 15, 16, 17, 18, 19, 20, 21, 22, 23, 24, 25, 26, 27, 28, 29, 30, 31, 32, 33, 34, 35, 36, 37, 38, 39, 40, 41, 42, 43, 44, 45, 46, 47, 48, 49, 50, 51, 52, 53, 54] (by decide +kernel) (by decide +kernel)
set_option maxRecDepth 20000 in
theorem gX6_unit_X6_goes : GoodIn wsX6_unit (wsV RX6 109 RX6 yX6_goes wsX6_goes) := goodIn_app (goodIn_of _ (by decide +kernel)) ggX6_unit_X6_goes
theorem dX6_unit_0 : decode cX6_unit 0 = .ok (.aload_n 0, 1) := by decide +kernel
theorem dX6_unit_1 : decode cX6_unit 1 = .ok (.iload_n 1, 1) := by decide +kernel
theorem dX6_unit_2 : decode cX6_unit 2 = .ok (.ifCond .lt 7, 3) := by decide +kernel
theorem dX6_unit_5 : decode cX6_unit 5 = .ok (.iconst 1, 1) := by decide +kernel
theorem dX6_unit_6 : decode cX6_unit 6 = .ok (.goto 4, 3) := by decide +kernel
theorem dX6_unit_9 : decode cX6_unit 9 = .ok (.iconst 0, 1) := by decide +kernel
theorem dX6_unit_10 : decode cX6_unit 10 = .ok (.iconst 1, 1) := by decide +kernel
theorem dX6_unit_11 : decode cX6_unit 11 = .ok (.iconst 1, 1) := by decide +kernel
theorem dX6_unit_12 : decode cX6_unit 12 = .ok (.invokevirtual 109, 3) := by decide +kernel
theorem dX6_unit_15 : decode cX6_unit 15 = .ok (.ifCond .ne 5, 3) := by decide +kernel
theorem dX6_unit_18 : decode cX6_unit 18 = .ok (.iconst 0, 1) := by decide +kernel
theorem dX6_unit_19 : decode cX6_unit 19 = .ok (.ireturn, 1) := by decide +kernel
theorem dX6_unit_20 : decode cX6_unit 20 = .ok (.aload_n 0, 1) := by decide +kernel
theorem dX6_unit_21 : decode cX6_unit 21 = .ok (.getfield 105, 3) := by decide +kernel
theorem dX6_unit_24 : decode cX6_unit 24 = .ok (.ifCond .eq 20, 3) := by decide +kernel
theorem dX6_unit_27 : decode cX6_unit 27 = .ok (.iload_n 1, 1) := by decide +kernel
theorem dX6_unit_28 : decode cX6_unit 28 = .ok (.aload_n 0, 1) := by decide +kernel
theorem dX6_unit_29 : decode cX6_unit 29 = .ok (.getfield 117, 3) := by decide +kernel
theorem dX6_unit_32 : decode cX6_unit 32 = .ok (.if_icmp .ge 12, 3) := by decide +kernel
theorem dX6_unit_35 : decode cX6_unit 35 = .ok (.aload_n 0, 1) := by decide +kernel
theorem dX6_unit_36 : decode cX6_unit 36 = .ok (.getfield 71, 3) := by decide +kernel
theorem dX6_unit_39 : decode cX6_unit 39 = .ok (.iload_n 1, 1) := by decide +kernel
theorem dX6_unit_40 : decode cX6_unit 40 = .ok (.iaload, 1) := by decide +kernel
theorem dX6_unit_41 : decode cX6_unit 41 = .ok (.goto 4, 3) := by decide +kernel
theorem dX6_unit_44 : decode cX6_unit 44 = .ok (.iconst (-1), 1) := by decide +kernel
theorem dX6_unit_45 : decode cX6_unit 45 = .ok (.ireturn, 1) := by decide +kernel
set_option maxRecDepth 20000 in
theorem ggX6_unitAnew_X6_unit : GoodIn wsX6_unitAnew wsX6_unit := goodIn_r _ [5, 6, 7, 8, 9, 10, 11, 4, 12, 13, 14, 15, 16, 17, 18, 19, 20, 21, 22, 23, 24, 25, 26, 27, 28, 29, 30, 31, 32, 33, 34, 35, 36, 37, 38, 39, 40, 41, 42, 43, 44, 45, 46, 47, 48, 49, 50, 51, 52, 53, 54, 55, 56, 57, 58] (by decide +kernel) (by decide +kernel)
set_option maxRecDepth 20000 in
theorem gX6_unitAnew_X6_unit : GoodIn wsX6_unitAnew (wsV RX6 219 RX6 yX6_unit wsX6_unit) := goodIn_app (goodIn_of _ (by decide +kernel)) ggX6_unitAnew_X6_unit
theorem dX6_unitAnew_0 : decode cX6_unitAnew 0 = .ok (.aload_n 0, 1) := by decide +kernel
theorem dX6_unitAnew_1 : decode cX6_unitAnew 1 = .ok (.iload_n 1, 1) := by decide +kernel
theorem dX6_unitAnew_2 : decode cX6_unitAnew 2 = .ok (.invokevirtual 219, 3) := by decide +kernel
theorem dX6_unitAnew_5 : decode cX6_unitAnew 5 = .ok (.ireturn, 1) := by decide +kernel
set_option maxRecDepth 20000 in
theorem ggX6_pressure_X6_isSegment : GoodIn wsX6_pressure wsX6_isSegment := goodIn_r _ [6, 7, 8, 9, 5, 10, 31, 32, 33, 34, 35, 36, 37, 38, 39, 40, 41, 42, 43, 44, 45, 46, 47, 48, 49, 50, 51, 52, 53, 54, 55, 56, 57, 58, 59, 60, 61, 62, 63, 64, 65, 66, 67, 68, 69, 70, 71, 72, 73, 74, 75] (by decide +kernel) (by decide +kernel)
set_option maxRecDepth 20000 in
theorem gX6_pressure_X6_isSegment : GoodIn wsX6_pressure (wsV RX6 222 RX6 yX6_isSegment wsX6_isSegment) := goodIn_app (goodIn_of _ (by decide +kernel)) ggX6_pressure_X6_isSegment
set_option maxRecDepth 20000 in
theorem ggX6_pressure_X6_isBetween : GoodIn wsX6_pressure wsX6_isBetween := goodIn_r _ [10] (by decide +kernel) (by decide +kernel)
set_option maxRecDepth 20000 in
theorem gX6_pressure_X6_isBetween : GoodIn wsX6_pressure (va_wsS RX6 98 yX6_isBetween wsX6_isBetween) := goodIn_app (goodIn_of _ (by decide +kernel)) ggX6_pressure_X6_isBetween
set_option maxRecDepth 20000 in
theorem ggX6_pressure_X6_goes : GoodIn wsX6_pressure wsX6_goes := goodIn_r _ [14, 15, 31, 32, 33, 34, 35, 36, 37, 38, 39, 40, 41, 42, 43, 44, 45, 46, 47, 48, 49, 50, 51, 52, 53, 54, 55, 56, 57, 58, 59, 60, 61, 62, 63, 64, 65, 66, 67, 68, 69, 70, 71, 72, 73, 74, 75] (by decide +kernel) (by decide +kernel)
set_option maxRecDepth 20000 in
theorem gX6_pressure_X6_goes : GoodIn wsX6_pressure (wsV RX6 109 RX6 yX6_goes wsX6_goes) := goodIn_app (goodIn_of _ (by decide +kernel)) ggX6_pressure_X6_goes
set_option maxRecDepth 20000 in
theorem ggX6_pressure_X6_pressureOf : GoodIn wsX6_pressure wsX6_pressureOf := goodIn_r _ [19, 7, 20, 21, 22, 23, 24, 25, 26, 27, 28, 29, 5, 30, 31, 32, 33, 34, 35, 36, 37, 38, 39, 40, 41, 42, 43, 44, 45, 46, 47, 48, 49, 50, 51, 52, 53, 54, 55, 56, 57, 58, 59, 60, 61, 62, 63, 64, 65, 66, 67, 68, 69, 70, 71, 72, 73, 74, 75] (by decide +kernel) (by decide +kernel)
set_option maxRecDepth 20000 in
theorem gX6_pressure_X6_pressureOf : GoodIn wsX6_pressure (wsV RX6 160 RX6 yX6_pressureOf wsX6_pressureOf) := goodIn_app (goodIn_of _ (by decide +kernel)) ggX6_pressure_X6_pressureOf
theorem dX6_pressure_0 : decode cX6_pressure 0 = .ok (.aload_n 0, 1) := by decide +kernel
theorem dX6_pressure_1 : decode cX6_pressure 1 = .ok (.aload_n 0, 1) := by decide +kernel
theorem dX6_pressure_2 : decode cX6_pressure 2 = .ok (.iload_n 1, 1) := by decide +kernel
theorem dX6_pressure_3 : decode cX6_pressure 3 = .ok (.invokevirtual 222, 3) := by decide +kernel
theorem dX6_pressure_6 : decode cX6_pressure 6 = .ok (.iload_n 2, 1) := by decide +kernel
theorem dX6_pressure_7 : decode cX6_pressure 7 = .ok (.iconst 0, 1) := by decide +kernel
theorem dX6_pressure_8 : decode cX6_pressure 8 = .ok (.bipush 10, 2) := by decide +kernel
theorem dX6_pressure_10 : decode cX6_pressure 10 = .ok (.invokestatic 98, 3) := by decide +kernel
theorem dX6_pressure_13 : decode cX6_pressure 13 = .ok (.aload_n 0, 1) := by decide +kernel
theorem dX6_pressure_14 : decode cX6_pressure 14 = .ok (.getfield 105, 3) := by decide +kernel
theorem dX6_pressure_17 : decode cX6_pressure 17 = .ok (.invokevirtual 109, 3) := by decide +kernel
theorem dX6_pressure_20 : decode cX6_pressure 20 = .ok (.ifCond .ne 5, 3) := by decide +kernel
theorem dX6_pressure_23 : decode cX6_pressure 23 = .ok (.iconst 0, 1) := by decide +kernel
theorem dX6_pressure_24 : decode cX6_pressure 24 = .ok (.ireturn, 1) := by decide +kernel
theorem dX6_pressure_25 : decode cX6_pressure 25 = .ok (.aload_n 0, 1) := by decide +kernel
theorem dX6_pressure_26 : decode cX6_pressure 26 = .ok (.iload_n 1, 1) := by decide +kernel
theorem dX6_pressure_27 : decode cX6_pressure 27 = .ok (.iload_n 2, 1) := by decide +kernel
theorem dX6_pressure_28 : decode cX6_pressure 28 = .ok (.invokevirtual 160, 3) := by decide +kernel
theorem dX6_pressure_31 : decode cX6_pressure 31 = .ok (.ireturn, 1) := by decide +kernel
set_option maxRecDepth 20000 in
theorem ggX6_tank_X6_isTank : GoodIn wsX6_tank wsX6_isTank := goodIn_r _ [7, 8, 9, 6, 10] (by decide +kernel) (by decide +kernel)
set_option maxRecDepth 20000 in
theorem gX6_tank_X6_isTank : GoodIn wsX6_tank (va_wsS RX6 132 yX6_isTank wsX6_isTank) := goodIn_app (goodIn_of _ (by decide +kernel)) ggX6_tank_X6_isTank
set_option maxRecDepth 20000 in
theorem ggX6_tank_X6_isBetween : GoodIn wsX6_tank wsX6_isBetween := goodIn_r _ [10] (by decide +kernel) (by decide +kernel)
set_option maxRecDepth 20000 in
theorem gX6_tank_X6_isBetween : GoodIn wsX6_tank (va_wsS RX6 98 yX6_isBetween wsX6_isBetween) := goodIn_app (goodIn_of _ (by decide +kernel)) ggX6_tank_X6_isBetween
set_option maxRecDepth 20000 in
theorem ggX6_tank_X6_goes : GoodIn wsX6_tank wsX6_goes := goodIn_r _ [14, 15, 16, 17, 18, 19, 20, 21, 22, 23, 24, 25, 26, 27, 28, 29, 30, 31, 32, 33, 34, 35, 36, 37, 38, 39, 40, 41, 42, 43, 44, 45, 46, 47, 48, 49, 50, 51, 52, 53, 54, 55, 56, 57, 58, 59, 60] (by decide +kernel) (by decide +kernel)
set_option maxRecDepth 20000 in
theorem gX6_tank_X6_goes : GoodIn wsX6_tank (wsV RX6 109 RX6 yX6_goes wsX6_goes) := goodIn_app (goodIn_of _ (by decide +kernel)) ggX6_tank_X6_goes
theorem dX6_tank_0 : decode cX6_tank 0 = .ok (.aload_n 0, 1) := by decide +kernel
theorem dX6_tank_1 : decode cX6_tank 1 = .ok (.iload_n 1, 1) := by decide +kernel
theorem dX6_tank_2 : decode cX6_tank 2 = .ok (.invokestatic 132, 3) := by decide +kernel
theorem dX6_tank_5 : decode cX6_tank 5 = .ok (.iload_n 2, 1) := by decide +kernel
theorem dX6_tank_6 : decode cX6_tank 6 = .ok (.iconst 0, 1) := by decide +kernel
theorem dX6_tank_7 : decode cX6_tank 7 = .ok (.iconst 2, 1) := by decide +kernel
theorem dX6_tank_8 : decode cX6_tank 8 = .ok (.invokestatic 98, 3) := by decide +kernel
theorem dX6_tank_11 : decode cX6_tank 11 = .ok (.iconst 1, 1) := by decide +kernel
theorem dX6_tank_12 : decode cX6_tank 12 = .ok (.invokevirtual 109, 3) := by decide +kernel
theorem dX6_tank_15 : decode cX6_tank 15 = .ok (.ifCond .ne 5, 3) := by decide +kernel
theorem dX6_tank_18 : decode cX6_tank 18 = .ok (.iconst 0, 1) := by decide +kernel
theorem dX6_tank_19 : decode cX6_tank 19 = .ok (.ireturn, 1) := by decide +kernel
theorem dX6_tank_20 : decode cX6_tank 20 = .ok (.iload_n 2, 1) := by decide +kernel
theorem dX6_tank_21 : decode cX6_tank 21 = .ok (.ifCond .ne 12, 3) := by decide +kernel
theorem dX6_tank_24 : decode cX6_tank 24 = .ok (.aload_n 0, 1) := by decide +kernel
theorem dX6_tank_25 : decode cX6_tank 25 = .ok (.getfield 83, 3) := by decide +kernel
theorem dX6_tank_28 : decode cX6_tank 28 = .ok (.iload_n 1, 1) := by decide +kernel
theorem dX6_tank_29 : decode cX6_tank 29 = .ok (.iaload, 1) := by decide +kernel
theorem dX6_tank_30 : decode cX6_tank 30 = .ok (.goto 36, 3) := by decide +kernel
theorem dX6_tank_33 : decode cX6_tank 33 = .ok (.iload_n 2, 1) := by decide +kernel
theorem dX6_tank_34 : decode cX6_tank 34 = .ok (.iconst 2, 1) := by decide +kernel
theorem dX6_tank_35 : decode cX6_tank 35 = .ok (.if_icmp .ne 12, 3) := by decide +kernel
theorem dX6_tank_38 : decode cX6_tank 38 = .ok (.aload_n 0, 1) := by decide +kernel
theorem dX6_tank_39 : decode cX6_tank 39 = .ok (.getfield 89, 3) := by decide +kernel
theorem dX6_tank_42 : decode cX6_tank 42 = .ok (.iload_n 1, 1) := by decide +kernel
theorem dX6_tank_43 : decode cX6_tank 43 = .ok (.iaload, 1) := by decide +kernel
theorem dX6_tank_44 : decode cX6_tank 44 = .ok (.goto 22, 3) := by decide +kernel
theorem dX6_tank_47 : decode cX6_tank 47 = .ok (.aload_n 0, 1) := by decide +kernel
theorem dX6_tank_48 : decode cX6_tank 48 = .ok (.getfield 83, 3) := by decide +kernel
theorem dX6_tank_51 : decode cX6_tank 51 = .ok (.iload_n 1, 1) := by decide +kernel
theorem dX6_tank_52 : decode cX6_tank 52 = .ok (.iaload, 1) := by decide +kernel
theorem dX6_tank_53 : decode cX6_tank 53 = .ok (.ifCond .ne 7, 3) := by decide +kernel
theorem dX6_tank_56 : decode cX6_tank 56 = .ok (.iconst (-1), 1) := by decide +kernel
theorem dX6_tank_57 : decode cX6_tank 57 = .ok (.goto 9, 3) := by decide +kernel
theorem dX6_tank_60 : decode cX6_tank 60 = .ok (.aload_n 0, 1) := by decide +kernel
theorem dX6_tank_61 : decode cX6_tank 61 = .ok (.getfield 86, 3) := by decide +kernel
theorem dX6_tank_64 : decode cX6_tank 64 = .ok (.iload_n 1, 1) := by decide +kernel
theorem dX6_tank_65 : decode cX6_tank 65 = .ok (.iaload, 1) := by decide +kernel
theorem dX6_tank_66 : decode cX6_tank 66 = .ok (.ireturn, 1) := by decide +kernel
theorem dX6_balance_0 : decode cX6_balance 0 = .ok (.iconst 0, 1) := by decide +kernel
theorem dX6_balance_1 : decode cX6_balance 1 = .ok (.istore_n 1, 1) := by decide +kernel
theorem dX6_balance_2 : decode cX6_balance 2 = .ok (.iconst 0, 1) := by decide +kernel
theorem dX6_balance_3 : decode cX6_balance 3 = .ok (.istore_n 2, 1) := by decide +kernel
theorem dX6_balance_4 : decode cX6_balance 4 = .ok (.iload_n 2, 1) := by decide +kernel
theorem dX6_balance_5 : decode cX6_balance 5 = .ok (.iconst 5, 1) := by decide +kernel
theorem dX6_balance_6 : decode cX6_balance 6 = .ok (.if_icmp .ge 18, 3) := by decide +kernel
theorem dX6_balance_9 : decode cX6_balance 9 = .ok (.iload_n 1, 1) := by decide +kernel
theorem dX6_balance_10 : decode cX6_balance 10 = .ok (.aload_n 0, 1) := by decide +kernel
theorem dX6_balance_11 : decode cX6_balance 11 = .ok (.getfield 92, 3) := by decide +kernel
theorem dX6_balance_14 : decode cX6_balance 14 = .ok (.iload_n 2, 1) := by decide +kernel
theorem dX6_balance_15 : decode cX6_balance 15 = .ok (.iaload, 1) := by decide +kernel
theorem dX6_balance_16 : decode cX6_balance 16 = .ok (.iadd, 1) := by decide +kernel
theorem dX6_balance_17 : decode cX6_balance 17 = .ok (.istore_n 1, 1) := by decide +kernel
theorem dX6_balance_18 : decode cX6_balance 18 = .ok (.iinc 2 1, 3) := by decide +kernel
theorem dX6_balance_21 : decode cX6_balance 21 = .ok (.goto (-17), 3) := by decide +kernel
theorem dX6_balance_24 : decode cX6_balance 24 = .ok (.iload_n 1, 1) := by decide +kernel
theorem dX6_balance_25 : decode cX6_balance 25 = .ok (.ireturn, 1) := by decide +kernel
set_option maxRecDepth 20000 in
theorem ggX6_pipe_X6_isBetween : GoodIn wsX6_pipe wsX6_isBetween := goodIn_r _ [8] (by decide +kernel) (by decide +kernel)
set_option maxRecDepth 20000 in
theorem gX6_pipe_X6_isBetween : GoodIn wsX6_pipe (va_wsS RX6 98 yX6_isBetween wsX6_isBetween) := goodIn_app (goodIn_of _ (by decide +kernel)) ggX6_pipe_X6_isBetween
set_option maxRecDepth 20000 in
theorem ggX6_pipe_X6_goes : GoodIn wsX6_pipe wsX6_goes := goodIn_r _ [12, 13, 19, 20, 21, 22, 23, 24, 25, 26, 27, 28, 29, 30, 31, 32, 33, 34, 35, 36, 37, 38, 39, 40, 41, 42, 43, 44, 45, 46, 47, 48, 49, 50, 51, 52, 53, 54, 55, 56, 57, 58, 59, 60, 61, 62, 63] (by decide +kernel) (by decide +kernel)
set_option maxRecDepth 20000 in
theorem gX6_pipe_X6_goes : GoodIn wsX6_pipe (wsV RX6 109 RX6 yX6_goes wsX6_goes) := goodIn_app (goodIn_of _ (by decide +kernel)) ggX6_pipe_X6_goes
set_option maxRecDepth 20000 in
theorem ggX6_pipe_X6_balance : GoodIn wsX6_pipe wsX6_balance := goodIn_r _ [17, 18, 19, 20, 21, 22, 23, 24, 25, 26, 27, 28, 29, 30, 31, 32, 33, 34, 35, 36, 37, 38, 39, 40, 41, 42, 43, 44, 45, 46, 47, 48, 49, 50, 51, 52, 53, 54, 55, 56, 57, 58, 59, 60, 61, 62, 63] (by decide +kernel) (by decide +kernel)
set_option maxRecDepth 20000 in
theorem gX6_pipe_X6_balance : GoodIn wsX6_pipe (wsV RX6 225 RX6 yX6_balance wsX6_balance) := goodIn_app (goodIn_of _ (by decide +kernel)) ggX6_pipe_X6_balance
theorem dX6_pipe_0 : decode cX6_pipe 0 = .ok (.aload_n 0, 1) := by decide +kernel
theorem dX6_pipe_1 : decode cX6_pipe 1 = .ok (.iload_n 1, 1) := by decide +kernel
theorem dX6_pipe_2 : decode cX6_pipe 2 = .ok (.iconst 0, 1) := by decide +kernel
theorem dX6_pipe_3 : decode cX6_pipe 3 = .ok (.iconst 5, 1) := by decide +kernel
theorem dX6_pipe_4 : decode cX6_pipe 4 = .ok (.invokestatic 98, 3) := by decide +kernel
theorem dX6_pipe_7 : decode cX6_pipe 7 = .ok (.iconst 1, 1) := by decide +kernel
theorem dX6_pipe_8 : decode cX6_pipe 8 = .ok (.iconst 1, 1) := by decide +kernel
theorem dX6_pipe_9 : decode cX6_pipe 9 = .ok (.invokevirtual 109, 3) := by decide +kernel
theorem dX6_pipe_12 : decode cX6_pipe 12 = .ok (.ifCond .ne 5, 3) := by decide +kernel
theorem dX6_pipe_15 : decode cX6_pipe 15 = .ok (.iconst 0, 1) := by decide +kernel
theorem dX6_pipe_16 : decode cX6_pipe 16 = .ok (.ireturn, 1) := by decide +kernel
theorem dX6_pipe_17 : decode cX6_pipe 17 = .ok (.iload_n 1, 1) := by decide +kernel
theorem dX6_pipe_18 : decode cX6_pipe 18 = .ok (.ifCond .ne 10, 3) := by decide +kernel
theorem dX6_pipe_21 : decode cX6_pipe 21 = .ok (.aload_n 0, 1) := by decide +kernel
theorem dX6_pipe_22 : decode cX6_pipe 22 = .ok (.getfield 204, 3) := by decide +kernel
theorem dX6_pipe_25 : decode cX6_pipe 25 = .ok (.goto 72, 3) := by decide +kernel
theorem dX6_pipe_28 : decode cX6_pipe 28 = .ok (.iload_n 1, 1) := by decide +kernel
theorem dX6_pipe_29 : decode cX6_pipe 29 = .ok (.iconst 1, 1) := by decide +kernel
theorem dX6_pipe_30 : decode cX6_pipe 30 = .ok (.if_icmp .ne 10, 3) := by decide +kernel
theorem dX6_pipe_33 : decode cX6_pipe 33 = .ok (.aload_n 0, 1) := by decide +kernel
theorem dX6_pipe_34 : decode cX6_pipe 34 = .ok (.invokevirtual 225, 3) := by decide +kernel
theorem dX6_pipe_37 : decode cX6_pipe 37 = .ok (.goto 60, 3) := by decide +kernel
theorem dX6_pipe_40 : decode cX6_pipe 40 = .ok (.iload_n 1, 1) := by decide +kernel
theorem dX6_pipe_41 : decode cX6_pipe 41 = .ok (.iconst 2, 1) := by decide +kernel
theorem dX6_pipe_42 : decode cX6_pipe 42 = .ok (.if_icmp .ne 19, 3) := by decide +kernel
theorem dX6_pipe_45 : decode cX6_pipe 45 = .ok (.aload_n 0, 1) := by decide +kernel
theorem dX6_pipe_46 : decode cX6_pipe 46 = .ok (.invokevirtual 225, 3) := by decide +kernel
theorem dX6_pipe_49 : decode cX6_pipe 49 = .ok (.iconst 3, 1) := by decide +kernel
theorem dX6_pipe_50 : decode cX6_pipe 50 = .ok (.if_icmp .lt 7, 3) := by decide +kernel
theorem dX6_pipe_53 : decode cX6_pipe 53 = .ok (.iconst 1, 1) := by decide +kernel
theorem dX6_pipe_54 : decode cX6_pipe 54 = .ok (.goto 43, 3) := by decide +kernel
theorem dX6_pipe_57 : decode cX6_pipe 57 = .ok (.iconst 0, 1) := by decide +kernel
theorem dX6_pipe_58 : decode cX6_pipe 58 = .ok (.goto 39, 3) := by decide +kernel
theorem dX6_pipe_61 : decode cX6_pipe 61 = .ok (.iload_n 1, 1) := by decide +kernel
theorem dX6_pipe_62 : decode cX6_pipe 62 = .ok (.iconst 3, 1) := by decide +kernel
theorem dX6_pipe_63 : decode cX6_pipe 63 = .ok (.if_icmp .ne 10, 3) := by decide +kernel
theorem dX6_pipe_66 : decode cX6_pipe 66 = .ok (.aload_n 0, 1) := by decide +kernel
theorem dX6_pipe_67 : decode cX6_pipe 67 = .ok (.getfield 170, 3) := by decide +kernel
theorem dX6_pipe_70 : decode cX6_pipe 70 = .ok (.goto 27, 3) := by decide +kernel
theorem dX6_pipe_73 : decode cX6_pipe 73 = .ok (.iload_n 1, 1) := by decide +kernel
theorem dX6_pipe_74 : decode cX6_pipe 74 = .ok (.iconst 4, 1) := by decide +kernel
theorem dX6_pipe_75 : decode cX6_pipe 75 = .ok (.if_icmp .ne 18, 3) := by decide +kernel
theorem dX6_pipe_78 : decode cX6_pipe 78 = .ok (.aload_n 0, 1) := by decide +kernel
theorem dX6_pipe_79 : decode cX6_pipe 79 = .ok (.getfield 147, 3) := by decide +kernel
theorem dX6_pipe_82 : decode cX6_pipe 82 = .ok (.ifCond .eq 7, 3) := by decide +kernel
theorem dX6_pipe_85 : decode cX6_pipe 85 = .ok (.iconst 1, 1) := by decide +kernel
theorem dX6_pipe_86 : decode cX6_pipe 86 = .ok (.goto 11, 3) := by decide +kernel
theorem dX6_pipe_89 : decode cX6_pipe 89 = .ok (.iconst 0, 1) := by decide +kernel
theorem dX6_pipe_90 : decode cX6_pipe 90 = .ok (.goto 7, 3) := by decide +kernel
theorem dX6_pipe_93 : decode cX6_pipe 93 = .ok (.aload_n 0, 1) := by decide +kernel
theorem dX6_pipe_94 : decode cX6_pipe 94 = .ok (.getfield 197, 3) := by decide +kernel
theorem dX6_pipe_97 : decode cX6_pipe 97 = .ok (.ireturn, 1) := by decide +kernel
set_option maxRecDepth 20000 in
theorem ggX6_dirt_X6_isSegment : GoodIn wsX6_dirt wsX6_isSegment := goodIn_r _ [6, 7, 8, 9, 5, 10, 16, 17, 18, 19, 20, 21, 22, 23, 24, 25, 26, 27, 28, 29, 30, 31, 32, 33, 34, 35, 36, 37, 38, 39, 40, 41, 42, 43, 44, 45, 46, 47, 48, 49, 50, 51, 52, 53, 54, 55, 56, 57, 58, 59, 60] (by decide +kernel) (by decide +kernel)
set_option maxRecDepth 20000 in
theorem gX6_dirt_X6_isSegment : GoodIn wsX6_dirt (wsV RX6 222 RX6 yX6_isSegment wsX6_isSegment) := goodIn_app (goodIn_of _ (by decide +kernel)) ggX6_dirt_X6_isSegment
set_option maxRecDepth 20000 in
theorem ggX6_dirt_X6_goes : GoodIn wsX6_dirt wsX6_goes := goodIn_r _ [14, 15, 16, 17, 18, 19, 20, 21, 22, 23, 24, 25, 26, 27, 28, 29, 30, 31, 32, 33, 34, 35, 36, 37, 38, 39, 40, 41, 42, 43, 44, 45, 46, 47, 48, 49, 50, 51, 52, 53, 54, 55, 56, 57, 58, 59, 60] (by decide +kernel) (by decide +kernel)
set_option maxRecDepth 20000 in
theorem gX6_dirt_X6_goes : GoodIn wsX6_dirt (wsV RX6 109 RX6 yX6_goes wsX6_goes) := goodIn_app (goodIn_of _ (by decide +kernel)) ggX6_dirt_X6_goes
theorem dX6_dirt_0 : decode cX6_dirt 0 = .ok (.aload_n 0, 1) := by decide +kernel
theorem dX6_dirt_1 : decode cX6_dirt 1 = .ok (.aload_n 0, 1) := by decide +kernel
theorem dX6_dirt_2 : decode cX6_dirt 2 = .ok (.iload_n 1, 1) := by decide +kernel
theorem dX6_dirt_3 : decode cX6_dirt 3 = .ok (.invokevirtual 222, 3) := by decide +kernel
theorem dX6_dirt_6 : decode cX6_dirt 6 = .ok (.iconst 1, 1) := by decide +kernel
theorem dX6_dirt_7 : decode cX6_dirt 7 = .ok (.iconst 1, 1) := by decide +kernel
theorem dX6_dirt_8 : decode cX6_dirt 8 = .ok (.invokevirtual 109, 3) := by decide +kernel
theorem dX6_dirt_11 : decode cX6_dirt 11 = .ok (.ifCond .ne 5, 3) := by decide +kernel
theorem dX6_dirt_14 : decode cX6_dirt 14 = .ok (.iconst 0, 1) := by decide +kernel
theorem dX6_dirt_15 : decode cX6_dirt 15 = .ok (.ireturn, 1) := by decide +kernel
theorem dX6_dirt_16 : decode cX6_dirt 16 = .ok (.aload_n 0, 1) := by decide +kernel
theorem dX6_dirt_17 : decode cX6_dirt 17 = .ok (.getfield 19, 3) := by decide +kernel
theorem dX6_dirt_20 : decode cX6_dirt 20 = .ok (.iload_n 1, 1) := by decide +kernel
theorem dX6_dirt_21 : decode cX6_dirt 21 = .ok (.iaload, 1) := by decide +kernel
theorem dX6_dirt_22 : decode cX6_dirt 22 = .ok (.ireturn, 1) := by decide +kernel
theorem dX6_waits_0 : decode cX6_waits 0 = .ok (.iconst 0, 1) := by decide +kernel
theorem dX6_waits_1 : decode cX6_waits 1 = .ok (.istore_n 2, 1) := by decide +kernel
theorem dX6_waits_2 : decode cX6_waits 2 = .ok (.iconst 1, 1) := by decide +kernel
theorem dX6_waits_3 : decode cX6_waits 3 = .ok (.istore_n 3, 1) := by decide +kernel
theorem dX6_waits_4 : decode cX6_waits 4 = .ok (.iload_n 3, 1) := by decide +kernel
theorem dX6_waits_5 : decode cX6_waits 5 = .ok (.aload_n 0, 1) := by decide +kernel
theorem dX6_waits_6 : decode cX6_waits 6 = .ok (.getfield 34, 3) := by decide +kernel
theorem dX6_waits_9 : decode cX6_waits 9 = .ok (.if_icmp .ge 39, 3) := by decide +kernel
theorem dX6_waits_12 : decode cX6_waits 12 = .ok (.iload_n 2, 1) := by decide +kernel
theorem dX6_waits_13 : decode cX6_waits 13 = .ok (.aload_n 0, 1) := by decide +kernel
theorem dX6_waits_14 : decode cX6_waits 14 = .ok (.getfield 38, 3) := by decide +kernel
theorem dX6_waits_17 : decode cX6_waits 17 = .ok (.iload_n 3, 1) := by decide +kernel
theorem dX6_waits_18 : decode cX6_waits 18 = .ok (.iaload, 1) := by decide +kernel
theorem dX6_waits_19 : decode cX6_waits 19 = .ok (.iload_n 1, 1) := by decide +kernel
theorem dX6_waits_20 : decode cX6_waits 20 = .ok (.if_icmp .ne 19, 3) := by decide +kernel
theorem dX6_waits_23 : decode cX6_waits 23 = .ok (.aload_n 0, 1) := by decide +kernel
theorem dX6_waits_24 : decode cX6_waits 24 = .ok (.getfield 44, 3) := by decide +kernel
theorem dX6_waits_27 : decode cX6_waits 27 = .ok (.iload_n 3, 1) := by decide +kernel
theorem dX6_waits_28 : decode cX6_waits 28 = .ok (.iaload, 1) := by decide +kernel
theorem dX6_waits_29 : decode cX6_waits 29 = .ok (.aload_n 0, 1) := by decide +kernel
theorem dX6_waits_30 : decode cX6_waits 30 = .ok (.getfield 47, 3) := by decide +kernel
theorem dX6_waits_33 : decode cX6_waits 33 = .ok (.iload_n 3, 1) := by decide +kernel
theorem dX6_waits_34 : decode cX6_waits 34 = .ok (.iaload, 1) := by decide +kernel
theorem dX6_waits_35 : decode cX6_waits 35 = .ok (.isub, 1) := by decide +kernel
theorem dX6_waits_36 : decode cX6_waits 36 = .ok (.goto 4, 3) := by decide +kernel
theorem dX6_waits_39 : decode cX6_waits 39 = .ok (.iconst 0, 1) := by decide +kernel
theorem dX6_waits_40 : decode cX6_waits 40 = .ok (.iadd, 1) := by decide +kernel
theorem dX6_waits_41 : decode cX6_waits 41 = .ok (.istore_n 2, 1) := by decide +kernel
theorem dX6_waits_42 : decode cX6_waits 42 = .ok (.iinc 3 1, 3) := by decide +kernel
theorem dX6_waits_45 : decode cX6_waits 45 = .ok (.goto (-41), 3) := by decide +kernel
theorem dX6_waits_48 : decode cX6_waits 48 = .ok (.iload_n 2, 1) := by decide +kernel
theorem dX6_waits_49 : decode cX6_waits 49 = .ok (.ireturn, 1) := by decide +kernel
theorem dX6_enteredOf_0 : decode cX6_enteredOf 0 = .ok (.iconst 0, 1) := by decide +kernel
theorem dX6_enteredOf_1 : decode cX6_enteredOf 1 = .ok (.istore_n 2, 1) := by decide +kernel
theorem dX6_enteredOf_2 : decode cX6_enteredOf 2 = .ok (.iconst 1, 1) := by decide +kernel
theorem dX6_enteredOf_3 : decode cX6_enteredOf 3 = .ok (.istore_n 3, 1) := by decide +kernel
theorem dX6_enteredOf_4 : decode cX6_enteredOf 4 = .ok (.iload_n 3, 1) := by decide +kernel
theorem dX6_enteredOf_5 : decode cX6_enteredOf 5 = .ok (.aload_n 0, 1) := by decide +kernel
theorem dX6_enteredOf_6 : decode cX6_enteredOf 6 = .ok (.getfield 34, 3) := by decide +kernel
theorem dX6_enteredOf_9 : decode cX6_enteredOf 9 = .ok (.if_icmp .ge 32, 3) := by decide +kernel
theorem dX6_enteredOf_12 : decode cX6_enteredOf 12 = .ok (.iload_n 2, 1) := by decide +kernel
theorem dX6_enteredOf_13 : decode cX6_enteredOf 13 = .ok (.aload_n 0, 1) := by decide +kernel
theorem dX6_enteredOf_14 : decode cX6_enteredOf 14 = .ok (.getfield 38, 3) := by decide +kernel
theorem dX6_enteredOf_17 : decode cX6_enteredOf 17 = .ok (.iload_n 3, 1) := by decide +kernel
theorem dX6_enteredOf_18 : decode cX6_enteredOf 18 = .ok (.iaload, 1) := by decide +kernel
theorem dX6_enteredOf_19 : decode cX6_enteredOf 19 = .ok (.iload_n 1, 1) := by decide +kernel
theorem dX6_enteredOf_20 : decode cX6_enteredOf 20 = .ok (.if_icmp .ne 12, 3) := by decide +kernel
theorem dX6_enteredOf_23 : decode cX6_enteredOf 23 = .ok (.aload_n 0, 1) := by decide +kernel
theorem dX6_enteredOf_24 : decode cX6_enteredOf 24 = .ok (.getfield 47, 3) := by decide +kernel
theorem dX6_enteredOf_27 : decode cX6_enteredOf 27 = .ok (.iload_n 3, 1) := by decide +kernel
theorem dX6_enteredOf_28 : decode cX6_enteredOf 28 = .ok (.iaload, 1) := by decide +kernel
theorem dX6_enteredOf_29 : decode cX6_enteredOf 29 = .ok (.goto 4, 3) := by decide +kernel
theorem dX6_enteredOf_32 : decode cX6_enteredOf 32 = .ok (.iconst 0, 1) := by decide +kernel
theorem dX6_enteredOf_33 : decode cX6_enteredOf 33 = .ok (.iadd, 1) := by decide +kernel
theorem dX6_enteredOf_34 : decode cX6_enteredOf 34 = .ok (.istore_n 2, 1) := by decide +kernel
theorem dX6_enteredOf_35 : decode cX6_enteredOf 35 = .ok (.iinc 3 1, 3) := by decide +kernel
theorem dX6_enteredOf_38 : decode cX6_enteredOf 38 = .ok (.goto (-34), 3) := by decide +kernel
theorem dX6_enteredOf_41 : decode cX6_enteredOf 41 = .ok (.iload_n 2, 1) := by decide +kernel
theorem dX6_enteredOf_42 : decode cX6_enteredOf 42 = .ok (.ireturn, 1) := by decide +kernel
set_option maxRecDepth 20000 in
theorem ggX6_share_X6_isShipper : GoodIn wsX6_share wsX6_isShipper := goodIn_r _ [4, 5, 6, 3, 7] (by decide +kernel) (by decide +kernel)
set_option maxRecDepth 20000 in
theorem gX6_share_X6_isShipper : GoodIn wsX6_share (va_wsS RX6 123 yX6_isShipper wsX6_isShipper) := goodIn_app (goodIn_of _ (by decide +kernel)) ggX6_share_X6_isShipper
set_option maxRecDepth 20000 in
theorem ggX6_share_X6_isBetween : GoodIn wsX6_share wsX6_isBetween := goodIn_r _ [7] (by decide +kernel) (by decide +kernel)
set_option maxRecDepth 20000 in
theorem gX6_share_X6_isBetween : GoodIn wsX6_share (va_wsS RX6 98 yX6_isBetween wsX6_isBetween) := goodIn_app (goodIn_of _ (by decide +kernel)) ggX6_share_X6_isBetween
set_option maxRecDepth 20000 in
theorem ggX6_share_X6_goes : GoodIn wsX6_share wsX6_goes := goodIn_r _ [11, 12, 25, 26, 27, 28, 29, 30, 31, 32, 33, 34, 35, 36, 37, 38, 39, 40, 41, 42, 43, 44, 45, 46, 47, 48, 49, 50, 51, 52, 53, 54, 55, 56, 57, 58, 59, 60, 61, 62, 63, 64, 65, 66, 67, 68, 69] (by decide +kernel) (by decide +kernel)
set_option maxRecDepth 20000 in
theorem gX6_share_X6_goes : GoodIn wsX6_share (wsV RX6 109 RX6 yX6_goes wsX6_goes) := goodIn_app (goodIn_of _ (by decide +kernel)) ggX6_share_X6_goes
set_option maxRecDepth 20000 in
theorem ggX6_share_X6_waits : GoodIn wsX6_share wsX6_waits := goodIn_r _ [16, 17, 18, 19, 20, 25, 26, 27, 28, 29, 30, 31, 32, 33, 34, 35, 36, 37, 38, 39, 40, 41, 42, 43, 44, 45, 46, 47, 48, 49, 50, 51, 52, 53, 54, 55, 56, 57, 58, 59, 60, 61, 62, 63, 64, 65, 66, 67, 68, 69] (by decide +kernel) (by decide +kernel)
set_option maxRecDepth 20000 in
theorem gX6_share_X6_waits : GoodIn wsX6_share (wsV RX6 228 RX6 yX6_waits wsX6_waits) := goodIn_app (goodIn_of _ (by decide +kernel)) ggX6_share_X6_waits
set_option maxRecDepth 20000 in
theorem ggX6_share_X6_enteredOf : GoodIn wsX6_share wsX6_enteredOf := goodIn_r _ [24, 17, 18, 20, 25, 26, 27, 28, 29, 30, 31, 32, 33, 34, 35, 36, 37, 38, 39, 40, 41, 42, 43, 44, 45, 46, 47, 48, 49, 50, 51, 52, 53, 54, 55, 56, 57, 58, 59, 60, 61, 62, 63, 64, 65, 66, 67, 68, 69] (by decide +kernel) (by decide +kernel)
set_option maxRecDepth 20000 in
theorem gX6_share_X6_enteredOf : GoodIn wsX6_share (wsV RX6 231 RX6 yX6_enteredOf wsX6_enteredOf) := goodIn_app (goodIn_of _ (by decide +kernel)) ggX6_share_X6_enteredOf
theorem dX6_share_0 : decode cX6_share 0 = .ok (.aload_n 0, 1) := by decide +kernel
theorem dX6_share_1 : decode cX6_share 1 = .ok (.iload_n 1, 1) := by decide +kernel
theorem dX6_share_2 : decode cX6_share 2 = .ok (.invokestatic 123, 3) := by decide +kernel
theorem dX6_share_5 : decode cX6_share 5 = .ok (.iload_n 2, 1) := by decide +kernel
theorem dX6_share_6 : decode cX6_share 6 = .ok (.iconst 0, 1) := by decide +kernel
theorem dX6_share_7 : decode cX6_share 7 = .ok (.sipush 9999, 3) := by decide +kernel
theorem dX6_share_10 : decode cX6_share 10 = .ok (.invokestatic 98, 3) := by decide +kernel
theorem dX6_share_13 : decode cX6_share 13 = .ok (.iconst 1, 1) := by decide +kernel
theorem dX6_share_14 : decode cX6_share 14 = .ok (.invokevirtual 109, 3) := by decide +kernel
theorem dX6_share_17 : decode cX6_share 17 = .ok (.ifCond .ne 5, 3) := by decide +kernel
theorem dX6_share_20 : decode cX6_share 20 = .ok (.iconst 0, 1) := by decide +kernel
theorem dX6_share_21 : decode cX6_share 21 = .ok (.ireturn, 1) := by decide +kernel
theorem dX6_share_22 : decode cX6_share 22 = .ok (.iconst 0, 1) := by decide +kernel
theorem dX6_share_23 : decode cX6_share 23 = .ok (.istore_n 3, 1) := by decide +kernel
theorem dX6_share_24 : decode cX6_share 24 = .ok (.iconst 0, 1) := by decide +kernel
theorem dX6_share_25 : decode cX6_share 25 = .ok (.istore 4, 2) := by decide +kernel
theorem dX6_share_27 : decode cX6_share 27 = .ok (.iconst 0, 1) := by decide +kernel
theorem dX6_share_28 : decode cX6_share 28 = .ok (.istore 5, 2) := by decide +kernel
theorem dX6_share_30 : decode cX6_share 30 = .ok (.iload 5, 2) := by decide +kernel
theorem dX6_share_32 : decode cX6_share 32 = .ok (.iconst 4, 1) := by decide +kernel
theorem dX6_share_33 : decode cX6_share 33 = .ok (.if_icmp .ge 31, 3) := by decide +kernel
theorem dX6_share_36 : decode cX6_share 36 = .ok (.iload_n 3, 1) := by decide +kernel
theorem dX6_share_37 : decode cX6_share 37 = .ok (.aload_n 0, 1) := by decide +kernel
theorem dX6_share_38 : decode cX6_share 38 = .ok (.iload 5, 2) := by decide +kernel
theorem dX6_share_40 : decode cX6_share 40 = .ok (.invokevirtual 228, 3) := by decide +kernel
theorem dX6_share_43 : decode cX6_share 43 = .ok (.iadd, 1) := by decide +kernel
theorem dX6_share_44 : decode cX6_share 44 = .ok (.istore_n 3, 1) := by decide +kernel
theorem dX6_share_45 : decode cX6_share 45 = .ok (.iload 4, 2) := by decide +kernel
theorem dX6_share_47 : decode cX6_share 47 = .ok (.aload_n 0, 1) := by decide +kernel
theorem dX6_share_48 : decode cX6_share 48 = .ok (.iload 5, 2) := by decide +kernel
theorem dX6_share_50 : decode cX6_share 50 = .ok (.invokevirtual 231, 3) := by decide +kernel
theorem dX6_share_53 : decode cX6_share 53 = .ok (.iconst 1, 1) := by decide +kernel
theorem dX6_share_54 : decode cX6_share 54 = .ok (.iadd, 1) := by decide +kernel
theorem dX6_share_55 : decode cX6_share 55 = .ok (.iadd, 1) := by decide +kernel
theorem dX6_share_56 : decode cX6_share 56 = .ok (.istore 4, 2) := by decide +kernel
theorem dX6_share_58 : decode cX6_share 58 = .ok (.iinc 5 1, 3) := by decide +kernel
theorem dX6_share_61 : decode cX6_share 61 = .ok (.goto (-31), 3) := by decide +kernel
theorem dX6_share_64 : decode cX6_share 64 = .ok (.iload_n 2, 1) := by decide +kernel
theorem dX6_share_65 : decode cX6_share 65 = .ok (.aload_n 0, 1) := by decide +kernel
theorem dX6_share_66 : decode cX6_share 66 = .ok (.iload_n 1, 1) := by decide +kernel
theorem dX6_share_67 : decode cX6_share 67 = .ok (.invokevirtual 231, 3) := by decide +kernel
theorem dX6_share_70 : decode cX6_share 70 = .ok (.iconst 1, 1) := by decide +kernel
theorem dX6_share_71 : decode cX6_share 71 = .ok (.iadd, 1) := by decide +kernel
theorem dX6_share_72 : decode cX6_share 72 = .ok (.imul, 1) := by decide +kernel
theorem dX6_share_73 : decode cX6_share 73 = .ok (.iload 4, 2) := by decide +kernel
theorem dX6_share_75 : decode cX6_share 75 = .ok (.idiv, 1) := by decide +kernel
theorem dX6_share_76 : decode cX6_share 76 = .ok (.istore 5, 2) := by decide +kernel
theorem dX6_share_78 : decode cX6_share 78 = .ok (.iload_n 3, 1) := by decide +kernel
theorem dX6_share_79 : decode cX6_share 79 = .ok (.iload_n 2, 1) := by decide +kernel
theorem dX6_share_80 : decode cX6_share 80 = .ok (.if_icmp .le 13, 3) := by decide +kernel
theorem dX6_share_83 : decode cX6_share 83 = .ok (.iload 5, 2) := by decide +kernel
theorem dX6_share_85 : decode cX6_share 85 = .ok (.aload_n 0, 1) := by decide +kernel
theorem dX6_share_86 : decode cX6_share 86 = .ok (.iload_n 1, 1) := by decide +kernel
theorem dX6_share_87 : decode cX6_share 87 = .ok (.invokevirtual 228, 3) := by decide +kernel
theorem dX6_share_90 : decode cX6_share 90 = .ok (.if_icmp .le 11, 3) := by decide +kernel
theorem dX6_share_93 : decode cX6_share 93 = .ok (.aload_n 0, 1) := by decide +kernel
theorem dX6_share_94 : decode cX6_share 94 = .ok (.iload_n 1, 1) := by decide +kernel
theorem dX6_share_95 : decode cX6_share 95 = .ok (.invokevirtual 228, 3) := by decide +kernel
theorem dX6_share_98 : decode cX6_share 98 = .ok (.goto 5, 3) := by decide +kernel
theorem dX6_share_101 : decode cX6_share 101 = .ok (.iload 5, 2) := by decide +kernel
theorem dX6_share_103 : decode cX6_share 103 = .ok (.ireturn, 1) := by decide +kernel
theorem dJ9_max_7cf53_0 : decode cJ9_max_7cf53 0 = .ok (.iload_n 0, 1) := by decide +kernel
theorem dJ9_max_7cf53_1 : decode cJ9_max_7cf53 1 = .ok (.iload_n 1, 1) := by decide +kernel
theorem dJ9_max_7cf53_2 : decode cJ9_max_7cf53 2 = .ok (.if_icmp .lt 7, 3) := by decide +kernel
theorem dJ9_max_7cf53_5 : decode cJ9_max_7cf53 5 = .ok (.iload_n 0, 1) := by decide +kernel
theorem dJ9_max_7cf53_6 : decode cJ9_max_7cf53 6 = .ok (.goto 4, 3) := by decide +kernel
theorem dJ9_max_7cf53_9 : decode cJ9_max_7cf53 9 = .ok (.iload_n 1, 1) := by decide +kernel
theorem dJ9_max_7cf53_10 : decode cJ9_max_7cf53 10 = .ok (.ireturn, 1) := by decide +kernel
theorem dJ9_min_7cf53_0 : decode cJ9_min_7cf53 0 = .ok (.iload_n 0, 1) := by decide +kernel
theorem dJ9_min_7cf53_1 : decode cJ9_min_7cf53 1 = .ok (.iload_n 1, 1) := by decide +kernel
theorem dJ9_min_7cf53_2 : decode cJ9_min_7cf53 2 = .ok (.if_icmp .gt 7, 3) := by decide +kernel
theorem dJ9_min_7cf53_5 : decode cJ9_min_7cf53 5 = .ok (.iload_n 0, 1) := by decide +kernel
theorem dJ9_min_7cf53_6 : decode cJ9_min_7cf53 6 = .ok (.goto 4, 3) := by decide +kernel
theorem dJ9_min_7cf53_9 : decode cJ9_min_7cf53 9 = .ok (.iload_n 1, 1) := by decide +kernel
theorem dJ9_min_7cf53_10 : decode cJ9_min_7cf53 10 = .ok (.ireturn, 1) := by decide +kernel
set_option maxRecDepth 20000 in
theorem ggL_segment_X5_segment : GoodIn wsL_segment wsX5_segment := goodIn_ca (goodIn_ca (goodIn_r _ [7, 8, 9, 10, 11, 12, 13, 14, 15, 6, 16, 17, 18, 19, 20, 21, 22, 23, 24, 25, 26, 27, 28, 29, 30, 31, 32, 33, 34, 35, 36, 37, 38, 39, 40, 41, 42, 43, 44, 45, 46, 47, 48, 49] (by decide +kernel) (by decide +kernel)) (goodIn_sub (fun _ h => List.mem_cons_of_mem _ (List.mem_append_left _ (List.mem_append_right _ h))) (by decide +kernel))) (goodIn_sub (fun _ h => List.mem_cons_of_mem _ (List.mem_append_right _ h)) (by decide +kernel))
set_option maxRecDepth 20000 in
theorem gL_segment_X5_segment : GoodIn wsL_segment (wsV RL 7 RX5 yX5_segment wsX5_segment) := goodIn_app (goodIn_of _ (by decide +kernel)) ggL_segment_X5_segment
theorem dL_segment_0 : decode cL_segment 0 = .ok (.aload 4, 2) := by decide +kernel
theorem dL_segment_2 : decode cL_segment 2 = .ok (.iconst 0, 1) := by decide +kernel
theorem dL_segment_3 : decode cL_segment 3 = .ok (.aload_n 0, 1) := by decide +kernel
theorem dL_segment_4 : decode cL_segment 4 = .ok (.iload_n 1, 1) := by decide +kernel
theorem dL_segment_5 : decode cL_segment 5 = .ok (.iload_n 2, 1) := by decide +kernel
theorem dL_segment_6 : decode cL_segment 6 = .ok (.iload_n 3, 1) := by decide +kernel
theorem dL_segment_7 : decode cL_segment 7 = .ok (.invokevirtual 7, 3) := by decide +kernel
theorem dL_segment_10 : decode cL_segment 10 = .ok (.i2l, 1) := by decide +kernel
theorem dL_segment_11 : decode cL_segment 11 = .ok (.lastore, 1) := by decide +kernel
theorem dL_segment_12 : decode cL_segment 12 = .ok (.goto 11, 3) := by decide +kernel
theorem dL_segment_15 : decode cL_segment 15 = .ok (.astore 5, 2) := by decide +kernel
theorem dL_segment_17 : decode cL_segment 17 = .ok (.iconst 1, 1) := by decide +kernel
theorem dL_segment_18 : decode cL_segment 18 = .ok (.ireturn, 1) := by decide +kernel
theorem dL_segment_19 : decode cL_segment 19 = .ok (.astore 5, 2) := by decide +kernel
theorem dL_segment_21 : decode cL_segment 21 = .ok (.iconst 2, 1) := by decide +kernel
theorem dL_segment_22 : decode cL_segment 22 = .ok (.ireturn, 1) := by decide +kernel
theorem dL_segment_23 : decode cL_segment 23 = .ok (.iconst 0, 1) := by decide +kernel
theorem dL_segment_24 : decode cL_segment 24 = .ok (.ireturn, 1) := by decide +kernel
set_option maxRecDepth 20000 in
theorem ggL_product_X5_product : GoodIn wsL_product wsX5_product := goodIn_ca (goodIn_ca (goodIn_r _ [7, 8, 9, 10, 11, 12, 13, 6, 14, 15, 16, 17, 18, 19, 20, 21, 22, 23, 24, 25, 26, 27, 28, 29, 30, 31, 32, 33, 34, 35, 36, 37, 38, 39, 40, 41, 42, 43, 44, 45, 46, 47, 48, 49, 50] (by decide +kernel) (by decide +kernel)) (goodIn_sub (fun _ h => List.mem_cons_of_mem _ (List.mem_append_left _ (List.mem_append_right _ h))) (by decide +kernel))) (goodIn_sub (fun _ h => List.mem_cons_of_mem _ (List.mem_append_right _ h)) (by decide +kernel))
set_option maxRecDepth 20000 in
theorem gL_product_X5_product : GoodIn wsL_product (wsV RL 17 RX5 yX5_product wsX5_product) := goodIn_app (goodIn_of _ (by decide +kernel)) ggL_product_X5_product
theorem dL_product_0 : decode cL_product 0 = .ok (.aload_n 0, 1) := by decide +kernel
theorem dL_product_1 : decode cL_product 1 = .ok (.iload_n 1, 1) := by decide +kernel
theorem dL_product_2 : decode cL_product 2 = .ok (.iload_n 2, 1) := by decide +kernel
theorem dL_product_3 : decode cL_product 3 = .ok (.iload_n 3, 1) := by decide +kernel
theorem dL_product_4 : decode cL_product 4 = .ok (.iload 4, 2) := by decide +kernel
theorem dL_product_6 : decode cL_product 6 = .ok (.iload 5, 2) := by decide +kernel
theorem dL_product_8 : decode cL_product 8 = .ok (.invokevirtual 17, 3) := by decide +kernel
theorem dL_product_11 : decode cL_product 11 = .ok (.goto 11, 3) := by decide +kernel
theorem dL_product_14 : decode cL_product 14 = .ok (.astore 6, 2) := by decide +kernel
theorem dL_product_16 : decode cL_product 16 = .ok (.iconst 1, 1) := by decide +kernel
theorem dL_product_17 : decode cL_product 17 = .ok (.ireturn, 1) := by decide +kernel
theorem dL_product_18 : decode cL_product 18 = .ok (.astore 6, 2) := by decide +kernel
theorem dL_product_20 : decode cL_product 20 = .ok (.iconst 2, 1) := by decide +kernel
theorem dL_product_21 : decode cL_product 21 = .ok (.ireturn, 1) := by decide +kernel
theorem dL_product_22 : decode cL_product 22 = .ok (.iconst 0, 1) := by decide +kernel
theorem dL_product_23 : decode cL_product 23 = .ok (.ireturn, 1) := by decide +kernel
set_option maxRecDepth 20000 in
theorem ggL_open_X5_open : GoodIn wsL_open wsX5_open := goodIn_ca (goodIn_ca (goodIn_r _ [7, 8, 9, 10, 11, 12, 13, 14, 15, 16, 17, 6, 18, 19, 20, 21, 22, 23, 24, 25, 26, 27, 28, 29, 30, 31, 32, 33, 34, 35, 36, 37, 38, 39, 40, 41, 42, 43, 44, 45, 46, 47, 48, 49, 50, 51, 52, 53, 54, 55, 56, 57, 58, 59, 60, 61, 62, 63, 64, 65, 66, 67, 68, 69, 70, 71, 72, 73, 74, 75, 76, 77, 78, 79, 80, 81, 82, 83, 84, 85, 86, 87] (by decide +kernel) (by decide +kernel)) (goodIn_sub (fun _ h => List.mem_cons_of_mem _ (List.mem_append_left _ (List.mem_append_right _ h))) (by decide +kernel))) (goodIn_sub (fun _ h => List.mem_cons_of_mem _ (List.mem_append_right _ h)) (by decide +kernel))
set_option maxRecDepth 20000 in
theorem gL_open_X5_open : GoodIn wsL_open (wsV RL 23 RX5 yX5_open wsX5_open) := goodIn_app (goodIn_of _ (by decide +kernel)) ggL_open_X5_open
theorem dL_open_0 : decode cL_open 0 = .ok (.aload_n 2, 1) := by decide +kernel
theorem dL_open_1 : decode cL_open 1 = .ok (.iconst 0, 1) := by decide +kernel
theorem dL_open_2 : decode cL_open 2 = .ok (.aload_n 0, 1) := by decide +kernel
theorem dL_open_3 : decode cL_open 3 = .ok (.iload_n 1, 1) := by decide +kernel
theorem dL_open_4 : decode cL_open 4 = .ok (.invokevirtual 23, 3) := by decide +kernel
theorem dL_open_7 : decode cL_open 7 = .ok (.i2l, 1) := by decide +kernel
theorem dL_open_8 : decode cL_open 8 = .ok (.lastore, 1) := by decide +kernel
theorem dL_open_9 : decode cL_open 9 = .ok (.goto 9, 3) := by decide +kernel
theorem dL_open_12 : decode cL_open 12 = .ok (.astore_n 3, 1) := by decide +kernel
theorem dL_open_13 : decode cL_open 13 = .ok (.iconst 1, 1) := by decide +kernel
theorem dL_open_14 : decode cL_open 14 = .ok (.ireturn, 1) := by decide +kernel
theorem dL_open_15 : decode cL_open 15 = .ok (.astore_n 3, 1) := by decide +kernel
theorem dL_open_16 : decode cL_open 16 = .ok (.iconst 2, 1) := by decide +kernel
theorem dL_open_17 : decode cL_open 17 = .ok (.ireturn, 1) := by decide +kernel
theorem dL_open_18 : decode cL_open 18 = .ok (.iconst 0, 1) := by decide +kernel
theorem dL_open_19 : decode cL_open 19 = .ok (.ireturn, 1) := by decide +kernel
set_option maxRecDepth 20000 in
theorem ggL_order_X5_order : GoodIn wsL_order wsX5_order := goodIn_ca (goodIn_ca (goodIn_ca (goodIn_r _ [8, 9, 10, 11, 12, 13, 14, 15, 16, 7, 17, 18, 19, 20, 21, 22, 23, 24, 25, 26, 27, 28, 29, 30, 31, 32, 33, 34, 35, 36, 37, 38, 39, 40, 41, 42, 43, 44, 45, 46, 47, 48, 49, 50, 51, 52, 53, 54, 55, 56, 57, 58, 59, 60, 61, 62] (by decide +kernel) (by decide +kernel)) (goodIn_sub (fun _ h => List.mem_cons_of_mem _ (List.mem_append_left _ (List.mem_append_left _ (List.mem_append_right _ h)))) (by decide +kernel))) (goodIn_sub (fun _ h => List.mem_cons_of_mem _ (List.mem_append_left _ (List.mem_append_right _ h))) (by decide +kernel))) (goodIn_sub (fun _ h => List.mem_cons_of_mem _ (List.mem_append_right _ h)) (by decide +kernel))
set_option maxRecDepth 20000 in
theorem gL_order_X5_order : GoodIn wsL_order (wsV RL 27 RX5 yX5_order wsX5_order) := goodIn_app (goodIn_of _ (by decide +kernel)) ggL_order_X5_order
theorem dL_order_0 : decode cL_order 0 = .ok (.aload 4, 2) := by decide +kernel
theorem dL_order_2 : decode cL_order 2 = .ok (.iconst 0, 1) := by decide +kernel
theorem dL_order_3 : decode cL_order 3 = .ok (.aload_n 0, 1) := by decide +kernel
theorem dL_order_4 : decode cL_order 4 = .ok (.iload_n 1, 1) := by decide +kernel
theorem dL_order_5 : decode cL_order 5 = .ok (.iload_n 2, 1) := by decide +kernel
theorem dL_order_6 : decode cL_order 6 = .ok (.iload_n 3, 1) := by decide +kernel
theorem dL_order_7 : decode cL_order 7 = .ok (.invokevirtual 27, 3) := by decide +kernel
theorem dL_order_10 : decode cL_order 10 = .ok (.i2l, 1) := by decide +kernel
theorem dL_order_11 : decode cL_order 11 = .ok (.lastore, 1) := by decide +kernel
theorem dL_order_12 : decode cL_order 12 = .ok (.goto 15, 3) := by decide +kernel
theorem dL_order_15 : decode cL_order 15 = .ok (.astore 5, 2) := by decide +kernel
theorem dL_order_17 : decode cL_order 17 = .ok (.iconst 1, 1) := by decide +kernel
theorem dL_order_18 : decode cL_order 18 = .ok (.ireturn, 1) := by decide +kernel
theorem dL_order_19 : decode cL_order 19 = .ok (.astore 5, 2) := by decide +kernel
theorem dL_order_21 : decode cL_order 21 = .ok (.iconst 2, 1) := by decide +kernel
theorem dL_order_22 : decode cL_order 22 = .ok (.ireturn, 1) := by decide +kernel
theorem dL_order_23 : decode cL_order 23 = .ok (.astore 5, 2) := by decide +kernel
theorem dL_order_25 : decode cL_order 25 = .ok (.iconst 3, 1) := by decide +kernel
theorem dL_order_26 : decode cL_order 26 = .ok (.ireturn, 1) := by decide +kernel
theorem dL_order_27 : decode cL_order 27 = .ok (.iconst 0, 1) := by decide +kernel
theorem dL_order_28 : decode cL_order 28 = .ok (.ireturn, 1) := by decide +kernel
set_option maxRecDepth 20000 in
theorem ggL_rate_X5_rate : GoodIn wsL_rate wsX5_rate := goodIn_ca (goodIn_r _ [6, 7, 8, 9, 10, 5, 11, 12, 13, 14, 15, 16, 17, 18, 19, 20, 21, 22, 23, 24, 25, 26, 27, 28, 29, 30] (by decide +kernel) (by decide +kernel)) (goodIn_sub (fun _ h => List.mem_cons_of_mem _ (List.mem_append_right _ h)) (by decide +kernel))
set_option maxRecDepth 20000 in
theorem gL_rate_X5_rate : GoodIn wsL_rate (wsV RL 30 RX5 yX5_rate wsX5_rate) := goodIn_app (goodIn_of _ (by decide +kernel)) ggL_rate_X5_rate
theorem dL_rate_0 : decode cL_rate 0 = .ok (.aload_n 2, 1) := by decide +kernel
theorem dL_rate_1 : decode cL_rate 1 = .ok (.iconst 0, 1) := by decide +kernel
theorem dL_rate_2 : decode cL_rate 2 = .ok (.aload_n 0, 1) := by decide +kernel
theorem dL_rate_3 : decode cL_rate 3 = .ok (.iload_n 1, 1) := by decide +kernel
theorem dL_rate_4 : decode cL_rate 4 = .ok (.invokevirtual 30, 3) := by decide +kernel
theorem dL_rate_7 : decode cL_rate 7 = .ok (.i2l, 1) := by decide +kernel
theorem dL_rate_8 : decode cL_rate 8 = .ok (.lastore, 1) := by decide +kernel
theorem dL_rate_9 : decode cL_rate 9 = .ok (.goto 6, 3) := by decide +kernel
theorem dL_rate_12 : decode cL_rate 12 = .ok (.astore_n 3, 1) := by decide +kernel
theorem dL_rate_13 : decode cL_rate 13 = .ok (.iconst 1, 1) := by decide +kernel
theorem dL_rate_14 : decode cL_rate 14 = .ok (.ireturn, 1) := by decide +kernel
theorem dL_rate_15 : decode cL_rate 15 = .ok (.iconst 0, 1) := by decide +kernel
theorem dL_rate_16 : decode cL_rate 16 = .ok (.ireturn, 1) := by decide +kernel
set_option maxRecDepth 20000 in
theorem ggL_drop_X5_drop : GoodIn wsL_drop wsX5_drop := goodIn_ca (goodIn_ca (goodIn_r _ [7, 8, 9, 10, 11, 6, 12, 13, 14, 15, 16, 17, 18, 19, 20, 21, 22, 23, 24, 25, 26, 27, 28, 29, 30, 31, 32, 33, 34, 35, 36, 37, 38, 39, 40, 41, 42, 43, 44, 45, 46, 47, 48, 49, 50, 51, 52, 53] (by decide +kernel) (by decide +kernel)) (goodIn_sub (fun _ h => List.mem_cons_of_mem _ (List.mem_append_left _ (List.mem_append_right _ h))) (by decide +kernel))) (goodIn_sub (fun _ h => List.mem_cons_of_mem _ (List.mem_append_right _ h)) (by decide +kernel))
set_option maxRecDepth 20000 in
theorem gL_drop_X5_drop : GoodIn wsL_drop (wsV RL 33 RX5 yX5_drop wsX5_drop) := goodIn_app (goodIn_of _ (by decide +kernel)) ggL_drop_X5_drop
theorem dL_drop_0 : decode cL_drop 0 = .ok (.aload_n 0, 1) := by decide +kernel
theorem dL_drop_1 : decode cL_drop 1 = .ok (.iload_n 1, 1) := by decide +kernel
theorem dL_drop_2 : decode cL_drop 2 = .ok (.iload_n 2, 1) := by decide +kernel
theorem dL_drop_3 : decode cL_drop 3 = .ok (.iload_n 3, 1) := by decide +kernel
theorem dL_drop_4 : decode cL_drop 4 = .ok (.invokevirtual 33, 3) := by decide +kernel
theorem dL_drop_7 : decode cL_drop 7 = .ok (.goto 11, 3) := by decide +kernel
theorem dL_drop_10 : decode cL_drop 10 = .ok (.astore 4, 2) := by decide +kernel
theorem dL_drop_12 : decode cL_drop 12 = .ok (.iconst 1, 1) := by decide +kernel
theorem dL_drop_13 : decode cL_drop 13 = .ok (.ireturn, 1) := by decide +kernel
theorem dL_drop_14 : decode cL_drop 14 = .ok (.astore 4, 2) := by decide +kernel
theorem dL_drop_16 : decode cL_drop 16 = .ok (.iconst 2, 1) := by decide +kernel
theorem dL_drop_17 : decode cL_drop 17 = .ok (.ireturn, 1) := by decide +kernel
theorem dL_drop_18 : decode cL_drop 18 = .ok (.iconst 0, 1) := by decide +kernel
theorem dL_drop_19 : decode cL_drop 19 = .ok (.ireturn, 1) := by decide +kernel
set_option maxRecDepth 20000 in
theorem ggL_leak_X5_leak : GoodIn wsL_leak wsX5_leak := goodIn_ca (goodIn_ca (goodIn_r _ [7, 8, 9, 10, 11, 6, 12, 13, 14, 15, 16, 17, 18, 19, 20, 21, 22, 23, 24, 25, 26, 27, 28, 29, 30, 31, 32, 33, 34, 35, 36, 37, 38, 39, 40, 41, 42, 43, 44, 45, 46, 47, 48, 49, 50, 51, 52, 53] (by decide +kernel) (by decide +kernel)) (goodIn_sub (fun _ h => List.mem_cons_of_mem _ (List.mem_append_left _ (List.mem_append_right _ h))) (by decide +kernel))) (goodIn_sub (fun _ h => List.mem_cons_of_mem _ (List.mem_append_right _ h)) (by decide +kernel))
set_option maxRecDepth 20000 in
theorem gL_leak_X5_leak : GoodIn wsL_leak (wsV RL 37 RX5 yX5_leak wsX5_leak) := goodIn_app (goodIn_of _ (by decide +kernel)) ggL_leak_X5_leak
theorem dL_leak_0 : decode cL_leak 0 = .ok (.aload_n 0, 1) := by decide +kernel
theorem dL_leak_1 : decode cL_leak 1 = .ok (.iload_n 1, 1) := by decide +kernel
theorem dL_leak_2 : decode cL_leak 2 = .ok (.iload_n 2, 1) := by decide +kernel
theorem dL_leak_3 : decode cL_leak 3 = .ok (.invokevirtual 37, 3) := by decide +kernel
theorem dL_leak_6 : decode cL_leak 6 = .ok (.goto 9, 3) := by decide +kernel
theorem dL_leak_9 : decode cL_leak 9 = .ok (.astore_n 3, 1) := by decide +kernel
theorem dL_leak_10 : decode cL_leak 10 = .ok (.iconst 1, 1) := by decide +kernel
theorem dL_leak_11 : decode cL_leak 11 = .ok (.ireturn, 1) := by decide +kernel
theorem dL_leak_12 : decode cL_leak 12 = .ok (.astore_n 3, 1) := by decide +kernel
theorem dL_leak_13 : decode cL_leak 13 = .ok (.iconst 2, 1) := by decide +kernel
theorem dL_leak_14 : decode cL_leak 14 = .ok (.ireturn, 1) := by decide +kernel
theorem dL_leak_15 : decode cL_leak 15 = .ok (.iconst 0, 1) := by decide +kernel
theorem dL_leak_16 : decode cL_leak 16 = .ok (.ireturn, 1) := by decide +kernel
set_option maxRecDepth 20000 in
theorem ggL_receive_X5_receive : GoodIn wsL_receive wsX5_receive := goodIn_ca (goodIn_r _ [6, 7, 8, 9, 10, 5, 11, 12, 13, 14, 15, 16, 17, 18, 19, 20, 21, 22, 23, 24, 25, 26, 27, 28, 29, 30, 31, 32, 33, 34] (by decide +kernel) (by decide +kernel)) (goodIn_sub (fun _ h => List.mem_cons_of_mem _ (List.mem_append_right _ h)) (by decide +kernel))
set_option maxRecDepth 20000 in
theorem gL_receive_X5_receive : GoodIn wsL_receive (wsV RL 41 RX5 yX5_receive wsX5_receive) := goodIn_app (goodIn_of _ (by decide +kernel)) ggL_receive_X5_receive
theorem dL_receive_0 : decode cL_receive 0 = .ok (.aload_n 2, 1) := by decide +kernel
theorem dL_receive_1 : decode cL_receive 1 = .ok (.iconst 0, 1) := by decide +kernel
theorem dL_receive_2 : decode cL_receive 2 = .ok (.aload_n 0, 1) := by decide +kernel
theorem dL_receive_3 : decode cL_receive 3 = .ok (.iload_n 1, 1) := by decide +kernel
theorem dL_receive_4 : decode cL_receive 4 = .ok (.invokevirtual 41, 3) := by decide +kernel
theorem dL_receive_7 : decode cL_receive 7 = .ok (.i2l, 1) := by decide +kernel
theorem dL_receive_8 : decode cL_receive 8 = .ok (.lastore, 1) := by decide +kernel
theorem dL_receive_9 : decode cL_receive 9 = .ok (.goto 6, 3) := by decide +kernel
theorem dL_receive_12 : decode cL_receive 12 = .ok (.astore_n 3, 1) := by decide +kernel
theorem dL_receive_13 : decode cL_receive 13 = .ok (.iconst 1, 1) := by decide +kernel
theorem dL_receive_14 : decode cL_receive 14 = .ok (.ireturn, 1) := by decide +kernel
theorem dL_receive_15 : decode cL_receive 15 = .ok (.iconst 0, 1) := by decide +kernel
theorem dL_receive_16 : decode cL_receive 16 = .ok (.ireturn, 1) := by decide +kernel
set_option maxRecDepth 20000 in
theorem ggL_empty_X5_empty : GoodIn wsL_empty wsX5_empty := goodIn_ca (goodIn_r _ [6, 7, 8, 9, 10, 5, 11, 12, 13, 14, 15, 16, 17, 18, 19, 20, 21, 22, 23, 24, 25, 26, 27, 28, 29, 30, 31, 32, 33, 34, 35, 36, 37, 38, 39, 40, 41] (by decide +kernel) (by decide +kernel)) (goodIn_sub (fun _ h => List.mem_cons_of_mem _ (List.mem_append_right _ h)) (by decide +kernel))
set_option maxRecDepth 20000 in
theorem gL_empty_X5_empty : GoodIn wsL_empty (wsV RL 44 RX5 yX5_empty wsX5_empty) := goodIn_app (goodIn_of _ (by decide +kernel)) ggL_empty_X5_empty
theorem dL_empty_0 : decode cL_empty 0 = .ok (.aload_n 2, 1) := by decide +kernel
theorem dL_empty_1 : decode cL_empty 1 = .ok (.iconst 0, 1) := by decide +kernel
theorem dL_empty_2 : decode cL_empty 2 = .ok (.aload_n 0, 1) := by decide +kernel
theorem dL_empty_3 : decode cL_empty 3 = .ok (.iload_n 1, 1) := by decide +kernel
theorem dL_empty_4 : decode cL_empty 4 = .ok (.invokevirtual 44, 3) := by decide +kernel
theorem dL_empty_7 : decode cL_empty 7 = .ok (.i2l, 1) := by decide +kernel
theorem dL_empty_8 : decode cL_empty 8 = .ok (.lastore, 1) := by decide +kernel
theorem dL_empty_9 : decode cL_empty 9 = .ok (.goto 6, 3) := by decide +kernel
theorem dL_empty_12 : decode cL_empty 12 = .ok (.astore_n 3, 1) := by decide +kernel
theorem dL_empty_13 : decode cL_empty 13 = .ok (.iconst 1, 1) := by decide +kernel
theorem dL_empty_14 : decode cL_empty 14 = .ok (.ireturn, 1) := by decide +kernel
theorem dL_empty_15 : decode cL_empty 15 = .ok (.iconst 0, 1) := by decide +kernel
theorem dL_empty_16 : decode cL_empty 16 = .ok (.ireturn, 1) := by decide +kernel
set_option maxRecDepth 20000 in
theorem ggL_launch_X5_launch : GoodIn wsL_launch wsX5_launch := goodIn_ca (goodIn_r _ [6, 7, 8, 9, 10, 11, 12, 13, 14, 5, 15, 16, 17, 18, 19, 20, 21, 22, 23, 24, 25, 26, 27, 28, 29, 30, 31, 32, 33, 34, 35, 36, 37, 38, 39, 40, 41, 42, 43, 44, 45] (by decide +kernel) (by decide +kernel)) (goodIn_sub (fun _ h => List.mem_cons_of_mem _ (List.mem_append_right _ h)) (by decide +kernel))
set_option maxRecDepth 20000 in
theorem gL_launch_X5_launch : GoodIn wsL_launch (wsV RL 47 RX5 yX5_launch wsX5_launch) := goodIn_app (goodIn_of _ (by decide +kernel)) ggL_launch_X5_launch
theorem dL_launch_0 : decode cL_launch 0 = .ok (.aload_n 0, 1) := by decide +kernel
theorem dL_launch_1 : decode cL_launch 1 = .ok (.invokevirtual 47, 3) := by decide +kernel
theorem dL_launch_4 : decode cL_launch 4 = .ok (.goto 6, 3) := by decide +kernel
theorem dL_launch_7 : decode cL_launch 7 = .ok (.astore_n 1, 1) := by decide +kernel
theorem dL_launch_8 : decode cL_launch 8 = .ok (.iconst 1, 1) := by decide +kernel
theorem dL_launch_9 : decode cL_launch 9 = .ok (.ireturn, 1) := by decide +kernel
theorem dL_launch_10 : decode cL_launch 10 = .ok (.iconst 0, 1) := by decide +kernel
theorem dL_launch_11 : decode cL_launch 11 = .ok (.ireturn, 1) := by decide +kernel
set_option maxRecDepth 20000 in
theorem ggL_pass_X5_pass : GoodIn wsL_pass wsX5_pass := goodIn_ca (goodIn_ca (goodIn_r _ [7, 8, 9, 10, 11, 12, 13, 14, 6, 15, 16, 17, 18, 19, 20, 21, 22, 23, 24, 25, 26, 27, 28, 29, 30, 31, 32, 33, 34, 35, 36, 37, 38, 39, 40, 41, 42, 43, 44, 45, 46, 47, 48, 49, 50, 51, 52, 53, 54, 55, 56, 57, 58, 59, 60, 61, 62, 63, 64, 65, 66, 67, 68, 69, 70, 71, 72, 73, 74, 75, 76, 77, 78, 79, 80, 81, 82, 83, 84, 85, 86, 87, 88, 89, 90, 91, 92, 93, 94, 95, 96, 97, 98, 99, 100, 101, 102, 103, 104, 105, 106, 107, 108, 109, 110, 111, 112, 113, 114, 115, 116, 117, 118, 119, 120, 121, 122, 123, 124, 125, 126, 127, 128, 129, 130, 131, 132, 133, 134, 135, 136, 137, 138, 139, 140, 141, 142, 143, 144, 145, 146, 147, 148, 149, 150, 151, 152, 153, 154, 155, 156, 157, 158, 159, 160, 161, 162, 163, 164, 165, 166, 167, 168, 169, 170, 171, 172, 173, 174, 175, 176, 177, 178, 179, 180, 181, 182, 183, 184, 185, 186, 187, 188, 189, 190, 191, 192, 193, 194, 195, 196, 197, 198, 199, 200, 201, 202, 203] (by decide +kernel) (by decide +kernel)) (goodIn_sub (fun _ h => List.mem_cons_of_mem _ (List.mem_append_left _ (List.mem_append_right _ h))) (by decide +kernel))) (goodIn_sub (fun _ h => List.mem_cons_of_mem _ (List.mem_append_right _ h)) (by decide +kernel))
set_option maxRecDepth 20000 in
theorem gL_pass_X5_pass : GoodIn wsL_pass (wsV RL 50 RX5 yX5_pass wsX5_pass) := goodIn_app (goodIn_of _ (by decide +kernel)) ggL_pass_X5_pass
theorem dL_pass_0 : decode cL_pass 0 = .ok (.aload_n 2, 1) := by decide +kernel
theorem dL_pass_1 : decode cL_pass 1 = .ok (.iconst 0, 1) := by decide +kernel
theorem dL_pass_2 : decode cL_pass 2 = .ok (.aload_n 0, 1) := by decide +kernel
theorem dL_pass_3 : decode cL_pass 3 = .ok (.iload_n 1, 1) := by decide +kernel
theorem dL_pass_4 : decode cL_pass 4 = .ok (.invokevirtual 50, 3) := by decide +kernel
theorem dL_pass_7 : decode cL_pass 7 = .ok (.i2l, 1) := by decide +kernel
theorem dL_pass_8 : decode cL_pass 8 = .ok (.lastore, 1) := by decide +kernel
theorem dL_pass_9 : decode cL_pass 9 = .ok (.goto 9, 3) := by decide +kernel
theorem dL_pass_12 : decode cL_pass 12 = .ok (.astore_n 3, 1) := by decide +kernel
theorem dL_pass_13 : decode cL_pass 13 = .ok (.iconst 1, 1) := by decide +kernel
theorem dL_pass_14 : decode cL_pass 14 = .ok (.ireturn, 1) := by decide +kernel
theorem dL_pass_15 : decode cL_pass 15 = .ok (.astore_n 3, 1) := by decide +kernel
theorem dL_pass_16 : decode cL_pass 16 = .ok (.iconst 2, 1) := by decide +kernel
theorem dL_pass_17 : decode cL_pass 17 = .ok (.ireturn, 1) := by decide +kernel
theorem dL_pass_18 : decode cL_pass 18 = .ok (.iconst 0, 1) := by decide +kernel
theorem dL_pass_19 : decode cL_pass 19 = .ok (.ireturn, 1) := by decide +kernel
set_option maxRecDepth 20000 in
theorem ggL_batch_X5_batch : GoodIn wsL_batch wsX5_batch := goodIn_ca (goodIn_ca (goodIn_r _ [7, 8, 9, 10, 11, 12, 13, 14, 15, 6, 16, 17, 18, 19, 20, 21, 22, 23, 24, 25, 26, 27, 28, 29, 30, 31, 32, 33, 34, 35, 36, 37, 38, 39, 40, 41, 42, 43, 44, 45, 46, 47, 48, 49, 50, 51, 52, 53, 54, 55, 56, 57, 58, 59, 60, 61, 62, 63, 64, 65, 66, 67, 68, 69, 70, 71, 72, 73, 74, 75, 76, 77, 78] (by decide +kernel) (by decide +kernel)) (goodIn_sub (fun _ h => List.mem_cons_of_mem _ (List.mem_append_left _ (List.mem_append_right _ h))) (by decide +kernel))) (goodIn_sub (fun _ h => List.mem_cons_of_mem _ (List.mem_append_right _ h)) (by decide +kernel))
set_option maxRecDepth 20000 in
theorem gL_batch_X5_batch : GoodIn wsL_batch (wsV RL 53 RX5 yX5_batch wsX5_batch) := goodIn_app (goodIn_of _ (by decide +kernel)) ggL_batch_X5_batch
theorem dL_batch_0 : decode cL_batch 0 = .ok (.aload_n 3, 1) := by decide +kernel
theorem dL_batch_1 : decode cL_batch 1 = .ok (.iconst 0, 1) := by decide +kernel
theorem dL_batch_2 : decode cL_batch 2 = .ok (.aload_n 0, 1) := by decide +kernel
theorem dL_batch_3 : decode cL_batch 3 = .ok (.iload_n 1, 1) := by decide +kernel
theorem dL_batch_4 : decode cL_batch 4 = .ok (.iload_n 2, 1) := by decide +kernel
theorem dL_batch_5 : decode cL_batch 5 = .ok (.invokevirtual 53, 3) := by decide +kernel
theorem dL_batch_8 : decode cL_batch 8 = .ok (.i2l, 1) := by decide +kernel
theorem dL_batch_9 : decode cL_batch 9 = .ok (.lastore, 1) := by decide +kernel
theorem dL_batch_10 : decode cL_batch 10 = .ok (.goto 11, 3) := by decide +kernel
theorem dL_batch_13 : decode cL_batch 13 = .ok (.astore 4, 2) := by decide +kernel
theorem dL_batch_15 : decode cL_batch 15 = .ok (.iconst 1, 1) := by decide +kernel
theorem dL_batch_16 : decode cL_batch 16 = .ok (.ireturn, 1) := by decide +kernel
theorem dL_batch_17 : decode cL_batch 17 = .ok (.astore 4, 2) := by decide +kernel
theorem dL_batch_19 : decode cL_batch 19 = .ok (.iconst 2, 1) := by decide +kernel
theorem dL_batch_20 : decode cL_batch 20 = .ok (.ireturn, 1) := by decide +kernel
theorem dL_batch_21 : decode cL_batch 21 = .ok (.iconst 0, 1) := by decide +kernel
theorem dL_batch_22 : decode cL_batch 22 = .ok (.ireturn, 1) := by decide +kernel
set_option maxRecDepth 20000 in
theorem ggL_unit_X5_unit : GoodIn wsL_unit wsX5_unit := goodIn_ca (goodIn_r _ [6, 7, 8, 9, 10, 11, 12, 5, 13, 14, 15, 16, 17, 18, 19, 20, 21, 22, 23, 24, 25, 26, 27, 28, 29, 30, 31, 32, 33, 34, 35, 36, 37, 38, 39, 40, 41, 42, 43, 44, 45, 46, 47, 48, 49, 50, 51, 52, 53, 54, 55, 56, 57, 58, 59, 60, 61, 62, 63, 64, 65] (by decide +kernel) (by decide +kernel)) (goodIn_sub (fun _ h => List.mem_cons_of_mem _ (List.mem_append_right _ h)) (by decide +kernel))
set_option maxRecDepth 20000 in
theorem gL_unit_X5_unit : GoodIn wsL_unit (wsV RL 57 RX5 yX5_unit wsX5_unit) := goodIn_app (goodIn_of _ (by decide +kernel)) ggL_unit_X5_unit
theorem dL_unit_0 : decode cL_unit 0 = .ok (.aload_n 2, 1) := by decide +kernel
theorem dL_unit_1 : decode cL_unit 1 = .ok (.iconst 0, 1) := by decide +kernel
theorem dL_unit_2 : decode cL_unit 2 = .ok (.aload_n 0, 1) := by decide +kernel
theorem dL_unit_3 : decode cL_unit 3 = .ok (.iload_n 1, 1) := by decide +kernel
theorem dL_unit_4 : decode cL_unit 4 = .ok (.invokevirtual 57, 3) := by decide +kernel
theorem dL_unit_7 : decode cL_unit 7 = .ok (.i2l, 1) := by decide +kernel
theorem dL_unit_8 : decode cL_unit 8 = .ok (.lastore, 1) := by decide +kernel
theorem dL_unit_9 : decode cL_unit 9 = .ok (.goto 6, 3) := by decide +kernel
theorem dL_unit_12 : decode cL_unit 12 = .ok (.astore_n 3, 1) := by decide +kernel
theorem dL_unit_13 : decode cL_unit 13 = .ok (.iconst 1, 1) := by decide +kernel
theorem dL_unit_14 : decode cL_unit 14 = .ok (.ireturn, 1) := by decide +kernel
theorem dL_unit_15 : decode cL_unit 15 = .ok (.iconst 0, 1) := by decide +kernel
theorem dL_unit_16 : decode cL_unit 16 = .ok (.ireturn, 1) := by decide +kernel
set_option maxRecDepth 20000 in
theorem ggL_unitAnew_X5_unitAnew : GoodIn wsL_unitAnew wsX5_unitAnew := goodIn_ca (goodIn_r _ [6, 7, 8, 9, 10, 11, 5, 12, 13, 14, 15, 16, 17, 18, 19, 20, 21, 22, 23, 24, 25, 26, 27, 28, 29, 30, 31, 32, 33, 34, 35, 36, 37, 38, 39, 40, 41, 42, 43, 44, 45, 46, 47, 48, 49, 50, 51, 52] (by decide +kernel) (by decide +kernel)) (goodIn_sub (fun _ h => List.mem_cons_of_mem _ (List.mem_append_right _ h)) (by decide +kernel))
set_option maxRecDepth 20000 in
theorem gL_unitAnew_X5_unitAnew : GoodIn wsL_unitAnew (wsV RL 60 RX5 yX5_unitAnew wsX5_unitAnew) := goodIn_app (goodIn_of _ (by decide +kernel)) ggL_unitAnew_X5_unitAnew
theorem dL_unitAnew_0 : decode cL_unitAnew 0 = .ok (.aload_n 2, 1) := by decide +kernel
theorem dL_unitAnew_1 : decode cL_unitAnew 1 = .ok (.iconst 0, 1) := by decide +kernel
theorem dL_unitAnew_2 : decode cL_unitAnew 2 = .ok (.aload_n 0, 1) := by decide +kernel
theorem dL_unitAnew_3 : decode cL_unitAnew 3 = .ok (.iload_n 1, 1) := by decide +kernel
theorem dL_unitAnew_4 : decode cL_unitAnew 4 = .ok (.invokevirtual 60, 3) := by decide +kernel
theorem dL_unitAnew_7 : decode cL_unitAnew 7 = .ok (.i2l, 1) := by decide +kernel
theorem dL_unitAnew_8 : decode cL_unitAnew 8 = .ok (.lastore, 1) := by decide +kernel
theorem dL_unitAnew_9 : decode cL_unitAnew 9 = .ok (.goto 6, 3) := by decide +kernel
theorem dL_unitAnew_12 : decode cL_unitAnew 12 = .ok (.astore_n 3, 1) := by decide +kernel
theorem dL_unitAnew_13 : decode cL_unitAnew 13 = .ok (.iconst 1, 1) := by decide +kernel
theorem dL_unitAnew_14 : decode cL_unitAnew 14 = .ok (.ireturn, 1) := by decide +kernel
theorem dL_unitAnew_15 : decode cL_unitAnew 15 = .ok (.iconst 0, 1) := by decide +kernel
theorem dL_unitAnew_16 : decode cL_unitAnew 16 = .ok (.ireturn, 1) := by decide +kernel
set_option maxRecDepth 20000 in
theorem ggL_pressure_X5_pressure : GoodIn wsL_pressure wsX5_pressure := goodIn_ca (goodIn_ca (goodIn_ca (goodIn_r _ [8, 9, 10, 11, 12, 13, 14, 15, 16, 7, 17, 18, 19, 20, 21, 22, 23, 24, 25, 26, 27, 28, 29, 30, 31, 32, 33, 34, 35, 36, 37, 38, 39, 40, 41, 42, 43, 44, 45, 46, 47, 48, 49, 50, 51, 52, 53, 54, 55, 56, 57, 58, 59, 60, 61, 62, 63, 64, 65, 66, 67, 68, 69, 70, 71, 72, 73, 74, 75, 76, 77, 78, 79, 80, 81, 82, 83, 84, 85, 86, 87, 88, 89, 90, 91, 92, 93, 94, 95, 96, 97] (by decide +kernel) (by decide +kernel)) (goodIn_sub (fun _ h => List.mem_cons_of_mem _ (List.mem_append_left _ (List.mem_append_left _ (List.mem_append_right _ h)))) (by decide +kernel))) (goodIn_sub (fun _ h => List.mem_cons_of_mem _ (List.mem_append_left _ (List.mem_append_right _ h))) (by decide +kernel))) (goodIn_sub (fun _ h => List.mem_cons_of_mem _ (List.mem_append_right _ h)) (by decide +kernel))
set_option maxRecDepth 20000 in
theorem gL_pressure_X5_pressure : GoodIn wsL_pressure (wsV RL 63 RX5 yX5_pressure wsX5_pressure) := goodIn_app (goodIn_of _ (by decide +kernel)) ggL_pressure_X5_pressure
theorem dL_pressure_0 : decode cL_pressure 0 = .ok (.aload_n 3, 1) := by decide +kernel
theorem dL_pressure_1 : decode cL_pressure 1 = .ok (.iconst 0, 1) := by decide +kernel
theorem dL_pressure_2 : decode cL_pressure 2 = .ok (.aload_n 0, 1) := by decide +kernel
theorem dL_pressure_3 : decode cL_pressure 3 = .ok (.iload_n 1, 1) := by decide +kernel
theorem dL_pressure_4 : decode cL_pressure 4 = .ok (.iload_n 2, 1) := by decide +kernel
theorem dL_pressure_5 : decode cL_pressure 5 = .ok (.invokevirtual 63, 3) := by decide +kernel
theorem dL_pressure_8 : decode cL_pressure 8 = .ok (.i2l, 1) := by decide +kernel
theorem dL_pressure_9 : decode cL_pressure 9 = .ok (.lastore, 1) := by decide +kernel
theorem dL_pressure_10 : decode cL_pressure 10 = .ok (.goto 15, 3) := by decide +kernel
theorem dL_pressure_13 : decode cL_pressure 13 = .ok (.astore 4, 2) := by decide +kernel
theorem dL_pressure_15 : decode cL_pressure 15 = .ok (.iconst 1, 1) := by decide +kernel
theorem dL_pressure_16 : decode cL_pressure 16 = .ok (.ireturn, 1) := by decide +kernel
theorem dL_pressure_17 : decode cL_pressure 17 = .ok (.astore 4, 2) := by decide +kernel
theorem dL_pressure_19 : decode cL_pressure 19 = .ok (.iconst 2, 1) := by decide +kernel
theorem dL_pressure_20 : decode cL_pressure 20 = .ok (.ireturn, 1) := by decide +kernel
theorem dL_pressure_21 : decode cL_pressure 21 = .ok (.astore 4, 2) := by decide +kernel
theorem dL_pressure_23 : decode cL_pressure 23 = .ok (.iconst 3, 1) := by decide +kernel
theorem dL_pressure_24 : decode cL_pressure 24 = .ok (.ireturn, 1) := by decide +kernel
theorem dL_pressure_25 : decode cL_pressure 25 = .ok (.iconst 0, 1) := by decide +kernel
theorem dL_pressure_26 : decode cL_pressure 26 = .ok (.ireturn, 1) := by decide +kernel
set_option maxRecDepth 20000 in
theorem ggL_tank_X5_tank : GoodIn wsL_tank wsX5_tank := goodIn_ca (goodIn_ca (goodIn_r _ [7, 8, 9, 10, 11, 6, 12, 13, 14, 15, 16, 17, 18, 19, 20, 21, 22, 23, 24, 25, 26, 27, 28, 29, 30, 31, 32, 33, 34, 35, 36, 37, 38, 39, 40, 41] (by decide +kernel) (by decide +kernel)) (goodIn_sub (fun _ h => List.mem_cons_of_mem _ (List.mem_append_left _ (List.mem_append_right _ h))) (by decide +kernel))) (goodIn_sub (fun _ h => List.mem_cons_of_mem _ (List.mem_append_right _ h)) (by decide +kernel))
set_option maxRecDepth 20000 in
theorem gL_tank_X5_tank : GoodIn wsL_tank (wsV RL 66 RX5 yX5_tank wsX5_tank) := goodIn_app (goodIn_of _ (by decide +kernel)) ggL_tank_X5_tank
theorem dL_tank_0 : decode cL_tank 0 = .ok (.aload_n 3, 1) := by decide +kernel
theorem dL_tank_1 : decode cL_tank 1 = .ok (.iconst 0, 1) := by decide +kernel
theorem dL_tank_2 : decode cL_tank 2 = .ok (.aload_n 0, 1) := by decide +kernel
theorem dL_tank_3 : decode cL_tank 3 = .ok (.iload_n 1, 1) := by decide +kernel
theorem dL_tank_4 : decode cL_tank 4 = .ok (.iload_n 2, 1) := by decide +kernel
theorem dL_tank_5 : decode cL_tank 5 = .ok (.invokevirtual 66, 3) := by decide +kernel
theorem dL_tank_8 : decode cL_tank 8 = .ok (.i2l, 1) := by decide +kernel
theorem dL_tank_9 : decode cL_tank 9 = .ok (.lastore, 1) := by decide +kernel
theorem dL_tank_10 : decode cL_tank 10 = .ok (.goto 11, 3) := by decide +kernel
theorem dL_tank_13 : decode cL_tank 13 = .ok (.astore 4, 2) := by decide +kernel
theorem dL_tank_15 : decode cL_tank 15 = .ok (.iconst 1, 1) := by decide +kernel
theorem dL_tank_16 : decode cL_tank 16 = .ok (.ireturn, 1) := by decide +kernel
theorem dL_tank_17 : decode cL_tank 17 = .ok (.astore 4, 2) := by decide +kernel
theorem dL_tank_19 : decode cL_tank 19 = .ok (.iconst 2, 1) := by decide +kernel
theorem dL_tank_20 : decode cL_tank 20 = .ok (.ireturn, 1) := by decide +kernel
theorem dL_tank_21 : decode cL_tank 21 = .ok (.iconst 0, 1) := by decide +kernel
theorem dL_tank_22 : decode cL_tank 22 = .ok (.ireturn, 1) := by decide +kernel
set_option maxRecDepth 20000 in
theorem ggL_pipe_X5_pipe : GoodIn wsL_pipe wsX5_pipe := goodIn_ca (goodIn_r _ [6, 7, 8, 9, 10, 11, 12, 5, 13, 14, 15, 16, 17, 18, 19, 20, 21, 22, 23, 24, 25, 26, 27, 28, 29, 30, 31, 32, 33, 34, 35, 36, 37, 38, 39, 40, 41, 42, 43, 44, 45, 46] (by decide +kernel) (by decide +kernel)) (goodIn_sub (fun _ h => List.mem_cons_of_mem _ (List.mem_append_right _ h)) (by decide +kernel))
set_option maxRecDepth 20000 in
theorem gL_pipe_X5_pipe : GoodIn wsL_pipe (wsV RL 69 RX5 yX5_pipe wsX5_pipe) := goodIn_app (goodIn_of _ (by decide +kernel)) ggL_pipe_X5_pipe
theorem dL_pipe_0 : decode cL_pipe 0 = .ok (.aload_n 2, 1) := by decide +kernel
theorem dL_pipe_1 : decode cL_pipe 1 = .ok (.iconst 0, 1) := by decide +kernel
theorem dL_pipe_2 : decode cL_pipe 2 = .ok (.aload_n 0, 1) := by decide +kernel
theorem dL_pipe_3 : decode cL_pipe 3 = .ok (.iload_n 1, 1) := by decide +kernel
theorem dL_pipe_4 : decode cL_pipe 4 = .ok (.invokevirtual 69, 3) := by decide +kernel
theorem dL_pipe_7 : decode cL_pipe 7 = .ok (.i2l, 1) := by decide +kernel
theorem dL_pipe_8 : decode cL_pipe 8 = .ok (.lastore, 1) := by decide +kernel
theorem dL_pipe_9 : decode cL_pipe 9 = .ok (.goto 6, 3) := by decide +kernel
theorem dL_pipe_12 : decode cL_pipe 12 = .ok (.astore_n 3, 1) := by decide +kernel
theorem dL_pipe_13 : decode cL_pipe 13 = .ok (.iconst 1, 1) := by decide +kernel
theorem dL_pipe_14 : decode cL_pipe 14 = .ok (.ireturn, 1) := by decide +kernel
theorem dL_pipe_15 : decode cL_pipe 15 = .ok (.iconst 0, 1) := by decide +kernel
theorem dL_pipe_16 : decode cL_pipe 16 = .ok (.ireturn, 1) := by decide +kernel
set_option maxRecDepth 20000 in
theorem ggL_dirt_X5_dirt : GoodIn wsL_dirt wsX5_dirt := goodIn_ca (goodIn_r _ [6, 7, 8, 9, 10, 11, 5, 12, 13, 14, 15, 16, 17, 18, 19, 20, 21, 22, 23, 24, 25, 26, 27, 28, 29, 30, 31, 32, 33, 34, 35, 36, 37, 38] (by decide +kernel) (by decide +kernel)) (goodIn_sub (fun _ h => List.mem_cons_of_mem _ (List.mem_append_right _ h)) (by decide +kernel))
set_option maxRecDepth 20000 in
theorem gL_dirt_X5_dirt : GoodIn wsL_dirt (wsV RL 72 RX5 yX5_dirt wsX5_dirt) := goodIn_app (goodIn_of _ (by decide +kernel)) ggL_dirt_X5_dirt
theorem dL_dirt_0 : decode cL_dirt 0 = .ok (.aload_n 2, 1) := by decide +kernel
theorem dL_dirt_1 : decode cL_dirt 1 = .ok (.iconst 0, 1) := by decide +kernel
theorem dL_dirt_2 : decode cL_dirt 2 = .ok (.aload_n 0, 1) := by decide +kernel
theorem dL_dirt_3 : decode cL_dirt 3 = .ok (.iload_n 1, 1) := by decide +kernel
theorem dL_dirt_4 : decode cL_dirt 4 = .ok (.invokevirtual 72, 3) := by decide +kernel
theorem dL_dirt_7 : decode cL_dirt 7 = .ok (.i2l, 1) := by decide +kernel
theorem dL_dirt_8 : decode cL_dirt 8 = .ok (.lastore, 1) := by decide +kernel
theorem dL_dirt_9 : decode cL_dirt 9 = .ok (.goto 6, 3) := by decide +kernel
theorem dL_dirt_12 : decode cL_dirt 12 = .ok (.astore_n 3, 1) := by decide +kernel
theorem dL_dirt_13 : decode cL_dirt 13 = .ok (.iconst 1, 1) := by decide +kernel
theorem dL_dirt_14 : decode cL_dirt 14 = .ok (.ireturn, 1) := by decide +kernel
theorem dL_dirt_15 : decode cL_dirt 15 = .ok (.iconst 0, 1) := by decide +kernel
theorem dL_dirt_16 : decode cL_dirt 16 = .ok (.ireturn, 1) := by decide +kernel
set_option maxRecDepth 20000 in
theorem ggL_share_X5_share : GoodIn wsL_share wsX5_share := goodIn_ca (goodIn_ca (goodIn_r _ [7, 8, 9, 10, 11, 12, 13, 14, 6, 15, 16, 17, 18, 19, 20, 21, 22, 23, 24, 25, 26, 27, 28, 29, 30, 31, 32, 33, 34, 35, 36, 37, 38, 39, 40, 41, 42, 43, 44, 45, 46, 47, 48, 49, 50, 51, 52, 53, 54, 55, 56, 57, 58, 59, 60, 61, 62, 63, 64, 65, 66, 67, 68, 69] (by decide +kernel) (by decide +kernel)) (goodIn_sub (fun _ h => List.mem_cons_of_mem _ (List.mem_append_left _ (List.mem_append_right _ h))) (by decide +kernel))) (goodIn_sub (fun _ h => List.mem_cons_of_mem _ (List.mem_append_right _ h)) (by decide +kernel))
set_option maxRecDepth 20000 in
theorem gL_share_X5_share : GoodIn wsL_share (wsV RL 75 RX5 yX5_share wsX5_share) := goodIn_app (goodIn_of _ (by decide +kernel)) ggL_share_X5_share
theorem dL_share_0 : decode cL_share 0 = .ok (.aload_n 3, 1) := by decide +kernel
theorem dL_share_1 : decode cL_share 1 = .ok (.iconst 0, 1) := by decide +kernel
theorem dL_share_2 : decode cL_share 2 = .ok (.aload_n 0, 1) := by decide +kernel
theorem dL_share_3 : decode cL_share 3 = .ok (.iload_n 1, 1) := by decide +kernel
theorem dL_share_4 : decode cL_share 4 = .ok (.iload_n 2, 1) := by decide +kernel
theorem dL_share_5 : decode cL_share 5 = .ok (.invokevirtual 75, 3) := by decide +kernel
theorem dL_share_8 : decode cL_share 8 = .ok (.i2l, 1) := by decide +kernel
theorem dL_share_9 : decode cL_share 9 = .ok (.lastore, 1) := by decide +kernel
theorem dL_share_10 : decode cL_share 10 = .ok (.goto 11, 3) := by decide +kernel
theorem dL_share_13 : decode cL_share 13 = .ok (.astore 4, 2) := by decide +kernel
theorem dL_share_15 : decode cL_share 15 = .ok (.iconst 1, 1) := by decide +kernel
theorem dL_share_16 : decode cL_share 16 = .ok (.ireturn, 1) := by decide +kernel
theorem dL_share_17 : decode cL_share 17 = .ok (.astore 4, 2) := by decide +kernel
theorem dL_share_19 : decode cL_share 19 = .ok (.iconst 2, 1) := by decide +kernel
theorem dL_share_20 : decode cL_share 20 = .ok (.ireturn, 1) := by decide +kernel
theorem dL_share_21 : decode cL_share 21 = .ok (.iconst 0, 1) := by decide +kernel
theorem dL_share_22 : decode cL_share 22 = .ok (.ireturn, 1) := by decide +kernel
