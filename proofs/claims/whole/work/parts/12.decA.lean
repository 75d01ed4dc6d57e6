/-! decode -/
theorem dX0_init_0 : decode cX0_init 0 = .ok (.aload_n 0, 1) := by decide +kernel
theorem dX0_init_1 : decode cX0_init 1 = .ok (.invokespecial 3, 3) := by decide +kernel
theorem dX0_init_4 : decode cX0_init 4 = .ok (.aload_n 0, 1) := by decide +kernel
theorem dX0_init_5 : decode cX0_init 5 = .ok (.aload_n 1, 1) := by decide +kernel
theorem dX0_init_6 : decode cX0_init 6 = .ok (.getfield 9, 3) := by decide +kernel
theorem dX0_init_9 : decode cX0_init 9 = .ok (.putfield 15, 3) := by decide +kernel
theorem dX0_init_12 : decode cX0_init 12 = .ok (.aload_n 0, 1) := by decide +kernel
theorem dX0_init_13 : decode cX0_init 13 = .ok (.aload_n 1, 1) := by decide +kernel
theorem dX0_init_14 : decode cX0_init 14 = .ok (.getfield 18, 3) := by decide +kernel
theorem dX0_init_17 : decode cX0_init 17 = .ok (.putfield 21, 3) := by decide +kernel
theorem dX0_init_20 : decode cX0_init 20 = .ok (.aload_n 0, 1) := by decide +kernel
theorem dX0_init_21 : decode cX0_init 21 = .ok (.aload_n 1, 1) := by decide +kernel
theorem dX0_init_22 : decode cX0_init 22 = .ok (.getfield 22, 3) := by decide +kernel
theorem dX0_init_25 : decode cX0_init 25 = .ok (.putfield 25, 3) := by decide +kernel
theorem dX0_init_28 : decode cX0_init 28 = .ok (.aload_n 0, 1) := by decide +kernel
theorem dX0_init_29 : decode cX0_init 29 = .ok (.aload_n 1, 1) := by decide +kernel
theorem dX0_init_30 : decode cX0_init 30 = .ok (.getfield 26, 3) := by decide +kernel
theorem dX0_init_33 : decode cX0_init 33 = .ok (.putfield 29, 3) := by decide +kernel
theorem dX0_init_36 : decode cX0_init 36 = .ok (.aload_n 0, 1) := by decide +kernel
theorem dX0_init_37 : decode cX0_init 37 = .ok (.aload_n 1, 1) := by decide +kernel
theorem dX0_init_38 : decode cX0_init 38 = .ok (.invokestatic 30, 3) := by decide +kernel
theorem dX0_init_41 : decode cX0_init 41 = .ok (.putfield 34, 3) := by decide +kernel
theorem dX0_init_44 : decode cX0_init 44 = .ok (.aload_n 0, 1) := by decide +kernel
theorem dX0_init_45 : decode cX0_init 45 = .ok (.aload_n 0, 1) := by decide +kernel
theorem dX0_init_46 : decode cX0_init 46 = .ok (.getfield 34, 3) := by decide +kernel
theorem dX0_init_49 : decode cX0_init 49 = .ok (.invokestatic 38, 3) := by decide +kernel
theorem dX0_init_52 : decode cX0_init 52 = .ok (.putfield 42, 3) := by decide +kernel
theorem dX0_init_55 : decode cX0_init 55 = .ok (.aload_n 0, 1) := by decide +kernel
theorem dX0_init_56 : decode cX0_init 56 = .ok (.bipush 41, 2) := by decide +kernel
theorem dX0_init_58 : decode cX0_init 58 = .ok (.newarray .int, 2) := by decide +kernel
theorem dX0_init_60 : decode cX0_init 60 = .ok (.putfield 45, 3) := by decide +kernel
theorem dX0_init_63 : decode cX0_init 63 = .ok (.aload_n 0, 1) := by decide +kernel
theorem dX0_init_64 : decode cX0_init 64 = .ok (.bipush 41, 2) := by decide +kernel
theorem dX0_init_66 : decode cX0_init 66 = .ok (.newarray .int, 2) := by decide +kernel
theorem dX0_init_68 : decode cX0_init 68 = .ok (.putfield 48, 3) := by decide +kernel
theorem dX0_init_71 : decode cX0_init 71 = .ok (.iconst 1, 1) := by decide +kernel
theorem dX0_init_72 : decode cX0_init 72 = .ok (.istore_n 2, 1) := by decide +kernel
theorem dX0_init_73 : decode cX0_init 73 = .ok (.iload_n 2, 1) := by decide +kernel
theorem dX0_init_74 : decode cX0_init 74 = .ok (.bipush 41, 2) := by decide +kernel
theorem dX0_init_76 : decode cX0_init 76 = .ok (.if_icmp .ge 98, 3) := by decide +kernel
theorem dX0_init_79 : decode cX0_init 79 = .ok (.iload_n 2, 1) := by decide +kernel
theorem dX0_init_80 : decode cX0_init 80 = .ok (.aload_n 0, 1) := by decide +kernel
theorem dX0_init_81 : decode cX0_init 81 = .ok (.getfield 34, 3) := by decide +kernel
theorem dX0_init_84 : decode cX0_init 84 = .ok (.arraylength, 1) := by decide +kernel
theorem dX0_init_85 : decode cX0_init 85 = .ok (.if_icmp .gt 16, 3) := by decide +kernel
theorem dX0_init_88 : decode cX0_init 88 = .ok (.iload_n 2, 1) := by decide +kernel
theorem dX0_init_89 : decode cX0_init 89 = .ok (.aload_n 0, 1) := by decide +kernel
theorem dX0_init_90 : decode cX0_init 90 = .ok (.getfield 34, 3) := by decide +kernel
theorem dX0_init_93 : decode cX0_init 93 = .ok (.iload_n 2, 1) := by decide +kernel
theorem dX0_init_94 : decode cX0_init 94 = .ok (.iconst 1, 1) := by decide +kernel
theorem dX0_init_95 : decode cX0_init 95 = .ok (.isub, 1) := by decide +kernel
theorem dX0_init_96 : decode cX0_init 96 = .ok (.iaload, 1) := by decide +kernel
theorem dX0_init_97 : decode cX0_init 97 = .ok (.imul, 1) := by decide +kernel
theorem dX0_init_98 : decode cX0_init 98 = .ok (.goto 4, 3) := by decide +kernel
theorem dX0_init_101 : decode cX0_init 101 = .ok (.iconst 0, 1) := by decide +kernel
theorem dX0_init_102 : decode cX0_init 102 = .ok (.istore_n 3, 1) := by decide +kernel
theorem dX0_init_103 : decode cX0_init 103 = .ok (.iload_n 3, 1) := by decide +kernel
theorem dX0_init_104 : decode cX0_init 104 = .ok (.aload_n 0, 1) := by decide +kernel
theorem dX0_init_105 : decode cX0_init 105 = .ok (.getfield 45, 3) := by decide +kernel
theorem dX0_init_108 : decode cX0_init 108 = .ok (.iload_n 2, 1) := by decide +kernel
theorem dX0_init_109 : decode cX0_init 109 = .ok (.iconst 1, 1) := by decide +kernel
theorem dX0_init_110 : decode cX0_init 110 = .ok (.isub, 1) := by decide +kernel
theorem dX0_init_111 : decode cX0_init 111 = .ok (.iaload, 1) := by decide +kernel
theorem dX0_init_112 : decode cX0_init 112 = .ok (.if_icmp .le 7, 3) := by decide +kernel
theorem dX0_init_115 : decode cX0_init 115 = .ok (.iconst 1, 1) := by decide +kernel
theorem dX0_init_116 : decode cX0_init 116 = .ok (.goto 4, 3) := by decide +kernel
theorem dX0_init_119 : decode cX0_init 119 = .ok (.iconst 0, 1) := by decide +kernel
theorem dX0_init_120 : decode cX0_init 120 = .ok (.istore 4, 2) := by decide +kernel
theorem dX0_init_122 : decode cX0_init 122 = .ok (.aload_n 0, 1) := by decide +kernel
theorem dX0_init_123 : decode cX0_init 123 = .ok (.getfield 45, 3) := by decide +kernel
theorem dX0_init_126 : decode cX0_init 126 = .ok (.iload_n 2, 1) := by decide +kernel
theorem dX0_init_127 : decode cX0_init 127 = .ok (.iload 4, 2) := by decide +kernel
theorem dX0_init_129 : decode cX0_init 129 = .ok (.ifCond .eq 7, 3) := by decide +kernel
theorem dX0_init_132 : decode cX0_init 132 = .ok (.iload_n 3, 1) := by decide +kernel
theorem dX0_init_133 : decode cX0_init 133 = .ok (.goto 11, 3) := by decide +kernel
theorem dX0_init_136 : decode cX0_init 136 = .ok (.aload_n 0, 1) := by decide +kernel
theorem dX0_init_137 : decode cX0_init 137 = .ok (.getfield 45, 3) := by decide +kernel
theorem dX0_init_140 : decode cX0_init 140 = .ok (.iload_n 2, 1) := by decide +kernel
theorem dX0_init_141 : decode cX0_init 141 = .ok (.iconst 1, 1) := by decide +kernel
theorem dX0_init_142 : decode cX0_init 142 = .ok (.isub, 1) := by decide +kernel
theorem dX0_init_143 : decode cX0_init 143 = .ok (.iaload, 1) := by decide +kernel
theorem dX0_init_144 : decode cX0_init 144 = .ok (.iastore, 1) := by decide +kernel
theorem dX0_init_145 : decode cX0_init 145 = .ok (.aload_n 0, 1) := by decide +kernel
theorem dX0_init_146 : decode cX0_init 146 = .ok (.getfield 48, 3) := by decide +kernel
theorem dX0_init_149 : decode cX0_init 149 = .ok (.iload_n 2, 1) := by decide +kernel
theorem dX0_init_150 : decode cX0_init 150 = .ok (.iload 4, 2) := by decide +kernel
theorem dX0_init_152 : decode cX0_init 152 = .ok (.ifCond .eq 7, 3) := by decide +kernel
theorem dX0_init_155 : decode cX0_init 155 = .ok (.iload_n 2, 1) := by decide +kernel
theorem dX0_init_156 : decode cX0_init 156 = .ok (.goto 11, 3) := by decide +kernel
theorem dX0_init_159 : decode cX0_init 159 = .ok (.aload_n 0, 1) := by decide +kernel
theorem dX0_init_160 : decode cX0_init 160 = .ok (.getfield 48, 3) := by decide +kernel
theorem dX0_init_163 : decode cX0_init 163 = .ok (.iload_n 2, 1) := by decide +kernel
theorem dX0_init_164 : decode cX0_init 164 = .ok (.iconst 1, 1) := by decide +kernel
theorem dX0_init_165 : decode cX0_init 165 = .ok (.isub, 1) := by decide +kernel
theorem dX0_init_166 : decode cX0_init 166 = .ok (.iaload, 1) := by decide +kernel
theorem dX0_init_167 : decode cX0_init 167 = .ok (.iastore, 1) := by decide +kernel
theorem dX0_init_168 : decode cX0_init 168 = .ok (.iinc 2 1, 3) := by decide +kernel
theorem dX0_init_171 : decode cX0_init 171 = .ok (.goto (-98), 3) := by decide +kernel
theorem dX0_init_174 : decode cX0_init 174 = .ok (.aload_n 0, 1) := by decide +kernel
theorem dX0_init_175 : decode cX0_init 175 = .ok (.aload_n 1, 1) := by decide +kernel
theorem dX0_init_176 : decode cX0_init 176 = .ok (.getfield 51, 3) := by decide +kernel
theorem dX0_init_179 : decode cX0_init 179 = .ok (.invokevirtual 54, 3) := by decide +kernel
theorem dX0_init_182 : decode cX0_init 182 = .ok (.checkcast 55, 3) := by decide +kernel
theorem dX0_init_185 : decode cX0_init 185 = .ok (.putfield 59, 3) := by decide +kernel
theorem dX0_init_188 : decode cX0_init 188 = .ok (.aload_n 0, 1) := by decide +kernel
theorem dX0_init_189 : decode cX0_init 189 = .ok (.aload_n 1, 1) := by decide +kernel
theorem dX0_init_190 : decode cX0_init 190 = .ok (.getfield 60, 3) := by decide +kernel
theorem dX0_init_193 : decode cX0_init 193 = .ok (.invokevirtual 54, 3) := by decide +kernel
theorem dX0_init_196 : decode cX0_init 196 = .ok (.checkcast 55, 3) := by decide +kernel
theorem dX0_init_199 : decode cX0_init 199 = .ok (.putfield 63, 3) := by decide +kernel
theorem dX0_init_202 : decode cX0_init 202 = .ok (.aload_n 0, 1) := by decide +kernel
theorem dX0_init_203 : decode cX0_init 203 = .ok (.aload_n 1, 1) := by decide +kernel
theorem dX0_init_204 : decode cX0_init 204 = .ok (.getfield 64, 3) := by decide +kernel
theorem dX0_init_207 : decode cX0_init 207 = .ok (.invokevirtual 54, 3) := by decide +kernel
theorem dX0_init_210 : decode cX0_init 210 = .ok (.checkcast 55, 3) := by decide +kernel
theorem dX0_init_213 : decode cX0_init 213 = .ok (.putfield 67, 3) := by decide +kernel
theorem dX0_init_216 : decode cX0_init 216 = .ok (.aload_n 0, 1) := by decide +kernel
theorem dX0_init_217 : decode cX0_init 217 = .ok (.aload_n 1, 1) := by decide +kernel
theorem dX0_init_218 : decode cX0_init 218 = .ok (.getfield 68, 3) := by decide +kernel
theorem dX0_init_221 : decode cX0_init 221 = .ok (.invokevirtual 54, 3) := by decide +kernel
theorem dX0_init_224 : decode cX0_init 224 = .ok (.checkcast 55, 3) := by decide +kernel
theorem dX0_init_227 : decode cX0_init 227 = .ok (.putfield 71, 3) := by decide +kernel
theorem dX0_init_230 : decode cX0_init 230 = .ok (.iconst 0, 1) := by decide +kernel
theorem dX0_init_231 : decode cX0_init 231 = .ok (.istore_n 2, 1) := by decide +kernel
theorem dX0_init_232 : decode cX0_init 232 = .ok (.iload_n 2, 1) := by decide +kernel
theorem dX0_init_233 : decode cX0_init 233 = .ok (.aload_n 0, 1) := by decide +kernel
theorem dX0_init_234 : decode cX0_init 234 = .ok (.getfield 15, 3) := by decide +kernel
theorem dX0_init_237 : decode cX0_init 237 = .ok (.if_icmp .ge 50, 3) := by decide +kernel
theorem dX0_init_240 : decode cX0_init 240 = .ok (.aload_n 0, 1) := by decide +kernel
theorem dX0_init_241 : decode cX0_init 241 = .ok (.getfield 59, 3) := by decide +kernel
theorem dX0_init_244 : decode cX0_init 244 = .ok (.iload_n 2, 1) := by decide +kernel
theorem dX0_init_245 : decode cX0_init 245 = .ok (.iaload, 1) := by decide +kernel
theorem dX0_init_246 : decode cX0_init 246 = .ok (.ifCond .ne 35, 3) := by decide +kernel
theorem dX0_init_249 : decode cX0_init 249 = .ok (.aload_n 0, 1) := by decide +kernel
theorem dX0_init_250 : decode cX0_init 250 = .ok (.getfield 59, 3) := by decide +kernel
theorem dX0_init_253 : decode cX0_init 253 = .ok (.iload_n 2, 1) := by decide +kernel
theorem dX0_init_254 : decode cX0_init 254 = .ok (.iconst 1, 1) := by decide +kernel
theorem dX0_init_255 : decode cX0_init 255 = .ok (.iastore, 1) := by decide +kernel
theorem dX0_init_256 : decode cX0_init 256 = .ok (.aload_n 0, 1) := by decide +kernel
theorem dX0_init_257 : decode cX0_init 257 = .ok (.getfield 63, 3) := by decide +kernel
theorem dX0_init_260 : decode cX0_init 260 = .ok (.iload_n 2, 1) := by decide +kernel
theorem dX0_init_261 : decode cX0_init 261 = .ok (.iconst 4, 1) := by decide +kernel
theorem dX0_init_262 : decode cX0_init 262 = .ok (.imul, 1) := by decide +kernel
theorem dX0_init_263 : decode cX0_init 263 = .ok (.iconst 0, 1) := by decide +kernel
theorem dX0_init_264 : decode cX0_init 264 = .ok (.iastore, 1) := by decide +kernel
theorem dX0_init_265 : decode cX0_init 265 = .ok (.aload_n 0, 1) := by decide +kernel
theorem dX0_init_266 : decode cX0_init 266 = .ok (.getfield 67, 3) := by decide +kernel
theorem dX0_init_269 : decode cX0_init 269 = .ok (.iload_n 2, 1) := by decide +kernel
theorem dX0_init_270 : decode cX0_init 270 = .ok (.iconst 4, 1) := by decide +kernel
theorem dX0_init_271 : decode cX0_init 271 = .ok (.imul, 1) := by decide +kernel
theorem dX0_init_272 : decode cX0_init 272 = .ok (.iconst 1, 1) := by decide +kernel
theorem dX0_init_273 : decode cX0_init 273 = .ok (.iastore, 1) := by decide +kernel
theorem dX0_init_274 : decode cX0_init 274 = .ok (.aload_n 0, 1) := by decide +kernel
theorem dX0_init_275 : decode cX0_init 275 = .ok (.getfield 71, 3) := by decide +kernel
theorem dX0_init_278 : decode cX0_init 278 = .ok (.iload_n 2, 1) := by decide +kernel
theorem dX0_init_279 : decode cX0_init 279 = .ok (.iconst 1, 1) := by decide +kernel
theorem dX0_init_280 : decode cX0_init 280 = .ok (.iastore, 1) := by decide +kernel
theorem dX0_init_281 : decode cX0_init 281 = .ok (.iinc 2 1, 3) := by decide +kernel
theorem dX0_init_284 : decode cX0_init 284 = .ok (.goto (-52), 3) := by decide +kernel
theorem dX0_init_287 : decode cX0_init 287 = .ok (.aload_n 0, 1) := by decide +kernel
theorem dX0_init_288 : decode cX0_init 288 = .ok (.sipush 164, 3) := by decide +kernel
theorem dX0_init_291 : decode cX0_init 291 = .ok (.newarray .int, 2) := by decide +kernel
theorem dX0_init_293 : decode cX0_init 293 = .ok (.putfield 72, 3) := by decide +kernel
theorem dX0_init_296 : decode cX0_init 296 = .ok (.aload_n 0, 1) := by decide +kernel
theorem dX0_init_297 : decode cX0_init 297 = .ok (.bipush 6, 2) := by decide +kernel
theorem dX0_init_299 : decode cX0_init 299 = .ok (.anewarray 75, 3) := by decide +kernel
theorem dX0_init_302 : decode cX0_init 302 = .ok (.putfield 77, 3) := by decide +kernel
theorem dX0_init_305 : decode cX0_init 305 = .ok (.aload_n 0, 1) := by decide +kernel
theorem dX0_init_306 : decode cX0_init 306 = .ok (.bipush 20, 2) := by decide +kernel
theorem dX0_init_308 : decode cX0_init 308 = .ok (.putfield 81, 3) := by decide +kernel
theorem dX0_init_311 : decode cX0_init 311 = .ok (.aload_n 0, 1) := by decide +kernel
theorem dX0_init_312 : decode cX0_init 312 = .ok (.iconst (-1), 1) := by decide +kernel
theorem dX0_init_313 : decode cX0_init 313 = .ok (.putfield 84, 3) := by decide +kernel
theorem dX0_init_316 : decode cX0_init 316 = .ok (.return_, 1) := by decide +kernel
theorem dX0_paysOf_0 : decode cX0_paysOf 0 = .ok (.iconst 0, 1) := by decide +kernel
theorem dX0_paysOf_1 : decode cX0_paysOf 1 = .ok (.aload_n 0, 1) := by decide +kernel
theorem dX0_paysOf_2 : decode cX0_paysOf 2 = .ok (.getfield 87, 3) := by decide +kernel
theorem dX0_paysOf_5 : decode cX0_paysOf 5 = .ok (.invokestatic 90, 3) := by decide +kernel
theorem dX0_paysOf_8 : decode cX0_paysOf 8 = .ok (.newarray .int, 2) := by decide +kernel
theorem dX0_paysOf_10 : decode cX0_paysOf 10 = .ok (.astore_n 1, 1) := by decide +kernel
theorem dX0_paysOf_11 : decode cX0_paysOf 11 = .ok (.iconst 0, 1) := by decide +kernel
theorem dX0_paysOf_12 : decode cX0_paysOf 12 = .ok (.istore_n 2, 1) := by decide +kernel
theorem dX0_paysOf_13 : decode cX0_paysOf 13 = .ok (.bipush 99, 2) := by decide +kernel
theorem dX0_paysOf_15 : decode cX0_paysOf 15 = .ok (.istore_n 3, 1) := by decide +kernel
theorem dX0_paysOf_16 : decode cX0_paysOf 16 = .ok (.iload_n 3, 1) := by decide +kernel
theorem dX0_paysOf_17 : decode cX0_paysOf 17 = .ok (.ifCond .le 42, 3) := by decide +kernel
theorem dX0_paysOf_20 : decode cX0_paysOf 20 = .ok (.iconst 0, 1) := by decide +kernel
theorem dX0_paysOf_21 : decode cX0_paysOf 21 = .ok (.istore 4, 2) := by decide +kernel
theorem dX0_paysOf_23 : decode cX0_paysOf 23 = .ok (.iload 4, 2) := by decide +kernel
theorem dX0_paysOf_25 : decode cX0_paysOf 25 = .ok (.aload_n 0, 1) := by decide +kernel
theorem dX0_paysOf_26 : decode cX0_paysOf 26 = .ok (.getfield 96, 3) := by decide +kernel
theorem dX0_paysOf_29 : decode cX0_paysOf 29 = .ok (.iload_n 3, 1) := by decide +kernel
theorem dX0_paysOf_30 : decode cX0_paysOf 30 = .ok (.iaload, 1) := by decide +kernel
theorem dX0_paysOf_31 : decode cX0_paysOf 31 = .ok (.if_icmp .ge 22, 3) := by decide +kernel
theorem dX0_paysOf_34 : decode cX0_paysOf 34 = .ok (.iload_n 2, 1) := by decide +kernel
theorem dX0_paysOf_35 : decode cX0_paysOf 35 = .ok (.aload_n 1, 1) := by decide +kernel
theorem dX0_paysOf_36 : decode cX0_paysOf 36 = .ok (.arraylength, 1) := by decide +kernel
theorem dX0_paysOf_37 : decode cX0_paysOf 37 = .ok (.if_icmp .ge 16, 3) := by decide +kernel
theorem dX0_paysOf_40 : decode cX0_paysOf 40 = .ok (.aload_n 1, 1) := by decide +kernel
theorem dX0_paysOf_41 : decode cX0_paysOf 41 = .ok (.iload_n 2, 1) := by decide +kernel
theorem dX0_paysOf_42 : decode cX0_paysOf 42 = .ok (.iload_n 3, 1) := by decide +kernel
theorem dX0_paysOf_43 : decode cX0_paysOf 43 = .ok (.iastore, 1) := by decide +kernel
theorem dX0_paysOf_44 : decode cX0_paysOf 44 = .ok (.iinc 2 1, 3) := by decide +kernel
theorem dX0_paysOf_47 : decode cX0_paysOf 47 = .ok (.iinc 4 1, 3) := by decide +kernel
theorem dX0_paysOf_50 : decode cX0_paysOf 50 = .ok (.goto (-27), 3) := by decide +kernel
theorem dX0_paysOf_53 : decode cX0_paysOf 53 = .ok (.iinc 3 (-1), 3) := by decide +kernel
theorem dX0_paysOf_56 : decode cX0_paysOf 56 = .ok (.goto (-40), 3) := by decide +kernel
theorem dX0_paysOf_59 : decode cX0_paysOf 59 = .ok (.aload_n 1, 1) := by decide +kernel
theorem dX0_paysOf_60 : decode cX0_paysOf 60 = .ok (.areturn, 1) := by decide +kernel
theorem dX0_goodsOfFirst_0 : decode cX0_goodsOfFirst 0 = .ok (.sipush 201, 3) := by decide +kernel
theorem dX0_goodsOfFirst_3 : decode cX0_goodsOfFirst 3 = .ok (.newarray .int, 2) := by decide +kernel
theorem dX0_goodsOfFirst_5 : decode cX0_goodsOfFirst 5 = .ok (.astore_n 1, 1) := by decide +kernel
theorem dX0_goodsOfFirst_6 : decode cX0_goodsOfFirst 6 = .ok (.iconst 1, 1) := by decide +kernel
theorem dX0_goodsOfFirst_7 : decode cX0_goodsOfFirst 7 = .ok (.istore_n 2, 1) := by decide +kernel
theorem dX0_goodsOfFirst_8 : decode cX0_goodsOfFirst 8 = .ok (.iload_n 2, 1) := by decide +kernel
theorem dX0_goodsOfFirst_9 : decode cX0_goodsOfFirst 9 = .ok (.sipush 200, 3) := by decide +kernel
theorem dX0_goodsOfFirst_12 : decode cX0_goodsOfFirst 12 = .ok (.if_icmp .gt 33, 3) := by decide +kernel
theorem dX0_goodsOfFirst_15 : decode cX0_goodsOfFirst 15 = .ok (.aload_n 1, 1) := by decide +kernel
theorem dX0_goodsOfFirst_16 : decode cX0_goodsOfFirst 16 = .ok (.iload_n 2, 1) := by decide +kernel
theorem dX0_goodsOfFirst_17 : decode cX0_goodsOfFirst 17 = .ok (.aload_n 1, 1) := by decide +kernel
theorem dX0_goodsOfFirst_18 : decode cX0_goodsOfFirst 18 = .ok (.iload_n 2, 1) := by decide +kernel
theorem dX0_goodsOfFirst_19 : decode cX0_goodsOfFirst 19 = .ok (.iconst 1, 1) := by decide +kernel
theorem dX0_goodsOfFirst_20 : decode cX0_goodsOfFirst 20 = .ok (.isub, 1) := by decide +kernel
theorem dX0_goodsOfFirst_21 : decode cX0_goodsOfFirst 21 = .ok (.iaload, 1) := by decide +kernel
theorem dX0_goodsOfFirst_22 : decode cX0_goodsOfFirst 22 = .ok (.iload_n 2, 1) := by decide +kernel
theorem dX0_goodsOfFirst_23 : decode cX0_goodsOfFirst 23 = .ok (.aload_n 0, 1) := by decide +kernel
theorem dX0_goodsOfFirst_24 : decode cX0_goodsOfFirst 24 = .ok (.arraylength, 1) := by decide +kernel
theorem dX0_goodsOfFirst_25 : decode cX0_goodsOfFirst 25 = .ok (.if_icmp .gt 11, 3) := by decide +kernel
theorem dX0_goodsOfFirst_28 : decode cX0_goodsOfFirst 28 = .ok (.aload_n 0, 1) := by decide +kernel
theorem dX0_goodsOfFirst_29 : decode cX0_goodsOfFirst 29 = .ok (.iload_n 2, 1) := by decide +kernel
theorem dX0_goodsOfFirst_30 : decode cX0_goodsOfFirst 30 = .ok (.iconst 1, 1) := by decide +kernel
theorem dX0_goodsOfFirst_31 : decode cX0_goodsOfFirst 31 = .ok (.isub, 1) := by decide +kernel
theorem dX0_goodsOfFirst_32 : decode cX0_goodsOfFirst 32 = .ok (.iaload, 1) := by decide +kernel
theorem dX0_goodsOfFirst_33 : decode cX0_goodsOfFirst 33 = .ok (.goto 4, 3) := by decide +kernel
theorem dX0_goodsOfFirst_36 : decode cX0_goodsOfFirst 36 = .ok (.iconst 0, 1) := by decide +kernel
theorem dX0_goodsOfFirst_37 : decode cX0_goodsOfFirst 37 = .ok (.iadd, 1) := by decide +kernel
theorem dX0_goodsOfFirst_38 : decode cX0_goodsOfFirst 38 = .ok (.iastore, 1) := by decide +kernel
theorem dX0_goodsOfFirst_39 : decode cX0_goodsOfFirst 39 = .ok (.iinc 2 1, 3) := by decide +kernel
theorem dX0_goodsOfFirst_42 : decode cX0_goodsOfFirst 42 = .ok (.goto (-34), 3) := by decide +kernel
theorem dX0_goodsOfFirst_45 : decode cX0_goodsOfFirst 45 = .ok (.aload_n 1, 1) := by decide +kernel
theorem dX0_goodsOfFirst_46 : decode cX0_goodsOfFirst 46 = .ok (.areturn, 1) := by decide +kernel
theorem dX0_eatersOf_0 : decode cX0_eatersOf 0 = .ok (.iload_n 1, 1) := by decide +kernel
theorem dX0_eatersOf_1 : decode cX0_eatersOf 1 = .ok (.aload_n 0, 1) := by decide +kernel
theorem dX0_eatersOf_2 : decode cX0_eatersOf 2 = .ok (.getfield 34, 3) := by decide +kernel
theorem dX0_eatersOf_5 : decode cX0_eatersOf 5 = .ok (.arraylength, 1) := by decide +kernel
theorem dX0_eatersOf_6 : decode cX0_eatersOf 6 = .ok (.invokestatic 99, 3) := by decide +kernel
theorem dX0_eatersOf_9 : decode cX0_eatersOf 9 = .ok (.ireturn, 1) := by decide +kernel
theorem dX0_goodsOf_0 : decode cX0_goodsOf 0 = .ok (.iload_n 1, 1) := by decide +kernel
theorem dX0_goodsOf_1 : decode cX0_goodsOf 1 = .ok (.iconst 0, 1) := by decide +kernel
theorem dX0_goodsOf_2 : decode cX0_goodsOf 2 = .ok (.sipush 200, 3) := by decide +kernel
theorem dX0_goodsOf_5 : decode cX0_goodsOf 5 = .ok (.invokestatic 102, 3) := by decide +kernel
theorem dX0_goodsOf_8 : decode cX0_goodsOf 8 = .ok (.ifCond .eq 12, 3) := by decide +kernel
theorem dX0_goodsOf_11 : decode cX0_goodsOf 11 = .ok (.aload_n 0, 1) := by decide +kernel
theorem dX0_goodsOf_12 : decode cX0_goodsOf 12 = .ok (.getfield 42, 3) := by decide +kernel
theorem dX0_goodsOf_15 : decode cX0_goodsOf 15 = .ok (.iload_n 1, 1) := by decide +kernel
theorem dX0_goodsOf_16 : decode cX0_goodsOf 16 = .ok (.iaload, 1) := by decide +kernel
theorem dX0_goodsOf_17 : decode cX0_goodsOf 17 = .ok (.goto 4, 3) := by decide +kernel
theorem dX0_goodsOf_20 : decode cX0_goodsOf 20 = .ok (.iconst 0, 1) := by decide +kernel
theorem dX0_goodsOf_21 : decode cX0_goodsOf 21 = .ok (.ireturn, 1) := by decide +kernel
theorem dX0_priceAfter_0 : decode cX0_priceAfter 0 = .ok (.iload_n 1, 1) := by decide +kernel
theorem dX0_priceAfter_1 : decode cX0_priceAfter 1 = .ok (.ifCond .lt 21, 3) := by decide +kernel
theorem dX0_priceAfter_4 : decode cX0_priceAfter 4 = .ok (.iload_n 1, 1) := by decide +kernel
theorem dX0_priceAfter_5 : decode cX0_priceAfter 5 = .ok (.aload_n 0, 1) := by decide +kernel
theorem dX0_priceAfter_6 : decode cX0_priceAfter 6 = .ok (.getfield 34, 3) := by decide +kernel
theorem dX0_priceAfter_9 : decode cX0_priceAfter 9 = .ok (.arraylength, 1) := by decide +kernel
theorem dX0_priceAfter_10 : decode cX0_priceAfter 10 = .ok (.if_icmp .ge 12, 3) := by decide +kernel
theorem dX0_priceAfter_13 : decode cX0_priceAfter 13 = .ok (.aload_n 0, 1) := by decide +kernel
theorem dX0_priceAfter_14 : decode cX0_priceAfter 14 = .ok (.getfield 34, 3) := by decide +kernel
theorem dX0_priceAfter_17 : decode cX0_priceAfter 17 = .ok (.iload_n 1, 1) := by decide +kernel
theorem dX0_priceAfter_18 : decode cX0_priceAfter 18 = .ok (.iaload, 1) := by decide +kernel
theorem dX0_priceAfter_19 : decode cX0_priceAfter 19 = .ok (.goto 4, 3) := by decide +kernel
theorem dX0_priceAfter_22 : decode cX0_priceAfter 22 = .ok (.iconst 0, 1) := by decide +kernel
theorem dX0_priceAfter_23 : decode cX0_priceAfter 23 = .ok (.ireturn, 1) := by decide +kernel
theorem dX0_saleOf_0 : decode cX0_saleOf 0 = .ok (.iload_n 1, 1) := by decide +kernel
theorem dX0_saleOf_1 : decode cX0_saleOf 1 = .ok (.iconst 0, 1) := by decide +kernel
theorem dX0_saleOf_2 : decode cX0_saleOf 2 = .ok (.bipush 40, 2) := by decide +kernel
theorem dX0_saleOf_4 : decode cX0_saleOf 4 = .ok (.invokestatic 102, 3) := by decide +kernel
theorem dX0_saleOf_7 : decode cX0_saleOf 7 = .ok (.ifCond .eq 12, 3) := by decide +kernel
theorem dX0_saleOf_10 : decode cX0_saleOf 10 = .ok (.aload_n 0, 1) := by decide +kernel
theorem dX0_saleOf_11 : decode cX0_saleOf 11 = .ok (.getfield 48, 3) := by decide +kernel
theorem dX0_saleOf_14 : decode cX0_saleOf 14 = .ok (.iload_n 1, 1) := by decide +kernel
theorem dX0_saleOf_15 : decode cX0_saleOf 15 = .ok (.iaload, 1) := by decide +kernel
theorem dX0_saleOf_16 : decode cX0_saleOf 16 = .ok (.goto 4, 3) := by decide +kernel
theorem dX0_saleOf_19 : decode cX0_saleOf 19 = .ok (.iconst 0, 1) := by decide +kernel
theorem dX0_saleOf_20 : decode cX0_saleOf 20 = .ok (.ireturn, 1) := by decide +kernel
theorem dX0_priceOfSale_0 : decode cX0_priceOfSale 0 = .ok (.iload_n 1, 1) := by decide +kernel
theorem dX0_priceOfSale_1 : decode cX0_priceOfSale 1 = .ok (.iconst 1, 1) := by decide +kernel
theorem dX0_priceOfSale_2 : decode cX0_priceOfSale 2 = .ok (.aload_n 0, 1) := by decide +kernel
theorem dX0_priceOfSale_3 : decode cX0_priceOfSale 3 = .ok (.getfield 34, 3) := by decide +kernel
theorem dX0_priceOfSale_6 : decode cX0_priceOfSale 6 = .ok (.arraylength, 1) := by decide +kernel
theorem dX0_priceOfSale_7 : decode cX0_priceOfSale 7 = .ok (.invokestatic 102, 3) := by decide +kernel
theorem dX0_priceOfSale_10 : decode cX0_priceOfSale 10 = .ok (.ifCond .eq 14, 3) := by decide +kernel
theorem dX0_priceOfSale_13 : decode cX0_priceOfSale 13 = .ok (.aload_n 0, 1) := by decide +kernel
theorem dX0_priceOfSale_14 : decode cX0_priceOfSale 14 = .ok (.getfield 34, 3) := by decide +kernel
theorem dX0_priceOfSale_17 : decode cX0_priceOfSale 17 = .ok (.iload_n 1, 1) := by decide +kernel
theorem dX0_priceOfSale_18 : decode cX0_priceOfSale 18 = .ok (.iconst 1, 1) := by decide +kernel
theorem dX0_priceOfSale_19 : decode cX0_priceOfSale 19 = .ok (.isub, 1) := by decide +kernel
theorem dX0_priceOfSale_20 : decode cX0_priceOfSale 20 = .ok (.iaload, 1) := by decide +kernel
theorem dX0_priceOfSale_21 : decode cX0_priceOfSale 21 = .ok (.goto 5, 3) := by decide +kernel
theorem dX0_priceOfSale_24 : decode cX0_priceOfSale 24 = .ok (.bipush 100, 2) := by decide +kernel
theorem dX0_priceOfSale_26 : decode cX0_priceOfSale 26 = .ok (.ireturn, 1) := by decide +kernel
theorem dX0_leftOf_0 : decode cX0_leftOf 0 = .ok (.aload_n 0, 1) := by decide +kernel
theorem dX0_leftOf_1 : decode cX0_leftOf 1 = .ok (.getfield 25, 3) := by decide +kernel
theorem dX0_leftOf_4 : decode cX0_leftOf 4 = .ok (.ifCond .le 14, 3) := by decide +kernel
theorem dX0_leftOf_7 : decode cX0_leftOf 7 = .ok (.iload_n 1, 1) := by decide +kernel
theorem dX0_leftOf_8 : decode cX0_leftOf 8 = .ok (.iload_n 1, 1) := by decide +kernel
theorem dX0_leftOf_9 : decode cX0_leftOf 9 = .ok (.aload_n 0, 1) := by decide +kernel
theorem dX0_leftOf_10 : decode cX0_leftOf 10 = .ok (.getfield 25, 3) := by decide +kernel
theorem dX0_leftOf_13 : decode cX0_leftOf 13 = .ok (.idiv, 1) := by decide +kernel
theorem dX0_leftOf_14 : decode cX0_leftOf 14 = .ok (.isub, 1) := by decide +kernel
theorem dX0_leftOf_15 : decode cX0_leftOf 15 = .ok (.goto 4, 3) := by decide +kernel
theorem dX0_leftOf_18 : decode cX0_leftOf 18 = .ok (.iload_n 1, 1) := by decide +kernel
theorem dX0_leftOf_19 : decode cX0_leftOf 19 = .ok (.ireturn, 1) := by decide +kernel
theorem dX0_mostKept_0 : decode cX0_mostKept 0 = .ok (.aload_n 0, 1) := by decide +kernel
theorem dX0_mostKept_1 : decode cX0_mostKept 1 = .ok (.getfield 29, 3) := by decide +kernel
theorem dX0_mostKept_4 : decode cX0_mostKept 4 = .ok (.aload_n 0, 1) := by decide +kernel
theorem dX0_mostKept_5 : decode cX0_mostKept 5 = .ok (.getfield 81, 3) := by decide +kernel
theorem dX0_mostKept_8 : decode cX0_mostKept 8 = .ok (.invokestatic 99, 3) := by decide +kernel
theorem dX0_mostKept_11 : decode cX0_mostKept 11 = .ok (.ireturn, 1) := by decide +kernel
theorem dX0_seasonBehind_0 : decode cX0_seasonBehind 0 = .ok (.iload_n 1, 1) := by decide +kernel
theorem dX0_seasonBehind_1 : decode cX0_seasonBehind 1 = .ok (.iconst 1, 1) := by decide +kernel
theorem dX0_seasonBehind_2 : decode cX0_seasonBehind 2 = .ok (.iadd, 1) := by decide +kernel
theorem dX0_seasonBehind_3 : decode cX0_seasonBehind 3 = .ok (.aload_n 0, 1) := by decide +kernel
theorem dX0_seasonBehind_4 : decode cX0_seasonBehind 4 = .ok (.getfield 15, 3) := by decide +kernel
theorem dX0_seasonBehind_7 : decode cX0_seasonBehind 7 = .ok (.if_icmp .ge 9, 3) := by decide +kernel
theorem dX0_seasonBehind_10 : decode cX0_seasonBehind 10 = .ok (.iload_n 1, 1) := by decide +kernel
theorem dX0_seasonBehind_11 : decode cX0_seasonBehind 11 = .ok (.iconst 1, 1) := by decide +kernel
theorem dX0_seasonBehind_12 : decode cX0_seasonBehind 12 = .ok (.iadd, 1) := by decide +kernel
theorem dX0_seasonBehind_13 : decode cX0_seasonBehind 13 = .ok (.goto 4, 3) := by decide +kernel
theorem dX0_seasonBehind_16 : decode cX0_seasonBehind 16 = .ok (.iconst 0, 1) := by decide +kernel
theorem dX0_seasonBehind_17 : decode cX0_seasonBehind 17 = .ok (.ireturn, 1) := by decide +kernel
theorem dX0_seasonAhead_0 : decode cX0_seasonAhead 0 = .ok (.iload_n 1, 1) := by decide +kernel
theorem dX0_seasonAhead_1 : decode cX0_seasonAhead 1 = .ok (.ifCond .le 9, 3) := by decide +kernel
theorem dX0_seasonAhead_4 : decode cX0_seasonAhead 4 = .ok (.iload_n 1, 1) := by decide +kernel
theorem dX0_seasonAhead_5 : decode cX0_seasonAhead 5 = .ok (.iconst 1, 1) := by decide +kernel
theorem dX0_seasonAhead_6 : decode cX0_seasonAhead 6 = .ok (.isub, 1) := by decide +kernel
theorem dX0_seasonAhead_7 : decode cX0_seasonAhead 7 = .ok (.goto 9, 3) := by decide +kernel
theorem dX0_seasonAhead_10 : decode cX0_seasonAhead 10 = .ok (.aload_n 0, 1) := by decide +kernel
theorem dX0_seasonAhead_11 : decode cX0_seasonAhead 11 = .ok (.getfield 15, 3) := by decide +kernel
theorem dX0_seasonAhead_14 : decode cX0_seasonAhead 14 = .ok (.iconst 1, 1) := by decide +kernel
theorem dX0_seasonAhead_15 : decode cX0_seasonAhead 15 = .ok (.isub, 1) := by decide +kernel
theorem dX0_seasonAhead_16 : decode cX0_seasonAhead 16 = .ok (.ireturn, 1) := by decide +kernel
theorem dX0_belowOf_0 : decode cX0_belowOf 0 = .ok (.lconst 1, 1) := by decide +kernel
theorem dX0_belowOf_1 : decode cX0_belowOf 1 = .ok (.lstore_n 3, 1) := by decide +kernel
theorem dX0_belowOf_2 : decode cX0_belowOf 2 = .ok (.iload_n 2, 1) := by decide +kernel
theorem dX0_belowOf_3 : decode cX0_belowOf 3 = .ok (.istore 5, 2) := by decide +kernel
theorem dX0_belowOf_5 : decode cX0_belowOf 5 = .ok (.iconst 1, 1) := by decide +kernel
theorem dX0_belowOf_6 : decode cX0_belowOf 6 = .ok (.istore 6, 2) := by decide +kernel
theorem dX0_belowOf_8 : decode cX0_belowOf 8 = .ok (.iload 6, 2) := by decide +kernel
theorem dX0_belowOf_10 : decode cX0_belowOf 10 = .ok (.iload_n 1, 1) := by decide +kernel
theorem dX0_belowOf_11 : decode cX0_belowOf 11 = .ok (.if_icmp .ge 28, 3) := by decide +kernel
theorem dX0_belowOf_14 : decode cX0_belowOf 14 = .ok (.aload_n 0, 1) := by decide +kernel
theorem dX0_belowOf_15 : decode cX0_belowOf 15 = .ok (.iload 5, 2) := by decide +kernel
theorem dX0_belowOf_17 : decode cX0_belowOf 17 = .ok (.invokevirtual 106, 3) := by decide +kernel
theorem dX0_belowOf_20 : decode cX0_belowOf 20 = .ok (.istore 5, 2) := by decide +kernel
theorem dX0_belowOf_22 : decode cX0_belowOf 22 = .ok (.lload_n 3, 1) := by decide +kernel
theorem dX0_belowOf_23 : decode cX0_belowOf 23 = .ok (.aload_n 0, 1) := by decide +kernel
theorem dX0_belowOf_24 : decode cX0_belowOf 24 = .ok (.getfield 71, 3) := by decide +kernel
theorem dX0_belowOf_27 : decode cX0_belowOf 27 = .ok (.iload 5, 2) := by decide +kernel
theorem dX0_belowOf_29 : decode cX0_belowOf 29 = .ok (.iaload, 1) := by decide +kernel
theorem dX0_belowOf_30 : decode cX0_belowOf 30 = .ok (.i2l, 1) := by decide +kernel
theorem dX0_belowOf_31 : decode cX0_belowOf 31 = .ok (.lmul, 1) := by decide +kernel
theorem dX0_belowOf_32 : decode cX0_belowOf 32 = .ok (.lstore_n 3, 1) := by decide +kernel
theorem dX0_belowOf_33 : decode cX0_belowOf 33 = .ok (.iinc 6 1, 3) := by decide +kernel
theorem dX0_belowOf_36 : decode cX0_belowOf 36 = .ok (.goto (-28), 3) := by decide +kernel
theorem dX0_belowOf_39 : decode cX0_belowOf 39 = .ok (.lload_n 3, 1) := by decide +kernel
theorem dX0_belowOf_40 : decode cX0_belowOf 40 = .ok (.lreturn, 1) := by decide +kernel
theorem dX0_planOf_0 : decode cX0_planOf 0 = .ok (.aload_n 0, 1) := by decide +kernel
theorem dX0_planOf_1 : decode cX0_planOf 1 = .ok (.getfield 77, 3) := by decide +kernel
theorem dX0_planOf_4 : decode cX0_planOf 4 = .ok (.iload_n 1, 1) := by decide +kernel
theorem dX0_planOf_5 : decode cX0_planOf 5 = .ok (.aaload, 1) := by decide +kernel
theorem dX0_planOf_6 : decode cX0_planOf 6 = .ok (.ifnonnull 18, 3) := by decide +kernel
theorem dX0_planOf_9 : decode cX0_planOf 9 = .ok (.aload_n 0, 1) := by decide +kernel
theorem dX0_planOf_10 : decode cX0_planOf 10 = .ok (.getfield 77, 3) := by decide +kernel
theorem dX0_planOf_13 : decode cX0_planOf 13 = .ok (.iload_n 1, 1) := by decide +kernel
theorem dX0_planOf_14 : decode cX0_planOf 14 = .ok (.new 75, 3) := by decide +kernel
theorem dX0_planOf_17 : decode cX0_planOf 17 = .ok (.dup, 1) := by decide +kernel
theorem dX0_planOf_18 : decode cX0_planOf 18 = .ok (.aload_n 0, 1) := by decide +kernel
theorem dX0_planOf_19 : decode cX0_planOf 19 = .ok (.iload_n 1, 1) := by decide +kernel
theorem dX0_planOf_20 : decode cX0_planOf 20 = .ok (.invokespecial 110, 3) := by decide +kernel
theorem dX0_planOf_23 : decode cX0_planOf 23 = .ok (.aastore, 1) := by decide +kernel
theorem dX0_planOf_24 : decode cX0_planOf 24 = .ok (.aload_n 0, 1) := by decide +kernel
theorem dX0_planOf_25 : decode cX0_planOf 25 = .ok (.getfield 77, 3) := by decide +kernel
theorem dX0_planOf_28 : decode cX0_planOf 28 = .ok (.iload_n 1, 1) := by decide +kernel
theorem dX0_planOf_29 : decode cX0_planOf 29 = .ok (.aaload, 1) := by decide +kernel
theorem dX0_planOf_30 : decode cX0_planOf 30 = .ok (.areturn, 1) := by decide +kernel
theorem dX0_probePlan_0 : decode cX0_probePlan 0 = .ok (.aload_n 0, 1) := by decide +kernel
theorem dX0_probePlan_1 : decode cX0_probePlan 1 = .ok (.getfield 77, 3) := by decide +kernel
theorem dX0_probePlan_4 : decode cX0_probePlan 4 = .ok (.iconst 5, 1) := by decide +kernel
theorem dX0_probePlan_5 : decode cX0_probePlan 5 = .ok (.aaload, 1) := by decide +kernel
theorem dX0_probePlan_6 : decode cX0_probePlan 6 = .ok (.ifnonnull 18, 3) := by decide +kernel
theorem dX0_probePlan_9 : decode cX0_probePlan 9 = .ok (.aload_n 0, 1) := by decide +kernel
theorem dX0_probePlan_10 : decode cX0_probePlan 10 = .ok (.getfield 77, 3) := by decide +kernel
theorem dX0_probePlan_13 : decode cX0_probePlan 13 = .ok (.iconst 5, 1) := by decide +kernel
theorem dX0_probePlan_14 : decode cX0_probePlan 14 = .ok (.new 75, 3) := by decide +kernel
theorem dX0_probePlan_17 : decode cX0_probePlan 17 = .ok (.dup, 1) := by decide +kernel
theorem dX0_probePlan_18 : decode cX0_probePlan 18 = .ok (.aload_n 0, 1) := by decide +kernel
theorem dX0_probePlan_19 : decode cX0_probePlan 19 = .ok (.iconst 1, 1) := by decide +kernel
theorem dX0_probePlan_20 : decode cX0_probePlan 20 = .ok (.invokespecial 110, 3) := by decide +kernel
theorem dX0_probePlan_23 : decode cX0_probePlan 23 = .ok (.aastore, 1) := by decide +kernel
theorem dX0_probePlan_24 : decode cX0_probePlan 24 = .ok (.aload_n 0, 1) := by decide +kernel
theorem dX0_probePlan_25 : decode cX0_probePlan 25 = .ok (.getfield 77, 3) := by decide +kernel
theorem dX0_probePlan_28 : decode cX0_probePlan 28 = .ok (.iconst 5, 1) := by decide +kernel
theorem dX0_probePlan_29 : decode cX0_probePlan 29 = .ok (.aaload, 1) := by decide +kernel
theorem dX0_probePlan_30 : decode cX0_probePlan 30 = .ok (.areturn, 1) := by decide +kernel
theorem dX0_forgetPlans_0 : decode cX0_forgetPlans 0 = .ok (.iconst 0, 1) := by decide +kernel
theorem dX0_forgetPlans_1 : decode cX0_forgetPlans 1 = .ok (.istore_n 1, 1) := by decide +kernel
theorem dX0_forgetPlans_2 : decode cX0_forgetPlans 2 = .ok (.iload_n 1, 1) := by decide +kernel
theorem dX0_forgetPlans_3 : decode cX0_forgetPlans 3 = .ok (.aload_n 0, 1) := by decide +kernel
theorem dX0_forgetPlans_4 : decode cX0_forgetPlans 4 = .ok (.getfield 77, 3) := by decide +kernel
theorem dX0_forgetPlans_7 : decode cX0_forgetPlans 7 = .ok (.arraylength, 1) := by decide +kernel
theorem dX0_forgetPlans_8 : decode cX0_forgetPlans 8 = .ok (.if_icmp .ge 27, 3) := by decide +kernel
theorem dX0_forgetPlans_11 : decode cX0_forgetPlans 11 = .ok (.aload_n 0, 1) := by decide +kernel
theorem dX0_forgetPlans_12 : decode cX0_forgetPlans 12 = .ok (.getfield 77, 3) := by decide +kernel
theorem dX0_forgetPlans_15 : decode cX0_forgetPlans 15 = .ok (.iload_n 1, 1) := by decide +kernel
theorem dX0_forgetPlans_16 : decode cX0_forgetPlans 16 = .ok (.aaload, 1) := by decide +kernel
theorem dX0_forgetPlans_17 : decode cX0_forgetPlans 17 = .ok (.ifnull 12, 3) := by decide +kernel
theorem dX0_forgetPlans_20 : decode cX0_forgetPlans 20 = .ok (.aload_n 0, 1) := by decide +kernel
theorem dX0_forgetPlans_21 : decode cX0_forgetPlans 21 = .ok (.getfield 77, 3) := by decide +kernel
theorem dX0_forgetPlans_24 : decode cX0_forgetPlans 24 = .ok (.iload_n 1, 1) := by decide +kernel
theorem dX0_forgetPlans_25 : decode cX0_forgetPlans 25 = .ok (.aaload, 1) := by decide +kernel
theorem dX0_forgetPlans_26 : decode cX0_forgetPlans 26 = .ok (.invokevirtual 113, 3) := by decide +kernel
theorem dX0_forgetPlans_29 : decode cX0_forgetPlans 29 = .ok (.iinc 1 1, 3) := by decide +kernel
theorem dX0_forgetPlans_32 : decode cX0_forgetPlans 32 = .ok (.goto (-30), 3) := by decide +kernel
theorem dX0_forgetPlans_35 : decode cX0_forgetPlans 35 = .ok (.return_, 1) := by decide +kernel
theorem dX2_init_0 : decode cX2_init 0 = .ok (.aload_n 0, 1) := by decide +kernel
theorem dX2_init_1 : decode cX2_init 1 = .ok (.invokespecial 3, 3) := by decide +kernel
theorem dX2_init_4 : decode cX2_init 4 = .ok (.aload_n 0, 1) := by decide +kernel
theorem dX2_init_5 : decode cX2_init 5 = .ok (.aload_n 1, 1) := by decide +kernel
theorem dX2_init_6 : decode cX2_init 6 = .ok (.putfield 9, 3) := by decide +kernel
theorem dX2_init_9 : decode cX2_init 9 = .ok (.aload_n 0, 1) := by decide +kernel
theorem dX2_init_10 : decode cX2_init 10 = .ok (.iload_n 2, 1) := by decide +kernel
theorem dX2_init_11 : decode cX2_init 11 = .ok (.putfield 15, 3) := by decide +kernel
theorem dX2_init_14 : decode cX2_init 14 = .ok (.aload_n 0, 1) := by decide +kernel
theorem dX2_init_15 : decode cX2_init 15 = .ok (.aload_n 1, 1) := by decide +kernel
theorem dX2_init_16 : decode cX2_init 16 = .ok (.getfield 19, 3) := by decide +kernel
theorem dX2_init_19 : decode cX2_init 19 = .ok (.putfield 24, 3) := by decide +kernel
theorem dX2_init_22 : decode cX2_init 22 = .ok (.aload_n 1, 1) := by decide +kernel
theorem dX2_init_23 : decode cX2_init 23 = .ok (.getfield 25, 3) := by decide +kernel
theorem dX2_init_26 : decode cX2_init 26 = .ok (.bipush 12, 2) := by decide +kernel
theorem dX2_init_28 : decode cX2_init 28 = .ok (.imul, 1) := by decide +kernel
theorem dX2_init_29 : decode cX2_init 29 = .ok (.bipush 41, 2) := by decide +kernel
theorem dX2_init_31 : decode cX2_init 31 = .ok (.imul, 1) := by decide +kernel
theorem dX2_init_32 : decode cX2_init 32 = .ok (.istore_n 3, 1) := by decide +kernel
theorem dX2_init_33 : decode cX2_init 33 = .ok (.aload_n 0, 1) := by decide +kernel
theorem dX2_init_34 : decode cX2_init 34 = .ok (.iload_n 3, 1) := by decide +kernel
theorem dX2_init_35 : decode cX2_init 35 = .ok (.newarray .int, 2) := by decide +kernel
theorem dX2_init_37 : decode cX2_init 37 = .ok (.putfield 28, 3) := by decide +kernel
theorem dX2_init_40 : decode cX2_init 40 = .ok (.aload_n 0, 1) := by decide +kernel
theorem dX2_init_41 : decode cX2_init 41 = .ok (.iload_n 2, 1) := by decide +kernel
theorem dX2_init_42 : decode cX2_init 42 = .ok (.iconst 2, 1) := by decide +kernel
theorem dX2_init_43 : decode cX2_init 43 = .ok (.if_icmp .eq 8, 3) := by decide +kernel
theorem dX2_init_46 : decode cX2_init 46 = .ok (.iload_n 2, 1) := by decide +kernel
theorem dX2_init_47 : decode cX2_init 47 = .ok (.iconst 3, 1) := by decide +kernel
theorem dX2_init_48 : decode cX2_init 48 = .ok (.if_icmp .ne 7, 3) := by decide +kernel
theorem dX2_init_51 : decode cX2_init 51 = .ok (.iload_n 3, 1) := by decide +kernel
theorem dX2_init_52 : decode cX2_init 52 = .ok (.goto 4, 3) := by decide +kernel
theorem dX2_init_55 : decode cX2_init 55 = .ok (.iconst 0, 1) := by decide +kernel
theorem dX2_init_56 : decode cX2_init 56 = .ok (.newarray .long, 2) := by decide +kernel
theorem dX2_init_58 : decode cX2_init 58 = .ok (.putfield 32, 3) := by decide +kernel
theorem dX2_init_61 : decode cX2_init 61 = .ok (.aload_n 0, 1) := by decide +kernel
theorem dX2_init_62 : decode cX2_init 62 = .ok (.iload_n 2, 1) := by decide +kernel
theorem dX2_init_63 : decode cX2_init 63 = .ok (.iconst 3, 1) := by decide +kernel
theorem dX2_init_64 : decode cX2_init 64 = .ok (.if_icmp .ne 10, 3) := by decide +kernel
theorem dX2_init_67 : decode cX2_init 67 = .ok (.aload_n 1, 1) := by decide +kernel
theorem dX2_init_68 : decode cX2_init 68 = .ok (.getfield 36, 3) := by decide +kernel
theorem dX2_init_71 : decode cX2_init 71 = .ok (.goto 7, 3) := by decide +kernel
theorem dX2_init_74 : decode cX2_init 74 = .ok (.aload_n 1, 1) := by decide +kernel
theorem dX2_init_75 : decode cX2_init 75 = .ok (.getfield 39, 3) := by decide +kernel
theorem dX2_init_78 : decode cX2_init 78 = .ok (.putfield 42, 3) := by decide +kernel
theorem dX2_init_81 : decode cX2_init 81 = .ok (.aload_n 0, 1) := by decide +kernel
theorem dX2_init_82 : decode cX2_init 82 = .ok (.iconst 4, 1) := by decide +kernel
theorem dX2_init_83 : decode cX2_init 83 = .ok (.newarray .int, 2) := by decide +kernel
theorem dX2_init_85 : decode cX2_init 85 = .ok (.putfield 45, 3) := by decide +kernel
theorem dX2_init_88 : decode cX2_init 88 = .ok (.aload_n 0, 1) := by decide +kernel
theorem dX2_init_89 : decode cX2_init 89 = .ok (.iconst 4, 1) := by decide +kernel
theorem dX2_init_90 : decode cX2_init 90 = .ok (.newarray .int, 2) := by decide +kernel
theorem dX2_init_92 : decode cX2_init 92 = .ok (.putfield 48, 3) := by decide +kernel
theorem dX2_init_95 : decode cX2_init 95 = .ok (.aload_n 0, 1) := by decide +kernel
theorem dX2_init_96 : decode cX2_init 96 = .ok (.bipush 21, 2) := by decide +kernel
theorem dX2_init_98 : decode cX2_init 98 = .ok (.newarray .long, 2) := by decide +kernel
theorem dX2_init_100 : decode cX2_init 100 = .ok (.putfield 51, 3) := by decide +kernel
theorem dX2_init_103 : decode cX2_init 103 = .ok (.return_, 1) := by decide +kernel
theorem dX2_forget_0 : decode cX2_forget 0 = .ok (.aload_n 0, 1) := by decide +kernel
theorem dX2_forget_1 : decode cX2_forget 1 = .ok (.getfield 45, 3) := by decide +kernel
theorem dX2_forget_4 : decode cX2_forget 4 = .ok (.iconst 0, 1) := by decide +kernel
theorem dX2_forget_5 : decode cX2_forget 5 = .ok (.invokestatic 54, 3) := by decide +kernel
theorem dX2_forget_8 : decode cX2_forget 8 = .ok (.aload_n 0, 1) := by decide +kernel
theorem dX2_forget_9 : decode cX2_forget 9 = .ok (.getfield 48, 3) := by decide +kernel
theorem dX2_forget_12 : decode cX2_forget 12 = .ok (.iconst 0, 1) := by decide +kernel
theorem dX2_forget_13 : decode cX2_forget 13 = .ok (.invokestatic 54, 3) := by decide +kernel
theorem dX2_forget_16 : decode cX2_forget 16 = .ok (.return_, 1) := by decide +kernel
theorem dX2_changeCost_0 : decode cX2_changeCost 0 = .ok (.aload_n 0, 1) := by decide +kernel
theorem dX2_changeCost_1 : decode cX2_changeCost 1 = .ok (.iload_n 1, 1) := by decide +kernel
theorem dX2_changeCost_2 : decode cX2_changeCost 2 = .ok (.putfield 24, 3) := by decide +kernel
theorem dX2_changeCost_5 : decode cX2_changeCost 5 = .ok (.aload_n 0, 1) := by decide +kernel
theorem dX2_changeCost_6 : decode cX2_changeCost 6 = .ok (.invokevirtual 60, 3) := by decide +kernel
theorem dX2_changeCost_9 : decode cX2_changeCost 9 = .ok (.return_, 1) := by decide +kernel
theorem dX2_reckonTo_0 : decode cX2_reckonTo 0 = .ok (.aload_n 0, 1) := by decide +kernel
theorem dX2_reckonTo_1 : decode cX2_reckonTo 1 = .ok (.iload_n 1, 1) := by decide +kernel
theorem dX2_reckonTo_2 : decode cX2_reckonTo 2 = .ok (.iload_n 2, 1) := by decide +kernel
theorem dX2_reckonTo_3 : decode cX2_reckonTo 3 = .ok (.invokevirtual 63, 3) := by decide +kernel
theorem dX2_reckonTo_6 : decode cX2_reckonTo 6 = .ok (.istore_n 3, 1) := by decide +kernel
theorem dX2_reckonTo_7 : decode cX2_reckonTo 7 = .ok (.iload_n 3, 1) := by decide +kernel
theorem dX2_reckonTo_8 : decode cX2_reckonTo 8 = .ok (.istore 4, 2) := by decide +kernel
theorem dX2_reckonTo_10 : decode cX2_reckonTo 10 = .ok (.iconst 1, 1) := by decide +kernel
theorem dX2_reckonTo_11 : decode cX2_reckonTo 11 = .ok (.istore 5, 2) := by decide +kernel
theorem dX2_reckonTo_13 : decode cX2_reckonTo 13 = .ok (.iload 5, 2) := by decide +kernel
theorem dX2_reckonTo_15 : decode cX2_reckonTo 15 = .ok (.iload_n 1, 1) := by decide +kernel
theorem dX2_reckonTo_16 : decode cX2_reckonTo 16 = .ok (.if_icmp .gt 101, 3) := by decide +kernel
theorem dX2_reckonTo_19 : decode cX2_reckonTo 19 = .ok (.iload 5, 2) := by decide +kernel
theorem dX2_reckonTo_21 : decode cX2_reckonTo 21 = .ok (.aload_n 0, 1) := by decide +kernel
theorem dX2_reckonTo_22 : decode cX2_reckonTo 22 = .ok (.getfield 45, 3) := by decide +kernel
theorem dX2_reckonTo_25 : decode cX2_reckonTo 25 = .ok (.iload_n 3, 1) := by decide +kernel
theorem dX2_reckonTo_26 : decode cX2_reckonTo 26 = .ok (.iaload, 1) := by decide +kernel
theorem dX2_reckonTo_27 : decode cX2_reckonTo 27 = .ok (.if_icmp .le 73, 3) := by decide +kernel
theorem dX2_reckonTo_30 : decode cX2_reckonTo 30 = .ok (.aload_n 0, 1) := by decide +kernel
theorem dX2_reckonTo_31 : decode cX2_reckonTo 31 = .ok (.getfield 15, 3) := by decide +kernel
theorem dX2_reckonTo_34 : decode cX2_reckonTo 34 = .ok (.iconst 1, 1) := by decide +kernel
theorem dX2_reckonTo_35 : decode cX2_reckonTo 35 = .ok (.if_icmp .ne 14, 3) := by decide +kernel
theorem dX2_reckonTo_38 : decode cX2_reckonTo 38 = .ok (.aload_n 0, 1) := by decide +kernel
theorem dX2_reckonTo_39 : decode cX2_reckonTo 39 = .ok (.iload 5, 2) := by decide +kernel
theorem dX2_reckonTo_41 : decode cX2_reckonTo 41 = .ok (.iload 4, 2) := by decide +kernel
theorem dX2_reckonTo_43 : decode cX2_reckonTo 43 = .ok (.invokevirtual 67, 3) := by decide +kernel
theorem dX2_reckonTo_46 : decode cX2_reckonTo 46 = .ok (.goto 46, 3) := by decide +kernel
theorem dX2_reckonTo_49 : decode cX2_reckonTo 49 = .ok (.aload_n 0, 1) := by decide +kernel
theorem dX2_reckonTo_50 : decode cX2_reckonTo 50 = .ok (.getfield 15, 3) := by decide +kernel
theorem dX2_reckonTo_53 : decode cX2_reckonTo 53 = .ok (.iconst 2, 1) := by decide +kernel
theorem dX2_reckonTo_54 : decode cX2_reckonTo 54 = .ok (.if_icmp .eq 11, 3) := by decide +kernel
theorem dX2_reckonTo_57 : decode cX2_reckonTo 57 = .ok (.aload_n 0, 1) := by decide +kernel
theorem dX2_reckonTo_58 : decode cX2_reckonTo 58 = .ok (.getfield 15, 3) := by decide +kernel
theorem dX2_reckonTo_61 : decode cX2_reckonTo 61 = .ok (.iconst 3, 1) := by decide +kernel
theorem dX2_reckonTo_62 : decode cX2_reckonTo 62 = .ok (.if_icmp .ne 14, 3) := by decide +kernel
theorem dX2_reckonTo_65 : decode cX2_reckonTo 65 = .ok (.aload_n 0, 1) := by decide +kernel
theorem dX2_reckonTo_66 : decode cX2_reckonTo 66 = .ok (.iload 5, 2) := by decide +kernel
theorem dX2_reckonTo_68 : decode cX2_reckonTo 68 = .ok (.iload 4, 2) := by decide +kernel
theorem dX2_reckonTo_70 : decode cX2_reckonTo 70 = .ok (.invokevirtual 71, 3) := by decide +kernel
theorem dX2_reckonTo_73 : decode cX2_reckonTo 73 = .ok (.goto 19, 3) := by decide +kernel
theorem dX2_reckonTo_76 : decode cX2_reckonTo 76 = .ok (.aload_n 0, 1) := by decide +kernel
theorem dX2_reckonTo_77 : decode cX2_reckonTo 77 = .ok (.getfield 15, 3) := by decide +kernel
theorem dX2_reckonTo_80 : decode cX2_reckonTo 80 = .ok (.iconst 4, 1) := by decide +kernel
theorem dX2_reckonTo_81 : decode cX2_reckonTo 81 = .ok (.if_icmp .ne 11, 3) := by decide +kernel
theorem dX2_reckonTo_84 : decode cX2_reckonTo 84 = .ok (.aload_n 0, 1) := by decide +kernel
theorem dX2_reckonTo_85 : decode cX2_reckonTo 85 = .ok (.iload 5, 2) := by decide +kernel
theorem dX2_reckonTo_87 : decode cX2_reckonTo 87 = .ok (.iload 4, 2) := by decide +kernel
theorem dX2_reckonTo_89 : decode cX2_reckonTo 89 = .ok (.invokevirtual 74, 3) := by decide +kernel
theorem dX2_reckonTo_92 : decode cX2_reckonTo 92 = .ok (.aload_n 0, 1) := by decide +kernel
theorem dX2_reckonTo_93 : decode cX2_reckonTo 93 = .ok (.getfield 45, 3) := by decide +kernel
theorem dX2_reckonTo_96 : decode cX2_reckonTo 96 = .ok (.iload_n 3, 1) := by decide +kernel
theorem dX2_reckonTo_97 : decode cX2_reckonTo 97 = .ok (.iload 5, 2) := by decide +kernel
theorem dX2_reckonTo_99 : decode cX2_reckonTo 99 = .ok (.iastore, 1) := by decide +kernel
theorem dX2_reckonTo_100 : decode cX2_reckonTo 100 = .ok (.aload_n 0, 1) := by decide +kernel
theorem dX2_reckonTo_101 : decode cX2_reckonTo 101 = .ok (.getfield 9, 3) := by decide +kernel
theorem dX2_reckonTo_104 : decode cX2_reckonTo 104 = .ok (.iload 4, 2) := by decide +kernel
theorem dX2_reckonTo_106 : decode cX2_reckonTo 106 = .ok (.invokevirtual 77, 3) := by decide +kernel
theorem dX2_reckonTo_109 : decode cX2_reckonTo 109 = .ok (.istore 4, 2) := by decide +kernel
theorem dX2_reckonTo_111 : decode cX2_reckonTo 111 = .ok (.iinc 5 1, 3) := by decide +kernel
theorem dX2_reckonTo_114 : decode cX2_reckonTo 114 = .ok (.goto (-101), 3) := by decide +kernel
theorem dX2_reckonTo_117 : decode cX2_reckonTo 117 = .ok (.return_, 1) := by decide +kernel
theorem dX2_keptAt_0 : decode cX2_keptAt 0 = .ok (.aload_n 0, 1) := by decide +kernel
theorem dX2_keptAt_1 : decode cX2_keptAt 1 = .ok (.getfield 28, 3) := by decide +kernel
theorem dX2_keptAt_4 : decode cX2_keptAt 4 = .ok (.iload_n 1, 1) := by decide +kernel
theorem dX2_keptAt_5 : decode cX2_keptAt 5 = .ok (.iload_n 2, 1) := by decide +kernel
theorem dX2_keptAt_6 : decode cX2_keptAt 6 = .ok (.invokestatic 81, 3) := by decide +kernel
theorem dX2_keptAt_9 : decode cX2_keptAt 9 = .ok (.iload_n 3, 1) := by decide +kernel
theorem dX2_keptAt_10 : decode cX2_keptAt 10 = .ok (.iadd, 1) := by decide +kernel
theorem dX2_keptAt_11 : decode cX2_keptAt 11 = .ok (.iaload, 1) := by decide +kernel
theorem dX2_keptAt_12 : decode cX2_keptAt 12 = .ok (.ireturn, 1) := by decide +kernel
theorem dX2_bestAt_0 : decode cX2_bestAt 0 = .ok (.iload_n 1, 1) := by decide +kernel
theorem dX2_bestAt_1 : decode cX2_bestAt 1 = .ok (.iload_n 2, 1) := by decide +kernel
theorem dX2_bestAt_2 : decode cX2_bestAt 2 = .ok (.invokestatic 81, 3) := by decide +kernel
theorem dX2_bestAt_5 : decode cX2_bestAt 5 = .ok (.iload_n 3, 1) := by decide +kernel
theorem dX2_bestAt_6 : decode cX2_bestAt 6 = .ok (.iadd, 1) := by decide +kernel
theorem dX2_bestAt_7 : decode cX2_bestAt 7 = .ok (.istore 4, 2) := by decide +kernel
theorem dX2_bestAt_9 : decode cX2_bestAt 9 = .ok (.iload 4, 2) := by decide +kernel
theorem dX2_bestAt_11 : decode cX2_bestAt 11 = .ok (.aload_n 0, 1) := by decide +kernel
theorem dX2_bestAt_12 : decode cX2_bestAt 12 = .ok (.getfield 32, 3) := by decide +kernel
theorem dX2_bestAt_15 : decode cX2_bestAt 15 = .ok (.arraylength, 1) := by decide +kernel
theorem dX2_bestAt_16 : decode cX2_bestAt 16 = .ok (.if_icmp .ge 13, 3) := by decide +kernel
theorem dX2_bestAt_19 : decode cX2_bestAt 19 = .ok (.aload_n 0, 1) := by decide +kernel
theorem dX2_bestAt_20 : decode cX2_bestAt 20 = .ok (.getfield 32, 3) := by decide +kernel
theorem dX2_bestAt_23 : decode cX2_bestAt 23 = .ok (.iload 4, 2) := by decide +kernel
theorem dX2_bestAt_25 : decode cX2_bestAt 25 = .ok (.laload, 1) := by decide +kernel
theorem dX2_bestAt_26 : decode cX2_bestAt 26 = .ok (.goto 4, 3) := by decide +kernel
theorem dX2_bestAt_29 : decode cX2_bestAt 29 = .ok (.lconst 0, 1) := by decide +kernel
theorem dX2_bestAt_30 : decode cX2_bestAt 30 = .ok (.lreturn, 1) := by decide +kernel
theorem dX2_eatenOf_0 : decode cX2_eatenOf 0 = .ok (.aload_n 0, 1) := by decide +kernel
theorem dX2_eatenOf_1 : decode cX2_eatenOf 1 = .ok (.getfield 15, 3) := by decide +kernel
theorem dX2_eatenOf_4 : decode cX2_eatenOf 4 = .ok (.iconst 3, 1) := by decide +kernel
theorem dX2_eatenOf_5 : decode cX2_eatenOf 5 = .ok (.if_icmp .ne 14, 3) := by decide +kernel
theorem dX2_eatenOf_8 : decode cX2_eatenOf 8 = .ok (.aload_n 0, 1) := by decide +kernel
theorem dX2_eatenOf_9 : decode cX2_eatenOf 9 = .ok (.getfield 9, 3) := by decide +kernel
theorem dX2_eatenOf_12 : decode cX2_eatenOf 12 = .ok (.iload_n 1, 1) := by decide +kernel
theorem dX2_eatenOf_13 : decode cX2_eatenOf 13 = .ok (.invokevirtual 84, 3) := by decide +kernel
theorem dX2_eatenOf_16 : decode cX2_eatenOf 16 = .ok (.goto 11, 3) := by decide +kernel
theorem dX2_eatenOf_19 : decode cX2_eatenOf 19 = .ok (.aload_n 0, 1) := by decide +kernel
theorem dX2_eatenOf_20 : decode cX2_eatenOf 20 = .ok (.getfield 9, 3) := by decide +kernel
theorem dX2_eatenOf_23 : decode cX2_eatenOf 23 = .ok (.iload_n 1, 1) := by decide +kernel
theorem dX2_eatenOf_24 : decode cX2_eatenOf 24 = .ok (.invokevirtual 87, 3) := by decide +kernel
theorem dX2_eatenOf_27 : decode cX2_eatenOf 27 = .ok (.ireturn, 1) := by decide +kernel
theorem dX2_priceOf_0 : decode cX2_priceOf 0 = .ok (.aload_n 0, 1) := by decide +kernel
theorem dX2_priceOf_1 : decode cX2_priceOf 1 = .ok (.getfield 15, 3) := by decide +kernel
theorem dX2_priceOf_4 : decode cX2_priceOf 4 = .ok (.iconst 3, 1) := by decide +kernel
theorem dX2_priceOf_5 : decode cX2_priceOf 5 = .ok (.if_icmp .ne 21, 3) := by decide +kernel
theorem dX2_priceOf_8 : decode cX2_priceOf 8 = .ok (.aload_n 0, 1) := by decide +kernel
theorem dX2_priceOf_9 : decode cX2_priceOf 9 = .ok (.getfield 9, 3) := by decide +kernel
theorem dX2_priceOf_12 : decode cX2_priceOf 12 = .ok (.aload_n 0, 1) := by decide +kernel
theorem dX2_priceOf_13 : decode cX2_priceOf 13 = .ok (.getfield 9, 3) := by decide +kernel
theorem dX2_priceOf_16 : decode cX2_priceOf 16 = .ok (.iload_n 1, 1) := by decide +kernel
theorem dX2_priceOf_17 : decode cX2_priceOf 17 = .ok (.invokevirtual 84, 3) := by decide +kernel
theorem dX2_priceOf_20 : decode cX2_priceOf 20 = .ok (.invokevirtual 90, 3) := by decide +kernel
theorem dX2_priceOf_23 : decode cX2_priceOf 23 = .ok (.goto 11, 3) := by decide +kernel
theorem dX2_priceOf_26 : decode cX2_priceOf 26 = .ok (.aload_n 0, 1) := by decide +kernel
theorem dX2_priceOf_27 : decode cX2_priceOf 27 = .ok (.getfield 9, 3) := by decide +kernel
theorem dX2_priceOf_30 : decode cX2_priceOf 30 = .ok (.iload_n 1, 1) := by decide +kernel
theorem dX2_priceOf_31 : decode cX2_priceOf 31 = .ok (.invokevirtual 93, 3) := by decide +kernel
theorem dX2_priceOf_34 : decode cX2_priceOf 34 = .ok (.ireturn, 1) := by decide +kernel
theorem dX2_welfareAt_0 : decode cX2_welfareAt 0 = .ok (.aload_n 0, 1) := by decide +kernel
theorem dX2_welfareAt_1 : decode cX2_welfareAt 1 = .ok (.iload_n 1, 1) := by decide +kernel
theorem dX2_welfareAt_2 : decode cX2_welfareAt 2 = .ok (.iload_n 2, 1) := by decide +kernel
theorem dX2_welfareAt_3 : decode cX2_welfareAt 3 = .ok (.invokevirtual 96, 3) := by decide +kernel
theorem dX2_welfareAt_6 : decode cX2_welfareAt 6 = .ok (.aload_n 0, 1) := by decide +kernel
theorem dX2_welfareAt_7 : decode cX2_welfareAt 7 = .ok (.getfield 99, 3) := by decide +kernel
theorem dX2_welfareAt_10 : decode cX2_welfareAt 10 = .ok (.iload_n 1, 1) := by decide +kernel
theorem dX2_welfareAt_11 : decode cX2_welfareAt 11 = .ok (.iload_n 2, 1) := by decide +kernel
theorem dX2_welfareAt_12 : decode cX2_welfareAt 12 = .ok (.invokestatic 81, 3) := by decide +kernel
theorem dX2_welfareAt_15 : decode cX2_welfareAt 15 = .ok (.iload_n 3, 1) := by decide +kernel
theorem dX2_welfareAt_16 : decode cX2_welfareAt 16 = .ok (.iadd, 1) := by decide +kernel
theorem dX2_welfareAt_17 : decode cX2_welfareAt 17 = .ok (.laload, 1) := by decide +kernel
theorem dX2_welfareAt_18 : decode cX2_welfareAt 18 = .ok (.lreturn, 1) := by decide +kernel
theorem dX2_keepsAlikeWithOneMore_0 : decode cX2_keepsAlikeWithOneMore 0 = .ok (.iconst 0, 1) := by decide +kernel
theorem dX2_keepsAlikeWithOneMore_1 : decode cX2_keepsAlikeWithOneMore 1 = .ok (.istore_n 2, 1) := by decide +kernel
theorem dX2_keepsAlikeWithOneMore_2 : decode cX2_keepsAlikeWithOneMore 2 = .ok (.iload_n 2, 1) := by decide +kernel
theorem dX2_keepsAlikeWithOneMore_3 : decode cX2_keepsAlikeWithOneMore 3 = .ok (.aload_n 0, 1) := by decide +kernel
theorem dX2_keepsAlikeWithOneMore_4 : decode cX2_keepsAlikeWithOneMore 4 = .ok (.getfield 9, 3) := by decide +kernel
theorem dX2_keepsAlikeWithOneMore_7 : decode cX2_keepsAlikeWithOneMore 7 = .ok (.getfield 25, 3) := by decide +kernel
theorem dX2_keepsAlikeWithOneMore_10 : decode cX2_keepsAlikeWithOneMore 10 = .ok (.if_icmp .ge 78, 3) := by decide +kernel
theorem dX2_keepsAlikeWithOneMore_13 : decode cX2_keepsAlikeWithOneMore 13 = .ok (.aload_n 0, 1) := by decide +kernel
theorem dX2_keepsAlikeWithOneMore_14 : decode cX2_keepsAlikeWithOneMore 14 = .ok (.iload_n 1, 1) := by decide +kernel
theorem dX2_keepsAlikeWithOneMore_15 : decode cX2_keepsAlikeWithOneMore 15 = .ok (.iload_n 2, 1) := by decide +kernel
theorem dX2_keepsAlikeWithOneMore_16 : decode cX2_keepsAlikeWithOneMore 16 = .ok (.invokevirtual 102, 3) := by decide +kernel
theorem dX2_keepsAlikeWithOneMore_19 : decode cX2_keepsAlikeWithOneMore 19 = .ok (.aload_n 0, 1) := by decide +kernel
theorem dX2_keepsAlikeWithOneMore_20 : decode cX2_keepsAlikeWithOneMore 20 = .ok (.iload_n 1, 1) := by decide +kernel
theorem dX2_keepsAlikeWithOneMore_21 : decode cX2_keepsAlikeWithOneMore 21 = .ok (.iconst 1, 1) := by decide +kernel
theorem dX2_keepsAlikeWithOneMore_22 : decode cX2_keepsAlikeWithOneMore 22 = .ok (.iadd, 1) := by decide +kernel
theorem dX2_keepsAlikeWithOneMore_23 : decode cX2_keepsAlikeWithOneMore 23 = .ok (.iload_n 2, 1) := by decide +kernel
theorem dX2_keepsAlikeWithOneMore_24 : decode cX2_keepsAlikeWithOneMore 24 = .ok (.invokevirtual 102, 3) := by decide +kernel
theorem dX2_keepsAlikeWithOneMore_27 : decode cX2_keepsAlikeWithOneMore 27 = .ok (.iload_n 1, 1) := by decide +kernel
theorem dX2_keepsAlikeWithOneMore_28 : decode cX2_keepsAlikeWithOneMore 28 = .ok (.iload_n 2, 1) := by decide +kernel
theorem dX2_keepsAlikeWithOneMore_29 : decode cX2_keepsAlikeWithOneMore 29 = .ok (.invokestatic 81, 3) := by decide +kernel
theorem dX2_keepsAlikeWithOneMore_32 : decode cX2_keepsAlikeWithOneMore 32 = .ok (.istore_n 3, 1) := by decide +kernel
theorem dX2_keepsAlikeWithOneMore_33 : decode cX2_keepsAlikeWithOneMore 33 = .ok (.iload_n 1, 1) := by decide +kernel
theorem dX2_keepsAlikeWithOneMore_34 : decode cX2_keepsAlikeWithOneMore 34 = .ok (.iconst 1, 1) := by decide +kernel
theorem dX2_keepsAlikeWithOneMore_35 : decode cX2_keepsAlikeWithOneMore 35 = .ok (.iadd, 1) := by decide +kernel
theorem dX2_keepsAlikeWithOneMore_36 : decode cX2_keepsAlikeWithOneMore 36 = .ok (.iload_n 2, 1) := by decide +kernel
theorem dX2_keepsAlikeWithOneMore_37 : decode cX2_keepsAlikeWithOneMore 37 = .ok (.invokestatic 81, 3) := by decide +kernel
theorem dX2_keepsAlikeWithOneMore_40 : decode cX2_keepsAlikeWithOneMore 40 = .ok (.istore 4, 2) := by decide +kernel
theorem dX2_keepsAlikeWithOneMore_42 : decode cX2_keepsAlikeWithOneMore 42 = .ok (.iconst 0, 1) := by decide +kernel
theorem dX2_keepsAlikeWithOneMore_43 : decode cX2_keepsAlikeWithOneMore 43 = .ok (.istore 5, 2) := by decide +kernel
theorem dX2_keepsAlikeWithOneMore_45 : decode cX2_keepsAlikeWithOneMore 45 = .ok (.iload 5, 2) := by decide +kernel
theorem dX2_keepsAlikeWithOneMore_47 : decode cX2_keepsAlikeWithOneMore 47 = .ok (.bipush 40, 2) := by decide +kernel
theorem dX2_keepsAlikeWithOneMore_49 : decode cX2_keepsAlikeWithOneMore 49 = .ok (.if_icmp .gt 33, 3) := by decide +kernel
theorem dX2_keepsAlikeWithOneMore_52 : decode cX2_keepsAlikeWithOneMore 52 = .ok (.aload_n 0, 1) := by decide +kernel
theorem dX2_keepsAlikeWithOneMore_53 : decode cX2_keepsAlikeWithOneMore 53 = .ok (.getfield 28, 3) := by decide +kernel
theorem dX2_keepsAlikeWithOneMore_56 : decode cX2_keepsAlikeWithOneMore 56 = .ok (.iload_n 3, 1) := by decide +kernel
theorem dX2_keepsAlikeWithOneMore_57 : decode cX2_keepsAlikeWithOneMore 57 = .ok (.iload 5, 2) := by decide +kernel
theorem dX2_keepsAlikeWithOneMore_59 : decode cX2_keepsAlikeWithOneMore 59 = .ok (.iadd, 1) := by decide +kernel
theorem dX2_keepsAlikeWithOneMore_60 : decode cX2_keepsAlikeWithOneMore 60 = .ok (.iaload, 1) := by decide +kernel
theorem dX2_keepsAlikeWithOneMore_61 : decode cX2_keepsAlikeWithOneMore 61 = .ok (.aload_n 0, 1) := by decide +kernel
theorem dX2_keepsAlikeWithOneMore_62 : decode cX2_keepsAlikeWithOneMore 62 = .ok (.getfield 28, 3) := by decide +kernel
theorem dX2_keepsAlikeWithOneMore_65 : decode cX2_keepsAlikeWithOneMore 65 = .ok (.iload 4, 2) := by decide +kernel
theorem dX2_keepsAlikeWithOneMore_67 : decode cX2_keepsAlikeWithOneMore 67 = .ok (.iload 5, 2) := by decide +kernel
theorem dX2_keepsAlikeWithOneMore_69 : decode cX2_keepsAlikeWithOneMore 69 = .ok (.iadd, 1) := by decide +kernel
theorem dX2_keepsAlikeWithOneMore_70 : decode cX2_keepsAlikeWithOneMore 70 = .ok (.iaload, 1) := by decide +kernel
theorem dX2_keepsAlikeWithOneMore_71 : decode cX2_keepsAlikeWithOneMore 71 = .ok (.if_icmp .eq 5, 3) := by decide +kernel
theorem dX2_keepsAlikeWithOneMore_74 : decode cX2_keepsAlikeWithOneMore 74 = .ok (.iconst 0, 1) := by decide +kernel
theorem dX2_keepsAlikeWithOneMore_75 : decode cX2_keepsAlikeWithOneMore 75 = .ok (.ireturn, 1) := by decide +kernel
theorem dX2_keepsAlikeWithOneMore_76 : decode cX2_keepsAlikeWithOneMore 76 = .ok (.iinc 5 1, 3) := by decide +kernel
theorem dX2_keepsAlikeWithOneMore_79 : decode cX2_keepsAlikeWithOneMore 79 = .ok (.goto (-34), 3) := by decide +kernel
theorem dX2_keepsAlikeWithOneMore_82 : decode cX2_keepsAlikeWithOneMore 82 = .ok (.iinc 2 1, 3) := by decide +kernel
theorem dX2_keepsAlikeWithOneMore_85 : decode cX2_keepsAlikeWithOneMore 85 = .ok (.goto (-83), 3) := by decide +kernel
theorem dX2_keepsAlikeWithOneMore_88 : decode cX2_keepsAlikeWithOneMore 88 = .ok (.iconst 1, 1) := by decide +kernel
theorem dX2_keepsAlikeWithOneMore_89 : decode cX2_keepsAlikeWithOneMore 89 = .ok (.ireturn, 1) := by decide +kernel
theorem dX2_bestIfTold_0 : decode cX2_bestIfTold 0 = .ok (.aload_n 0, 1) := by decide +kernel
theorem dX2_bestIfTold_1 : decode cX2_bestIfTold 1 = .ok (.getfield 9, 3) := by decide +kernel
theorem dX2_bestIfTold_4 : decode cX2_bestIfTold 4 = .ok (.iload_n 2, 1) := by decide +kernel
theorem dX2_bestIfTold_5 : decode cX2_bestIfTold 5 = .ok (.invokevirtual 105, 3) := by decide +kernel
theorem dX2_bestIfTold_8 : decode cX2_bestIfTold 8 = .ok (.istore 4, 2) := by decide +kernel
theorem dX2_bestIfTold_10 : decode cX2_bestIfTold 10 = .ok (.iload_n 1, 1) := by decide +kernel
theorem dX2_bestIfTold_11 : decode cX2_bestIfTold 11 = .ok (.iconst 1, 1) := by decide +kernel
theorem dX2_bestIfTold_12 : decode cX2_bestIfTold 12 = .ok (.isub, 1) := by decide +kernel
theorem dX2_bestIfTold_13 : decode cX2_bestIfTold 13 = .ok (.iload 4, 2) := by decide +kernel
theorem dX2_bestIfTold_15 : decode cX2_bestIfTold 15 = .ok (.invokestatic 81, 3) := by decide +kernel
theorem dX2_bestIfTold_18 : decode cX2_bestIfTold 18 = .ok (.istore 5, 2) := by decide +kernel
theorem dX2_bestIfTold_20 : decode cX2_bestIfTold 20 = .ok (.aload_n 0, 1) := by decide +kernel
theorem dX2_bestIfTold_21 : decode cX2_bestIfTold 21 = .ok (.getfield 9, 3) := by decide +kernel
theorem dX2_bestIfTold_24 : decode cX2_bestIfTold 24 = .ok (.iload_n 1, 1) := by decide +kernel
theorem dX2_bestIfTold_25 : decode cX2_bestIfTold 25 = .ok (.iconst 1, 1) := by decide +kernel
theorem dX2_bestIfTold_26 : decode cX2_bestIfTold 26 = .ok (.isub, 1) := by decide +kernel
theorem dX2_bestIfTold_27 : decode cX2_bestIfTold 27 = .ok (.iload 4, 2) := by decide +kernel
theorem dX2_bestIfTold_29 : decode cX2_bestIfTold 29 = .ok (.invokevirtual 108, 3) := by decide +kernel
theorem dX2_bestIfTold_32 : decode cX2_bestIfTold 32 = .ok (.lstore 6, 2) := by decide +kernel
theorem dX2_bestIfTold_34 : decode cX2_bestIfTold 34 = .ok (.iload_n 3, 1) := by decide +kernel
theorem dX2_bestIfTold_35 : decode cX2_bestIfTold 35 = .ok (.aload_n 0, 1) := by decide +kernel
theorem dX2_bestIfTold_36 : decode cX2_bestIfTold 36 = .ok (.getfield 9, 3) := by decide +kernel
theorem dX2_bestIfTold_39 : decode cX2_bestIfTold 39 = .ok (.invokevirtual 112, 3) := by decide +kernel
theorem dX2_bestIfTold_42 : decode cX2_bestIfTold 42 = .ok (.invokestatic 116, 3) := by decide +kernel
theorem dX2_bestIfTold_45 : decode cX2_bestIfTold 45 = .ok (.istore 8, 2) := by decide +kernel
theorem dX2_bestIfTold_47 : decode cX2_bestIfTold 47 = .ok (.lconst 0, 1) := by decide +kernel
theorem dX2_bestIfTold_48 : decode cX2_bestIfTold 48 = .ok (.lstore 9, 2) := by decide +kernel
theorem dX2_bestIfTold_50 : decode cX2_bestIfTold 50 = .ok (.iconst 0, 1) := by decide +kernel
theorem dX2_bestIfTold_51 : decode cX2_bestIfTold 51 = .ok (.istore 11, 2) := by decide +kernel
theorem dX2_bestIfTold_53 : decode cX2_bestIfTold 53 = .ok (.iload 11, 2) := by decide +kernel
theorem dX2_bestIfTold_55 : decode cX2_bestIfTold 55 = .ok (.aload_n 0, 1) := by decide +kernel
theorem dX2_bestIfTold_56 : decode cX2_bestIfTold 56 = .ok (.getfield 9, 3) := by decide +kernel
theorem dX2_bestIfTold_59 : decode cX2_bestIfTold 59 = .ok (.getfield 121, 3) := by decide +kernel
theorem dX2_bestIfTold_62 : decode cX2_bestIfTold 62 = .ok (.iload 4, 2) := by decide +kernel
theorem dX2_bestIfTold_64 : decode cX2_bestIfTold 64 = .ok (.iaload, 1) := by decide +kernel
theorem dX2_bestIfTold_65 : decode cX2_bestIfTold 65 = .ok (.if_icmp .ge 145, 3) := by decide +kernel
theorem dX2_bestIfTold_68 : decode cX2_bestIfTold 68 = .ok (.iload 4, 2) := by decide +kernel
theorem dX2_bestIfTold_70 : decode cX2_bestIfTold 70 = .ok (.iconst 4, 1) := by decide +kernel
theorem dX2_bestIfTold_71 : decode cX2_bestIfTold 71 = .ok (.imul, 1) := by decide +kernel
theorem dX2_bestIfTold_72 : decode cX2_bestIfTold 72 = .ok (.iload 11, 2) := by decide +kernel
theorem dX2_bestIfTold_74 : decode cX2_bestIfTold 74 = .ok (.iadd, 1) := by decide +kernel
theorem dX2_bestIfTold_75 : decode cX2_bestIfTold 75 = .ok (.istore 12, 2) := by decide +kernel
theorem dX2_bestIfTold_77 : decode cX2_bestIfTold 77 = .ok (.lload 6, 2) := by decide +kernel
theorem dX2_bestIfTold_79 : decode cX2_bestIfTold 79 = .ok (.aload_n 0, 1) := by decide +kernel
theorem dX2_bestIfTold_80 : decode cX2_bestIfTold 80 = .ok (.getfield 42, 3) := by decide +kernel
theorem dX2_bestIfTold_83 : decode cX2_bestIfTold 83 = .ok (.iload_n 3, 1) := by decide +kernel
theorem dX2_bestIfTold_84 : decode cX2_bestIfTold 84 = .ok (.iaload, 1) := by decide +kernel
theorem dX2_bestIfTold_85 : decode cX2_bestIfTold 85 = .ok (.i2l, 1) := by decide +kernel
theorem dX2_bestIfTold_86 : decode cX2_bestIfTold 86 = .ok (.lmul, 1) := by decide +kernel
theorem dX2_bestIfTold_87 : decode cX2_bestIfTold 87 = .ok (.aload_n 0, 1) := by decide +kernel
theorem dX2_bestIfTold_88 : decode cX2_bestIfTold 88 = .ok (.getfield 32, 3) := by decide +kernel
theorem dX2_bestIfTold_91 : decode cX2_bestIfTold 91 = .ok (.iload 5, 2) := by decide +kernel
theorem dX2_bestIfTold_93 : decode cX2_bestIfTold 93 = .ok (.aload_n 0, 1) := by decide +kernel
theorem dX2_bestIfTold_94 : decode cX2_bestIfTold 94 = .ok (.getfield 9, 3) := by decide +kernel
theorem dX2_bestIfTold_97 : decode cX2_bestIfTold 97 = .ok (.getfield 124, 3) := by decide +kernel
theorem dX2_bestIfTold_100 : decode cX2_bestIfTold 100 = .ok (.iload 12, 2) := by decide +kernel
theorem dX2_bestIfTold_102 : decode cX2_bestIfTold 102 = .ok (.iaload, 1) := by decide +kernel
theorem dX2_bestIfTold_103 : decode cX2_bestIfTold 103 = .ok (.iadd, 1) := by decide +kernel
theorem dX2_bestIfTold_104 : decode cX2_bestIfTold 104 = .ok (.laload, 1) := by decide +kernel
theorem dX2_bestIfTold_105 : decode cX2_bestIfTold 105 = .ok (.ladd, 1) := by decide +kernel
theorem dX2_bestIfTold_106 : decode cX2_bestIfTold 106 = .ok (.lstore 13, 2) := by decide +kernel
theorem dX2_bestIfTold_108 : decode cX2_bestIfTold 108 = .ok (.iconst 1, 1) := by decide +kernel
theorem dX2_bestIfTold_109 : decode cX2_bestIfTold 109 = .ok (.istore 15, 2) := by decide +kernel
theorem dX2_bestIfTold_111 : decode cX2_bestIfTold 111 = .ok (.iload 15, 2) := by decide +kernel
theorem dX2_bestIfTold_113 : decode cX2_bestIfTold 113 = .ok (.iload 8, 2) := by decide +kernel
theorem dX2_bestIfTold_115 : decode cX2_bestIfTold 115 = .ok (.if_icmp .gt 70, 3) := by decide +kernel
theorem dX2_bestIfTold_118 : decode cX2_bestIfTold 118 = .ok (.lload 6, 2) := by decide +kernel
theorem dX2_bestIfTold_120 : decode cX2_bestIfTold 120 = .ok (.aload_n 0, 1) := by decide +kernel
theorem dX2_bestIfTold_121 : decode cX2_bestIfTold 121 = .ok (.getfield 42, 3) := by decide +kernel
theorem dX2_bestIfTold_124 : decode cX2_bestIfTold 124 = .ok (.iload_n 3, 1) := by decide +kernel
theorem dX2_bestIfTold_125 : decode cX2_bestIfTold 125 = .ok (.iload 15, 2) := by decide +kernel
theorem dX2_bestIfTold_127 : decode cX2_bestIfTold 127 = .ok (.isub, 1) := by decide +kernel
theorem dX2_bestIfTold_128 : decode cX2_bestIfTold 128 = .ok (.iaload, 1) := by decide +kernel
theorem dX2_bestIfTold_129 : decode cX2_bestIfTold 129 = .ok (.aload_n 0, 1) := by decide +kernel
theorem dX2_bestIfTold_130 : decode cX2_bestIfTold 130 = .ok (.getfield 24, 3) := by decide +kernel
theorem dX2_bestIfTold_133 : decode cX2_bestIfTold 133 = .ok (.iload 15, 2) := by decide +kernel
theorem dX2_bestIfTold_135 : decode cX2_bestIfTold 135 = .ok (.imul, 1) := by decide +kernel
theorem dX2_bestIfTold_136 : decode cX2_bestIfTold 136 = .ok (.isub, 1) := by decide +kernel
theorem dX2_bestIfTold_137 : decode cX2_bestIfTold 137 = .ok (.i2l, 1) := by decide +kernel
theorem dX2_bestIfTold_138 : decode cX2_bestIfTold 138 = .ok (.lmul, 1) := by decide +kernel
theorem dX2_bestIfTold_139 : decode cX2_bestIfTold 139 = .ok (.lstore 16, 2) := by decide +kernel
theorem dX2_bestIfTold_141 : decode cX2_bestIfTold 141 = .ok (.lload 13, 2) := by decide +kernel
theorem dX2_bestIfTold_143 : decode cX2_bestIfTold 143 = .ok (.lload 16, 2) := by decide +kernel
theorem dX2_bestIfTold_145 : decode cX2_bestIfTold 145 = .ok (.aload_n 0, 1) := by decide +kernel
theorem dX2_bestIfTold_146 : decode cX2_bestIfTold 146 = .ok (.getfield 32, 3) := by decide +kernel
theorem dX2_bestIfTold_149 : decode cX2_bestIfTold 149 = .ok (.iload 5, 2) := by decide +kernel
theorem dX2_bestIfTold_151 : decode cX2_bestIfTold 151 = .ok (.aload_n 0, 1) := by decide +kernel
theorem dX2_bestIfTold_152 : decode cX2_bestIfTold 152 = .ok (.getfield 9, 3) := by decide +kernel
theorem dX2_bestIfTold_155 : decode cX2_bestIfTold 155 = .ok (.iload 15, 2) := by decide +kernel
theorem dX2_bestIfTold_157 : decode cX2_bestIfTold 157 = .ok (.invokevirtual 127, 3) := by decide +kernel
theorem dX2_bestIfTold_160 : decode cX2_bestIfTold 160 = .ok (.iadd, 1) := by decide +kernel
theorem dX2_bestIfTold_161 : decode cX2_bestIfTold 161 = .ok (.aload_n 0, 1) := by decide +kernel
theorem dX2_bestIfTold_162 : decode cX2_bestIfTold 162 = .ok (.getfield 9, 3) := by decide +kernel
theorem dX2_bestIfTold_165 : decode cX2_bestIfTold 165 = .ok (.getfield 124, 3) := by decide +kernel
theorem dX2_bestIfTold_168 : decode cX2_bestIfTold 168 = .ok (.iload 12, 2) := by decide +kernel
theorem dX2_bestIfTold_170 : decode cX2_bestIfTold 170 = .ok (.iaload, 1) := by decide +kernel
theorem dX2_bestIfTold_171 : decode cX2_bestIfTold 171 = .ok (.iadd, 1) := by decide +kernel
theorem dX2_bestIfTold_172 : decode cX2_bestIfTold 172 = .ok (.laload, 1) := by decide +kernel
theorem dX2_bestIfTold_173 : decode cX2_bestIfTold 173 = .ok (.ladd, 1) := by decide +kernel
theorem dX2_bestIfTold_174 : decode cX2_bestIfTold 174 = .ok (.invokestatic 130, 3) := by decide +kernel
theorem dX2_bestIfTold_177 : decode cX2_bestIfTold 177 = .ok (.lstore 13, 2) := by decide +kernel
theorem dX2_bestIfTold_179 : decode cX2_bestIfTold 179 = .ok (.iinc 15 1, 3) := by decide +kernel
theorem dX2_bestIfTold_182 : decode cX2_bestIfTold 182 = .ok (.goto (-71), 3) := by decide +kernel
theorem dX2_bestIfTold_185 : decode cX2_bestIfTold 185 = .ok (.lload 9, 2) := by decide +kernel
theorem dX2_bestIfTold_187 : decode cX2_bestIfTold 187 = .ok (.aload_n 0, 1) := by decide +kernel
theorem dX2_bestIfTold_188 : decode cX2_bestIfTold 188 = .ok (.getfield 9, 3) := by decide +kernel
theorem dX2_bestIfTold_191 : decode cX2_bestIfTold 191 = .ok (.getfield 134, 3) := by decide +kernel
theorem dX2_bestIfTold_194 : decode cX2_bestIfTold 194 = .ok (.iload 12, 2) := by decide +kernel
theorem dX2_bestIfTold_196 : decode cX2_bestIfTold 196 = .ok (.iaload, 1) := by decide +kernel
theorem dX2_bestIfTold_197 : decode cX2_bestIfTold 197 = .ok (.i2l, 1) := by decide +kernel
theorem dX2_bestIfTold_198 : decode cX2_bestIfTold 198 = .ok (.lload 13, 2) := by decide +kernel
theorem dX2_bestIfTold_200 : decode cX2_bestIfTold 200 = .ok (.lmul, 1) := by decide +kernel
theorem dX2_bestIfTold_201 : decode cX2_bestIfTold 201 = .ok (.ladd, 1) := by decide +kernel
theorem dX2_bestIfTold_202 : decode cX2_bestIfTold 202 = .ok (.lstore 9, 2) := by decide +kernel
theorem dX2_bestIfTold_204 : decode cX2_bestIfTold 204 = .ok (.iinc 11 1, 3) := by decide +kernel
theorem dX2_bestIfTold_207 : decode cX2_bestIfTold 207 = .ok (.goto (-154), 3) := by decide +kernel
theorem dX2_bestIfTold_210 : decode cX2_bestIfTold 210 = .ok (.lload 9, 2) := by decide +kernel
theorem dX2_bestIfTold_212 : decode cX2_bestIfTold 212 = .ok (.lreturn, 1) := by decide +kernel
theorem dX2_cellOf_0 : decode cX2_cellOf 0 = .ok (.iload_n 1, 1) := by decide +kernel
theorem dX2_cellOf_1 : decode cX2_cellOf 1 = .ok (.bipush 12, 2) := by decide +kernel
theorem dX2_cellOf_3 : decode cX2_cellOf 3 = .ok (.imul, 1) := by decide +kernel
theorem dX2_cellOf_4 : decode cX2_cellOf 4 = .ok (.iload_n 0, 1) := by decide +kernel
theorem dX2_cellOf_5 : decode cX2_cellOf 5 = .ok (.iadd, 1) := by decide +kernel
theorem dX2_cellOf_6 : decode cX2_cellOf 6 = .ok (.iconst 1, 1) := by decide +kernel
theorem dX2_cellOf_7 : decode cX2_cellOf 7 = .ok (.isub, 1) := by decide +kernel
theorem dX2_cellOf_8 : decode cX2_cellOf 8 = .ok (.bipush 41, 2) := by decide +kernel
theorem dX2_cellOf_10 : decode cX2_cellOf 10 = .ok (.imul, 1) := by decide +kernel
theorem dX2_cellOf_11 : decode cX2_cellOf 11 = .ok (.ireturn, 1) := by decide +kernel
theorem dX2_lastSeason_0 : decode cX2_lastSeason 0 = .ok (.iload_n 2, 1) := by decide +kernel
theorem dX2_lastSeason_1 : decode cX2_lastSeason 1 = .ok (.istore_n 3, 1) := by decide +kernel
theorem dX2_lastSeason_2 : decode cX2_lastSeason 2 = .ok (.iconst 1, 1) := by decide +kernel
theorem dX2_lastSeason_3 : decode cX2_lastSeason 3 = .ok (.istore 4, 2) := by decide +kernel
theorem dX2_lastSeason_5 : decode cX2_lastSeason 5 = .ok (.iload 4, 2) := by decide +kernel
theorem dX2_lastSeason_7 : decode cX2_lastSeason 7 = .ok (.iload_n 1, 1) := by decide +kernel
theorem dX2_lastSeason_8 : decode cX2_lastSeason 8 = .ok (.if_icmp .ge 18, 3) := by decide +kernel
theorem dX2_lastSeason_11 : decode cX2_lastSeason 11 = .ok (.aload_n 0, 1) := by decide +kernel
theorem dX2_lastSeason_12 : decode cX2_lastSeason 12 = .ok (.getfield 9, 3) := by decide +kernel
theorem dX2_lastSeason_15 : decode cX2_lastSeason 15 = .ok (.iload_n 3, 1) := by decide +kernel
theorem dX2_lastSeason_16 : decode cX2_lastSeason 16 = .ok (.invokevirtual 105, 3) := by decide +kernel
theorem dX2_lastSeason_19 : decode cX2_lastSeason 19 = .ok (.istore_n 3, 1) := by decide +kernel
theorem dX2_lastSeason_20 : decode cX2_lastSeason 20 = .ok (.iinc 4 1, 3) := by decide +kernel
theorem dX2_lastSeason_23 : decode cX2_lastSeason 23 = .ok (.goto (-18), 3) := by decide +kernel
theorem dX2_lastSeason_26 : decode cX2_lastSeason 26 = .ok (.iload_n 3, 1) := by decide +kernel
theorem dX2_lastSeason_27 : decode cX2_lastSeason 27 = .ok (.ireturn, 1) := by decide +kernel
theorem dX2_fillAll_0 : decode cX2_fillAll 0 = .ok (.aload_n 0, 1) := by decide +kernel
theorem dX2_fillAll_1 : decode cX2_fillAll 1 = .ok (.getfield 9, 3) := by decide +kernel
theorem dX2_fillAll_4 : decode cX2_fillAll 4 = .ok (.iload_n 2, 1) := by decide +kernel
theorem dX2_fillAll_5 : decode cX2_fillAll 5 = .ok (.invokevirtual 105, 3) := by decide +kernel
theorem dX2_fillAll_8 : decode cX2_fillAll 8 = .ok (.istore_n 3, 1) := by decide +kernel
theorem dX2_fillAll_9 : decode cX2_fillAll 9 = .ok (.iload_n 1, 1) := by decide +kernel
theorem dX2_fillAll_10 : decode cX2_fillAll 10 = .ok (.iconst 1, 1) := by decide +kernel
theorem dX2_fillAll_11 : decode cX2_fillAll 11 = .ok (.if_icmp .le 13, 3) := by decide +kernel
theorem dX2_fillAll_14 : decode cX2_fillAll 14 = .ok (.aload_n 0, 1) := by decide +kernel
theorem dX2_fillAll_15 : decode cX2_fillAll 15 = .ok (.getfield 9, 3) := by decide +kernel
theorem dX2_fillAll_18 : decode cX2_fillAll 18 = .ok (.invokevirtual 112, 3) := by decide +kernel
theorem dX2_fillAll_21 : decode cX2_fillAll 21 = .ok (.goto 4, 3) := by decide +kernel
theorem dX2_fillAll_24 : decode cX2_fillAll 24 = .ok (.iconst 0, 1) := by decide +kernel
theorem dX2_fillAll_25 : decode cX2_fillAll 25 = .ok (.istore 4, 2) := by decide +kernel
theorem dX2_fillAll_27 : decode cX2_fillAll 27 = .ok (.iconst 1, 1) := by decide +kernel
theorem dX2_fillAll_28 : decode cX2_fillAll 28 = .ok (.istore 5, 2) := by decide +kernel
theorem dX2_fillAll_30 : decode cX2_fillAll 30 = .ok (.iload 5, 2) := by decide +kernel
theorem dX2_fillAll_32 : decode cX2_fillAll 32 = .ok (.iload 4, 2) := by decide +kernel
theorem dX2_fillAll_34 : decode cX2_fillAll 34 = .ok (.if_icmp .gt 33, 3) := by decide +kernel
theorem dX2_fillAll_37 : decode cX2_fillAll 37 = .ok (.aload_n 0, 1) := by decide +kernel
theorem dX2_fillAll_38 : decode cX2_fillAll 38 = .ok (.getfield 51, 3) := by decide +kernel
theorem dX2_fillAll_41 : decode cX2_fillAll 41 = .ok (.iload 5, 2) := by decide +kernel
theorem dX2_fillAll_43 : decode cX2_fillAll 43 = .ok (.aload_n 0, 1) := by decide +kernel
theorem dX2_fillAll_44 : decode cX2_fillAll 44 = .ok (.iload_n 1, 1) := by decide +kernel
theorem dX2_fillAll_45 : decode cX2_fillAll 45 = .ok (.iconst 1, 1) := by decide +kernel
theorem dX2_fillAll_46 : decode cX2_fillAll 46 = .ok (.isub, 1) := by decide +kernel
theorem dX2_fillAll_47 : decode cX2_fillAll 47 = .ok (.iload_n 3, 1) := by decide +kernel
theorem dX2_fillAll_48 : decode cX2_fillAll 48 = .ok (.aload_n 0, 1) := by decide +kernel
theorem dX2_fillAll_49 : decode cX2_fillAll 49 = .ok (.getfield 9, 3) := by decide +kernel
theorem dX2_fillAll_52 : decode cX2_fillAll 52 = .ok (.iload 5, 2) := by decide +kernel
theorem dX2_fillAll_54 : decode cX2_fillAll 54 = .ok (.invokevirtual 127, 3) := by decide +kernel
theorem dX2_fillAll_57 : decode cX2_fillAll 57 = .ok (.invokevirtual 137, 3) := by decide +kernel
theorem dX2_fillAll_60 : decode cX2_fillAll 60 = .ok (.lastore, 1) := by decide +kernel
theorem dX2_fillAll_61 : decode cX2_fillAll 61 = .ok (.iinc 5 1, 3) := by decide +kernel
theorem dX2_fillAll_64 : decode cX2_fillAll 64 = .ok (.goto (-34), 3) := by decide +kernel
theorem dX2_fillAll_67 : decode cX2_fillAll 67 = .ok (.aload_n 0, 1) := by decide +kernel
theorem dX2_fillAll_68 : decode cX2_fillAll 68 = .ok (.getfield 9, 3) := by decide +kernel
theorem dX2_fillAll_71 : decode cX2_fillAll 71 = .ok (.getfield 141, 3) := by decide +kernel
theorem dX2_fillAll_74 : decode cX2_fillAll 74 = .ok (.ifCond .le 16, 3) := by decide +kernel
theorem dX2_fillAll_77 : decode cX2_fillAll 77 = .ok (.aload_n 0, 1) := by decide +kernel
theorem dX2_fillAll_78 : decode cX2_fillAll 78 = .ok (.getfield 9, 3) := by decide +kernel
theorem dX2_fillAll_81 : decode cX2_fillAll 81 = .ok (.getfield 141, 3) := by decide +kernel
theorem dX2_fillAll_84 : decode cX2_fillAll 84 = .ok (.iconst 1, 1) := by decide +kernel
theorem dX2_fillAll_85 : decode cX2_fillAll 85 = .ok (.isub, 1) := by decide +kernel
theorem dX2_fillAll_86 : decode cX2_fillAll 86 = .ok (.i2l, 1) := by decide +kernel
theorem dX2_fillAll_87 : decode cX2_fillAll 87 = .ok (.goto 4, 3) := by decide +kernel
theorem dX2_fillAll_90 : decode cX2_fillAll 90 = .ok (.lconst 1, 1) := by decide +kernel
theorem dX2_fillAll_91 : decode cX2_fillAll 91 = .ok (.lstore 5, 2) := by decide +kernel
theorem dX2_fillAll_93 : decode cX2_fillAll 93 = .ok (.aload_n 0, 1) := by decide +kernel
theorem dX2_fillAll_94 : decode cX2_fillAll 94 = .ok (.getfield 9, 3) := by decide +kernel
theorem dX2_fillAll_97 : decode cX2_fillAll 97 = .ok (.getfield 141, 3) := by decide +kernel
theorem dX2_fillAll_100 : decode cX2_fillAll 100 = .ok (.ifCond .le 14, 3) := by decide +kernel
theorem dX2_fillAll_103 : decode cX2_fillAll 103 = .ok (.aload_n 0, 1) := by decide +kernel
theorem dX2_fillAll_104 : decode cX2_fillAll 104 = .ok (.getfield 9, 3) := by decide +kernel
theorem dX2_fillAll_107 : decode cX2_fillAll 107 = .ok (.getfield 141, 3) := by decide +kernel
theorem dX2_fillAll_110 : decode cX2_fillAll 110 = .ok (.i2l, 1) := by decide +kernel
theorem dX2_fillAll_111 : decode cX2_fillAll 111 = .ok (.goto 4, 3) := by decide +kernel
theorem dX2_fillAll_114 : decode cX2_fillAll 114 = .ok (.lconst 1, 1) := by decide +kernel
theorem dX2_fillAll_115 : decode cX2_fillAll 115 = .ok (.lstore 7, 2) := by decide +kernel
theorem dX2_fillAll_117 : decode cX2_fillAll 117 = .ok (.lload 7, 2) := by decide +kernel
theorem dX2_fillAll_119 : decode cX2_fillAll 119 = .ok (.aload_n 0, 1) := by decide +kernel
theorem dX2_fillAll_120 : decode cX2_fillAll 120 = .ok (.getfield 9, 3) := by decide +kernel
theorem dX2_fillAll_123 : decode cX2_fillAll 123 = .ok (.getfield 144, 3) := by decide +kernel
theorem dX2_fillAll_126 : decode cX2_fillAll 126 = .ok (.iload_n 3, 1) := by decide +kernel
theorem dX2_fillAll_127 : decode cX2_fillAll 127 = .ok (.iaload, 1) := by decide +kernel
theorem dX2_fillAll_128 : decode cX2_fillAll 128 = .ok (.i2l, 1) := by decide +kernel
theorem dX2_fillAll_129 : decode cX2_fillAll 129 = .ok (.lmul, 1) := by decide +kernel
theorem dX2_fillAll_130 : decode cX2_fillAll 130 = .ok (.lstore 9, 2) := by decide +kernel
theorem dX2_fillAll_132 : decode cX2_fillAll 132 = .ok (.iload_n 1, 1) := by decide +kernel
theorem dX2_fillAll_133 : decode cX2_fillAll 133 = .ok (.iload_n 2, 1) := by decide +kernel
theorem dX2_fillAll_134 : decode cX2_fillAll 134 = .ok (.invokestatic 81, 3) := by decide +kernel
theorem dX2_fillAll_137 : decode cX2_fillAll 137 = .ok (.istore 11, 2) := by decide +kernel
theorem dX2_fillAll_139 : decode cX2_fillAll 139 = .ok (.iconst 0, 1) := by decide +kernel
theorem dX2_fillAll_140 : decode cX2_fillAll 140 = .ok (.istore 12, 2) := by decide +kernel
theorem dX2_fillAll_142 : decode cX2_fillAll 142 = .ok (.iconst 0, 1) := by decide +kernel
theorem dX2_fillAll_143 : decode cX2_fillAll 143 = .ok (.istore 13, 2) := by decide +kernel
theorem dX2_fillAll_145 : decode cX2_fillAll 145 = .ok (.iload 13, 2) := by decide +kernel
theorem dX2_fillAll_147 : decode cX2_fillAll 147 = .ok (.bipush 40, 2) := by decide +kernel
theorem dX2_fillAll_149 : decode cX2_fillAll 149 = .ok (.if_icmp .gt 86, 3) := by decide +kernel
theorem dX2_fillAll_152 : decode cX2_fillAll 152 = .ok (.iload 12, 2) := by decide +kernel
theorem dX2_fillAll_154 : decode cX2_fillAll 154 = .ok (.istore 14, 2) := by decide +kernel
theorem dX2_fillAll_156 : decode cX2_fillAll 156 = .ok (.iload 14, 2) := by decide +kernel
theorem dX2_fillAll_158 : decode cX2_fillAll 158 = .ok (.iload 13, 2) := by decide +kernel
theorem dX2_fillAll_160 : decode cX2_fillAll 160 = .ok (.iload 4, 2) := by decide +kernel
theorem dX2_fillAll_162 : decode cX2_fillAll 162 = .ok (.invokestatic 116, 3) := by decide +kernel
theorem dX2_fillAll_165 : decode cX2_fillAll 165 = .ok (.if_icmp .ge 52, 3) := by decide +kernel
theorem dX2_fillAll_168 : decode cX2_fillAll 168 = .ok (.aload_n 0, 1) := by decide +kernel
theorem dX2_fillAll_169 : decode cX2_fillAll 169 = .ok (.getfield 51, 3) := by decide +kernel
theorem dX2_fillAll_172 : decode cX2_fillAll 172 = .ok (.iload 12, 2) := by decide +kernel
theorem dX2_fillAll_174 : decode cX2_fillAll 174 = .ok (.iconst 1, 1) := by decide +kernel
theorem dX2_fillAll_175 : decode cX2_fillAll 175 = .ok (.iadd, 1) := by decide +kernel
theorem dX2_fillAll_176 : decode cX2_fillAll 176 = .ok (.laload, 1) := by decide +kernel
theorem dX2_fillAll_177 : decode cX2_fillAll 177 = .ok (.lload 5, 2) := by decide +kernel
theorem dX2_fillAll_179 : decode cX2_fillAll 179 = .ok (.lmul, 1) := by decide +kernel
theorem dX2_fillAll_180 : decode cX2_fillAll 180 = .ok (.aload_n 0, 1) := by decide +kernel
theorem dX2_fillAll_181 : decode cX2_fillAll 181 = .ok (.getfield 9, 3) := by decide +kernel
theorem dX2_fillAll_184 : decode cX2_fillAll 184 = .ok (.iload 13, 2) := by decide +kernel
theorem dX2_fillAll_186 : decode cX2_fillAll 186 = .ok (.iload 12, 2) := by decide +kernel
theorem dX2_fillAll_188 : decode cX2_fillAll 188 = .ok (.isub, 1) := by decide +kernel
theorem dX2_fillAll_189 : decode cX2_fillAll 189 = .ok (.invokevirtual 93, 3) := by decide +kernel
theorem dX2_fillAll_192 : decode cX2_fillAll 192 = .ok (.aload_n 0, 1) := by decide +kernel
theorem dX2_fillAll_193 : decode cX2_fillAll 193 = .ok (.getfield 24, 3) := by decide +kernel
theorem dX2_fillAll_196 : decode cX2_fillAll 196 = .ok (.iadd, 1) := by decide +kernel
theorem dX2_fillAll_197 : decode cX2_fillAll 197 = .ok (.i2l, 1) := by decide +kernel
theorem dX2_fillAll_198 : decode cX2_fillAll 198 = .ok (.lload 9, 2) := by decide +kernel
theorem dX2_fillAll_200 : decode cX2_fillAll 200 = .ok (.lmul, 1) := by decide +kernel
theorem dX2_fillAll_201 : decode cX2_fillAll 201 = .ok (.lcmp, 1) := by decide +kernel
theorem dX2_fillAll_202 : decode cX2_fillAll 202 = .ok (.ifCond .gt 6, 3) := by decide +kernel
theorem dX2_fillAll_205 : decode cX2_fillAll 205 = .ok (.goto 12, 3) := by decide +kernel
theorem dX2_fillAll_208 : decode cX2_fillAll 208 = .ok (.iinc 12 1, 3) := by decide +kernel
theorem dX2_fillAll_211 : decode cX2_fillAll 211 = .ok (.iinc 14 1, 3) := by decide +kernel
theorem dX2_fillAll_214 : decode cX2_fillAll 214 = .ok (.goto (-58), 3) := by decide +kernel
theorem dX2_fillAll_217 : decode cX2_fillAll 217 = .ok (.aload_n 0, 1) := by decide +kernel
theorem dX2_fillAll_218 : decode cX2_fillAll 218 = .ok (.getfield 28, 3) := by decide +kernel
theorem dX2_fillAll_221 : decode cX2_fillAll 221 = .ok (.iload 11, 2) := by decide +kernel
theorem dX2_fillAll_223 : decode cX2_fillAll 223 = .ok (.iload 13, 2) := by decide +kernel
theorem dX2_fillAll_225 : decode cX2_fillAll 225 = .ok (.iadd, 1) := by decide +kernel
theorem dX2_fillAll_226 : decode cX2_fillAll 226 = .ok (.iload 12, 2) := by decide +kernel
theorem dX2_fillAll_228 : decode cX2_fillAll 228 = .ok (.iastore, 1) := by decide +kernel
theorem dX2_fillAll_229 : decode cX2_fillAll 229 = .ok (.iinc 13 1, 3) := by decide +kernel
theorem dX2_fillAll_232 : decode cX2_fillAll 232 = .ok (.goto (-87), 3) := by decide +kernel
theorem dX2_fillAll_235 : decode cX2_fillAll 235 = .ok (.return_, 1) := by decide +kernel
theorem dX2_pricesThen_0 : decode cX2_pricesThen 0 = .ok (.iload_n 1, 1) := by decide +kernel
theorem dX2_pricesThen_1 : decode cX2_pricesThen 1 = .ok (.iload_n 2, 1) := by decide +kernel
theorem dX2_pricesThen_2 : decode cX2_pricesThen 2 = .ok (.invokestatic 81, 3) := by decide +kernel
theorem dX2_pricesThen_5 : decode cX2_pricesThen 5 = .ok (.istore 4, 2) := by decide +kernel
theorem dX2_pricesThen_7 : decode cX2_pricesThen 7 = .ok (.lconst 0, 1) := by decide +kernel
theorem dX2_pricesThen_8 : decode cX2_pricesThen 8 = .ok (.lstore 5, 2) := by decide +kernel
theorem dX2_pricesThen_10 : decode cX2_pricesThen 10 = .ok (.iconst 0, 1) := by decide +kernel
theorem dX2_pricesThen_11 : decode cX2_pricesThen 11 = .ok (.istore 7, 2) := by decide +kernel
theorem dX2_pricesThen_13 : decode cX2_pricesThen 13 = .ok (.iload 7, 2) := by decide +kernel
theorem dX2_pricesThen_15 : decode cX2_pricesThen 15 = .ok (.aload_n 0, 1) := by decide +kernel
theorem dX2_pricesThen_16 : decode cX2_pricesThen 16 = .ok (.getfield 9, 3) := by decide +kernel
theorem dX2_pricesThen_19 : decode cX2_pricesThen 19 = .ok (.getfield 121, 3) := by decide +kernel
theorem dX2_pricesThen_22 : decode cX2_pricesThen 22 = .ok (.iload_n 2, 1) := by decide +kernel
theorem dX2_pricesThen_23 : decode cX2_pricesThen 23 = .ok (.iaload, 1) := by decide +kernel
theorem dX2_pricesThen_24 : decode cX2_pricesThen 24 = .ok (.if_icmp .ge 69, 3) := by decide +kernel
theorem dX2_pricesThen_27 : decode cX2_pricesThen 27 = .ok (.iload_n 2, 1) := by decide +kernel
theorem dX2_pricesThen_28 : decode cX2_pricesThen 28 = .ok (.iconst 4, 1) := by decide +kernel
theorem dX2_pricesThen_29 : decode cX2_pricesThen 29 = .ok (.imul, 1) := by decide +kernel
theorem dX2_pricesThen_30 : decode cX2_pricesThen 30 = .ok (.iload 7, 2) := by decide +kernel
theorem dX2_pricesThen_32 : decode cX2_pricesThen 32 = .ok (.iadd, 1) := by decide +kernel
theorem dX2_pricesThen_33 : decode cX2_pricesThen 33 = .ok (.istore 8, 2) := by decide +kernel
theorem dX2_pricesThen_35 : decode cX2_pricesThen 35 = .ok (.iload_n 3, 1) := by decide +kernel
theorem dX2_pricesThen_36 : decode cX2_pricesThen 36 = .ok (.aload_n 0, 1) := by decide +kernel
theorem dX2_pricesThen_37 : decode cX2_pricesThen 37 = .ok (.getfield 9, 3) := by decide +kernel
theorem dX2_pricesThen_40 : decode cX2_pricesThen 40 = .ok (.getfield 124, 3) := by decide +kernel
theorem dX2_pricesThen_43 : decode cX2_pricesThen 43 = .ok (.iload 8, 2) := by decide +kernel
theorem dX2_pricesThen_45 : decode cX2_pricesThen 45 = .ok (.iaload, 1) := by decide +kernel
theorem dX2_pricesThen_46 : decode cX2_pricesThen 46 = .ok (.iadd, 1) := by decide +kernel
theorem dX2_pricesThen_47 : decode cX2_pricesThen 47 = .ok (.istore 9, 2) := by decide +kernel
theorem dX2_pricesThen_49 : decode cX2_pricesThen 49 = .ok (.lload 5, 2) := by decide +kernel
theorem dX2_pricesThen_51 : decode cX2_pricesThen 51 = .ok (.aload_n 0, 1) := by decide +kernel
theorem dX2_pricesThen_52 : decode cX2_pricesThen 52 = .ok (.getfield 9, 3) := by decide +kernel
theorem dX2_pricesThen_55 : decode cX2_pricesThen 55 = .ok (.getfield 134, 3) := by decide +kernel
theorem dX2_pricesThen_58 : decode cX2_pricesThen 58 = .ok (.iload 8, 2) := by decide +kernel
theorem dX2_pricesThen_60 : decode cX2_pricesThen 60 = .ok (.iaload, 1) := by decide +kernel
theorem dX2_pricesThen_61 : decode cX2_pricesThen 61 = .ok (.i2l, 1) := by decide +kernel
theorem dX2_pricesThen_62 : decode cX2_pricesThen 62 = .ok (.aload_n 0, 1) := by decide +kernel
theorem dX2_pricesThen_63 : decode cX2_pricesThen 63 = .ok (.getfield 9, 3) := by decide +kernel
theorem dX2_pricesThen_66 : decode cX2_pricesThen 66 = .ok (.iload 9, 2) := by decide +kernel
theorem dX2_pricesThen_68 : decode cX2_pricesThen 68 = .ok (.aload_n 0, 1) := by decide +kernel
theorem dX2_pricesThen_69 : decode cX2_pricesThen 69 = .ok (.getfield 28, 3) := by decide +kernel
theorem dX2_pricesThen_72 : decode cX2_pricesThen 72 = .ok (.iload 4, 2) := by decide +kernel
theorem dX2_pricesThen_74 : decode cX2_pricesThen 74 = .ok (.iload 9, 2) := by decide +kernel
theorem dX2_pricesThen_76 : decode cX2_pricesThen 76 = .ok (.iadd, 1) := by decide +kernel
theorem dX2_pricesThen_77 : decode cX2_pricesThen 77 = .ok (.iaload, 1) := by decide +kernel
theorem dX2_pricesThen_78 : decode cX2_pricesThen 78 = .ok (.isub, 1) := by decide +kernel
theorem dX2_pricesThen_79 : decode cX2_pricesThen 79 = .ok (.invokevirtual 93, 3) := by decide +kernel
theorem dX2_pricesThen_82 : decode cX2_pricesThen 82 = .ok (.i2l, 1) := by decide +kernel
theorem dX2_pricesThen_83 : decode cX2_pricesThen 83 = .ok (.lmul, 1) := by decide +kernel
theorem dX2_pricesThen_84 : decode cX2_pricesThen 84 = .ok (.ladd, 1) := by decide +kernel
theorem dX2_pricesThen_85 : decode cX2_pricesThen 85 = .ok (.lstore 5, 2) := by decide +kernel
theorem dX2_pricesThen_87 : decode cX2_pricesThen 87 = .ok (.iinc 7 1, 3) := by decide +kernel
theorem dX2_pricesThen_90 : decode cX2_pricesThen 90 = .ok (.goto (-77), 3) := by decide +kernel
theorem dX2_pricesThen_93 : decode cX2_pricesThen 93 = .ok (.lload 5, 2) := by decide +kernel
theorem dX2_pricesThen_95 : decode cX2_pricesThen 95 = .ok (.lreturn, 1) := by decide +kernel
theorem dX2_fillBest_0 : decode cX2_fillBest 0 = .ok (.aload_n 0, 1) := by decide +kernel
theorem dX2_fillBest_1 : decode cX2_fillBest 1 = .ok (.getfield 9, 3) := by decide +kernel
theorem dX2_fillBest_4 : decode cX2_fillBest 4 = .ok (.iload_n 2, 1) := by decide +kernel
theorem dX2_fillBest_5 : decode cX2_fillBest 5 = .ok (.invokevirtual 105, 3) := by decide +kernel
theorem dX2_fillBest_8 : decode cX2_fillBest 8 = .ok (.istore_n 3, 1) := by decide +kernel
theorem dX2_fillBest_9 : decode cX2_fillBest 9 = .ok (.iload_n 1, 1) := by decide +kernel
theorem dX2_fillBest_10 : decode cX2_fillBest 10 = .ok (.iconst 1, 1) := by decide +kernel
theorem dX2_fillBest_11 : decode cX2_fillBest 11 = .ok (.if_icmp .le 13, 3) := by decide +kernel
theorem dX2_fillBest_14 : decode cX2_fillBest 14 = .ok (.aload_n 0, 1) := by decide +kernel
theorem dX2_fillBest_15 : decode cX2_fillBest 15 = .ok (.getfield 9, 3) := by decide +kernel
theorem dX2_fillBest_18 : decode cX2_fillBest 18 = .ok (.invokevirtual 112, 3) := by decide +kernel
theorem dX2_fillBest_21 : decode cX2_fillBest 21 = .ok (.goto 4, 3) := by decide +kernel
theorem dX2_fillBest_24 : decode cX2_fillBest 24 = .ok (.iconst 0, 1) := by decide +kernel
theorem dX2_fillBest_25 : decode cX2_fillBest 25 = .ok (.istore 4, 2) := by decide +kernel
theorem dX2_fillBest_27 : decode cX2_fillBest 27 = .ok (.aload_n 0, 1) := by decide +kernel
theorem dX2_fillBest_28 : decode cX2_fillBest 28 = .ok (.getfield 9, 3) := by decide +kernel
theorem dX2_fillBest_31 : decode cX2_fillBest 31 = .ok (.iload_n 1, 1) := by decide +kernel
theorem dX2_fillBest_32 : decode cX2_fillBest 32 = .ok (.iload_n 2, 1) := by decide +kernel
theorem dX2_fillBest_33 : decode cX2_fillBest 33 = .ok (.invokevirtual 108, 3) := by decide +kernel
theorem dX2_fillBest_36 : decode cX2_fillBest 36 = .ok (.lstore 5, 2) := by decide +kernel
theorem dX2_fillBest_38 : decode cX2_fillBest 38 = .ok (.aload_n 0, 1) := by decide +kernel
theorem dX2_fillBest_39 : decode cX2_fillBest 39 = .ok (.getfield 51, 3) := by decide +kernel
theorem dX2_fillBest_42 : decode cX2_fillBest 42 = .ok (.iconst 0, 1) := by decide +kernel
theorem dX2_fillBest_43 : decode cX2_fillBest 43 = .ok (.lconst 0, 1) := by decide +kernel
theorem dX2_fillBest_44 : decode cX2_fillBest 44 = .ok (.lastore, 1) := by decide +kernel
theorem dX2_fillBest_45 : decode cX2_fillBest 45 = .ok (.iconst 0, 1) := by decide +kernel
theorem dX2_fillBest_46 : decode cX2_fillBest 46 = .ok (.istore 7, 2) := by decide +kernel
theorem dX2_fillBest_48 : decode cX2_fillBest 48 = .ok (.iload 7, 2) := by decide +kernel
theorem dX2_fillBest_50 : decode cX2_fillBest 50 = .ok (.iload 4, 2) := by decide +kernel
theorem dX2_fillBest_52 : decode cX2_fillBest 52 = .ok (.if_icmp .gt 55, 3) := by decide +kernel
theorem dX2_fillBest_55 : decode cX2_fillBest 55 = .ok (.iload_n 1, 1) := by decide +kernel
theorem dX2_fillBest_56 : decode cX2_fillBest 56 = .ok (.iconst 1, 1) := by decide +kernel
theorem dX2_fillBest_57 : decode cX2_fillBest 57 = .ok (.if_icmp .le 50, 3) := by decide +kernel
theorem dX2_fillBest_60 : decode cX2_fillBest 60 = .ok (.aload_n 0, 1) := by decide +kernel
theorem dX2_fillBest_61 : decode cX2_fillBest 61 = .ok (.getfield 51, 3) := by decide +kernel
theorem dX2_fillBest_64 : decode cX2_fillBest 64 = .ok (.iload 7, 2) := by decide +kernel
theorem dX2_fillBest_66 : decode cX2_fillBest 66 = .ok (.aload_n 0, 1) := by decide +kernel
theorem dX2_fillBest_67 : decode cX2_fillBest 67 = .ok (.aload_n 0, 1) := by decide +kernel
theorem dX2_fillBest_68 : decode cX2_fillBest 68 = .ok (.getfield 32, 3) := by decide +kernel
theorem dX2_fillBest_71 : decode cX2_fillBest 71 = .ok (.iload_n 1, 1) := by decide +kernel
theorem dX2_fillBest_72 : decode cX2_fillBest 72 = .ok (.iconst 1, 1) := by decide +kernel
theorem dX2_fillBest_73 : decode cX2_fillBest 73 = .ok (.isub, 1) := by decide +kernel
theorem dX2_fillBest_74 : decode cX2_fillBest 74 = .ok (.iload_n 3, 1) := by decide +kernel
theorem dX2_fillBest_75 : decode cX2_fillBest 75 = .ok (.aload_n 0, 1) := by decide +kernel
theorem dX2_fillBest_76 : decode cX2_fillBest 76 = .ok (.getfield 9, 3) := by decide +kernel
theorem dX2_fillBest_79 : decode cX2_fillBest 79 = .ok (.iload 7, 2) := by decide +kernel
theorem dX2_fillBest_81 : decode cX2_fillBest 81 = .ok (.invokevirtual 127, 3) := by decide +kernel
theorem dX2_fillBest_84 : decode cX2_fillBest 84 = .ok (.invokevirtual 147, 3) := by decide +kernel
theorem dX2_fillBest_87 : decode cX2_fillBest 87 = .ok (.lload 5, 2) := by decide +kernel
theorem dX2_fillBest_89 : decode cX2_fillBest 89 = .ok (.aload_n 0, 1) := by decide +kernel
theorem dX2_fillBest_90 : decode cX2_fillBest 90 = .ok (.getfield 24, 3) := by decide +kernel
theorem dX2_fillBest_93 : decode cX2_fillBest 93 = .ok (.i2l, 1) := by decide +kernel
theorem dX2_fillBest_94 : decode cX2_fillBest 94 = .ok (.lmul, 1) := by decide +kernel
theorem dX2_fillBest_95 : decode cX2_fillBest 95 = .ok (.iload 7, 2) := by decide +kernel
theorem dX2_fillBest_97 : decode cX2_fillBest 97 = .ok (.i2l, 1) := by decide +kernel
theorem dX2_fillBest_98 : decode cX2_fillBest 98 = .ok (.lmul, 1) := by decide +kernel
theorem dX2_fillBest_99 : decode cX2_fillBest 99 = .ok (.lsub, 1) := by decide +kernel
theorem dX2_fillBest_100 : decode cX2_fillBest 100 = .ok (.lastore, 1) := by decide +kernel
theorem dX2_fillBest_101 : decode cX2_fillBest 101 = .ok (.iinc 7 1, 3) := by decide +kernel
theorem dX2_fillBest_104 : decode cX2_fillBest 104 = .ok (.goto (-56), 3) := by decide +kernel
theorem dX2_fillBest_107 : decode cX2_fillBest 107 = .ok (.iload_n 1, 1) := by decide +kernel
theorem dX2_fillBest_108 : decode cX2_fillBest 108 = .ok (.iload_n 2, 1) := by decide +kernel
theorem dX2_fillBest_109 : decode cX2_fillBest 109 = .ok (.invokestatic 81, 3) := by decide +kernel
theorem dX2_fillBest_112 : decode cX2_fillBest 112 = .ok (.istore 7, 2) := by decide +kernel
theorem dX2_fillBest_114 : decode cX2_fillBest 114 = .ok (.iconst 0, 1) := by decide +kernel
theorem dX2_fillBest_115 : decode cX2_fillBest 115 = .ok (.istore 8, 2) := by decide +kernel
theorem dX2_fillBest_117 : decode cX2_fillBest 117 = .ok (.iload 8, 2) := by decide +kernel
theorem dX2_fillBest_119 : decode cX2_fillBest 119 = .ok (.bipush 40, 2) := by decide +kernel
theorem dX2_fillBest_121 : decode cX2_fillBest 121 = .ok (.if_icmp .gt 117, 3) := by decide +kernel
theorem dX2_fillBest_124 : decode cX2_fillBest 124 = .ok (.iconst 0, 1) := by decide +kernel
theorem dX2_fillBest_125 : decode cX2_fillBest 125 = .ok (.istore 9, 2) := by decide +kernel
theorem dX2_fillBest_127 : decode cX2_fillBest 127 = .ok (.lload 5, 2) := by decide +kernel
theorem dX2_fillBest_129 : decode cX2_fillBest 129 = .ok (.aload_n 0, 1) := by decide +kernel
theorem dX2_fillBest_130 : decode cX2_fillBest 130 = .ok (.getfield 42, 3) := by decide +kernel
theorem dX2_fillBest_133 : decode cX2_fillBest 133 = .ok (.iload 8, 2) := by decide +kernel
theorem dX2_fillBest_135 : decode cX2_fillBest 135 = .ok (.iaload, 1) := by decide +kernel
theorem dX2_fillBest_136 : decode cX2_fillBest 136 = .ok (.i2l, 1) := by decide +kernel
theorem dX2_fillBest_137 : decode cX2_fillBest 137 = .ok (.lmul, 1) := by decide +kernel
theorem dX2_fillBest_138 : decode cX2_fillBest 138 = .ok (.aload_n 0, 1) := by decide +kernel
theorem dX2_fillBest_139 : decode cX2_fillBest 139 = .ok (.getfield 51, 3) := by decide +kernel
theorem dX2_fillBest_142 : decode cX2_fillBest 142 = .ok (.iconst 0, 1) := by decide +kernel
theorem dX2_fillBest_143 : decode cX2_fillBest 143 = .ok (.laload, 1) := by decide +kernel
theorem dX2_fillBest_144 : decode cX2_fillBest 144 = .ok (.ladd, 1) := by decide +kernel
theorem dX2_fillBest_145 : decode cX2_fillBest 145 = .ok (.lstore 10, 2) := by decide +kernel
theorem dX2_fillBest_147 : decode cX2_fillBest 147 = .ok (.iconst 1, 1) := by decide +kernel
theorem dX2_fillBest_148 : decode cX2_fillBest 148 = .ok (.istore 12, 2) := by decide +kernel
theorem dX2_fillBest_150 : decode cX2_fillBest 150 = .ok (.iload 12, 2) := by decide +kernel
theorem dX2_fillBest_152 : decode cX2_fillBest 152 = .ok (.iload 8, 2) := by decide +kernel
theorem dX2_fillBest_154 : decode cX2_fillBest 154 = .ok (.iload 4, 2) := by decide +kernel
theorem dX2_fillBest_156 : decode cX2_fillBest 156 = .ok (.invokestatic 116, 3) := by decide +kernel
theorem dX2_fillBest_159 : decode cX2_fillBest 159 = .ok (.if_icmp .gt 49, 3) := by decide +kernel
theorem dX2_fillBest_162 : decode cX2_fillBest 162 = .ok (.lload 5, 2) := by decide +kernel
theorem dX2_fillBest_164 : decode cX2_fillBest 164 = .ok (.aload_n 0, 1) := by decide +kernel
theorem dX2_fillBest_165 : decode cX2_fillBest 165 = .ok (.getfield 42, 3) := by decide +kernel
theorem dX2_fillBest_168 : decode cX2_fillBest 168 = .ok (.iload 8, 2) := by decide +kernel
theorem dX2_fillBest_170 : decode cX2_fillBest 170 = .ok (.iload 12, 2) := by decide +kernel
theorem dX2_fillBest_172 : decode cX2_fillBest 172 = .ok (.isub, 1) := by decide +kernel
theorem dX2_fillBest_173 : decode cX2_fillBest 173 = .ok (.iaload, 1) := by decide +kernel
theorem dX2_fillBest_174 : decode cX2_fillBest 174 = .ok (.i2l, 1) := by decide +kernel
theorem dX2_fillBest_175 : decode cX2_fillBest 175 = .ok (.lmul, 1) := by decide +kernel
theorem dX2_fillBest_176 : decode cX2_fillBest 176 = .ok (.aload_n 0, 1) := by decide +kernel
theorem dX2_fillBest_177 : decode cX2_fillBest 177 = .ok (.getfield 51, 3) := by decide +kernel
theorem dX2_fillBest_180 : decode cX2_fillBest 180 = .ok (.iload 12, 2) := by decide +kernel
theorem dX2_fillBest_182 : decode cX2_fillBest 182 = .ok (.laload, 1) := by decide +kernel
theorem dX2_fillBest_183 : decode cX2_fillBest 183 = .ok (.ladd, 1) := by decide +kernel
theorem dX2_fillBest_184 : decode cX2_fillBest 184 = .ok (.lstore 13, 2) := by decide +kernel
theorem dX2_fillBest_186 : decode cX2_fillBest 186 = .ok (.lload 13, 2) := by decide +kernel
theorem dX2_fillBest_188 : decode cX2_fillBest 188 = .ok (.lload 10, 2) := by decide +kernel
theorem dX2_fillBest_190 : decode cX2_fillBest 190 = .ok (.lcmp, 1) := by decide +kernel
theorem dX2_fillBest_191 : decode cX2_fillBest 191 = .ok (.ifCond .le 11, 3) := by decide +kernel
theorem dX2_fillBest_194 : decode cX2_fillBest 194 = .ok (.lload 13, 2) := by decide +kernel
theorem dX2_fillBest_196 : decode cX2_fillBest 196 = .ok (.lstore 10, 2) := by decide +kernel
theorem dX2_fillBest_198 : decode cX2_fillBest 198 = .ok (.iload 12, 2) := by decide +kernel
theorem dX2_fillBest_200 : decode cX2_fillBest 200 = .ok (.istore 9, 2) := by decide +kernel
theorem dX2_fillBest_202 : decode cX2_fillBest 202 = .ok (.iinc 12 1, 3) := by decide +kernel
theorem dX2_fillBest_205 : decode cX2_fillBest 205 = .ok (.goto (-55), 3) := by decide +kernel
theorem dX2_fillBest_208 : decode cX2_fillBest 208 = .ok (.aload_n 0, 1) := by decide +kernel
theorem dX2_fillBest_209 : decode cX2_fillBest 209 = .ok (.getfield 28, 3) := by decide +kernel
theorem dX2_fillBest_212 : decode cX2_fillBest 212 = .ok (.iload 7, 2) := by decide +kernel
theorem dX2_fillBest_214 : decode cX2_fillBest 214 = .ok (.iload 8, 2) := by decide +kernel
theorem dX2_fillBest_216 : decode cX2_fillBest 216 = .ok (.iadd, 1) := by decide +kernel
theorem dX2_fillBest_217 : decode cX2_fillBest 217 = .ok (.iload 9, 2) := by decide +kernel
theorem dX2_fillBest_219 : decode cX2_fillBest 219 = .ok (.iastore, 1) := by decide +kernel
theorem dX2_fillBest_220 : decode cX2_fillBest 220 = .ok (.aload_n 0, 1) := by decide +kernel
theorem dX2_fillBest_221 : decode cX2_fillBest 221 = .ok (.getfield 32, 3) := by decide +kernel
theorem dX2_fillBest_224 : decode cX2_fillBest 224 = .ok (.iload 7, 2) := by decide +kernel
theorem dX2_fillBest_226 : decode cX2_fillBest 226 = .ok (.iload 8, 2) := by decide +kernel
theorem dX2_fillBest_228 : decode cX2_fillBest 228 = .ok (.iadd, 1) := by decide +kernel
theorem dX2_fillBest_229 : decode cX2_fillBest 229 = .ok (.lload 10, 2) := by decide +kernel
theorem dX2_fillBest_231 : decode cX2_fillBest 231 = .ok (.lastore, 1) := by decide +kernel
theorem dX2_fillBest_232 : decode cX2_fillBest 232 = .ok (.iinc 8 1, 3) := by decide +kernel
theorem dX2_fillBest_235 : decode cX2_fillBest 235 = .ok (.goto (-118), 3) := by decide +kernel
theorem dX2_fillBest_238 : decode cX2_fillBest 238 = .ok (.return_, 1) := by decide +kernel
theorem dX2_sumThen_0 : decode cX2_sumThen 0 = .ok (.iload_n 2, 1) := by decide +kernel
theorem dX2_sumThen_1 : decode cX2_sumThen 1 = .ok (.iload_n 3, 1) := by decide +kernel
theorem dX2_sumThen_2 : decode cX2_sumThen 2 = .ok (.invokestatic 81, 3) := by decide +kernel
theorem dX2_sumThen_5 : decode cX2_sumThen 5 = .ok (.istore 5, 2) := by decide +kernel
theorem dX2_sumThen_7 : decode cX2_sumThen 7 = .ok (.lconst 0, 1) := by decide +kernel
theorem dX2_sumThen_8 : decode cX2_sumThen 8 = .ok (.lstore 6, 2) := by decide +kernel
theorem dX2_sumThen_10 : decode cX2_sumThen 10 = .ok (.iconst 0, 1) := by decide +kernel
theorem dX2_sumThen_11 : decode cX2_sumThen 11 = .ok (.istore 8, 2) := by decide +kernel
theorem dX2_sumThen_13 : decode cX2_sumThen 13 = .ok (.iload 8, 2) := by decide +kernel
theorem dX2_sumThen_15 : decode cX2_sumThen 15 = .ok (.aload_n 0, 1) := by decide +kernel
theorem dX2_sumThen_16 : decode cX2_sumThen 16 = .ok (.getfield 9, 3) := by decide +kernel
theorem dX2_sumThen_19 : decode cX2_sumThen 19 = .ok (.getfield 121, 3) := by decide +kernel
theorem dX2_sumThen_22 : decode cX2_sumThen 22 = .ok (.iload_n 3, 1) := by decide +kernel
theorem dX2_sumThen_23 : decode cX2_sumThen 23 = .ok (.iaload, 1) := by decide +kernel
theorem dX2_sumThen_24 : decode cX2_sumThen 24 = .ok (.if_icmp .ge 52, 3) := by decide +kernel
theorem dX2_sumThen_27 : decode cX2_sumThen 27 = .ok (.iload_n 3, 1) := by decide +kernel
theorem dX2_sumThen_28 : decode cX2_sumThen 28 = .ok (.iconst 4, 1) := by decide +kernel
theorem dX2_sumThen_29 : decode cX2_sumThen 29 = .ok (.imul, 1) := by decide +kernel
theorem dX2_sumThen_30 : decode cX2_sumThen 30 = .ok (.iload 8, 2) := by decide +kernel
theorem dX2_sumThen_32 : decode cX2_sumThen 32 = .ok (.iadd, 1) := by decide +kernel
theorem dX2_sumThen_33 : decode cX2_sumThen 33 = .ok (.istore 9, 2) := by decide +kernel
theorem dX2_sumThen_35 : decode cX2_sumThen 35 = .ok (.lload 6, 2) := by decide +kernel
theorem dX2_sumThen_37 : decode cX2_sumThen 37 = .ok (.aload_n 0, 1) := by decide +kernel
theorem dX2_sumThen_38 : decode cX2_sumThen 38 = .ok (.getfield 9, 3) := by decide +kernel
theorem dX2_sumThen_41 : decode cX2_sumThen 41 = .ok (.getfield 134, 3) := by decide +kernel
theorem dX2_sumThen_44 : decode cX2_sumThen 44 = .ok (.iload 9, 2) := by decide +kernel
theorem dX2_sumThen_46 : decode cX2_sumThen 46 = .ok (.iaload, 1) := by decide +kernel
theorem dX2_sumThen_47 : decode cX2_sumThen 47 = .ok (.i2l, 1) := by decide +kernel
theorem dX2_sumThen_48 : decode cX2_sumThen 48 = .ok (.aload_n 1, 1) := by decide +kernel
theorem dX2_sumThen_49 : decode cX2_sumThen 49 = .ok (.iload 5, 2) := by decide +kernel
theorem dX2_sumThen_51 : decode cX2_sumThen 51 = .ok (.iload 4, 2) := by decide +kernel
theorem dX2_sumThen_53 : decode cX2_sumThen 53 = .ok (.iadd, 1) := by decide +kernel
theorem dX2_sumThen_54 : decode cX2_sumThen 54 = .ok (.aload_n 0, 1) := by decide +kernel
theorem dX2_sumThen_55 : decode cX2_sumThen 55 = .ok (.getfield 9, 3) := by decide +kernel
theorem dX2_sumThen_58 : decode cX2_sumThen 58 = .ok (.getfield 124, 3) := by decide +kernel
theorem dX2_sumThen_61 : decode cX2_sumThen 61 = .ok (.iload 9, 2) := by decide +kernel
theorem dX2_sumThen_63 : decode cX2_sumThen 63 = .ok (.iaload, 1) := by decide +kernel
theorem dX2_sumThen_64 : decode cX2_sumThen 64 = .ok (.iadd, 1) := by decide +kernel
theorem dX2_sumThen_65 : decode cX2_sumThen 65 = .ok (.laload, 1) := by decide +kernel
theorem dX2_sumThen_66 : decode cX2_sumThen 66 = .ok (.lmul, 1) := by decide +kernel
theorem dX2_sumThen_67 : decode cX2_sumThen 67 = .ok (.ladd, 1) := by decide +kernel
theorem dX2_sumThen_68 : decode cX2_sumThen 68 = .ok (.lstore 6, 2) := by decide +kernel
theorem dX2_sumThen_70 : decode cX2_sumThen 70 = .ok (.iinc 8 1, 3) := by decide +kernel
theorem dX2_sumThen_73 : decode cX2_sumThen 73 = .ok (.goto (-60), 3) := by decide +kernel
theorem dX2_sumThen_76 : decode cX2_sumThen 76 = .ok (.lload 6, 2) := by decide +kernel
theorem dX2_sumThen_78 : decode cX2_sumThen 78 = .ok (.lreturn, 1) := by decide +kernel
theorem dX2_fillRule_0 : decode cX2_fillRule 0 = .ok (.iload_n 1, 1) := by decide +kernel
theorem dX2_fillRule_1 : decode cX2_fillRule 1 = .ok (.iload_n 2, 1) := by decide +kernel
theorem dX2_fillRule_2 : decode cX2_fillRule 2 = .ok (.invokestatic 81, 3) := by decide +kernel
theorem dX2_fillRule_5 : decode cX2_fillRule 5 = .ok (.istore_n 3, 1) := by decide +kernel
theorem dX2_fillRule_6 : decode cX2_fillRule 6 = .ok (.iconst 0, 1) := by decide +kernel
theorem dX2_fillRule_7 : decode cX2_fillRule 7 = .ok (.istore 4, 2) := by decide +kernel
theorem dX2_fillRule_9 : decode cX2_fillRule 9 = .ok (.iload 4, 2) := by decide +kernel
theorem dX2_fillRule_11 : decode cX2_fillRule 11 = .ok (.bipush 40, 2) := by decide +kernel
theorem dX2_fillRule_13 : decode cX2_fillRule 13 = .ok (.if_icmp .gt 88, 3) := by decide +kernel
theorem dX2_fillRule_16 : decode cX2_fillRule 16 = .ok (.iload 4, 2) := by decide +kernel
theorem dX2_fillRule_18 : decode cX2_fillRule 18 = .ok (.aload_n 0, 1) := by decide +kernel
theorem dX2_fillRule_19 : decode cX2_fillRule 19 = .ok (.getfield 9, 3) := by decide +kernel
theorem dX2_fillRule_22 : decode cX2_fillRule 22 = .ok (.invokevirtual 112, 3) := by decide +kernel
theorem dX2_fillRule_25 : decode cX2_fillRule 25 = .ok (.invokestatic 116, 3) := by decide +kernel
theorem dX2_fillRule_28 : decode cX2_fillRule 28 = .ok (.istore 5, 2) := by decide +kernel
theorem dX2_fillRule_30 : decode cX2_fillRule 30 = .ok (.iconst 0, 1) := by decide +kernel
theorem dX2_fillRule_31 : decode cX2_fillRule 31 = .ok (.istore 6, 2) := by decide +kernel
theorem dX2_fillRule_33 : decode cX2_fillRule 33 = .ok (.iload_n 1, 1) := by decide +kernel
theorem dX2_fillRule_34 : decode cX2_fillRule 34 = .ok (.iconst 1, 1) := by decide +kernel
theorem dX2_fillRule_35 : decode cX2_fillRule 35 = .ok (.if_icmp .le 40, 3) := by decide +kernel
theorem dX2_fillRule_38 : decode cX2_fillRule 38 = .ok (.aload_n 0, 1) := by decide +kernel
theorem dX2_fillRule_39 : decode cX2_fillRule 39 = .ok (.getfield 9, 3) := by decide +kernel
theorem dX2_fillRule_42 : decode cX2_fillRule 42 = .ok (.getfield 151, 3) := by decide +kernel
theorem dX2_fillRule_45 : decode cX2_fillRule 45 = .ok (.ifnull 30, 3) := by decide +kernel
theorem dX2_fillRule_48 : decode cX2_fillRule 48 = .ok (.aload_n 0, 1) := by decide +kernel
theorem dX2_fillRule_49 : decode cX2_fillRule 49 = .ok (.getfield 9, 3) := by decide +kernel
theorem dX2_fillRule_52 : decode cX2_fillRule 52 = .ok (.getfield 151, 3) := by decide +kernel
theorem dX2_fillRule_55 : decode cX2_fillRule 55 = .ok (.iload 4, 2) := by decide +kernel
theorem dX2_fillRule_57 : decode cX2_fillRule 57 = .ok (.iload_n 2, 1) := by decide +kernel
theorem dX2_fillRule_58 : decode cX2_fillRule 58 = .ok (.iload_n 1, 1) := by decide +kernel
theorem dX2_fillRule_59 : decode cX2_fillRule 59 = .ok (.aload_n 0, 1) := by decide +kernel
theorem dX2_fillRule_60 : decode cX2_fillRule 60 = .ok (.getfield 9, 3) := by decide +kernel
theorem dX2_fillRule_63 : decode cX2_fillRule 63 = .ok (.iload 4, 2) := by decide +kernel
theorem dX2_fillRule_65 : decode cX2_fillRule 65 = .ok (.invokevirtual 93, 3) := by decide +kernel
theorem dX2_fillRule_68 : decode cX2_fillRule 68 = .ok (.iload 5, 2) := by decide +kernel
theorem dX2_fillRule_70 : decode cX2_fillRule 70 = .ok (.invokevirtual 155, 3) := by decide +kernel
theorem dX2_fillRule_73 : decode cX2_fillRule 73 = .ok (.istore 6, 2) := by decide +kernel
theorem dX2_fillRule_75 : decode cX2_fillRule 75 = .ok (.aload_n 0, 1) := by decide +kernel
theorem dX2_fillRule_76 : decode cX2_fillRule 76 = .ok (.getfield 28, 3) := by decide +kernel
theorem dX2_fillRule_79 : decode cX2_fillRule 79 = .ok (.iload_n 3, 1) := by decide +kernel
theorem dX2_fillRule_80 : decode cX2_fillRule 80 = .ok (.iload 4, 2) := by decide +kernel
theorem dX2_fillRule_82 : decode cX2_fillRule 82 = .ok (.iadd, 1) := by decide +kernel
theorem dX2_fillRule_83 : decode cX2_fillRule 83 = .ok (.iconst 0, 1) := by decide +kernel
theorem dX2_fillRule_84 : decode cX2_fillRule 84 = .ok (.iload 6, 2) := by decide +kernel
theorem dX2_fillRule_86 : decode cX2_fillRule 86 = .ok (.iload 5, 2) := by decide +kernel
theorem dX2_fillRule_88 : decode cX2_fillRule 88 = .ok (.invokestatic 116, 3) := by decide +kernel
theorem dX2_fillRule_91 : decode cX2_fillRule 91 = .ok (.invokestatic 161, 3) := by decide +kernel
theorem dX2_fillRule_94 : decode cX2_fillRule 94 = .ok (.iastore, 1) := by decide +kernel
theorem dX2_fillRule_95 : decode cX2_fillRule 95 = .ok (.iinc 4 1, 3) := by decide +kernel
theorem dX2_fillRule_98 : decode cX2_fillRule 98 = .ok (.goto (-89), 3) := by decide +kernel
theorem dX2_fillRule_101 : decode cX2_fillRule 101 = .ok (.return_, 1) := by decide +kernel
theorem dX2_fillWelfareTo_0 : decode cX2_fillWelfareTo 0 = .ok (.aload_n 0, 1) := by decide +kernel
theorem dX2_fillWelfareTo_1 : decode cX2_fillWelfareTo 1 = .ok (.getfield 99, 3) := by decide +kernel
theorem dX2_fillWelfareTo_4 : decode cX2_fillWelfareTo 4 = .ok (.ifnonnull 14, 3) := by decide +kernel
theorem dX2_fillWelfareTo_7 : decode cX2_fillWelfareTo 7 = .ok (.aload_n 0, 1) := by decide +kernel
theorem dX2_fillWelfareTo_8 : decode cX2_fillWelfareTo 8 = .ok (.aload_n 0, 1) := by decide +kernel
theorem dX2_fillWelfareTo_9 : decode cX2_fillWelfareTo 9 = .ok (.getfield 28, 3) := by decide +kernel
theorem dX2_fillWelfareTo_12 : decode cX2_fillWelfareTo 12 = .ok (.arraylength, 1) := by decide +kernel
theorem dX2_fillWelfareTo_13 : decode cX2_fillWelfareTo 13 = .ok (.newarray .long, 2) := by decide +kernel
theorem dX2_fillWelfareTo_15 : decode cX2_fillWelfareTo 15 = .ok (.putfield 99, 3) := by decide +kernel
theorem dX2_fillWelfareTo_18 : decode cX2_fillWelfareTo 18 = .ok (.aload_n 0, 1) := by decide +kernel
theorem dX2_fillWelfareTo_19 : decode cX2_fillWelfareTo 19 = .ok (.iload_n 1, 1) := by decide +kernel
theorem dX2_fillWelfareTo_20 : decode cX2_fillWelfareTo 20 = .ok (.iload_n 2, 1) := by decide +kernel
theorem dX2_fillWelfareTo_21 : decode cX2_fillWelfareTo 21 = .ok (.invokevirtual 63, 3) := by decide +kernel
theorem dX2_fillWelfareTo_24 : decode cX2_fillWelfareTo 24 = .ok (.istore_n 3, 1) := by decide +kernel
theorem dX2_fillWelfareTo_25 : decode cX2_fillWelfareTo 25 = .ok (.iload_n 3, 1) := by decide +kernel
theorem dX2_fillWelfareTo_26 : decode cX2_fillWelfareTo 26 = .ok (.istore 4, 2) := by decide +kernel
theorem dX2_fillWelfareTo_28 : decode cX2_fillWelfareTo 28 = .ok (.iconst 1, 1) := by decide +kernel
theorem dX2_fillWelfareTo_29 : decode cX2_fillWelfareTo 29 = .ok (.istore 5, 2) := by decide +kernel
theorem dX2_fillWelfareTo_31 : decode cX2_fillWelfareTo 31 = .ok (.iload 5, 2) := by decide +kernel
theorem dX2_fillWelfareTo_33 : decode cX2_fillWelfareTo 33 = .ok (.iload_n 1, 1) := by decide +kernel
theorem dX2_fillWelfareTo_34 : decode cX2_fillWelfareTo 34 = .ok (.if_icmp .gt 47, 3) := by decide +kernel
theorem dX2_fillWelfareTo_37 : decode cX2_fillWelfareTo 37 = .ok (.iload 5, 2) := by decide +kernel
theorem dX2_fillWelfareTo_39 : decode cX2_fillWelfareTo 39 = .ok (.aload_n 0, 1) := by decide +kernel
theorem dX2_fillWelfareTo_40 : decode cX2_fillWelfareTo 40 = .ok (.getfield 48, 3) := by decide +kernel
theorem dX2_fillWelfareTo_43 : decode cX2_fillWelfareTo 43 = .ok (.iload_n 3, 1) := by decide +kernel
theorem dX2_fillWelfareTo_44 : decode cX2_fillWelfareTo 44 = .ok (.iaload, 1) := by decide +kernel
theorem dX2_fillWelfareTo_45 : decode cX2_fillWelfareTo 45 = .ok (.if_icmp .le 19, 3) := by decide +kernel
theorem dX2_fillWelfareTo_48 : decode cX2_fillWelfareTo 48 = .ok (.aload_n 0, 1) := by decide +kernel
theorem dX2_fillWelfareTo_49 : decode cX2_fillWelfareTo 49 = .ok (.iload 5, 2) := by decide +kernel
theorem dX2_fillWelfareTo_51 : decode cX2_fillWelfareTo 51 = .ok (.iload 4, 2) := by decide +kernel
theorem dX2_fillWelfareTo_53 : decode cX2_fillWelfareTo 53 = .ok (.invokevirtual 163, 3) := by decide +kernel
theorem dX2_fillWelfareTo_56 : decode cX2_fillWelfareTo 56 = .ok (.aload_n 0, 1) := by decide +kernel
theorem dX2_fillWelfareTo_57 : decode cX2_fillWelfareTo 57 = .ok (.getfield 48, 3) := by decide +kernel
theorem dX2_fillWelfareTo_60 : decode cX2_fillWelfareTo 60 = .ok (.iload_n 3, 1) := by decide +kernel
theorem dX2_fillWelfareTo_61 : decode cX2_fillWelfareTo 61 = .ok (.iload 5, 2) := by decide +kernel
theorem dX2_fillWelfareTo_63 : decode cX2_fillWelfareTo 63 = .ok (.iastore, 1) := by decide +kernel
theorem dX2_fillWelfareTo_64 : decode cX2_fillWelfareTo 64 = .ok (.aload_n 0, 1) := by decide +kernel
theorem dX2_fillWelfareTo_65 : decode cX2_fillWelfareTo 65 = .ok (.getfield 9, 3) := by decide +kernel
theorem dX2_fillWelfareTo_68 : decode cX2_fillWelfareTo 68 = .ok (.iload 4, 2) := by decide +kernel
theorem dX2_fillWelfareTo_70 : decode cX2_fillWelfareTo 70 = .ok (.invokevirtual 77, 3) := by decide +kernel
theorem dX2_fillWelfareTo_73 : decode cX2_fillWelfareTo 73 = .ok (.istore 4, 2) := by decide +kernel
theorem dX2_fillWelfareTo_75 : decode cX2_fillWelfareTo 75 = .ok (.iinc 5 1, 3) := by decide +kernel
theorem dX2_fillWelfareTo_78 : decode cX2_fillWelfareTo 78 = .ok (.goto (-47), 3) := by decide +kernel
theorem dX2_fillWelfareTo_81 : decode cX2_fillWelfareTo 81 = .ok (.return_, 1) := by decide +kernel
theorem dX2_fillWelfare_0 : decode cX2_fillWelfare 0 = .ok (.aload_n 0, 1) := by decide +kernel
theorem dX2_fillWelfare_1 : decode cX2_fillWelfare 1 = .ok (.getfield 9, 3) := by decide +kernel
theorem dX2_fillWelfare_4 : decode cX2_fillWelfare 4 = .ok (.iload_n 2, 1) := by decide +kernel
theorem dX2_fillWelfare_5 : decode cX2_fillWelfare 5 = .ok (.invokevirtual 105, 3) := by decide +kernel
theorem dX2_fillWelfare_8 : decode cX2_fillWelfare 8 = .ok (.istore_n 3, 1) := by decide +kernel
theorem dX2_fillWelfare_9 : decode cX2_fillWelfare 9 = .ok (.iload_n 1, 1) := by decide +kernel
theorem dX2_fillWelfare_10 : decode cX2_fillWelfare 10 = .ok (.iload_n 2, 1) := by decide +kernel
theorem dX2_fillWelfare_11 : decode cX2_fillWelfare 11 = .ok (.invokestatic 81, 3) := by decide +kernel
theorem dX2_fillWelfare_14 : decode cX2_fillWelfare 14 = .ok (.istore 4, 2) := by decide +kernel
theorem dX2_fillWelfare_16 : decode cX2_fillWelfare 16 = .ok (.aload_n 0, 1) := by decide +kernel
theorem dX2_fillWelfare_17 : decode cX2_fillWelfare 17 = .ok (.getfield 9, 3) := by decide +kernel
theorem dX2_fillWelfare_20 : decode cX2_fillWelfare 20 = .ok (.iload_n 1, 1) := by decide +kernel
theorem dX2_fillWelfare_21 : decode cX2_fillWelfare 21 = .ok (.iload_n 2, 1) := by decide +kernel
theorem dX2_fillWelfare_22 : decode cX2_fillWelfare 22 = .ok (.invokevirtual 108, 3) := by decide +kernel
theorem dX2_fillWelfare_25 : decode cX2_fillWelfare 25 = .ok (.lstore 5, 2) := by decide +kernel
theorem dX2_fillWelfare_27 : decode cX2_fillWelfare 27 = .ok (.iconst 0, 1) := by decide +kernel
theorem dX2_fillWelfare_28 : decode cX2_fillWelfare 28 = .ok (.istore 7, 2) := by decide +kernel
theorem dX2_fillWelfare_30 : decode cX2_fillWelfare 30 = .ok (.iload 7, 2) := by decide +kernel
theorem dX2_fillWelfare_32 : decode cX2_fillWelfare 32 = .ok (.bipush 40, 2) := by decide +kernel
theorem dX2_fillWelfare_34 : decode cX2_fillWelfare 34 = .ok (.if_icmp .gt 95, 3) := by decide +kernel
theorem dX2_fillWelfare_37 : decode cX2_fillWelfare 37 = .ok (.aload_n 0, 1) := by decide +kernel
theorem dX2_fillWelfare_38 : decode cX2_fillWelfare 38 = .ok (.getfield 28, 3) := by decide +kernel
theorem dX2_fillWelfare_41 : decode cX2_fillWelfare 41 = .ok (.iload 4, 2) := by decide +kernel
theorem dX2_fillWelfare_43 : decode cX2_fillWelfare 43 = .ok (.iload 7, 2) := by decide +kernel
theorem dX2_fillWelfare_45 : decode cX2_fillWelfare 45 = .ok (.iadd, 1) := by decide +kernel
theorem dX2_fillWelfare_46 : decode cX2_fillWelfare 46 = .ok (.iaload, 1) := by decide +kernel
theorem dX2_fillWelfare_47 : decode cX2_fillWelfare 47 = .ok (.istore 8, 2) := by decide +kernel
theorem dX2_fillWelfare_49 : decode cX2_fillWelfare 49 = .ok (.lload 5, 2) := by decide +kernel
theorem dX2_fillWelfare_51 : decode cX2_fillWelfare 51 = .ok (.aload_n 0, 1) := by decide +kernel
theorem dX2_fillWelfare_52 : decode cX2_fillWelfare 52 = .ok (.getfield 9, 3) := by decide +kernel
theorem dX2_fillWelfare_55 : decode cX2_fillWelfare 55 = .ok (.aload_n 0, 1) := by decide +kernel
theorem dX2_fillWelfare_56 : decode cX2_fillWelfare 56 = .ok (.iload 7, 2) := by decide +kernel
theorem dX2_fillWelfare_58 : decode cX2_fillWelfare 58 = .ok (.iload 8, 2) := by decide +kernel
theorem dX2_fillWelfare_60 : decode cX2_fillWelfare 60 = .ok (.isub, 1) := by decide +kernel
theorem dX2_fillWelfare_61 : decode cX2_fillWelfare 61 = .ok (.invokevirtual 166, 3) := by decide +kernel
theorem dX2_fillWelfare_64 : decode cX2_fillWelfare 64 = .ok (.invokevirtual 169, 3) := by decide +kernel
theorem dX2_fillWelfare_67 : decode cX2_fillWelfare 67 = .ok (.aload_n 0, 1) := by decide +kernel
theorem dX2_fillWelfare_68 : decode cX2_fillWelfare 68 = .ok (.getfield 24, 3) := by decide +kernel
theorem dX2_fillWelfare_71 : decode cX2_fillWelfare 71 = .ok (.iload 8, 2) := by decide +kernel
theorem dX2_fillWelfare_73 : decode cX2_fillWelfare 73 = .ok (.imul, 1) := by decide +kernel
theorem dX2_fillWelfare_74 : decode cX2_fillWelfare 74 = .ok (.isub, 1) := by decide +kernel
theorem dX2_fillWelfare_75 : decode cX2_fillWelfare 75 = .ok (.i2l, 1) := by decide +kernel
theorem dX2_fillWelfare_76 : decode cX2_fillWelfare 76 = .ok (.lmul, 1) := by decide +kernel
theorem dX2_fillWelfare_77 : decode cX2_fillWelfare 77 = .ok (.lstore 9, 2) := by decide +kernel
theorem dX2_fillWelfare_79 : decode cX2_fillWelfare 79 = .ok (.aload_n 0, 1) := by decide +kernel
theorem dX2_fillWelfare_80 : decode cX2_fillWelfare 80 = .ok (.getfield 99, 3) := by decide +kernel
theorem dX2_fillWelfare_83 : decode cX2_fillWelfare 83 = .ok (.iload 4, 2) := by decide +kernel
theorem dX2_fillWelfare_85 : decode cX2_fillWelfare 85 = .ok (.iload 7, 2) := by decide +kernel
theorem dX2_fillWelfare_87 : decode cX2_fillWelfare 87 = .ok (.iadd, 1) := by decide +kernel
theorem dX2_fillWelfare_88 : decode cX2_fillWelfare 88 = .ok (.iload_n 1, 1) := by decide +kernel
theorem dX2_fillWelfare_89 : decode cX2_fillWelfare 89 = .ok (.iconst 1, 1) := by decide +kernel
theorem dX2_fillWelfare_90 : decode cX2_fillWelfare 90 = .ok (.if_icmp .le 30, 3) := by decide +kernel
theorem dX2_fillWelfare_93 : decode cX2_fillWelfare 93 = .ok (.lload 9, 2) := by decide +kernel
theorem dX2_fillWelfare_95 : decode cX2_fillWelfare 95 = .ok (.aload_n 0, 1) := by decide +kernel
theorem dX2_fillWelfare_96 : decode cX2_fillWelfare 96 = .ok (.aload_n 0, 1) := by decide +kernel
theorem dX2_fillWelfare_97 : decode cX2_fillWelfare 97 = .ok (.getfield 99, 3) := by decide +kernel
theorem dX2_fillWelfare_100 : decode cX2_fillWelfare 100 = .ok (.iload_n 1, 1) := by decide +kernel
theorem dX2_fillWelfare_101 : decode cX2_fillWelfare 101 = .ok (.iconst 1, 1) := by decide +kernel
theorem dX2_fillWelfare_102 : decode cX2_fillWelfare 102 = .ok (.isub, 1) := by decide +kernel
theorem dX2_fillWelfare_103 : decode cX2_fillWelfare 103 = .ok (.iload_n 3, 1) := by decide +kernel
theorem dX2_fillWelfare_104 : decode cX2_fillWelfare 104 = .ok (.aload_n 0, 1) := by decide +kernel
theorem dX2_fillWelfare_105 : decode cX2_fillWelfare 105 = .ok (.getfield 9, 3) := by decide +kernel
theorem dX2_fillWelfare_108 : decode cX2_fillWelfare 108 = .ok (.iload 8, 2) := by decide +kernel
theorem dX2_fillWelfare_110 : decode cX2_fillWelfare 110 = .ok (.invokevirtual 127, 3) := by decide +kernel
theorem dX2_fillWelfare_113 : decode cX2_fillWelfare 113 = .ok (.invokevirtual 147, 3) := by decide +kernel
theorem dX2_fillWelfare_116 : decode cX2_fillWelfare 116 = .ok (.ladd, 1) := by decide +kernel
theorem dX2_fillWelfare_117 : decode cX2_fillWelfare 117 = .ok (.goto 5, 3) := by decide +kernel
theorem dX2_fillWelfare_120 : decode cX2_fillWelfare 120 = .ok (.lload 9, 2) := by decide +kernel
theorem dX2_fillWelfare_122 : decode cX2_fillWelfare 122 = .ok (.lastore, 1) := by decide +kernel
theorem dX2_fillWelfare_123 : decode cX2_fillWelfare 123 = .ok (.iinc 7 1, 3) := by decide +kernel
theorem dX2_fillWelfare_126 : decode cX2_fillWelfare 126 = .ok (.goto (-96), 3) := by decide +kernel
theorem dX2_fillWelfare_129 : decode cX2_fillWelfare 129 = .ok (.return_, 1) := by decide +kernel
