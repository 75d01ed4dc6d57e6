/-! decode -/
theorem dX11_in_0 : decode cX11_in 0 = .ok (.iload_n 0, 1) := by decide +kernel
theorem dX11_in_1 : decode cX11_in 1 = .ok (.iload_n 1, 1) := by decide +kernel
theorem dX11_in_2 : decode cX11_in 2 = .ok (.if_icmp .lt 12, 3) := by decide +kernel
theorem dX11_in_5 : decode cX11_in 5 = .ok (.iload_n 0, 1) := by decide +kernel
theorem dX11_in_6 : decode cX11_in 6 = .ok (.iload_n 2, 1) := by decide +kernel
theorem dX11_in_7 : decode cX11_in 7 = .ok (.if_icmp .gt 7, 3) := by decide +kernel
theorem dX11_in_10 : decode cX11_in 10 = .ok (.iconst 1, 1) := by decide +kernel
theorem dX11_in_11 : decode cX11_in 11 = .ok (.goto 4, 3) := by decide +kernel
theorem dX11_in_14 : decode cX11_in 14 = .ok (.iconst 0, 1) := by decide +kernel
theorem dX11_in_15 : decode cX11_in 15 = .ok (.ireturn, 1) := by decide +kernel
theorem dX11_init_0 : decode cX11_init 0 = .ok (.aload_n 0, 1) := by decide +kernel
theorem dX11_init_1 : decode cX11_init 1 = .ok (.invokespecial 3, 3) := by decide +kernel
theorem dX11_init_4 : decode cX11_init 4 = .ok (.aload_n 0, 1) := by decide +kernel
theorem dX11_init_5 : decode cX11_init 5 = .ok (.sipush 240, 3) := by decide +kernel
theorem dX11_init_8 : decode cX11_init 8 = .ok (.newarray .int, 2) := by decide +kernel
theorem dX11_init_10 : decode cX11_init 10 = .ok (.putfield 9, 3) := by decide +kernel
theorem dX11_init_13 : decode cX11_init 13 = .ok (.aload_n 0, 1) := by decide +kernel
theorem dX11_init_14 : decode cX11_init 14 = .ok (.bipush 7, 2) := by decide +kernel
theorem dX11_init_16 : decode cX11_init 16 = .ok (.newarray .int, 2) := by decide +kernel
theorem dX11_init_18 : decode cX11_init 18 = .ok (.putfield 13, 3) := by decide +kernel
theorem dX11_init_21 : decode cX11_init 21 = .ok (.aload_n 0, 1) := by decide +kernel
theorem dX11_init_22 : decode cX11_init 22 = .ok (.sipush 1260, 3) := by decide +kernel
theorem dX11_init_25 : decode cX11_init 25 = .ok (.newarray .int, 2) := by decide +kernel
theorem dX11_init_27 : decode cX11_init 27 = .ok (.putfield 16, 3) := by decide +kernel
theorem dX11_init_30 : decode cX11_init 30 = .ok (.aload_n 0, 1) := by decide +kernel
theorem dX11_init_31 : decode cX11_init 31 = .ok (.bipush 7, 2) := by decide +kernel
theorem dX11_init_33 : decode cX11_init 33 = .ok (.newarray .int, 2) := by decide +kernel
theorem dX11_init_35 : decode cX11_init 35 = .ok (.putfield 19, 3) := by decide +kernel
theorem dX11_init_38 : decode cX11_init 38 = .ok (.aload_n 0, 1) := by decide +kernel
theorem dX11_init_39 : decode cX11_init 39 = .ok (.bipush 7, 2) := by decide +kernel
theorem dX11_init_41 : decode cX11_init 41 = .ok (.newarray .int, 2) := by decide +kernel
theorem dX11_init_43 : decode cX11_init 43 = .ok (.putfield 22, 3) := by decide +kernel
theorem dX11_init_46 : decode cX11_init 46 = .ok (.aload_n 0, 1) := by decide +kernel
theorem dX11_init_47 : decode cX11_init 47 = .ok (.bipush 112, 2) := by decide +kernel
theorem dX11_init_49 : decode cX11_init 49 = .ok (.newarray .int, 2) := by decide +kernel
theorem dX11_init_51 : decode cX11_init 51 = .ok (.putfield 25, 3) := by decide +kernel
theorem dX11_init_54 : decode cX11_init 54 = .ok (.aload_n 0, 1) := by decide +kernel
theorem dX11_init_55 : decode cX11_init 55 = .ok (.bipush 112, 2) := by decide +kernel
theorem dX11_init_57 : decode cX11_init 57 = .ok (.newarray .int, 2) := by decide +kernel
theorem dX11_init_59 : decode cX11_init 59 = .ok (.putfield 28, 3) := by decide +kernel
theorem dX11_init_62 : decode cX11_init 62 = .ok (.aload_n 0, 1) := by decide +kernel
theorem dX11_init_63 : decode cX11_init 63 = .ok (.bipush 28, 2) := by decide +kernel
theorem dX11_init_65 : decode cX11_init 65 = .ok (.newarray .int, 2) := by decide +kernel
theorem dX11_init_67 : decode cX11_init 67 = .ok (.putfield 31, 3) := by decide +kernel
theorem dX11_init_70 : decode cX11_init 70 = .ok (.aload_n 0, 1) := by decide +kernel
theorem dX11_init_71 : decode cX11_init 71 = .ok (.bipush 7, 2) := by decide +kernel
theorem dX11_init_73 : decode cX11_init 73 = .ok (.newarray .int, 2) := by decide +kernel
theorem dX11_init_75 : decode cX11_init 75 = .ok (.putfield 34, 3) := by decide +kernel
theorem dX11_init_78 : decode cX11_init 78 = .ok (.aload_n 0, 1) := by decide +kernel
theorem dX11_init_79 : decode cX11_init 79 = .ok (.bipush 7, 2) := by decide +kernel
theorem dX11_init_81 : decode cX11_init 81 = .ok (.newarray .int, 2) := by decide +kernel
theorem dX11_init_83 : decode cX11_init 83 = .ok (.putfield 37, 3) := by decide +kernel
theorem dX11_init_86 : decode cX11_init 86 = .ok (.aload_n 0, 1) := by decide +kernel
theorem dX11_init_87 : decode cX11_init 87 = .ok (.bipush 7, 2) := by decide +kernel
theorem dX11_init_89 : decode cX11_init 89 = .ok (.newarray .int, 2) := by decide +kernel
theorem dX11_init_91 : decode cX11_init 91 = .ok (.putfield 40, 3) := by decide +kernel
theorem dX11_init_94 : decode cX11_init 94 = .ok (.aload_n 0, 1) := by decide +kernel
theorem dX11_init_95 : decode cX11_init 95 = .ok (.bipush 6, 2) := by decide +kernel
theorem dX11_init_97 : decode cX11_init 97 = .ok (.newarray .int, 2) := by decide +kernel
theorem dX11_init_99 : decode cX11_init 99 = .ok (.putfield 43, 3) := by decide +kernel
theorem dX11_init_102 : decode cX11_init 102 = .ok (.aload_n 0, 1) := by decide +kernel
theorem dX11_init_103 : decode cX11_init 103 = .ok (.bipush 6, 2) := by decide +kernel
theorem dX11_init_105 : decode cX11_init 105 = .ok (.newarray .int, 2) := by decide +kernel
theorem dX11_init_107 : decode cX11_init 107 = .ok (.putfield 46, 3) := by decide +kernel
theorem dX11_init_110 : decode cX11_init 110 = .ok (.aload_n 0, 1) := by decide +kernel
theorem dX11_init_111 : decode cX11_init 111 = .ok (.sipush 984, 3) := by decide +kernel
theorem dX11_init_114 : decode cX11_init 114 = .ok (.newarray .int, 2) := by decide +kernel
theorem dX11_init_116 : decode cX11_init 116 = .ok (.putfield 49, 3) := by decide +kernel
theorem dX11_init_119 : decode cX11_init 119 = .ok (.aload_n 0, 1) := by decide +kernel
theorem dX11_init_120 : decode cX11_init 120 = .ok (.bipush 6, 2) := by decide +kernel
theorem dX11_init_122 : decode cX11_init 122 = .ok (.newarray .int, 2) := by decide +kernel
theorem dX11_init_124 : decode cX11_init 124 = .ok (.putfield 52, 3) := by decide +kernel
theorem dX11_init_127 : decode cX11_init 127 = .ok (.aload_n 0, 1) := by decide +kernel
theorem dX11_init_128 : decode cX11_init 128 = .ok (.bipush 6, 2) := by decide +kernel
theorem dX11_init_130 : decode cX11_init 130 = .ok (.newarray .int, 2) := by decide +kernel
theorem dX11_init_132 : decode cX11_init 132 = .ok (.putfield 55, 3) := by decide +kernel
theorem dX11_init_135 : decode cX11_init 135 = .ok (.aload_n 0, 1) := by decide +kernel
theorem dX11_init_136 : decode cX11_init 136 = .ok (.bipush 6, 2) := by decide +kernel
theorem dX11_init_138 : decode cX11_init 138 = .ok (.newarray .int, 2) := by decide +kernel
theorem dX11_init_140 : decode cX11_init 140 = .ok (.putfield 58, 3) := by decide +kernel
theorem dX11_init_143 : decode cX11_init 143 = .ok (.aload_n 0, 1) := by decide +kernel
theorem dX11_init_144 : decode cX11_init 144 = .ok (.sipush 2800, 3) := by decide +kernel
theorem dX11_init_147 : decode cX11_init 147 = .ok (.newarray .int, 2) := by decide +kernel
theorem dX11_init_149 : decode cX11_init 149 = .ok (.putfield 61, 3) := by decide +kernel
theorem dX11_init_152 : decode cX11_init 152 = .ok (.aload_n 0, 1) := by decide +kernel
theorem dX11_init_153 : decode cX11_init 153 = .ok (.bipush 7, 2) := by decide +kernel
theorem dX11_init_155 : decode cX11_init 155 = .ok (.newarray .int, 2) := by decide +kernel
theorem dX11_init_157 : decode cX11_init 157 = .ok (.putfield 64, 3) := by decide +kernel
theorem dX11_init_160 : decode cX11_init 160 = .ok (.aload_n 0, 1) := by decide +kernel
theorem dX11_init_161 : decode cX11_init 161 = .ok (.sipush 448, 3) := by decide +kernel
theorem dX11_init_164 : decode cX11_init 164 = .ok (.newarray .int, 2) := by decide +kernel
theorem dX11_init_166 : decode cX11_init 166 = .ok (.putfield 67, 3) := by decide +kernel
theorem dX11_init_169 : decode cX11_init 169 = .ok (.aload_n 0, 1) := by decide +kernel
theorem dX11_init_170 : decode cX11_init 170 = .ok (.sipush 448, 3) := by decide +kernel
theorem dX11_init_173 : decode cX11_init 173 = .ok (.newarray .int, 2) := by decide +kernel
theorem dX11_init_175 : decode cX11_init 175 = .ok (.putfield 70, 3) := by decide +kernel
theorem dX11_init_178 : decode cX11_init 178 = .ok (.aload_n 0, 1) := by decide +kernel
theorem dX11_init_179 : decode cX11_init 179 = .ok (.sipush 400, 3) := by decide +kernel
theorem dX11_init_182 : decode cX11_init 182 = .ok (.newarray .long, 2) := by decide +kernel
theorem dX11_init_184 : decode cX11_init 184 = .ok (.putfield 73, 3) := by decide +kernel
theorem dX11_init_187 : decode cX11_init 187 = .ok (.aload_n 0, 1) := by decide +kernel
theorem dX11_init_188 : decode cX11_init 188 = .ok (.sipush 10660, 3) := by decide +kernel
theorem dX11_init_191 : decode cX11_init 191 = .ok (.newarray .boolean, 2) := by decide +kernel
theorem dX11_init_193 : decode cX11_init 193 = .ok (.putfield 77, 3) := by decide +kernel
theorem dX11_init_196 : decode cX11_init 196 = .ok (.aload_n 0, 1) := by decide +kernel
theorem dX11_init_197 : decode cX11_init 197 = .ok (.sipush 10660, 3) := by decide +kernel
theorem dX11_init_200 : decode cX11_init 200 = .ok (.newarray .int, 2) := by decide +kernel
theorem dX11_init_202 : decode cX11_init 202 = .ok (.putfield 81, 3) := by decide +kernel
theorem dX11_init_205 : decode cX11_init 205 = .ok (.aload_n 0, 1) := by decide +kernel
theorem dX11_init_206 : decode cX11_init 206 = .ok (.sipush 2132, 3) := by decide +kernel
theorem dX11_init_209 : decode cX11_init 209 = .ok (.newarray .int, 2) := by decide +kernel
theorem dX11_init_211 : decode cX11_init 211 = .ok (.putfield 84, 3) := by decide +kernel
theorem dX11_init_214 : decode cX11_init 214 = .ok (.aload_n 0, 1) := by decide +kernel
theorem dX11_init_215 : decode cX11_init 215 = .ok (.sipush 10660, 3) := by decide +kernel
theorem dX11_init_218 : decode cX11_init 218 = .ok (.newarray .long, 2) := by decide +kernel
theorem dX11_init_220 : decode cX11_init 220 = .ok (.putfield 87, 3) := by decide +kernel
theorem dX11_init_223 : decode cX11_init 223 = .ok (.aload_n 0, 1) := by decide +kernel
theorem dX11_init_224 : decode cX11_init 224 = .ok (.sipush 10660, 3) := by decide +kernel
theorem dX11_init_227 : decode cX11_init 227 = .ok (.newarray .boolean, 2) := by decide +kernel
theorem dX11_init_229 : decode cX11_init 229 = .ok (.putfield 90, 3) := by decide +kernel
theorem dX11_init_232 : decode cX11_init 232 = .ok (.aload_n 0, 1) := by decide +kernel
theorem dX11_init_233 : decode cX11_init 233 = .ok (.sipush 10660, 3) := by decide +kernel
theorem dX11_init_236 : decode cX11_init 236 = .ok (.newarray .long, 2) := by decide +kernel
theorem dX11_init_238 : decode cX11_init 238 = .ok (.putfield 93, 3) := by decide +kernel
theorem dX11_init_241 : decode cX11_init 241 = .ok (.aload_n 0, 1) := by decide +kernel
theorem dX11_init_242 : decode cX11_init 242 = .ok (.bipush 41, 2) := by decide +kernel
theorem dX11_init_244 : decode cX11_init 244 = .ok (.newarray .long, 2) := by decide +kernel
theorem dX11_init_246 : decode cX11_init 246 = .ok (.putfield 96, 3) := by decide +kernel
theorem dX11_init_249 : decode cX11_init 249 = .ok (.aload_n 0, 1) := by decide +kernel
theorem dX11_init_250 : decode cX11_init 250 = .ok (.bipush 41, 2) := by decide +kernel
theorem dX11_init_252 : decode cX11_init 252 = .ok (.newarray .long, 2) := by decide +kernel
theorem dX11_init_254 : decode cX11_init 254 = .ok (.putfield 99, 3) := by decide +kernel
theorem dX11_init_257 : decode cX11_init 257 = .ok (.aload_n 0, 1) := by decide +kernel
theorem dX11_init_258 : decode cX11_init 258 = .ok (.bipush 80, 2) := by decide +kernel
theorem dX11_init_260 : decode cX11_init 260 = .ok (.newarray .int, 2) := by decide +kernel
theorem dX11_init_262 : decode cX11_init 262 = .ok (.putfield 102, 3) := by decide +kernel
theorem dX11_init_265 : decode cX11_init 265 = .ok (.aload_n 0, 1) := by decide +kernel
theorem dX11_init_266 : decode cX11_init 266 = .ok (.iconst 2, 1) := by decide +kernel
theorem dX11_init_267 : decode cX11_init 267 = .ok (.newarray .int, 2) := by decide +kernel
theorem dX11_init_269 : decode cX11_init 269 = .ok (.putfield 105, 3) := by decide +kernel
theorem dX11_init_272 : decode cX11_init 272 = .ok (.aload_n 0, 1) := by decide +kernel
theorem dX11_init_273 : decode cX11_init 273 = .ok (.sipush 560, 3) := by decide +kernel
theorem dX11_init_276 : decode cX11_init 276 = .ok (.newarray .int, 2) := by decide +kernel
theorem dX11_init_278 : decode cX11_init 278 = .ok (.putfield 108, 3) := by decide +kernel
theorem dX11_init_281 : decode cX11_init 281 = .ok (.aload_n 0, 1) := by decide +kernel
theorem dX11_init_282 : decode cX11_init 282 = .ok (.sipush 280, 3) := by decide +kernel
theorem dX11_init_285 : decode cX11_init 285 = .ok (.newarray .int, 2) := by decide +kernel
theorem dX11_init_287 : decode cX11_init 287 = .ok (.putfield 111, 3) := by decide +kernel
theorem dX11_init_290 : decode cX11_init 290 = .ok (.iconst 0, 1) := by decide +kernel
theorem dX11_init_291 : decode cX11_init 291 = .ok (.istore_n 1, 1) := by decide +kernel
theorem dX11_init_292 : decode cX11_init 292 = .ok (.iload_n 1, 1) := by decide +kernel
theorem dX11_init_293 : decode cX11_init 293 = .ok (.bipush 6, 2) := by decide +kernel
theorem dX11_init_295 : decode cX11_init 295 = .ok (.if_icmp .ge 24, 3) := by decide +kernel
theorem dX11_init_298 : decode cX11_init 298 = .ok (.aload_n 0, 1) := by decide +kernel
theorem dX11_init_299 : decode cX11_init 299 = .ok (.getfield 46, 3) := by decide +kernel
theorem dX11_init_302 : decode cX11_init 302 = .ok (.iload_n 1, 1) := by decide +kernel
theorem dX11_init_303 : decode cX11_init 303 = .ok (.iconst (-1), 1) := by decide +kernel
theorem dX11_init_304 : decode cX11_init 304 = .ok (.iastore, 1) := by decide +kernel
theorem dX11_init_305 : decode cX11_init 305 = .ok (.aload_n 0, 1) := by decide +kernel
theorem dX11_init_306 : decode cX11_init 306 = .ok (.getfield 43, 3) := by decide +kernel
theorem dX11_init_309 : decode cX11_init 309 = .ok (.iload_n 1, 1) := by decide +kernel
theorem dX11_init_310 : decode cX11_init 310 = .ok (.bipush 20, 2) := by decide +kernel
theorem dX11_init_312 : decode cX11_init 312 = .ok (.iastore, 1) := by decide +kernel
theorem dX11_init_313 : decode cX11_init 313 = .ok (.iinc 1 1, 3) := by decide +kernel
theorem dX11_init_316 : decode cX11_init 316 = .ok (.goto (-24), 3) := by decide +kernel
theorem dX11_init_319 : decode cX11_init 319 = .ok (.return_, 1) := by decide +kernel
theorem dX11_thrown_0 : decode cX11_thrown 0 = .ok (.aload_n 0, 1) := by decide +kernel
theorem dX11_thrown_1 : decode cX11_thrown 1 = .ok (.getfield 114, 3) := by decide +kernel
theorem dX11_thrown_4 : decode cX11_thrown 4 = .ok (.ireturn, 1) := by decide +kernel
theorem dX11_byteOf_0 : decode cX11_byteOf 0 = .ok (.iload 5, 2) := by decide +kernel
theorem dX11_byteOf_2 : decode cX11_byteOf 2 = .ok (.iconst 4, 1) := by decide +kernel
theorem dX11_byteOf_3 : decode cX11_byteOf 3 = .ok (.if_icmp .ge 7, 3) := by decide +kernel
theorem dX11_byteOf_6 : decode cX11_byteOf 6 = .ok (.iload_n 0, 1) := by decide +kernel
theorem dX11_byteOf_7 : decode cX11_byteOf 7 = .ok (.goto 38, 3) := by decide +kernel
theorem dX11_byteOf_10 : decode cX11_byteOf 10 = .ok (.iload 5, 2) := by decide +kernel
theorem dX11_byteOf_12 : decode cX11_byteOf 12 = .ok (.bipush 8, 2) := by decide +kernel
theorem dX11_byteOf_14 : decode cX11_byteOf 14 = .ok (.if_icmp .ge 7, 3) := by decide +kernel
theorem dX11_byteOf_17 : decode cX11_byteOf 17 = .ok (.iload_n 1, 1) := by decide +kernel
theorem dX11_byteOf_18 : decode cX11_byteOf 18 = .ok (.goto 27, 3) := by decide +kernel
theorem dX11_byteOf_21 : decode cX11_byteOf 21 = .ok (.iload 5, 2) := by decide +kernel
theorem dX11_byteOf_23 : decode cX11_byteOf 23 = .ok (.bipush 12, 2) := by decide +kernel
theorem dX11_byteOf_25 : decode cX11_byteOf 25 = .ok (.if_icmp .ge 7, 3) := by decide +kernel
theorem dX11_byteOf_28 : decode cX11_byteOf 28 = .ok (.iload_n 2, 1) := by decide +kernel
theorem dX11_byteOf_29 : decode cX11_byteOf 29 = .ok (.goto 16, 3) := by decide +kernel
theorem dX11_byteOf_32 : decode cX11_byteOf 32 = .ok (.iload 5, 2) := by decide +kernel
theorem dX11_byteOf_34 : decode cX11_byteOf 34 = .ok (.bipush 16, 2) := by decide +kernel
theorem dX11_byteOf_36 : decode cX11_byteOf 36 = .ok (.if_icmp .ge 7, 3) := by decide +kernel
theorem dX11_byteOf_39 : decode cX11_byteOf 39 = .ok (.iload_n 3, 1) := by decide +kernel
theorem dX11_byteOf_40 : decode cX11_byteOf 40 = .ok (.goto 5, 3) := by decide +kernel
theorem dX11_byteOf_43 : decode cX11_byteOf 43 = .ok (.iload 4, 2) := by decide +kernel
theorem dX11_byteOf_45 : decode cX11_byteOf 45 = .ok (.istore 6, 2) := by decide +kernel
theorem dX11_byteOf_47 : decode cX11_byteOf 47 = .ok (.iload 6, 2) := by decide +kernel
theorem dX11_byteOf_49 : decode cX11_byteOf 49 = .ok (.bipush 24, 2) := by decide +kernel
theorem dX11_byteOf_51 : decode cX11_byteOf 51 = .ok (.bipush 8, 2) := by decide +kernel
theorem dX11_byteOf_53 : decode cX11_byteOf 53 = .ok (.iload 5, 2) := by decide +kernel
theorem dX11_byteOf_55 : decode cX11_byteOf 55 = .ok (.iconst 4, 1) := by decide +kernel
theorem dX11_byteOf_56 : decode cX11_byteOf 56 = .ok (.irem, 1) := by decide +kernel
theorem dX11_byteOf_57 : decode cX11_byteOf 57 = .ok (.imul, 1) := by decide +kernel
theorem dX11_byteOf_58 : decode cX11_byteOf 58 = .ok (.isub, 1) := by decide +kernel
theorem dX11_byteOf_59 : decode cX11_byteOf 59 = .ok (.ishr, 1) := by decide +kernel
theorem dX11_byteOf_60 : decode cX11_byteOf 60 = .ok (.sipush 255, 3) := by decide +kernel
theorem dX11_byteOf_63 : decode cX11_byteOf 63 = .ok (.iand, 1) := by decide +kernel
theorem dX11_byteOf_64 : decode cX11_byteOf 64 = .ok (.ireturn, 1) := by decide +kernel
theorem dX11_feed_0 : decode cX11_feed 0 = .ok (.iconst 0, 1) := by decide +kernel
theorem dX11_feed_1 : decode cX11_feed 1 = .ok (.istore 6, 2) := by decide +kernel
theorem dX11_feed_3 : decode cX11_feed 3 = .ok (.iconst 0, 1) := by decide +kernel
theorem dX11_feed_4 : decode cX11_feed 4 = .ok (.istore 7, 2) := by decide +kernel
theorem dX11_feed_6 : decode cX11_feed 6 = .ok (.iload 7, 2) := by decide +kernel
theorem dX11_feed_8 : decode cX11_feed 8 = .ok (.bipush 20, 2) := by decide +kernel
theorem dX11_feed_10 : decode cX11_feed 10 = .ok (.if_icmp .ge 34, 3) := by decide +kernel
theorem dX11_feed_13 : decode cX11_feed 13 = .ok (.iload 6, 2) := by decide +kernel
theorem dX11_feed_15 : decode cX11_feed 15 = .ok (.iload_n 1, 1) := by decide +kernel
theorem dX11_feed_16 : decode cX11_feed 16 = .ok (.iload_n 2, 1) := by decide +kernel
theorem dX11_feed_17 : decode cX11_feed 17 = .ok (.iload_n 3, 1) := by decide +kernel
theorem dX11_feed_18 : decode cX11_feed 18 = .ok (.iload 4, 2) := by decide +kernel
theorem dX11_feed_20 : decode cX11_feed 20 = .ok (.iload 5, 2) := by decide +kernel
theorem dX11_feed_22 : decode cX11_feed 22 = .ok (.iload 7, 2) := by decide +kernel
theorem dX11_feed_24 : decode cX11_feed 24 = .ok (.invokestatic 118, 3) := by decide +kernel
theorem dX11_feed_27 : decode cX11_feed 27 = .ok (.ifCond .eq 7, 3) := by decide +kernel
theorem dX11_feed_30 : decode cX11_feed 30 = .ok (.iconst 1, 1) := by decide +kernel
theorem dX11_feed_31 : decode cX11_feed 31 = .ok (.goto 4, 3) := by decide +kernel
theorem dX11_feed_34 : decode cX11_feed 34 = .ok (.iconst 0, 1) := by decide +kernel
theorem dX11_feed_35 : decode cX11_feed 35 = .ok (.iadd, 1) := by decide +kernel
theorem dX11_feed_36 : decode cX11_feed 36 = .ok (.istore 6, 2) := by decide +kernel
theorem dX11_feed_38 : decode cX11_feed 38 = .ok (.iinc 7 1, 3) := by decide +kernel
theorem dX11_feed_41 : decode cX11_feed 41 = .ok (.goto (-35), 3) := by decide +kernel
theorem dX11_feed_44 : decode cX11_feed 44 = .ok (.aload_n 0, 1) := by decide +kernel
theorem dX11_feed_45 : decode cX11_feed 45 = .ok (.getfield 122, 3) := by decide +kernel
theorem dX11_feed_48 : decode cX11_feed 48 = .ok (.iload 6, 2) := by decide +kernel
theorem dX11_feed_50 : decode cX11_feed 50 = .ok (.iadd, 1) := by decide +kernel
theorem dX11_feed_51 : decode cX11_feed 51 = .ok (.sipush 240, 3) := by decide +kernel
theorem dX11_feed_54 : decode cX11_feed 54 = .ok (.if_icmp .le 5, 3) := by decide +kernel
theorem dX11_feed_57 : decode cX11_feed 57 = .ok (.iconst (-1), 1) := by decide +kernel
theorem dX11_feed_58 : decode cX11_feed 58 = .ok (.ireturn, 1) := by decide +kernel
theorem dX11_feed_59 : decode cX11_feed 59 = .ok (.iconst 0, 1) := by decide +kernel
theorem dX11_feed_60 : decode cX11_feed 60 = .ok (.istore 7, 2) := by decide +kernel
theorem dX11_feed_62 : decode cX11_feed 62 = .ok (.iload 7, 2) := by decide +kernel
theorem dX11_feed_64 : decode cX11_feed 64 = .ok (.bipush 20, 2) := by decide +kernel
theorem dX11_feed_66 : decode cX11_feed 66 = .ok (.if_icmp .ge 49, 3) := by decide +kernel
theorem dX11_feed_69 : decode cX11_feed 69 = .ok (.iload_n 1, 1) := by decide +kernel
theorem dX11_feed_70 : decode cX11_feed 70 = .ok (.iload_n 2, 1) := by decide +kernel
theorem dX11_feed_71 : decode cX11_feed 71 = .ok (.iload_n 3, 1) := by decide +kernel
theorem dX11_feed_72 : decode cX11_feed 72 = .ok (.iload 4, 2) := by decide +kernel
theorem dX11_feed_74 : decode cX11_feed 74 = .ok (.iload 5, 2) := by decide +kernel
theorem dX11_feed_76 : decode cX11_feed 76 = .ok (.iload 7, 2) := by decide +kernel
theorem dX11_feed_78 : decode cX11_feed 78 = .ok (.invokestatic 118, 3) := by decide +kernel
theorem dX11_feed_81 : decode cX11_feed 81 = .ok (.istore 8, 2) := by decide +kernel
theorem dX11_feed_83 : decode cX11_feed 83 = .ok (.iload 8, 2) := by decide +kernel
theorem dX11_feed_85 : decode cX11_feed 85 = .ok (.ifCond .eq 24, 3) := by decide +kernel
theorem dX11_feed_88 : decode cX11_feed 88 = .ok (.aload_n 0, 1) := by decide +kernel
theorem dX11_feed_89 : decode cX11_feed 89 = .ok (.getfield 9, 3) := by decide +kernel
theorem dX11_feed_92 : decode cX11_feed 92 = .ok (.aload_n 0, 1) := by decide +kernel
theorem dX11_feed_93 : decode cX11_feed 93 = .ok (.getfield 122, 3) := by decide +kernel
theorem dX11_feed_96 : decode cX11_feed 96 = .ok (.iload 8, 2) := by decide +kernel
theorem dX11_feed_98 : decode cX11_feed 98 = .ok (.iastore, 1) := by decide +kernel
theorem dX11_feed_99 : decode cX11_feed 99 = .ok (.aload_n 0, 1) := by decide +kernel
theorem dX11_feed_100 : decode cX11_feed 100 = .ok (.dup, 1) := by decide +kernel
theorem dX11_feed_101 : decode cX11_feed 101 = .ok (.getfield 122, 3) := by decide +kernel
theorem dX11_feed_104 : decode cX11_feed 104 = .ok (.iconst 1, 1) := by decide +kernel
theorem dX11_feed_105 : decode cX11_feed 105 = .ok (.iadd, 1) := by decide +kernel
theorem dX11_feed_106 : decode cX11_feed 106 = .ok (.putfield 122, 3) := by decide +kernel
theorem dX11_feed_109 : decode cX11_feed 109 = .ok (.iinc 7 1, 3) := by decide +kernel
theorem dX11_feed_112 : decode cX11_feed 112 = .ok (.goto (-50), 3) := by decide +kernel
theorem dX11_feed_115 : decode cX11_feed 115 = .ok (.aload_n 0, 1) := by decide +kernel
theorem dX11_feed_116 : decode cX11_feed 116 = .ok (.getfield 122, 3) := by decide +kernel
theorem dX11_feed_119 : decode cX11_feed 119 = .ok (.ireturn, 1) := by decide +kernel
theorem dX11_end_0 : decode cX11_end 0 = .ok (.iload_n 1, 1) := by decide +kernel
theorem dX11_end_1 : decode cX11_end 1 = .ok (.ifCond .lt 11, 3) := by decide +kernel
theorem dX11_end_4 : decode cX11_end 4 = .ok (.iload_n 1, 1) := by decide +kernel
theorem dX11_end_5 : decode cX11_end 5 = .ok (.aload_n 0, 1) := by decide +kernel
theorem dX11_end_6 : decode cX11_end 6 = .ok (.getfield 122, 3) := by decide +kernel
theorem dX11_end_9 : decode cX11_end 9 = .ok (.if_icmp .le 5, 3) := by decide +kernel
theorem dX11_end_12 : decode cX11_end 12 = .ok (.iconst 0, 1) := by decide +kernel
theorem dX11_end_13 : decode cX11_end 13 = .ok (.ireturn, 1) := by decide +kernel
theorem dX11_end_14 : decode cX11_end 14 = .ok (.aload_n 0, 1) := by decide +kernel
theorem dX11_end_15 : decode cX11_end 15 = .ok (.iload_n 1, 1) := by decide +kernel
theorem dX11_end_16 : decode cX11_end 16 = .ok (.putfield 122, 3) := by decide +kernel
theorem dX11_end_19 : decode cX11_end 19 = .ok (.iconst 1, 1) := by decide +kernel
theorem dX11_end_20 : decode cX11_end 20 = .ok (.ireturn, 1) := by decide +kernel
theorem dX11_here_0 : decode cX11_here 0 = .ok (.aload_n 0, 1) := by decide +kernel
theorem dX11_here_1 : decode cX11_here 1 = .ok (.getfield 125, 3) := by decide +kernel
theorem dX11_here_4 : decode cX11_here 4 = .ok (.aload_n 0, 1) := by decide +kernel
theorem dX11_here_5 : decode cX11_here 5 = .ok (.getfield 122, 3) := by decide +kernel
theorem dX11_here_8 : decode cX11_here 8 = .ok (.if_icmp .ge 15, 3) := by decide +kernel
theorem dX11_here_11 : decode cX11_here 11 = .ok (.aload_n 0, 1) := by decide +kernel
theorem dX11_here_12 : decode cX11_here 12 = .ok (.getfield 9, 3) := by decide +kernel
theorem dX11_here_15 : decode cX11_here 15 = .ok (.aload_n 0, 1) := by decide +kernel
theorem dX11_here_16 : decode cX11_here 16 = .ok (.getfield 125, 3) := by decide +kernel
theorem dX11_here_19 : decode cX11_here 19 = .ok (.iaload, 1) := by decide +kernel
theorem dX11_here_20 : decode cX11_here 20 = .ok (.goto 4, 3) := by decide +kernel
theorem dX11_here_23 : decode cX11_here 23 = .ok (.iconst (-1), 1) := by decide +kernel
theorem dX11_here_24 : decode cX11_here 24 = .ok (.ireturn, 1) := by decide +kernel
theorem dX11_look_0 : decode cX11_look 0 = .ok (.aload_n 0, 1) := by decide +kernel
theorem dX11_look_1 : decode cX11_look 1 = .ok (.invokevirtual 128, 3) := by decide +kernel
theorem dX11_look_4 : decode cX11_look 4 = .ok (.bipush 32, 2) := by decide +kernel
theorem dX11_look_6 : decode cX11_look 6 = .ok (.if_icmp .ne 16, 3) := by decide +kernel
theorem dX11_look_9 : decode cX11_look 9 = .ok (.aload_n 0, 1) := by decide +kernel
theorem dX11_look_10 : decode cX11_look 10 = .ok (.dup, 1) := by decide +kernel
theorem dX11_look_11 : decode cX11_look 11 = .ok (.getfield 125, 3) := by decide +kernel
theorem dX11_look_14 : decode cX11_look 14 = .ok (.iconst 1, 1) := by decide +kernel
theorem dX11_look_15 : decode cX11_look 15 = .ok (.iadd, 1) := by decide +kernel
theorem dX11_look_16 : decode cX11_look 16 = .ok (.putfield 125, 3) := by decide +kernel
theorem dX11_look_19 : decode cX11_look 19 = .ok (.goto (-19), 3) := by decide +kernel
theorem dX11_look_22 : decode cX11_look 22 = .ok (.aload_n 0, 1) := by decide +kernel
theorem dX11_look_23 : decode cX11_look 23 = .ok (.invokevirtual 128, 3) := by decide +kernel
theorem dX11_look_26 : decode cX11_look 26 = .ok (.ireturn, 1) := by decide +kernel
theorem dX11_bad_0 : decode cX11_bad 0 = .ok (.aload_n 0, 1) := by decide +kernel
theorem dX11_bad_1 : decode cX11_bad 1 = .ok (.aload_n 0, 1) := by decide +kernel
theorem dX11_bad_2 : decode cX11_bad 2 = .ok (.getfield 132, 3) := by decide +kernel
theorem dX11_bad_5 : decode cX11_bad 5 = .ok (.iconst (-1), 1) := by decide +kernel
theorem dX11_bad_6 : decode cX11_bad 6 = .ok (.if_icmp .ne 10, 3) := by decide +kernel
theorem dX11_bad_9 : decode cX11_bad 9 = .ok (.aload_n 0, 1) := by decide +kernel
theorem dX11_bad_10 : decode cX11_bad 10 = .ok (.getfield 125, 3) := by decide +kernel
theorem dX11_bad_13 : decode cX11_bad 13 = .ok (.goto 7, 3) := by decide +kernel
theorem dX11_bad_16 : decode cX11_bad 16 = .ok (.aload_n 0, 1) := by decide +kernel
theorem dX11_bad_17 : decode cX11_bad 17 = .ok (.getfield 132, 3) := by decide +kernel
theorem dX11_bad_20 : decode cX11_bad 20 = .ok (.putfield 132, 3) := by decide +kernel
theorem dX11_bad_23 : decode cX11_bad 23 = .ok (.return_, 1) := by decide +kernel
theorem dX11_isDigit_0 : decode cX11_isDigit 0 = .ok (.iload_n 0, 1) := by decide +kernel
theorem dX11_isDigit_1 : decode cX11_isDigit 1 = .ok (.bipush 48, 2) := by decide +kernel
theorem dX11_isDigit_3 : decode cX11_isDigit 3 = .ok (.if_icmp .lt 13, 3) := by decide +kernel
theorem dX11_isDigit_6 : decode cX11_isDigit 6 = .ok (.iload_n 0, 1) := by decide +kernel
theorem dX11_isDigit_7 : decode cX11_isDigit 7 = .ok (.bipush 57, 2) := by decide +kernel
theorem dX11_isDigit_9 : decode cX11_isDigit 9 = .ok (.if_icmp .gt 7, 3) := by decide +kernel
theorem dX11_isDigit_12 : decode cX11_isDigit 12 = .ok (.iconst 1, 1) := by decide +kernel
theorem dX11_isDigit_13 : decode cX11_isDigit 13 = .ok (.goto 4, 3) := by decide +kernel
theorem dX11_isDigit_16 : decode cX11_isDigit 16 = .ok (.iconst 0, 1) := by decide +kernel
theorem dX11_isDigit_17 : decode cX11_isDigit 17 = .ok (.ireturn, 1) := by decide +kernel
theorem dX11_number_0 : decode cX11_number 0 = .ok (.aload_n 0, 1) := by decide +kernel
theorem dX11_number_1 : decode cX11_number 1 = .ok (.getfield 132, 3) := by decide +kernel
theorem dX11_number_4 : decode cX11_number 4 = .ok (.iconst (-1), 1) := by decide +kernel
theorem dX11_number_5 : decode cX11_number 5 = .ok (.if_icmp .eq 5, 3) := by decide +kernel
theorem dX11_number_8 : decode cX11_number 8 = .ok (.iload_n 1, 1) := by decide +kernel
theorem dX11_number_9 : decode cX11_number 9 = .ok (.ireturn, 1) := by decide +kernel
theorem dX11_number_10 : decode cX11_number 10 = .ok (.aload_n 0, 1) := by decide +kernel
theorem dX11_number_11 : decode cX11_number 11 = .ok (.invokevirtual 128, 3) := by decide +kernel
theorem dX11_number_14 : decode cX11_number 14 = .ok (.bipush 32, 2) := by decide +kernel
theorem dX11_number_16 : decode cX11_number 16 = .ok (.if_icmp .ne 13, 3) := by decide +kernel
theorem dX11_number_19 : decode cX11_number 19 = .ok (.aload_n 0, 1) := by decide +kernel
theorem dX11_number_20 : decode cX11_number 20 = .ok (.invokevirtual 135, 3) := by decide +kernel
theorem dX11_number_23 : decode cX11_number 23 = .ok (.invokestatic 138, 3) := by decide +kernel
theorem dX11_number_26 : decode cX11_number 26 = .ok (.ifCond .ne 9, 3) := by decide +kernel
theorem dX11_number_29 : decode cX11_number 29 = .ok (.aload_n 0, 1) := by decide +kernel
theorem dX11_number_30 : decode cX11_number 30 = .ok (.invokevirtual 142, 3) := by decide +kernel
theorem dX11_number_33 : decode cX11_number 33 = .ok (.iload_n 1, 1) := by decide +kernel
theorem dX11_number_34 : decode cX11_number 34 = .ok (.ireturn, 1) := by decide +kernel
theorem dX11_number_35 : decode cX11_number 35 = .ok (.aload_n 0, 1) := by decide +kernel
theorem dX11_number_36 : decode cX11_number 36 = .ok (.invokevirtual 128, 3) := by decide +kernel
theorem dX11_number_39 : decode cX11_number 39 = .ok (.bipush 48, 2) := by decide +kernel
theorem dX11_number_41 : decode cX11_number 41 = .ok (.isub, 1) := by decide +kernel
theorem dX11_number_42 : decode cX11_number 42 = .ok (.istore 5, 2) := by decide +kernel
theorem dX11_number_44 : decode cX11_number 44 = .ok (.aload_n 0, 1) := by decide +kernel
theorem dX11_number_45 : decode cX11_number 45 = .ok (.dup, 1) := by decide +kernel
theorem dX11_number_46 : decode cX11_number 46 = .ok (.getfield 125, 3) := by decide +kernel
theorem dX11_number_49 : decode cX11_number 49 = .ok (.iconst 1, 1) := by decide +kernel
theorem dX11_number_50 : decode cX11_number 50 = .ok (.iadd, 1) := by decide +kernel
theorem dX11_number_51 : decode cX11_number 51 = .ok (.putfield 125, 3) := by decide +kernel
theorem dX11_number_54 : decode cX11_number 54 = .ok (.aload_n 0, 1) := by decide +kernel
theorem dX11_number_55 : decode cX11_number 55 = .ok (.invokevirtual 128, 3) := by decide +kernel
theorem dX11_number_58 : decode cX11_number 58 = .ok (.invokestatic 138, 3) := by decide +kernel
theorem dX11_number_61 : decode cX11_number 61 = .ok (.ifCond .eq 28, 3) := by decide +kernel
theorem dX11_number_64 : decode cX11_number 64 = .ok (.bipush 10, 2) := by decide +kernel
theorem dX11_number_66 : decode cX11_number 66 = .ok (.iload 5, 2) := by decide +kernel
theorem dX11_number_68 : decode cX11_number 68 = .ok (.imul, 1) := by decide +kernel
theorem dX11_number_69 : decode cX11_number 69 = .ok (.aload_n 0, 1) := by decide +kernel
theorem dX11_number_70 : decode cX11_number 70 = .ok (.invokevirtual 128, 3) := by decide +kernel
theorem dX11_number_73 : decode cX11_number 73 = .ok (.iadd, 1) := by decide +kernel
theorem dX11_number_74 : decode cX11_number 74 = .ok (.bipush 48, 2) := by decide +kernel
theorem dX11_number_76 : decode cX11_number 76 = .ok (.isub, 1) := by decide +kernel
theorem dX11_number_77 : decode cX11_number 77 = .ok (.istore 5, 2) := by decide +kernel
theorem dX11_number_79 : decode cX11_number 79 = .ok (.aload_n 0, 1) := by decide +kernel
theorem dX11_number_80 : decode cX11_number 80 = .ok (.dup, 1) := by decide +kernel
theorem dX11_number_81 : decode cX11_number 81 = .ok (.getfield 125, 3) := by decide +kernel
theorem dX11_number_84 : decode cX11_number 84 = .ok (.iconst 1, 1) := by decide +kernel
theorem dX11_number_85 : decode cX11_number 85 = .ok (.iadd, 1) := by decide +kernel
theorem dX11_number_86 : decode cX11_number 86 = .ok (.putfield 125, 3) := by decide +kernel
theorem dX11_number_89 : decode cX11_number 89 = .ok (.iload 5, 2) := by decide +kernel
theorem dX11_number_91 : decode cX11_number 91 = .ok (.iload_n 1, 1) := by decide +kernel
theorem dX11_number_92 : decode cX11_number 92 = .ok (.iload_n 2, 1) := by decide +kernel
theorem dX11_number_93 : decode cX11_number 93 = .ok (.invokestatic 145, 3) := by decide +kernel
theorem dX11_number_96 : decode cX11_number 96 = .ok (.ifCond .eq 30, 3) := by decide +kernel
theorem dX11_number_99 : decode cX11_number 99 = .ok (.iload 5, 2) := by decide +kernel
theorem dX11_number_101 : decode cX11_number 101 = .ok (.iload 4, 2) := by decide +kernel
theorem dX11_number_103 : decode cX11_number 103 = .ok (.if_icmp .eq 23, 3) := by decide +kernel
theorem dX11_number_106 : decode cX11_number 106 = .ok (.iload_n 3, 1) := by decide +kernel
theorem dX11_number_107 : decode cX11_number 107 = .ok (.iconst (-1), 1) := by decide +kernel
theorem dX11_number_108 : decode cX11_number 108 = .ok (.if_icmp .eq 34, 3) := by decide +kernel
theorem dX11_number_111 : decode cX11_number 111 = .ok (.aload_n 0, 1) := by decide +kernel
theorem dX11_number_112 : decode cX11_number 112 = .ok (.getfield 31, 3) := by decide +kernel
theorem dX11_number_115 : decode cX11_number 115 = .ok (.iconst 4, 1) := by decide +kernel
theorem dX11_number_116 : decode cX11_number 116 = .ok (.iload_n 3, 1) := by decide +kernel
theorem dX11_number_117 : decode cX11_number 117 = .ok (.imul, 1) := by decide +kernel
theorem dX11_number_118 : decode cX11_number 118 = .ok (.iload 5, 2) := by decide +kernel
theorem dX11_number_120 : decode cX11_number 120 = .ok (.iadd, 1) := by decide +kernel
theorem dX11_number_121 : decode cX11_number 121 = .ok (.iaload, 1) := by decide +kernel
theorem dX11_number_122 : decode cX11_number 122 = .ok (.iconst 4, 1) := by decide +kernel
theorem dX11_number_123 : decode cX11_number 123 = .ok (.if_icmp .ne 19, 3) := by decide +kernel
theorem dX11_number_126 : decode cX11_number 126 = .ok (.aload_n 0, 1) := by decide +kernel
theorem dX11_number_127 : decode cX11_number 127 = .ok (.dup, 1) := by decide +kernel
theorem dX11_number_128 : decode cX11_number 128 = .ok (.getfield 125, 3) := by decide +kernel
theorem dX11_number_131 : decode cX11_number 131 = .ok (.iconst 1, 1) := by decide +kernel
theorem dX11_number_132 : decode cX11_number 132 = .ok (.isub, 1) := by decide +kernel
theorem dX11_number_133 : decode cX11_number 133 = .ok (.putfield 125, 3) := by decide +kernel
theorem dX11_number_136 : decode cX11_number 136 = .ok (.aload_n 0, 1) := by decide +kernel
theorem dX11_number_137 : decode cX11_number 137 = .ok (.invokevirtual 142, 3) := by decide +kernel
theorem dX11_number_140 : decode cX11_number 140 = .ok (.iload_n 1, 1) := by decide +kernel
theorem dX11_number_141 : decode cX11_number 141 = .ok (.ireturn, 1) := by decide +kernel
theorem dX11_number_142 : decode cX11_number 142 = .ok (.aload_n 0, 1) := by decide +kernel
theorem dX11_number_143 : decode cX11_number 143 = .ok (.invokevirtual 128, 3) := by decide +kernel
theorem dX11_number_146 : decode cX11_number 146 = .ok (.invokestatic 138, 3) := by decide +kernel
theorem dX11_number_149 : decode cX11_number 149 = .ok (.ifCond .eq 7, 3) := by decide +kernel
theorem dX11_number_152 : decode cX11_number 152 = .ok (.aload_n 0, 1) := by decide +kernel
theorem dX11_number_153 : decode cX11_number 153 = .ok (.invokevirtual 142, 3) := by decide +kernel
theorem dX11_number_156 : decode cX11_number 156 = .ok (.iload 5, 2) := by decide +kernel
theorem dX11_number_158 : decode cX11_number 158 = .ok (.ireturn, 1) := by decide +kernel
theorem dX11_weightOf_0 : decode cX11_weightOf 0 = .ok (.iconst 0, 1) := by decide +kernel
theorem dX11_weightOf_1 : decode cX11_weightOf 1 = .ok (.istore_n 3, 1) := by decide +kernel
theorem dX11_weightOf_2 : decode cX11_weightOf 2 = .ok (.iconst 0, 1) := by decide +kernel
theorem dX11_weightOf_3 : decode cX11_weightOf 3 = .ok (.istore 4, 2) := by decide +kernel
theorem dX11_weightOf_5 : decode cX11_weightOf 5 = .ok (.iload 4, 2) := by decide +kernel
theorem dX11_weightOf_7 : decode cX11_weightOf 7 = .ok (.aload_n 0, 1) := by decide +kernel
theorem dX11_weightOf_8 : decode cX11_weightOf 8 = .ok (.getfield 31, 3) := by decide +kernel
theorem dX11_weightOf_11 : decode cX11_weightOf 11 = .ok (.iconst 4, 1) := by decide +kernel
theorem dX11_weightOf_12 : decode cX11_weightOf 12 = .ok (.iload_n 1, 1) := by decide +kernel
theorem dX11_weightOf_13 : decode cX11_weightOf 13 = .ok (.imul, 1) := by decide +kernel
theorem dX11_weightOf_14 : decode cX11_weightOf 14 = .ok (.iload_n 2, 1) := by decide +kernel
theorem dX11_weightOf_15 : decode cX11_weightOf 15 = .ok (.iadd, 1) := by decide +kernel
theorem dX11_weightOf_16 : decode cX11_weightOf 16 = .ok (.iaload, 1) := by decide +kernel
theorem dX11_weightOf_17 : decode cX11_weightOf 17 = .ok (.if_icmp .ge 27, 3) := by decide +kernel
theorem dX11_weightOf_20 : decode cX11_weightOf 20 = .ok (.iload_n 3, 1) := by decide +kernel
theorem dX11_weightOf_21 : decode cX11_weightOf 21 = .ok (.aload_n 0, 1) := by decide +kernel
theorem dX11_weightOf_22 : decode cX11_weightOf 22 = .ok (.getfield 28, 3) := by decide +kernel
theorem dX11_weightOf_25 : decode cX11_weightOf 25 = .ok (.iconst 4, 1) := by decide +kernel
theorem dX11_weightOf_26 : decode cX11_weightOf 26 = .ok (.iconst 4, 1) := by decide +kernel
theorem dX11_weightOf_27 : decode cX11_weightOf 27 = .ok (.iload_n 1, 1) := by decide +kernel
theorem dX11_weightOf_28 : decode cX11_weightOf 28 = .ok (.imul, 1) := by decide +kernel
theorem dX11_weightOf_29 : decode cX11_weightOf 29 = .ok (.iload_n 2, 1) := by decide +kernel
theorem dX11_weightOf_30 : decode cX11_weightOf 30 = .ok (.iadd, 1) := by decide +kernel
theorem dX11_weightOf_31 : decode cX11_weightOf 31 = .ok (.imul, 1) := by decide +kernel
theorem dX11_weightOf_32 : decode cX11_weightOf 32 = .ok (.iload 4, 2) := by decide +kernel
theorem dX11_weightOf_34 : decode cX11_weightOf 34 = .ok (.iadd, 1) := by decide +kernel
theorem dX11_weightOf_35 : decode cX11_weightOf 35 = .ok (.iaload, 1) := by decide +kernel
theorem dX11_weightOf_36 : decode cX11_weightOf 36 = .ok (.iadd, 1) := by decide +kernel
theorem dX11_weightOf_37 : decode cX11_weightOf 37 = .ok (.istore_n 3, 1) := by decide +kernel
theorem dX11_weightOf_38 : decode cX11_weightOf 38 = .ok (.iinc 4 1, 3) := by decide +kernel
theorem dX11_weightOf_41 : decode cX11_weightOf 41 = .ok (.goto (-36), 3) := by decide +kernel
theorem dX11_weightOf_44 : decode cX11_weightOf 44 = .ok (.iload_n 3, 1) := by decide +kernel
theorem dX11_weightOf_45 : decode cX11_weightOf 45 = .ok (.ireturn, 1) := by decide +kernel
theorem dX11_readLand_0 : decode cX11_readLand 0 = .ok (.aload_n 0, 1) := by decide +kernel
theorem dX11_readLand_1 : decode cX11_readLand 1 = .ok (.iconst 0, 1) := by decide +kernel
theorem dX11_readLand_2 : decode cX11_readLand 2 = .ok (.putfield 125, 3) := by decide +kernel
theorem dX11_readLand_5 : decode cX11_readLand 5 = .ok (.aload_n 0, 1) := by decide +kernel
theorem dX11_readLand_6 : decode cX11_readLand 6 = .ok (.iconst (-1), 1) := by decide +kernel
theorem dX11_readLand_7 : decode cX11_readLand 7 = .ok (.putfield 132, 3) := by decide +kernel
theorem dX11_readLand_10 : decode cX11_readLand 10 = .ok (.aload_n 0, 1) := by decide +kernel
theorem dX11_readLand_11 : decode cX11_readLand 11 = .ok (.getfield 19, 3) := by decide +kernel
theorem dX11_readLand_14 : decode cX11_readLand 14 = .ok (.iload_n 1, 1) := by decide +kernel
theorem dX11_readLand_15 : decode cX11_readLand 15 = .ok (.iconst 0, 1) := by decide +kernel
theorem dX11_readLand_16 : decode cX11_readLand 16 = .ok (.iastore, 1) := by decide +kernel
theorem dX11_readLand_17 : decode cX11_readLand 17 = .ok (.aload_n 0, 1) := by decide +kernel
theorem dX11_readLand_18 : decode cX11_readLand 18 = .ok (.getfield 22, 3) := by decide +kernel
theorem dX11_readLand_21 : decode cX11_readLand 21 = .ok (.iload_n 1, 1) := by decide +kernel
theorem dX11_readLand_22 : decode cX11_readLand 22 = .ok (.iconst 0, 1) := by decide +kernel
theorem dX11_readLand_23 : decode cX11_readLand 23 = .ok (.iastore, 1) := by decide +kernel
theorem dX11_readLand_24 : decode cX11_readLand 24 = .ok (.aload_n 0, 1) := by decide +kernel
theorem dX11_readLand_25 : decode cX11_readLand 25 = .ok (.getfield 34, 3) := by decide +kernel
theorem dX11_readLand_28 : decode cX11_readLand 28 = .ok (.iload_n 1, 1) := by decide +kernel
theorem dX11_readLand_29 : decode cX11_readLand 29 = .ok (.iconst 0, 1) := by decide +kernel
theorem dX11_readLand_30 : decode cX11_readLand 30 = .ok (.iastore, 1) := by decide +kernel
theorem dX11_readLand_31 : decode cX11_readLand 31 = .ok (.aload_n 0, 1) := by decide +kernel
theorem dX11_readLand_32 : decode cX11_readLand 32 = .ok (.getfield 37, 3) := by decide +kernel
theorem dX11_readLand_35 : decode cX11_readLand 35 = .ok (.iload_n 1, 1) := by decide +kernel
theorem dX11_readLand_36 : decode cX11_readLand 36 = .ok (.iconst 0, 1) := by decide +kernel
theorem dX11_readLand_37 : decode cX11_readLand 37 = .ok (.iastore, 1) := by decide +kernel
theorem dX11_readLand_38 : decode cX11_readLand 38 = .ok (.aload_n 0, 1) := by decide +kernel
theorem dX11_readLand_39 : decode cX11_readLand 39 = .ok (.getfield 40, 3) := by decide +kernel
theorem dX11_readLand_42 : decode cX11_readLand 42 = .ok (.iload_n 1, 1) := by decide +kernel
theorem dX11_readLand_43 : decode cX11_readLand 43 = .ok (.bipush 20, 2) := by decide +kernel
theorem dX11_readLand_45 : decode cX11_readLand 45 = .ok (.iastore, 1) := by decide +kernel
theorem dX11_readLand_46 : decode cX11_readLand 46 = .ok (.iconst 0, 1) := by decide +kernel
theorem dX11_readLand_47 : decode cX11_readLand 47 = .ok (.istore_n 2, 1) := by decide +kernel
theorem dX11_readLand_48 : decode cX11_readLand 48 = .ok (.iload_n 2, 1) := by decide +kernel
theorem dX11_readLand_49 : decode cX11_readLand 49 = .ok (.iconst 4, 1) := by decide +kernel
theorem dX11_readLand_50 : decode cX11_readLand 50 = .ok (.if_icmp .ge 20, 3) := by decide +kernel
theorem dX11_readLand_53 : decode cX11_readLand 53 = .ok (.aload_n 0, 1) := by decide +kernel
theorem dX11_readLand_54 : decode cX11_readLand 54 = .ok (.getfield 31, 3) := by decide +kernel
theorem dX11_readLand_57 : decode cX11_readLand 57 = .ok (.iconst 4, 1) := by decide +kernel
theorem dX11_readLand_58 : decode cX11_readLand 58 = .ok (.iload_n 1, 1) := by decide +kernel
theorem dX11_readLand_59 : decode cX11_readLand 59 = .ok (.imul, 1) := by decide +kernel
theorem dX11_readLand_60 : decode cX11_readLand 60 = .ok (.iload_n 2, 1) := by decide +kernel
theorem dX11_readLand_61 : decode cX11_readLand 61 = .ok (.iadd, 1) := by decide +kernel
theorem dX11_readLand_62 : decode cX11_readLand 62 = .ok (.iconst 0, 1) := by decide +kernel
theorem dX11_readLand_63 : decode cX11_readLand 63 = .ok (.iastore, 1) := by decide +kernel
theorem dX11_readLand_64 : decode cX11_readLand 64 = .ok (.iinc 2 1, 3) := by decide +kernel
theorem dX11_readLand_67 : decode cX11_readLand 67 = .ok (.goto (-19), 3) := by decide +kernel
theorem dX11_readLand_70 : decode cX11_readLand 70 = .ok (.aload_n 0, 1) := by decide +kernel
theorem dX11_readLand_71 : decode cX11_readLand 71 = .ok (.invokevirtual 135, 3) := by decide +kernel
theorem dX11_readLand_74 : decode cX11_readLand 74 = .ok (.bipush 121, 2) := by decide +kernel
theorem dX11_readLand_76 : decode cX11_readLand 76 = .ok (.if_icmp .eq 7, 3) := by decide +kernel
theorem dX11_readLand_79 : decode cX11_readLand 79 = .ok (.aload_n 0, 1) := by decide +kernel
theorem dX11_readLand_80 : decode cX11_readLand 80 = .ok (.invokevirtual 142, 3) := by decide +kernel
theorem dX11_readLand_83 : decode cX11_readLand 83 = .ok (.aload_n 0, 1) := by decide +kernel
theorem dX11_readLand_84 : decode cX11_readLand 84 = .ok (.dup, 1) := by decide +kernel
theorem dX11_readLand_85 : decode cX11_readLand 85 = .ok (.getfield 125, 3) := by decide +kernel
theorem dX11_readLand_88 : decode cX11_readLand 88 = .ok (.iconst 1, 1) := by decide +kernel
theorem dX11_readLand_89 : decode cX11_readLand 89 = .ok (.iadd, 1) := by decide +kernel
theorem dX11_readLand_90 : decode cX11_readLand 90 = .ok (.putfield 125, 3) := by decide +kernel
theorem dX11_readLand_93 : decode cX11_readLand 93 = .ok (.aload_n 0, 1) := by decide +kernel
theorem dX11_readLand_94 : decode cX11_readLand 94 = .ok (.getfield 13, 3) := by decide +kernel
theorem dX11_readLand_97 : decode cX11_readLand 97 = .ok (.iload_n 1, 1) := by decide +kernel
theorem dX11_readLand_98 : decode cX11_readLand 98 = .ok (.aload_n 0, 1) := by decide +kernel
theorem dX11_readLand_99 : decode cX11_readLand 99 = .ok (.iconst 1, 1) := by decide +kernel
theorem dX11_readLand_100 : decode cX11_readLand 100 = .ok (.iconst 4, 1) := by decide +kernel
theorem dX11_readLand_101 : decode cX11_readLand 101 = .ok (.iconst (-1), 1) := by decide +kernel
theorem dX11_readLand_102 : decode cX11_readLand 102 = .ok (.iconst (-1), 1) := by decide +kernel
theorem dX11_readLand_103 : decode cX11_readLand 103 = .ok (.invokevirtual 149, 3) := by decide +kernel
theorem dX11_readLand_106 : decode cX11_readLand 106 = .ok (.iastore, 1) := by decide +kernel
theorem dX11_readLand_107 : decode cX11_readLand 107 = .ok (.aload_n 0, 1) := by decide +kernel
theorem dX11_readLand_108 : decode cX11_readLand 108 = .ok (.getfield 132, 3) := by decide +kernel
theorem dX11_readLand_111 : decode cX11_readLand 111 = .ok (.iconst (-1), 1) := by decide +kernel
theorem dX11_readLand_112 : decode cX11_readLand 112 = .ok (.if_icmp .ne 30, 3) := by decide +kernel
theorem dX11_readLand_115 : decode cX11_readLand 115 = .ok (.aload_n 0, 1) := by decide +kernel
theorem dX11_readLand_116 : decode cX11_readLand 116 = .ok (.invokevirtual 135, 3) := by decide +kernel
theorem dX11_readLand_119 : decode cX11_readLand 119 = .ok (.bipush 59, 2) := by decide +kernel
theorem dX11_readLand_121 : decode cX11_readLand 121 = .ok (.if_icmp .ne 21, 3) := by decide +kernel
theorem dX11_readLand_124 : decode cX11_readLand 124 = .ok (.aload_n 0, 1) := by decide +kernel
theorem dX11_readLand_125 : decode cX11_readLand 125 = .ok (.dup, 1) := by decide +kernel
theorem dX11_readLand_126 : decode cX11_readLand 126 = .ok (.getfield 125, 3) := by decide +kernel
theorem dX11_readLand_129 : decode cX11_readLand 129 = .ok (.iconst 1, 1) := by decide +kernel
theorem dX11_readLand_130 : decode cX11_readLand 130 = .ok (.iadd, 1) := by decide +kernel
theorem dX11_readLand_131 : decode cX11_readLand 131 = .ok (.putfield 125, 3) := by decide +kernel
theorem dX11_readLand_134 : decode cX11_readLand 134 = .ok (.aload_n 0, 1) := by decide +kernel
theorem dX11_readLand_135 : decode cX11_readLand 135 = .ok (.iload_n 1, 1) := by decide +kernel
theorem dX11_readLand_136 : decode cX11_readLand 136 = .ok (.invokevirtual 153, 3) := by decide +kernel
theorem dX11_readLand_139 : decode cX11_readLand 139 = .ok (.goto (-32), 3) := by decide +kernel
theorem dX11_readLand_142 : decode cX11_readLand 142 = .ok (.aload_n 0, 1) := by decide +kernel
theorem dX11_readLand_143 : decode cX11_readLand 143 = .ok (.getfield 132, 3) := by decide +kernel
theorem dX11_readLand_146 : decode cX11_readLand 146 = .ok (.iconst (-1), 1) := by decide +kernel
theorem dX11_readLand_147 : decode cX11_readLand 147 = .ok (.if_icmp .ne 15, 3) := by decide +kernel
theorem dX11_readLand_150 : decode cX11_readLand 150 = .ok (.aload_n 0, 1) := by decide +kernel
theorem dX11_readLand_151 : decode cX11_readLand 151 = .ok (.invokevirtual 135, 3) := by decide +kernel
theorem dX11_readLand_154 : decode cX11_readLand 154 = .ok (.iconst (-1), 1) := by decide +kernel
theorem dX11_readLand_155 : decode cX11_readLand 155 = .ok (.if_icmp .eq 7, 3) := by decide +kernel
theorem dX11_readLand_158 : decode cX11_readLand 158 = .ok (.aload_n 0, 1) := by decide +kernel
theorem dX11_readLand_159 : decode cX11_readLand 159 = .ok (.invokevirtual 142, 3) := by decide +kernel
theorem dX11_readLand_162 : decode cX11_readLand 162 = .ok (.iconst 0, 1) := by decide +kernel
theorem dX11_readLand_163 : decode cX11_readLand 163 = .ok (.istore_n 2, 1) := by decide +kernel
theorem dX11_readLand_164 : decode cX11_readLand 164 = .ok (.iload_n 2, 1) := by decide +kernel
theorem dX11_readLand_165 : decode cX11_readLand 165 = .ok (.iconst 4, 1) := by decide +kernel
theorem dX11_readLand_166 : decode cX11_readLand 166 = .ok (.if_icmp .ge 38, 3) := by decide +kernel
theorem dX11_readLand_169 : decode cX11_readLand 169 = .ok (.aload_n 0, 1) := by decide +kernel
theorem dX11_readLand_170 : decode cX11_readLand 170 = .ok (.getfield 132, 3) := by decide +kernel
theorem dX11_readLand_173 : decode cX11_readLand 173 = .ok (.iconst (-1), 1) := by decide +kernel
theorem dX11_readLand_174 : decode cX11_readLand 174 = .ok (.if_icmp .ne 30, 3) := by decide +kernel
theorem dX11_readLand_177 : decode cX11_readLand 177 = .ok (.aload_n 0, 1) := by decide +kernel
theorem dX11_readLand_178 : decode cX11_readLand 178 = .ok (.getfield 31, 3) := by decide +kernel
theorem dX11_readLand_181 : decode cX11_readLand 181 = .ok (.iconst 4, 1) := by decide +kernel
theorem dX11_readLand_182 : decode cX11_readLand 182 = .ok (.iload_n 1, 1) := by decide +kernel
theorem dX11_readLand_183 : decode cX11_readLand 183 = .ok (.imul, 1) := by decide +kernel
theorem dX11_readLand_184 : decode cX11_readLand 184 = .ok (.iload_n 2, 1) := by decide +kernel
theorem dX11_readLand_185 : decode cX11_readLand 185 = .ok (.iadd, 1) := by decide +kernel
theorem dX11_readLand_186 : decode cX11_readLand 186 = .ok (.iaload, 1) := by decide +kernel
theorem dX11_readLand_187 : decode cX11_readLand 187 = .ok (.ifCond .ne 11, 3) := by decide +kernel
theorem dX11_readLand_190 : decode cX11_readLand 190 = .ok (.aload_n 0, 1) := by decide +kernel
theorem dX11_readLand_191 : decode cX11_readLand 191 = .ok (.iload_n 1, 1) := by decide +kernel
theorem dX11_readLand_192 : decode cX11_readLand 192 = .ok (.iload_n 2, 1) := by decide +kernel
theorem dX11_readLand_193 : decode cX11_readLand 193 = .ok (.iconst 0, 1) := by decide +kernel
theorem dX11_readLand_194 : decode cX11_readLand 194 = .ok (.iconst 1, 1) := by decide +kernel
theorem dX11_readLand_195 : decode cX11_readLand 195 = .ok (.invokevirtual 157, 3) := by decide +kernel
theorem dX11_readLand_198 : decode cX11_readLand 198 = .ok (.iinc 2 1, 3) := by decide +kernel
theorem dX11_readLand_201 : decode cX11_readLand 201 = .ok (.goto (-37), 3) := by decide +kernel
theorem dX11_readLand_204 : decode cX11_readLand 204 = .ok (.aload_n 0, 1) := by decide +kernel
theorem dX11_readLand_205 : decode cX11_readLand 205 = .ok (.getfield 132, 3) := by decide +kernel
theorem dX11_readLand_208 : decode cX11_readLand 208 = .ok (.ireturn, 1) := by decide +kernel
theorem dX11_addHarvest_0 : decode cX11_addHarvest 0 = .ok (.iconst 4, 1) := by decide +kernel
theorem dX11_addHarvest_1 : decode cX11_addHarvest 1 = .ok (.iload_n 1, 1) := by decide +kernel
theorem dX11_addHarvest_2 : decode cX11_addHarvest 2 = .ok (.imul, 1) := by decide +kernel
theorem dX11_addHarvest_3 : decode cX11_addHarvest 3 = .ok (.iload_n 2, 1) := by decide +kernel
theorem dX11_addHarvest_4 : decode cX11_addHarvest 4 = .ok (.iadd, 1) := by decide +kernel
theorem dX11_addHarvest_5 : decode cX11_addHarvest 5 = .ok (.istore 5, 2) := by decide +kernel
theorem dX11_addHarvest_7 : decode cX11_addHarvest 7 = .ok (.aload_n 0, 1) := by decide +kernel
theorem dX11_addHarvest_8 : decode cX11_addHarvest 8 = .ok (.getfield 25, 3) := by decide +kernel
theorem dX11_addHarvest_11 : decode cX11_addHarvest 11 = .ok (.iconst 4, 1) := by decide +kernel
theorem dX11_addHarvest_12 : decode cX11_addHarvest 12 = .ok (.iload 5, 2) := by decide +kernel
theorem dX11_addHarvest_14 : decode cX11_addHarvest 14 = .ok (.imul, 1) := by decide +kernel
theorem dX11_addHarvest_15 : decode cX11_addHarvest 15 = .ok (.aload_n 0, 1) := by decide +kernel
theorem dX11_addHarvest_16 : decode cX11_addHarvest 16 = .ok (.getfield 31, 3) := by decide +kernel
theorem dX11_addHarvest_19 : decode cX11_addHarvest 19 = .ok (.iload 5, 2) := by decide +kernel
theorem dX11_addHarvest_21 : decode cX11_addHarvest 21 = .ok (.iaload, 1) := by decide +kernel
theorem dX11_addHarvest_22 : decode cX11_addHarvest 22 = .ok (.iadd, 1) := by decide +kernel
theorem dX11_addHarvest_23 : decode cX11_addHarvest 23 = .ok (.iload_n 3, 1) := by decide +kernel
theorem dX11_addHarvest_24 : decode cX11_addHarvest 24 = .ok (.iastore, 1) := by decide +kernel
theorem dX11_addHarvest_25 : decode cX11_addHarvest 25 = .ok (.aload_n 0, 1) := by decide +kernel
theorem dX11_addHarvest_26 : decode cX11_addHarvest 26 = .ok (.getfield 28, 3) := by decide +kernel
theorem dX11_addHarvest_29 : decode cX11_addHarvest 29 = .ok (.iconst 4, 1) := by decide +kernel
theorem dX11_addHarvest_30 : decode cX11_addHarvest 30 = .ok (.iload 5, 2) := by decide +kernel
theorem dX11_addHarvest_32 : decode cX11_addHarvest 32 = .ok (.imul, 1) := by decide +kernel
theorem dX11_addHarvest_33 : decode cX11_addHarvest 33 = .ok (.aload_n 0, 1) := by decide +kernel
theorem dX11_addHarvest_34 : decode cX11_addHarvest 34 = .ok (.getfield 31, 3) := by decide +kernel
theorem dX11_addHarvest_37 : decode cX11_addHarvest 37 = .ok (.iload 5, 2) := by decide +kernel
theorem dX11_addHarvest_39 : decode cX11_addHarvest 39 = .ok (.iaload, 1) := by decide +kernel
theorem dX11_addHarvest_40 : decode cX11_addHarvest 40 = .ok (.iadd, 1) := by decide +kernel
theorem dX11_addHarvest_41 : decode cX11_addHarvest 41 = .ok (.iload 4, 2) := by decide +kernel
theorem dX11_addHarvest_43 : decode cX11_addHarvest 43 = .ok (.iastore, 1) := by decide +kernel
theorem dX11_addHarvest_44 : decode cX11_addHarvest 44 = .ok (.aload_n 0, 1) := by decide +kernel
theorem dX11_addHarvest_45 : decode cX11_addHarvest 45 = .ok (.getfield 31, 3) := by decide +kernel
theorem dX11_addHarvest_48 : decode cX11_addHarvest 48 = .ok (.iload 5, 2) := by decide +kernel
theorem dX11_addHarvest_50 : decode cX11_addHarvest 50 = .ok (.dup2, 1) := by decide +kernel
theorem dX11_addHarvest_51 : decode cX11_addHarvest 51 = .ok (.iaload, 1) := by decide +kernel
theorem dX11_addHarvest_52 : decode cX11_addHarvest 52 = .ok (.iconst 1, 1) := by decide +kernel
theorem dX11_addHarvest_53 : decode cX11_addHarvest 53 = .ok (.iadd, 1) := by decide +kernel
theorem dX11_addHarvest_54 : decode cX11_addHarvest 54 = .ok (.iastore, 1) := by decide +kernel
theorem dX11_addHarvest_55 : decode cX11_addHarvest 55 = .ok (.return_, 1) := by decide +kernel
theorem dX11_statement_0 : decode cX11_statement 0 = .ok (.aload_n 0, 1) := by decide +kernel
theorem dX11_statement_1 : decode cX11_statement 1 = .ok (.invokevirtual 135, 3) := by decide +kernel
theorem dX11_statement_4 : decode cX11_statement 4 = .ok (.istore_n 2, 1) := by decide +kernel
theorem dX11_statement_5 : decode cX11_statement 5 = .ok (.iload_n 2, 1) := by decide +kernel
theorem dX11_statement_6 : decode cX11_statement 6 = .ok (.bipush 119, 2) := by decide +kernel
theorem dX11_statement_8 : decode cX11_statement 8 = .ok (.if_icmp .ne 14, 3) := by decide +kernel
theorem dX11_statement_11 : decode cX11_statement 11 = .ok (.aload_n 0, 1) := by decide +kernel
theorem dX11_statement_12 : decode cX11_statement 12 = .ok (.getfield 22, 3) := by decide +kernel
theorem dX11_statement_15 : decode cX11_statement 15 = .ok (.iload_n 1, 1) := by decide +kernel
theorem dX11_statement_16 : decode cX11_statement 16 = .ok (.iaload, 1) := by decide +kernel
theorem dX11_statement_17 : decode cX11_statement 17 = .ok (.bipush 20, 2) := by decide +kernel
theorem dX11_statement_19 : decode cX11_statement 19 = .ok (.if_icmp .lt 27, 3) := by decide +kernel
theorem dX11_statement_22 : decode cX11_statement 22 = .ok (.iload_n 2, 1) := by decide +kernel
theorem dX11_statement_23 : decode cX11_statement 23 = .ok (.bipush 104, 2) := by decide +kernel
theorem dX11_statement_25 : decode cX11_statement 25 = .ok (.if_icmp .eq 21, 3) := by decide +kernel
theorem dX11_statement_28 : decode cX11_statement 28 = .ok (.iload_n 2, 1) := by decide +kernel
theorem dX11_statement_29 : decode cX11_statement 29 = .ok (.bipush 99, 2) := by decide +kernel
theorem dX11_statement_31 : decode cX11_statement 31 = .ok (.if_icmp .eq 15, 3) := by decide +kernel
theorem dX11_statement_34 : decode cX11_statement 34 = .ok (.iload_n 2, 1) := by decide +kernel
theorem dX11_statement_35 : decode cX11_statement 35 = .ok (.bipush 109, 2) := by decide +kernel
theorem dX11_statement_37 : decode cX11_statement 37 = .ok (.if_icmp .eq 9, 3) := by decide +kernel
theorem dX11_statement_40 : decode cX11_statement 40 = .ok (.iload_n 2, 1) := by decide +kernel
theorem dX11_statement_41 : decode cX11_statement 41 = .ok (.bipush 114, 2) := by decide +kernel
theorem dX11_statement_43 : decode cX11_statement 43 = .ok (.if_icmp .ne 7, 3) := by decide +kernel
theorem dX11_statement_46 : decode cX11_statement 46 = .ok (.iconst 1, 1) := by decide +kernel
theorem dX11_statement_47 : decode cX11_statement 47 = .ok (.goto 4, 3) := by decide +kernel
theorem dX11_statement_50 : decode cX11_statement 50 = .ok (.iconst 0, 1) := by decide +kernel
theorem dX11_statement_51 : decode cX11_statement 51 = .ok (.istore_n 3, 1) := by decide +kernel
theorem dX11_statement_52 : decode cX11_statement 52 = .ok (.iload_n 3, 1) := by decide +kernel
theorem dX11_statement_53 : decode cX11_statement 53 = .ok (.ifCond .ne 8, 3) := by decide +kernel
theorem dX11_statement_56 : decode cX11_statement 56 = .ok (.aload_n 0, 1) := by decide +kernel
theorem dX11_statement_57 : decode cX11_statement 57 = .ok (.invokevirtual 142, 3) := by decide +kernel
theorem dX11_statement_60 : decode cX11_statement 60 = .ok (.return_, 1) := by decide +kernel
theorem dX11_statement_61 : decode cX11_statement 61 = .ok (.aload_n 0, 1) := by decide +kernel
theorem dX11_statement_62 : decode cX11_statement 62 = .ok (.dup, 1) := by decide +kernel
theorem dX11_statement_63 : decode cX11_statement 63 = .ok (.getfield 125, 3) := by decide +kernel
theorem dX11_statement_66 : decode cX11_statement 66 = .ok (.iconst 1, 1) := by decide +kernel
theorem dX11_statement_67 : decode cX11_statement 67 = .ok (.iadd, 1) := by decide +kernel
theorem dX11_statement_68 : decode cX11_statement 68 = .ok (.putfield 125, 3) := by decide +kernel
theorem dX11_statement_71 : decode cX11_statement 71 = .ok (.iload_n 2, 1) := by decide +kernel
theorem dX11_statement_72 : decode cX11_statement 72 = .ok (.bipush 119, 2) := by decide +kernel
theorem dX11_statement_74 : decode cX11_statement 74 = .ok (.if_icmp .ne 69, 3) := by decide +kernel
theorem dX11_statement_77 : decode cX11_statement 77 = .ok (.aload_n 0, 1) := by decide +kernel
theorem dX11_statement_78 : decode cX11_statement 78 = .ok (.iconst 1, 1) := by decide +kernel
theorem dX11_statement_79 : decode cX11_statement 79 = .ok (.bipush 99, 2) := by decide +kernel
theorem dX11_statement_81 : decode cX11_statement 81 = .ok (.iconst (-1), 1) := by decide +kernel
theorem dX11_statement_82 : decode cX11_statement 82 = .ok (.iconst (-1), 1) := by decide +kernel
theorem dX11_statement_83 : decode cX11_statement 83 = .ok (.invokevirtual 149, 3) := by decide +kernel
theorem dX11_statement_86 : decode cX11_statement 86 = .ok (.istore 4, 2) := by decide +kernel
theorem dX11_statement_88 : decode cX11_statement 88 = .ok (.aload_n 0, 1) := by decide +kernel
theorem dX11_statement_89 : decode cX11_statement 89 = .ok (.iconst 1, 1) := by decide +kernel
theorem dX11_statement_90 : decode cX11_statement 90 = .ok (.bipush 9, 2) := by decide +kernel
theorem dX11_statement_92 : decode cX11_statement 92 = .ok (.iconst (-1), 1) := by decide +kernel
theorem dX11_statement_93 : decode cX11_statement 93 = .ok (.iconst (-1), 1) := by decide +kernel
theorem dX11_statement_94 : decode cX11_statement 94 = .ok (.invokevirtual 149, 3) := by decide +kernel
theorem dX11_statement_97 : decode cX11_statement 97 = .ok (.istore 5, 2) := by decide +kernel
theorem dX11_statement_99 : decode cX11_statement 99 = .ok (.aload_n 0, 1) := by decide +kernel
theorem dX11_statement_100 : decode cX11_statement 100 = .ok (.getfield 22, 3) := by decide +kernel
theorem dX11_statement_103 : decode cX11_statement 103 = .ok (.iload_n 1, 1) := by decide +kernel
theorem dX11_statement_104 : decode cX11_statement 104 = .ok (.dup2, 1) := by decide +kernel
theorem dX11_statement_105 : decode cX11_statement 105 = .ok (.iaload, 1) := by decide +kernel
theorem dX11_statement_106 : decode cX11_statement 106 = .ok (.iconst 1, 1) := by decide +kernel
theorem dX11_statement_107 : decode cX11_statement 107 = .ok (.iadd, 1) := by decide +kernel
theorem dX11_statement_108 : decode cX11_statement 108 = .ok (.iastore, 1) := by decide +kernel
theorem dX11_statement_109 : decode cX11_statement 109 = .ok (.iconst 0, 1) := by decide +kernel
theorem dX11_statement_110 : decode cX11_statement 110 = .ok (.istore 6, 2) := by decide +kernel
theorem dX11_statement_112 : decode cX11_statement 112 = .ok (.iload 6, 2) := by decide +kernel
theorem dX11_statement_114 : decode cX11_statement 114 = .ok (.iload 5, 2) := by decide +kernel
theorem dX11_statement_116 : decode cX11_statement 116 = .ok (.if_icmp .ge 24, 3) := by decide +kernel
theorem dX11_statement_119 : decode cX11_statement 119 = .ok (.aload_n 0, 1) := by decide +kernel
theorem dX11_statement_120 : decode cX11_statement 120 = .ok (.getfield 132, 3) := by decide +kernel
theorem dX11_statement_123 : decode cX11_statement 123 = .ok (.iconst (-1), 1) := by decide +kernel
theorem dX11_statement_124 : decode cX11_statement 124 = .ok (.if_icmp .ne 16, 3) := by decide +kernel
theorem dX11_statement_127 : decode cX11_statement 127 = .ok (.aload_n 0, 1) := by decide +kernel
theorem dX11_statement_128 : decode cX11_statement 128 = .ok (.iload_n 1, 1) := by decide +kernel
theorem dX11_statement_129 : decode cX11_statement 129 = .ok (.iload 4, 2) := by decide +kernel
theorem dX11_statement_131 : decode cX11_statement 131 = .ok (.invokevirtual 161, 3) := by decide +kernel
theorem dX11_statement_134 : decode cX11_statement 134 = .ok (.iinc 6 1, 3) := by decide +kernel
theorem dX11_statement_137 : decode cX11_statement 137 = .ok (.goto (-25), 3) := by decide +kernel
theorem dX11_statement_140 : decode cX11_statement 140 = .ok (.goto 158, 3) := by decide +kernel
theorem dX11_statement_143 : decode cX11_statement 143 = .ok (.iload_n 2, 1) := by decide +kernel
theorem dX11_statement_144 : decode cX11_statement 144 = .ok (.bipush 104, 2) := by decide +kernel
theorem dX11_statement_146 : decode cX11_statement 146 = .ok (.if_icmp .ne 89, 3) := by decide +kernel
theorem dX11_statement_149 : decode cX11_statement 149 = .ok (.aload_n 0, 1) := by decide +kernel
theorem dX11_statement_150 : decode cX11_statement 150 = .ok (.iconst 0, 1) := by decide +kernel
theorem dX11_statement_151 : decode cX11_statement 151 = .ok (.aload_n 0, 1) := by decide +kernel
theorem dX11_statement_152 : decode cX11_statement 152 = .ok (.getfield 13, 3) := by decide +kernel
theorem dX11_statement_155 : decode cX11_statement 155 = .ok (.iload_n 1, 1) := by decide +kernel
theorem dX11_statement_156 : decode cX11_statement 156 = .ok (.iaload, 1) := by decide +kernel
theorem dX11_statement_157 : decode cX11_statement 157 = .ok (.iconst 1, 1) := by decide +kernel
theorem dX11_statement_158 : decode cX11_statement 158 = .ok (.isub, 1) := by decide +kernel
theorem dX11_statement_159 : decode cX11_statement 159 = .ok (.iload_n 1, 1) := by decide +kernel
theorem dX11_statement_160 : decode cX11_statement 160 = .ok (.iconst (-1), 1) := by decide +kernel
theorem dX11_statement_161 : decode cX11_statement 161 = .ok (.invokevirtual 149, 3) := by decide +kernel
theorem dX11_statement_164 : decode cX11_statement 164 = .ok (.istore 4, 2) := by decide +kernel
theorem dX11_statement_166 : decode cX11_statement 166 = .ok (.aload_n 0, 1) := by decide +kernel
theorem dX11_statement_167 : decode cX11_statement 167 = .ok (.iconst 0, 1) := by decide +kernel
theorem dX11_statement_168 : decode cX11_statement 168 = .ok (.bipush 20, 2) := by decide +kernel
theorem dX11_statement_170 : decode cX11_statement 170 = .ok (.iconst (-1), 1) := by decide +kernel
theorem dX11_statement_171 : decode cX11_statement 171 = .ok (.iconst (-1), 1) := by decide +kernel
theorem dX11_statement_172 : decode cX11_statement 172 = .ok (.invokevirtual 149, 3) := by decide +kernel
theorem dX11_statement_175 : decode cX11_statement 175 = .ok (.istore 5, 2) := by decide +kernel
theorem dX11_statement_177 : decode cX11_statement 177 = .ok (.aload_n 0, 1) := by decide +kernel
theorem dX11_statement_178 : decode cX11_statement 178 = .ok (.iconst 1, 1) := by decide +kernel
theorem dX11_statement_179 : decode cX11_statement 179 = .ok (.bipush 9, 2) := by decide +kernel
theorem dX11_statement_181 : decode cX11_statement 181 = .ok (.bipush 12, 2) := by decide +kernel
theorem dX11_statement_183 : decode cX11_statement 183 = .ok (.aload_n 0, 1) := by decide +kernel
theorem dX11_statement_184 : decode cX11_statement 184 = .ok (.getfield 132, 3) := by decide +kernel
theorem dX11_statement_187 : decode cX11_statement 187 = .ok (.iconst (-1), 1) := by decide +kernel
theorem dX11_statement_188 : decode cX11_statement 188 = .ok (.if_icmp .ne 13, 3) := by decide +kernel
theorem dX11_statement_191 : decode cX11_statement 191 = .ok (.aload_n 0, 1) := by decide +kernel
theorem dX11_statement_192 : decode cX11_statement 192 = .ok (.iload_n 1, 1) := by decide +kernel
theorem dX11_statement_193 : decode cX11_statement 193 = .ok (.iload 4, 2) := by decide +kernel
theorem dX11_statement_195 : decode cX11_statement 195 = .ok (.invokevirtual 165, 3) := by decide +kernel
theorem dX11_statement_198 : decode cX11_statement 198 = .ok (.goto 4, 3) := by decide +kernel
theorem dX11_statement_201 : decode cX11_statement 201 = .ok (.iconst 0, 1) := by decide +kernel
theorem dX11_statement_202 : decode cX11_statement 202 = .ok (.isub, 1) := by decide +kernel
theorem dX11_statement_203 : decode cX11_statement 203 = .ok (.invokestatic 169, 3) := by decide +kernel
theorem dX11_statement_206 : decode cX11_statement 206 = .ok (.iconst (-1), 1) := by decide +kernel
theorem dX11_statement_207 : decode cX11_statement 207 = .ok (.iconst (-1), 1) := by decide +kernel
theorem dX11_statement_208 : decode cX11_statement 208 = .ok (.invokevirtual 149, 3) := by decide +kernel
theorem dX11_statement_211 : decode cX11_statement 211 = .ok (.istore 6, 2) := by decide +kernel
theorem dX11_statement_213 : decode cX11_statement 213 = .ok (.aload_n 0, 1) := by decide +kernel
theorem dX11_statement_214 : decode cX11_statement 214 = .ok (.getfield 132, 3) := by decide +kernel
theorem dX11_statement_217 : decode cX11_statement 217 = .ok (.iconst (-1), 1) := by decide +kernel
theorem dX11_statement_218 : decode cX11_statement 218 = .ok (.if_icmp .ne 14, 3) := by decide +kernel
theorem dX11_statement_221 : decode cX11_statement 221 = .ok (.aload_n 0, 1) := by decide +kernel
theorem dX11_statement_222 : decode cX11_statement 222 = .ok (.iload_n 1, 1) := by decide +kernel
theorem dX11_statement_223 : decode cX11_statement 223 = .ok (.iload 4, 2) := by decide +kernel
theorem dX11_statement_225 : decode cX11_statement 225 = .ok (.iload 5, 2) := by decide +kernel
theorem dX11_statement_227 : decode cX11_statement 227 = .ok (.iload 6, 2) := by decide +kernel
theorem dX11_statement_229 : decode cX11_statement 229 = .ok (.invokevirtual 157, 3) := by decide +kernel
theorem dX11_statement_232 : decode cX11_statement 232 = .ok (.goto 66, 3) := by decide +kernel
theorem dX11_statement_235 : decode cX11_statement 235 = .ok (.iload_n 2, 1) := by decide +kernel
theorem dX11_statement_236 : decode cX11_statement 236 = .ok (.bipush 99, 2) := by decide +kernel
theorem dX11_statement_238 : decode cX11_statement 238 = .ok (.if_icmp .ne 21, 3) := by decide +kernel
theorem dX11_statement_241 : decode cX11_statement 241 = .ok (.aload_n 0, 1) := by decide +kernel
theorem dX11_statement_242 : decode cX11_statement 242 = .ok (.getfield 34, 3) := by decide +kernel
theorem dX11_statement_245 : decode cX11_statement 245 = .ok (.iload_n 1, 1) := by decide +kernel
theorem dX11_statement_246 : decode cX11_statement 246 = .ok (.aload_n 0, 1) := by decide +kernel
theorem dX11_statement_247 : decode cX11_statement 247 = .ok (.iconst 0, 1) := by decide +kernel
theorem dX11_statement_248 : decode cX11_statement 248 = .ok (.bipush 30, 2) := by decide +kernel
theorem dX11_statement_250 : decode cX11_statement 250 = .ok (.iconst (-1), 1) := by decide +kernel
theorem dX11_statement_251 : decode cX11_statement 251 = .ok (.iconst (-1), 1) := by decide +kernel
theorem dX11_statement_252 : decode cX11_statement 252 = .ok (.invokevirtual 149, 3) := by decide +kernel
theorem dX11_statement_255 : decode cX11_statement 255 = .ok (.iastore, 1) := by decide +kernel
theorem dX11_statement_256 : decode cX11_statement 256 = .ok (.goto 42, 3) := by decide +kernel
theorem dX11_statement_259 : decode cX11_statement 259 = .ok (.iload_n 2, 1) := by decide +kernel
theorem dX11_statement_260 : decode cX11_statement 260 = .ok (.bipush 114, 2) := by decide +kernel
theorem dX11_statement_262 : decode cX11_statement 262 = .ok (.if_icmp .ne 21, 3) := by decide +kernel
theorem dX11_statement_265 : decode cX11_statement 265 = .ok (.aload_n 0, 1) := by decide +kernel
theorem dX11_statement_266 : decode cX11_statement 266 = .ok (.getfield 40, 3) := by decide +kernel
theorem dX11_statement_269 : decode cX11_statement 269 = .ok (.iload_n 1, 1) := by decide +kernel
theorem dX11_statement_270 : decode cX11_statement 270 = .ok (.aload_n 0, 1) := by decide +kernel
theorem dX11_statement_271 : decode cX11_statement 271 = .ok (.iconst 0, 1) := by decide +kernel
theorem dX11_statement_272 : decode cX11_statement 272 = .ok (.bipush 20, 2) := by decide +kernel
theorem dX11_statement_274 : decode cX11_statement 274 = .ok (.iconst (-1), 1) := by decide +kernel
theorem dX11_statement_275 : decode cX11_statement 275 = .ok (.iconst (-1), 1) := by decide +kernel
theorem dX11_statement_276 : decode cX11_statement 276 = .ok (.invokevirtual 149, 3) := by decide +kernel
theorem dX11_statement_279 : decode cX11_statement 279 = .ok (.iastore, 1) := by decide +kernel
theorem dX11_statement_280 : decode cX11_statement 280 = .ok (.goto 18, 3) := by decide +kernel
theorem dX11_statement_283 : decode cX11_statement 283 = .ok (.aload_n 0, 1) := by decide +kernel
theorem dX11_statement_284 : decode cX11_statement 284 = .ok (.getfield 37, 3) := by decide +kernel
theorem dX11_statement_287 : decode cX11_statement 287 = .ok (.iload_n 1, 1) := by decide +kernel
theorem dX11_statement_288 : decode cX11_statement 288 = .ok (.aload_n 0, 1) := by decide +kernel
theorem dX11_statement_289 : decode cX11_statement 289 = .ok (.iconst 0, 1) := by decide +kernel
theorem dX11_statement_290 : decode cX11_statement 290 = .ok (.bipush 20, 2) := by decide +kernel
theorem dX11_statement_292 : decode cX11_statement 292 = .ok (.iconst (-1), 1) := by decide +kernel
theorem dX11_statement_293 : decode cX11_statement 293 = .ok (.iconst 1, 1) := by decide +kernel
theorem dX11_statement_294 : decode cX11_statement 294 = .ok (.invokevirtual 149, 3) := by decide +kernel
theorem dX11_statement_297 : decode cX11_statement 297 = .ok (.iastore, 1) := by decide +kernel
theorem dX11_statement_298 : decode cX11_statement 298 = .ok (.return_, 1) := by decide +kernel
theorem dX11_addEater_0 : decode cX11_addEater 0 = .ok (.aload_n 0, 1) := by decide +kernel
theorem dX11_addEater_1 : decode cX11_addEater 1 = .ok (.getfield 19, 3) := by decide +kernel
theorem dX11_addEater_4 : decode cX11_addEater 4 = .ok (.iload_n 1, 1) := by decide +kernel
theorem dX11_addEater_5 : decode cX11_addEater 5 = .ok (.iaload, 1) := by decide +kernel
theorem dX11_addEater_6 : decode cX11_addEater 6 = .ok (.istore_n 3, 1) := by decide +kernel
theorem dX11_addEater_7 : decode cX11_addEater 7 = .ok (.iload_n 3, 1) := by decide +kernel
theorem dX11_addEater_8 : decode cX11_addEater 8 = .ok (.ifCond .le 53, 3) := by decide +kernel
theorem dX11_addEater_11 : decode cX11_addEater 11 = .ok (.aload_n 0, 1) := by decide +kernel
theorem dX11_addEater_12 : decode cX11_addEater 12 = .ok (.getfield 16, 3) := by decide +kernel
theorem dX11_addEater_15 : decode cX11_addEater 15 = .ok (.sipush 180, 3) := by decide +kernel
theorem dX11_addEater_18 : decode cX11_addEater 18 = .ok (.iload_n 1, 1) := by decide +kernel
theorem dX11_addEater_19 : decode cX11_addEater 19 = .ok (.imul, 1) := by decide +kernel
theorem dX11_addEater_20 : decode cX11_addEater 20 = .ok (.iload_n 3, 1) := by decide +kernel
theorem dX11_addEater_21 : decode cX11_addEater 21 = .ok (.iadd, 1) := by decide +kernel
theorem dX11_addEater_22 : decode cX11_addEater 22 = .ok (.iconst 1, 1) := by decide +kernel
theorem dX11_addEater_23 : decode cX11_addEater 23 = .ok (.isub, 1) := by decide +kernel
theorem dX11_addEater_24 : decode cX11_addEater 24 = .ok (.iaload, 1) := by decide +kernel
theorem dX11_addEater_25 : decode cX11_addEater 25 = .ok (.iload_n 2, 1) := by decide +kernel
theorem dX11_addEater_26 : decode cX11_addEater 26 = .ok (.if_icmp .ge 35, 3) := by decide +kernel
theorem dX11_addEater_29 : decode cX11_addEater 29 = .ok (.aload_n 0, 1) := by decide +kernel
theorem dX11_addEater_30 : decode cX11_addEater 30 = .ok (.getfield 16, 3) := by decide +kernel
theorem dX11_addEater_33 : decode cX11_addEater 33 = .ok (.sipush 180, 3) := by decide +kernel
theorem dX11_addEater_36 : decode cX11_addEater 36 = .ok (.iload_n 1, 1) := by decide +kernel
theorem dX11_addEater_37 : decode cX11_addEater 37 = .ok (.imul, 1) := by decide +kernel
theorem dX11_addEater_38 : decode cX11_addEater 38 = .ok (.iload_n 3, 1) := by decide +kernel
theorem dX11_addEater_39 : decode cX11_addEater 39 = .ok (.iadd, 1) := by decide +kernel
theorem dX11_addEater_40 : decode cX11_addEater 40 = .ok (.aload_n 0, 1) := by decide +kernel
theorem dX11_addEater_41 : decode cX11_addEater 41 = .ok (.getfield 16, 3) := by decide +kernel
theorem dX11_addEater_44 : decode cX11_addEater 44 = .ok (.sipush 180, 3) := by decide +kernel
theorem dX11_addEater_47 : decode cX11_addEater 47 = .ok (.iload_n 1, 1) := by decide +kernel
theorem dX11_addEater_48 : decode cX11_addEater 48 = .ok (.imul, 1) := by decide +kernel
theorem dX11_addEater_49 : decode cX11_addEater 49 = .ok (.iload_n 3, 1) := by decide +kernel
theorem dX11_addEater_50 : decode cX11_addEater 50 = .ok (.iadd, 1) := by decide +kernel
theorem dX11_addEater_51 : decode cX11_addEater 51 = .ok (.iconst 1, 1) := by decide +kernel
theorem dX11_addEater_52 : decode cX11_addEater 52 = .ok (.isub, 1) := by decide +kernel
theorem dX11_addEater_53 : decode cX11_addEater 53 = .ok (.iaload, 1) := by decide +kernel
theorem dX11_addEater_54 : decode cX11_addEater 54 = .ok (.iastore, 1) := by decide +kernel
theorem dX11_addEater_55 : decode cX11_addEater 55 = .ok (.iinc 3 (-1), 3) := by decide +kernel
theorem dX11_addEater_58 : decode cX11_addEater 58 = .ok (.goto (-51), 3) := by decide +kernel
theorem dX11_addEater_61 : decode cX11_addEater 61 = .ok (.aload_n 0, 1) := by decide +kernel
theorem dX11_addEater_62 : decode cX11_addEater 62 = .ok (.getfield 16, 3) := by decide +kernel
theorem dX11_addEater_65 : decode cX11_addEater 65 = .ok (.sipush 180, 3) := by decide +kernel
theorem dX11_addEater_68 : decode cX11_addEater 68 = .ok (.iload_n 1, 1) := by decide +kernel
theorem dX11_addEater_69 : decode cX11_addEater 69 = .ok (.imul, 1) := by decide +kernel
theorem dX11_addEater_70 : decode cX11_addEater 70 = .ok (.iload_n 3, 1) := by decide +kernel
theorem dX11_addEater_71 : decode cX11_addEater 71 = .ok (.iadd, 1) := by decide +kernel
theorem dX11_addEater_72 : decode cX11_addEater 72 = .ok (.iload_n 2, 1) := by decide +kernel
theorem dX11_addEater_73 : decode cX11_addEater 73 = .ok (.iastore, 1) := by decide +kernel
theorem dX11_addEater_74 : decode cX11_addEater 74 = .ok (.aload_n 0, 1) := by decide +kernel
theorem dX11_addEater_75 : decode cX11_addEater 75 = .ok (.getfield 19, 3) := by decide +kernel
theorem dX11_addEater_78 : decode cX11_addEater 78 = .ok (.iload_n 1, 1) := by decide +kernel
theorem dX11_addEater_79 : decode cX11_addEater 79 = .ok (.dup2, 1) := by decide +kernel
theorem dX11_addEater_80 : decode cX11_addEater 80 = .ok (.iaload, 1) := by decide +kernel
theorem dX11_addEater_81 : decode cX11_addEater 81 = .ok (.iconst 1, 1) := by decide +kernel
theorem dX11_addEater_82 : decode cX11_addEater 82 = .ok (.iadd, 1) := by decide +kernel
theorem dX11_addEater_83 : decode cX11_addEater 83 = .ok (.iastore, 1) := by decide +kernel
theorem dX11_addEater_84 : decode cX11_addEater 84 = .ok (.return_, 1) := by decide +kernel
theorem dX11_say_0 : decode cX11_say 0 = .ok (.aload_n 0, 1) := by decide +kernel
theorem dX11_say_1 : decode cX11_say 1 = .ok (.getfield 61, 3) := by decide +kernel
theorem dX11_say_4 : decode cX11_say 4 = .ok (.sipush 400, 3) := by decide +kernel
theorem dX11_say_7 : decode cX11_say 7 = .ok (.aload_n 0, 1) := by decide +kernel
theorem dX11_say_8 : decode cX11_say 8 = .ok (.getfield 174, 3) := by decide +kernel
theorem dX11_say_11 : decode cX11_say 11 = .ok (.imul, 1) := by decide +kernel
theorem dX11_say_12 : decode cX11_say 12 = .ok (.aload_n 0, 1) := by decide +kernel
theorem dX11_say_13 : decode cX11_say 13 = .ok (.getfield 177, 3) := by decide +kernel
theorem dX11_say_16 : decode cX11_say 16 = .ok (.iadd, 1) := by decide +kernel
theorem dX11_say_17 : decode cX11_say 17 = .ok (.iload_n 1, 1) := by decide +kernel
theorem dX11_say_18 : decode cX11_say 18 = .ok (.iastore, 1) := by decide +kernel
theorem dX11_say_19 : decode cX11_say 19 = .ok (.aload_n 0, 1) := by decide +kernel
theorem dX11_say_20 : decode cX11_say 20 = .ok (.dup, 1) := by decide +kernel
theorem dX11_say_21 : decode cX11_say 21 = .ok (.getfield 177, 3) := by decide +kernel
theorem dX11_say_24 : decode cX11_say 24 = .ok (.iconst 1, 1) := by decide +kernel
theorem dX11_say_25 : decode cX11_say 25 = .ok (.iadd, 1) := by decide +kernel
theorem dX11_say_26 : decode cX11_say 26 = .ok (.putfield 177, 3) := by decide +kernel
theorem dX11_say_29 : decode cX11_say 29 = .ok (.return_, 1) := by decide +kernel
theorem dX11_opens_0 : decode cX11_opens 0 = .ok (.aload_n 0, 1) := by decide +kernel
theorem dX11_opens_1 : decode cX11_opens 1 = .ok (.getfield 180, 3) := by decide +kernel
theorem dX11_opens_4 : decode cX11_opens 4 = .ok (.bipush 6, 2) := by decide +kernel
theorem dX11_opens_6 : decode cX11_opens 6 = .ok (.if_icmp .ne 8, 3) := by decide +kernel
theorem dX11_opens_9 : decode cX11_opens 9 = .ok (.aload_n 0, 1) := by decide +kernel
theorem dX11_opens_10 : decode cX11_opens 10 = .ok (.invokevirtual 142, 3) := by decide +kernel
theorem dX11_opens_13 : decode cX11_opens 13 = .ok (.return_, 1) := by decide +kernel
theorem dX11_opens_14 : decode cX11_opens 14 = .ok (.aload_n 0, 1) := by decide +kernel
theorem dX11_opens_15 : decode cX11_opens 15 = .ok (.dup, 1) := by decide +kernel
theorem dX11_opens_16 : decode cX11_opens 16 = .ok (.getfield 180, 3) := by decide +kernel
theorem dX11_opens_19 : decode cX11_opens 19 = .ok (.iconst 1, 1) := by decide +kernel
theorem dX11_opens_20 : decode cX11_opens 20 = .ok (.iadd, 1) := by decide +kernel
theorem dX11_opens_21 : decode cX11_opens 21 = .ok (.putfield 180, 3) := by decide +kernel
theorem dX11_opens_24 : decode cX11_opens 24 = .ok (.aload_n 0, 1) := by decide +kernel
theorem dX11_opens_25 : decode cX11_opens 25 = .ok (.dup, 1) := by decide +kernel
theorem dX11_opens_26 : decode cX11_opens 26 = .ok (.getfield 125, 3) := by decide +kernel
theorem dX11_opens_29 : decode cX11_opens 29 = .ok (.iconst 1, 1) := by decide +kernel
theorem dX11_opens_30 : decode cX11_opens 30 = .ok (.iadd, 1) := by decide +kernel
theorem dX11_opens_31 : decode cX11_opens 31 = .ok (.putfield 125, 3) := by decide +kernel
theorem dX11_opens_34 : decode cX11_opens 34 = .ok (.return_, 1) := by decide +kernel
theorem dX11_sign_0 : decode cX11_sign 0 = .ok (.aload_n 0, 1) := by decide +kernel
theorem dX11_sign_1 : decode cX11_sign 1 = .ok (.getfield 132, 3) := by decide +kernel
theorem dX11_sign_4 : decode cX11_sign 4 = .ok (.iconst (-1), 1) := by decide +kernel
theorem dX11_sign_5 : decode cX11_sign 5 = .ok (.if_icmp .ne 15, 3) := by decide +kernel
theorem dX11_sign_8 : decode cX11_sign 8 = .ok (.aload_n 0, 1) := by decide +kernel
theorem dX11_sign_9 : decode cX11_sign 9 = .ok (.invokevirtual 135, 3) := by decide +kernel
theorem dX11_sign_12 : decode cX11_sign 12 = .ok (.iload_n 1, 1) := by decide +kernel
theorem dX11_sign_13 : decode cX11_sign 13 = .ok (.if_icmp .eq 7, 3) := by decide +kernel
theorem dX11_sign_16 : decode cX11_sign 16 = .ok (.aload_n 0, 1) := by decide +kernel
theorem dX11_sign_17 : decode cX11_sign 17 = .ok (.invokevirtual 142, 3) := by decide +kernel
theorem dX11_sign_20 : decode cX11_sign 20 = .ok (.aload_n 0, 1) := by decide +kernel
theorem dX11_sign_21 : decode cX11_sign 21 = .ok (.dup, 1) := by decide +kernel
theorem dX11_sign_22 : decode cX11_sign 22 = .ok (.getfield 125, 3) := by decide +kernel
theorem dX11_sign_25 : decode cX11_sign 25 = .ok (.iconst 1, 1) := by decide +kernel
theorem dX11_sign_26 : decode cX11_sign 26 = .ok (.iadd, 1) := by decide +kernel
theorem dX11_sign_27 : decode cX11_sign 27 = .ok (.putfield 125, 3) := by decide +kernel
theorem dX11_sign_30 : decode cX11_sign 30 = .ok (.aload_n 0, 1) := by decide +kernel
theorem dX11_sign_31 : decode cX11_sign 31 = .ok (.dup, 1) := by decide +kernel
theorem dX11_sign_32 : decode cX11_sign 32 = .ok (.getfield 180, 3) := by decide +kernel
theorem dX11_sign_35 : decode cX11_sign 35 = .ok (.iconst 1, 1) := by decide +kernel
theorem dX11_sign_36 : decode cX11_sign 36 = .ok (.isub, 1) := by decide +kernel
theorem dX11_sign_37 : decode cX11_sign 37 = .ok (.putfield 180, 3) := by decide +kernel
theorem dX11_sign_40 : decode cX11_sign 40 = .ok (.return_, 1) := by decide +kernel
theorem dX11_isLetter_0 : decode cX11_isLetter 0 = .ok (.iload_n 0, 1) := by decide +kernel
theorem dX11_isLetter_1 : decode cX11_isLetter 1 = .ok (.bipush 97, 2) := by decide +kernel
theorem dX11_isLetter_3 : decode cX11_isLetter 3 = .ok (.if_icmp .eq 27, 3) := by decide +kernel
theorem dX11_isLetter_6 : decode cX11_isLetter 6 = .ok (.iload_n 0, 1) := by decide +kernel
theorem dX11_isLetter_7 : decode cX11_isLetter 7 = .ok (.bipush 115, 2) := by decide +kernel
theorem dX11_isLetter_9 : decode cX11_isLetter 9 = .ok (.if_icmp .eq 21, 3) := by decide +kernel
theorem dX11_isLetter_12 : decode cX11_isLetter 12 = .ok (.iload_n 0, 1) := by decide +kernel
theorem dX11_isLetter_13 : decode cX11_isLetter 13 = .ok (.bipush 110, 2) := by decide +kernel
theorem dX11_isLetter_15 : decode cX11_isLetter 15 = .ok (.if_icmp .eq 15, 3) := by decide +kernel
theorem dX11_isLetter_18 : decode cX11_isLetter 18 = .ok (.iload_n 0, 1) := by decide +kernel
theorem dX11_isLetter_19 : decode cX11_isLetter 19 = .ok (.bipush 112, 2) := by decide +kernel
theorem dX11_isLetter_21 : decode cX11_isLetter 21 = .ok (.if_icmp .eq 9, 3) := by decide +kernel
theorem dX11_isLetter_24 : decode cX11_isLetter 24 = .ok (.iload_n 0, 1) := by decide +kernel
theorem dX11_isLetter_25 : decode cX11_isLetter 25 = .ok (.bipush 114, 2) := by decide +kernel
theorem dX11_isLetter_27 : decode cX11_isLetter 27 = .ok (.if_icmp .ne 7, 3) := by decide +kernel
theorem dX11_isLetter_30 : decode cX11_isLetter 30 = .ok (.iconst 1, 1) := by decide +kernel
theorem dX11_isLetter_31 : decode cX11_isLetter 31 = .ok (.goto 4, 3) := by decide +kernel
theorem dX11_isLetter_34 : decode cX11_isLetter 34 = .ok (.iconst 0, 1) := by decide +kernel
theorem dX11_isLetter_35 : decode cX11_isLetter 35 = .ok (.ireturn, 1) := by decide +kernel
theorem dX11_atom_0 : decode cX11_atom 0 = .ok (.aload_n 0, 1) := by decide +kernel
theorem dX11_atom_1 : decode cX11_atom 1 = .ok (.getfield 132, 3) := by decide +kernel
theorem dX11_atom_4 : decode cX11_atom 4 = .ok (.iconst (-1), 1) := by decide +kernel
theorem dX11_atom_5 : decode cX11_atom 5 = .ok (.if_icmp .ne 10, 3) := by decide +kernel
theorem dX11_atom_8 : decode cX11_atom 8 = .ok (.aload_n 0, 1) := by decide +kernel
theorem dX11_atom_9 : decode cX11_atom 9 = .ok (.invokevirtual 135, 3) := by decide +kernel
theorem dX11_atom_12 : decode cX11_atom 12 = .ok (.goto 4, 3) := by decide +kernel
theorem dX11_atom_15 : decode cX11_atom 15 = .ok (.iconst (-1), 1) := by decide +kernel
theorem dX11_atom_16 : decode cX11_atom 16 = .ok (.istore_n 1, 1) := by decide +kernel
theorem dX11_atom_17 : decode cX11_atom 17 = .ok (.iload_n 1, 1) := by decide +kernel
theorem dX11_atom_18 : decode cX11_atom 18 = .ok (.invokestatic 138, 3) := by decide +kernel
theorem dX11_atom_21 : decode cX11_atom 21 = .ok (.ifCond .eq 69, 3) := by decide +kernel
theorem dX11_atom_24 : decode cX11_atom 24 = .ok (.iconst 0, 1) := by decide +kernel
theorem dX11_atom_25 : decode cX11_atom 25 = .ok (.istore_n 2, 1) := by decide +kernel
theorem dX11_atom_26 : decode cX11_atom 26 = .ok (.iconst 0, 1) := by decide +kernel
theorem dX11_atom_27 : decode cX11_atom 27 = .ok (.istore_n 3, 1) := by decide +kernel
theorem dX11_atom_28 : decode cX11_atom 28 = .ok (.aload_n 0, 1) := by decide +kernel
theorem dX11_atom_29 : decode cX11_atom 29 = .ok (.invokevirtual 128, 3) := by decide +kernel
theorem dX11_atom_32 : decode cX11_atom 32 = .ok (.invokestatic 138, 3) := by decide +kernel
theorem dX11_atom_35 : decode cX11_atom 35 = .ok (.ifCond .eq 42, 3) := by decide +kernel
theorem dX11_atom_38 : decode cX11_atom 38 = .ok (.iload_n 3, 1) := by decide +kernel
theorem dX11_atom_39 : decode cX11_atom 39 = .ok (.iconst 4, 1) := by decide +kernel
theorem dX11_atom_40 : decode cX11_atom 40 = .ok (.if_icmp .ne 8, 3) := by decide +kernel
theorem dX11_atom_43 : decode cX11_atom 43 = .ok (.aload_n 0, 1) := by decide +kernel
theorem dX11_atom_44 : decode cX11_atom 44 = .ok (.invokevirtual 142, 3) := by decide +kernel
theorem dX11_atom_47 : decode cX11_atom 47 = .ok (.return_, 1) := by decide +kernel
theorem dX11_atom_48 : decode cX11_atom 48 = .ok (.bipush 10, 2) := by decide +kernel
theorem dX11_atom_50 : decode cX11_atom 50 = .ok (.iload_n 2, 1) := by decide +kernel
theorem dX11_atom_51 : decode cX11_atom 51 = .ok (.imul, 1) := by decide +kernel
theorem dX11_atom_52 : decode cX11_atom 52 = .ok (.aload_n 0, 1) := by decide +kernel
theorem dX11_atom_53 : decode cX11_atom 53 = .ok (.invokevirtual 128, 3) := by decide +kernel
theorem dX11_atom_56 : decode cX11_atom 56 = .ok (.iadd, 1) := by decide +kernel
theorem dX11_atom_57 : decode cX11_atom 57 = .ok (.bipush 48, 2) := by decide +kernel
theorem dX11_atom_59 : decode cX11_atom 59 = .ok (.isub, 1) := by decide +kernel
theorem dX11_atom_60 : decode cX11_atom 60 = .ok (.istore_n 2, 1) := by decide +kernel
theorem dX11_atom_61 : decode cX11_atom 61 = .ok (.iinc 3 1, 3) := by decide +kernel
theorem dX11_atom_64 : decode cX11_atom 64 = .ok (.aload_n 0, 1) := by decide +kernel
theorem dX11_atom_65 : decode cX11_atom 65 = .ok (.dup, 1) := by decide +kernel
theorem dX11_atom_66 : decode cX11_atom 66 = .ok (.getfield 125, 3) := by decide +kernel
theorem dX11_atom_69 : decode cX11_atom 69 = .ok (.iconst 1, 1) := by decide +kernel
theorem dX11_atom_70 : decode cX11_atom 70 = .ok (.iadd, 1) := by decide +kernel
theorem dX11_atom_71 : decode cX11_atom 71 = .ok (.putfield 125, 3) := by decide +kernel
theorem dX11_atom_74 : decode cX11_atom 74 = .ok (.goto (-46), 3) := by decide +kernel
theorem dX11_atom_77 : decode cX11_atom 77 = .ok (.aload_n 0, 1) := by decide +kernel
theorem dX11_atom_78 : decode cX11_atom 78 = .ok (.iconst 0, 1) := by decide +kernel
theorem dX11_atom_79 : decode cX11_atom 79 = .ok (.invokevirtual 183, 3) := by decide +kernel
theorem dX11_atom_82 : decode cX11_atom 82 = .ok (.aload_n 0, 1) := by decide +kernel
theorem dX11_atom_83 : decode cX11_atom 83 = .ok (.iload_n 2, 1) := by decide +kernel
theorem dX11_atom_84 : decode cX11_atom 84 = .ok (.invokevirtual 183, 3) := by decide +kernel
theorem dX11_atom_87 : decode cX11_atom 87 = .ok (.goto 68, 3) := by decide +kernel
theorem dX11_atom_90 : decode cX11_atom 90 = .ok (.iload_n 1, 1) := by decide +kernel
theorem dX11_atom_91 : decode cX11_atom 91 = .ok (.invokestatic 186, 3) := by decide +kernel
theorem dX11_atom_94 : decode cX11_atom 94 = .ok (.ifCond .eq 26, 3) := by decide +kernel
theorem dX11_atom_97 : decode cX11_atom 97 = .ok (.aload_n 0, 1) := by decide +kernel
theorem dX11_atom_98 : decode cX11_atom 98 = .ok (.dup, 1) := by decide +kernel
theorem dX11_atom_99 : decode cX11_atom 99 = .ok (.getfield 125, 3) := by decide +kernel
theorem dX11_atom_102 : decode cX11_atom 102 = .ok (.iconst 1, 1) := by decide +kernel
theorem dX11_atom_103 : decode cX11_atom 103 = .ok (.iadd, 1) := by decide +kernel
theorem dX11_atom_104 : decode cX11_atom 104 = .ok (.putfield 125, 3) := by decide +kernel
theorem dX11_atom_107 : decode cX11_atom 107 = .ok (.aload_n 0, 1) := by decide +kernel
theorem dX11_atom_108 : decode cX11_atom 108 = .ok (.iconst 1, 1) := by decide +kernel
theorem dX11_atom_109 : decode cX11_atom 109 = .ok (.invokevirtual 183, 3) := by decide +kernel
theorem dX11_atom_112 : decode cX11_atom 112 = .ok (.aload_n 0, 1) := by decide +kernel
theorem dX11_atom_113 : decode cX11_atom 113 = .ok (.iload_n 1, 1) := by decide +kernel
theorem dX11_atom_114 : decode cX11_atom 114 = .ok (.invokevirtual 183, 3) := by decide +kernel
theorem dX11_atom_117 : decode cX11_atom 117 = .ok (.goto 38, 3) := by decide +kernel
theorem dX11_atom_120 : decode cX11_atom 120 = .ok (.iload_n 1, 1) := by decide +kernel
theorem dX11_atom_121 : decode cX11_atom 121 = .ok (.bipush 91, 2) := by decide +kernel
theorem dX11_atom_123 : decode cX11_atom 123 = .ok (.if_icmp .ne 28, 3) := by decide +kernel
theorem dX11_atom_126 : decode cX11_atom 126 = .ok (.aload_n 0, 1) := by decide +kernel
theorem dX11_atom_127 : decode cX11_atom 127 = .ok (.invokevirtual 189, 3) := by decide +kernel
theorem dX11_atom_130 : decode cX11_atom 130 = .ok (.aload_n 0, 1) := by decide +kernel
theorem dX11_atom_131 : decode cX11_atom 131 = .ok (.getfield 132, 3) := by decide +kernel
theorem dX11_atom_134 : decode cX11_atom 134 = .ok (.iconst (-1), 1) := by decide +kernel
theorem dX11_atom_135 : decode cX11_atom 135 = .ok (.if_icmp .ne 20, 3) := by decide +kernel
theorem dX11_atom_138 : decode cX11_atom 138 = .ok (.aload_n 0, 1) := by decide +kernel
theorem dX11_atom_139 : decode cX11_atom 139 = .ok (.invokevirtual 192, 3) := by decide +kernel
theorem dX11_atom_142 : decode cX11_atom 142 = .ok (.aload_n 0, 1) := by decide +kernel
theorem dX11_atom_143 : decode cX11_atom 143 = .ok (.bipush 93, 2) := by decide +kernel
theorem dX11_atom_145 : decode cX11_atom 145 = .ok (.invokevirtual 195, 3) := by decide +kernel
theorem dX11_atom_148 : decode cX11_atom 148 = .ok (.goto 7, 3) := by decide +kernel
theorem dX11_atom_151 : decode cX11_atom 151 = .ok (.aload_n 0, 1) := by decide +kernel
theorem dX11_atom_152 : decode cX11_atom 152 = .ok (.invokevirtual 142, 3) := by decide +kernel
theorem dX11_atom_155 : decode cX11_atom 155 = .ok (.return_, 1) := by decide +kernel
theorem dX11_term_0 : decode cX11_term 0 = .ok (.aload_n 0, 1) := by decide +kernel
theorem dX11_term_1 : decode cX11_term 1 = .ok (.invokevirtual 198, 3) := by decide +kernel
theorem dX11_term_4 : decode cX11_term 4 = .ok (.aload_n 0, 1) := by decide +kernel
theorem dX11_term_5 : decode cX11_term 5 = .ok (.getfield 132, 3) := by decide +kernel
theorem dX11_term_8 : decode cX11_term 8 = .ok (.iconst (-1), 1) := by decide +kernel
theorem dX11_term_9 : decode cX11_term 9 = .ok (.if_icmp .ne 48, 3) := by decide +kernel
theorem dX11_term_12 : decode cX11_term 12 = .ok (.aload_n 0, 1) := by decide +kernel
theorem dX11_term_13 : decode cX11_term 13 = .ok (.invokevirtual 135, 3) := by decide +kernel
theorem dX11_term_16 : decode cX11_term 16 = .ok (.bipush 42, 2) := by decide +kernel
theorem dX11_term_18 : decode cX11_term 18 = .ok (.if_icmp .eq 12, 3) := by decide +kernel
theorem dX11_term_21 : decode cX11_term 21 = .ok (.aload_n 0, 1) := by decide +kernel
theorem dX11_term_22 : decode cX11_term 22 = .ok (.invokevirtual 135, 3) := by decide +kernel
theorem dX11_term_25 : decode cX11_term 25 = .ok (.bipush 47, 2) := by decide +kernel
theorem dX11_term_27 : decode cX11_term 27 = .ok (.if_icmp .ne 30, 3) := by decide +kernel
theorem dX11_term_30 : decode cX11_term 30 = .ok (.aload_n 0, 1) := by decide +kernel
theorem dX11_term_31 : decode cX11_term 31 = .ok (.invokevirtual 135, 3) := by decide +kernel
theorem dX11_term_34 : decode cX11_term 34 = .ok (.istore_n 1, 1) := by decide +kernel
theorem dX11_term_35 : decode cX11_term 35 = .ok (.aload_n 0, 1) := by decide +kernel
theorem dX11_term_36 : decode cX11_term 36 = .ok (.dup, 1) := by decide +kernel
theorem dX11_term_37 : decode cX11_term 37 = .ok (.getfield 125, 3) := by decide +kernel
theorem dX11_term_40 : decode cX11_term 40 = .ok (.iconst 1, 1) := by decide +kernel
theorem dX11_term_41 : decode cX11_term 41 = .ok (.iadd, 1) := by decide +kernel
theorem dX11_term_42 : decode cX11_term 42 = .ok (.putfield 125, 3) := by decide +kernel
theorem dX11_term_45 : decode cX11_term 45 = .ok (.aload_n 0, 1) := by decide +kernel
theorem dX11_term_46 : decode cX11_term 46 = .ok (.invokevirtual 198, 3) := by decide +kernel
theorem dX11_term_49 : decode cX11_term 49 = .ok (.aload_n 0, 1) := by decide +kernel
theorem dX11_term_50 : decode cX11_term 50 = .ok (.iload_n 1, 1) := by decide +kernel
theorem dX11_term_51 : decode cX11_term 51 = .ok (.invokevirtual 183, 3) := by decide +kernel
theorem dX11_term_54 : decode cX11_term 54 = .ok (.goto (-50), 3) := by decide +kernel
theorem dX11_term_57 : decode cX11_term 57 = .ok (.return_, 1) := by decide +kernel
theorem dX11_sum_0 : decode cX11_sum 0 = .ok (.aload_n 0, 1) := by decide +kernel
theorem dX11_sum_1 : decode cX11_sum 1 = .ok (.invokevirtual 201, 3) := by decide +kernel
theorem dX11_sum_4 : decode cX11_sum 4 = .ok (.aload_n 0, 1) := by decide +kernel
theorem dX11_sum_5 : decode cX11_sum 5 = .ok (.getfield 132, 3) := by decide +kernel
theorem dX11_sum_8 : decode cX11_sum 8 = .ok (.iconst (-1), 1) := by decide +kernel
theorem dX11_sum_9 : decode cX11_sum 9 = .ok (.if_icmp .ne 48, 3) := by decide +kernel
theorem dX11_sum_12 : decode cX11_sum 12 = .ok (.aload_n 0, 1) := by decide +kernel
theorem dX11_sum_13 : decode cX11_sum 13 = .ok (.invokevirtual 135, 3) := by decide +kernel
theorem dX11_sum_16 : decode cX11_sum 16 = .ok (.bipush 43, 2) := by decide +kernel
theorem dX11_sum_18 : decode cX11_sum 18 = .ok (.if_icmp .eq 12, 3) := by decide +kernel
theorem dX11_sum_21 : decode cX11_sum 21 = .ok (.aload_n 0, 1) := by decide +kernel
theorem dX11_sum_22 : decode cX11_sum 22 = .ok (.invokevirtual 135, 3) := by decide +kernel
theorem dX11_sum_25 : decode cX11_sum 25 = .ok (.bipush 45, 2) := by decide +kernel
theorem dX11_sum_27 : decode cX11_sum 27 = .ok (.if_icmp .ne 30, 3) := by decide +kernel
theorem dX11_sum_30 : decode cX11_sum 30 = .ok (.aload_n 0, 1) := by decide +kernel
theorem dX11_sum_31 : decode cX11_sum 31 = .ok (.invokevirtual 135, 3) := by decide +kernel
theorem dX11_sum_34 : decode cX11_sum 34 = .ok (.istore_n 1, 1) := by decide +kernel
theorem dX11_sum_35 : decode cX11_sum 35 = .ok (.aload_n 0, 1) := by decide +kernel
theorem dX11_sum_36 : decode cX11_sum 36 = .ok (.dup, 1) := by decide +kernel
theorem dX11_sum_37 : decode cX11_sum 37 = .ok (.getfield 125, 3) := by decide +kernel
theorem dX11_sum_40 : decode cX11_sum 40 = .ok (.iconst 1, 1) := by decide +kernel
theorem dX11_sum_41 : decode cX11_sum 41 = .ok (.iadd, 1) := by decide +kernel
theorem dX11_sum_42 : decode cX11_sum 42 = .ok (.putfield 125, 3) := by decide +kernel
theorem dX11_sum_45 : decode cX11_sum 45 = .ok (.aload_n 0, 1) := by decide +kernel
theorem dX11_sum_46 : decode cX11_sum 46 = .ok (.invokevirtual 201, 3) := by decide +kernel
theorem dX11_sum_49 : decode cX11_sum 49 = .ok (.aload_n 0, 1) := by decide +kernel
theorem dX11_sum_50 : decode cX11_sum 50 = .ok (.iload_n 1, 1) := by decide +kernel
theorem dX11_sum_51 : decode cX11_sum 51 = .ok (.invokevirtual 183, 3) := by decide +kernel
theorem dX11_sum_54 : decode cX11_sum 54 = .ok (.goto (-50), 3) := by decide +kernel
theorem dX11_sum_57 : decode cX11_sum 57 = .ok (.return_, 1) := by decide +kernel
theorem dX11_unit_0 : decode cX11_unit 0 = .ok (.aload_n 0, 1) := by decide +kernel
theorem dX11_unit_1 : decode cX11_unit 1 = .ok (.getfield 132, 3) := by decide +kernel
theorem dX11_unit_4 : decode cX11_unit 4 = .ok (.iconst (-1), 1) := by decide +kernel
theorem dX11_unit_5 : decode cX11_unit 5 = .ok (.if_icmp .ne 10, 3) := by decide +kernel
theorem dX11_unit_8 : decode cX11_unit 8 = .ok (.aload_n 0, 1) := by decide +kernel
theorem dX11_unit_9 : decode cX11_unit 9 = .ok (.invokevirtual 135, 3) := by decide +kernel
theorem dX11_unit_12 : decode cX11_unit 12 = .ok (.goto 4, 3) := by decide +kernel
theorem dX11_unit_15 : decode cX11_unit 15 = .ok (.iconst (-1), 1) := by decide +kernel
theorem dX11_unit_16 : decode cX11_unit 16 = .ok (.istore_n 2, 1) := by decide +kernel
theorem dX11_unit_17 : decode cX11_unit 17 = .ok (.iload_n 1, 1) := by decide +kernel
theorem dX11_unit_18 : decode cX11_unit 18 = .ok (.ifCond .ne 70, 3) := by decide +kernel
theorem dX11_unit_21 : decode cX11_unit 21 = .ok (.iload_n 2, 1) := by decide +kernel
theorem dX11_unit_22 : decode cX11_unit 22 = .ok (.bipush 33, 2) := by decide +kernel
theorem dX11_unit_24 : decode cX11_unit 24 = .ok (.if_icmp .eq 9, 3) := by decide +kernel
theorem dX11_unit_27 : decode cX11_unit 27 = .ok (.iload_n 2, 1) := by decide +kernel
theorem dX11_unit_28 : decode cX11_unit 28 = .ok (.bipush 40, 2) := by decide +kernel
theorem dX11_unit_30 : decode cX11_unit 30 = .ok (.if_icmp .ne 58, 3) := by decide +kernel
theorem dX11_unit_33 : decode cX11_unit 33 = .ok (.aload_n 0, 1) := by decide +kernel
theorem dX11_unit_34 : decode cX11_unit 34 = .ok (.invokevirtual 189, 3) := by decide +kernel
theorem dX11_unit_37 : decode cX11_unit 37 = .ok (.aload_n 0, 1) := by decide +kernel
theorem dX11_unit_38 : decode cX11_unit 38 = .ok (.getfield 132, 3) := by decide +kernel
theorem dX11_unit_41 : decode cX11_unit 41 = .ok (.iconst (-1), 1) := by decide +kernel
theorem dX11_unit_42 : decode cX11_unit 42 = .ok (.if_icmp .eq 4, 3) := by decide +kernel
theorem dX11_unit_45 : decode cX11_unit 45 = .ok (.return_, 1) := by decide +kernel
theorem dX11_unit_46 : decode cX11_unit 46 = .ok (.iload_n 2, 1) := by decide +kernel
theorem dX11_unit_47 : decode cX11_unit 47 = .ok (.bipush 33, 2) := by decide +kernel
theorem dX11_unit_49 : decode cX11_unit 49 = .ok (.if_icmp .ne 27, 3) := by decide +kernel
theorem dX11_unit_52 : decode cX11_unit 52 = .ok (.aload_n 0, 1) := by decide +kernel
theorem dX11_unit_53 : decode cX11_unit 53 = .ok (.iconst 0, 1) := by decide +kernel
theorem dX11_unit_54 : decode cX11_unit 54 = .ok (.invokevirtual 204, 3) := by decide +kernel
theorem dX11_unit_57 : decode cX11_unit 57 = .ok (.aload_n 0, 1) := by decide +kernel
theorem dX11_unit_58 : decode cX11_unit 58 = .ok (.dup, 1) := by decide +kernel
theorem dX11_unit_59 : decode cX11_unit 59 = .ok (.getfield 180, 3) := by decide +kernel
theorem dX11_unit_62 : decode cX11_unit 62 = .ok (.iconst 1, 1) := by decide +kernel
theorem dX11_unit_63 : decode cX11_unit 63 = .ok (.isub, 1) := by decide +kernel
theorem dX11_unit_64 : decode cX11_unit 64 = .ok (.putfield 180, 3) := by decide +kernel
theorem dX11_unit_67 : decode cX11_unit 67 = .ok (.aload_n 0, 1) := by decide +kernel
theorem dX11_unit_68 : decode cX11_unit 68 = .ok (.bipush 33, 2) := by decide +kernel
theorem dX11_unit_70 : decode cX11_unit 70 = .ok (.invokevirtual 183, 3) := by decide +kernel
theorem dX11_unit_73 : decode cX11_unit 73 = .ok (.goto 14, 3) := by decide +kernel
theorem dX11_unit_76 : decode cX11_unit 76 = .ok (.aload_n 0, 1) := by decide +kernel
theorem dX11_unit_77 : decode cX11_unit 77 = .ok (.iconst 0, 1) := by decide +kernel
theorem dX11_unit_78 : decode cX11_unit 78 = .ok (.invokevirtual 208, 3) := by decide +kernel
theorem dX11_unit_81 : decode cX11_unit 81 = .ok (.aload_n 0, 1) := by decide +kernel
theorem dX11_unit_82 : decode cX11_unit 82 = .ok (.bipush 41, 2) := by decide +kernel
theorem dX11_unit_84 : decode cX11_unit 84 = .ok (.invokevirtual 195, 3) := by decide +kernel
theorem dX11_unit_87 : decode cX11_unit 87 = .ok (.return_, 1) := by decide +kernel
theorem dX11_unit_88 : decode cX11_unit 88 = .ok (.iload_n 1, 1) := by decide +kernel
theorem dX11_unit_89 : decode cX11_unit 89 = .ok (.ifCond .ne 7, 3) := by decide +kernel
theorem dX11_unit_92 : decode cX11_unit 92 = .ok (.aload_n 0, 1) := by decide +kernel
theorem dX11_unit_93 : decode cX11_unit 93 = .ok (.invokevirtual 192, 3) := by decide +kernel
theorem dX11_unit_96 : decode cX11_unit 96 = .ok (.aload_n 0, 1) := by decide +kernel
theorem dX11_unit_97 : decode cX11_unit 97 = .ok (.getfield 132, 3) := by decide +kernel
theorem dX11_unit_100 : decode cX11_unit 100 = .ok (.iconst (-1), 1) := by decide +kernel
theorem dX11_unit_101 : decode cX11_unit 101 = .ok (.if_icmp .ne 10, 3) := by decide +kernel
theorem dX11_unit_104 : decode cX11_unit 104 = .ok (.aload_n 0, 1) := by decide +kernel
theorem dX11_unit_105 : decode cX11_unit 105 = .ok (.invokevirtual 135, 3) := by decide +kernel
theorem dX11_unit_108 : decode cX11_unit 108 = .ok (.goto 4, 3) := by decide +kernel
theorem dX11_unit_111 : decode cX11_unit 111 = .ok (.iconst (-1), 1) := by decide +kernel
theorem dX11_unit_112 : decode cX11_unit 112 = .ok (.istore_n 2, 1) := by decide +kernel
theorem dX11_unit_113 : decode cX11_unit 113 = .ok (.iload_n 2, 1) := by decide +kernel
theorem dX11_unit_114 : decode cX11_unit 114 = .ok (.bipush 61, 2) := by decide +kernel
theorem dX11_unit_116 : decode cX11_unit 116 = .ok (.if_icmp .eq 20, 3) := by decide +kernel
theorem dX11_unit_119 : decode cX11_unit 119 = .ok (.iload_n 2, 1) := by decide +kernel
theorem dX11_unit_120 : decode cX11_unit 120 = .ok (.bipush 60, 2) := by decide +kernel
theorem dX11_unit_122 : decode cX11_unit 122 = .ok (.if_icmp .eq 14, 3) := by decide +kernel
theorem dX11_unit_125 : decode cX11_unit 125 = .ok (.iload_n 2, 1) := by decide +kernel
theorem dX11_unit_126 : decode cX11_unit 126 = .ok (.bipush 62, 2) := by decide +kernel
theorem dX11_unit_128 : decode cX11_unit 128 = .ok (.if_icmp .eq 8, 3) := by decide +kernel
theorem dX11_unit_131 : decode cX11_unit 131 = .ok (.aload_n 0, 1) := by decide +kernel
theorem dX11_unit_132 : decode cX11_unit 132 = .ok (.invokevirtual 142, 3) := by decide +kernel
theorem dX11_unit_135 : decode cX11_unit 135 = .ok (.return_, 1) := by decide +kernel
theorem dX11_unit_136 : decode cX11_unit 136 = .ok (.aload_n 0, 1) := by decide +kernel
theorem dX11_unit_137 : decode cX11_unit 137 = .ok (.dup, 1) := by decide +kernel
theorem dX11_unit_138 : decode cX11_unit 138 = .ok (.getfield 125, 3) := by decide +kernel
theorem dX11_unit_141 : decode cX11_unit 141 = .ok (.iconst 1, 1) := by decide +kernel
theorem dX11_unit_142 : decode cX11_unit 142 = .ok (.iadd, 1) := by decide +kernel
theorem dX11_unit_143 : decode cX11_unit 143 = .ok (.putfield 125, 3) := by decide +kernel
theorem dX11_unit_146 : decode cX11_unit 146 = .ok (.aload_n 0, 1) := by decide +kernel
theorem dX11_unit_147 : decode cX11_unit 147 = .ok (.invokevirtual 192, 3) := by decide +kernel
theorem dX11_unit_150 : decode cX11_unit 150 = .ok (.aload_n 0, 1) := by decide +kernel
theorem dX11_unit_151 : decode cX11_unit 151 = .ok (.iload_n 2, 1) := by decide +kernel
theorem dX11_unit_152 : decode cX11_unit 152 = .ok (.invokevirtual 183, 3) := by decide +kernel
theorem dX11_unit_155 : decode cX11_unit 155 = .ok (.return_, 1) := by decide +kernel
theorem dX11_truth_0 : decode cX11_truth 0 = .ok (.aload_n 0, 1) := by decide +kernel
theorem dX11_truth_1 : decode cX11_truth 1 = .ok (.iload_n 1, 1) := by decide +kernel
theorem dX11_truth_2 : decode cX11_truth 2 = .ok (.invokevirtual 204, 3) := by decide +kernel
theorem dX11_truth_5 : decode cX11_truth 5 = .ok (.aload_n 0, 1) := by decide +kernel
theorem dX11_truth_6 : decode cX11_truth 6 = .ok (.getfield 132, 3) := by decide +kernel
theorem dX11_truth_9 : decode cX11_truth 9 = .ok (.iconst (-1), 1) := by decide +kernel
theorem dX11_truth_10 : decode cX11_truth 10 = .ok (.if_icmp .ne 36, 3) := by decide +kernel
theorem dX11_truth_13 : decode cX11_truth 13 = .ok (.aload_n 0, 1) := by decide +kernel
theorem dX11_truth_14 : decode cX11_truth 14 = .ok (.invokevirtual 135, 3) := by decide +kernel
theorem dX11_truth_17 : decode cX11_truth 17 = .ok (.bipush 38, 2) := by decide +kernel
theorem dX11_truth_19 : decode cX11_truth 19 = .ok (.if_icmp .ne 27, 3) := by decide +kernel
theorem dX11_truth_22 : decode cX11_truth 22 = .ok (.aload_n 0, 1) := by decide +kernel
theorem dX11_truth_23 : decode cX11_truth 23 = .ok (.dup, 1) := by decide +kernel
theorem dX11_truth_24 : decode cX11_truth 24 = .ok (.getfield 125, 3) := by decide +kernel
theorem dX11_truth_27 : decode cX11_truth 27 = .ok (.iconst 1, 1) := by decide +kernel
theorem dX11_truth_28 : decode cX11_truth 28 = .ok (.iadd, 1) := by decide +kernel
theorem dX11_truth_29 : decode cX11_truth 29 = .ok (.putfield 125, 3) := by decide +kernel
theorem dX11_truth_32 : decode cX11_truth 32 = .ok (.aload_n 0, 1) := by decide +kernel
theorem dX11_truth_33 : decode cX11_truth 33 = .ok (.iconst 0, 1) := by decide +kernel
theorem dX11_truth_34 : decode cX11_truth 34 = .ok (.invokevirtual 204, 3) := by decide +kernel
theorem dX11_truth_37 : decode cX11_truth 37 = .ok (.aload_n 0, 1) := by decide +kernel
theorem dX11_truth_38 : decode cX11_truth 38 = .ok (.bipush 38, 2) := by decide +kernel
theorem dX11_truth_40 : decode cX11_truth 40 = .ok (.invokevirtual 183, 3) := by decide +kernel
theorem dX11_truth_43 : decode cX11_truth 43 = .ok (.goto (-38), 3) := by decide +kernel
theorem dX11_truth_46 : decode cX11_truth 46 = .ok (.return_, 1) := by decide +kernel
theorem dX11_condition_0 : decode cX11_condition 0 = .ok (.aload_n 0, 1) := by decide +kernel
theorem dX11_condition_1 : decode cX11_condition 1 = .ok (.iload_n 1, 1) := by decide +kernel
theorem dX11_condition_2 : decode cX11_condition 2 = .ok (.invokevirtual 211, 3) := by decide +kernel
theorem dX11_condition_5 : decode cX11_condition 5 = .ok (.aload_n 0, 1) := by decide +kernel
theorem dX11_condition_6 : decode cX11_condition 6 = .ok (.getfield 132, 3) := by decide +kernel
theorem dX11_condition_9 : decode cX11_condition 9 = .ok (.iconst (-1), 1) := by decide +kernel
theorem dX11_condition_10 : decode cX11_condition 10 = .ok (.if_icmp .ne 36, 3) := by decide +kernel
theorem dX11_condition_13 : decode cX11_condition 13 = .ok (.aload_n 0, 1) := by decide +kernel
theorem dX11_condition_14 : decode cX11_condition 14 = .ok (.invokevirtual 135, 3) := by decide +kernel
theorem dX11_condition_17 : decode cX11_condition 17 = .ok (.bipush 124, 2) := by decide +kernel
theorem dX11_condition_19 : decode cX11_condition 19 = .ok (.if_icmp .ne 27, 3) := by decide +kernel
theorem dX11_condition_22 : decode cX11_condition 22 = .ok (.aload_n 0, 1) := by decide +kernel
theorem dX11_condition_23 : decode cX11_condition 23 = .ok (.dup, 1) := by decide +kernel
theorem dX11_condition_24 : decode cX11_condition 24 = .ok (.getfield 125, 3) := by decide +kernel
theorem dX11_condition_27 : decode cX11_condition 27 = .ok (.iconst 1, 1) := by decide +kernel
theorem dX11_condition_28 : decode cX11_condition 28 = .ok (.iadd, 1) := by decide +kernel
theorem dX11_condition_29 : decode cX11_condition 29 = .ok (.putfield 125, 3) := by decide +kernel
theorem dX11_condition_32 : decode cX11_condition 32 = .ok (.aload_n 0, 1) := by decide +kernel
theorem dX11_condition_33 : decode cX11_condition 33 = .ok (.iconst 0, 1) := by decide +kernel
theorem dX11_condition_34 : decode cX11_condition 34 = .ok (.invokevirtual 211, 3) := by decide +kernel
theorem dX11_condition_37 : decode cX11_condition 37 = .ok (.aload_n 0, 1) := by decide +kernel
theorem dX11_condition_38 : decode cX11_condition 38 = .ok (.bipush 124, 2) := by decide +kernel
theorem dX11_condition_40 : decode cX11_condition 40 = .ok (.invokevirtual 183, 3) := by decide +kernel
theorem dX11_condition_43 : decode cX11_condition 43 = .ok (.goto (-38), 3) := by decide +kernel
theorem dX11_condition_46 : decode cX11_condition 46 = .ok (.return_, 1) := by decide +kernel
theorem dX11_clause_0 : decode cX11_clause 0 = .ok (.bipush 64, 2) := by decide +kernel
theorem dX11_clause_2 : decode cX11_clause 2 = .ok (.aload_n 0, 1) := by decide +kernel
theorem dX11_clause_3 : decode cX11_clause 3 = .ok (.getfield 174, 3) := by decide +kernel
theorem dX11_clause_6 : decode cX11_clause 6 = .ok (.imul, 1) := by decide +kernel
theorem dX11_clause_7 : decode cX11_clause 7 = .ok (.aload_n 0, 1) := by decide +kernel
theorem dX11_clause_8 : decode cX11_clause 8 = .ok (.getfield 64, 3) := by decide +kernel
theorem dX11_clause_11 : decode cX11_clause 11 = .ok (.aload_n 0, 1) := by decide +kernel
theorem dX11_clause_12 : decode cX11_clause 12 = .ok (.getfield 174, 3) := by decide +kernel
theorem dX11_clause_15 : decode cX11_clause 15 = .ok (.iaload, 1) := by decide +kernel
theorem dX11_clause_16 : decode cX11_clause 16 = .ok (.iadd, 1) := by decide +kernel
theorem dX11_clause_17 : decode cX11_clause 17 = .ok (.istore_n 1, 1) := by decide +kernel
theorem dX11_clause_18 : decode cX11_clause 18 = .ok (.aload_n 0, 1) := by decide +kernel
theorem dX11_clause_19 : decode cX11_clause 19 = .ok (.invokevirtual 135, 3) := by decide +kernel
theorem dX11_clause_22 : decode cX11_clause 22 = .ok (.bipush 107, 2) := by decide +kernel
theorem dX11_clause_24 : decode cX11_clause 24 = .ok (.if_icmp .eq 8, 3) := by decide +kernel
theorem dX11_clause_27 : decode cX11_clause 27 = .ok (.aload_n 0, 1) := by decide +kernel
theorem dX11_clause_28 : decode cX11_clause 28 = .ok (.invokevirtual 142, 3) := by decide +kernel
theorem dX11_clause_31 : decode cX11_clause 31 = .ok (.return_, 1) := by decide +kernel
theorem dX11_clause_32 : decode cX11_clause 32 = .ok (.aload_n 0, 1) := by decide +kernel
theorem dX11_clause_33 : decode cX11_clause 33 = .ok (.dup, 1) := by decide +kernel
theorem dX11_clause_34 : decode cX11_clause 34 = .ok (.getfield 125, 3) := by decide +kernel
theorem dX11_clause_37 : decode cX11_clause 37 = .ok (.iconst 1, 1) := by decide +kernel
theorem dX11_clause_38 : decode cX11_clause 38 = .ok (.iadd, 1) := by decide +kernel
theorem dX11_clause_39 : decode cX11_clause 39 = .ok (.putfield 125, 3) := by decide +kernel
theorem dX11_clause_42 : decode cX11_clause 42 = .ok (.aload_n 0, 1) := by decide +kernel
theorem dX11_clause_43 : decode cX11_clause 43 = .ok (.invokevirtual 135, 3) := by decide +kernel
theorem dX11_clause_46 : decode cX11_clause 46 = .ok (.bipush 58, 2) := by decide +kernel
theorem dX11_clause_48 : decode cX11_clause 48 = .ok (.if_icmp .eq 8, 3) := by decide +kernel
theorem dX11_clause_51 : decode cX11_clause 51 = .ok (.aload_n 0, 1) := by decide +kernel
theorem dX11_clause_52 : decode cX11_clause 52 = .ok (.invokevirtual 142, 3) := by decide +kernel
theorem dX11_clause_55 : decode cX11_clause 55 = .ok (.return_, 1) := by decide +kernel
theorem dX11_clause_56 : decode cX11_clause 56 = .ok (.aload_n 0, 1) := by decide +kernel
theorem dX11_clause_57 : decode cX11_clause 57 = .ok (.dup, 1) := by decide +kernel
theorem dX11_clause_58 : decode cX11_clause 58 = .ok (.getfield 125, 3) := by decide +kernel
theorem dX11_clause_61 : decode cX11_clause 61 = .ok (.iconst 1, 1) := by decide +kernel
theorem dX11_clause_62 : decode cX11_clause 62 = .ok (.iadd, 1) := by decide +kernel
theorem dX11_clause_63 : decode cX11_clause 63 = .ok (.putfield 125, 3) := by decide +kernel
theorem dX11_clause_66 : decode cX11_clause 66 = .ok (.aload_n 0, 1) := by decide +kernel
theorem dX11_clause_67 : decode cX11_clause 67 = .ok (.getfield 64, 3) := by decide +kernel
theorem dX11_clause_70 : decode cX11_clause 70 = .ok (.aload_n 0, 1) := by decide +kernel
theorem dX11_clause_71 : decode cX11_clause 71 = .ok (.getfield 174, 3) := by decide +kernel
theorem dX11_clause_74 : decode cX11_clause 74 = .ok (.dup2, 1) := by decide +kernel
theorem dX11_clause_75 : decode cX11_clause 75 = .ok (.iaload, 1) := by decide +kernel
theorem dX11_clause_76 : decode cX11_clause 76 = .ok (.iconst 1, 1) := by decide +kernel
theorem dX11_clause_77 : decode cX11_clause 77 = .ok (.iadd, 1) := by decide +kernel
theorem dX11_clause_78 : decode cX11_clause 78 = .ok (.iastore, 1) := by decide +kernel
theorem dX11_clause_79 : decode cX11_clause 79 = .ok (.aload_n 0, 1) := by decide +kernel
theorem dX11_clause_80 : decode cX11_clause 80 = .ok (.getfield 67, 3) := by decide +kernel
theorem dX11_clause_83 : decode cX11_clause 83 = .ok (.iload_n 1, 1) := by decide +kernel
theorem dX11_clause_84 : decode cX11_clause 84 = .ok (.aload_n 0, 1) := by decide +kernel
theorem dX11_clause_85 : decode cX11_clause 85 = .ok (.getfield 177, 3) := by decide +kernel
theorem dX11_clause_88 : decode cX11_clause 88 = .ok (.iastore, 1) := by decide +kernel
theorem dX11_clause_89 : decode cX11_clause 89 = .ok (.aload_n 0, 1) := by decide +kernel
theorem dX11_clause_90 : decode cX11_clause 90 = .ok (.invokevirtual 135, 3) := by decide +kernel
theorem dX11_clause_93 : decode cX11_clause 93 = .ok (.istore_n 2, 1) := by decide +kernel
theorem dX11_clause_94 : decode cX11_clause 94 = .ok (.iload_n 2, 1) := by decide +kernel
theorem dX11_clause_95 : decode cX11_clause 95 = .ok (.bipush 33, 2) := by decide +kernel
theorem dX11_clause_97 : decode cX11_clause 97 = .ok (.if_icmp .eq 9, 3) := by decide +kernel
theorem dX11_clause_100 : decode cX11_clause 100 = .ok (.iload_n 2, 1) := by decide +kernel
theorem dX11_clause_101 : decode cX11_clause 101 = .ok (.bipush 40, 2) := by decide +kernel
theorem dX11_clause_103 : decode cX11_clause 103 = .ok (.if_icmp .ne 7, 3) := by decide +kernel
theorem dX11_clause_106 : decode cX11_clause 106 = .ok (.iconst 1, 1) := by decide +kernel
theorem dX11_clause_107 : decode cX11_clause 107 = .ok (.goto 4, 3) := by decide +kernel
theorem dX11_clause_110 : decode cX11_clause 110 = .ok (.iconst 0, 1) := by decide +kernel
theorem dX11_clause_111 : decode cX11_clause 111 = .ok (.istore_n 3, 1) := by decide +kernel
theorem dX11_clause_112 : decode cX11_clause 112 = .ok (.iload_n 3, 1) := by decide +kernel
theorem dX11_clause_113 : decode cX11_clause 113 = .ok (.ifCond .eq 11, 3) := by decide +kernel
theorem dX11_clause_116 : decode cX11_clause 116 = .ok (.aload_n 0, 1) := by decide +kernel
theorem dX11_clause_117 : decode cX11_clause 117 = .ok (.iconst 0, 1) := by decide +kernel
theorem dX11_clause_118 : decode cX11_clause 118 = .ok (.invokevirtual 208, 3) := by decide +kernel
theorem dX11_clause_121 : decode cX11_clause 121 = .ok (.goto 57, 3) := by decide +kernel
theorem dX11_clause_124 : decode cX11_clause 124 = .ok (.aload_n 0, 1) := by decide +kernel
theorem dX11_clause_125 : decode cX11_clause 125 = .ok (.invokevirtual 192, 3) := by decide +kernel
theorem dX11_clause_128 : decode cX11_clause 128 = .ok (.aload_n 0, 1) := by decide +kernel
theorem dX11_clause_129 : decode cX11_clause 129 = .ok (.getfield 132, 3) := by decide +kernel
theorem dX11_clause_132 : decode cX11_clause 132 = .ok (.iconst (-1), 1) := by decide +kernel
theorem dX11_clause_133 : decode cX11_clause 133 = .ok (.if_icmp .ne 10, 3) := by decide +kernel
theorem dX11_clause_136 : decode cX11_clause 136 = .ok (.aload_n 0, 1) := by decide +kernel
theorem dX11_clause_137 : decode cX11_clause 137 = .ok (.invokevirtual 135, 3) := by decide +kernel
theorem dX11_clause_140 : decode cX11_clause 140 = .ok (.goto 4, 3) := by decide +kernel
theorem dX11_clause_143 : decode cX11_clause 143 = .ok (.iconst (-1), 1) := by decide +kernel
theorem dX11_clause_144 : decode cX11_clause 144 = .ok (.istore_n 2, 1) := by decide +kernel
theorem dX11_clause_145 : decode cX11_clause 145 = .ok (.iload_n 2, 1) := by decide +kernel
theorem dX11_clause_146 : decode cX11_clause 146 = .ok (.bipush 61, 2) := by decide +kernel
theorem dX11_clause_148 : decode cX11_clause 148 = .ok (.if_icmp .eq 15, 3) := by decide +kernel
theorem dX11_clause_151 : decode cX11_clause 151 = .ok (.iload_n 2, 1) := by decide +kernel
theorem dX11_clause_152 : decode cX11_clause 152 = .ok (.bipush 60, 2) := by decide +kernel
theorem dX11_clause_154 : decode cX11_clause 154 = .ok (.if_icmp .eq 9, 3) := by decide +kernel
theorem dX11_clause_157 : decode cX11_clause 157 = .ok (.iload_n 2, 1) := by decide +kernel
theorem dX11_clause_158 : decode cX11_clause 158 = .ok (.bipush 62, 2) := by decide +kernel
theorem dX11_clause_160 : decode cX11_clause 160 = .ok (.if_icmp .ne 7, 3) := by decide +kernel
theorem dX11_clause_163 : decode cX11_clause 163 = .ok (.iconst 1, 1) := by decide +kernel
theorem dX11_clause_164 : decode cX11_clause 164 = .ok (.goto 4, 3) := by decide +kernel
theorem dX11_clause_167 : decode cX11_clause 167 = .ok (.iconst 0, 1) := by decide +kernel
theorem dX11_clause_168 : decode cX11_clause 168 = .ok (.istore_n 3, 1) := by decide +kernel
theorem dX11_clause_169 : decode cX11_clause 169 = .ok (.iload_n 3, 1) := by decide +kernel
theorem dX11_clause_170 : decode cX11_clause 170 = .ok (.ifCond .eq 8, 3) := by decide +kernel
theorem dX11_clause_173 : decode cX11_clause 173 = .ok (.aload_n 0, 1) := by decide +kernel
theorem dX11_clause_174 : decode cX11_clause 174 = .ok (.iconst 1, 1) := by decide +kernel
theorem dX11_clause_175 : decode cX11_clause 175 = .ok (.invokevirtual 208, 3) := by decide +kernel
theorem dX11_clause_178 : decode cX11_clause 178 = .ok (.aload_n 0, 1) := by decide +kernel
theorem dX11_clause_179 : decode cX11_clause 179 = .ok (.getfield 132, 3) := by decide +kernel
theorem dX11_clause_182 : decode cX11_clause 182 = .ok (.iconst (-1), 1) := by decide +kernel
theorem dX11_clause_183 : decode cX11_clause 183 = .ok (.if_icmp .ne 45, 3) := by decide +kernel
theorem dX11_clause_186 : decode cX11_clause 186 = .ok (.iload_n 3, 1) := by decide +kernel
theorem dX11_clause_187 : decode cX11_clause 187 = .ok (.ifCond .eq 41, 3) := by decide +kernel
theorem dX11_clause_190 : decode cX11_clause 190 = .ok (.aload_n 0, 1) := by decide +kernel
theorem dX11_clause_191 : decode cX11_clause 191 = .ok (.invokevirtual 135, 3) := by decide +kernel
theorem dX11_clause_194 : decode cX11_clause 194 = .ok (.bipush 63, 2) := by decide +kernel
theorem dX11_clause_196 : decode cX11_clause 196 = .ok (.if_icmp .eq 8, 3) := by decide +kernel
theorem dX11_clause_199 : decode cX11_clause 199 = .ok (.aload_n 0, 1) := by decide +kernel
theorem dX11_clause_200 : decode cX11_clause 200 = .ok (.invokevirtual 142, 3) := by decide +kernel
theorem dX11_clause_203 : decode cX11_clause 203 = .ok (.return_, 1) := by decide +kernel
theorem dX11_clause_204 : decode cX11_clause 204 = .ok (.aload_n 0, 1) := by decide +kernel
theorem dX11_clause_205 : decode cX11_clause 205 = .ok (.dup, 1) := by decide +kernel
theorem dX11_clause_206 : decode cX11_clause 206 = .ok (.getfield 125, 3) := by decide +kernel
theorem dX11_clause_209 : decode cX11_clause 209 = .ok (.iconst 1, 1) := by decide +kernel
theorem dX11_clause_210 : decode cX11_clause 210 = .ok (.iadd, 1) := by decide +kernel
theorem dX11_clause_211 : decode cX11_clause 211 = .ok (.putfield 125, 3) := by decide +kernel
theorem dX11_clause_214 : decode cX11_clause 214 = .ok (.aload_n 0, 1) := by decide +kernel
theorem dX11_clause_215 : decode cX11_clause 215 = .ok (.getfield 67, 3) := by decide +kernel
theorem dX11_clause_218 : decode cX11_clause 218 = .ok (.iload_n 1, 1) := by decide +kernel
theorem dX11_clause_219 : decode cX11_clause 219 = .ok (.aload_n 0, 1) := by decide +kernel
theorem dX11_clause_220 : decode cX11_clause 220 = .ok (.getfield 177, 3) := by decide +kernel
theorem dX11_clause_223 : decode cX11_clause 223 = .ok (.iastore, 1) := by decide +kernel
theorem dX11_clause_224 : decode cX11_clause 224 = .ok (.aload_n 0, 1) := by decide +kernel
theorem dX11_clause_225 : decode cX11_clause 225 = .ok (.invokevirtual 192, 3) := by decide +kernel
theorem dX11_clause_228 : decode cX11_clause 228 = .ok (.aload_n 0, 1) := by decide +kernel
theorem dX11_clause_229 : decode cX11_clause 229 = .ok (.getfield 70, 3) := by decide +kernel
theorem dX11_clause_232 : decode cX11_clause 232 = .ok (.iload_n 1, 1) := by decide +kernel
theorem dX11_clause_233 : decode cX11_clause 233 = .ok (.aload_n 0, 1) := by decide +kernel
theorem dX11_clause_234 : decode cX11_clause 234 = .ok (.getfield 177, 3) := by decide +kernel
theorem dX11_clause_237 : decode cX11_clause 237 = .ok (.iastore, 1) := by decide +kernel
theorem dX11_clause_238 : decode cX11_clause 238 = .ok (.return_, 1) := by decide +kernel
theorem dX11_readRule_0 : decode cX11_readRule 0 = .ok (.aload_n 0, 1) := by decide +kernel
theorem dX11_readRule_1 : decode cX11_readRule 1 = .ok (.iload_n 1, 1) := by decide +kernel
theorem dX11_readRule_2 : decode cX11_readRule 2 = .ok (.putfield 174, 3) := by decide +kernel
theorem dX11_readRule_5 : decode cX11_readRule 5 = .ok (.aload_n 0, 1) := by decide +kernel
theorem dX11_readRule_6 : decode cX11_readRule 6 = .ok (.iconst 0, 1) := by decide +kernel
theorem dX11_readRule_7 : decode cX11_readRule 7 = .ok (.putfield 125, 3) := by decide +kernel
theorem dX11_readRule_10 : decode cX11_readRule 10 = .ok (.aload_n 0, 1) := by decide +kernel
theorem dX11_readRule_11 : decode cX11_readRule 11 = .ok (.iconst (-1), 1) := by decide +kernel
theorem dX11_readRule_12 : decode cX11_readRule 12 = .ok (.putfield 132, 3) := by decide +kernel
theorem dX11_readRule_15 : decode cX11_readRule 15 = .ok (.aload_n 0, 1) := by decide +kernel
theorem dX11_readRule_16 : decode cX11_readRule 16 = .ok (.iconst 0, 1) := by decide +kernel
theorem dX11_readRule_17 : decode cX11_readRule 17 = .ok (.putfield 180, 3) := by decide +kernel
theorem dX11_readRule_20 : decode cX11_readRule 20 = .ok (.aload_n 0, 1) := by decide +kernel
theorem dX11_readRule_21 : decode cX11_readRule 21 = .ok (.iconst 0, 1) := by decide +kernel
theorem dX11_readRule_22 : decode cX11_readRule 22 = .ok (.putfield 177, 3) := by decide +kernel
theorem dX11_readRule_25 : decode cX11_readRule 25 = .ok (.aload_n 0, 1) := by decide +kernel
theorem dX11_readRule_26 : decode cX11_readRule 26 = .ok (.getfield 64, 3) := by decide +kernel
theorem dX11_readRule_29 : decode cX11_readRule 29 = .ok (.iload_n 1, 1) := by decide +kernel
theorem dX11_readRule_30 : decode cX11_readRule 30 = .ok (.iconst 0, 1) := by decide +kernel
theorem dX11_readRule_31 : decode cX11_readRule 31 = .ok (.iastore, 1) := by decide +kernel
theorem dX11_readRule_32 : decode cX11_readRule 32 = .ok (.aload_n 0, 1) := by decide +kernel
theorem dX11_readRule_33 : decode cX11_readRule 33 = .ok (.invokevirtual 214, 3) := by decide +kernel
theorem dX11_readRule_36 : decode cX11_readRule 36 = .ok (.aload_n 0, 1) := by decide +kernel
theorem dX11_readRule_37 : decode cX11_readRule 37 = .ok (.getfield 132, 3) := by decide +kernel
theorem dX11_readRule_40 : decode cX11_readRule 40 = .ok (.iconst (-1), 1) := by decide +kernel
theorem dX11_readRule_41 : decode cX11_readRule 41 = .ok (.if_icmp .ne 29, 3) := by decide +kernel
theorem dX11_readRule_44 : decode cX11_readRule 44 = .ok (.aload_n 0, 1) := by decide +kernel
theorem dX11_readRule_45 : decode cX11_readRule 45 = .ok (.invokevirtual 135, 3) := by decide +kernel
theorem dX11_readRule_48 : decode cX11_readRule 48 = .ok (.bipush 59, 2) := by decide +kernel
theorem dX11_readRule_50 : decode cX11_readRule 50 = .ok (.if_icmp .ne 20, 3) := by decide +kernel
theorem dX11_readRule_53 : decode cX11_readRule 53 = .ok (.aload_n 0, 1) := by decide +kernel
theorem dX11_readRule_54 : decode cX11_readRule 54 = .ok (.dup, 1) := by decide +kernel
theorem dX11_readRule_55 : decode cX11_readRule 55 = .ok (.getfield 125, 3) := by decide +kernel
theorem dX11_readRule_58 : decode cX11_readRule 58 = .ok (.iconst 1, 1) := by decide +kernel
theorem dX11_readRule_59 : decode cX11_readRule 59 = .ok (.iadd, 1) := by decide +kernel
theorem dX11_readRule_60 : decode cX11_readRule 60 = .ok (.putfield 125, 3) := by decide +kernel
theorem dX11_readRule_63 : decode cX11_readRule 63 = .ok (.aload_n 0, 1) := by decide +kernel
theorem dX11_readRule_64 : decode cX11_readRule 64 = .ok (.invokevirtual 214, 3) := by decide +kernel
theorem dX11_readRule_67 : decode cX11_readRule 67 = .ok (.goto (-31), 3) := by decide +kernel
theorem dX11_readRule_70 : decode cX11_readRule 70 = .ok (.aload_n 0, 1) := by decide +kernel
theorem dX11_readRule_71 : decode cX11_readRule 71 = .ok (.getfield 132, 3) := by decide +kernel
theorem dX11_readRule_74 : decode cX11_readRule 74 = .ok (.iconst (-1), 1) := by decide +kernel
theorem dX11_readRule_75 : decode cX11_readRule 75 = .ok (.if_icmp .ne 15, 3) := by decide +kernel
theorem dX11_readRule_78 : decode cX11_readRule 78 = .ok (.aload_n 0, 1) := by decide +kernel
theorem dX11_readRule_79 : decode cX11_readRule 79 = .ok (.invokevirtual 135, 3) := by decide +kernel
theorem dX11_readRule_82 : decode cX11_readRule 82 = .ok (.iconst (-1), 1) := by decide +kernel
theorem dX11_readRule_83 : decode cX11_readRule 83 = .ok (.if_icmp .eq 7, 3) := by decide +kernel
theorem dX11_readRule_86 : decode cX11_readRule 86 = .ok (.aload_n 0, 1) := by decide +kernel
theorem dX11_readRule_87 : decode cX11_readRule 87 = .ok (.invokevirtual 142, 3) := by decide +kernel
theorem dX11_readRule_90 : decode cX11_readRule 90 = .ok (.aload_n 0, 1) := by decide +kernel
theorem dX11_readRule_91 : decode cX11_readRule 91 = .ok (.getfield 132, 3) := by decide +kernel
theorem dX11_readRule_94 : decode cX11_readRule 94 = .ok (.ireturn, 1) := by decide +kernel
theorem dX11_fault_0 : decode cX11_fault 0 = .ok (.iload_n 1, 1) := by decide +kernel
theorem dX11_fault_1 : decode cX11_fault 1 = .ok (.ifCond .ne 12, 3) := by decide +kernel
theorem dX11_fault_4 : decode cX11_fault 4 = .ok (.aload_n 0, 1) := by decide +kernel
theorem dX11_fault_5 : decode cX11_fault 5 = .ok (.bipush 6, 2) := by decide +kernel
theorem dX11_fault_7 : decode cX11_fault 7 = .ok (.invokevirtual 217, 3) := by decide +kernel
theorem dX11_fault_10 : decode cX11_fault 10 = .ok (.goto 19, 3) := by decide +kernel
theorem dX11_fault_13 : decode cX11_fault 13 = .ok (.iload_n 1, 1) := by decide +kernel
theorem dX11_fault_14 : decode cX11_fault 14 = .ok (.iconst 1, 1) := by decide +kernel
theorem dX11_fault_15 : decode cX11_fault 15 = .ok (.if_icmp .ne 12, 3) := by decide +kernel
theorem dX11_fault_18 : decode cX11_fault 18 = .ok (.aload_n 0, 1) := by decide +kernel
theorem dX11_fault_19 : decode cX11_fault 19 = .ok (.bipush 6, 2) := by decide +kernel
theorem dX11_fault_21 : decode cX11_fault 21 = .ok (.invokevirtual 221, 3) := by decide +kernel
theorem dX11_fault_24 : decode cX11_fault 24 = .ok (.goto 5, 3) := by decide +kernel
theorem dX11_fault_27 : decode cX11_fault 27 = .ok (.bipush (-2), 2) := by decide +kernel
theorem dX11_fault_29 : decode cX11_fault 29 = .ok (.ireturn, 1) := by decide +kernel
theorem dX11_land_0 : decode cX11_land 0 = .ok (.aload_n 0, 1) := by decide +kernel
theorem dX11_land_1 : decode cX11_land 1 = .ok (.getfield 224, 3) := by decide +kernel
theorem dX11_land_4 : decode cX11_land 4 = .ok (.bipush 6, 2) := by decide +kernel
theorem dX11_land_6 : decode cX11_land 6 = .ok (.if_icmp .eq 15, 3) := by decide +kernel
theorem dX11_land_9 : decode cX11_land 9 = .ok (.aload_n 0, 1) := by decide +kernel
theorem dX11_land_10 : decode cX11_land 10 = .ok (.aload_n 0, 1) := by decide +kernel
theorem dX11_land_11 : decode cX11_land 11 = .ok (.getfield 224, 3) := by decide +kernel
theorem dX11_land_14 : decode cX11_land 14 = .ok (.invokevirtual 217, 3) := by decide +kernel
theorem dX11_land_17 : decode cX11_land 17 = .ok (.iconst (-1), 1) := by decide +kernel
theorem dX11_land_18 : decode cX11_land 18 = .ok (.if_icmp .eq 5, 3) := by decide +kernel
theorem dX11_land_21 : decode cX11_land 21 = .ok (.iconst (-1), 1) := by decide +kernel
theorem dX11_land_22 : decode cX11_land 22 = .ok (.ireturn, 1) := by decide +kernel
theorem dX11_land_23 : decode cX11_land 23 = .ok (.aload_n 0, 1) := by decide +kernel
theorem dX11_land_24 : decode cX11_land 24 = .ok (.iconst 0, 1) := by decide +kernel
theorem dX11_land_25 : decode cX11_land 25 = .ok (.putfield 122, 3) := by decide +kernel
theorem dX11_land_28 : decode cX11_land 28 = .ok (.aload_n 0, 1) := by decide +kernel
theorem dX11_land_29 : decode cX11_land 29 = .ok (.dup, 1) := by decide +kernel
theorem dX11_land_30 : decode cX11_land 30 = .ok (.getfield 224, 3) := by decide +kernel
theorem dX11_land_33 : decode cX11_land 33 = .ok (.iconst 1, 1) := by decide +kernel
theorem dX11_land_34 : decode cX11_land 34 = .ok (.iadd, 1) := by decide +kernel
theorem dX11_land_35 : decode cX11_land 35 = .ok (.putfield 224, 3) := by decide +kernel
theorem dX11_land_38 : decode cX11_land 38 = .ok (.aload_n 0, 1) := by decide +kernel
theorem dX11_land_39 : decode cX11_land 39 = .ok (.getfield 224, 3) := by decide +kernel
theorem dX11_land_42 : decode cX11_land 42 = .ok (.iconst 1, 1) := by decide +kernel
theorem dX11_land_43 : decode cX11_land 43 = .ok (.isub, 1) := by decide +kernel
theorem dX11_land_44 : decode cX11_land 44 = .ok (.ireturn, 1) := by decide +kernel
theorem dX11_rule_0 : decode cX11_rule 0 = .ok (.aload_n 0, 1) := by decide +kernel
theorem dX11_rule_1 : decode cX11_rule 1 = .ok (.getfield 227, 3) := by decide +kernel
theorem dX11_rule_4 : decode cX11_rule 4 = .ok (.bipush 6, 2) := by decide +kernel
theorem dX11_rule_6 : decode cX11_rule 6 = .ok (.if_icmp .eq 15, 3) := by decide +kernel
theorem dX11_rule_9 : decode cX11_rule 9 = .ok (.aload_n 0, 1) := by decide +kernel
theorem dX11_rule_10 : decode cX11_rule 10 = .ok (.aload_n 0, 1) := by decide +kernel
theorem dX11_rule_11 : decode cX11_rule 11 = .ok (.getfield 227, 3) := by decide +kernel
theorem dX11_rule_14 : decode cX11_rule 14 = .ok (.invokevirtual 221, 3) := by decide +kernel
theorem dX11_rule_17 : decode cX11_rule 17 = .ok (.iconst (-1), 1) := by decide +kernel
theorem dX11_rule_18 : decode cX11_rule 18 = .ok (.if_icmp .eq 5, 3) := by decide +kernel
theorem dX11_rule_21 : decode cX11_rule 21 = .ok (.iconst (-1), 1) := by decide +kernel
theorem dX11_rule_22 : decode cX11_rule 22 = .ok (.ireturn, 1) := by decide +kernel
theorem dX11_rule_23 : decode cX11_rule 23 = .ok (.aload_n 0, 1) := by decide +kernel
theorem dX11_rule_24 : decode cX11_rule 24 = .ok (.iconst 0, 1) := by decide +kernel
theorem dX11_rule_25 : decode cX11_rule 25 = .ok (.putfield 122, 3) := by decide +kernel
theorem dX11_rule_28 : decode cX11_rule 28 = .ok (.aload_n 0, 1) := by decide +kernel
theorem dX11_rule_29 : decode cX11_rule 29 = .ok (.dup, 1) := by decide +kernel
theorem dX11_rule_30 : decode cX11_rule 30 = .ok (.getfield 227, 3) := by decide +kernel
theorem dX11_rule_33 : decode cX11_rule 33 = .ok (.iconst 1, 1) := by decide +kernel
theorem dX11_rule_34 : decode cX11_rule 34 = .ok (.iadd, 1) := by decide +kernel
theorem dX11_rule_35 : decode cX11_rule 35 = .ok (.putfield 227, 3) := by decide +kernel
theorem dX11_rule_38 : decode cX11_rule 38 = .ok (.aload_n 0, 1) := by decide +kernel
theorem dX11_rule_39 : decode cX11_rule 39 = .ok (.getfield 227, 3) := by decide +kernel
theorem dX11_rule_42 : decode cX11_rule 42 = .ok (.iconst 1, 1) := by decide +kernel
theorem dX11_rule_43 : decode cX11_rule 43 = .ok (.isub, 1) := by decide +kernel
theorem dX11_rule_44 : decode cX11_rule 44 = .ok (.ireturn, 1) := by decide +kernel
theorem dX11_within_0 : decode cX11_within 0 = .ok (.ldc2_w 230, 3) := by decide +kernel
theorem dX11_within_3 : decode cX11_within 3 = .ok (.ldc2_w 232, 3) := by decide +kernel
theorem dX11_within_6 : decode cX11_within 6 = .ok (.lload_n 0, 1) := by decide +kernel
theorem dX11_within_7 : decode cX11_within 7 = .ok (.invokestatic 234, 3) := by decide +kernel
theorem dX11_within_10 : decode cX11_within 10 = .ok (.invokestatic 237, 3) := by decide +kernel
theorem dX11_within_13 : decode cX11_within 13 = .ok (.lreturn, 1) := by decide +kernel
theorem dX11_both_0 : decode cX11_both 0 = .ok (.iload_n 0, 1) := by decide +kernel
theorem dX11_both_1 : decode cX11_both 1 = .ok (.tableswitch 205 38 62 #[189, 205, 205, 205, 129, 115, 205, 122, 205, 136, 205, 205, 205, 205, 205, 205, 205, 205, 205, 205, 205, 205, 165, 153, 177], 115) := by decide +kernel
theorem dX11_both_116 : decode cX11_both 116 = .ok (.lload_n 1, 1) := by decide +kernel
theorem dX11_both_117 : decode cX11_both 117 = .ok (.lload_n 3, 1) := by decide +kernel
theorem dX11_both_118 : decode cX11_both 118 = .ok (.ladd, 1) := by decide +kernel
theorem dX11_both_119 : decode cX11_both 119 = .ok (.invokestatic 240, 3) := by decide +kernel
theorem dX11_both_122 : decode cX11_both 122 = .ok (.lreturn, 1) := by decide +kernel
theorem dX11_both_123 : decode cX11_both 123 = .ok (.lload_n 1, 1) := by decide +kernel
theorem dX11_both_124 : decode cX11_both 124 = .ok (.lload_n 3, 1) := by decide +kernel
theorem dX11_both_125 : decode cX11_both 125 = .ok (.lsub, 1) := by decide +kernel
theorem dX11_both_126 : decode cX11_both 126 = .ok (.invokestatic 240, 3) := by decide +kernel
theorem dX11_both_129 : decode cX11_both 129 = .ok (.lreturn, 1) := by decide +kernel
theorem dX11_both_130 : decode cX11_both 130 = .ok (.lload_n 1, 1) := by decide +kernel
theorem dX11_both_131 : decode cX11_both 131 = .ok (.lload_n 3, 1) := by decide +kernel
theorem dX11_both_132 : decode cX11_both 132 = .ok (.lmul, 1) := by decide +kernel
theorem dX11_both_133 : decode cX11_both 133 = .ok (.invokestatic 240, 3) := by decide +kernel
theorem dX11_both_136 : decode cX11_both 136 = .ok (.lreturn, 1) := by decide +kernel
theorem dX11_both_137 : decode cX11_both 137 = .ok (.lload_n 3, 1) := by decide +kernel
theorem dX11_both_138 : decode cX11_both 138 = .ok (.lconst 0, 1) := by decide +kernel
theorem dX11_both_139 : decode cX11_both 139 = .ok (.lcmp, 1) := by decide +kernel
theorem dX11_both_140 : decode cX11_both 140 = .ok (.ifCond .ne 7, 3) := by decide +kernel
theorem dX11_both_143 : decode cX11_both 143 = .ok (.lconst 0, 1) := by decide +kernel
theorem dX11_both_144 : decode cX11_both 144 = .ok (.goto 9, 3) := by decide +kernel
theorem dX11_both_147 : decode cX11_both 147 = .ok (.lload_n 1, 1) := by decide +kernel
theorem dX11_both_148 : decode cX11_both 148 = .ok (.lload_n 3, 1) := by decide +kernel
theorem dX11_both_149 : decode cX11_both 149 = .ok (.ldiv, 1) := by decide +kernel
theorem dX11_both_150 : decode cX11_both 150 = .ok (.invokestatic 240, 3) := by decide +kernel
theorem dX11_both_153 : decode cX11_both 153 = .ok (.lreturn, 1) := by decide +kernel
theorem dX11_both_154 : decode cX11_both 154 = .ok (.lload_n 1, 1) := by decide +kernel
theorem dX11_both_155 : decode cX11_both 155 = .ok (.lload_n 3, 1) := by decide +kernel
theorem dX11_both_156 : decode cX11_both 156 = .ok (.lcmp, 1) := by decide +kernel
theorem dX11_both_157 : decode cX11_both 157 = .ok (.ifCond .ne 7, 3) := by decide +kernel
theorem dX11_both_160 : decode cX11_both 160 = .ok (.lconst 1, 1) := by decide +kernel
theorem dX11_both_161 : decode cX11_both 161 = .ok (.goto 4, 3) := by decide +kernel
theorem dX11_both_164 : decode cX11_both 164 = .ok (.lconst 0, 1) := by decide +kernel
theorem dX11_both_165 : decode cX11_both 165 = .ok (.lreturn, 1) := by decide +kernel
theorem dX11_both_166 : decode cX11_both 166 = .ok (.lload_n 1, 1) := by decide +kernel
theorem dX11_both_167 : decode cX11_both 167 = .ok (.lload_n 3, 1) := by decide +kernel
theorem dX11_both_168 : decode cX11_both 168 = .ok (.lcmp, 1) := by decide +kernel
theorem dX11_both_169 : decode cX11_both 169 = .ok (.ifCond .ge 7, 3) := by decide +kernel
theorem dX11_both_172 : decode cX11_both 172 = .ok (.lconst 1, 1) := by decide +kernel
theorem dX11_both_173 : decode cX11_both 173 = .ok (.goto 4, 3) := by decide +kernel
theorem dX11_both_176 : decode cX11_both 176 = .ok (.lconst 0, 1) := by decide +kernel
theorem dX11_both_177 : decode cX11_both 177 = .ok (.lreturn, 1) := by decide +kernel
theorem dX11_both_178 : decode cX11_both 178 = .ok (.lload_n 1, 1) := by decide +kernel
theorem dX11_both_179 : decode cX11_both 179 = .ok (.lload_n 3, 1) := by decide +kernel
theorem dX11_both_180 : decode cX11_both 180 = .ok (.lcmp, 1) := by decide +kernel
theorem dX11_both_181 : decode cX11_both 181 = .ok (.ifCond .le 7, 3) := by decide +kernel
theorem dX11_both_184 : decode cX11_both 184 = .ok (.lconst 1, 1) := by decide +kernel
theorem dX11_both_185 : decode cX11_both 185 = .ok (.goto 4, 3) := by decide +kernel
theorem dX11_both_188 : decode cX11_both 188 = .ok (.lconst 0, 1) := by decide +kernel
theorem dX11_both_189 : decode cX11_both 189 = .ok (.lreturn, 1) := by decide +kernel
theorem dX11_both_190 : decode cX11_both 190 = .ok (.lload_n 1, 1) := by decide +kernel
theorem dX11_both_191 : decode cX11_both 191 = .ok (.lload_n 3, 1) := by decide +kernel
theorem dX11_both_192 : decode cX11_both 192 = .ok (.ladd, 1) := by decide +kernel
theorem dX11_both_193 : decode cX11_both 193 = .ok (.ldc2_w 244, 3) := by decide +kernel
theorem dX11_both_196 : decode cX11_both 196 = .ok (.lcmp, 1) := by decide +kernel
theorem dX11_both_197 : decode cX11_both 197 = .ok (.ifCond .ne 7, 3) := by decide +kernel
theorem dX11_both_200 : decode cX11_both 200 = .ok (.lconst 1, 1) := by decide +kernel
theorem dX11_both_201 : decode cX11_both 201 = .ok (.goto 4, 3) := by decide +kernel
theorem dX11_both_204 : decode cX11_both 204 = .ok (.lconst 0, 1) := by decide +kernel
theorem dX11_both_205 : decode cX11_both 205 = .ok (.lreturn, 1) := by decide +kernel
theorem dX11_both_206 : decode cX11_both 206 = .ok (.lload_n 1, 1) := by decide +kernel
theorem dX11_both_207 : decode cX11_both 207 = .ok (.lload_n 3, 1) := by decide +kernel
theorem dX11_both_208 : decode cX11_both 208 = .ok (.ladd, 1) := by decide +kernel
theorem dX11_both_209 : decode cX11_both 209 = .ok (.lconst 0, 1) := by decide +kernel
theorem dX11_both_210 : decode cX11_both 210 = .ok (.lcmp, 1) := by decide +kernel
theorem dX11_both_211 : decode cX11_both 211 = .ok (.ifCond .le 7, 3) := by decide +kernel
theorem dX11_both_214 : decode cX11_both 214 = .ok (.lconst 1, 1) := by decide +kernel
theorem dX11_both_215 : decode cX11_both 215 = .ok (.goto 4, 3) := by decide +kernel
theorem dX11_both_218 : decode cX11_both 218 = .ok (.lconst 0, 1) := by decide +kernel
theorem dX11_both_219 : decode cX11_both 219 = .ok (.lreturn, 1) := by decide +kernel
