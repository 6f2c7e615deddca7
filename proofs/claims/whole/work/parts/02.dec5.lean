theorem dX12_readOver_5 : decode cX12_readOver 5 = .ok (.bipush 67, 2) := by decide +kernel
theorem dX12_readOver_7 : decode cX12_readOver 7 = .ok (.aload_n 0, 1) := by decide +kernel
theorem dX12_readOver_8 : decode cX12_readOver 8 = .ok (.getfield 37, 3) := by decide +kernel
theorem dX12_readOver_11 : decode cX12_readOver 11 = .ok (.iconst 4, 1) := by decide +kernel
theorem dX12_readOver_12 : decode cX12_readOver 12 = .ok (.iaload, 1) := by decide +kernel
theorem dX12_readOver_13 : decode cX12_readOver 13 = .ok (.invokevirtual 230, 3) := by decide +kernel
theorem dX12_readOver_16 : decode cX12_readOver 16 = .ok (.ifCond .ne 5, 3) := by decide +kernel
theorem dX12_readOver_19 : decode cX12_readOver 19 = .ok (.iconst 0, 1) := by decide +kernel
theorem dX12_readOver_20 : decode cX12_readOver 20 = .ok (.ireturn, 1) := by decide +kernel
theorem dX12_readOver_21 : decode cX12_readOver 21 = .ok (.aload_n 0, 1) := by decide +kernel
theorem dX12_readOver_22 : decode cX12_readOver 22 = .ok (.getfield 215, 3) := by decide +kernel
theorem dX12_readOver_25 : decode cX12_readOver 25 = .ok (.istore_n 1, 1) := by decide +kernel
theorem dX12_readOver_26 : decode cX12_readOver 26 = .ok (.aload_n 0, 1) := by decide +kernel
theorem dX12_readOver_27 : decode cX12_readOver 27 = .ok (.getfield 37, 3) := by decide +kernel
theorem dX12_readOver_30 : decode cX12_readOver 30 = .ok (.bipush 116, 2) := by decide +kernel
theorem dX12_readOver_32 : decode cX12_readOver 32 = .ok (.iload_n 1, 1) := by decide +kernel
theorem dX12_readOver_33 : decode cX12_readOver 33 = .ok (.iadd, 1) := by decide +kernel
theorem dX12_readOver_34 : decode cX12_readOver 34 = .ok (.iaload, 1) := by decide +kernel
theorem dX12_readOver_35 : decode cX12_readOver 35 = .ok (.istore_n 2, 1) := by decide +kernel
theorem dX12_readOver_36 : decode cX12_readOver 36 = .ok (.iload_n 2, 1) := by decide +kernel
theorem dX12_readOver_37 : decode cX12_readOver 37 = .ok (.bipush 6, 2) := by decide +kernel
theorem dX12_readOver_39 : decode cX12_readOver 39 = .ok (.if_icmp .ne 9, 3) := by decide +kernel
theorem dX12_readOver_42 : decode cX12_readOver 42 = .ok (.aload_n 0, 1) := by decide +kernel
theorem dX12_readOver_43 : decode cX12_readOver 43 = .ok (.iconst 4, 1) := by decide +kernel
theorem dX12_readOver_44 : decode cX12_readOver 44 = .ok (.invokevirtual 205, 3) := by decide +kernel
theorem dX12_readOver_47 : decode cX12_readOver 47 = .ok (.ireturn, 1) := by decide +kernel
theorem dX12_readOver_48 : decode cX12_readOver 48 = .ok (.aload_n 0, 1) := by decide +kernel
theorem dX12_readOver_49 : decode cX12_readOver 49 = .ok (.invokevirtual 208, 3) := by decide +kernel
theorem dX12_readOver_52 : decode cX12_readOver 52 = .ok (.aload_n 0, 1) := by decide +kernel
theorem dX12_readOver_53 : decode cX12_readOver 53 = .ok (.bipush 41, 2) := by decide +kernel
theorem dX12_readOver_55 : decode cX12_readOver 55 = .ok (.aload_n 0, 1) := by decide +kernel
theorem dX12_readOver_56 : decode cX12_readOver 56 = .ok (.getfield 37, 3) := by decide +kernel
theorem dX12_readOver_59 : decode cX12_readOver 59 = .ok (.iconst 0, 1) := by decide +kernel
theorem dX12_readOver_60 : decode cX12_readOver 60 = .ok (.iaload, 1) := by decide +kernel
theorem dX12_readOver_61 : decode cX12_readOver 61 = .ok (.invokevirtual 230, 3) := by decide +kernel
theorem dX12_readOver_64 : decode cX12_readOver 64 = .ok (.ifCond .ne 5, 3) := by decide +kernel
theorem dX12_readOver_67 : decode cX12_readOver 67 = .ok (.iconst 0, 1) := by decide +kernel
theorem dX12_readOver_68 : decode cX12_readOver 68 = .ok (.ireturn, 1) := by decide +kernel
theorem dX12_readOver_69 : decode cX12_readOver 69 = .ok (.aload_n 0, 1) := by decide +kernel
theorem dX12_readOver_70 : decode cX12_readOver 70 = .ok (.getfield 37, 3) := by decide +kernel
theorem dX12_readOver_73 : decode cX12_readOver 73 = .ok (.bipush 98, 2) := by decide +kernel
theorem dX12_readOver_75 : decode cX12_readOver 75 = .ok (.aload_n 0, 1) := by decide +kernel
theorem dX12_readOver_76 : decode cX12_readOver 76 = .ok (.getfield 37, 3) := by decide +kernel
theorem dX12_readOver_79 : decode cX12_readOver 79 = .ok (.bipush 106, 2) := by decide +kernel
theorem dX12_readOver_81 : decode cX12_readOver 81 = .ok (.iload_n 1, 1) := by decide +kernel
theorem dX12_readOver_82 : decode cX12_readOver 82 = .ok (.iadd, 1) := by decide +kernel
theorem dX12_readOver_83 : decode cX12_readOver 83 = .ok (.iaload, 1) := by decide +kernel
theorem dX12_readOver_84 : decode cX12_readOver 84 = .ok (.iadd, 1) := by decide +kernel
theorem dX12_readOver_85 : decode cX12_readOver 85 = .ok (.iaload, 1) := by decide +kernel
theorem dX12_readOver_86 : decode cX12_readOver 86 = .ok (.istore_n 3, 1) := by decide +kernel
theorem dX12_readOver_87 : decode cX12_readOver 87 = .ok (.aload_n 0, 1) := by decide +kernel
theorem dX12_readOver_88 : decode cX12_readOver 88 = .ok (.getfield 37, 3) := by decide +kernel
theorem dX12_readOver_91 : decode cX12_readOver 91 = .ok (.bipush 90, 2) := by decide +kernel
theorem dX12_readOver_93 : decode cX12_readOver 93 = .ok (.aload_n 0, 1) := by decide +kernel
theorem dX12_readOver_94 : decode cX12_readOver 94 = .ok (.getfield 37, 3) := by decide +kernel
theorem dX12_readOver_97 : decode cX12_readOver 97 = .ok (.bipush 106, 2) := by decide +kernel
theorem dX12_readOver_99 : decode cX12_readOver 99 = .ok (.iload_n 1, 1) := by decide +kernel
theorem dX12_readOver_100 : decode cX12_readOver 100 = .ok (.iadd, 1) := by decide +kernel
theorem dX12_readOver_101 : decode cX12_readOver 101 = .ok (.iaload, 1) := by decide +kernel
theorem dX12_readOver_102 : decode cX12_readOver 102 = .ok (.iadd, 1) := by decide +kernel
theorem dX12_readOver_103 : decode cX12_readOver 103 = .ok (.iaload, 1) := by decide +kernel
theorem dX12_readOver_104 : decode cX12_readOver 104 = .ok (.istore 4, 2) := by decide +kernel
theorem dX12_readOver_106 : decode cX12_readOver 106 = .ok (.iload_n 2, 1) := by decide +kernel
theorem dX12_readOver_107 : decode cX12_readOver 107 = .ok (.ifCond .ne 8, 3) := by decide +kernel
theorem dX12_readOver_110 : decode cX12_readOver 110 = .ok (.iload 4, 2) := by decide +kernel
theorem dX12_readOver_112 : decode cX12_readOver 112 = .ok (.goto 19, 3) := by decide +kernel
theorem dX12_readOver_115 : decode cX12_readOver 115 = .ok (.aload_n 0, 1) := by decide +kernel
theorem dX12_readOver_116 : decode cX12_readOver 116 = .ok (.getfield 37, 3) := by decide +kernel
theorem dX12_readOver_119 : decode cX12_readOver 119 = .ok (.bipush 126, 2) := by decide +kernel
theorem dX12_readOver_121 : decode cX12_readOver 121 = .ok (.bipush 6, 2) := by decide +kernel
theorem dX12_readOver_123 : decode cX12_readOver 123 = .ok (.iload_n 1, 1) := by decide +kernel
theorem dX12_readOver_124 : decode cX12_readOver 124 = .ok (.imul, 1) := by decide +kernel
theorem dX12_readOver_125 : decode cX12_readOver 125 = .ok (.iadd, 1) := by decide +kernel
theorem dX12_readOver_126 : decode cX12_readOver 126 = .ok (.iload_n 2, 1) := by decide +kernel
theorem dX12_readOver_127 : decode cX12_readOver 127 = .ok (.iadd, 1) := by decide +kernel
theorem dX12_readOver_128 : decode cX12_readOver 128 = .ok (.iconst 1, 1) := by decide +kernel
theorem dX12_readOver_129 : decode cX12_readOver 129 = .ok (.isub, 1) := by decide +kernel
theorem dX12_readOver_130 : decode cX12_readOver 130 = .ok (.iaload, 1) := by decide +kernel
theorem dX12_readOver_131 : decode cX12_readOver 131 = .ok (.istore 5, 2) := by decide +kernel
theorem dX12_readOver_133 : decode cX12_readOver 133 = .ok (.iconst (-1), 1) := by decide +kernel
theorem dX12_readOver_134 : decode cX12_readOver 134 = .ok (.istore 6, 2) := by decide +kernel
theorem dX12_readOver_136 : decode cX12_readOver 136 = .ok (.iconst 0, 1) := by decide +kernel
theorem dX12_readOver_137 : decode cX12_readOver 137 = .ok (.istore 7, 2) := by decide +kernel
theorem dX12_readOver_139 : decode cX12_readOver 139 = .ok (.iload 7, 2) := by decide +kernel
theorem dX12_readOver_141 : decode cX12_readOver 141 = .ok (.aload_n 0, 1) := by decide +kernel
theorem dX12_readOver_142 : decode cX12_readOver 142 = .ok (.getfield 37, 3) := by decide +kernel
theorem dX12_readOver_145 : decode cX12_readOver 145 = .ok (.iconst 2, 1) := by decide +kernel
theorem dX12_readOver_146 : decode cX12_readOver 146 = .ok (.iaload, 1) := by decide +kernel
theorem dX12_readOver_147 : decode cX12_readOver 147 = .ok (.if_icmp .ge 65, 3) := by decide +kernel
theorem dX12_readOver_150 : decode cX12_readOver 150 = .ok (.aload_n 0, 1) := by decide +kernel
theorem dX12_readOver_151 : decode cX12_readOver 151 = .ok (.getfield 37, 3) := by decide +kernel
theorem dX12_readOver_154 : decode cX12_readOver 154 = .ok (.bipush 26, 2) := by decide +kernel
theorem dX12_readOver_156 : decode cX12_readOver 156 = .ok (.iload 7, 2) := by decide +kernel
theorem dX12_readOver_158 : decode cX12_readOver 158 = .ok (.iadd, 1) := by decide +kernel
theorem dX12_readOver_159 : decode cX12_readOver 159 = .ok (.iaload, 1) := by decide +kernel
theorem dX12_readOver_160 : decode cX12_readOver 160 = .ok (.iload_n 3, 1) := by decide +kernel
theorem dX12_readOver_161 : decode cX12_readOver 161 = .ok (.ifCond .ne 8, 3) := by decide +kernel
theorem dX12_readOver_164 : decode cX12_readOver 164 = .ok (.iload 5, 2) := by decide +kernel
theorem dX12_readOver_166 : decode cX12_readOver 166 = .ok (.goto 7, 3) := by decide +kernel
theorem dX12_readOver_169 : decode cX12_readOver 169 = .ok (.aload_n 0, 1) := by decide +kernel
theorem dX12_readOver_170 : decode cX12_readOver 170 = .ok (.getfield 215, 3) := by decide +kernel
theorem dX12_readOver_173 : decode cX12_readOver 173 = .ok (.if_icmp .ne 33, 3) := by decide +kernel
theorem dX12_readOver_176 : decode cX12_readOver 176 = .ok (.aload_n 0, 1) := by decide +kernel
theorem dX12_readOver_177 : decode cX12_readOver 177 = .ok (.getfield 37, 3) := by decide +kernel
theorem dX12_readOver_180 : decode cX12_readOver 180 = .ok (.bipush 42, 2) := by decide +kernel
theorem dX12_readOver_182 : decode cX12_readOver 182 = .ok (.iload 7, 2) := by decide +kernel
theorem dX12_readOver_184 : decode cX12_readOver 184 = .ok (.iadd, 1) := by decide +kernel
theorem dX12_readOver_185 : decode cX12_readOver 185 = .ok (.iaload, 1) := by decide +kernel
theorem dX12_readOver_186 : decode cX12_readOver 186 = .ok (.iload_n 3, 1) := by decide +kernel
theorem dX12_readOver_187 : decode cX12_readOver 187 = .ok (.ifCond .ne 10, 3) := by decide +kernel
theorem dX12_readOver_190 : decode cX12_readOver 190 = .ok (.aload_n 0, 1) := by decide +kernel
theorem dX12_readOver_191 : decode cX12_readOver 191 = .ok (.getfield 215, 3) := by decide +kernel
theorem dX12_readOver_194 : decode cX12_readOver 194 = .ok (.goto 5, 3) := by decide +kernel
theorem dX12_readOver_197 : decode cX12_readOver 197 = .ok (.iload 5, 2) := by decide +kernel
theorem dX12_readOver_199 : decode cX12_readOver 199 = .ok (.if_icmp .ne 7, 3) := by decide +kernel
theorem dX12_readOver_202 : decode cX12_readOver 202 = .ok (.iload 7, 2) := by decide +kernel
theorem dX12_readOver_204 : decode cX12_readOver 204 = .ok (.istore 6, 2) := by decide +kernel
theorem dX12_readOver_206 : decode cX12_readOver 206 = .ok (.iinc 7 1, 3) := by decide +kernel
theorem dX12_readOver_209 : decode cX12_readOver 209 = .ok (.goto (-70), 3) := by decide +kernel
theorem dX12_readOver_212 : decode cX12_readOver 212 = .ok (.iload 6, 2) := by decide +kernel
theorem dX12_readOver_214 : decode cX12_readOver 214 = .ok (.ifCond .lt 12, 3) := by decide +kernel
theorem dX12_readOver_217 : decode cX12_readOver 217 = .ok (.aload_n 0, 1) := by decide +kernel
theorem dX12_readOver_218 : decode cX12_readOver 218 = .ok (.getfield 215, 3) := by decide +kernel
theorem dX12_readOver_221 : decode cX12_readOver 221 = .ok (.iload 4, 2) := by decide +kernel
theorem dX12_readOver_223 : decode cX12_readOver 223 = .ok (.if_icmp .ne 7, 3) := by decide +kernel
theorem dX12_readOver_226 : decode cX12_readOver 226 = .ok (.iconst 1, 1) := by decide +kernel
theorem dX12_readOver_227 : decode cX12_readOver 227 = .ok (.goto 4, 3) := by decide +kernel
theorem dX12_readOver_230 : decode cX12_readOver 230 = .ok (.iconst 0, 1) := by decide +kernel
theorem dX12_readOver_231 : decode cX12_readOver 231 = .ok (.istore 7, 2) := by decide +kernel
theorem dX12_readOver_233 : decode cX12_readOver 233 = .ok (.iconst 0, 1) := by decide +kernel
theorem dX12_readOver_234 : decode cX12_readOver 234 = .ok (.istore 8, 2) := by decide +kernel
theorem dX12_readOver_236 : decode cX12_readOver 236 = .ok (.iload 8, 2) := by decide +kernel
theorem dX12_readOver_238 : decode cX12_readOver 238 = .ok (.iload_n 2, 1) := by decide +kernel
theorem dX12_readOver_239 : decode cX12_readOver 239 = .ok (.if_icmp .ge 43, 3) := by decide +kernel
theorem dX12_readOver_242 : decode cX12_readOver 242 = .ok (.iload 7, 2) := by decide +kernel
theorem dX12_readOver_244 : decode cX12_readOver 244 = .ok (.ifCond .ne 25, 3) := by decide +kernel
theorem dX12_readOver_247 : decode cX12_readOver 247 = .ok (.aload_n 0, 1) := by decide +kernel
theorem dX12_readOver_248 : decode cX12_readOver 248 = .ok (.getfield 37, 3) := by decide +kernel
theorem dX12_readOver_251 : decode cX12_readOver 251 = .ok (.bipush 126, 2) := by decide +kernel
theorem dX12_readOver_253 : decode cX12_readOver 253 = .ok (.bipush 6, 2) := by decide +kernel
theorem dX12_readOver_255 : decode cX12_readOver 255 = .ok (.iload_n 1, 1) := by decide +kernel
theorem dX12_readOver_256 : decode cX12_readOver 256 = .ok (.imul, 1) := by decide +kernel
theorem dX12_readOver_257 : decode cX12_readOver 257 = .ok (.iadd, 1) := by decide +kernel
theorem dX12_readOver_258 : decode cX12_readOver 258 = .ok (.iload 8, 2) := by decide +kernel
theorem dX12_readOver_260 : decode cX12_readOver 260 = .ok (.iadd, 1) := by decide +kernel
theorem dX12_readOver_261 : decode cX12_readOver 261 = .ok (.iaload, 1) := by decide +kernel
theorem dX12_readOver_262 : decode cX12_readOver 262 = .ok (.aload_n 0, 1) := by decide +kernel
theorem dX12_readOver_263 : decode cX12_readOver 263 = .ok (.getfield 215, 3) := by decide +kernel
theorem dX12_readOver_266 : decode cX12_readOver 266 = .ok (.if_icmp .ne 7, 3) := by decide +kernel
theorem dX12_readOver_269 : decode cX12_readOver 269 = .ok (.iconst 1, 1) := by decide +kernel
theorem dX12_readOver_270 : decode cX12_readOver 270 = .ok (.goto 4, 3) := by decide +kernel
theorem dX12_readOver_273 : decode cX12_readOver 273 = .ok (.iconst 0, 1) := by decide +kernel
theorem dX12_readOver_274 : decode cX12_readOver 274 = .ok (.istore 7, 2) := by decide +kernel
theorem dX12_readOver_276 : decode cX12_readOver 276 = .ok (.iinc 8 1, 3) := by decide +kernel
theorem dX12_readOver_279 : decode cX12_readOver 279 = .ok (.goto (-43), 3) := by decide +kernel
theorem dX12_readOver_282 : decode cX12_readOver 282 = .ok (.iload 7, 2) := by decide +kernel
theorem dX12_readOver_284 : decode cX12_readOver 284 = .ok (.ifCond .eq 9, 3) := by decide +kernel
theorem dX12_readOver_287 : decode cX12_readOver 287 = .ok (.aload_n 0, 1) := by decide +kernel
theorem dX12_readOver_288 : decode cX12_readOver 288 = .ok (.iconst 3, 1) := by decide +kernel
theorem dX12_readOver_289 : decode cX12_readOver 289 = .ok (.invokevirtual 205, 3) := by decide +kernel
theorem dX12_readOver_292 : decode cX12_readOver 292 = .ok (.ireturn, 1) := by decide +kernel
theorem dX12_readOver_293 : decode cX12_readOver 293 = .ok (.aload_n 0, 1) := by decide +kernel
theorem dX12_readOver_294 : decode cX12_readOver 294 = .ok (.getfield 37, 3) := by decide +kernel
theorem dX12_readOver_297 : decode cX12_readOver 297 = .ok (.bipush 58, 2) := by decide +kernel
theorem dX12_readOver_299 : decode cX12_readOver 299 = .ok (.iload 6, 2) := by decide +kernel
theorem dX12_readOver_301 : decode cX12_readOver 301 = .ok (.iadd, 1) := by decide +kernel
theorem dX12_readOver_302 : decode cX12_readOver 302 = .ok (.iaload, 1) := by decide +kernel
theorem dX12_readOver_303 : decode cX12_readOver 303 = .ok (.ifCond .le 84, 3) := by decide +kernel
theorem dX12_readOver_306 : decode cX12_readOver 306 = .ok (.iconst 1, 1) := by decide +kernel
theorem dX12_readOver_307 : decode cX12_readOver 307 = .ok (.aload_n 0, 1) := by decide +kernel
theorem dX12_readOver_308 : decode cX12_readOver 308 = .ok (.getfield 37, 3) := by decide +kernel
theorem dX12_readOver_311 : decode cX12_readOver 311 = .ok (.bipush 58, 2) := by decide +kernel
theorem dX12_readOver_313 : decode cX12_readOver 313 = .ok (.iload 6, 2) := by decide +kernel
theorem dX12_readOver_315 : decode cX12_readOver 315 = .ok (.iadd, 1) := by decide +kernel
theorem dX12_readOver_316 : decode cX12_readOver 316 = .ok (.iaload, 1) := by decide +kernel
theorem dX12_readOver_317 : decode cX12_readOver 317 = .ok (.iconst 1, 1) := by decide +kernel
theorem dX12_readOver_318 : decode cX12_readOver 318 = .ok (.isub, 1) := by decide +kernel
theorem dX12_readOver_319 : decode cX12_readOver 319 = .ok (.ishl, 1) := by decide +kernel
theorem dX12_readOver_320 : decode cX12_readOver 320 = .ok (.istore 8, 2) := by decide +kernel
theorem dX12_readOver_322 : decode cX12_readOver 322 = .ok (.aload_n 0, 1) := by decide +kernel
theorem dX12_readOver_323 : decode cX12_readOver 323 = .ok (.getfield 37, 3) := by decide +kernel
theorem dX12_readOver_326 : decode cX12_readOver 326 = .ok (.bipush 74, 2) := by decide +kernel
theorem dX12_readOver_328 : decode cX12_readOver 328 = .ok (.iload 6, 2) := by decide +kernel
theorem dX12_readOver_330 : decode cX12_readOver 330 = .ok (.iadd, 1) := by decide +kernel
theorem dX12_readOver_331 : decode cX12_readOver 331 = .ok (.iaload, 1) := by decide +kernel
theorem dX12_readOver_332 : decode cX12_readOver 332 = .ok (.ifCond .ne 9, 3) := by decide +kernel
theorem dX12_readOver_335 : decode cX12_readOver 335 = .ok (.sipush 186, 3) := by decide +kernel
theorem dX12_readOver_338 : decode cX12_readOver 338 = .ok (.goto 6, 3) := by decide +kernel
theorem dX12_readOver_341 : decode cX12_readOver 341 = .ok (.sipush 196, 3) := by decide +kernel
theorem dX12_readOver_344 : decode cX12_readOver 344 = .ok (.iload_n 1, 1) := by decide +kernel
theorem dX12_readOver_345 : decode cX12_readOver 345 = .ok (.iadd, 1) := by decide +kernel
theorem dX12_readOver_346 : decode cX12_readOver 346 = .ok (.istore 9, 2) := by decide +kernel
theorem dX12_readOver_348 : decode cX12_readOver 348 = .ok (.aload_n 0, 1) := by decide +kernel
theorem dX12_readOver_349 : decode cX12_readOver 349 = .ok (.getfield 37, 3) := by decide +kernel
theorem dX12_readOver_352 : decode cX12_readOver 352 = .ok (.sipush 382, 3) := by decide +kernel
theorem dX12_readOver_355 : decode cX12_readOver 355 = .ok (.iload 9, 2) := by decide +kernel
theorem dX12_readOver_357 : decode cX12_readOver 357 = .ok (.isub, 1) := by decide +kernel
theorem dX12_readOver_358 : decode cX12_readOver 358 = .ok (.iconst 2, 1) := by decide +kernel
theorem dX12_readOver_359 : decode cX12_readOver 359 = .ok (.iload_n 1, 1) := by decide +kernel
theorem dX12_readOver_360 : decode cX12_readOver 360 = .ok (.imul, 1) := by decide +kernel
theorem dX12_readOver_361 : decode cX12_readOver 361 = .ok (.iadd, 1) := by decide +kernel
theorem dX12_readOver_362 : decode cX12_readOver 362 = .ok (.iaload, 1) := by decide +kernel
theorem dX12_readOver_363 : decode cX12_readOver 363 = .ok (.iload 8, 2) := by decide +kernel
theorem dX12_readOver_365 : decode cX12_readOver 365 = .ok (.iand, 1) := by decide +kernel
theorem dX12_readOver_366 : decode cX12_readOver 366 = .ok (.ifCond .eq 9, 3) := by decide +kernel
theorem dX12_readOver_369 : decode cX12_readOver 369 = .ok (.aload_n 0, 1) := by decide +kernel
theorem dX12_readOver_370 : decode cX12_readOver 370 = .ok (.iconst 3, 1) := by decide +kernel
theorem dX12_readOver_371 : decode cX12_readOver 371 = .ok (.invokevirtual 205, 3) := by decide +kernel
theorem dX12_readOver_374 : decode cX12_readOver 374 = .ok (.ireturn, 1) := by decide +kernel
theorem dX12_readOver_375 : decode cX12_readOver 375 = .ok (.aload_n 0, 1) := by decide +kernel
theorem dX12_readOver_376 : decode cX12_readOver 376 = .ok (.getfield 37, 3) := by decide +kernel
theorem dX12_readOver_379 : decode cX12_readOver 379 = .ok (.iload 9, 2) := by decide +kernel
theorem dX12_readOver_381 : decode cX12_readOver 381 = .ok (.dup2, 1) := by decide +kernel
theorem dX12_readOver_382 : decode cX12_readOver 382 = .ok (.iaload, 1) := by decide +kernel
theorem dX12_readOver_383 : decode cX12_readOver 383 = .ok (.iload 8, 2) := by decide +kernel
theorem dX12_readOver_385 : decode cX12_readOver 385 = .ok (.ior, 1) := by decide +kernel
theorem dX12_readOver_386 : decode cX12_readOver 386 = .ok (.iastore, 1) := by decide +kernel
theorem dX12_readOver_387 : decode cX12_readOver 387 = .ok (.aload_n 0, 1) := by decide +kernel
theorem dX12_readOver_388 : decode cX12_readOver 388 = .ok (.getfield 37, 3) := by decide +kernel
theorem dX12_readOver_391 : decode cX12_readOver 391 = .ok (.bipush 126, 2) := by decide +kernel
theorem dX12_readOver_393 : decode cX12_readOver 393 = .ok (.bipush 6, 2) := by decide +kernel
theorem dX12_readOver_395 : decode cX12_readOver 395 = .ok (.iload_n 1, 1) := by decide +kernel
theorem dX12_readOver_396 : decode cX12_readOver 396 = .ok (.imul, 1) := by decide +kernel
theorem dX12_readOver_397 : decode cX12_readOver 397 = .ok (.iadd, 1) := by decide +kernel
theorem dX12_readOver_398 : decode cX12_readOver 398 = .ok (.iload_n 2, 1) := by decide +kernel
theorem dX12_readOver_399 : decode cX12_readOver 399 = .ok (.iadd, 1) := by decide +kernel
theorem dX12_readOver_400 : decode cX12_readOver 400 = .ok (.aload_n 0, 1) := by decide +kernel
theorem dX12_readOver_401 : decode cX12_readOver 401 = .ok (.getfield 215, 3) := by decide +kernel
theorem dX12_readOver_404 : decode cX12_readOver 404 = .ok (.iastore, 1) := by decide +kernel
theorem dX12_readOver_405 : decode cX12_readOver 405 = .ok (.aload_n 0, 1) := by decide +kernel
theorem dX12_readOver_406 : decode cX12_readOver 406 = .ok (.getfield 37, 3) := by decide +kernel
theorem dX12_readOver_409 : decode cX12_readOver 409 = .ok (.bipush 116, 2) := by decide +kernel
theorem dX12_readOver_411 : decode cX12_readOver 411 = .ok (.iload_n 1, 1) := by decide +kernel
theorem dX12_readOver_412 : decode cX12_readOver 412 = .ok (.iadd, 1) := by decide +kernel
theorem dX12_readOver_413 : decode cX12_readOver 413 = .ok (.dup2, 1) := by decide +kernel
theorem dX12_readOver_414 : decode cX12_readOver 414 = .ok (.iaload, 1) := by decide +kernel
theorem dX12_readOver_415 : decode cX12_readOver 415 = .ok (.iconst 1, 1) := by decide +kernel
theorem dX12_readOver_416 : decode cX12_readOver 416 = .ok (.iadd, 1) := by decide +kernel
theorem dX12_readOver_417 : decode cX12_readOver 417 = .ok (.iastore, 1) := by decide +kernel
theorem dX12_readOver_418 : decode cX12_readOver 418 = .ok (.aload_n 0, 1) := by decide +kernel
theorem dX12_readOver_419 : decode cX12_readOver 419 = .ok (.invokevirtual 208, 3) := by decide +kernel
theorem dX12_readOver_422 : decode cX12_readOver 422 = .ok (.iconst 1, 1) := by decide +kernel
theorem dX12_readOver_423 : decode cX12_readOver 423 = .ok (.ireturn, 1) := by decide +kernel
theorem dX12_readLock_0 : decode cX12_readLock 0 = .ok (.aload_n 0, 1) := by decide +kernel
theorem dX12_readLock_1 : decode cX12_readLock 1 = .ok (.invokevirtual 208, 3) := by decide +kernel
theorem dX12_readLock_4 : decode cX12_readLock 4 = .ok (.aload_n 0, 1) := by decide +kernel
theorem dX12_readLock_5 : decode cX12_readLock 5 = .ok (.bipush 67, 2) := by decide +kernel
theorem dX12_readLock_7 : decode cX12_readLock 7 = .ok (.aload_n 0, 1) := by decide +kernel
theorem dX12_readLock_8 : decode cX12_readLock 8 = .ok (.getfield 37, 3) := by decide +kernel
theorem dX12_readLock_11 : decode cX12_readLock 11 = .ok (.iconst 4, 1) := by decide +kernel
theorem dX12_readLock_12 : decode cX12_readLock 12 = .ok (.iaload, 1) := by decide +kernel
theorem dX12_readLock_13 : decode cX12_readLock 13 = .ok (.invokevirtual 271, 3) := by decide +kernel
theorem dX12_readLock_16 : decode cX12_readLock 16 = .ok (.ifCond .ne 5, 3) := by decide +kernel
theorem dX12_readLock_19 : decode cX12_readLock 19 = .ok (.iconst 0, 1) := by decide +kernel
theorem dX12_readLock_20 : decode cX12_readLock 20 = .ok (.ireturn, 1) := by decide +kernel
theorem dX12_readLock_21 : decode cX12_readLock 21 = .ok (.aload_n 0, 1) := by decide +kernel
theorem dX12_readLock_22 : decode cX12_readLock 22 = .ok (.getfield 215, 3) := by decide +kernel
theorem dX12_readLock_25 : decode cX12_readLock 25 = .ok (.istore_n 1, 1) := by decide +kernel
theorem dX12_readLock_26 : decode cX12_readLock 26 = .ok (.aload_n 0, 1) := by decide +kernel
theorem dX12_readLock_27 : decode cX12_readLock 27 = .ok (.bipush 67, 2) := by decide +kernel
theorem dX12_readLock_29 : decode cX12_readLock 29 = .ok (.aload_n 0, 1) := by decide +kernel
theorem dX12_readLock_30 : decode cX12_readLock 30 = .ok (.getfield 37, 3) := by decide +kernel
theorem dX12_readLock_33 : decode cX12_readLock 33 = .ok (.iconst 4, 1) := by decide +kernel
theorem dX12_readLock_34 : decode cX12_readLock 34 = .ok (.iaload, 1) := by decide +kernel
theorem dX12_readLock_35 : decode cX12_readLock 35 = .ok (.invokevirtual 230, 3) := by decide +kernel
theorem dX12_readLock_38 : decode cX12_readLock 38 = .ok (.ifCond .ne 5, 3) := by decide +kernel
theorem dX12_readLock_41 : decode cX12_readLock 41 = .ok (.iconst 0, 1) := by decide +kernel
theorem dX12_readLock_42 : decode cX12_readLock 42 = .ok (.ireturn, 1) := by decide +kernel
theorem dX12_readLock_43 : decode cX12_readLock 43 = .ok (.aload_n 0, 1) := by decide +kernel
theorem dX12_readLock_44 : decode cX12_readLock 44 = .ok (.getfield 215, 3) := by decide +kernel
theorem dX12_readLock_47 : decode cX12_readLock 47 = .ok (.iload_n 1, 1) := by decide +kernel
theorem dX12_readLock_48 : decode cX12_readLock 48 = .ok (.if_icmp .eq 23, 3) := by decide +kernel
theorem dX12_readLock_51 : decode cX12_readLock 51 = .ok (.aload_n 0, 1) := by decide +kernel
theorem dX12_readLock_52 : decode cX12_readLock 52 = .ok (.getfield 37, 3) := by decide +kernel
theorem dX12_readLock_55 : decode cX12_readLock 55 = .ok (.sipush 206, 3) := by decide +kernel
theorem dX12_readLock_58 : decode cX12_readLock 58 = .ok (.iload_n 1, 1) := by decide +kernel
theorem dX12_readLock_59 : decode cX12_readLock 59 = .ok (.iadd, 1) := by decide +kernel
theorem dX12_readLock_60 : decode cX12_readLock 60 = .ok (.iaload, 1) := by decide +kernel
theorem dX12_readLock_61 : decode cX12_readLock 61 = .ok (.aload_n 0, 1) := by decide +kernel
theorem dX12_readLock_62 : decode cX12_readLock 62 = .ok (.getfield 215, 3) := by decide +kernel
theorem dX12_readLock_65 : decode cX12_readLock 65 = .ok (.invokestatic 280, 3) := by decide +kernel
theorem dX12_readLock_68 : decode cX12_readLock 68 = .ok (.ifCond .eq 9, 3) := by decide +kernel
theorem dX12_readLock_71 : decode cX12_readLock 71 = .ok (.aload_n 0, 1) := by decide +kernel
theorem dX12_readLock_72 : decode cX12_readLock 72 = .ok (.iconst 3, 1) := by decide +kernel
theorem dX12_readLock_73 : decode cX12_readLock 73 = .ok (.invokevirtual 205, 3) := by decide +kernel
theorem dX12_readLock_76 : decode cX12_readLock 76 = .ok (.ireturn, 1) := by decide +kernel
theorem dX12_readLock_77 : decode cX12_readLock 77 = .ok (.aload_n 0, 1) := by decide +kernel
theorem dX12_readLock_78 : decode cX12_readLock 78 = .ok (.getfield 37, 3) := by decide +kernel
theorem dX12_readLock_81 : decode cX12_readLock 81 = .ok (.sipush 206, 3) := by decide +kernel
theorem dX12_readLock_84 : decode cX12_readLock 84 = .ok (.iload_n 1, 1) := by decide +kernel
theorem dX12_readLock_85 : decode cX12_readLock 85 = .ok (.iadd, 1) := by decide +kernel
theorem dX12_readLock_86 : decode cX12_readLock 86 = .ok (.dup2, 1) := by decide +kernel
theorem dX12_readLock_87 : decode cX12_readLock 87 = .ok (.iaload, 1) := by decide +kernel
theorem dX12_readLock_88 : decode cX12_readLock 88 = .ok (.iconst 1, 1) := by decide +kernel
theorem dX12_readLock_89 : decode cX12_readLock 89 = .ok (.aload_n 0, 1) := by decide +kernel
theorem dX12_readLock_90 : decode cX12_readLock 90 = .ok (.getfield 215, 3) := by decide +kernel
theorem dX12_readLock_93 : decode cX12_readLock 93 = .ok (.ishl, 1) := by decide +kernel
theorem dX12_readLock_94 : decode cX12_readLock 94 = .ok (.ior, 1) := by decide +kernel
theorem dX12_readLock_95 : decode cX12_readLock 95 = .ok (.iastore, 1) := by decide +kernel
theorem dX12_readLock_96 : decode cX12_readLock 96 = .ok (.aload_n 0, 1) := by decide +kernel
theorem dX12_readLock_97 : decode cX12_readLock 97 = .ok (.getfield 37, 3) := by decide +kernel
theorem dX12_readLock_100 : decode cX12_readLock 100 = .ok (.sipush 206, 3) := by decide +kernel
theorem dX12_readLock_103 : decode cX12_readLock 103 = .ok (.aload_n 0, 1) := by decide +kernel
theorem dX12_readLock_104 : decode cX12_readLock 104 = .ok (.getfield 215, 3) := by decide +kernel
theorem dX12_readLock_107 : decode cX12_readLock 107 = .ok (.iadd, 1) := by decide +kernel
theorem dX12_readLock_108 : decode cX12_readLock 108 = .ok (.dup2, 1) := by decide +kernel
theorem dX12_readLock_109 : decode cX12_readLock 109 = .ok (.iaload, 1) := by decide +kernel
theorem dX12_readLock_110 : decode cX12_readLock 110 = .ok (.iconst 1, 1) := by decide +kernel
theorem dX12_readLock_111 : decode cX12_readLock 111 = .ok (.iload_n 1, 1) := by decide +kernel
theorem dX12_readLock_112 : decode cX12_readLock 112 = .ok (.ishl, 1) := by decide +kernel
theorem dX12_readLock_113 : decode cX12_readLock 113 = .ok (.ior, 1) := by decide +kernel
theorem dX12_readLock_114 : decode cX12_readLock 114 = .ok (.iastore, 1) := by decide +kernel
theorem dX12_readLock_115 : decode cX12_readLock 115 = .ok (.aload_n 0, 1) := by decide +kernel
theorem dX12_readLock_116 : decode cX12_readLock 116 = .ok (.getfield 37, 3) := by decide +kernel
theorem dX12_readLock_119 : decode cX12_readLock 119 = .ok (.iconst 5, 1) := by decide +kernel
theorem dX12_readLock_120 : decode cX12_readLock 120 = .ok (.dup2, 1) := by decide +kernel
theorem dX12_readLock_121 : decode cX12_readLock 121 = .ok (.iaload, 1) := by decide +kernel
theorem dX12_readLock_122 : decode cX12_readLock 122 = .ok (.iconst 1, 1) := by decide +kernel
theorem dX12_readLock_123 : decode cX12_readLock 123 = .ok (.iadd, 1) := by decide +kernel
theorem dX12_readLock_124 : decode cX12_readLock 124 = .ok (.iastore, 1) := by decide +kernel
theorem dX12_readLock_125 : decode cX12_readLock 125 = .ok (.aload_n 0, 1) := by decide +kernel
theorem dX12_readLock_126 : decode cX12_readLock 126 = .ok (.invokevirtual 208, 3) := by decide +kernel
theorem dX12_readLock_129 : decode cX12_readLock 129 = .ok (.iconst 1, 1) := by decide +kernel
theorem dX12_readLock_130 : decode cX12_readLock 130 = .ok (.ireturn, 1) := by decide +kernel
theorem dX12_readTrain_0 : decode cX12_readTrain 0 = .ok (.aload_n 0, 1) := by decide +kernel
theorem dX12_readTrain_1 : decode cX12_readTrain 1 = .ok (.getfield 37, 3) := by decide +kernel
theorem dX12_readTrain_4 : decode cX12_readTrain 4 = .ok (.bipush 6, 2) := by decide +kernel
theorem dX12_readTrain_6 : decode cX12_readTrain 6 = .ok (.iaload, 1) := by decide +kernel
theorem dX12_readTrain_7 : decode cX12_readTrain 7 = .ok (.istore_n 1, 1) := by decide +kernel
theorem dX12_readTrain_8 : decode cX12_readTrain 8 = .ok (.iload_n 1, 1) := by decide +kernel
theorem dX12_readTrain_9 : decode cX12_readTrain 9 = .ok (.iconst 5, 1) := by decide +kernel
theorem dX12_readTrain_10 : decode cX12_readTrain 10 = .ok (.if_icmp .ne 9, 3) := by decide +kernel
theorem dX12_readTrain_13 : decode cX12_readTrain 13 = .ok (.aload_n 0, 1) := by decide +kernel
theorem dX12_readTrain_14 : decode cX12_readTrain 14 = .ok (.iconst 4, 1) := by decide +kernel
theorem dX12_readTrain_15 : decode cX12_readTrain 15 = .ok (.invokevirtual 205, 3) := by decide +kernel
theorem dX12_readTrain_18 : decode cX12_readTrain 18 = .ok (.ireturn, 1) := by decide +kernel
theorem dX12_readTrain_19 : decode cX12_readTrain 19 = .ok (.aload_n 0, 1) := by decide +kernel
theorem dX12_readTrain_20 : decode cX12_readTrain 20 = .ok (.invokevirtual 208, 3) := by decide +kernel
theorem dX12_readTrain_23 : decode cX12_readTrain 23 = .ok (.aload_n 0, 1) := by decide +kernel
theorem dX12_readTrain_24 : decode cX12_readTrain 24 = .ok (.bipush 77, 2) := by decide +kernel
theorem dX12_readTrain_26 : decode cX12_readTrain 26 = .ok (.iload_n 1, 1) := by decide +kernel
theorem dX12_readTrain_27 : decode cX12_readTrain 27 = .ok (.iadd, 1) := by decide +kernel
theorem dX12_readTrain_28 : decode cX12_readTrain 28 = .ok (.invokevirtual 268, 3) := by decide +kernel
theorem dX12_readTrain_31 : decode cX12_readTrain 31 = .ok (.ifCond .eq 18, 3) := by decide +kernel
theorem dX12_readTrain_34 : decode cX12_readTrain 34 = .ok (.aload_n 0, 1) := by decide +kernel
theorem dX12_readTrain_35 : decode cX12_readTrain 35 = .ok (.bipush 41, 2) := by decide +kernel
theorem dX12_readTrain_37 : decode cX12_readTrain 37 = .ok (.aload_n 0, 1) := by decide +kernel
theorem dX12_readTrain_38 : decode cX12_readTrain 38 = .ok (.getfield 37, 3) := by decide +kernel
theorem dX12_readTrain_41 : decode cX12_readTrain 41 = .ok (.iconst 0, 1) := by decide +kernel
theorem dX12_readTrain_42 : decode cX12_readTrain 42 = .ok (.iaload, 1) := by decide +kernel
theorem dX12_readTrain_43 : decode cX12_readTrain 43 = .ok (.invokevirtual 230, 3) := by decide +kernel
theorem dX12_readTrain_46 : decode cX12_readTrain 46 = .ok (.ifCond .ne 5, 3) := by decide +kernel
theorem dX12_readTrain_49 : decode cX12_readTrain 49 = .ok (.iconst 0, 1) := by decide +kernel
theorem dX12_readTrain_50 : decode cX12_readTrain 50 = .ok (.ireturn, 1) := by decide +kernel
theorem dX12_readTrain_51 : decode cX12_readTrain 51 = .ok (.iconst 0, 1) := by decide +kernel
theorem dX12_readTrain_52 : decode cX12_readTrain 52 = .ok (.istore_n 2, 1) := by decide +kernel
theorem dX12_readTrain_53 : decode cX12_readTrain 53 = .ok (.iload_n 2, 1) := by decide +kernel
theorem dX12_readTrain_54 : decode cX12_readTrain 54 = .ok (.iload_n 1, 1) := by decide +kernel
theorem dX12_readTrain_55 : decode cX12_readTrain 55 = .ok (.if_icmp .ge 32, 3) := by decide +kernel
theorem dX12_readTrain_58 : decode cX12_readTrain 58 = .ok (.aload_n 0, 1) := by decide +kernel
theorem dX12_readTrain_59 : decode cX12_readTrain 59 = .ok (.getfield 37, 3) := by decide +kernel
theorem dX12_readTrain_62 : decode cX12_readTrain 62 = .ok (.sipush 216, 3) := by decide +kernel
theorem dX12_readTrain_65 : decode cX12_readTrain 65 = .ok (.iload_n 2, 1) := by decide +kernel
theorem dX12_readTrain_66 : decode cX12_readTrain 66 = .ok (.iadd, 1) := by decide +kernel
theorem dX12_readTrain_67 : decode cX12_readTrain 67 = .ok (.iaload, 1) := by decide +kernel
theorem dX12_readTrain_68 : decode cX12_readTrain 68 = .ok (.aload_n 0, 1) := by decide +kernel
theorem dX12_readTrain_69 : decode cX12_readTrain 69 = .ok (.getfield 215, 3) := by decide +kernel
theorem dX12_readTrain_72 : decode cX12_readTrain 72 = .ok (.if_icmp .ne 9, 3) := by decide +kernel
theorem dX12_readTrain_75 : decode cX12_readTrain 75 = .ok (.aload_n 0, 1) := by decide +kernel
theorem dX12_readTrain_76 : decode cX12_readTrain 76 = .ok (.iconst 3, 1) := by decide +kernel
theorem dX12_readTrain_77 : decode cX12_readTrain 77 = .ok (.invokevirtual 205, 3) := by decide +kernel
theorem dX12_readTrain_80 : decode cX12_readTrain 80 = .ok (.ireturn, 1) := by decide +kernel
theorem dX12_readTrain_81 : decode cX12_readTrain 81 = .ok (.iinc 2 1, 3) := by decide +kernel
theorem dX12_readTrain_84 : decode cX12_readTrain 84 = .ok (.goto (-31), 3) := by decide +kernel
theorem dX12_readTrain_87 : decode cX12_readTrain 87 = .ok (.aload_n 0, 1) := by decide +kernel
theorem dX12_readTrain_88 : decode cX12_readTrain 88 = .ok (.getfield 37, 3) := by decide +kernel
theorem dX12_readTrain_91 : decode cX12_readTrain 91 = .ok (.sipush 216, 3) := by decide +kernel
theorem dX12_readTrain_94 : decode cX12_readTrain 94 = .ok (.iload_n 1, 1) := by decide +kernel
theorem dX12_readTrain_95 : decode cX12_readTrain 95 = .ok (.iadd, 1) := by decide +kernel
theorem dX12_readTrain_96 : decode cX12_readTrain 96 = .ok (.aload_n 0, 1) := by decide +kernel
theorem dX12_readTrain_97 : decode cX12_readTrain 97 = .ok (.getfield 215, 3) := by decide +kernel
theorem dX12_readTrain_100 : decode cX12_readTrain 100 = .ok (.iastore, 1) := by decide +kernel
theorem dX12_readTrain_101 : decode cX12_readTrain 101 = .ok (.aload_n 0, 1) := by decide +kernel
theorem dX12_readTrain_102 : decode cX12_readTrain 102 = .ok (.invokevirtual 208, 3) := by decide +kernel
theorem dX12_readTrain_105 : decode cX12_readTrain 105 = .ok (.aload_n 0, 1) := by decide +kernel
theorem dX12_readTrain_106 : decode cX12_readTrain 106 = .ok (.invokevirtual 277, 3) := by decide +kernel
theorem dX12_readTrain_109 : decode cX12_readTrain 109 = .ok (.istore_n 2, 1) := by decide +kernel
theorem dX12_readTrain_110 : decode cX12_readTrain 110 = .ok (.iload_n 2, 1) := by decide +kernel
theorem dX12_readTrain_111 : decode cX12_readTrain 111 = .ok (.ifCond .ge 9, 3) := by decide +kernel
theorem dX12_readTrain_114 : decode cX12_readTrain 114 = .ok (.aload_n 0, 1) := by decide +kernel
theorem dX12_readTrain_115 : decode cX12_readTrain 115 = .ok (.iconst 1, 1) := by decide +kernel
theorem dX12_readTrain_116 : decode cX12_readTrain 116 = .ok (.invokevirtual 205, 3) := by decide +kernel
theorem dX12_readTrain_119 : decode cX12_readTrain 119 = .ok (.ireturn, 1) := by decide +kernel
theorem dX12_readTrain_120 : decode cX12_readTrain 120 = .ok (.aload_n 0, 1) := by decide +kernel
theorem dX12_readTrain_121 : decode cX12_readTrain 121 = .ok (.getfield 37, 3) := by decide +kernel
theorem dX12_readTrain_124 : decode cX12_readTrain 124 = .ok (.sipush 221, 3) := by decide +kernel
theorem dX12_readTrain_127 : decode cX12_readTrain 127 = .ok (.iload_n 1, 1) := by decide +kernel
theorem dX12_readTrain_128 : decode cX12_readTrain 128 = .ok (.iadd, 1) := by decide +kernel
theorem dX12_readTrain_129 : decode cX12_readTrain 129 = .ok (.iload_n 2, 1) := by decide +kernel
theorem dX12_readTrain_130 : decode cX12_readTrain 130 = .ok (.iastore, 1) := by decide +kernel
theorem dX12_readTrain_131 : decode cX12_readTrain 131 = .ok (.aload_n 0, 1) := by decide +kernel
theorem dX12_readTrain_132 : decode cX12_readTrain 132 = .ok (.invokevirtual 208, 3) := by decide +kernel
theorem dX12_readTrain_135 : decode cX12_readTrain 135 = .ok (.aload_n 0, 1) := by decide +kernel
theorem dX12_readTrain_136 : decode cX12_readTrain 136 = .ok (.getfield 37, 3) := by decide +kernel
theorem dX12_readTrain_139 : decode cX12_readTrain 139 = .ok (.bipush 6, 2) := by decide +kernel
theorem dX12_readTrain_141 : decode cX12_readTrain 141 = .ok (.dup2, 1) := by decide +kernel
theorem dX12_readTrain_142 : decode cX12_readTrain 142 = .ok (.iaload, 1) := by decide +kernel
theorem dX12_readTrain_143 : decode cX12_readTrain 143 = .ok (.iconst 1, 1) := by decide +kernel
theorem dX12_readTrain_144 : decode cX12_readTrain 144 = .ok (.iadd, 1) := by decide +kernel
theorem dX12_readTrain_145 : decode cX12_readTrain 145 = .ok (.iastore, 1) := by decide +kernel
theorem dX12_readTrain_146 : decode cX12_readTrain 146 = .ok (.iconst 1, 1) := by decide +kernel
theorem dX12_readTrain_147 : decode cX12_readTrain 147 = .ok (.ireturn, 1) := by decide +kernel
theorem dX12_layout_0 : decode cX12_layout 0 = .ok (.aload_n 0, 1) := by decide +kernel
theorem dX12_layout_1 : decode cX12_layout 1 = .ok (.iconst 0, 1) := by decide +kernel
theorem dX12_layout_2 : decode cX12_layout 2 = .ok (.putfield 1, 3) := by decide +kernel
theorem dX12_layout_5 : decode cX12_layout 5 = .ok (.aload_n 0, 1) := by decide +kernel
theorem dX12_layout_6 : decode cX12_layout 6 = .ok (.sipush 1400, 3) := by decide +kernel
theorem dX12_layout_9 : decode cX12_layout 9 = .ok (.invokevirtual 283, 3) := by decide +kernel
theorem dX12_layout_12 : decode cX12_layout 12 = .ok (.aload_n 0, 1) := by decide +kernel
theorem dX12_layout_13 : decode cX12_layout 13 = .ok (.iconst 0, 1) := by decide +kernel
theorem dX12_layout_14 : decode cX12_layout 14 = .ok (.putfield 196, 3) := by decide +kernel
theorem dX12_layout_17 : decode cX12_layout 17 = .ok (.aload_n 0, 1) := by decide +kernel
theorem dX12_layout_18 : decode cX12_layout 18 = .ok (.iconst 0, 1) := by decide +kernel
theorem dX12_layout_19 : decode cX12_layout 19 = .ok (.putfield 286, 3) := by decide +kernel
theorem dX12_layout_22 : decode cX12_layout 22 = .ok (.aload_n 0, 1) := by decide +kernel
theorem dX12_layout_23 : decode cX12_layout 23 = .ok (.iconst 0, 1) := by decide +kernel
theorem dX12_layout_24 : decode cX12_layout 24 = .ok (.putfield 261, 3) := by decide +kernel
theorem dX12_layout_27 : decode cX12_layout 27 = .ok (.aload_n 0, 1) := by decide +kernel
theorem dX12_layout_28 : decode cX12_layout 28 = .ok (.invokevirtual 166, 3) := by decide +kernel
theorem dX12_layout_31 : decode cX12_layout 31 = .ok (.aload_n 0, 1) := by decide +kernel
theorem dX12_layout_32 : decode cX12_layout 32 = .ok (.invokevirtual 208, 3) := by decide +kernel
theorem dX12_layout_35 : decode cX12_layout 35 = .ok (.aload_n 0, 1) := by decide +kernel
theorem dX12_layout_36 : decode cX12_layout 36 = .ok (.getfield 179, 3) := by decide +kernel
theorem dX12_layout_39 : decode cX12_layout 39 = .ok (.ifCond .eq 39, 3) := by decide +kernel
theorem dX12_layout_42 : decode cX12_layout 42 = .ok (.aload_n 0, 1) := by decide +kernel
theorem dX12_layout_43 : decode cX12_layout 43 = .ok (.invokevirtual 289, 3) := by decide +kernel
theorem dX12_layout_46 : decode cX12_layout 46 = .ok (.ifCond .eq 12, 3) := by decide +kernel
theorem dX12_layout_49 : decode cX12_layout 49 = .ok (.aload_n 0, 1) := by decide +kernel
theorem dX12_layout_50 : decode cX12_layout 50 = .ok (.bipush 59, 2) := by decide +kernel
theorem dX12_layout_52 : decode cX12_layout 52 = .ok (.invokevirtual 292, 3) := by decide +kernel
theorem dX12_layout_55 : decode cX12_layout 55 = .ok (.ifCond .ne 10, 3) := by decide +kernel
theorem dX12_layout_58 : decode cX12_layout 58 = .ok (.iconst (-1), 1) := by decide +kernel
theorem dX12_layout_59 : decode cX12_layout 59 = .ok (.aload_n 0, 1) := by decide +kernel
theorem dX12_layout_60 : decode cX12_layout 60 = .ok (.getfield 199, 3) := by decide +kernel
theorem dX12_layout_63 : decode cX12_layout 63 = .ok (.isub, 1) := by decide +kernel
theorem dX12_layout_64 : decode cX12_layout 64 = .ok (.ireturn, 1) := by decide +kernel
theorem dX12_layout_65 : decode cX12_layout 65 = .ok (.aload_n 0, 1) := by decide +kernel
theorem dX12_layout_66 : decode cX12_layout 66 = .ok (.dup, 1) := by decide +kernel
theorem dX12_layout_67 : decode cX12_layout 67 = .ok (.getfield 286, 3) := by decide +kernel
theorem dX12_layout_70 : decode cX12_layout 70 = .ok (.iconst 1, 1) := by decide +kernel
theorem dX12_layout_71 : decode cX12_layout 71 = .ok (.iadd, 1) := by decide +kernel
theorem dX12_layout_72 : decode cX12_layout 72 = .ok (.putfield 286, 3) := by decide +kernel
theorem dX12_layout_75 : decode cX12_layout 75 = .ok (.goto (-40), 3) := by decide +kernel
theorem dX12_layout_78 : decode cX12_layout 78 = .ok (.iconst 0, 1) := by decide +kernel
theorem dX12_layout_79 : decode cX12_layout 79 = .ok (.istore_n 1, 1) := by decide +kernel
theorem dX12_layout_80 : decode cX12_layout 80 = .ok (.iload_n 1, 1) := by decide +kernel
theorem dX12_layout_81 : decode cX12_layout 81 = .ok (.sipush 469, 3) := by decide +kernel
theorem dX12_layout_84 : decode cX12_layout 84 = .ok (.if_icmp .ge 32, 3) := by decide +kernel
theorem dX12_layout_87 : decode cX12_layout 87 = .ok (.aload_n 0, 1) := by decide +kernel
theorem dX12_layout_88 : decode cX12_layout 88 = .ok (.getfield 33, 3) := by decide +kernel
theorem dX12_layout_91 : decode cX12_layout 91 = .ok (.iload_n 1, 1) := by decide +kernel
theorem dX12_layout_92 : decode cX12_layout 92 = .ok (.iload_n 1, 1) := by decide +kernel
theorem dX12_layout_93 : decode cX12_layout 93 = .ok (.sipush 226, 3) := by decide +kernel
theorem dX12_layout_96 : decode cX12_layout 96 = .ok (.if_icmp .ge 12, 3) := by decide +kernel
theorem dX12_layout_99 : decode cX12_layout 99 = .ok (.aload_n 0, 1) := by decide +kernel
theorem dX12_layout_100 : decode cX12_layout 100 = .ok (.getfield 37, 3) := by decide +kernel
theorem dX12_layout_103 : decode cX12_layout 103 = .ok (.iload_n 1, 1) := by decide +kernel
theorem dX12_layout_104 : decode cX12_layout 104 = .ok (.iaload, 1) := by decide +kernel
theorem dX12_layout_105 : decode cX12_layout 105 = .ok (.goto 4, 3) := by decide +kernel
theorem dX12_layout_108 : decode cX12_layout 108 = .ok (.iconst 0, 1) := by decide +kernel
theorem dX12_layout_109 : decode cX12_layout 109 = .ok (.iastore, 1) := by decide +kernel
theorem dX12_layout_110 : decode cX12_layout 110 = .ok (.iinc 1 1, 3) := by decide +kernel
theorem dX12_layout_113 : decode cX12_layout 113 = .ok (.goto (-33), 3) := by decide +kernel
theorem dX12_layout_116 : decode cX12_layout 116 = .ok (.iconst 0, 1) := by decide +kernel
theorem dX12_layout_117 : decode cX12_layout 117 = .ok (.istore_n 1, 1) := by decide +kernel
theorem dX12_layout_118 : decode cX12_layout 118 = .ok (.iload_n 1, 1) := by decide +kernel
theorem dX12_layout_119 : decode cX12_layout 119 = .ok (.bipush 41, 2) := by decide +kernel
theorem dX12_layout_121 : decode cX12_layout 121 = .ok (.if_icmp .ge 24, 3) := by decide +kernel
theorem dX12_layout_124 : decode cX12_layout 124 = .ok (.aload_n 0, 1) := by decide +kernel
theorem dX12_layout_125 : decode cX12_layout 125 = .ok (.getfield 43, 3) := by decide +kernel
theorem dX12_layout_128 : decode cX12_layout 128 = .ok (.iload_n 1, 1) := by decide +kernel
theorem dX12_layout_129 : decode cX12_layout 129 = .ok (.aload_n 0, 1) := by decide +kernel
theorem dX12_layout_130 : decode cX12_layout 130 = .ok (.getfield 43, 3) := by decide +kernel
theorem dX12_layout_133 : decode cX12_layout 133 = .ok (.bipush 41, 2) := by decide +kernel
theorem dX12_layout_135 : decode cX12_layout 135 = .ok (.iload_n 1, 1) := by decide +kernel
theorem dX12_layout_136 : decode cX12_layout 136 = .ok (.iadd, 1) := by decide +kernel
theorem dX12_layout_137 : decode cX12_layout 137 = .ok (.laload, 1) := by decide +kernel
theorem dX12_layout_138 : decode cX12_layout 138 = .ok (.lastore, 1) := by decide +kernel
theorem dX12_layout_139 : decode cX12_layout 139 = .ok (.iinc 1 1, 3) := by decide +kernel
theorem dX12_layout_142 : decode cX12_layout 142 = .ok (.goto (-24), 3) := by decide +kernel
theorem dX12_layout_145 : decode cX12_layout 145 = .ok (.iconst 0, 1) := by decide +kernel
theorem dX12_layout_146 : decode cX12_layout 146 = .ok (.istore_n 1, 1) := by decide +kernel
theorem dX12_layout_147 : decode cX12_layout 147 = .ok (.iload_n 1, 1) := by decide +kernel
theorem dX12_layout_148 : decode cX12_layout 148 = .ok (.aload_n 0, 1) := by decide +kernel
theorem dX12_layout_149 : decode cX12_layout 149 = .ok (.getfield 33, 3) := by decide +kernel
theorem dX12_layout_152 : decode cX12_layout 152 = .ok (.bipush 6, 2) := by decide +kernel
theorem dX12_layout_154 : decode cX12_layout 154 = .ok (.iaload, 1) := by decide +kernel
theorem dX12_layout_155 : decode cX12_layout 155 = .ok (.if_icmp .ge 31, 3) := by decide +kernel
theorem dX12_layout_158 : decode cX12_layout 158 = .ok (.aload_n 0, 1) := by decide +kernel
theorem dX12_layout_159 : decode cX12_layout 159 = .ok (.getfield 33, 3) := by decide +kernel
theorem dX12_layout_162 : decode cX12_layout 162 = .ok (.sipush 271, 3) := by decide +kernel
theorem dX12_layout_165 : decode cX12_layout 165 = .ok (.iload_n 1, 1) := by decide +kernel
theorem dX12_layout_166 : decode cX12_layout 166 = .ok (.iadd, 1) := by decide +kernel
theorem dX12_layout_167 : decode cX12_layout 167 = .ok (.aload_n 0, 1) := by decide +kernel
theorem dX12_layout_168 : decode cX12_layout 168 = .ok (.getfield 33, 3) := by decide +kernel
theorem dX12_layout_171 : decode cX12_layout 171 = .ok (.sipush 216, 3) := by decide +kernel
theorem dX12_layout_174 : decode cX12_layout 174 = .ok (.iload_n 1, 1) := by decide +kernel
theorem dX12_layout_175 : decode cX12_layout 175 = .ok (.iadd, 1) := by decide +kernel
theorem dX12_layout_176 : decode cX12_layout 176 = .ok (.iaload, 1) := by decide +kernel
theorem dX12_layout_177 : decode cX12_layout 177 = .ok (.iconst 1, 1) := by decide +kernel
theorem dX12_layout_178 : decode cX12_layout 178 = .ok (.iadd, 1) := by decide +kernel
theorem dX12_layout_179 : decode cX12_layout 179 = .ok (.iastore, 1) := by decide +kernel
theorem dX12_layout_180 : decode cX12_layout 180 = .ok (.iinc 1 1, 3) := by decide +kernel
theorem dX12_layout_183 : decode cX12_layout 183 = .ok (.goto (-36), 3) := by decide +kernel
theorem dX12_layout_186 : decode cX12_layout 186 = .ok (.aload_n 0, 1) := by decide +kernel
theorem dX12_layout_187 : decode cX12_layout 187 = .ok (.iconst 0, 1) := by decide +kernel
theorem dX12_layout_188 : decode cX12_layout 188 = .ok (.putfield 295, 3) := by decide +kernel
theorem dX12_layout_191 : decode cX12_layout 191 = .ok (.aload_n 0, 1) := by decide +kernel
theorem dX12_layout_192 : decode cX12_layout 192 = .ok (.getfield 286, 3) := by decide +kernel
theorem dX12_layout_195 : decode cX12_layout 195 = .ok (.ireturn, 1) := by decide +kernel
theorem dX12_fault_0 : decode cX12_fault 0 = .ok (.aload_n 0, 1) := by decide +kernel
theorem dX12_fault_1 : decode cX12_fault 1 = .ok (.iconst 0, 1) := by decide +kernel
theorem dX12_fault_2 : decode cX12_fault 2 = .ok (.putfield 1, 3) := by decide +kernel
theorem dX12_fault_5 : decode cX12_fault 5 = .ok (.aload_n 0, 1) := by decide +kernel
theorem dX12_fault_6 : decode cX12_fault 6 = .ok (.getfield 196, 3) := by decide +kernel
theorem dX12_fault_9 : decode cX12_fault 9 = .ok (.ireturn, 1) := by decide +kernel
theorem dX12_isSection_0 : decode cX12_isSection 0 = .ok (.iload_n 1, 1) := by decide +kernel
theorem dX12_isSection_1 : decode cX12_isSection 1 = .ok (.iconst 0, 1) := by decide +kernel
theorem dX12_isSection_2 : decode cX12_isSection 2 = .ok (.aload_n 0, 1) := by decide +kernel
theorem dX12_isSection_3 : decode cX12_isSection 3 = .ok (.getfield 33, 3) := by decide +kernel
theorem dX12_isSection_6 : decode cX12_isSection 6 = .ok (.iconst 0, 1) := by decide +kernel
theorem dX12_isSection_7 : decode cX12_isSection 7 = .ok (.iaload, 1) := by decide +kernel
theorem dX12_isSection_8 : decode cX12_isSection 8 = .ok (.iconst 1, 1) := by decide +kernel
theorem dX12_isSection_9 : decode cX12_isSection 9 = .ok (.isub, 1) := by decide +kernel
theorem dX12_isSection_10 : decode cX12_isSection 10 = .ok (.invokestatic 211, 3) := by decide +kernel
theorem dX12_isSection_13 : decode cX12_isSection 13 = .ok (.ireturn, 1) := by decide +kernel
theorem dX12_arePoints_0 : decode cX12_arePoints 0 = .ok (.iload_n 1, 1) := by decide +kernel
theorem dX12_arePoints_1 : decode cX12_arePoints 1 = .ok (.iconst 0, 1) := by decide +kernel
theorem dX12_arePoints_2 : decode cX12_arePoints 2 = .ok (.aload_n 0, 1) := by decide +kernel
theorem dX12_arePoints_3 : decode cX12_arePoints 3 = .ok (.getfield 33, 3) := by decide +kernel
theorem dX12_arePoints_6 : decode cX12_arePoints 6 = .ok (.iconst 1, 1) := by decide +kernel
theorem dX12_arePoints_7 : decode cX12_arePoints 7 = .ok (.iaload, 1) := by decide +kernel
theorem dX12_arePoints_8 : decode cX12_arePoints 8 = .ok (.iconst 1, 1) := by decide +kernel
theorem dX12_arePoints_9 : decode cX12_arePoints 9 = .ok (.isub, 1) := by decide +kernel
theorem dX12_arePoints_10 : decode cX12_arePoints 10 = .ok (.invokestatic 211, 3) := by decide +kernel
theorem dX12_arePoints_13 : decode cX12_arePoints 13 = .ok (.ireturn, 1) := by decide +kernel
theorem dX12_isRoute_0 : decode cX12_isRoute 0 = .ok (.iload_n 1, 1) := by decide +kernel
theorem dX12_isRoute_1 : decode cX12_isRoute 1 = .ok (.iconst 0, 1) := by decide +kernel
theorem dX12_isRoute_2 : decode cX12_isRoute 2 = .ok (.aload_n 0, 1) := by decide +kernel
theorem dX12_isRoute_3 : decode cX12_isRoute 3 = .ok (.getfield 33, 3) := by decide +kernel
theorem dX12_isRoute_6 : decode cX12_isRoute 6 = .ok (.iconst 4, 1) := by decide +kernel
theorem dX12_isRoute_7 : decode cX12_isRoute 7 = .ok (.iaload, 1) := by decide +kernel
theorem dX12_isRoute_8 : decode cX12_isRoute 8 = .ok (.iconst 1, 1) := by decide +kernel
theorem dX12_isRoute_9 : decode cX12_isRoute 9 = .ok (.isub, 1) := by decide +kernel
theorem dX12_isRoute_10 : decode cX12_isRoute 10 = .ok (.invokestatic 211, 3) := by decide +kernel
theorem dX12_isRoute_13 : decode cX12_isRoute 13 = .ok (.ireturn, 1) := by decide +kernel
theorem dX12_isTrain_0 : decode cX12_isTrain 0 = .ok (.iload_n 1, 1) := by decide +kernel
theorem dX12_isTrain_1 : decode cX12_isTrain 1 = .ok (.iconst 0, 1) := by decide +kernel
theorem dX12_isTrain_2 : decode cX12_isTrain 2 = .ok (.aload_n 0, 1) := by decide +kernel
theorem dX12_isTrain_3 : decode cX12_isTrain 3 = .ok (.getfield 33, 3) := by decide +kernel
theorem dX12_isTrain_6 : decode cX12_isTrain 6 = .ok (.bipush 6, 2) := by decide +kernel
theorem dX12_isTrain_8 : decode cX12_isTrain 8 = .ok (.iaload, 1) := by decide +kernel
theorem dX12_isTrain_9 : decode cX12_isTrain 9 = .ok (.iconst 1, 1) := by decide +kernel
theorem dX12_isTrain_10 : decode cX12_isTrain 10 = .ok (.isub, 1) := by decide +kernel
theorem dX12_isTrain_11 : decode cX12_isTrain 11 = .ok (.invokestatic 211, 3) := by decide +kernel
theorem dX12_isTrain_14 : decode cX12_isTrain 14 = .ok (.ireturn, 1) := by decide +kernel
theorem dX12_trainIn_0 : decode cX12_trainIn 0 = .ok (.iconst 0, 1) := by decide +kernel
theorem dX12_trainIn_1 : decode cX12_trainIn 1 = .ok (.istore_n 3, 1) := by decide +kernel
theorem dX12_trainIn_2 : decode cX12_trainIn 2 = .ok (.iload_n 3, 1) := by decide +kernel
theorem dX12_trainIn_3 : decode cX12_trainIn 3 = .ok (.aload_n 0, 1) := by decide +kernel
theorem dX12_trainIn_4 : decode cX12_trainIn 4 = .ok (.getfield 33, 3) := by decide +kernel
theorem dX12_trainIn_7 : decode cX12_trainIn 7 = .ok (.bipush 6, 2) := by decide +kernel
theorem dX12_trainIn_9 : decode cX12_trainIn 9 = .ok (.iaload, 1) := by decide +kernel
theorem dX12_trainIn_10 : decode cX12_trainIn 10 = .ok (.if_icmp .ge 32, 3) := by decide +kernel
theorem dX12_trainIn_13 : decode cX12_trainIn 13 = .ok (.iload_n 3, 1) := by decide +kernel
theorem dX12_trainIn_14 : decode cX12_trainIn 14 = .ok (.iload_n 2, 1) := by decide +kernel
theorem dX12_trainIn_15 : decode cX12_trainIn 15 = .ok (.if_icmp .eq 21, 3) := by decide +kernel
theorem dX12_trainIn_18 : decode cX12_trainIn 18 = .ok (.aload_n 0, 1) := by decide +kernel
theorem dX12_trainIn_19 : decode cX12_trainIn 19 = .ok (.getfield 33, 3) := by decide +kernel
theorem dX12_trainIn_22 : decode cX12_trainIn 22 = .ok (.sipush 271, 3) := by decide +kernel
theorem dX12_trainIn_25 : decode cX12_trainIn 25 = .ok (.iload_n 3, 1) := by decide +kernel
theorem dX12_trainIn_26 : decode cX12_trainIn 26 = .ok (.iadd, 1) := by decide +kernel
theorem dX12_trainIn_27 : decode cX12_trainIn 27 = .ok (.iaload, 1) := by decide +kernel
theorem dX12_trainIn_28 : decode cX12_trainIn 28 = .ok (.iload_n 1, 1) := by decide +kernel
theorem dX12_trainIn_29 : decode cX12_trainIn 29 = .ok (.iconst 1, 1) := by decide +kernel
theorem dX12_trainIn_30 : decode cX12_trainIn 30 = .ok (.iadd, 1) := by decide +kernel
theorem dX12_trainIn_31 : decode cX12_trainIn 31 = .ok (.if_icmp .ne 5, 3) := by decide +kernel
theorem dX12_trainIn_34 : decode cX12_trainIn 34 = .ok (.iload_n 3, 1) := by decide +kernel
theorem dX12_trainIn_35 : decode cX12_trainIn 35 = .ok (.ireturn, 1) := by decide +kernel
theorem dX12_trainIn_36 : decode cX12_trainIn 36 = .ok (.iinc 3 1, 3) := by decide +kernel
theorem dX12_trainIn_39 : decode cX12_trainIn 39 = .ok (.goto (-37), 3) := by decide +kernel
theorem dX12_trainIn_42 : decode cX12_trainIn 42 = .ok (.iconst (-1), 1) := by decide +kernel
theorem dX12_trainIn_43 : decode cX12_trainIn 43 = .ok (.ireturn, 1) := by decide +kernel
theorem dX12_showsBy_0 : decode cX12_showsBy 0 = .ok (.iload_n 2, 1) := by decide +kernel
theorem dX12_showsBy_1 : decode cX12_showsBy 1 = .ok (.iconst 2, 1) := by decide +kernel
theorem dX12_showsBy_2 : decode cX12_showsBy 2 = .ok (.if_icmp .eq 16, 3) := by decide +kernel
theorem dX12_showsBy_5 : decode cX12_showsBy 5 = .ok (.iload_n 2, 1) := by decide +kernel
theorem dX12_showsBy_6 : decode cX12_showsBy 6 = .ok (.ifCond .ne 16, 3) := by decide +kernel
theorem dX12_showsBy_9 : decode cX12_showsBy 9 = .ok (.aload_n 0, 1) := by decide +kernel
theorem dX12_showsBy_10 : decode cX12_showsBy 10 = .ok (.iload_n 1, 1) := by decide +kernel
theorem dX12_showsBy_11 : decode cX12_showsBy 11 = .ok (.iconst (-1), 1) := by decide +kernel
theorem dX12_showsBy_12 : decode cX12_showsBy 12 = .ok (.invokevirtual 298, 3) := by decide +kernel
theorem dX12_showsBy_15 : decode cX12_showsBy 15 = .ok (.ifCond .lt 7, 3) := by decide +kernel
theorem dX12_showsBy_18 : decode cX12_showsBy 18 = .ok (.iconst 1, 1) := by decide +kernel
theorem dX12_showsBy_19 : decode cX12_showsBy 19 = .ok (.goto 4, 3) := by decide +kernel
theorem dX12_showsBy_22 : decode cX12_showsBy 22 = .ok (.iconst 0, 1) := by decide +kernel
theorem dX12_showsBy_23 : decode cX12_showsBy 23 = .ok (.ireturn, 1) := by decide +kernel
theorem dX12_showsFull_0 : decode cX12_showsFull 0 = .ok (.aload_n 0, 1) := by decide +kernel
theorem dX12_showsFull_1 : decode cX12_showsFull 1 = .ok (.iload_n 1, 1) := by decide +kernel
theorem dX12_showsFull_2 : decode cX12_showsFull 2 = .ok (.aload_n 0, 1) := by decide +kernel
theorem dX12_showsFull_3 : decode cX12_showsFull 3 = .ok (.getfield 33, 3) := by decide +kernel
theorem dX12_showsFull_6 : decode cX12_showsFull 6 = .ok (.sipush 259, 3) := by decide +kernel
theorem dX12_showsFull_9 : decode cX12_showsFull 9 = .ok (.iload_n 1, 1) := by decide +kernel
theorem dX12_showsFull_10 : decode cX12_showsFull 10 = .ok (.iadd, 1) := by decide +kernel
theorem dX12_showsFull_11 : decode cX12_showsFull 11 = .ok (.iaload, 1) := by decide +kernel
theorem dX12_showsFull_12 : decode cX12_showsFull 12 = .ok (.invokevirtual 301, 3) := by decide +kernel
theorem dX12_showsFull_15 : decode cX12_showsFull 15 = .ok (.ireturn, 1) := by decide +kernel
theorem dX12_sectionsOf_0 : decode cX12_sectionsOf 0 = .ok (.iconst 0, 1) := by decide +kernel
theorem dX12_sectionsOf_1 : decode cX12_sectionsOf 1 = .ok (.istore_n 2, 1) := by decide +kernel
theorem dX12_sectionsOf_2 : decode cX12_sectionsOf 2 = .ok (.iconst 0, 1) := by decide +kernel
theorem dX12_sectionsOf_3 : decode cX12_sectionsOf 3 = .ok (.istore_n 3, 1) := by decide +kernel
theorem dX12_sectionsOf_4 : decode cX12_sectionsOf 4 = .ok (.iload_n 3, 1) := by decide +kernel
theorem dX12_sectionsOf_5 : decode cX12_sectionsOf 5 = .ok (.aload_n 0, 1) := by decide +kernel
theorem dX12_sectionsOf_6 : decode cX12_sectionsOf 6 = .ok (.getfield 33, 3) := by decide +kernel
theorem dX12_sectionsOf_9 : decode cX12_sectionsOf 9 = .ok (.bipush 116, 2) := by decide +kernel
theorem dX12_sectionsOf_11 : decode cX12_sectionsOf 11 = .ok (.iload_n 1, 1) := by decide +kernel
theorem dX12_sectionsOf_12 : decode cX12_sectionsOf 12 = .ok (.iadd, 1) := by decide +kernel
theorem dX12_sectionsOf_13 : decode cX12_sectionsOf 13 = .ok (.iaload, 1) := by decide +kernel
theorem dX12_sectionsOf_14 : decode cX12_sectionsOf 14 = .ok (.if_icmp .ge 28, 3) := by decide +kernel
theorem dX12_sectionsOf_17 : decode cX12_sectionsOf 17 = .ok (.iload_n 2, 1) := by decide +kernel
theorem dX12_sectionsOf_18 : decode cX12_sectionsOf 18 = .ok (.iconst 1, 1) := by decide +kernel
theorem dX12_sectionsOf_19 : decode cX12_sectionsOf 19 = .ok (.aload_n 0, 1) := by decide +kernel
theorem dX12_sectionsOf_20 : decode cX12_sectionsOf 20 = .ok (.getfield 33, 3) := by decide +kernel
theorem dX12_sectionsOf_23 : decode cX12_sectionsOf 23 = .ok (.bipush 126, 2) := by decide +kernel
theorem dX12_sectionsOf_25 : decode cX12_sectionsOf 25 = .ok (.bipush 6, 2) := by decide +kernel
theorem dX12_sectionsOf_27 : decode cX12_sectionsOf 27 = .ok (.iload_n 1, 1) := by decide +kernel
theorem dX12_sectionsOf_28 : decode cX12_sectionsOf 28 = .ok (.imul, 1) := by decide +kernel
theorem dX12_sectionsOf_29 : decode cX12_sectionsOf 29 = .ok (.iadd, 1) := by decide +kernel
theorem dX12_sectionsOf_30 : decode cX12_sectionsOf 30 = .ok (.iload_n 3, 1) := by decide +kernel
theorem dX12_sectionsOf_31 : decode cX12_sectionsOf 31 = .ok (.iadd, 1) := by decide +kernel
theorem dX12_sectionsOf_32 : decode cX12_sectionsOf 32 = .ok (.iaload, 1) := by decide +kernel
theorem dX12_sectionsOf_33 : decode cX12_sectionsOf 33 = .ok (.ishl, 1) := by decide +kernel
theorem dX12_sectionsOf_34 : decode cX12_sectionsOf 34 = .ok (.ior, 1) := by decide +kernel
theorem dX12_sectionsOf_35 : decode cX12_sectionsOf 35 = .ok (.istore_n 2, 1) := by decide +kernel
theorem dX12_sectionsOf_36 : decode cX12_sectionsOf 36 = .ok (.iinc 3 1, 3) := by decide +kernel
theorem dX12_sectionsOf_39 : decode cX12_sectionsOf 39 = .ok (.goto (-35), 3) := by decide +kernel
theorem dX12_sectionsOf_42 : decode cX12_sectionsOf 42 = .ok (.iload_n 2, 1) := by decide +kernel
theorem dX12_sectionsOf_43 : decode cX12_sectionsOf 43 = .ok (.ireturn, 1) := by decide +kernel
theorem dX12_isConflict_0 : decode cX12_isConflict 0 = .ok (.iload_n 1, 1) := by decide +kernel
theorem dX12_isConflict_1 : decode cX12_isConflict 1 = .ok (.iload_n 2, 1) := by decide +kernel
theorem dX12_isConflict_2 : decode cX12_isConflict 2 = .ok (.if_icmp .ne 5, 3) := by decide +kernel
theorem dX12_isConflict_5 : decode cX12_isConflict 5 = .ok (.iconst 0, 1) := by decide +kernel
theorem dX12_isConflict_6 : decode cX12_isConflict 6 = .ok (.ireturn, 1) := by decide +kernel
theorem dX12_isConflict_7 : decode cX12_isConflict 7 = .ok (.aload_n 0, 1) := by decide +kernel
theorem dX12_isConflict_8 : decode cX12_isConflict 8 = .ok (.getfield 33, 3) := by decide +kernel
theorem dX12_isConflict_11 : decode cX12_isConflict 11 = .ok (.bipush 106, 2) := by decide +kernel
theorem dX12_isConflict_13 : decode cX12_isConflict 13 = .ok (.iload_n 1, 1) := by decide +kernel
theorem dX12_isConflict_14 : decode cX12_isConflict 14 = .ok (.iadd, 1) := by decide +kernel
theorem dX12_isConflict_15 : decode cX12_isConflict 15 = .ok (.iaload, 1) := by decide +kernel
theorem dX12_isConflict_16 : decode cX12_isConflict 16 = .ok (.aload_n 0, 1) := by decide +kernel
theorem dX12_isConflict_17 : decode cX12_isConflict 17 = .ok (.getfield 33, 3) := by decide +kernel
theorem dX12_isConflict_20 : decode cX12_isConflict 20 = .ok (.bipush 106, 2) := by decide +kernel
theorem dX12_isConflict_22 : decode cX12_isConflict 22 = .ok (.iload_n 2, 1) := by decide +kernel
theorem dX12_isConflict_23 : decode cX12_isConflict 23 = .ok (.iadd, 1) := by decide +kernel
theorem dX12_isConflict_24 : decode cX12_isConflict 24 = .ok (.iaload, 1) := by decide +kernel
theorem dX12_isConflict_25 : decode cX12_isConflict 25 = .ok (.if_icmp .eq 63, 3) := by decide +kernel
theorem dX12_isConflict_28 : decode cX12_isConflict 28 = .ok (.aload_n 0, 1) := by decide +kernel
theorem dX12_isConflict_29 : decode cX12_isConflict 29 = .ok (.iload_n 1, 1) := by decide +kernel
theorem dX12_isConflict_30 : decode cX12_isConflict 30 = .ok (.invokevirtual 304, 3) := by decide +kernel
theorem dX12_isConflict_33 : decode cX12_isConflict 33 = .ok (.aload_n 0, 1) := by decide +kernel
theorem dX12_isConflict_34 : decode cX12_isConflict 34 = .ok (.iload_n 2, 1) := by decide +kernel
theorem dX12_isConflict_35 : decode cX12_isConflict 35 = .ok (.invokevirtual 304, 3) := by decide +kernel
theorem dX12_isConflict_38 : decode cX12_isConflict 38 = .ok (.iand, 1) := by decide +kernel
theorem dX12_isConflict_39 : decode cX12_isConflict 39 = .ok (.ifCond .ne 49, 3) := by decide +kernel
theorem dX12_isConflict_42 : decode cX12_isConflict 42 = .ok (.aload_n 0, 1) := by decide +kernel
theorem dX12_isConflict_43 : decode cX12_isConflict 43 = .ok (.getfield 33, 3) := by decide +kernel
theorem dX12_isConflict_46 : decode cX12_isConflict 46 = .ok (.sipush 186, 3) := by decide +kernel
theorem dX12_isConflict_49 : decode cX12_isConflict 49 = .ok (.iload_n 1, 1) := by decide +kernel
theorem dX12_isConflict_50 : decode cX12_isConflict 50 = .ok (.iadd, 1) := by decide +kernel
theorem dX12_isConflict_51 : decode cX12_isConflict 51 = .ok (.iaload, 1) := by decide +kernel
theorem dX12_isConflict_52 : decode cX12_isConflict 52 = .ok (.aload_n 0, 1) := by decide +kernel
theorem dX12_isConflict_53 : decode cX12_isConflict 53 = .ok (.getfield 33, 3) := by decide +kernel
theorem dX12_isConflict_56 : decode cX12_isConflict 56 = .ok (.sipush 196, 3) := by decide +kernel
theorem dX12_isConflict_59 : decode cX12_isConflict 59 = .ok (.iload_n 2, 1) := by decide +kernel
theorem dX12_isConflict_60 : decode cX12_isConflict 60 = .ok (.iadd, 1) := by decide +kernel
theorem dX12_isConflict_61 : decode cX12_isConflict 61 = .ok (.iaload, 1) := by decide +kernel
theorem dX12_isConflict_62 : decode cX12_isConflict 62 = .ok (.iand, 1) := by decide +kernel
theorem dX12_isConflict_63 : decode cX12_isConflict 63 = .ok (.aload_n 0, 1) := by decide +kernel
theorem dX12_isConflict_64 : decode cX12_isConflict 64 = .ok (.getfield 33, 3) := by decide +kernel
theorem dX12_isConflict_67 : decode cX12_isConflict 67 = .ok (.sipush 196, 3) := by decide +kernel
theorem dX12_isConflict_70 : decode cX12_isConflict 70 = .ok (.iload_n 1, 1) := by decide +kernel
theorem dX12_isConflict_71 : decode cX12_isConflict 71 = .ok (.iadd, 1) := by decide +kernel
theorem dX12_isConflict_72 : decode cX12_isConflict 72 = .ok (.iaload, 1) := by decide +kernel
theorem dX12_isConflict_73 : decode cX12_isConflict 73 = .ok (.aload_n 0, 1) := by decide +kernel
theorem dX12_isConflict_74 : decode cX12_isConflict 74 = .ok (.getfield 33, 3) := by decide +kernel
theorem dX12_isConflict_77 : decode cX12_isConflict 77 = .ok (.sipush 186, 3) := by decide +kernel
theorem dX12_isConflict_80 : decode cX12_isConflict 80 = .ok (.iload_n 2, 1) := by decide +kernel
theorem dX12_isConflict_81 : decode cX12_isConflict 81 = .ok (.iadd, 1) := by decide +kernel
theorem dX12_isConflict_82 : decode cX12_isConflict 82 = .ok (.iaload, 1) := by decide +kernel
theorem dX12_isConflict_83 : decode cX12_isConflict 83 = .ok (.iand, 1) := by decide +kernel
theorem dX12_isConflict_84 : decode cX12_isConflict 84 = .ok (.ior, 1) := by decide +kernel
theorem dX12_isConflict_85 : decode cX12_isConflict 85 = .ok (.ifCond .eq 7, 3) := by decide +kernel
theorem dX12_isConflict_88 : decode cX12_isConflict 88 = .ok (.iconst 1, 1) := by decide +kernel
theorem dX12_isConflict_89 : decode cX12_isConflict 89 = .ok (.goto 4, 3) := by decide +kernel
theorem dX12_isConflict_92 : decode cX12_isConflict 92 = .ok (.iconst 0, 1) := by decide +kernel
theorem dX12_isConflict_93 : decode cX12_isConflict 93 = .ok (.ireturn, 1) := by decide +kernel
theorem dX12_conflictsOf_0 : decode cX12_conflictsOf 0 = .ok (.iconst 0, 1) := by decide +kernel
theorem dX12_conflictsOf_1 : decode cX12_conflictsOf 1 = .ok (.istore_n 2, 1) := by decide +kernel
theorem dX12_conflictsOf_2 : decode cX12_conflictsOf 2 = .ok (.iconst 0, 1) := by decide +kernel
theorem dX12_conflictsOf_3 : decode cX12_conflictsOf 3 = .ok (.istore_n 3, 1) := by decide +kernel
theorem dX12_conflictsOf_4 : decode cX12_conflictsOf 4 = .ok (.iload_n 3, 1) := by decide +kernel
theorem dX12_conflictsOf_5 : decode cX12_conflictsOf 5 = .ok (.aload_n 0, 1) := by decide +kernel
theorem dX12_conflictsOf_6 : decode cX12_conflictsOf 6 = .ok (.getfield 33, 3) := by decide +kernel
theorem dX12_conflictsOf_9 : decode cX12_conflictsOf 9 = .ok (.iconst 4, 1) := by decide +kernel
theorem dX12_conflictsOf_10 : decode cX12_conflictsOf 10 = .ok (.iaload, 1) := by decide +kernel
theorem dX12_conflictsOf_11 : decode cX12_conflictsOf 11 = .ok (.if_icmp .ge 28, 3) := by decide +kernel
theorem dX12_conflictsOf_14 : decode cX12_conflictsOf 14 = .ok (.iload_n 2, 1) := by decide +kernel
theorem dX12_conflictsOf_15 : decode cX12_conflictsOf 15 = .ok (.aload_n 0, 1) := by decide +kernel
theorem dX12_conflictsOf_16 : decode cX12_conflictsOf 16 = .ok (.iload_n 1, 1) := by decide +kernel
theorem dX12_conflictsOf_17 : decode cX12_conflictsOf 17 = .ok (.iload_n 3, 1) := by decide +kernel
theorem dX12_conflictsOf_18 : decode cX12_conflictsOf 18 = .ok (.invokevirtual 308, 3) := by decide +kernel
theorem dX12_conflictsOf_21 : decode cX12_conflictsOf 21 = .ok (.ifCond .eq 9, 3) := by decide +kernel
theorem dX12_conflictsOf_24 : decode cX12_conflictsOf 24 = .ok (.iconst 1, 1) := by decide +kernel
theorem dX12_conflictsOf_25 : decode cX12_conflictsOf 25 = .ok (.iload_n 3, 1) := by decide +kernel
theorem dX12_conflictsOf_26 : decode cX12_conflictsOf 26 = .ok (.ishl, 1) := by decide +kernel
theorem dX12_conflictsOf_27 : decode cX12_conflictsOf 27 = .ok (.goto 4, 3) := by decide +kernel
theorem dX12_conflictsOf_30 : decode cX12_conflictsOf 30 = .ok (.iconst 0, 1) := by decide +kernel
theorem dX12_conflictsOf_31 : decode cX12_conflictsOf 31 = .ok (.ior, 1) := by decide +kernel
theorem dX12_conflictsOf_32 : decode cX12_conflictsOf 32 = .ok (.istore_n 2, 1) := by decide +kernel
theorem dX12_conflictsOf_33 : decode cX12_conflictsOf 33 = .ok (.iinc 3 1, 3) := by decide +kernel
theorem dX12_conflictsOf_36 : decode cX12_conflictsOf 36 = .ok (.goto (-32), 3) := by decide +kernel
theorem dX12_conflictsOf_39 : decode cX12_conflictsOf 39 = .ok (.iload_n 2, 1) := by decide +kernel
theorem dX12_conflictsOf_40 : decode cX12_conflictsOf 40 = .ok (.ireturn, 1) := by decide +kernel
theorem dX12_routesOf_0 : decode cX12_routesOf 0 = .ok (.iconst 0, 1) := by decide +kernel
theorem dX12_routesOf_1 : decode cX12_routesOf 1 = .ok (.istore_n 2, 1) := by decide +kernel
theorem dX12_routesOf_2 : decode cX12_routesOf 2 = .ok (.iconst 0, 1) := by decide +kernel
theorem dX12_routesOf_3 : decode cX12_routesOf 3 = .ok (.istore_n 3, 1) := by decide +kernel
theorem dX12_routesOf_4 : decode cX12_routesOf 4 = .ok (.iload_n 3, 1) := by decide +kernel
theorem dX12_routesOf_5 : decode cX12_routesOf 5 = .ok (.aload_n 0, 1) := by decide +kernel
theorem dX12_routesOf_6 : decode cX12_routesOf 6 = .ok (.getfield 33, 3) := by decide +kernel
theorem dX12_routesOf_9 : decode cX12_routesOf 9 = .ok (.iconst 4, 1) := by decide +kernel
theorem dX12_routesOf_10 : decode cX12_routesOf 10 = .ok (.iaload, 1) := by decide +kernel
theorem dX12_routesOf_11 : decode cX12_routesOf 11 = .ok (.if_icmp .ge 32, 3) := by decide +kernel
theorem dX12_routesOf_14 : decode cX12_routesOf 14 = .ok (.iload_n 2, 1) := by decide +kernel
theorem dX12_routesOf_15 : decode cX12_routesOf 15 = .ok (.aload_n 0, 1) := by decide +kernel
theorem dX12_routesOf_16 : decode cX12_routesOf 16 = .ok (.getfield 33, 3) := by decide +kernel
theorem dX12_routesOf_19 : decode cX12_routesOf 19 = .ok (.bipush 106, 2) := by decide +kernel
theorem dX12_routesOf_21 : decode cX12_routesOf 21 = .ok (.iload_n 3, 1) := by decide +kernel
theorem dX12_routesOf_22 : decode cX12_routesOf 22 = .ok (.iadd, 1) := by decide +kernel
theorem dX12_routesOf_23 : decode cX12_routesOf 23 = .ok (.iaload, 1) := by decide +kernel
theorem dX12_routesOf_24 : decode cX12_routesOf 24 = .ok (.iload_n 1, 1) := by decide +kernel
theorem dX12_routesOf_25 : decode cX12_routesOf 25 = .ok (.if_icmp .ne 9, 3) := by decide +kernel
theorem dX12_routesOf_28 : decode cX12_routesOf 28 = .ok (.iconst 1, 1) := by decide +kernel
theorem dX12_routesOf_29 : decode cX12_routesOf 29 = .ok (.iload_n 3, 1) := by decide +kernel
theorem dX12_routesOf_30 : decode cX12_routesOf 30 = .ok (.ishl, 1) := by decide +kernel
theorem dX12_routesOf_31 : decode cX12_routesOf 31 = .ok (.goto 4, 3) := by decide +kernel
theorem dX12_routesOf_34 : decode cX12_routesOf 34 = .ok (.iconst 0, 1) := by decide +kernel
theorem dX12_routesOf_35 : decode cX12_routesOf 35 = .ok (.ior, 1) := by decide +kernel
theorem dX12_routesOf_36 : decode cX12_routesOf 36 = .ok (.istore_n 2, 1) := by decide +kernel
theorem dX12_routesOf_37 : decode cX12_routesOf 37 = .ok (.iinc 3 1, 3) := by decide +kernel
theorem dX12_routesOf_40 : decode cX12_routesOf 40 = .ok (.goto (-36), 3) := by decide +kernel
theorem dX12_routesOf_43 : decode cX12_routesOf 43 = .ok (.iload_n 2, 1) := by decide +kernel
theorem dX12_routesOf_44 : decode cX12_routesOf 44 = .ok (.ireturn, 1) := by decide +kernel
theorem dX12_busy_0 : decode cX12_busy 0 = .ok (.iconst 0, 1) := by decide +kernel
theorem dX12_busy_1 : decode cX12_busy 1 = .ok (.istore_n 1, 1) := by decide +kernel
theorem dX12_busy_2 : decode cX12_busy 2 = .ok (.iconst 0, 1) := by decide +kernel
theorem dX12_busy_3 : decode cX12_busy 3 = .ok (.istore_n 2, 1) := by decide +kernel
theorem dX12_busy_4 : decode cX12_busy 4 = .ok (.iload_n 2, 1) := by decide +kernel
theorem dX12_busy_5 : decode cX12_busy 5 = .ok (.aload_n 0, 1) := by decide +kernel
theorem dX12_busy_6 : decode cX12_busy 6 = .ok (.getfield 33, 3) := by decide +kernel
theorem dX12_busy_9 : decode cX12_busy 9 = .ok (.iconst 4, 1) := by decide +kernel
theorem dX12_busy_10 : decode cX12_busy 10 = .ok (.iaload, 1) := by decide +kernel
theorem dX12_busy_11 : decode cX12_busy 11 = .ok (.if_icmp .ge 32, 3) := by decide +kernel
theorem dX12_busy_14 : decode cX12_busy 14 = .ok (.iload_n 1, 1) := by decide +kernel
theorem dX12_busy_15 : decode cX12_busy 15 = .ok (.aload_n 0, 1) := by decide +kernel
theorem dX12_busy_16 : decode cX12_busy 16 = .ok (.getfield 33, 3) := by decide +kernel
theorem dX12_busy_19 : decode cX12_busy 19 = .ok (.sipush 229, 3) := by decide +kernel
theorem dX12_busy_22 : decode cX12_busy 22 = .ok (.iload_n 2, 1) := by decide +kernel
theorem dX12_busy_23 : decode cX12_busy 23 = .ok (.iadd, 1) := by decide +kernel
theorem dX12_busy_24 : decode cX12_busy 24 = .ok (.iaload, 1) := by decide +kernel
theorem dX12_busy_25 : decode cX12_busy 25 = .ok (.ifCond .eq 9, 3) := by decide +kernel
theorem dX12_busy_28 : decode cX12_busy 28 = .ok (.iconst 1, 1) := by decide +kernel
theorem dX12_busy_29 : decode cX12_busy 29 = .ok (.iload_n 2, 1) := by decide +kernel
theorem dX12_busy_30 : decode cX12_busy 30 = .ok (.ishl, 1) := by decide +kernel
theorem dX12_busy_31 : decode cX12_busy 31 = .ok (.goto 4, 3) := by decide +kernel
theorem dX12_busy_34 : decode cX12_busy 34 = .ok (.iconst 0, 1) := by decide +kernel
theorem dX12_busy_35 : decode cX12_busy 35 = .ok (.ior, 1) := by decide +kernel
theorem dX12_busy_36 : decode cX12_busy 36 = .ok (.istore_n 1, 1) := by decide +kernel
theorem dX12_busy_37 : decode cX12_busy 37 = .ok (.iinc 2 1, 3) := by decide +kernel
theorem dX12_busy_40 : decode cX12_busy 40 = .ok (.goto (-36), 3) := by decide +kernel
theorem dX12_busy_43 : decode cX12_busy 43 = .ok (.iload_n 1, 1) := by decide +kernel
theorem dX12_busy_44 : decode cX12_busy 44 = .ok (.ireturn, 1) := by decide +kernel
theorem dX12_wanting_0 : decode cX12_wanting 0 = .ok (.iconst 0, 1) := by decide +kernel
theorem dX12_wanting_1 : decode cX12_wanting 1 = .ok (.istore_n 3, 1) := by decide +kernel
theorem dX12_wanting_2 : decode cX12_wanting 2 = .ok (.iconst 0, 1) := by decide +kernel
theorem dX12_wanting_3 : decode cX12_wanting 3 = .ok (.istore 4, 2) := by decide +kernel
theorem dX12_wanting_5 : decode cX12_wanting 5 = .ok (.iload 4, 2) := by decide +kernel
theorem dX12_wanting_7 : decode cX12_wanting 7 = .ok (.aload_n 0, 1) := by decide +kernel
theorem dX12_wanting_8 : decode cX12_wanting 8 = .ok (.getfield 33, 3) := by decide +kernel
theorem dX12_wanting_11 : decode cX12_wanting 11 = .ok (.iconst 4, 1) := by decide +kernel
theorem dX12_wanting_12 : decode cX12_wanting 12 = .ok (.iaload, 1) := by decide +kernel
theorem dX12_wanting_13 : decode cX12_wanting 13 = .ok (.if_icmp .ge 36, 3) := by decide +kernel
theorem dX12_wanting_16 : decode cX12_wanting 16 = .ok (.iload_n 3, 1) := by decide +kernel
theorem dX12_wanting_17 : decode cX12_wanting 17 = .ok (.aload_n 0, 1) := by decide +kernel
theorem dX12_wanting_18 : decode cX12_wanting 18 = .ok (.getfield 33, 3) := by decide +kernel
theorem dX12_wanting_21 : decode cX12_wanting 21 = .ok (.iload_n 2, 1) := by decide +kernel
theorem dX12_wanting_22 : decode cX12_wanting 22 = .ok (.iload 4, 2) := by decide +kernel
theorem dX12_wanting_24 : decode cX12_wanting 24 = .ok (.iadd, 1) := by decide +kernel
theorem dX12_wanting_25 : decode cX12_wanting 25 = .ok (.iaload, 1) := by decide +kernel
theorem dX12_wanting_26 : decode cX12_wanting 26 = .ok (.iload_n 1, 1) := by decide +kernel
theorem dX12_wanting_27 : decode cX12_wanting 27 = .ok (.invokestatic 280, 3) := by decide +kernel
theorem dX12_wanting_30 : decode cX12_wanting 30 = .ok (.ifCond .eq 10, 3) := by decide +kernel
theorem dX12_wanting_33 : decode cX12_wanting 33 = .ok (.iconst 1, 1) := by decide +kernel
theorem dX12_wanting_34 : decode cX12_wanting 34 = .ok (.iload 4, 2) := by decide +kernel
theorem dX12_wanting_36 : decode cX12_wanting 36 = .ok (.ishl, 1) := by decide +kernel
theorem dX12_wanting_37 : decode cX12_wanting 37 = .ok (.goto 4, 3) := by decide +kernel
theorem dX12_wanting_40 : decode cX12_wanting 40 = .ok (.iconst 0, 1) := by decide +kernel
theorem dX12_wanting_41 : decode cX12_wanting 41 = .ok (.ior, 1) := by decide +kernel
theorem dX12_wanting_42 : decode cX12_wanting 42 = .ok (.istore_n 3, 1) := by decide +kernel
theorem dX12_wanting_43 : decode cX12_wanting 43 = .ok (.iinc 4 1, 3) := by decide +kernel
theorem dX12_wanting_46 : decode cX12_wanting 46 = .ok (.goto (-41), 3) := by decide +kernel
theorem dX12_wanting_49 : decode cX12_wanting 49 = .ok (.iload_n 3, 1) := by decide +kernel
theorem dX12_wanting_50 : decode cX12_wanting 50 = .ok (.ireturn, 1) := by decide +kernel
theorem dX12_section_0 : decode cX12_section 0 = .ok (.aload_n 0, 1) := by decide +kernel
theorem dX12_section_1 : decode cX12_section 1 = .ok (.iconst 0, 1) := by decide +kernel
theorem dX12_section_2 : decode cX12_section 2 = .ok (.putfield 1, 3) := by decide +kernel
theorem dX12_section_5 : decode cX12_section 5 = .ok (.aload_n 0, 1) := by decide +kernel
theorem dX12_section_6 : decode cX12_section 6 = .ok (.iload_n 1, 1) := by decide +kernel
theorem dX12_section_7 : decode cX12_section 7 = .ok (.invokevirtual 311, 3) := by decide +kernel
theorem dX12_section_10 : decode cX12_section 10 = .ok (.ifCond .ne 5, 3) := by decide +kernel
theorem dX12_section_13 : decode cX12_section 13 = .ok (.iconst (-1), 1) := by decide +kernel
theorem dX12_section_14 : decode cX12_section 14 = .ok (.ireturn, 1) := by decide +kernel
theorem dX12_section_15 : decode cX12_section 15 = .ok (.iconst 0, 1) := by decide +kernel
theorem dX12_section_16 : decode cX12_section 16 = .ok (.istore_n 3, 1) := by decide +kernel
theorem dX12_section_17 : decode cX12_section 17 = .ok (.iload_n 2, 1) := by decide +kernel
theorem dX12_section_18 : decode cX12_section 18 = .ok (.iconst 4, 1) := by decide +kernel
theorem dX12_section_19 : decode cX12_section 19 = .ok (.if_icmp .ne 47, 3) := by decide +kernel
theorem dX12_section_22 : decode cX12_section 22 = .ok (.iconst 0, 1) := by decide +kernel
theorem dX12_section_23 : decode cX12_section 23 = .ok (.istore 4, 2) := by decide +kernel
theorem dX12_section_25 : decode cX12_section 25 = .ok (.iload 4, 2) := by decide +kernel
theorem dX12_section_27 : decode cX12_section 27 = .ok (.aload_n 0, 1) := by decide +kernel
theorem dX12_section_28 : decode cX12_section 28 = .ok (.getfield 33, 3) := by decide +kernel
theorem dX12_section_31 : decode cX12_section 31 = .ok (.iconst 4, 1) := by decide +kernel
theorem dX12_section_32 : decode cX12_section 32 = .ok (.iaload, 1) := by decide +kernel
theorem dX12_section_33 : decode cX12_section 33 = .ok (.if_icmp .ge 33, 3) := by decide +kernel
theorem dX12_section_36 : decode cX12_section 36 = .ok (.iload_n 3, 1) := by decide +kernel
theorem dX12_section_37 : decode cX12_section 37 = .ok (.aload_n 0, 1) := by decide +kernel
theorem dX12_section_38 : decode cX12_section 38 = .ok (.iload 4, 2) := by decide +kernel
theorem dX12_section_40 : decode cX12_section 40 = .ok (.invokevirtual 304, 3) := by decide +kernel
theorem dX12_section_43 : decode cX12_section 43 = .ok (.iload_n 1, 1) := by decide +kernel
theorem dX12_section_44 : decode cX12_section 44 = .ok (.invokestatic 280, 3) := by decide +kernel
theorem dX12_section_47 : decode cX12_section 47 = .ok (.ifCond .eq 10, 3) := by decide +kernel
theorem dX12_section_50 : decode cX12_section 50 = .ok (.iconst 1, 1) := by decide +kernel
theorem dX12_section_51 : decode cX12_section 51 = .ok (.iload 4, 2) := by decide +kernel
theorem dX12_section_53 : decode cX12_section 53 = .ok (.ishl, 1) := by decide +kernel
theorem dX12_section_54 : decode cX12_section 54 = .ok (.goto 4, 3) := by decide +kernel
theorem dX12_section_57 : decode cX12_section 57 = .ok (.iconst 0, 1) := by decide +kernel
theorem dX12_section_58 : decode cX12_section 58 = .ok (.ior, 1) := by decide +kernel
theorem dX12_section_59 : decode cX12_section 59 = .ok (.istore_n 3, 1) := by decide +kernel
theorem dX12_section_60 : decode cX12_section 60 = .ok (.iinc 4 1, 3) := by decide +kernel
theorem dX12_section_63 : decode cX12_section 63 = .ok (.goto (-38), 3) := by decide +kernel
theorem dX12_section_66 : decode cX12_section 66 = .ok (.iload_n 2, 1) := by decide +kernel
theorem dX12_section_67 : decode cX12_section 67 = .ok (.iconst 5, 1) := by decide +kernel
theorem dX12_section_68 : decode cX12_section 68 = .ok (.if_icmp .ne 48, 3) := by decide +kernel
theorem dX12_section_71 : decode cX12_section 71 = .ok (.iconst 0, 1) := by decide +kernel
theorem dX12_section_72 : decode cX12_section 72 = .ok (.istore 4, 2) := by decide +kernel
theorem dX12_section_74 : decode cX12_section 74 = .ok (.iload 4, 2) := by decide +kernel
theorem dX12_section_76 : decode cX12_section 76 = .ok (.aload_n 0, 1) := by decide +kernel
theorem dX12_section_77 : decode cX12_section 77 = .ok (.getfield 33, 3) := by decide +kernel
theorem dX12_section_80 : decode cX12_section 80 = .ok (.iconst 1, 1) := by decide +kernel
theorem dX12_section_81 : decode cX12_section 81 = .ok (.iaload, 1) := by decide +kernel
theorem dX12_section_82 : decode cX12_section 82 = .ok (.if_icmp .ge 34, 3) := by decide +kernel
theorem dX12_section_85 : decode cX12_section 85 = .ok (.iload_n 3, 1) := by decide +kernel
theorem dX12_section_86 : decode cX12_section 86 = .ok (.aload_n 0, 1) := by decide +kernel
theorem dX12_section_87 : decode cX12_section 87 = .ok (.getfield 33, 3) := by decide +kernel
theorem dX12_section_90 : decode cX12_section 90 = .ok (.bipush 20, 2) := by decide +kernel
theorem dX12_section_92 : decode cX12_section 92 = .ok (.iload 4, 2) := by decide +kernel
theorem dX12_section_94 : decode cX12_section 94 = .ok (.iadd, 1) := by decide +kernel
theorem dX12_section_95 : decode cX12_section 95 = .ok (.iaload, 1) := by decide +kernel
theorem dX12_section_96 : decode cX12_section 96 = .ok (.iload_n 1, 1) := by decide +kernel
theorem dX12_section_97 : decode cX12_section 97 = .ok (.if_icmp .ne 10, 3) := by decide +kernel
theorem dX12_section_100 : decode cX12_section 100 = .ok (.iconst 1, 1) := by decide +kernel
theorem dX12_section_101 : decode cX12_section 101 = .ok (.iload 4, 2) := by decide +kernel
theorem dX12_section_103 : decode cX12_section 103 = .ok (.ishl, 1) := by decide +kernel
theorem dX12_section_104 : decode cX12_section 104 = .ok (.goto 4, 3) := by decide +kernel
theorem dX12_section_107 : decode cX12_section 107 = .ok (.iconst 0, 1) := by decide +kernel
theorem dX12_section_108 : decode cX12_section 108 = .ok (.ior, 1) := by decide +kernel
theorem dX12_section_109 : decode cX12_section 109 = .ok (.istore_n 3, 1) := by decide +kernel
theorem dX12_section_110 : decode cX12_section 110 = .ok (.iinc 4 1, 3) := by decide +kernel
theorem dX12_section_113 : decode cX12_section 113 = .ok (.goto (-39), 3) := by decide +kernel
theorem dX12_section_116 : decode cX12_section 116 = .ok (.iload_n 2, 1) := by decide +kernel
theorem dX12_section_117 : decode cX12_section 117 = .ok (.tableswitch 83 0 5 #[39, 49, 56, 70, 81, 81], 39) := by decide +kernel
theorem dX12_section_156 : decode cX12_section 156 = .ok (.aload_n 0, 1) := by decide +kernel
theorem dX12_section_157 : decode cX12_section 157 = .ok (.getfield 33, 3) := by decide +kernel
theorem dX12_section_160 : decode cX12_section 160 = .ok (.bipush 8, 2) := by decide +kernel
theorem dX12_section_162 : decode cX12_section 162 = .ok (.iload_n 1, 1) := by decide +kernel
theorem dX12_section_163 : decode cX12_section 163 = .ok (.iadd, 1) := by decide +kernel
theorem dX12_section_164 : decode cX12_section 164 = .ok (.iaload, 1) := by decide +kernel
theorem dX12_section_165 : decode cX12_section 165 = .ok (.ireturn, 1) := by decide +kernel
theorem dX12_section_166 : decode cX12_section 166 = .ok (.aload_n 0, 1) := by decide +kernel
theorem dX12_section_167 : decode cX12_section 167 = .ok (.iload_n 1, 1) := by decide +kernel
theorem dX12_section_168 : decode cX12_section 168 = .ok (.iconst (-1), 1) := by decide +kernel
theorem dX12_section_169 : decode cX12_section 169 = .ok (.invokevirtual 298, 3) := by decide +kernel
theorem dX12_section_172 : decode cX12_section 172 = .ok (.ireturn, 1) := by decide +kernel
theorem dX12_section_173 : decode cX12_section 173 = .ok (.aload_n 0, 1) := by decide +kernel
theorem dX12_section_174 : decode cX12_section 174 = .ok (.iload_n 1, 1) := by decide +kernel
theorem dX12_section_175 : decode cX12_section 175 = .ok (.invokevirtual 314, 3) := by decide +kernel
theorem dX12_section_178 : decode cX12_section 178 = .ok (.ifCond .eq 7, 3) := by decide +kernel
theorem dX12_section_181 : decode cX12_section 181 = .ok (.iconst 1, 1) := by decide +kernel
theorem dX12_section_182 : decode cX12_section 182 = .ok (.goto 4, 3) := by decide +kernel
theorem dX12_section_185 : decode cX12_section 185 = .ok (.iconst 0, 1) := by decide +kernel
theorem dX12_section_186 : decode cX12_section 186 = .ok (.ireturn, 1) := by decide +kernel
theorem dX12_section_187 : decode cX12_section 187 = .ok (.aload_n 0, 1) := by decide +kernel
theorem dX12_section_188 : decode cX12_section 188 = .ok (.getfield 33, 3) := by decide +kernel
theorem dX12_section_191 : decode cX12_section 191 = .ok (.sipush 259, 3) := by decide +kernel
theorem dX12_section_194 : decode cX12_section 194 = .ok (.iload_n 1, 1) := by decide +kernel
theorem dX12_section_195 : decode cX12_section 195 = .ok (.iadd, 1) := by decide +kernel
theorem dX12_section_196 : decode cX12_section 196 = .ok (.iaload, 1) := by decide +kernel
theorem dX12_section_197 : decode cX12_section 197 = .ok (.ireturn, 1) := by decide +kernel
theorem dX12_section_198 : decode cX12_section 198 = .ok (.iload_n 3, 1) := by decide +kernel
theorem dX12_section_199 : decode cX12_section 199 = .ok (.ireturn, 1) := by decide +kernel
theorem dX12_section_200 : decode cX12_section 200 = .ok (.iconst (-1), 1) := by decide +kernel
theorem dX12_section_201 : decode cX12_section 201 = .ok (.ireturn, 1) := by decide +kernel
theorem dX12_points_0 : decode cX12_points 0 = .ok (.aload_n 0, 1) := by decide +kernel
theorem dX12_points_1 : decode cX12_points 1 = .ok (.iconst 0, 1) := by decide +kernel
theorem dX12_points_2 : decode cX12_points 2 = .ok (.putfield 1, 3) := by decide +kernel
theorem dX12_points_5 : decode cX12_points 5 = .ok (.aload_n 0, 1) := by decide +kernel
theorem dX12_points_6 : decode cX12_points 6 = .ok (.iload_n 1, 1) := by decide +kernel
theorem dX12_points_7 : decode cX12_points 7 = .ok (.invokevirtual 317, 3) := by decide +kernel
theorem dX12_points_10 : decode cX12_points 10 = .ok (.ifCond .ne 5, 3) := by decide +kernel
theorem dX12_points_13 : decode cX12_points 13 = .ok (.iconst (-1), 1) := by decide +kernel
theorem dX12_points_14 : decode cX12_points 14 = .ok (.ireturn, 1) := by decide +kernel
theorem dX12_points_15 : decode cX12_points 15 = .ok (.iload_n 2, 1) := by decide +kernel
theorem dX12_points_16 : decode cX12_points 16 = .ok (.ifCond .ne 15, 3) := by decide +kernel
theorem dX12_points_19 : decode cX12_points 19 = .ok (.aload_n 0, 1) := by decide +kernel
theorem dX12_points_20 : decode cX12_points 20 = .ok (.getfield 33, 3) := by decide +kernel
theorem dX12_points_23 : decode cX12_points 23 = .ok (.bipush 20, 2) := by decide +kernel
theorem dX12_points_25 : decode cX12_points 25 = .ok (.iload_n 1, 1) := by decide +kernel
theorem dX12_points_26 : decode cX12_points 26 = .ok (.iadd, 1) := by decide +kernel
theorem dX12_points_27 : decode cX12_points 27 = .ok (.iaload, 1) := by decide +kernel
theorem dX12_points_28 : decode cX12_points 28 = .ok (.goto 56, 3) := by decide +kernel
theorem dX12_points_31 : decode cX12_points 31 = .ok (.iload_n 2, 1) := by decide +kernel
theorem dX12_points_32 : decode cX12_points 32 = .ok (.iconst 1, 1) := by decide +kernel
theorem dX12_points_33 : decode cX12_points 33 = .ok (.if_icmp .ne 18, 3) := by decide +kernel
theorem dX12_points_36 : decode cX12_points 36 = .ok (.aload_n 0, 1) := by decide +kernel
theorem dX12_points_37 : decode cX12_points 37 = .ok (.getfield 33, 3) := by decide +kernel
theorem dX12_points_40 : decode cX12_points 40 = .ok (.sipush 228, 3) := by decide +kernel
theorem dX12_points_43 : decode cX12_points 43 = .ok (.iaload, 1) := by decide +kernel
theorem dX12_points_44 : decode cX12_points 44 = .ok (.iload_n 1, 1) := by decide +kernel
theorem dX12_points_45 : decode cX12_points 45 = .ok (.ishr, 1) := by decide +kernel
theorem dX12_points_46 : decode cX12_points 46 = .ok (.iconst 1, 1) := by decide +kernel
theorem dX12_points_47 : decode cX12_points 47 = .ok (.iand, 1) := by decide +kernel
theorem dX12_points_48 : decode cX12_points 48 = .ok (.goto 36, 3) := by decide +kernel
theorem dX12_points_51 : decode cX12_points 51 = .ok (.iload_n 2, 1) := by decide +kernel
theorem dX12_points_52 : decode cX12_points 52 = .ok (.iconst 2, 1) := by decide +kernel
theorem dX12_points_53 : decode cX12_points 53 = .ok (.if_icmp .ne 14, 3) := by decide +kernel
theorem dX12_points_56 : decode cX12_points 56 = .ok (.aload_n 0, 1) := by decide +kernel
theorem dX12_points_57 : decode cX12_points 57 = .ok (.iload_n 1, 1) := by decide +kernel
theorem dX12_points_58 : decode cX12_points 58 = .ok (.sipush 186, 3) := by decide +kernel
theorem dX12_points_61 : decode cX12_points 61 = .ok (.invokevirtual 320, 3) := by decide +kernel
theorem dX12_points_64 : decode cX12_points 64 = .ok (.goto 20, 3) := by decide +kernel
theorem dX12_points_67 : decode cX12_points 67 = .ok (.iload_n 2, 1) := by decide +kernel
theorem dX12_points_68 : decode cX12_points 68 = .ok (.iconst 3, 1) := by decide +kernel
theorem dX12_points_69 : decode cX12_points 69 = .ok (.if_icmp .ne 14, 3) := by decide +kernel
theorem dX12_points_72 : decode cX12_points 72 = .ok (.aload_n 0, 1) := by decide +kernel
theorem dX12_points_73 : decode cX12_points 73 = .ok (.iload_n 1, 1) := by decide +kernel
theorem dX12_points_74 : decode cX12_points 74 = .ok (.sipush 196, 3) := by decide +kernel
theorem dX12_points_77 : decode cX12_points 77 = .ok (.invokevirtual 320, 3) := by decide +kernel
theorem dX12_points_80 : decode cX12_points 80 = .ok (.goto 4, 3) := by decide +kernel
theorem dX12_points_83 : decode cX12_points 83 = .ok (.iconst (-1), 1) := by decide +kernel
theorem dX12_points_84 : decode cX12_points 84 = .ok (.ireturn, 1) := by decide +kernel
theorem dX12_setOf_0 : decode cX12_setOf 0 = .ok (.iconst 0, 1) := by decide +kernel
theorem dX12_setOf_1 : decode cX12_setOf 1 = .ok (.istore_n 2, 1) := by decide +kernel
theorem dX12_setOf_2 : decode cX12_setOf 2 = .ok (.iload_n 2, 1) := by decide +kernel
theorem dX12_setOf_3 : decode cX12_setOf 3 = .ok (.aload_n 0, 1) := by decide +kernel
theorem dX12_setOf_4 : decode cX12_setOf 4 = .ok (.getfield 33, 3) := by decide +kernel
theorem dX12_setOf_7 : decode cX12_setOf 7 = .ok (.iconst 4, 1) := by decide +kernel
theorem dX12_setOf_8 : decode cX12_setOf 8 = .ok (.iaload, 1) := by decide +kernel
theorem dX12_setOf_9 : decode cX12_setOf 9 = .ok (.if_icmp .ge 38, 3) := by decide +kernel
theorem dX12_setOf_12 : decode cX12_setOf 12 = .ok (.aload_n 0, 1) := by decide +kernel
theorem dX12_setOf_13 : decode cX12_setOf 13 = .ok (.getfield 33, 3) := by decide +kernel
theorem dX12_setOf_16 : decode cX12_setOf 16 = .ok (.bipush 106, 2) := by decide +kernel
theorem dX12_setOf_18 : decode cX12_setOf 18 = .ok (.iload_n 2, 1) := by decide +kernel
theorem dX12_setOf_19 : decode cX12_setOf 19 = .ok (.iadd, 1) := by decide +kernel
theorem dX12_setOf_20 : decode cX12_setOf 20 = .ok (.iaload, 1) := by decide +kernel
theorem dX12_setOf_21 : decode cX12_setOf 21 = .ok (.iload_n 1, 1) := by decide +kernel
theorem dX12_setOf_22 : decode cX12_setOf 22 = .ok (.if_icmp .ne 19, 3) := by decide +kernel
theorem dX12_setOf_25 : decode cX12_setOf 25 = .ok (.aload_n 0, 1) := by decide +kernel
theorem dX12_setOf_26 : decode cX12_setOf 26 = .ok (.getfield 33, 3) := by decide +kernel
theorem dX12_setOf_29 : decode cX12_setOf 29 = .ok (.sipush 229, 3) := by decide +kernel
theorem dX12_setOf_32 : decode cX12_setOf 32 = .ok (.iload_n 2, 1) := by decide +kernel
theorem dX12_setOf_33 : decode cX12_setOf 33 = .ok (.iadd, 1) := by decide +kernel
theorem dX12_setOf_34 : decode cX12_setOf 34 = .ok (.iaload, 1) := by decide +kernel
theorem dX12_setOf_35 : decode cX12_setOf 35 = .ok (.iconst 1, 1) := by decide +kernel
theorem dX12_setOf_36 : decode cX12_setOf 36 = .ok (.if_icmp .ne 5, 3) := by decide +kernel
theorem dX12_setOf_39 : decode cX12_setOf 39 = .ok (.iload_n 2, 1) := by decide +kernel
theorem dX12_setOf_40 : decode cX12_setOf 40 = .ok (.ireturn, 1) := by decide +kernel
theorem dX12_setOf_41 : decode cX12_setOf 41 = .ok (.iinc 2 1, 3) := by decide +kernel
theorem dX12_setOf_44 : decode cX12_setOf 44 = .ok (.goto (-42), 3) := by decide +kernel
theorem dX12_setOf_47 : decode cX12_setOf 47 = .ok (.iconst (-1), 1) := by decide +kernel
theorem dX12_setOf_48 : decode cX12_setOf 48 = .ok (.ireturn, 1) := by decide +kernel
theorem dX12_signal_0 : decode cX12_signal 0 = .ok (.aload_n 0, 1) := by decide +kernel
theorem dX12_signal_1 : decode cX12_signal 1 = .ok (.iconst 0, 1) := by decide +kernel
theorem dX12_signal_2 : decode cX12_signal 2 = .ok (.putfield 1, 3) := by decide +kernel
theorem dX12_signal_5 : decode cX12_signal 5 = .ok (.iload_n 1, 1) := by decide +kernel
theorem dX12_signal_6 : decode cX12_signal 6 = .ok (.iconst 0, 1) := by decide +kernel
theorem dX12_signal_7 : decode cX12_signal 7 = .ok (.aload_n 0, 1) := by decide +kernel
theorem dX12_signal_8 : decode cX12_signal 8 = .ok (.getfield 33, 3) := by decide +kernel
theorem dX12_signal_11 : decode cX12_signal 11 = .ok (.iconst 3, 1) := by decide +kernel
theorem dX12_signal_12 : decode cX12_signal 12 = .ok (.iaload, 1) := by decide +kernel
theorem dX12_signal_13 : decode cX12_signal 13 = .ok (.iconst 1, 1) := by decide +kernel
theorem dX12_signal_14 : decode cX12_signal 14 = .ok (.isub, 1) := by decide +kernel
theorem dX12_signal_15 : decode cX12_signal 15 = .ok (.invokestatic 211, 3) := by decide +kernel
theorem dX12_signal_18 : decode cX12_signal 18 = .ok (.ifCond .ne 5, 3) := by decide +kernel
theorem dX12_signal_21 : decode cX12_signal 21 = .ok (.iconst (-1), 1) := by decide +kernel
theorem dX12_signal_22 : decode cX12_signal 22 = .ok (.ireturn, 1) := by decide +kernel
theorem dX12_signal_23 : decode cX12_signal 23 = .ok (.iload_n 2, 1) := by decide +kernel
theorem dX12_signal_24 : decode cX12_signal 24 = .ok (.ifCond .ne 15, 3) := by decide +kernel
theorem dX12_signal_27 : decode cX12_signal 27 = .ok (.aload_n 0, 1) := by decide +kernel
theorem dX12_signal_28 : decode cX12_signal 28 = .ok (.getfield 33, 3) := by decide +kernel
theorem dX12_signal_31 : decode cX12_signal 31 = .ok (.bipush 90, 2) := by decide +kernel
theorem dX12_signal_33 : decode cX12_signal 33 = .ok (.iload_n 1, 1) := by decide +kernel
theorem dX12_signal_34 : decode cX12_signal 34 = .ok (.iadd, 1) := by decide +kernel
theorem dX12_signal_35 : decode cX12_signal 35 = .ok (.iaload, 1) := by decide +kernel
theorem dX12_signal_36 : decode cX12_signal 36 = .ok (.goto 55, 3) := by decide +kernel
theorem dX12_signal_39 : decode cX12_signal 39 = .ok (.iload_n 2, 1) := by decide +kernel
theorem dX12_signal_40 : decode cX12_signal 40 = .ok (.iconst 1, 1) := by decide +kernel
theorem dX12_signal_41 : decode cX12_signal 41 = .ok (.if_icmp .ne 15, 3) := by decide +kernel
theorem dX12_signal_44 : decode cX12_signal 44 = .ok (.aload_n 0, 1) := by decide +kernel
theorem dX12_signal_45 : decode cX12_signal 45 = .ok (.getfield 33, 3) := by decide +kernel
theorem dX12_signal_48 : decode cX12_signal 48 = .ok (.bipush 98, 2) := by decide +kernel
theorem dX12_signal_50 : decode cX12_signal 50 = .ok (.iload_n 1, 1) := by decide +kernel
theorem dX12_signal_51 : decode cX12_signal 51 = .ok (.iadd, 1) := by decide +kernel
theorem dX12_signal_52 : decode cX12_signal 52 = .ok (.iaload, 1) := by decide +kernel
theorem dX12_signal_53 : decode cX12_signal 53 = .ok (.goto 38, 3) := by decide +kernel
theorem dX12_signal_56 : decode cX12_signal 56 = .ok (.iload_n 2, 1) := by decide +kernel
theorem dX12_signal_57 : decode cX12_signal 57 = .ok (.iconst 2, 1) := by decide +kernel
theorem dX12_signal_58 : decode cX12_signal 58 = .ok (.if_icmp .ne 19, 3) := by decide +kernel
theorem dX12_signal_61 : decode cX12_signal 61 = .ok (.aload_n 0, 1) := by decide +kernel
theorem dX12_signal_62 : decode cX12_signal 62 = .ok (.iload_n 1, 1) := by decide +kernel
theorem dX12_signal_63 : decode cX12_signal 63 = .ok (.invokevirtual 323, 3) := by decide +kernel
theorem dX12_signal_66 : decode cX12_signal 66 = .ok (.ifCond .ge 7, 3) := by decide +kernel
theorem dX12_signal_69 : decode cX12_signal 69 = .ok (.iconst 0, 1) := by decide +kernel
theorem dX12_signal_70 : decode cX12_signal 70 = .ok (.goto 21, 3) := by decide +kernel
theorem dX12_signal_73 : decode cX12_signal 73 = .ok (.iconst 1, 1) := by decide +kernel
theorem dX12_signal_74 : decode cX12_signal 74 = .ok (.goto 17, 3) := by decide +kernel
theorem dX12_signal_77 : decode cX12_signal 77 = .ok (.iload_n 2, 1) := by decide +kernel
theorem dX12_signal_78 : decode cX12_signal 78 = .ok (.iconst 3, 1) := by decide +kernel
theorem dX12_signal_79 : decode cX12_signal 79 = .ok (.if_icmp .ne 11, 3) := by decide +kernel
theorem dX12_signal_82 : decode cX12_signal 82 = .ok (.aload_n 0, 1) := by decide +kernel
theorem dX12_signal_83 : decode cX12_signal 83 = .ok (.iload_n 1, 1) := by decide +kernel
theorem dX12_signal_84 : decode cX12_signal 84 = .ok (.invokevirtual 326, 3) := by decide +kernel
theorem dX12_signal_87 : decode cX12_signal 87 = .ok (.goto 4, 3) := by decide +kernel
theorem dX12_signal_90 : decode cX12_signal 90 = .ok (.iconst (-1), 1) := by decide +kernel
theorem dX12_signal_91 : decode cX12_signal 91 = .ok (.ireturn, 1) := by decide +kernel
theorem dX12_route_0 : decode cX12_route 0 = .ok (.aload_n 0, 1) := by decide +kernel
theorem dX12_route_1 : decode cX12_route 1 = .ok (.iconst 0, 1) := by decide +kernel
theorem dX12_route_2 : decode cX12_route 2 = .ok (.putfield 1, 3) := by decide +kernel
theorem dX12_route_5 : decode cX12_route 5 = .ok (.aload_n 0, 1) := by decide +kernel
theorem dX12_route_6 : decode cX12_route 6 = .ok (.iload_n 1, 1) := by decide +kernel
theorem dX12_route_7 : decode cX12_route 7 = .ok (.invokevirtual 329, 3) := by decide +kernel
theorem dX12_route_10 : decode cX12_route 10 = .ok (.ifCond .ne 5, 3) := by decide +kernel
theorem dX12_route_13 : decode cX12_route 13 = .ok (.iconst (-1), 1) := by decide +kernel
theorem dX12_route_14 : decode cX12_route 14 = .ok (.ireturn, 1) := by decide +kernel
theorem dX12_route_15 : decode cX12_route 15 = .ok (.iload_n 2, 1) := by decide +kernel
theorem dX12_route_16 : decode cX12_route 16 = .ok (.tableswitch 146 0 8 #[52, 62, 73, 83, 94, 100, 111, 122, 133], 52) := by decide +kernel
theorem dX12_route_68 : decode cX12_route 68 = .ok (.aload_n 0, 1) := by decide +kernel
theorem dX12_route_69 : decode cX12_route 69 = .ok (.getfield 33, 3) := by decide +kernel
theorem dX12_route_72 : decode cX12_route 72 = .ok (.bipush 106, 2) := by decide +kernel
theorem dX12_route_74 : decode cX12_route 74 = .ok (.iload_n 1, 1) := by decide +kernel
theorem dX12_route_75 : decode cX12_route 75 = .ok (.iadd, 1) := by decide +kernel
theorem dX12_route_76 : decode cX12_route 76 = .ok (.iaload, 1) := by decide +kernel
theorem dX12_route_77 : decode cX12_route 77 = .ok (.ireturn, 1) := by decide +kernel
theorem dX12_route_78 : decode cX12_route 78 = .ok (.aload_n 0, 1) := by decide +kernel
theorem dX12_route_79 : decode cX12_route 79 = .ok (.getfield 33, 3) := by decide +kernel
theorem dX12_route_82 : decode cX12_route 82 = .ok (.sipush 229, 3) := by decide +kernel
theorem dX12_route_85 : decode cX12_route 85 = .ok (.iload_n 1, 1) := by decide +kernel
theorem dX12_route_86 : decode cX12_route 86 = .ok (.iadd, 1) := by decide +kernel
theorem dX12_route_87 : decode cX12_route 87 = .ok (.iaload, 1) := by decide +kernel
theorem dX12_route_88 : decode cX12_route 88 = .ok (.ireturn, 1) := by decide +kernel
theorem dX12_route_89 : decode cX12_route 89 = .ok (.aload_n 0, 1) := by decide +kernel
theorem dX12_route_90 : decode cX12_route 90 = .ok (.getfield 33, 3) := by decide +kernel
theorem dX12_route_93 : decode cX12_route 93 = .ok (.bipush 116, 2) := by decide +kernel
theorem dX12_route_95 : decode cX12_route 95 = .ok (.iload_n 1, 1) := by decide +kernel
theorem dX12_route_96 : decode cX12_route 96 = .ok (.iadd, 1) := by decide +kernel
theorem dX12_route_97 : decode cX12_route 97 = .ok (.iaload, 1) := by decide +kernel
theorem dX12_route_98 : decode cX12_route 98 = .ok (.ireturn, 1) := by decide +kernel
theorem dX12_route_99 : decode cX12_route 99 = .ok (.aload_n 0, 1) := by decide +kernel
theorem dX12_route_100 : decode cX12_route 100 = .ok (.getfield 33, 3) := by decide +kernel
theorem dX12_route_103 : decode cX12_route 103 = .ok (.sipush 206, 3) := by decide +kernel
theorem dX12_route_106 : decode cX12_route 106 = .ok (.iload_n 1, 1) := by decide +kernel
theorem dX12_route_107 : decode cX12_route 107 = .ok (.iadd, 1) := by decide +kernel
theorem dX12_route_108 : decode cX12_route 108 = .ok (.iaload, 1) := by decide +kernel
theorem dX12_route_109 : decode cX12_route 109 = .ok (.ireturn, 1) := by decide +kernel
theorem dX12_route_110 : decode cX12_route 110 = .ok (.aload_n 0, 1) := by decide +kernel
theorem dX12_route_111 : decode cX12_route 111 = .ok (.iload_n 1, 1) := by decide +kernel
theorem dX12_route_112 : decode cX12_route 112 = .ok (.invokevirtual 332, 3) := by decide +kernel
theorem dX12_route_115 : decode cX12_route 115 = .ok (.ireturn, 1) := by decide +kernel
theorem dX12_route_116 : decode cX12_route 116 = .ok (.aload_n 0, 1) := by decide +kernel
theorem dX12_route_117 : decode cX12_route 117 = .ok (.getfield 33, 3) := by decide +kernel
theorem dX12_route_120 : decode cX12_route 120 = .ok (.sipush 186, 3) := by decide +kernel
theorem dX12_route_123 : decode cX12_route 123 = .ok (.iload_n 1, 1) := by decide +kernel
theorem dX12_route_124 : decode cX12_route 124 = .ok (.iadd, 1) := by decide +kernel
theorem dX12_route_125 : decode cX12_route 125 = .ok (.iaload, 1) := by decide +kernel
theorem dX12_route_126 : decode cX12_route 126 = .ok (.ireturn, 1) := by decide +kernel
theorem dX12_route_127 : decode cX12_route 127 = .ok (.aload_n 0, 1) := by decide +kernel
theorem dX12_route_128 : decode cX12_route 128 = .ok (.getfield 33, 3) := by decide +kernel
theorem dX12_route_131 : decode cX12_route 131 = .ok (.sipush 196, 3) := by decide +kernel
theorem dX12_route_134 : decode cX12_route 134 = .ok (.iload_n 1, 1) := by decide +kernel
theorem dX12_route_135 : decode cX12_route 135 = .ok (.iadd, 1) := by decide +kernel
theorem dX12_route_136 : decode cX12_route 136 = .ok (.iaload, 1) := by decide +kernel
theorem dX12_route_137 : decode cX12_route 137 = .ok (.ireturn, 1) := by decide +kernel
theorem dX12_route_138 : decode cX12_route 138 = .ok (.aload_n 0, 1) := by decide +kernel
theorem dX12_route_139 : decode cX12_route 139 = .ok (.getfield 33, 3) := by decide +kernel
theorem dX12_route_142 : decode cX12_route 142 = .ok (.sipush 239, 3) := by decide +kernel
theorem dX12_route_145 : decode cX12_route 145 = .ok (.iload_n 1, 1) := by decide +kernel
theorem dX12_route_146 : decode cX12_route 146 = .ok (.iadd, 1) := by decide +kernel
theorem dX12_route_147 : decode cX12_route 147 = .ok (.iaload, 1) := by decide +kernel
theorem dX12_route_148 : decode cX12_route 148 = .ok (.ireturn, 1) := by decide +kernel
theorem dX12_route_149 : decode cX12_route 149 = .ok (.aload_n 0, 1) := by decide +kernel
theorem dX12_route_150 : decode cX12_route 150 = .ok (.getfield 33, 3) := by decide +kernel
theorem dX12_route_153 : decode cX12_route 153 = .ok (.sipush 249, 3) := by decide +kernel
theorem dX12_route_156 : decode cX12_route 156 = .ok (.iload_n 1, 1) := by decide +kernel
theorem dX12_route_157 : decode cX12_route 157 = .ok (.iadd, 1) := by decide +kernel
theorem dX12_route_158 : decode cX12_route 158 = .ok (.iaload, 1) := by decide +kernel
theorem dX12_route_159 : decode cX12_route 159 = .ok (.iconst 1, 1) := by decide +kernel
theorem dX12_route_160 : decode cX12_route 160 = .ok (.isub, 1) := by decide +kernel
theorem dX12_route_161 : decode cX12_route 161 = .ok (.ireturn, 1) := by decide +kernel
theorem dX12_route_162 : decode cX12_route 162 = .ok (.iconst (-1), 1) := by decide +kernel
theorem dX12_route_163 : decode cX12_route 163 = .ok (.ireturn, 1) := by decide +kernel
theorem dX12_over_0 : decode cX12_over 0 = .ok (.aload_n 0, 1) := by decide +kernel
theorem dX12_over_1 : decode cX12_over 1 = .ok (.iconst 0, 1) := by decide +kernel
theorem dX12_over_2 : decode cX12_over 2 = .ok (.putfield 1, 3) := by decide +kernel
theorem dX12_over_5 : decode cX12_over 5 = .ok (.aload_n 0, 1) := by decide +kernel
theorem dX12_over_6 : decode cX12_over 6 = .ok (.iload_n 1, 1) := by decide +kernel
theorem dX12_over_7 : decode cX12_over 7 = .ok (.invokevirtual 329, 3) := by decide +kernel
theorem dX12_over_10 : decode cX12_over 10 = .ok (.ifCond .eq 39, 3) := by decide +kernel
theorem dX12_over_13 : decode cX12_over 13 = .ok (.iload_n 2, 1) := by decide +kernel
theorem dX12_over_14 : decode cX12_over 14 = .ok (.iconst 0, 1) := by decide +kernel
theorem dX12_over_15 : decode cX12_over 15 = .ok (.aload_n 0, 1) := by decide +kernel
theorem dX12_over_16 : decode cX12_over 16 = .ok (.getfield 33, 3) := by decide +kernel
theorem dX12_over_19 : decode cX12_over 19 = .ok (.bipush 116, 2) := by decide +kernel
theorem dX12_over_21 : decode cX12_over 21 = .ok (.iload_n 1, 1) := by decide +kernel
theorem dX12_over_22 : decode cX12_over 22 = .ok (.iadd, 1) := by decide +kernel
theorem dX12_over_23 : decode cX12_over 23 = .ok (.iaload, 1) := by decide +kernel
theorem dX12_over_24 : decode cX12_over 24 = .ok (.iconst 1, 1) := by decide +kernel
theorem dX12_over_25 : decode cX12_over 25 = .ok (.isub, 1) := by decide +kernel
theorem dX12_over_26 : decode cX12_over 26 = .ok (.invokestatic 211, 3) := by decide +kernel
theorem dX12_over_29 : decode cX12_over 29 = .ok (.ifCond .eq 20, 3) := by decide +kernel
theorem dX12_over_32 : decode cX12_over 32 = .ok (.aload_n 0, 1) := by decide +kernel
theorem dX12_over_33 : decode cX12_over 33 = .ok (.getfield 33, 3) := by decide +kernel
theorem dX12_over_36 : decode cX12_over 36 = .ok (.bipush 126, 2) := by decide +kernel
theorem dX12_over_38 : decode cX12_over 38 = .ok (.bipush 6, 2) := by decide +kernel
theorem dX12_over_40 : decode cX12_over 40 = .ok (.iload_n 1, 1) := by decide +kernel
theorem dX12_over_41 : decode cX12_over 41 = .ok (.imul, 1) := by decide +kernel
theorem dX12_over_42 : decode cX12_over 42 = .ok (.iadd, 1) := by decide +kernel
theorem dX12_over_43 : decode cX12_over 43 = .ok (.iload_n 2, 1) := by decide +kernel
theorem dX12_over_44 : decode cX12_over 44 = .ok (.iadd, 1) := by decide +kernel
theorem dX12_over_45 : decode cX12_over 45 = .ok (.iaload, 1) := by decide +kernel
theorem dX12_over_46 : decode cX12_over 46 = .ok (.goto 4, 3) := by decide +kernel
theorem dX12_over_49 : decode cX12_over 49 = .ok (.iconst (-1), 1) := by decide +kernel
theorem dX12_over_50 : decode cX12_over 50 = .ok (.ireturn, 1) := by decide +kernel
theorem dX12_usedBy_0 : decode cX12_usedBy 0 = .ok (.iconst 0, 1) := by decide +kernel
theorem dX12_usedBy_1 : decode cX12_usedBy 1 = .ok (.istore_n 2, 1) := by decide +kernel
theorem dX12_usedBy_2 : decode cX12_usedBy 2 = .ok (.iconst 0, 1) := by decide +kernel
theorem dX12_usedBy_3 : decode cX12_usedBy 3 = .ok (.istore_n 3, 1) := by decide +kernel
theorem dX12_usedBy_4 : decode cX12_usedBy 4 = .ok (.iload_n 3, 1) := by decide +kernel
theorem dX12_usedBy_5 : decode cX12_usedBy 5 = .ok (.aload_n 0, 1) := by decide +kernel
theorem dX12_usedBy_6 : decode cX12_usedBy 6 = .ok (.getfield 33, 3) := by decide +kernel
theorem dX12_usedBy_9 : decode cX12_usedBy 9 = .ok (.iconst 4, 1) := by decide +kernel
theorem dX12_usedBy_10 : decode cX12_usedBy 10 = .ok (.iaload, 1) := by decide +kernel
theorem dX12_usedBy_11 : decode cX12_usedBy 11 = .ok (.if_icmp .ge 35, 3) := by decide +kernel
theorem dX12_usedBy_14 : decode cX12_usedBy 14 = .ok (.iload_n 2, 1) := by decide +kernel
theorem dX12_usedBy_15 : decode cX12_usedBy 15 = .ok (.aload_n 0, 1) := by decide +kernel
theorem dX12_usedBy_16 : decode cX12_usedBy 16 = .ok (.getfield 33, 3) := by decide +kernel
theorem dX12_usedBy_19 : decode cX12_usedBy 19 = .ok (.sipush 249, 3) := by decide +kernel
theorem dX12_usedBy_22 : decode cX12_usedBy 22 = .ok (.iload_n 3, 1) := by decide +kernel
theorem dX12_usedBy_23 : decode cX12_usedBy 23 = .ok (.iadd, 1) := by decide +kernel
theorem dX12_usedBy_24 : decode cX12_usedBy 24 = .ok (.iaload, 1) := by decide +kernel
theorem dX12_usedBy_25 : decode cX12_usedBy 25 = .ok (.iload_n 1, 1) := by decide +kernel
theorem dX12_usedBy_26 : decode cX12_usedBy 26 = .ok (.iconst 1, 1) := by decide +kernel
theorem dX12_usedBy_27 : decode cX12_usedBy 27 = .ok (.iadd, 1) := by decide +kernel
theorem dX12_usedBy_28 : decode cX12_usedBy 28 = .ok (.if_icmp .ne 9, 3) := by decide +kernel
theorem dX12_usedBy_31 : decode cX12_usedBy 31 = .ok (.iconst 1, 1) := by decide +kernel
theorem dX12_usedBy_32 : decode cX12_usedBy 32 = .ok (.iload_n 3, 1) := by decide +kernel
theorem dX12_usedBy_33 : decode cX12_usedBy 33 = .ok (.ishl, 1) := by decide +kernel
theorem dX12_usedBy_34 : decode cX12_usedBy 34 = .ok (.goto 4, 3) := by decide +kernel
theorem dX12_usedBy_37 : decode cX12_usedBy 37 = .ok (.iconst 0, 1) := by decide +kernel
theorem dX12_usedBy_38 : decode cX12_usedBy 38 = .ok (.ior, 1) := by decide +kernel
theorem dX12_usedBy_39 : decode cX12_usedBy 39 = .ok (.istore_n 2, 1) := by decide +kernel
theorem dX12_usedBy_40 : decode cX12_usedBy 40 = .ok (.iinc 3 1, 3) := by decide +kernel
theorem dX12_usedBy_43 : decode cX12_usedBy 43 = .ok (.goto (-39), 3) := by decide +kernel
theorem dX12_usedBy_46 : decode cX12_usedBy 46 = .ok (.iload_n 2, 1) := by decide +kernel
theorem dX12_usedBy_47 : decode cX12_usedBy 47 = .ok (.ireturn, 1) := by decide +kernel
theorem dX12_train_0 : decode cX12_train 0 = .ok (.aload_n 0, 1) := by decide +kernel
theorem dX12_train_1 : decode cX12_train 1 = .ok (.aload_n 0, 1) := by decide +kernel
theorem dX12_train_2 : decode cX12_train 2 = .ok (.iload_n 1, 1) := by decide +kernel
theorem dX12_train_3 : decode cX12_train 3 = .ok (.invokevirtual 335, 3) := by decide +kernel
theorem dX12_train_6 : decode cX12_train 6 = .ok (.ifCond .eq 13, 3) := by decide +kernel
theorem dX12_train_9 : decode cX12_train 9 = .ok (.iload_n 2, 1) := by decide +kernel
theorem dX12_train_10 : decode cX12_train 10 = .ok (.iconst 0, 1) := by decide +kernel
theorem dX12_train_11 : decode cX12_train 11 = .ok (.bipush 6, 2) := by decide +kernel
theorem dX12_train_13 : decode cX12_train 13 = .ok (.invokestatic 211, 3) := by decide +kernel
theorem dX12_train_16 : decode cX12_train 16 = .ok (.ifCond .ne 7, 3) := by decide +kernel
theorem dX12_train_19 : decode cX12_train 19 = .ok (.iconst 1, 1) := by decide +kernel
theorem dX12_train_20 : decode cX12_train 20 = .ok (.goto 4, 3) := by decide +kernel
theorem dX12_train_23 : decode cX12_train 23 = .ok (.iconst 0, 1) := by decide +kernel
theorem dX12_train_24 : decode cX12_train 24 = .ok (.invokevirtual 338, 3) := by decide +kernel
theorem dX12_train_27 : decode cX12_train 27 = .ok (.ifCond .eq 5, 3) := by decide +kernel
theorem dX12_train_30 : decode cX12_train 30 = .ok (.iconst 0, 1) := by decide +kernel
theorem dX12_train_31 : decode cX12_train 31 = .ok (.ireturn, 1) := by decide +kernel
theorem dX12_train_32 : decode cX12_train 32 = .ok (.iload_n 2, 1) := by decide +kernel
theorem dX12_train_33 : decode cX12_train 33 = .ok (.tableswitch 111 0 5 #[39, 52, 63, 74, 87, 100], 39) := by decide +kernel
theorem dX12_train_72 : decode cX12_train 72 = .ok (.aload_n 0, 1) := by decide +kernel
theorem dX12_train_73 : decode cX12_train 73 = .ok (.getfield 33, 3) := by decide +kernel
theorem dX12_train_76 : decode cX12_train 76 = .ok (.sipush 271, 3) := by decide +kernel
theorem dX12_train_79 : decode cX12_train 79 = .ok (.iload_n 1, 1) := by decide +kernel
theorem dX12_train_80 : decode cX12_train 80 = .ok (.iadd, 1) := by decide +kernel
theorem dX12_train_81 : decode cX12_train 81 = .ok (.iaload, 1) := by decide +kernel
theorem dX12_train_82 : decode cX12_train 82 = .ok (.iconst 1, 1) := by decide +kernel
theorem dX12_train_83 : decode cX12_train 83 = .ok (.isub, 1) := by decide +kernel
theorem dX12_train_84 : decode cX12_train 84 = .ok (.ireturn, 1) := by decide +kernel
theorem dX12_train_85 : decode cX12_train 85 = .ok (.aload_n 0, 1) := by decide +kernel
theorem dX12_train_86 : decode cX12_train 86 = .ok (.getfield 33, 3) := by decide +kernel
theorem dX12_train_89 : decode cX12_train 89 = .ok (.sipush 221, 3) := by decide +kernel
theorem dX12_train_92 : decode cX12_train 92 = .ok (.iload_n 1, 1) := by decide +kernel
theorem dX12_train_93 : decode cX12_train 93 = .ok (.iadd, 1) := by decide +kernel
theorem dX12_train_94 : decode cX12_train 94 = .ok (.iaload, 1) := by decide +kernel
theorem dX12_train_95 : decode cX12_train 95 = .ok (.ireturn, 1) := by decide +kernel
theorem dX12_train_96 : decode cX12_train 96 = .ok (.aload_n 0, 1) := by decide +kernel
theorem dX12_train_97 : decode cX12_train 97 = .ok (.getfield 33, 3) := by decide +kernel
theorem dX12_train_100 : decode cX12_train 100 = .ok (.sipush 276, 3) := by decide +kernel
theorem dX12_train_103 : decode cX12_train 103 = .ok (.iload_n 1, 1) := by decide +kernel
theorem dX12_train_104 : decode cX12_train 104 = .ok (.iadd, 1) := by decide +kernel
theorem dX12_train_105 : decode cX12_train 105 = .ok (.iaload, 1) := by decide +kernel
theorem dX12_train_106 : decode cX12_train 106 = .ok (.ireturn, 1) := by decide +kernel
theorem dX12_train_107 : decode cX12_train 107 = .ok (.aload_n 0, 1) := by decide +kernel
theorem dX12_train_108 : decode cX12_train 108 = .ok (.getfield 33, 3) := by decide +kernel
theorem dX12_train_111 : decode cX12_train 111 = .ok (.sipush 281, 3) := by decide +kernel
theorem dX12_train_114 : decode cX12_train 114 = .ok (.iaload, 1) := by decide +kernel
theorem dX12_train_115 : decode cX12_train 115 = .ok (.iload_n 1, 1) := by decide +kernel
theorem dX12_train_116 : decode cX12_train 116 = .ok (.ishr, 1) := by decide +kernel
theorem dX12_train_117 : decode cX12_train 117 = .ok (.iconst 1, 1) := by decide +kernel
theorem dX12_train_118 : decode cX12_train 118 = .ok (.iand, 1) := by decide +kernel
theorem dX12_train_119 : decode cX12_train 119 = .ok (.ireturn, 1) := by decide +kernel
theorem dX12_train_120 : decode cX12_train 120 = .ok (.aload_n 0, 1) := by decide +kernel
theorem dX12_train_121 : decode cX12_train 121 = .ok (.getfield 33, 3) := by decide +kernel
theorem dX12_train_124 : decode cX12_train 124 = .ok (.sipush 282, 3) := by decide +kernel
theorem dX12_train_127 : decode cX12_train 127 = .ok (.iaload, 1) := by decide +kernel
theorem dX12_train_128 : decode cX12_train 128 = .ok (.iload_n 1, 1) := by decide +kernel
theorem dX12_train_129 : decode cX12_train 129 = .ok (.ishr, 1) := by decide +kernel
theorem dX12_train_130 : decode cX12_train 130 = .ok (.iconst 1, 1) := by decide +kernel
theorem dX12_train_131 : decode cX12_train 131 = .ok (.iand, 1) := by decide +kernel
theorem dX12_train_132 : decode cX12_train 132 = .ok (.ireturn, 1) := by decide +kernel
theorem dX12_train_133 : decode cX12_train 133 = .ok (.aload_n 0, 1) := by decide +kernel
theorem dX12_train_134 : decode cX12_train 134 = .ok (.getfield 33, 3) := by decide +kernel
theorem dX12_train_137 : decode cX12_train 137 = .ok (.sipush 283, 3) := by decide +kernel
theorem dX12_train_140 : decode cX12_train 140 = .ok (.iload_n 1, 1) := by decide +kernel
theorem dX12_train_141 : decode cX12_train 141 = .ok (.iadd, 1) := by decide +kernel
theorem dX12_train_142 : decode cX12_train 142 = .ok (.iaload, 1) := by decide +kernel
theorem dX12_train_143 : decode cX12_train 143 = .ok (.ireturn, 1) := by decide +kernel
theorem dX12_train_144 : decode cX12_train 144 = .ok (.aload_n 0, 1) := by decide +kernel
theorem dX12_train_145 : decode cX12_train 145 = .ok (.iload_n 1, 1) := by decide +kernel
theorem dX12_train_146 : decode cX12_train 146 = .ok (.invokevirtual 342, 3) := by decide +kernel
theorem dX12_train_149 : decode cX12_train 149 = .ok (.ireturn, 1) := by decide +kernel
theorem dX12_now_0 : decode cX12_now 0 = .ok (.aload_n 0, 1) := by decide +kernel
theorem dX12_now_1 : decode cX12_now 1 = .ok (.iconst 0, 1) := by decide +kernel
theorem dX12_now_2 : decode cX12_now 2 = .ok (.putfield 1, 3) := by decide +kernel
theorem dX12_now_5 : decode cX12_now 5 = .ok (.iconst 0, 1) := by decide +kernel
theorem dX12_now_6 : decode cX12_now 6 = .ok (.istore_n 2, 1) := by decide +kernel
theorem dX12_now_7 : decode cX12_now 7 = .ok (.iconst 0, 1) := by decide +kernel
theorem dX12_now_8 : decode cX12_now 8 = .ok (.istore_n 3, 1) := by decide +kernel
theorem dX12_now_9 : decode cX12_now 9 = .ok (.iconst 0, 1) := by decide +kernel
theorem dX12_now_10 : decode cX12_now 10 = .ok (.istore 4, 2) := by decide +kernel
theorem dX12_now_12 : decode cX12_now 12 = .ok (.iload 4, 2) := by decide +kernel
theorem dX12_now_14 : decode cX12_now 14 = .ok (.aload_n 0, 1) := by decide +kernel
theorem dX12_now_15 : decode cX12_now 15 = .ok (.getfield 33, 3) := by decide +kernel
theorem dX12_now_18 : decode cX12_now 18 = .ok (.iconst 0, 1) := by decide +kernel
theorem dX12_now_19 : decode cX12_now 19 = .ok (.iaload, 1) := by decide +kernel
theorem dX12_now_20 : decode cX12_now 20 = .ok (.if_icmp .ge 29, 3) := by decide +kernel
theorem dX12_now_23 : decode cX12_now 23 = .ok (.iload_n 2, 1) := by decide +kernel
theorem dX12_now_24 : decode cX12_now 24 = .ok (.aload_n 0, 1) := by decide +kernel
theorem dX12_now_25 : decode cX12_now 25 = .ok (.iload 4, 2) := by decide +kernel
theorem dX12_now_27 : decode cX12_now 27 = .ok (.invokevirtual 314, 3) := by decide +kernel
theorem dX12_now_30 : decode cX12_now 30 = .ok (.ifCond .eq 10, 3) := by decide +kernel
theorem dX12_now_33 : decode cX12_now 33 = .ok (.iconst 1, 1) := by decide +kernel
theorem dX12_now_34 : decode cX12_now 34 = .ok (.iload 4, 2) := by decide +kernel
theorem dX12_now_36 : decode cX12_now 36 = .ok (.ishl, 1) := by decide +kernel
theorem dX12_now_37 : decode cX12_now 37 = .ok (.goto 4, 3) := by decide +kernel
theorem dX12_now_40 : decode cX12_now 40 = .ok (.iconst 0, 1) := by decide +kernel
theorem dX12_now_41 : decode cX12_now 41 = .ok (.ior, 1) := by decide +kernel
theorem dX12_now_42 : decode cX12_now 42 = .ok (.istore_n 2, 1) := by decide +kernel
theorem dX12_now_43 : decode cX12_now 43 = .ok (.iinc 4 1, 3) := by decide +kernel
theorem dX12_now_46 : decode cX12_now 46 = .ok (.goto (-34), 3) := by decide +kernel
theorem dX12_now_49 : decode cX12_now 49 = .ok (.iconst 0, 1) := by decide +kernel
theorem dX12_now_50 : decode cX12_now 50 = .ok (.istore 4, 2) := by decide +kernel
theorem dX12_now_52 : decode cX12_now 52 = .ok (.iload 4, 2) := by decide +kernel
theorem dX12_now_54 : decode cX12_now 54 = .ok (.aload_n 0, 1) := by decide +kernel
theorem dX12_now_55 : decode cX12_now 55 = .ok (.getfield 33, 3) := by decide +kernel
theorem dX12_now_58 : decode cX12_now 58 = .ok (.bipush 6, 2) := by decide +kernel
theorem dX12_now_60 : decode cX12_now 60 = .ok (.iaload, 1) := by decide +kernel
theorem dX12_now_61 : decode cX12_now 61 = .ok (.if_icmp .ge 34, 3) := by decide +kernel
theorem dX12_now_64 : decode cX12_now 64 = .ok (.iload_n 3, 1) := by decide +kernel
theorem dX12_now_65 : decode cX12_now 65 = .ok (.aload_n 0, 1) := by decide +kernel
theorem dX12_now_66 : decode cX12_now 66 = .ok (.getfield 33, 3) := by decide +kernel
theorem dX12_now_69 : decode cX12_now 69 = .ok (.sipush 271, 3) := by decide +kernel
theorem dX12_now_72 : decode cX12_now 72 = .ok (.iload 4, 2) := by decide +kernel
theorem dX12_now_74 : decode cX12_now 74 = .ok (.iadd, 1) := by decide +kernel
theorem dX12_now_75 : decode cX12_now 75 = .ok (.iaload, 1) := by decide +kernel
theorem dX12_now_76 : decode cX12_now 76 = .ok (.ifCond .ne 10, 3) := by decide +kernel
theorem dX12_now_79 : decode cX12_now 79 = .ok (.iconst 1, 1) := by decide +kernel
theorem dX12_now_80 : decode cX12_now 80 = .ok (.iload 4, 2) := by decide +kernel
theorem dX12_now_82 : decode cX12_now 82 = .ok (.ishl, 1) := by decide +kernel
theorem dX12_now_83 : decode cX12_now 83 = .ok (.goto 4, 3) := by decide +kernel
theorem dX12_now_86 : decode cX12_now 86 = .ok (.iconst 0, 1) := by decide +kernel
theorem dX12_now_87 : decode cX12_now 87 = .ok (.ior, 1) := by decide +kernel
theorem dX12_now_88 : decode cX12_now 88 = .ok (.istore_n 3, 1) := by decide +kernel
theorem dX12_now_89 : decode cX12_now 89 = .ok (.iinc 4 1, 3) := by decide +kernel
theorem dX12_now_92 : decode cX12_now 92 = .ok (.goto (-40), 3) := by decide +kernel
theorem dX12_now_95 : decode cX12_now 95 = .ok (.iload_n 1, 1) := by decide +kernel
theorem dX12_now_96 : decode cX12_now 96 = .ok (.tableswitch 89 0 6 #[44, 53, 55, 60, 69, 71, 80], 44) := by decide +kernel
theorem dX12_now_140 : decode cX12_now 140 = .ok (.aload_n 0, 1) := by decide +kernel
theorem dX12_now_141 : decode cX12_now 141 = .ok (.getfield 33, 3) := by decide +kernel
theorem dX12_now_144 : decode cX12_now 144 = .ok (.sipush 226, 3) := by decide +kernel
theorem dX12_now_147 : decode cX12_now 147 = .ok (.iaload, 1) := by decide +kernel
theorem dX12_now_148 : decode cX12_now 148 = .ok (.ireturn, 1) := by decide +kernel
theorem dX12_now_149 : decode cX12_now 149 = .ok (.iload_n 2, 1) := by decide +kernel
theorem dX12_now_150 : decode cX12_now 150 = .ok (.ireturn, 1) := by decide +kernel
theorem dX12_now_151 : decode cX12_now 151 = .ok (.aload_n 0, 1) := by decide +kernel
theorem dX12_now_152 : decode cX12_now 152 = .ok (.invokevirtual 345, 3) := by decide +kernel
theorem dX12_now_155 : decode cX12_now 155 = .ok (.ireturn, 1) := by decide +kernel
theorem dX12_now_156 : decode cX12_now 156 = .ok (.aload_n 0, 1) := by decide +kernel
theorem dX12_now_157 : decode cX12_now 157 = .ok (.getfield 33, 3) := by decide +kernel
theorem dX12_now_160 : decode cX12_now 160 = .ok (.sipush 228, 3) := by decide +kernel
theorem dX12_now_163 : decode cX12_now 163 = .ok (.iaload, 1) := by decide +kernel
theorem dX12_now_164 : decode cX12_now 164 = .ok (.ireturn, 1) := by decide +kernel
theorem dX12_now_165 : decode cX12_now 165 = .ok (.iload_n 3, 1) := by decide +kernel
theorem dX12_now_166 : decode cX12_now 166 = .ok (.ireturn, 1) := by decide +kernel
theorem dX12_now_167 : decode cX12_now 167 = .ok (.aload_n 0, 1) := by decide +kernel
theorem dX12_now_168 : decode cX12_now 168 = .ok (.getfield 33, 3) := by decide +kernel
theorem dX12_now_171 : decode cX12_now 171 = .ok (.sipush 281, 3) := by decide +kernel
theorem dX12_now_174 : decode cX12_now 174 = .ok (.iaload, 1) := by decide +kernel
theorem dX12_now_175 : decode cX12_now 175 = .ok (.ireturn, 1) := by decide +kernel
theorem dX12_now_176 : decode cX12_now 176 = .ok (.aload_n 0, 1) := by decide +kernel
theorem dX12_now_177 : decode cX12_now 177 = .ok (.getfield 33, 3) := by decide +kernel
theorem dX12_now_180 : decode cX12_now 180 = .ok (.sipush 227, 3) := by decide +kernel
theorem dX12_now_183 : decode cX12_now 183 = .ok (.iaload, 1) := by decide +kernel
theorem dX12_now_184 : decode cX12_now 184 = .ok (.ireturn, 1) := by decide +kernel
theorem dX12_now_185 : decode cX12_now 185 = .ok (.iconst (-1), 1) := by decide +kernel
theorem dX12_now_186 : decode cX12_now 186 = .ok (.ireturn, 1) := by decide +kernel
theorem dX12_wrongPoints_0 : decode cX12_wrongPoints 0 = .ok (.aload_n 0, 1) := by decide +kernel
theorem dX12_wrongPoints_1 : decode cX12_wrongPoints 1 = .ok (.getfield 33, 3) := by decide +kernel
theorem dX12_wrongPoints_4 : decode cX12_wrongPoints 4 = .ok (.sipush 186, 3) := by decide +kernel
theorem dX12_wrongPoints_7 : decode cX12_wrongPoints 7 = .ok (.iload_n 1, 1) := by decide +kernel
theorem dX12_wrongPoints_8 : decode cX12_wrongPoints 8 = .ok (.iadd, 1) := by decide +kernel
theorem dX12_wrongPoints_9 : decode cX12_wrongPoints 9 = .ok (.iaload, 1) := by decide +kernel
theorem dX12_wrongPoints_10 : decode cX12_wrongPoints 10 = .ok (.aload_n 0, 1) := by decide +kernel
theorem dX12_wrongPoints_11 : decode cX12_wrongPoints 11 = .ok (.getfield 33, 3) := by decide +kernel
theorem dX12_wrongPoints_14 : decode cX12_wrongPoints 14 = .ok (.sipush 228, 3) := by decide +kernel
theorem dX12_wrongPoints_17 : decode cX12_wrongPoints 17 = .ok (.iaload, 1) := by decide +kernel
theorem dX12_wrongPoints_18 : decode cX12_wrongPoints 18 = .ok (.iand, 1) := by decide +kernel
theorem dX12_wrongPoints_19 : decode cX12_wrongPoints 19 = .ok (.aload_n 0, 1) := by decide +kernel
theorem dX12_wrongPoints_20 : decode cX12_wrongPoints 20 = .ok (.getfield 33, 3) := by decide +kernel
theorem dX12_wrongPoints_23 : decode cX12_wrongPoints 23 = .ok (.sipush 196, 3) := by decide +kernel
theorem dX12_wrongPoints_26 : decode cX12_wrongPoints 26 = .ok (.iload_n 1, 1) := by decide +kernel
theorem dX12_wrongPoints_27 : decode cX12_wrongPoints 27 = .ok (.iadd, 1) := by decide +kernel
theorem dX12_wrongPoints_28 : decode cX12_wrongPoints 28 = .ok (.iaload, 1) := by decide +kernel
theorem dX12_wrongPoints_29 : decode cX12_wrongPoints 29 = .ok (.aload_n 0, 1) := by decide +kernel
theorem dX12_wrongPoints_30 : decode cX12_wrongPoints 30 = .ok (.getfield 33, 3) := by decide +kernel
theorem dX12_wrongPoints_33 : decode cX12_wrongPoints 33 = .ok (.sipush 228, 3) := by decide +kernel
theorem dX12_wrongPoints_36 : decode cX12_wrongPoints 36 = .ok (.iaload, 1) := by decide +kernel
theorem dX12_wrongPoints_37 : decode cX12_wrongPoints 37 = .ok (.iconst (-1), 1) := by decide +kernel
theorem dX12_wrongPoints_38 : decode cX12_wrongPoints 38 = .ok (.ixor, 1) := by decide +kernel
theorem dX12_wrongPoints_39 : decode cX12_wrongPoints 39 = .ok (.iand, 1) := by decide +kernel
theorem dX12_wrongPoints_40 : decode cX12_wrongPoints 40 = .ok (.ior, 1) := by decide +kernel
theorem dX12_wrongPoints_41 : decode cX12_wrongPoints 41 = .ok (.ireturn, 1) := by decide +kernel
theorem dX12_hasFull_0 : decode cX12_hasFull 0 = .ok (.iconst 0, 1) := by decide +kernel
theorem dX12_hasFull_1 : decode cX12_hasFull 1 = .ok (.istore_n 2, 1) := by decide +kernel
theorem dX12_hasFull_2 : decode cX12_hasFull 2 = .ok (.iconst 0, 1) := by decide +kernel
theorem dX12_hasFull_3 : decode cX12_hasFull 3 = .ok (.istore_n 3, 1) := by decide +kernel
theorem dX12_hasFull_4 : decode cX12_hasFull 4 = .ok (.iload_n 3, 1) := by decide +kernel
theorem dX12_hasFull_5 : decode cX12_hasFull 5 = .ok (.aload_n 0, 1) := by decide +kernel
theorem dX12_hasFull_6 : decode cX12_hasFull 6 = .ok (.getfield 33, 3) := by decide +kernel
theorem dX12_hasFull_9 : decode cX12_hasFull 9 = .ok (.bipush 116, 2) := by decide +kernel
theorem dX12_hasFull_11 : decode cX12_hasFull 11 = .ok (.iload_n 1, 1) := by decide +kernel
theorem dX12_hasFull_12 : decode cX12_hasFull 12 = .ok (.iadd, 1) := by decide +kernel
theorem dX12_hasFull_13 : decode cX12_hasFull 13 = .ok (.iaload, 1) := by decide +kernel
theorem dX12_hasFull_14 : decode cX12_hasFull 14 = .ok (.if_icmp .ge 40, 3) := by decide +kernel
theorem dX12_hasFull_17 : decode cX12_hasFull 17 = .ok (.iload_n 2, 1) := by decide +kernel
theorem dX12_hasFull_18 : decode cX12_hasFull 18 = .ok (.ifCond .ne 24, 3) := by decide +kernel
theorem dX12_hasFull_21 : decode cX12_hasFull 21 = .ok (.aload_n 0, 1) := by decide +kernel
theorem dX12_hasFull_22 : decode cX12_hasFull 22 = .ok (.aload_n 0, 1) := by decide +kernel
theorem dX12_hasFull_23 : decode cX12_hasFull 23 = .ok (.getfield 33, 3) := by decide +kernel
theorem dX12_hasFull_26 : decode cX12_hasFull 26 = .ok (.bipush 126, 2) := by decide +kernel
theorem dX12_hasFull_28 : decode cX12_hasFull 28 = .ok (.bipush 6, 2) := by decide +kernel
theorem dX12_hasFull_30 : decode cX12_hasFull 30 = .ok (.iload_n 1, 1) := by decide +kernel
theorem dX12_hasFull_31 : decode cX12_hasFull 31 = .ok (.imul, 1) := by decide +kernel
theorem dX12_hasFull_32 : decode cX12_hasFull 32 = .ok (.iadd, 1) := by decide +kernel
theorem dX12_hasFull_33 : decode cX12_hasFull 33 = .ok (.iload_n 3, 1) := by decide +kernel
theorem dX12_hasFull_34 : decode cX12_hasFull 34 = .ok (.iadd, 1) := by decide +kernel
theorem dX12_hasFull_35 : decode cX12_hasFull 35 = .ok (.iaload, 1) := by decide +kernel
theorem dX12_hasFull_36 : decode cX12_hasFull 36 = .ok (.invokevirtual 314, 3) := by decide +kernel
theorem dX12_hasFull_39 : decode cX12_hasFull 39 = .ok (.ifCond .eq 7, 3) := by decide +kernel
theorem dX12_hasFull_42 : decode cX12_hasFull 42 = .ok (.iconst 1, 1) := by decide +kernel
theorem dX12_hasFull_43 : decode cX12_hasFull 43 = .ok (.goto 4, 3) := by decide +kernel
theorem dX12_hasFull_46 : decode cX12_hasFull 46 = .ok (.iconst 0, 1) := by decide +kernel
theorem dX12_hasFull_47 : decode cX12_hasFull 47 = .ok (.istore_n 2, 1) := by decide +kernel
theorem dX12_hasFull_48 : decode cX12_hasFull 48 = .ok (.iinc 3 1, 3) := by decide +kernel
theorem dX12_hasFull_51 : decode cX12_hasFull 51 = .ok (.goto (-47), 3) := by decide +kernel
theorem dX12_hasFull_54 : decode cX12_hasFull 54 = .ok (.iload_n 2, 1) := by decide +kernel
theorem dX12_hasFull_55 : decode cX12_hasFull 55 = .ok (.ireturn, 1) := by decide +kernel
theorem dX12_rivals_0 : decode cX12_rivals 0 = .ok (.aload_n 0, 1) := by decide +kernel
theorem dX12_rivals_1 : decode cX12_rivals 1 = .ok (.getfield 33, 3) := by decide +kernel
theorem dX12_rivals_4 : decode cX12_rivals 4 = .ok (.sipush 206, 3) := by decide +kernel
theorem dX12_rivals_7 : decode cX12_rivals 7 = .ok (.iload_n 1, 1) := by decide +kernel
theorem dX12_rivals_8 : decode cX12_rivals 8 = .ok (.iadd, 1) := by decide +kernel
theorem dX12_rivals_9 : decode cX12_rivals 9 = .ok (.iaload, 1) := by decide +kernel
theorem dX12_rivals_10 : decode cX12_rivals 10 = .ok (.aload_n 0, 1) := by decide +kernel
theorem dX12_rivals_11 : decode cX12_rivals 11 = .ok (.aload_n 0, 1) := by decide +kernel
theorem dX12_rivals_12 : decode cX12_rivals 12 = .ok (.getfield 33, 3) := by decide +kernel
theorem dX12_rivals_15 : decode cX12_rivals 15 = .ok (.bipush 106, 2) := by decide +kernel
theorem dX12_rivals_17 : decode cX12_rivals 17 = .ok (.iload_n 1, 1) := by decide +kernel
theorem dX12_rivals_18 : decode cX12_rivals 18 = .ok (.iadd, 1) := by decide +kernel
theorem dX12_rivals_19 : decode cX12_rivals 19 = .ok (.iaload, 1) := by decide +kernel
theorem dX12_rivals_20 : decode cX12_rivals 20 = .ok (.invokevirtual 326, 3) := by decide +kernel
theorem dX12_rivals_23 : decode cX12_rivals 23 = .ok (.ior, 1) := by decide +kernel
theorem dX12_rivals_24 : decode cX12_rivals 24 = .ok (.iconst 1, 1) := by decide +kernel
theorem dX12_rivals_25 : decode cX12_rivals 25 = .ok (.iload_n 1, 1) := by decide +kernel
theorem dX12_rivals_26 : decode cX12_rivals 26 = .ok (.ishl, 1) := by decide +kernel
theorem dX12_rivals_27 : decode cX12_rivals 27 = .ok (.iconst (-1), 1) := by decide +kernel
theorem dX12_rivals_28 : decode cX12_rivals 28 = .ok (.ixor, 1) := by decide +kernel
theorem dX12_rivals_29 : decode cX12_rivals 29 = .ok (.iand, 1) := by decide +kernel
theorem dX12_rivals_30 : decode cX12_rivals 30 = .ok (.ireturn, 1) := by decide +kernel
theorem dX12_whySet_0 : decode cX12_whySet 0 = .ok (.aload_n 0, 1) := by decide +kernel
theorem dX12_whySet_1 : decode cX12_whySet 1 = .ok (.getfield 33, 3) := by decide +kernel
theorem dX12_whySet_4 : decode cX12_whySet 4 = .ok (.sipush 229, 3) := by decide +kernel
theorem dX12_whySet_7 : decode cX12_whySet 7 = .ok (.iload_n 1, 1) := by decide +kernel
theorem dX12_whySet_8 : decode cX12_whySet 8 = .ok (.iadd, 1) := by decide +kernel
theorem dX12_whySet_9 : decode cX12_whySet 9 = .ok (.iaload, 1) := by decide +kernel
theorem dX12_whySet_10 : decode cX12_whySet 10 = .ok (.ifCond .eq 5, 3) := by decide +kernel
theorem dX12_whySet_13 : decode cX12_whySet 13 = .ok (.iconst 1, 1) := by decide +kernel
theorem dX12_whySet_14 : decode cX12_whySet 14 = .ok (.ireturn, 1) := by decide +kernel
theorem dX12_whySet_15 : decode cX12_whySet 15 = .ok (.aload_n 0, 1) := by decide +kernel
theorem dX12_whySet_16 : decode cX12_whySet 16 = .ok (.iload_n 1, 1) := by decide +kernel
theorem dX12_whySet_17 : decode cX12_whySet 17 = .ok (.invokevirtual 348, 3) := by decide +kernel
theorem dX12_whySet_20 : decode cX12_whySet 20 = .ok (.aload_n 0, 1) := by decide +kernel
theorem dX12_whySet_21 : decode cX12_whySet 21 = .ok (.invokevirtual 345, 3) := by decide +kernel
theorem dX12_whySet_24 : decode cX12_whySet 24 = .ok (.iand, 1) := by decide +kernel
theorem dX12_whySet_25 : decode cX12_whySet 25 = .ok (.ifCond .eq 5, 3) := by decide +kernel
theorem dX12_whySet_28 : decode cX12_whySet 28 = .ok (.iconst 2, 1) := by decide +kernel
theorem dX12_whySet_29 : decode cX12_whySet 29 = .ok (.ireturn, 1) := by decide +kernel
theorem dX12_whySet_30 : decode cX12_whySet 30 = .ok (.aload_n 0, 1) := by decide +kernel
theorem dX12_whySet_31 : decode cX12_whySet 31 = .ok (.iload_n 1, 1) := by decide +kernel
theorem dX12_whySet_32 : decode cX12_whySet 32 = .ok (.invokevirtual 351, 3) := by decide +kernel
theorem dX12_whySet_35 : decode cX12_whySet 35 = .ok (.ifCond .eq 5, 3) := by decide +kernel
theorem dX12_whySet_38 : decode cX12_whySet 38 = .ok (.iconst 3, 1) := by decide +kernel
theorem dX12_whySet_39 : decode cX12_whySet 39 = .ok (.ireturn, 1) := by decide +kernel
theorem dX12_whySet_40 : decode cX12_whySet 40 = .ok (.aload_n 0, 1) := by decide +kernel
theorem dX12_whySet_41 : decode cX12_whySet 41 = .ok (.iload_n 1, 1) := by decide +kernel
theorem dX12_whySet_42 : decode cX12_whySet 42 = .ok (.invokevirtual 354, 3) := by decide +kernel
theorem dX12_whySet_45 : decode cX12_whySet 45 = .ok (.ifCond .eq 7, 3) := by decide +kernel
theorem dX12_whySet_48 : decode cX12_whySet 48 = .ok (.iconst 4, 1) := by decide +kernel
theorem dX12_whySet_49 : decode cX12_whySet 49 = .ok (.goto 20, 3) := by decide +kernel
theorem dX12_whySet_52 : decode cX12_whySet 52 = .ok (.aload_n 0, 1) := by decide +kernel
theorem dX12_whySet_53 : decode cX12_whySet 53 = .ok (.getfield 33, 3) := by decide +kernel
theorem dX12_whySet_56 : decode cX12_whySet 56 = .ok (.bipush 116, 2) := by decide +kernel
theorem dX12_whySet_58 : decode cX12_whySet 58 = .ok (.iload_n 1, 1) := by decide +kernel
theorem dX12_whySet_59 : decode cX12_whySet 59 = .ok (.iadd, 1) := by decide +kernel
theorem dX12_whySet_60 : decode cX12_whySet 60 = .ok (.iaload, 1) := by decide +kernel
theorem dX12_whySet_61 : decode cX12_whySet 61 = .ok (.ifCond .ne 7, 3) := by decide +kernel
theorem dX12_whySet_64 : decode cX12_whySet 64 = .ok (.iconst 5, 1) := by decide +kernel
theorem dX12_whySet_65 : decode cX12_whySet 65 = .ok (.goto 4, 3) := by decide +kernel
theorem dX12_whySet_68 : decode cX12_whySet 68 = .ok (.iconst 0, 1) := by decide +kernel
theorem dX12_whySet_69 : decode cX12_whySet 69 = .ok (.ireturn, 1) := by decide +kernel
theorem dX12_isMet_0 : decode cX12_isMet 0 = .ok (.iconst 0, 1) := by decide +kernel
theorem dX12_isMet_1 : decode cX12_isMet 1 = .ok (.istore_n 2, 1) := by decide +kernel
theorem dX12_isMet_2 : decode cX12_isMet 2 = .ok (.aload_n 0, 1) := by decide +kernel
theorem dX12_isMet_3 : decode cX12_isMet 3 = .ok (.getfield 33, 3) := by decide +kernel
theorem dX12_isMet_6 : decode cX12_isMet 6 = .ok (.bipush 106, 2) := by decide +kernel
theorem dX12_isMet_8 : decode cX12_isMet 8 = .ok (.iload_n 1, 1) := by decide +kernel
theorem dX12_isMet_9 : decode cX12_isMet 9 = .ok (.iadd, 1) := by decide +kernel
theorem dX12_isMet_10 : decode cX12_isMet 10 = .ok (.iaload, 1) := by decide +kernel
theorem dX12_isMet_11 : decode cX12_isMet 11 = .ok (.istore_n 3, 1) := by decide +kernel
theorem dX12_isMet_12 : decode cX12_isMet 12 = .ok (.iconst 0, 1) := by decide +kernel
theorem dX12_isMet_13 : decode cX12_isMet 13 = .ok (.istore 4, 2) := by decide +kernel
theorem dX12_isMet_15 : decode cX12_isMet 15 = .ok (.iload 4, 2) := by decide +kernel
theorem dX12_isMet_17 : decode cX12_isMet 17 = .ok (.aload_n 0, 1) := by decide +kernel
theorem dX12_isMet_18 : decode cX12_isMet 18 = .ok (.getfield 33, 3) := by decide +kernel
theorem dX12_isMet_21 : decode cX12_isMet 21 = .ok (.bipush 6, 2) := by decide +kernel
theorem dX12_isMet_23 : decode cX12_isMet 23 = .ok (.iaload, 1) := by decide +kernel
theorem dX12_isMet_24 : decode cX12_isMet 24 = .ok (.if_icmp .ge 83, 3) := by decide +kernel
theorem dX12_isMet_27 : decode cX12_isMet 27 = .ok (.iload_n 2, 1) := by decide +kernel
theorem dX12_isMet_28 : decode cX12_isMet 28 = .ok (.ifCond .ne 67, 3) := by decide +kernel
theorem dX12_isMet_31 : decode cX12_isMet 31 = .ok (.aload_n 0, 1) := by decide +kernel
theorem dX12_isMet_32 : decode cX12_isMet 32 = .ok (.getfield 33, 3) := by decide +kernel
theorem dX12_isMet_35 : decode cX12_isMet 35 = .ok (.sipush 281, 3) := by decide +kernel
theorem dX12_isMet_38 : decode cX12_isMet 38 = .ok (.iaload, 1) := by decide +kernel
theorem dX12_isMet_39 : decode cX12_isMet 39 = .ok (.iload 4, 2) := by decide +kernel
theorem dX12_isMet_41 : decode cX12_isMet 41 = .ok (.invokestatic 280, 3) := by decide +kernel
theorem dX12_isMet_44 : decode cX12_isMet 44 = .ok (.ifCond .ne 55, 3) := by decide +kernel
theorem dX12_isMet_47 : decode cX12_isMet 47 = .ok (.aload_n 0, 1) := by decide +kernel
theorem dX12_isMet_48 : decode cX12_isMet 48 = .ok (.getfield 33, 3) := by decide +kernel
theorem dX12_isMet_51 : decode cX12_isMet 51 = .ok (.sipush 271, 3) := by decide +kernel
theorem dX12_isMet_54 : decode cX12_isMet 54 = .ok (.iload 4, 2) := by decide +kernel
theorem dX12_isMet_56 : decode cX12_isMet 56 = .ok (.iadd, 1) := by decide +kernel
theorem dX12_isMet_57 : decode cX12_isMet 57 = .ok (.iaload, 1) := by decide +kernel
theorem dX12_isMet_58 : decode cX12_isMet 58 = .ok (.aload_n 0, 1) := by decide +kernel
theorem dX12_isMet_59 : decode cX12_isMet 59 = .ok (.getfield 33, 3) := by decide +kernel
theorem dX12_isMet_62 : decode cX12_isMet 62 = .ok (.bipush 90, 2) := by decide +kernel
theorem dX12_isMet_64 : decode cX12_isMet 64 = .ok (.iload_n 3, 1) := by decide +kernel
theorem dX12_isMet_65 : decode cX12_isMet 65 = .ok (.iadd, 1) := by decide +kernel
theorem dX12_isMet_66 : decode cX12_isMet 66 = .ok (.iaload, 1) := by decide +kernel
theorem dX12_isMet_67 : decode cX12_isMet 67 = .ok (.iconst 1, 1) := by decide +kernel
theorem dX12_isMet_68 : decode cX12_isMet 68 = .ok (.iadd, 1) := by decide +kernel
theorem dX12_isMet_69 : decode cX12_isMet 69 = .ok (.if_icmp .ne 30, 3) := by decide +kernel
theorem dX12_isMet_72 : decode cX12_isMet 72 = .ok (.aload_n 0, 1) := by decide +kernel
theorem dX12_isMet_73 : decode cX12_isMet 73 = .ok (.getfield 33, 3) := by decide +kernel
theorem dX12_isMet_76 : decode cX12_isMet 76 = .ok (.sipush 221, 3) := by decide +kernel
theorem dX12_isMet_79 : decode cX12_isMet 79 = .ok (.iload 4, 2) := by decide +kernel
theorem dX12_isMet_81 : decode cX12_isMet 81 = .ok (.iadd, 1) := by decide +kernel
theorem dX12_isMet_82 : decode cX12_isMet 82 = .ok (.iaload, 1) := by decide +kernel
theorem dX12_isMet_83 : decode cX12_isMet 83 = .ok (.aload_n 0, 1) := by decide +kernel
theorem dX12_isMet_84 : decode cX12_isMet 84 = .ok (.getfield 33, 3) := by decide +kernel
theorem dX12_isMet_87 : decode cX12_isMet 87 = .ok (.bipush 98, 2) := by decide +kernel
theorem dX12_isMet_89 : decode cX12_isMet 89 = .ok (.iload_n 3, 1) := by decide +kernel
theorem dX12_isMet_90 : decode cX12_isMet 90 = .ok (.iadd, 1) := by decide +kernel
theorem dX12_isMet_91 : decode cX12_isMet 91 = .ok (.iaload, 1) := by decide +kernel
theorem dX12_isMet_92 : decode cX12_isMet 92 = .ok (.if_icmp .ne 7, 3) := by decide +kernel
theorem dX12_isMet_95 : decode cX12_isMet 95 = .ok (.iconst 1, 1) := by decide +kernel
theorem dX12_isMet_96 : decode cX12_isMet 96 = .ok (.goto 4, 3) := by decide +kernel
theorem dX12_isMet_99 : decode cX12_isMet 99 = .ok (.iconst 0, 1) := by decide +kernel
theorem dX12_isMet_100 : decode cX12_isMet 100 = .ok (.istore_n 2, 1) := by decide +kernel
theorem dX12_isMet_101 : decode cX12_isMet 101 = .ok (.iinc 4 1, 3) := by decide +kernel
theorem dX12_isMet_104 : decode cX12_isMet 104 = .ok (.goto (-89), 3) := by decide +kernel
theorem dX12_isMet_107 : decode cX12_isMet 107 = .ok (.iload_n 2, 1) := by decide +kernel
theorem dX12_isMet_108 : decode cX12_isMet 108 = .ok (.ireturn, 1) := by decide +kernel
theorem dX12_putsBack_0 : decode cX12_putsBack 0 = .ok (.aload_n 0, 1) := by decide +kernel
theorem dX12_putsBack_1 : decode cX12_putsBack 1 = .ok (.getfield 33, 3) := by decide +kernel
theorem dX12_putsBack_4 : decode cX12_putsBack 4 = .ok (.sipush 229, 3) := by decide +kernel
theorem dX12_putsBack_7 : decode cX12_putsBack 7 = .ok (.iload_n 1, 1) := by decide +kernel
theorem dX12_putsBack_8 : decode cX12_putsBack 8 = .ok (.iadd, 1) := by decide +kernel
theorem dX12_putsBack_9 : decode cX12_putsBack 9 = .ok (.aload_n 0, 1) := by decide +kernel
theorem dX12_putsBack_10 : decode cX12_putsBack 10 = .ok (.iload_n 1, 1) := by decide +kernel
theorem dX12_putsBack_11 : decode cX12_putsBack 11 = .ok (.invokevirtual 357, 3) := by decide +kernel
theorem dX12_putsBack_14 : decode cX12_putsBack 14 = .ok (.ifCond .eq 7, 3) := by decide +kernel
theorem dX12_putsBack_17 : decode cX12_putsBack 17 = .ok (.iconst 3, 1) := by decide +kernel
theorem dX12_putsBack_18 : decode cX12_putsBack 18 = .ok (.goto 4, 3) := by decide +kernel
theorem dX12_putsBack_21 : decode cX12_putsBack 21 = .ok (.iconst 0, 1) := by decide +kernel
theorem dX12_putsBack_22 : decode cX12_putsBack 22 = .ok (.iastore, 1) := by decide +kernel
theorem dX12_putsBack_23 : decode cX12_putsBack 23 = .ok (.aload_n 0, 1) := by decide +kernel
theorem dX12_putsBack_24 : decode cX12_putsBack 24 = .ok (.getfield 33, 3) := by decide +kernel
theorem dX12_putsBack_27 : decode cX12_putsBack 27 = .ok (.sipush 239, 3) := by decide +kernel
theorem dX12_putsBack_30 : decode cX12_putsBack 30 = .ok (.iload_n 1, 1) := by decide +kernel
theorem dX12_putsBack_31 : decode cX12_putsBack 31 = .ok (.iadd, 1) := by decide +kernel
theorem dX12_putsBack_32 : decode cX12_putsBack 32 = .ok (.aload_n 0, 1) := by decide +kernel
theorem dX12_putsBack_33 : decode cX12_putsBack 33 = .ok (.iload_n 1, 1) := by decide +kernel
theorem dX12_putsBack_34 : decode cX12_putsBack 34 = .ok (.invokevirtual 357, 3) := by decide +kernel
theorem dX12_putsBack_37 : decode cX12_putsBack 37 = .ok (.ifCond .eq 13, 3) := by decide +kernel
theorem dX12_putsBack_40 : decode cX12_putsBack 40 = .ok (.aload_n 0, 1) := by decide +kernel
theorem dX12_putsBack_41 : decode cX12_putsBack 41 = .ok (.getfield 33, 3) := by decide +kernel
theorem dX12_putsBack_44 : decode cX12_putsBack 44 = .ok (.bipush 7, 2) := by decide +kernel
theorem dX12_putsBack_46 : decode cX12_putsBack 46 = .ok (.iaload, 1) := by decide +kernel
theorem dX12_putsBack_47 : decode cX12_putsBack 47 = .ok (.goto 4, 3) := by decide +kernel
theorem dX12_putsBack_50 : decode cX12_putsBack 50 = .ok (.iconst 0, 1) := by decide +kernel
theorem dX12_putsBack_51 : decode cX12_putsBack 51 = .ok (.iastore, 1) := by decide +kernel
theorem dX12_putsBack_52 : decode cX12_putsBack 52 = .ok (.return_, 1) := by decide +kernel
theorem dX12_whyThrow_0 : decode cX12_whyThrow 0 = .ok (.aload_n 0, 1) := by decide +kernel
theorem dX12_whyThrow_1 : decode cX12_whyThrow 1 = .ok (.aload_n 0, 1) := by decide +kernel
theorem dX12_whyThrow_2 : decode cX12_whyThrow 2 = .ok (.getfield 33, 3) := by decide +kernel
theorem dX12_whyThrow_5 : decode cX12_whyThrow 5 = .ok (.bipush 20, 2) := by decide +kernel
theorem dX12_whyThrow_7 : decode cX12_whyThrow 7 = .ok (.iload_n 1, 1) := by decide +kernel
theorem dX12_whyThrow_8 : decode cX12_whyThrow 8 = .ok (.iadd, 1) := by decide +kernel
theorem dX12_whyThrow_9 : decode cX12_whyThrow 9 = .ok (.iaload, 1) := by decide +kernel
theorem dX12_whyThrow_10 : decode cX12_whyThrow 10 = .ok (.invokevirtual 314, 3) := by decide +kernel
theorem dX12_whyThrow_13 : decode cX12_whyThrow 13 = .ok (.ifCond .eq 7, 3) := by decide +kernel
theorem dX12_whyThrow_16 : decode cX12_whyThrow 16 = .ok (.iconst 1, 1) := by decide +kernel
theorem dX12_whyThrow_17 : decode cX12_whyThrow 17 = .ok (.goto 33, 3) := by decide +kernel
theorem dX12_whyThrow_20 : decode cX12_whyThrow 20 = .ok (.aload_n 0, 1) := by decide +kernel
theorem dX12_whyThrow_21 : decode cX12_whyThrow 21 = .ok (.iload_n 1, 1) := by decide +kernel
theorem dX12_whyThrow_22 : decode cX12_whyThrow 22 = .ok (.sipush 186, 3) := by decide +kernel
theorem dX12_whyThrow_25 : decode cX12_whyThrow 25 = .ok (.invokevirtual 320, 3) := by decide +kernel
theorem dX12_whyThrow_28 : decode cX12_whyThrow 28 = .ok (.aload_n 0, 1) := by decide +kernel
theorem dX12_whyThrow_29 : decode cX12_whyThrow 29 = .ok (.iload_n 1, 1) := by decide +kernel
theorem dX12_whyThrow_30 : decode cX12_whyThrow 30 = .ok (.sipush 196, 3) := by decide +kernel
theorem dX12_whyThrow_33 : decode cX12_whyThrow 33 = .ok (.invokevirtual 320, 3) := by decide +kernel
theorem dX12_whyThrow_36 : decode cX12_whyThrow 36 = .ok (.ior, 1) := by decide +kernel
theorem dX12_whyThrow_37 : decode cX12_whyThrow 37 = .ok (.aload_n 0, 1) := by decide +kernel
theorem dX12_whyThrow_38 : decode cX12_whyThrow 38 = .ok (.invokevirtual 345, 3) := by decide +kernel
theorem dX12_whyThrow_41 : decode cX12_whyThrow 41 = .ok (.iand, 1) := by decide +kernel
theorem dX12_whyThrow_42 : decode cX12_whyThrow 42 = .ok (.ifCond .eq 7, 3) := by decide +kernel
theorem dX12_whyThrow_45 : decode cX12_whyThrow 45 = .ok (.iconst 2, 1) := by decide +kernel
theorem dX12_whyThrow_46 : decode cX12_whyThrow 46 = .ok (.goto 4, 3) := by decide +kernel
theorem dX12_whyThrow_49 : decode cX12_whyThrow 49 = .ok (.iconst 0, 1) := by decide +kernel
theorem dX12_whyThrow_50 : decode cX12_whyThrow 50 = .ok (.ireturn, 1) := by decide +kernel
theorem dX12_signalFor_0 : decode cX12_signalFor 0 = .ok (.iconst 0, 1) := by decide +kernel
theorem dX12_signalFor_1 : decode cX12_signalFor 1 = .ok (.istore_n 2, 1) := by decide +kernel
theorem dX12_signalFor_2 : decode cX12_signalFor 2 = .ok (.iload_n 2, 1) := by decide +kernel
theorem dX12_signalFor_3 : decode cX12_signalFor 3 = .ok (.aload_n 0, 1) := by decide +kernel
theorem dX12_signalFor_4 : decode cX12_signalFor 4 = .ok (.getfield 33, 3) := by decide +kernel
theorem dX12_signalFor_7 : decode cX12_signalFor 7 = .ok (.iconst 3, 1) := by decide +kernel
theorem dX12_signalFor_8 : decode cX12_signalFor 8 = .ok (.iaload, 1) := by decide +kernel
theorem dX12_signalFor_9 : decode cX12_signalFor 9 = .ok (.if_icmp .ge 57, 3) := by decide +kernel
theorem dX12_signalFor_12 : decode cX12_signalFor 12 = .ok (.aload_n 0, 1) := by decide +kernel
theorem dX12_signalFor_13 : decode cX12_signalFor 13 = .ok (.getfield 33, 3) := by decide +kernel
theorem dX12_signalFor_16 : decode cX12_signalFor 16 = .ok (.bipush 90, 2) := by decide +kernel
theorem dX12_signalFor_18 : decode cX12_signalFor 18 = .ok (.iload_n 2, 1) := by decide +kernel
theorem dX12_signalFor_19 : decode cX12_signalFor 19 = .ok (.iadd, 1) := by decide +kernel
theorem dX12_signalFor_20 : decode cX12_signalFor 20 = .ok (.iaload, 1) := by decide +kernel
theorem dX12_signalFor_21 : decode cX12_signalFor 21 = .ok (.iconst 1, 1) := by decide +kernel
theorem dX12_signalFor_22 : decode cX12_signalFor 22 = .ok (.iadd, 1) := by decide +kernel
theorem dX12_signalFor_23 : decode cX12_signalFor 23 = .ok (.aload_n 0, 1) := by decide +kernel
theorem dX12_signalFor_24 : decode cX12_signalFor 24 = .ok (.getfield 33, 3) := by decide +kernel
theorem dX12_signalFor_27 : decode cX12_signalFor 27 = .ok (.sipush 271, 3) := by decide +kernel
theorem dX12_signalFor_30 : decode cX12_signalFor 30 = .ok (.iload_n 1, 1) := by decide +kernel
theorem dX12_signalFor_31 : decode cX12_signalFor 31 = .ok (.iadd, 1) := by decide +kernel
theorem dX12_signalFor_32 : decode cX12_signalFor 32 = .ok (.iaload, 1) := by decide +kernel
theorem dX12_signalFor_33 : decode cX12_signalFor 33 = .ok (.if_icmp .ne 27, 3) := by decide +kernel
theorem dX12_signalFor_36 : decode cX12_signalFor 36 = .ok (.aload_n 0, 1) := by decide +kernel
theorem dX12_signalFor_37 : decode cX12_signalFor 37 = .ok (.getfield 33, 3) := by decide +kernel
theorem dX12_signalFor_40 : decode cX12_signalFor 40 = .ok (.bipush 98, 2) := by decide +kernel
theorem dX12_signalFor_42 : decode cX12_signalFor 42 = .ok (.iload_n 2, 1) := by decide +kernel
theorem dX12_signalFor_43 : decode cX12_signalFor 43 = .ok (.iadd, 1) := by decide +kernel
theorem dX12_signalFor_44 : decode cX12_signalFor 44 = .ok (.iaload, 1) := by decide +kernel
theorem dX12_signalFor_45 : decode cX12_signalFor 45 = .ok (.aload_n 0, 1) := by decide +kernel
theorem dX12_signalFor_46 : decode cX12_signalFor 46 = .ok (.getfield 33, 3) := by decide +kernel
theorem dX12_signalFor_49 : decode cX12_signalFor 49 = .ok (.sipush 221, 3) := by decide +kernel
theorem dX12_signalFor_52 : decode cX12_signalFor 52 = .ok (.iload_n 1, 1) := by decide +kernel
theorem dX12_signalFor_53 : decode cX12_signalFor 53 = .ok (.iadd, 1) := by decide +kernel
theorem dX12_signalFor_54 : decode cX12_signalFor 54 = .ok (.iaload, 1) := by decide +kernel
theorem dX12_signalFor_55 : decode cX12_signalFor 55 = .ok (.if_icmp .ne 5, 3) := by decide +kernel
theorem dX12_signalFor_58 : decode cX12_signalFor 58 = .ok (.iload_n 2, 1) := by decide +kernel
theorem dX12_signalFor_59 : decode cX12_signalFor 59 = .ok (.ireturn, 1) := by decide +kernel
theorem dX12_signalFor_60 : decode cX12_signalFor 60 = .ok (.iinc 2 1, 3) := by decide +kernel
theorem dX12_signalFor_63 : decode cX12_signalFor 63 = .ok (.goto (-61), 3) := by decide +kernel
theorem dX12_signalFor_66 : decode cX12_signalFor 66 = .ok (.iconst (-1), 1) := by decide +kernel
theorem dX12_signalFor_67 : decode cX12_signalFor 67 = .ok (.ireturn, 1) := by decide +kernel
theorem dX12_goesTo_0 : decode cX12_goesTo 0 = .ok (.aload_n 0, 1) := by decide +kernel
theorem dX12_goesTo_1 : decode cX12_goesTo 1 = .ok (.iload_n 1, 1) := by decide +kernel
theorem dX12_goesTo_2 : decode cX12_goesTo 2 = .ok (.invokevirtual 360, 3) := by decide +kernel
theorem dX12_goesTo_5 : decode cX12_goesTo 5 = .ok (.istore_n 2, 1) := by decide +kernel
theorem dX12_goesTo_6 : decode cX12_goesTo 6 = .ok (.iload_n 2, 1) := by decide +kernel
theorem dX12_goesTo_7 : decode cX12_goesTo 7 = .ok (.ifCond .lt 53, 3) := by decide +kernel
theorem dX12_goesTo_10 : decode cX12_goesTo 10 = .ok (.aload_n 0, 1) := by decide +kernel
theorem dX12_goesTo_11 : decode cX12_goesTo 11 = .ok (.iload_n 2, 1) := by decide +kernel
theorem dX12_goesTo_12 : decode cX12_goesTo 12 = .ok (.invokevirtual 323, 3) := by decide +kernel
theorem dX12_goesTo_15 : decode cX12_goesTo 15 = .ok (.istore_n 3, 1) := by decide +kernel
theorem dX12_goesTo_16 : decode cX12_goesTo 16 = .ok (.iload_n 3, 1) := by decide +kernel
theorem dX12_goesTo_17 : decode cX12_goesTo 17 = .ok (.ifCond .ge 6, 3) := by decide +kernel
theorem dX12_goesTo_20 : decode cX12_goesTo 20 = .ok (.bipush (-2), 2) := by decide +kernel
theorem dX12_goesTo_22 : decode cX12_goesTo 22 = .ok (.ireturn, 1) := by decide +kernel
theorem dX12_goesTo_23 : decode cX12_goesTo 23 = .ok (.aload_n 0, 1) := by decide +kernel
theorem dX12_goesTo_24 : decode cX12_goesTo 24 = .ok (.getfield 33, 3) := by decide +kernel
theorem dX12_goesTo_27 : decode cX12_goesTo 27 = .ok (.sipush 229, 3) := by decide +kernel
theorem dX12_goesTo_30 : decode cX12_goesTo 30 = .ok (.iload_n 3, 1) := by decide +kernel
theorem dX12_goesTo_31 : decode cX12_goesTo 31 = .ok (.iadd, 1) := by decide +kernel
theorem dX12_goesTo_32 : decode cX12_goesTo 32 = .ok (.iconst 2, 1) := by decide +kernel
theorem dX12_goesTo_33 : decode cX12_goesTo 33 = .ok (.iastore, 1) := by decide +kernel
theorem dX12_goesTo_34 : decode cX12_goesTo 34 = .ok (.aload_n 0, 1) := by decide +kernel
theorem dX12_goesTo_35 : decode cX12_goesTo 35 = .ok (.getfield 33, 3) := by decide +kernel
theorem dX12_goesTo_38 : decode cX12_goesTo 38 = .ok (.sipush 249, 3) := by decide +kernel
theorem dX12_goesTo_41 : decode cX12_goesTo 41 = .ok (.iload_n 3, 1) := by decide +kernel
theorem dX12_goesTo_42 : decode cX12_goesTo 42 = .ok (.iadd, 1) := by decide +kernel
theorem dX12_goesTo_43 : decode cX12_goesTo 43 = .ok (.iload_n 1, 1) := by decide +kernel
theorem dX12_goesTo_44 : decode cX12_goesTo 44 = .ok (.iconst 1, 1) := by decide +kernel
theorem dX12_goesTo_45 : decode cX12_goesTo 45 = .ok (.iadd, 1) := by decide +kernel
theorem dX12_goesTo_46 : decode cX12_goesTo 46 = .ok (.iastore, 1) := by decide +kernel
theorem dX12_goesTo_47 : decode cX12_goesTo 47 = .ok (.aload_n 0, 1) := by decide +kernel
theorem dX12_goesTo_48 : decode cX12_goesTo 48 = .ok (.getfield 33, 3) := by decide +kernel
theorem dX12_goesTo_51 : decode cX12_goesTo 51 = .ok (.bipush 126, 2) := by decide +kernel
theorem dX12_goesTo_53 : decode cX12_goesTo 53 = .ok (.bipush 6, 2) := by decide +kernel
theorem dX12_goesTo_55 : decode cX12_goesTo 55 = .ok (.iload_n 3, 1) := by decide +kernel
theorem dX12_goesTo_56 : decode cX12_goesTo 56 = .ok (.imul, 1) := by decide +kernel
theorem dX12_goesTo_57 : decode cX12_goesTo 57 = .ok (.iadd, 1) := by decide +kernel
theorem dX12_goesTo_58 : decode cX12_goesTo 58 = .ok (.iaload, 1) := by decide +kernel
theorem dX12_goesTo_59 : decode cX12_goesTo 59 = .ok (.ireturn, 1) := by decide +kernel
theorem dX12_goesTo_60 : decode cX12_goesTo 60 = .ok (.aload_n 0, 1) := by decide +kernel
theorem dX12_goesTo_61 : decode cX12_goesTo 61 = .ok (.getfield 33, 3) := by decide +kernel
theorem dX12_goesTo_64 : decode cX12_goesTo 64 = .ok (.sipush 271, 3) := by decide +kernel
theorem dX12_goesTo_67 : decode cX12_goesTo 67 = .ok (.iload_n 1, 1) := by decide +kernel
theorem dX12_goesTo_68 : decode cX12_goesTo 68 = .ok (.iadd, 1) := by decide +kernel
theorem dX12_goesTo_69 : decode cX12_goesTo 69 = .ok (.iaload, 1) := by decide +kernel
theorem dX12_goesTo_70 : decode cX12_goesTo 70 = .ok (.iconst 1, 1) := by decide +kernel
theorem dX12_goesTo_71 : decode cX12_goesTo 71 = .ok (.isub, 1) := by decide +kernel
theorem dX12_goesTo_72 : decode cX12_goesTo 72 = .ok (.istore_n 3, 1) := by decide +kernel
theorem dX12_goesTo_73 : decode cX12_goesTo 73 = .ok (.iconst 0, 1) := by decide +kernel
theorem dX12_goesTo_74 : decode cX12_goesTo 74 = .ok (.istore 4, 2) := by decide +kernel
theorem dX12_goesTo_76 : decode cX12_goesTo 76 = .ok (.iconst 0, 1) := by decide +kernel
theorem dX12_goesTo_77 : decode cX12_goesTo 77 = .ok (.istore 5, 2) := by decide +kernel
theorem dX12_goesTo_79 : decode cX12_goesTo 79 = .ok (.iload 5, 2) := by decide +kernel
theorem dX12_goesTo_81 : decode cX12_goesTo 81 = .ok (.aload_n 0, 1) := by decide +kernel
theorem dX12_goesTo_82 : decode cX12_goesTo 82 = .ok (.getfield 33, 3) := by decide +kernel
theorem dX12_goesTo_85 : decode cX12_goesTo 85 = .ok (.iconst 2, 1) := by decide +kernel
theorem dX12_goesTo_86 : decode cX12_goesTo 86 = .ok (.iaload, 1) := by decide +kernel
theorem dX12_goesTo_87 : decode cX12_goesTo 87 = .ok (.if_icmp .ge 145, 3) := by decide +kernel
theorem dX12_goesTo_90 : decode cX12_goesTo 90 = .ok (.aload_n 0, 1) := by decide +kernel
theorem dX12_goesTo_91 : decode cX12_goesTo 91 = .ok (.getfield 33, 3) := by decide +kernel
theorem dX12_goesTo_94 : decode cX12_goesTo 94 = .ok (.sipush 221, 3) := by decide +kernel
theorem dX12_goesTo_97 : decode cX12_goesTo 97 = .ok (.iload_n 1, 1) := by decide +kernel
theorem dX12_goesTo_98 : decode cX12_goesTo 98 = .ok (.iadd, 1) := by decide +kernel
theorem dX12_goesTo_99 : decode cX12_goesTo 99 = .ok (.iaload, 1) := by decide +kernel
theorem dX12_goesTo_100 : decode cX12_goesTo 100 = .ok (.ifCond .ne 16, 3) := by decide +kernel
theorem dX12_goesTo_103 : decode cX12_goesTo 103 = .ok (.aload_n 0, 1) := by decide +kernel
theorem dX12_goesTo_104 : decode cX12_goesTo 104 = .ok (.getfield 33, 3) := by decide +kernel
theorem dX12_goesTo_107 : decode cX12_goesTo 107 = .ok (.bipush 26, 2) := by decide +kernel
theorem dX12_goesTo_109 : decode cX12_goesTo 109 = .ok (.iload 5, 2) := by decide +kernel
theorem dX12_goesTo_111 : decode cX12_goesTo 111 = .ok (.iadd, 1) := by decide +kernel
theorem dX12_goesTo_112 : decode cX12_goesTo 112 = .ok (.iaload, 1) := by decide +kernel
theorem dX12_goesTo_113 : decode cX12_goesTo 113 = .ok (.goto 13, 3) := by decide +kernel
theorem dX12_goesTo_116 : decode cX12_goesTo 116 = .ok (.aload_n 0, 1) := by decide +kernel
theorem dX12_goesTo_117 : decode cX12_goesTo 117 = .ok (.getfield 33, 3) := by decide +kernel
theorem dX12_goesTo_120 : decode cX12_goesTo 120 = .ok (.bipush 42, 2) := by decide +kernel
theorem dX12_goesTo_122 : decode cX12_goesTo 122 = .ok (.iload 5, 2) := by decide +kernel
theorem dX12_goesTo_124 : decode cX12_goesTo 124 = .ok (.iadd, 1) := by decide +kernel
theorem dX12_goesTo_125 : decode cX12_goesTo 125 = .ok (.iaload, 1) := by decide +kernel
theorem dX12_goesTo_126 : decode cX12_goesTo 126 = .ok (.istore 6, 2) := by decide +kernel
theorem dX12_goesTo_128 : decode cX12_goesTo 128 = .ok (.iload 6, 2) := by decide +kernel
theorem dX12_goesTo_130 : decode cX12_goesTo 130 = .ok (.iload_n 3, 1) := by decide +kernel
theorem dX12_goesTo_131 : decode cX12_goesTo 131 = .ok (.if_icmp .eq 6, 3) := by decide +kernel
theorem dX12_goesTo_134 : decode cX12_goesTo 134 = .ok (.goto 92, 3) := by decide +kernel
theorem dX12_goesTo_137 : decode cX12_goesTo 137 = .ok (.iconst 1, 1) := by decide +kernel
theorem dX12_goesTo_138 : decode cX12_goesTo 138 = .ok (.istore 4, 2) := by decide +kernel
theorem dX12_goesTo_140 : decode cX12_goesTo 140 = .ok (.aload_n 0, 1) := by decide +kernel
theorem dX12_goesTo_141 : decode cX12_goesTo 141 = .ok (.getfield 33, 3) := by decide +kernel
theorem dX12_goesTo_144 : decode cX12_goesTo 144 = .ok (.bipush 58, 2) := by decide +kernel
theorem dX12_goesTo_146 : decode cX12_goesTo 146 = .ok (.iload 5, 2) := by decide +kernel
theorem dX12_goesTo_148 : decode cX12_goesTo 148 = .ok (.iadd, 1) := by decide +kernel
theorem dX12_goesTo_149 : decode cX12_goesTo 149 = .ok (.iaload, 1) := by decide +kernel
theorem dX12_goesTo_150 : decode cX12_goesTo 150 = .ok (.ifCond .eq 39, 3) := by decide +kernel
theorem dX12_goesTo_153 : decode cX12_goesTo 153 = .ok (.aload_n 0, 1) := by decide +kernel
theorem dX12_goesTo_154 : decode cX12_goesTo 154 = .ok (.getfield 33, 3) := by decide +kernel
theorem dX12_goesTo_157 : decode cX12_goesTo 157 = .ok (.sipush 228, 3) := by decide +kernel
theorem dX12_goesTo_160 : decode cX12_goesTo 160 = .ok (.iaload, 1) := by decide +kernel
theorem dX12_goesTo_161 : decode cX12_goesTo 161 = .ok (.aload_n 0, 1) := by decide +kernel
theorem dX12_goesTo_162 : decode cX12_goesTo 162 = .ok (.getfield 33, 3) := by decide +kernel
theorem dX12_goesTo_165 : decode cX12_goesTo 165 = .ok (.bipush 58, 2) := by decide +kernel
theorem dX12_goesTo_167 : decode cX12_goesTo 167 = .ok (.iload 5, 2) := by decide +kernel
theorem dX12_goesTo_169 : decode cX12_goesTo 169 = .ok (.iadd, 1) := by decide +kernel
theorem dX12_goesTo_170 : decode cX12_goesTo 170 = .ok (.iaload, 1) := by decide +kernel
theorem dX12_goesTo_171 : decode cX12_goesTo 171 = .ok (.iconst 1, 1) := by decide +kernel
theorem dX12_goesTo_172 : decode cX12_goesTo 172 = .ok (.isub, 1) := by decide +kernel
theorem dX12_goesTo_173 : decode cX12_goesTo 173 = .ok (.ishr, 1) := by decide +kernel
theorem dX12_goesTo_174 : decode cX12_goesTo 174 = .ok (.iconst 1, 1) := by decide +kernel
theorem dX12_goesTo_175 : decode cX12_goesTo 175 = .ok (.iand, 1) := by decide +kernel
theorem dX12_goesTo_176 : decode cX12_goesTo 176 = .ok (.aload_n 0, 1) := by decide +kernel
theorem dX12_goesTo_177 : decode cX12_goesTo 177 = .ok (.getfield 33, 3) := by decide +kernel
theorem dX12_goesTo_180 : decode cX12_goesTo 180 = .ok (.bipush 74, 2) := by decide +kernel
theorem dX12_goesTo_182 : decode cX12_goesTo 182 = .ok (.iload 5, 2) := by decide +kernel
theorem dX12_goesTo_184 : decode cX12_goesTo 184 = .ok (.iadd, 1) := by decide +kernel
theorem dX12_goesTo_185 : decode cX12_goesTo 185 = .ok (.iaload, 1) := by decide +kernel
theorem dX12_goesTo_186 : decode cX12_goesTo 186 = .ok (.if_icmp .ne 40, 3) := by decide +kernel
theorem dX12_goesTo_189 : decode cX12_goesTo 189 = .ok (.aload_n 0, 1) := by decide +kernel
theorem dX12_goesTo_190 : decode cX12_goesTo 190 = .ok (.getfield 33, 3) := by decide +kernel
theorem dX12_goesTo_193 : decode cX12_goesTo 193 = .ok (.sipush 221, 3) := by decide +kernel
theorem dX12_goesTo_196 : decode cX12_goesTo 196 = .ok (.iload_n 1, 1) := by decide +kernel
theorem dX12_goesTo_197 : decode cX12_goesTo 197 = .ok (.iadd, 1) := by decide +kernel
theorem dX12_goesTo_198 : decode cX12_goesTo 198 = .ok (.iaload, 1) := by decide +kernel
theorem dX12_goesTo_199 : decode cX12_goesTo 199 = .ok (.ifCond .ne 16, 3) := by decide +kernel
theorem dX12_goesTo_202 : decode cX12_goesTo 202 = .ok (.aload_n 0, 1) := by decide +kernel
theorem dX12_goesTo_203 : decode cX12_goesTo 203 = .ok (.getfield 33, 3) := by decide +kernel
theorem dX12_goesTo_206 : decode cX12_goesTo 206 = .ok (.bipush 42, 2) := by decide +kernel
theorem dX12_goesTo_208 : decode cX12_goesTo 208 = .ok (.iload 5, 2) := by decide +kernel
theorem dX12_goesTo_210 : decode cX12_goesTo 210 = .ok (.iadd, 1) := by decide +kernel
theorem dX12_goesTo_211 : decode cX12_goesTo 211 = .ok (.iaload, 1) := by decide +kernel
theorem dX12_goesTo_212 : decode cX12_goesTo 212 = .ok (.goto 13, 3) := by decide +kernel
theorem dX12_goesTo_215 : decode cX12_goesTo 215 = .ok (.aload_n 0, 1) := by decide +kernel
theorem dX12_goesTo_216 : decode cX12_goesTo 216 = .ok (.getfield 33, 3) := by decide +kernel
theorem dX12_goesTo_219 : decode cX12_goesTo 219 = .ok (.bipush 26, 2) := by decide +kernel
theorem dX12_goesTo_221 : decode cX12_goesTo 221 = .ok (.iload 5, 2) := by decide +kernel
theorem dX12_goesTo_223 : decode cX12_goesTo 223 = .ok (.iadd, 1) := by decide +kernel
theorem dX12_goesTo_224 : decode cX12_goesTo 224 = .ok (.iaload, 1) := by decide +kernel
theorem dX12_goesTo_225 : decode cX12_goesTo 225 = .ok (.ireturn, 1) := by decide +kernel
theorem dX12_goesTo_226 : decode cX12_goesTo 226 = .ok (.iinc 5 1, 3) := by decide +kernel
theorem dX12_goesTo_229 : decode cX12_goesTo 229 = .ok (.goto (-150), 3) := by decide +kernel
theorem dX12_goesTo_232 : decode cX12_goesTo 232 = .ok (.iload 4, 2) := by decide +kernel
theorem dX12_goesTo_234 : decode cX12_goesTo 234 = .ok (.ifCond .eq 8, 3) := by decide +kernel
theorem dX12_goesTo_237 : decode cX12_goesTo 237 = .ok (.bipush (-2), 2) := by decide +kernel
theorem dX12_goesTo_239 : decode cX12_goesTo 239 = .ok (.goto 4, 3) := by decide +kernel
theorem dX12_goesTo_242 : decode cX12_goesTo 242 = .ok (.iconst (-1), 1) := by decide +kernel
theorem dX12_goesTo_243 : decode cX12_goesTo 243 = .ok (.ireturn, 1) := by decide +kernel
theorem dX12_moves_0 : decode cX12_moves 0 = .ok (.aload_n 0, 1) := by decide +kernel
theorem dX12_moves_1 : decode cX12_moves 1 = .ok (.getfield 33, 3) := by decide +kernel
theorem dX12_moves_4 : decode cX12_moves 4 = .ok (.sipush 282, 3) := by decide +kernel
theorem dX12_moves_7 : decode cX12_moves 7 = .ok (.dup2, 1) := by decide +kernel
theorem dX12_moves_8 : decode cX12_moves 8 = .ok (.iaload, 1) := by decide +kernel
theorem dX12_moves_9 : decode cX12_moves 9 = .ok (.iconst 1, 1) := by decide +kernel
theorem dX12_moves_10 : decode cX12_moves 10 = .ok (.iload_n 1, 1) := by decide +kernel
theorem dX12_moves_11 : decode cX12_moves 11 = .ok (.ishl, 1) := by decide +kernel
theorem dX12_moves_12 : decode cX12_moves 12 = .ok (.iconst (-1), 1) := by decide +kernel
theorem dX12_moves_13 : decode cX12_moves 13 = .ok (.ixor, 1) := by decide +kernel
theorem dX12_moves_14 : decode cX12_moves 14 = .ok (.iand, 1) := by decide +kernel
theorem dX12_moves_15 : decode cX12_moves 15 = .ok (.iastore, 1) := by decide +kernel
theorem dX12_moves_16 : decode cX12_moves 16 = .ok (.aload_n 0, 1) := by decide +kernel
theorem dX12_moves_17 : decode cX12_moves 17 = .ok (.getfield 33, 3) := by decide +kernel
theorem dX12_moves_20 : decode cX12_moves 20 = .ok (.sipush 271, 3) := by decide +kernel
theorem dX12_moves_23 : decode cX12_moves 23 = .ok (.iload_n 1, 1) := by decide +kernel
theorem dX12_moves_24 : decode cX12_moves 24 = .ok (.iadd, 1) := by decide +kernel
theorem dX12_moves_25 : decode cX12_moves 25 = .ok (.iaload, 1) := by decide +kernel
theorem dX12_moves_26 : decode cX12_moves 26 = .ok (.ifCond .eq 18, 3) := by decide +kernel
theorem dX12_moves_29 : decode cX12_moves 29 = .ok (.aload_n 0, 1) := by decide +kernel
theorem dX12_moves_30 : decode cX12_moves 30 = .ok (.getfield 33, 3) := by decide +kernel
theorem dX12_moves_33 : decode cX12_moves 33 = .ok (.sipush 281, 3) := by decide +kernel
theorem dX12_moves_36 : decode cX12_moves 36 = .ok (.iaload, 1) := by decide +kernel
theorem dX12_moves_37 : decode cX12_moves 37 = .ok (.iload_n 1, 1) := by decide +kernel
theorem dX12_moves_38 : decode cX12_moves 38 = .ok (.invokestatic 280, 3) := by decide +kernel
theorem dX12_moves_41 : decode cX12_moves 41 = .ok (.ifCond .eq 4, 3) := by decide +kernel
theorem dX12_moves_44 : decode cX12_moves 44 = .ok (.return_, 1) := by decide +kernel
theorem dX12_moves_45 : decode cX12_moves 45 = .ok (.aload_n 0, 1) := by decide +kernel
theorem dX12_moves_46 : decode cX12_moves 46 = .ok (.getfield 33, 3) := by decide +kernel
theorem dX12_moves_49 : decode cX12_moves 49 = .ok (.sipush 276, 3) := by decide +kernel
theorem dX12_moves_52 : decode cX12_moves 52 = .ok (.iload_n 1, 1) := by decide +kernel
theorem dX12_moves_53 : decode cX12_moves 53 = .ok (.iadd, 1) := by decide +kernel
theorem dX12_moves_54 : decode cX12_moves 54 = .ok (.dup2, 1) := by decide +kernel
theorem dX12_moves_55 : decode cX12_moves 55 = .ok (.iaload, 1) := by decide +kernel
theorem dX12_moves_56 : decode cX12_moves 56 = .ok (.iconst 1, 1) := by decide +kernel
theorem dX12_moves_57 : decode cX12_moves 57 = .ok (.iadd, 1) := by decide +kernel
theorem dX12_moves_58 : decode cX12_moves 58 = .ok (.iastore, 1) := by decide +kernel
theorem dX12_moves_59 : decode cX12_moves 59 = .ok (.aload_n 0, 1) := by decide +kernel
theorem dX12_moves_60 : decode cX12_moves 60 = .ok (.getfield 33, 3) := by decide +kernel
theorem dX12_moves_63 : decode cX12_moves 63 = .ok (.sipush 276, 3) := by decide +kernel
theorem dX12_moves_66 : decode cX12_moves 66 = .ok (.iload_n 1, 1) := by decide +kernel
theorem dX12_moves_67 : decode cX12_moves 67 = .ok (.iadd, 1) := by decide +kernel
theorem dX12_moves_68 : decode cX12_moves 68 = .ok (.iaload, 1) := by decide +kernel
theorem dX12_moves_69 : decode cX12_moves 69 = .ok (.aload_n 0, 1) := by decide +kernel
theorem dX12_moves_70 : decode cX12_moves 70 = .ok (.getfield 33, 3) := by decide +kernel
theorem dX12_moves_73 : decode cX12_moves 73 = .ok (.bipush 8, 2) := by decide +kernel
theorem dX12_moves_75 : decode cX12_moves 75 = .ok (.aload_n 0, 1) := by decide +kernel
theorem dX12_moves_76 : decode cX12_moves 76 = .ok (.getfield 33, 3) := by decide +kernel
theorem dX12_moves_79 : decode cX12_moves 79 = .ok (.sipush 271, 3) := by decide +kernel
theorem dX12_moves_82 : decode cX12_moves 82 = .ok (.iload_n 1, 1) := by decide +kernel
theorem dX12_moves_83 : decode cX12_moves 83 = .ok (.iadd, 1) := by decide +kernel
theorem dX12_moves_84 : decode cX12_moves 84 = .ok (.iaload, 1) := by decide +kernel
theorem dX12_moves_85 : decode cX12_moves 85 = .ok (.iadd, 1) := by decide +kernel
theorem dX12_moves_86 : decode cX12_moves 86 = .ok (.iconst 1, 1) := by decide +kernel
theorem dX12_moves_87 : decode cX12_moves 87 = .ok (.isub, 1) := by decide +kernel
theorem dX12_moves_88 : decode cX12_moves 88 = .ok (.iaload, 1) := by decide +kernel
theorem dX12_moves_89 : decode cX12_moves 89 = .ok (.if_icmp .ge 4, 3) := by decide +kernel
theorem dX12_moves_92 : decode cX12_moves 92 = .ok (.return_, 1) := by decide +kernel
theorem dX12_moves_93 : decode cX12_moves 93 = .ok (.aload_n 0, 1) := by decide +kernel
theorem dX12_moves_94 : decode cX12_moves 94 = .ok (.iload_n 1, 1) := by decide +kernel
theorem dX12_moves_95 : decode cX12_moves 95 = .ok (.invokevirtual 363, 3) := by decide +kernel
theorem dX12_moves_98 : decode cX12_moves 98 = .ok (.istore_n 2, 1) := by decide +kernel
theorem dX12_moves_99 : decode cX12_moves 99 = .ok (.iload_n 2, 1) := by decide +kernel
theorem dX12_moves_100 : decode cX12_moves 100 = .ok (.bipush (-2), 2) := by decide +kernel
theorem dX12_moves_102 : decode cX12_moves 102 = .ok (.if_icmp .ne 32, 3) := by decide +kernel
theorem dX12_moves_105 : decode cX12_moves 105 = .ok (.aload_n 0, 1) := by decide +kernel
theorem dX12_moves_106 : decode cX12_moves 106 = .ok (.getfield 33, 3) := by decide +kernel
theorem dX12_moves_109 : decode cX12_moves 109 = .ok (.sipush 282, 3) := by decide +kernel
theorem dX12_moves_112 : decode cX12_moves 112 = .ok (.dup2, 1) := by decide +kernel
theorem dX12_moves_113 : decode cX12_moves 113 = .ok (.iaload, 1) := by decide +kernel
theorem dX12_moves_114 : decode cX12_moves 114 = .ok (.iconst 1, 1) := by decide +kernel
theorem dX12_moves_115 : decode cX12_moves 115 = .ok (.iload_n 1, 1) := by decide +kernel
theorem dX12_moves_116 : decode cX12_moves 116 = .ok (.ishl, 1) := by decide +kernel
theorem dX12_moves_117 : decode cX12_moves 117 = .ok (.ior, 1) := by decide +kernel
theorem dX12_moves_118 : decode cX12_moves 118 = .ok (.iastore, 1) := by decide +kernel
theorem dX12_moves_119 : decode cX12_moves 119 = .ok (.aload_n 0, 1) := by decide +kernel
theorem dX12_moves_120 : decode cX12_moves 120 = .ok (.getfield 33, 3) := by decide +kernel
theorem dX12_moves_123 : decode cX12_moves 123 = .ok (.sipush 283, 3) := by decide +kernel
theorem dX12_moves_126 : decode cX12_moves 126 = .ok (.iload_n 1, 1) := by decide +kernel
theorem dX12_moves_127 : decode cX12_moves 127 = .ok (.iadd, 1) := by decide +kernel
theorem dX12_moves_128 : decode cX12_moves 128 = .ok (.dup2, 1) := by decide +kernel
theorem dX12_moves_129 : decode cX12_moves 129 = .ok (.iaload, 1) := by decide +kernel
theorem dX12_moves_130 : decode cX12_moves 130 = .ok (.iconst 1, 1) := by decide +kernel
theorem dX12_moves_131 : decode cX12_moves 131 = .ok (.iadd, 1) := by decide +kernel
theorem dX12_moves_132 : decode cX12_moves 132 = .ok (.iastore, 1) := by decide +kernel
theorem dX12_moves_133 : decode cX12_moves 133 = .ok (.return_, 1) := by decide +kernel
theorem dX12_moves_134 : decode cX12_moves 134 = .ok (.aload_n 0, 1) := by decide +kernel
theorem dX12_moves_135 : decode cX12_moves 135 = .ok (.getfield 33, 3) := by decide +kernel
theorem dX12_moves_138 : decode cX12_moves 138 = .ok (.sipush 271, 3) := by decide +kernel
theorem dX12_moves_141 : decode cX12_moves 141 = .ok (.iload_n 1, 1) := by decide +kernel
theorem dX12_moves_142 : decode cX12_moves 142 = .ok (.iadd, 1) := by decide +kernel
theorem dX12_moves_143 : decode cX12_moves 143 = .ok (.iload_n 2, 1) := by decide +kernel
theorem dX12_moves_144 : decode cX12_moves 144 = .ok (.iconst 1, 1) := by decide +kernel
theorem dX12_moves_145 : decode cX12_moves 145 = .ok (.iadd, 1) := by decide +kernel
theorem dX12_moves_146 : decode cX12_moves 146 = .ok (.iastore, 1) := by decide +kernel
theorem dX12_moves_147 : decode cX12_moves 147 = .ok (.aload_n 0, 1) := by decide +kernel
theorem dX12_moves_148 : decode cX12_moves 148 = .ok (.getfield 33, 3) := by decide +kernel
theorem dX12_moves_151 : decode cX12_moves 151 = .ok (.sipush 276, 3) := by decide +kernel
theorem dX12_moves_154 : decode cX12_moves 154 = .ok (.iload_n 1, 1) := by decide +kernel
theorem dX12_moves_155 : decode cX12_moves 155 = .ok (.iadd, 1) := by decide +kernel
theorem dX12_moves_156 : decode cX12_moves 156 = .ok (.iconst 0, 1) := by decide +kernel
theorem dX12_moves_157 : decode cX12_moves 157 = .ok (.iastore, 1) := by decide +kernel
theorem dX12_moves_158 : decode cX12_moves 158 = .ok (.iload_n 2, 1) := by decide +kernel
theorem dX12_moves_159 : decode cX12_moves 159 = .ok (.ifCond .ge 7, 3) := by decide +kernel
theorem dX12_moves_162 : decode cX12_moves 162 = .ok (.iconst (-1), 1) := by decide +kernel
theorem dX12_moves_163 : decode cX12_moves 163 = .ok (.goto 9, 3) := by decide +kernel
theorem dX12_moves_166 : decode cX12_moves 166 = .ok (.aload_n 0, 1) := by decide +kernel
theorem dX12_moves_167 : decode cX12_moves 167 = .ok (.iload_n 2, 1) := by decide +kernel
theorem dX12_moves_168 : decode cX12_moves 168 = .ok (.iload_n 1, 1) := by decide +kernel
theorem dX12_moves_169 : decode cX12_moves 169 = .ok (.invokevirtual 298, 3) := by decide +kernel
theorem dX12_moves_172 : decode cX12_moves 172 = .ok (.istore_n 3, 1) := by decide +kernel
theorem dX12_moves_173 : decode cX12_moves 173 = .ok (.iload_n 3, 1) := by decide +kernel
theorem dX12_moves_174 : decode cX12_moves 174 = .ok (.ifCond .lt 9, 3) := by decide +kernel
theorem dX12_moves_177 : decode cX12_moves 177 = .ok (.aload_n 0, 1) := by decide +kernel
theorem dX12_moves_178 : decode cX12_moves 178 = .ok (.iload_n 1, 1) := by decide +kernel
theorem dX12_moves_179 : decode cX12_moves 179 = .ok (.iload_n 2, 1) := by decide +kernel
theorem dX12_moves_180 : decode cX12_moves 180 = .ok (.invokevirtual 366, 3) := by decide +kernel
theorem dX12_moves_183 : decode cX12_moves 183 = .ok (.iconst 0, 1) := by decide +kernel
theorem dX12_moves_184 : decode cX12_moves 184 = .ok (.istore 4, 2) := by decide +kernel
theorem dX12_moves_186 : decode cX12_moves 186 = .ok (.iload 4, 2) := by decide +kernel
theorem dX12_moves_188 : decode cX12_moves 188 = .ok (.aload_n 0, 1) := by decide +kernel
theorem dX12_moves_189 : decode cX12_moves 189 = .ok (.getfield 33, 3) := by decide +kernel
theorem dX12_moves_192 : decode cX12_moves 192 = .ok (.iconst 4, 1) := by decide +kernel
theorem dX12_moves_193 : decode cX12_moves 193 = .ok (.iaload, 1) := by decide +kernel
theorem dX12_moves_194 : decode cX12_moves 194 = .ok (.if_icmp .ge 70, 3) := by decide +kernel
theorem dX12_moves_197 : decode cX12_moves 197 = .ok (.aload_n 0, 1) := by decide +kernel
theorem dX12_moves_198 : decode cX12_moves 198 = .ok (.getfield 33, 3) := by decide +kernel
theorem dX12_moves_201 : decode cX12_moves 201 = .ok (.sipush 249, 3) := by decide +kernel
theorem dX12_moves_204 : decode cX12_moves 204 = .ok (.iload 4, 2) := by decide +kernel
theorem dX12_moves_206 : decode cX12_moves 206 = .ok (.iadd, 1) := by decide +kernel
theorem dX12_moves_207 : decode cX12_moves 207 = .ok (.iaload, 1) := by decide +kernel
theorem dX12_moves_208 : decode cX12_moves 208 = .ok (.iload_n 1, 1) := by decide +kernel
theorem dX12_moves_209 : decode cX12_moves 209 = .ok (.iconst 1, 1) := by decide +kernel
theorem dX12_moves_210 : decode cX12_moves 210 = .ok (.iadd, 1) := by decide +kernel
theorem dX12_moves_211 : decode cX12_moves 211 = .ok (.if_icmp .ne 47, 3) := by decide +kernel
theorem dX12_moves_214 : decode cX12_moves 214 = .ok (.iload_n 2, 1) := by decide +kernel
theorem dX12_moves_215 : decode cX12_moves 215 = .ok (.ifCond .lt 19, 3) := by decide +kernel
theorem dX12_moves_218 : decode cX12_moves 218 = .ok (.aload_n 0, 1) := by decide +kernel
theorem dX12_moves_219 : decode cX12_moves 219 = .ok (.iload 4, 2) := by decide +kernel
theorem dX12_moves_221 : decode cX12_moves 221 = .ok (.invokevirtual 304, 3) := by decide +kernel
theorem dX12_moves_224 : decode cX12_moves 224 = .ok (.iload_n 2, 1) := by decide +kernel
theorem dX12_moves_225 : decode cX12_moves 225 = .ok (.invokestatic 280, 3) := by decide +kernel
theorem dX12_moves_228 : decode cX12_moves 228 = .ok (.ifCond .eq 6, 3) := by decide +kernel
theorem dX12_moves_231 : decode cX12_moves 231 = .ok (.goto 27, 3) := by decide +kernel
theorem dX12_moves_234 : decode cX12_moves 234 = .ok (.aload_n 0, 1) := by decide +kernel
theorem dX12_moves_235 : decode cX12_moves 235 = .ok (.getfield 33, 3) := by decide +kernel
theorem dX12_moves_238 : decode cX12_moves 238 = .ok (.sipush 229, 3) := by decide +kernel
theorem dX12_moves_241 : decode cX12_moves 241 = .ok (.iload 4, 2) := by decide +kernel
theorem dX12_moves_243 : decode cX12_moves 243 = .ok (.iadd, 1) := by decide +kernel
theorem dX12_moves_244 : decode cX12_moves 244 = .ok (.iconst 0, 1) := by decide +kernel
theorem dX12_moves_245 : decode cX12_moves 245 = .ok (.iastore, 1) := by decide +kernel
theorem dX12_moves_246 : decode cX12_moves 246 = .ok (.aload_n 0, 1) := by decide +kernel
theorem dX12_moves_247 : decode cX12_moves 247 = .ok (.getfield 33, 3) := by decide +kernel
theorem dX12_moves_250 : decode cX12_moves 250 = .ok (.sipush 249, 3) := by decide +kernel
theorem dX12_moves_253 : decode cX12_moves 253 = .ok (.iload 4, 2) := by decide +kernel
theorem dX12_moves_255 : decode cX12_moves 255 = .ok (.iadd, 1) := by decide +kernel
theorem dX12_moves_256 : decode cX12_moves 256 = .ok (.iconst 0, 1) := by decide +kernel
theorem dX12_moves_257 : decode cX12_moves 257 = .ok (.iastore, 1) := by decide +kernel
theorem dX12_moves_258 : decode cX12_moves 258 = .ok (.iinc 4 1, 3) := by decide +kernel
theorem dX12_moves_261 : decode cX12_moves 261 = .ok (.goto (-75), 3) := by decide +kernel
theorem dX12_moves_264 : decode cX12_moves 264 = .ok (.return_, 1) := by decide +kernel
theorem dX12_meets_0 : decode cX12_meets 0 = .ok (.iconst 0, 1) := by decide +kernel
theorem dX12_meets_1 : decode cX12_meets 1 = .ok (.istore_n 3, 1) := by decide +kernel
theorem dX12_meets_2 : decode cX12_meets 2 = .ok (.iload_n 3, 1) := by decide +kernel
theorem dX12_meets_3 : decode cX12_meets 3 = .ok (.aload_n 0, 1) := by decide +kernel
theorem dX12_meets_4 : decode cX12_meets 4 = .ok (.getfield 33, 3) := by decide +kernel
theorem dX12_meets_7 : decode cX12_meets 7 = .ok (.bipush 6, 2) := by decide +kernel
theorem dX12_meets_9 : decode cX12_meets 9 = .ok (.iaload, 1) := by decide +kernel
theorem dX12_meets_10 : decode cX12_meets 10 = .ok (.if_icmp .ge 39, 3) := by decide +kernel
theorem dX12_meets_13 : decode cX12_meets 13 = .ok (.aload_n 0, 1) := by decide +kernel
theorem dX12_meets_14 : decode cX12_meets 14 = .ok (.getfield 33, 3) := by decide +kernel
theorem dX12_meets_17 : decode cX12_meets 17 = .ok (.sipush 271, 3) := by decide +kernel
theorem dX12_meets_20 : decode cX12_meets 20 = .ok (.iload_n 3, 1) := by decide +kernel
theorem dX12_meets_21 : decode cX12_meets 21 = .ok (.iadd, 1) := by decide +kernel
theorem dX12_meets_22 : decode cX12_meets 22 = .ok (.iaload, 1) := by decide +kernel
theorem dX12_meets_23 : decode cX12_meets 23 = .ok (.iload_n 2, 1) := by decide +kernel
theorem dX12_meets_24 : decode cX12_meets 24 = .ok (.iconst 1, 1) := by decide +kernel
theorem dX12_meets_25 : decode cX12_meets 25 = .ok (.iadd, 1) := by decide +kernel
theorem dX12_meets_26 : decode cX12_meets 26 = .ok (.if_icmp .ne 17, 3) := by decide +kernel
theorem dX12_meets_29 : decode cX12_meets 29 = .ok (.aload_n 0, 1) := by decide +kernel
theorem dX12_meets_30 : decode cX12_meets 30 = .ok (.getfield 33, 3) := by decide +kernel
theorem dX12_meets_33 : decode cX12_meets 33 = .ok (.sipush 281, 3) := by decide +kernel
theorem dX12_meets_36 : decode cX12_meets 36 = .ok (.dup2, 1) := by decide +kernel
theorem dX12_meets_37 : decode cX12_meets 37 = .ok (.iaload, 1) := by decide +kernel
theorem dX12_meets_38 : decode cX12_meets 38 = .ok (.iconst 1, 1) := by decide +kernel
theorem dX12_meets_39 : decode cX12_meets 39 = .ok (.iload_n 3, 1) := by decide +kernel
theorem dX12_meets_40 : decode cX12_meets 40 = .ok (.ishl, 1) := by decide +kernel
theorem dX12_meets_41 : decode cX12_meets 41 = .ok (.ior, 1) := by decide +kernel
theorem dX12_meets_42 : decode cX12_meets 42 = .ok (.iastore, 1) := by decide +kernel
theorem dX12_meets_43 : decode cX12_meets 43 = .ok (.iinc 3 1, 3) := by decide +kernel
theorem dX12_meets_46 : decode cX12_meets 46 = .ok (.goto (-44), 3) := by decide +kernel
theorem dX12_meets_49 : decode cX12_meets 49 = .ok (.aload_n 0, 1) := by decide +kernel
theorem dX12_meets_50 : decode cX12_meets 50 = .ok (.getfield 33, 3) := by decide +kernel
theorem dX12_meets_53 : decode cX12_meets 53 = .ok (.sipush 282, 3) := by decide +kernel
theorem dX12_meets_56 : decode cX12_meets 56 = .ok (.dup2, 1) := by decide +kernel
theorem dX12_meets_57 : decode cX12_meets 57 = .ok (.iaload, 1) := by decide +kernel
theorem dX12_meets_58 : decode cX12_meets 58 = .ok (.aload_n 0, 1) := by decide +kernel
theorem dX12_meets_59 : decode cX12_meets 59 = .ok (.getfield 33, 3) := by decide +kernel
theorem dX12_meets_62 : decode cX12_meets 62 = .ok (.sipush 281, 3) := by decide +kernel
theorem dX12_meets_65 : decode cX12_meets 65 = .ok (.iaload, 1) := by decide +kernel
theorem dX12_meets_66 : decode cX12_meets 66 = .ok (.iconst (-1), 1) := by decide +kernel
theorem dX12_meets_67 : decode cX12_meets 67 = .ok (.ixor, 1) := by decide +kernel
theorem dX12_meets_68 : decode cX12_meets 68 = .ok (.iand, 1) := by decide +kernel
theorem dX12_meets_69 : decode cX12_meets 69 = .ok (.iastore, 1) := by decide +kernel
theorem dX12_meets_70 : decode cX12_meets 70 = .ok (.aload_n 0, 1) := by decide +kernel
theorem dX12_meets_71 : decode cX12_meets 71 = .ok (.getfield 33, 3) := by decide +kernel
theorem dX12_meets_74 : decode cX12_meets 74 = .ok (.sipush 227, 3) := by decide +kernel
theorem dX12_meets_77 : decode cX12_meets 77 = .ok (.dup2, 1) := by decide +kernel
theorem dX12_meets_78 : decode cX12_meets 78 = .ok (.iaload, 1) := by decide +kernel
theorem dX12_meets_79 : decode cX12_meets 79 = .ok (.iconst 1, 1) := by decide +kernel
theorem dX12_meets_80 : decode cX12_meets 80 = .ok (.iadd, 1) := by decide +kernel
theorem dX12_meets_81 : decode cX12_meets 81 = .ok (.iastore, 1) := by decide +kernel
theorem dX12_meets_82 : decode cX12_meets 82 = .ok (.return_, 1) := by decide +kernel
theorem dX12_tick_0 : decode cX12_tick 0 = .ok (.aload_n 0, 1) := by decide +kernel
theorem dX12_tick_1 : decode cX12_tick 1 = .ok (.getfield 33, 3) := by decide +kernel
theorem dX12_tick_4 : decode cX12_tick 4 = .ok (.sipush 227, 3) := by decide +kernel
theorem dX12_tick_7 : decode cX12_tick 7 = .ok (.iaload, 1) := by decide +kernel
theorem dX12_tick_8 : decode cX12_tick 8 = .ok (.istore_n 1, 1) := by decide +kernel
theorem dX12_tick_9 : decode cX12_tick 9 = .ok (.iconst 0, 1) := by decide +kernel
theorem dX12_tick_10 : decode cX12_tick 10 = .ok (.istore_n 2, 1) := by decide +kernel
theorem dX12_tick_11 : decode cX12_tick 11 = .ok (.iload_n 2, 1) := by decide +kernel
