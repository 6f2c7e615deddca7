theorem dX12_bookLine_237 : decode cX12_bookLine 237 = .ok (.invokevirtual 233, 3) := by decide +kernel
theorem dX12_bookLine_240 : decode cX12_bookLine 240 = .ok (.ifCond .ne 9, 3) := by decide +kernel
theorem dX12_bookLine_243 : decode cX12_bookLine 243 = .ok (.aload_n 0, 1) := by decide +kernel
theorem dX12_bookLine_244 : decode cX12_bookLine 244 = .ok (.iconst 1, 1) := by decide +kernel
theorem dX12_bookLine_245 : decode cX12_bookLine 245 = .ok (.invokevirtual 205, 3) := by decide +kernel
theorem dX12_bookLine_248 : decode cX12_bookLine 248 = .ok (.ireturn, 1) := by decide +kernel
theorem dX12_bookLine_249 : decode cX12_bookLine 249 = .ok (.aload_n 0, 1) := by decide +kernel
theorem dX12_bookLine_250 : decode cX12_bookLine 250 = .ok (.getfield 40, 3) := by decide +kernel
theorem dX12_bookLine_253 : decode cX12_bookLine 253 = .ok (.iload_n 1, 1) := by decide +kernel
theorem dX12_bookLine_254 : decode cX12_bookLine 254 = .ok (.iconst 2, 1) := by decide +kernel
theorem dX12_bookLine_255 : decode cX12_bookLine 255 = .ok (.iadd, 1) := by decide +kernel
theorem dX12_bookLine_256 : decode cX12_bookLine 256 = .ok (.iload 4, 2) := by decide +kernel
theorem dX12_bookLine_258 : decode cX12_bookLine 258 = .ok (.ifCond .eq 7, 3) := by decide +kernel
theorem dX12_bookLine_261 : decode cX12_bookLine 261 = .ok (.iconst 1, 1) := by decide +kernel
theorem dX12_bookLine_262 : decode cX12_bookLine 262 = .ok (.goto 4, 3) := by decide +kernel
theorem dX12_bookLine_265 : decode cX12_bookLine 265 = .ok (.iconst 0, 1) := by decide +kernel
theorem dX12_bookLine_266 : decode cX12_bookLine 266 = .ok (.iastore, 1) := by decide +kernel
theorem dX12_bookLine_267 : decode cX12_bookLine 267 = .ok (.aload_n 0, 1) := by decide +kernel
theorem dX12_bookLine_268 : decode cX12_bookLine 268 = .ok (.invokevirtual 208, 3) := by decide +kernel
theorem dX12_bookLine_271 : decode cX12_bookLine 271 = .ok (.iconst 1, 1) := by decide +kernel
theorem dX12_bookLine_272 : decode cX12_bookLine 272 = .ok (.ireturn, 1) := by decide +kernel
theorem dX12_does_0 : decode cX12_does 0 = .ok (.iconst 0, 1) := by decide +kernel
theorem dX12_does_1 : decode cX12_does 1 = .ok (.istore 4, 2) := by decide +kernel
theorem dX12_does_3 : decode cX12_does 3 = .ok (.iload_n 1, 1) := by decide +kernel
theorem dX12_does_4 : decode cX12_does 4 = .ok (.tableswitch 198 0 4 #[36, 62, 96, 125, 164], 36) := by decide +kernel
theorem dX12_does_40 : decode cX12_does 40 = .ok (.aload_n 0, 1) := by decide +kernel
theorem dX12_does_41 : decode cX12_does 41 = .ok (.iload_n 2, 1) := by decide +kernel
theorem dX12_does_42 : decode cX12_does 42 = .ok (.invokevirtual 376, 3) := by decide +kernel
theorem dX12_does_45 : decode cX12_does 45 = .ok (.istore 4, 2) := by decide +kernel
theorem dX12_does_47 : decode cX12_does 47 = .ok (.iload 4, 2) := by decide +kernel
theorem dX12_does_49 : decode cX12_does 49 = .ok (.ifCond .ne 187, 3) := by decide +kernel
theorem dX12_does_52 : decode cX12_does 52 = .ok (.aload_n 0, 1) := by decide +kernel
theorem dX12_does_53 : decode cX12_does 53 = .ok (.getfield 33, 3) := by decide +kernel
theorem dX12_does_56 : decode cX12_does 56 = .ok (.sipush 229, 3) := by decide +kernel
theorem dX12_does_59 : decode cX12_does 59 = .ok (.iload_n 2, 1) := by decide +kernel
theorem dX12_does_60 : decode cX12_does 60 = .ok (.iadd, 1) := by decide +kernel
theorem dX12_does_61 : decode cX12_does 61 = .ok (.iconst 1, 1) := by decide +kernel
theorem dX12_does_62 : decode cX12_does 62 = .ok (.iastore, 1) := by decide +kernel
theorem dX12_does_63 : decode cX12_does 63 = .ok (.goto 173, 3) := by decide +kernel
theorem dX12_does_66 : decode cX12_does 66 = .ok (.aload_n 0, 1) := by decide +kernel
theorem dX12_does_67 : decode cX12_does 67 = .ok (.getfield 33, 3) := by decide +kernel
theorem dX12_does_70 : decode cX12_does 70 = .ok (.sipush 229, 3) := by decide +kernel
theorem dX12_does_73 : decode cX12_does 73 = .ok (.iload_n 2, 1) := by decide +kernel
theorem dX12_does_74 : decode cX12_does 74 = .ok (.iadd, 1) := by decide +kernel
theorem dX12_does_75 : decode cX12_does 75 = .ok (.iaload, 1) := by decide +kernel
theorem dX12_does_76 : decode cX12_does 76 = .ok (.iconst 1, 1) := by decide +kernel
theorem dX12_does_77 : decode cX12_does 77 = .ok (.if_icmp .eq 7, 3) := by decide +kernel
theorem dX12_does_80 : decode cX12_does 80 = .ok (.iconst 1, 1) := by decide +kernel
theorem dX12_does_81 : decode cX12_does 81 = .ok (.goto 4, 3) := by decide +kernel
theorem dX12_does_84 : decode cX12_does 84 = .ok (.iconst 0, 1) := by decide +kernel
theorem dX12_does_85 : decode cX12_does 85 = .ok (.istore 4, 2) := by decide +kernel
theorem dX12_does_87 : decode cX12_does 87 = .ok (.iload 4, 2) := by decide +kernel
theorem dX12_does_89 : decode cX12_does 89 = .ok (.ifCond .ne 147, 3) := by decide +kernel
theorem dX12_does_92 : decode cX12_does 92 = .ok (.aload_n 0, 1) := by decide +kernel
theorem dX12_does_93 : decode cX12_does 93 = .ok (.iload_n 2, 1) := by decide +kernel
theorem dX12_does_94 : decode cX12_does 94 = .ok (.invokevirtual 382, 3) := by decide +kernel
theorem dX12_does_97 : decode cX12_does 97 = .ok (.goto 139, 3) := by decide +kernel
theorem dX12_does_100 : decode cX12_does 100 = .ok (.aload_n 0, 1) := by decide +kernel
theorem dX12_does_101 : decode cX12_does 101 = .ok (.iload_n 2, 1) := by decide +kernel
theorem dX12_does_102 : decode cX12_does 102 = .ok (.invokevirtual 385, 3) := by decide +kernel
theorem dX12_does_105 : decode cX12_does 105 = .ok (.istore 4, 2) := by decide +kernel
theorem dX12_does_107 : decode cX12_does 107 = .ok (.iload 4, 2) := by decide +kernel
theorem dX12_does_109 : decode cX12_does 109 = .ok (.ifCond .ne 127, 3) := by decide +kernel
theorem dX12_does_112 : decode cX12_does 112 = .ok (.aload_n 0, 1) := by decide +kernel
theorem dX12_does_113 : decode cX12_does 113 = .ok (.getfield 33, 3) := by decide +kernel
theorem dX12_does_116 : decode cX12_does 116 = .ok (.sipush 228, 3) := by decide +kernel
theorem dX12_does_119 : decode cX12_does 119 = .ok (.dup2, 1) := by decide +kernel
theorem dX12_does_120 : decode cX12_does 120 = .ok (.iaload, 1) := by decide +kernel
theorem dX12_does_121 : decode cX12_does 121 = .ok (.iconst 1, 1) := by decide +kernel
theorem dX12_does_122 : decode cX12_does 122 = .ok (.iload_n 2, 1) := by decide +kernel
theorem dX12_does_123 : decode cX12_does 123 = .ok (.ishl, 1) := by decide +kernel
theorem dX12_does_124 : decode cX12_does 124 = .ok (.ixor, 1) := by decide +kernel
theorem dX12_does_125 : decode cX12_does 125 = .ok (.iastore, 1) := by decide +kernel
theorem dX12_does_126 : decode cX12_does 126 = .ok (.goto 110, 3) := by decide +kernel
theorem dX12_does_129 : decode cX12_does 129 = .ok (.aload_n 0, 1) := by decide +kernel
theorem dX12_does_130 : decode cX12_does 130 = .ok (.getfield 33, 3) := by decide +kernel
theorem dX12_does_133 : decode cX12_does 133 = .ok (.sipush 259, 3) := by decide +kernel
theorem dX12_does_136 : decode cX12_does 136 = .ok (.iload_n 2, 1) := by decide +kernel
theorem dX12_does_137 : decode cX12_does 137 = .ok (.iadd, 1) := by decide +kernel
theorem dX12_does_138 : decode cX12_does 138 = .ok (.iaload, 1) := by decide +kernel
theorem dX12_does_139 : decode cX12_does 139 = .ok (.iload_n 3, 1) := by decide +kernel
theorem dX12_does_140 : decode cX12_does 140 = .ok (.iconst 1, 1) := by decide +kernel
theorem dX12_does_141 : decode cX12_does 141 = .ok (.iadd, 1) := by decide +kernel
theorem dX12_does_142 : decode cX12_does 142 = .ok (.if_icmp .ne 7, 3) := by decide +kernel
theorem dX12_does_145 : decode cX12_does 145 = .ok (.iconst 1, 1) := by decide +kernel
theorem dX12_does_146 : decode cX12_does 146 = .ok (.goto 4, 3) := by decide +kernel
theorem dX12_does_149 : decode cX12_does 149 = .ok (.iconst 0, 1) := by decide +kernel
theorem dX12_does_150 : decode cX12_does 150 = .ok (.istore 4, 2) := by decide +kernel
theorem dX12_does_152 : decode cX12_does 152 = .ok (.aload_n 0, 1) := by decide +kernel
theorem dX12_does_153 : decode cX12_does 153 = .ok (.getfield 33, 3) := by decide +kernel
theorem dX12_does_156 : decode cX12_does 156 = .ok (.sipush 259, 3) := by decide +kernel
theorem dX12_does_159 : decode cX12_does 159 = .ok (.iload_n 2, 1) := by decide +kernel
theorem dX12_does_160 : decode cX12_does 160 = .ok (.iadd, 1) := by decide +kernel
theorem dX12_does_161 : decode cX12_does 161 = .ok (.iload_n 3, 1) := by decide +kernel
theorem dX12_does_162 : decode cX12_does 162 = .ok (.iconst 1, 1) := by decide +kernel
theorem dX12_does_163 : decode cX12_does 163 = .ok (.iadd, 1) := by decide +kernel
theorem dX12_does_164 : decode cX12_does 164 = .ok (.iastore, 1) := by decide +kernel
theorem dX12_does_165 : decode cX12_does 165 = .ok (.goto 71, 3) := by decide +kernel
theorem dX12_does_168 : decode cX12_does 168 = .ok (.aload_n 0, 1) := by decide +kernel
theorem dX12_does_169 : decode cX12_does 169 = .ok (.getfield 33, 3) := by decide +kernel
theorem dX12_does_172 : decode cX12_does 172 = .ok (.sipush 259, 3) := by decide +kernel
theorem dX12_does_175 : decode cX12_does 175 = .ok (.iload_n 2, 1) := by decide +kernel
theorem dX12_does_176 : decode cX12_does 176 = .ok (.iadd, 1) := by decide +kernel
theorem dX12_does_177 : decode cX12_does 177 = .ok (.iaload, 1) := by decide +kernel
theorem dX12_does_178 : decode cX12_does 178 = .ok (.ifCond .ne 7, 3) := by decide +kernel
theorem dX12_does_181 : decode cX12_does 181 = .ok (.iconst 1, 1) := by decide +kernel
theorem dX12_does_182 : decode cX12_does 182 = .ok (.goto 4, 3) := by decide +kernel
theorem dX12_does_185 : decode cX12_does 185 = .ok (.iconst 0, 1) := by decide +kernel
theorem dX12_does_186 : decode cX12_does 186 = .ok (.istore 4, 2) := by decide +kernel
theorem dX12_does_188 : decode cX12_does 188 = .ok (.aload_n 0, 1) := by decide +kernel
theorem dX12_does_189 : decode cX12_does 189 = .ok (.getfield 33, 3) := by decide +kernel
theorem dX12_does_192 : decode cX12_does 192 = .ok (.sipush 259, 3) := by decide +kernel
theorem dX12_does_195 : decode cX12_does 195 = .ok (.iload_n 2, 1) := by decide +kernel
theorem dX12_does_196 : decode cX12_does 196 = .ok (.iadd, 1) := by decide +kernel
theorem dX12_does_197 : decode cX12_does 197 = .ok (.iconst 0, 1) := by decide +kernel
theorem dX12_does_198 : decode cX12_does 198 = .ok (.iastore, 1) := by decide +kernel
theorem dX12_does_199 : decode cX12_does 199 = .ok (.goto 37, 3) := by decide +kernel
theorem dX12_does_202 : decode cX12_does 202 = .ok (.aload_n 0, 1) := by decide +kernel
theorem dX12_does_203 : decode cX12_does 203 = .ok (.getfield 33, 3) := by decide +kernel
theorem dX12_does_206 : decode cX12_does 206 = .ok (.sipush 226, 3) := by decide +kernel
theorem dX12_does_209 : decode cX12_does 209 = .ok (.iaload, 1) := by decide +kernel
theorem dX12_does_210 : decode cX12_does 210 = .ok (.iload_n 2, 1) := by decide +kernel
theorem dX12_does_211 : decode cX12_does 211 = .ok (.iadd, 1) := by decide +kernel
theorem dX12_does_212 : decode cX12_does 212 = .ok (.sipush 1000, 3) := by decide +kernel
theorem dX12_does_215 : decode cX12_does 215 = .ok (.if_icmp .le 7, 3) := by decide +kernel
theorem dX12_does_218 : decode cX12_does 218 = .ok (.iconst 1, 1) := by decide +kernel
theorem dX12_does_219 : decode cX12_does 219 = .ok (.goto 4, 3) := by decide +kernel
theorem dX12_does_222 : decode cX12_does 222 = .ok (.iconst 0, 1) := by decide +kernel
theorem dX12_does_223 : decode cX12_does 223 = .ok (.istore 4, 2) := by decide +kernel
theorem dX12_does_225 : decode cX12_does 225 = .ok (.iload 4, 2) := by decide +kernel
theorem dX12_does_227 : decode cX12_does 227 = .ok (.ifCond .ne 9, 3) := by decide +kernel
theorem dX12_does_230 : decode cX12_does 230 = .ok (.aload_n 0, 1) := by decide +kernel
theorem dX12_does_231 : decode cX12_does 231 = .ok (.iload_n 2, 1) := by decide +kernel
theorem dX12_does_232 : decode cX12_does 232 = .ok (.invokevirtual 388, 3) := by decide +kernel
theorem dX12_does_235 : decode cX12_does 235 = .ok (.pop, 1) := by decide +kernel
theorem dX12_does_236 : decode cX12_does 236 = .ok (.iload 4, 2) := by decide +kernel
theorem dX12_does_238 : decode cX12_does 238 = .ok (.ifCond .le 13, 3) := by decide +kernel
theorem dX12_does_241 : decode cX12_does 241 = .ok (.iload 4, 2) := by decide +kernel
theorem dX12_does_243 : decode cX12_does 243 = .ok (.bipush 10, 2) := by decide +kernel
theorem dX12_does_245 : decode cX12_does 245 = .ok (.iload_n 1, 1) := by decide +kernel
theorem dX12_does_246 : decode cX12_does 246 = .ok (.imul, 1) := by decide +kernel
theorem dX12_does_247 : decode cX12_does 247 = .ok (.iadd, 1) := by decide +kernel
theorem dX12_does_248 : decode cX12_does 248 = .ok (.goto 4, 3) := by decide +kernel
theorem dX12_does_251 : decode cX12_does 251 = .ok (.iconst 0, 1) := by decide +kernel
theorem dX12_does_252 : decode cX12_does 252 = .ok (.ireturn, 1) := by decide +kernel
theorem dX12_book_0 : decode cX12_book 0 = .ok (.aload_n 0, 1) := by decide +kernel
theorem dX12_book_1 : decode cX12_book 1 = .ok (.iconst 0, 1) := by decide +kernel
theorem dX12_book_2 : decode cX12_book 2 = .ok (.putfield 1, 3) := by decide +kernel
theorem dX12_book_5 : decode cX12_book 5 = .ok (.iload_n 1, 1) := by decide +kernel
theorem dX12_book_6 : decode cX12_book 6 = .ok (.iconst 0, 1) := by decide +kernel
theorem dX12_book_7 : decode cX12_book 7 = .ok (.iconst 1, 1) := by decide +kernel
theorem dX12_book_8 : decode cX12_book 8 = .ok (.invokestatic 211, 3) := by decide +kernel
theorem dX12_book_11 : decode cX12_book 11 = .ok (.ifCond .ne 7, 3) := by decide +kernel
theorem dX12_book_14 : decode cX12_book 14 = .ok (.sipush (-1000), 3) := by decide +kernel
theorem dX12_book_17 : decode cX12_book 17 = .ok (.ireturn, 1) := by decide +kernel
theorem dX12_book_18 : decode cX12_book 18 = .ok (.aload_n 0, 1) := by decide +kernel
theorem dX12_book_19 : decode cX12_book 19 = .ok (.sipush 400, 3) := by decide +kernel
theorem dX12_book_22 : decode cX12_book 22 = .ok (.invokevirtual 283, 3) := by decide +kernel
theorem dX12_book_25 : decode cX12_book 25 = .ok (.aload_n 0, 1) := by decide +kernel
theorem dX12_book_26 : decode cX12_book 26 = .ok (.iconst 0, 1) := by decide +kernel
theorem dX12_book_27 : decode cX12_book 27 = .ok (.putfield 196, 3) := by decide +kernel
theorem dX12_book_30 : decode cX12_book 30 = .ok (.aload_n 0, 1) := by decide +kernel
theorem dX12_book_31 : decode cX12_book 31 = .ok (.iconst 0, 1) := by decide +kernel
theorem dX12_book_32 : decode cX12_book 32 = .ok (.putfield 479, 3) := by decide +kernel
theorem dX12_book_35 : decode cX12_book 35 = .ok (.aload_n 0, 1) := by decide +kernel
theorem dX12_book_36 : decode cX12_book 36 = .ok (.invokevirtual 208, 3) := by decide +kernel
theorem dX12_book_39 : decode cX12_book 39 = .ok (.aload_n 0, 1) := by decide +kernel
theorem dX12_book_40 : decode cX12_book 40 = .ok (.getfield 179, 3) := by decide +kernel
theorem dX12_book_43 : decode cX12_book 43 = .ok (.ifCond .eq 40, 3) := by decide +kernel
theorem dX12_book_46 : decode cX12_book 46 = .ok (.aload_n 0, 1) := by decide +kernel
theorem dX12_book_47 : decode cX12_book 47 = .ok (.invokevirtual 482, 3) := by decide +kernel
theorem dX12_book_50 : decode cX12_book 50 = .ok (.ifCond .eq 12, 3) := by decide +kernel
theorem dX12_book_53 : decode cX12_book 53 = .ok (.aload_n 0, 1) := by decide +kernel
theorem dX12_book_54 : decode cX12_book 54 = .ok (.bipush 59, 2) := by decide +kernel
theorem dX12_book_56 : decode cX12_book 56 = .ok (.invokevirtual 292, 3) := by decide +kernel
theorem dX12_book_59 : decode cX12_book 59 = .ok (.ifCond .ne 11, 3) := by decide +kernel
theorem dX12_book_62 : decode cX12_book 62 = .ok (.bipush (-2), 2) := by decide +kernel
theorem dX12_book_64 : decode cX12_book 64 = .ok (.aload_n 0, 1) := by decide +kernel
theorem dX12_book_65 : decode cX12_book 65 = .ok (.getfield 199, 3) := by decide +kernel
theorem dX12_book_68 : decode cX12_book 68 = .ok (.isub, 1) := by decide +kernel
theorem dX12_book_69 : decode cX12_book 69 = .ok (.ireturn, 1) := by decide +kernel
theorem dX12_book_70 : decode cX12_book 70 = .ok (.aload_n 0, 1) := by decide +kernel
theorem dX12_book_71 : decode cX12_book 71 = .ok (.dup, 1) := by decide +kernel
theorem dX12_book_72 : decode cX12_book 72 = .ok (.getfield 479, 3) := by decide +kernel
theorem dX12_book_75 : decode cX12_book 75 = .ok (.iconst 1, 1) := by decide +kernel
theorem dX12_book_76 : decode cX12_book 76 = .ok (.iadd, 1) := by decide +kernel
theorem dX12_book_77 : decode cX12_book 77 = .ok (.putfield 479, 3) := by decide +kernel
theorem dX12_book_80 : decode cX12_book 80 = .ok (.goto (-41), 3) := by decide +kernel
theorem dX12_book_83 : decode cX12_book 83 = .ok (.aload_n 0, 1) := by decide +kernel
theorem dX12_book_84 : decode cX12_book 84 = .ok (.invokevirtual 422, 3) := by decide +kernel
theorem dX12_book_87 : decode cX12_book 87 = .ok (.iconst 0, 1) := by decide +kernel
theorem dX12_book_88 : decode cX12_book 88 = .ok (.istore_n 2, 1) := by decide +kernel
theorem dX12_book_89 : decode cX12_book 89 = .ok (.iload_n 2, 1) := by decide +kernel
theorem dX12_book_90 : decode cX12_book 90 = .ok (.iconst 4, 1) := by decide +kernel
theorem dX12_book_91 : decode cX12_book 91 = .ok (.if_icmp .ge 16, 3) := by decide +kernel
theorem dX12_book_94 : decode cX12_book 94 = .ok (.aload_n 0, 1) := by decide +kernel
theorem dX12_book_95 : decode cX12_book 95 = .ok (.getfield 83, 3) := by decide +kernel
theorem dX12_book_98 : decode cX12_book 98 = .ok (.iload_n 2, 1) := by decide +kernel
theorem dX12_book_99 : decode cX12_book 99 = .ok (.iconst 0, 1) := by decide +kernel
theorem dX12_book_100 : decode cX12_book 100 = .ok (.iastore, 1) := by decide +kernel
theorem dX12_book_101 : decode cX12_book 101 = .ok (.iinc 2 1, 3) := by decide +kernel
theorem dX12_book_104 : decode cX12_book 104 = .ok (.goto (-15), 3) := by decide +kernel
theorem dX12_book_107 : decode cX12_book 107 = .ok (.iconst (-1), 1) := by decide +kernel
theorem dX12_book_108 : decode cX12_book 108 = .ok (.istore_n 2, 1) := by decide +kernel
theorem dX12_book_109 : decode cX12_book 109 = .ok (.iconst 0, 1) := by decide +kernel
theorem dX12_book_110 : decode cX12_book 110 = .ok (.istore_n 3, 1) := by decide +kernel
theorem dX12_book_111 : decode cX12_book 111 = .ok (.iload_n 3, 1) := by decide +kernel
theorem dX12_book_112 : decode cX12_book 112 = .ok (.aload_n 0, 1) := by decide +kernel
theorem dX12_book_113 : decode cX12_book 113 = .ok (.getfield 479, 3) := by decide +kernel
theorem dX12_book_116 : decode cX12_book 116 = .ok (.if_icmp .ge 75, 3) := by decide +kernel
theorem dX12_book_119 : decode cX12_book 119 = .ok (.iload_n 2, 1) := by decide +kernel
theorem dX12_book_120 : decode cX12_book 120 = .ok (.ifCond .ge 71, 3) := by decide +kernel
theorem dX12_book_123 : decode cX12_book 123 = .ok (.aload_n 0, 1) := by decide +kernel
theorem dX12_book_124 : decode cX12_book 124 = .ok (.getfield 83, 3) := by decide +kernel
theorem dX12_book_127 : decode cX12_book 127 = .ok (.iconst 0, 1) := by decide +kernel
theorem dX12_book_128 : decode cX12_book 128 = .ok (.aload_n 0, 1) := by decide +kernel
theorem dX12_book_129 : decode cX12_book 129 = .ok (.aload_n 0, 1) := by decide +kernel
theorem dX12_book_130 : decode cX12_book 130 = .ok (.getfield 40, 3) := by decide +kernel
theorem dX12_book_133 : decode cX12_book 133 = .ok (.iconst 3, 1) := by decide +kernel
theorem dX12_book_134 : decode cX12_book 134 = .ok (.iload_n 3, 1) := by decide +kernel
theorem dX12_book_135 : decode cX12_book 135 = .ok (.imul, 1) := by decide +kernel
theorem dX12_book_136 : decode cX12_book 136 = .ok (.iaload, 1) := by decide +kernel
theorem dX12_book_137 : decode cX12_book 137 = .ok (.aload_n 0, 1) := by decide +kernel
theorem dX12_book_138 : decode cX12_book 138 = .ok (.getfield 40, 3) := by decide +kernel
theorem dX12_book_141 : decode cX12_book 141 = .ok (.iconst 3, 1) := by decide +kernel
theorem dX12_book_142 : decode cX12_book 142 = .ok (.iload_n 3, 1) := by decide +kernel
theorem dX12_book_143 : decode cX12_book 143 = .ok (.imul, 1) := by decide +kernel
theorem dX12_book_144 : decode cX12_book 144 = .ok (.iconst 1, 1) := by decide +kernel
theorem dX12_book_145 : decode cX12_book 145 = .ok (.iadd, 1) := by decide +kernel
theorem dX12_book_146 : decode cX12_book 146 = .ok (.iaload, 1) := by decide +kernel
theorem dX12_book_147 : decode cX12_book 147 = .ok (.aload_n 0, 1) := by decide +kernel
theorem dX12_book_148 : decode cX12_book 148 = .ok (.getfield 40, 3) := by decide +kernel
theorem dX12_book_151 : decode cX12_book 151 = .ok (.iconst 3, 1) := by decide +kernel
theorem dX12_book_152 : decode cX12_book 152 = .ok (.iload_n 3, 1) := by decide +kernel
theorem dX12_book_153 : decode cX12_book 153 = .ok (.imul, 1) := by decide +kernel
theorem dX12_book_154 : decode cX12_book 154 = .ok (.iconst 2, 1) := by decide +kernel
theorem dX12_book_155 : decode cX12_book 155 = .ok (.iadd, 1) := by decide +kernel
theorem dX12_book_156 : decode cX12_book 156 = .ok (.iaload, 1) := by decide +kernel
theorem dX12_book_157 : decode cX12_book 157 = .ok (.invokevirtual 485, 3) := by decide +kernel
theorem dX12_book_160 : decode cX12_book 160 = .ok (.iastore, 1) := by decide +kernel
theorem dX12_book_161 : decode cX12_book 161 = .ok (.aload_n 0, 1) := by decide +kernel
theorem dX12_book_162 : decode cX12_book 162 = .ok (.getfield 83, 3) := by decide +kernel
theorem dX12_book_165 : decode cX12_book 165 = .ok (.iconst 0, 1) := by decide +kernel
theorem dX12_book_166 : decode cX12_book 166 = .ok (.iaload, 1) := by decide +kernel
theorem dX12_book_167 : decode cX12_book 167 = .ok (.ifCond .le 8, 3) := by decide +kernel
theorem dX12_book_170 : decode cX12_book 170 = .ok (.iload_n 3, 1) := by decide +kernel
theorem dX12_book_171 : decode cX12_book 171 = .ok (.istore_n 2, 1) := by decide +kernel
theorem dX12_book_172 : decode cX12_book 172 = .ok (.goto 13, 3) := by decide +kernel
theorem dX12_book_175 : decode cX12_book 175 = .ok (.aload_n 0, 1) := by decide +kernel
theorem dX12_book_176 : decode cX12_book 176 = .ok (.getfield 83, 3) := by decide +kernel
theorem dX12_book_179 : decode cX12_book 179 = .ok (.iconst 1, 1) := by decide +kernel
theorem dX12_book_180 : decode cX12_book 180 = .ok (.dup2, 1) := by decide +kernel
theorem dX12_book_181 : decode cX12_book 181 = .ok (.iaload, 1) := by decide +kernel
theorem dX12_book_182 : decode cX12_book 182 = .ok (.iconst 1, 1) := by decide +kernel
theorem dX12_book_183 : decode cX12_book 183 = .ok (.iadd, 1) := by decide +kernel
theorem dX12_book_184 : decode cX12_book 184 = .ok (.iastore, 1) := by decide +kernel
theorem dX12_book_185 : decode cX12_book 185 = .ok (.iinc 3 1, 3) := by decide +kernel
theorem dX12_book_188 : decode cX12_book 188 = .ok (.goto (-77), 3) := by decide +kernel
theorem dX12_book_191 : decode cX12_book 191 = .ok (.aload_n 0, 1) := by decide +kernel
theorem dX12_book_192 : decode cX12_book 192 = .ok (.getfield 83, 3) := by decide +kernel
theorem dX12_book_195 : decode cX12_book 195 = .ok (.iconst 2, 1) := by decide +kernel
theorem dX12_book_196 : decode cX12_book 196 = .ok (.aload_n 0, 1) := by decide +kernel
theorem dX12_book_197 : decode cX12_book 197 = .ok (.getfield 33, 3) := by decide +kernel
theorem dX12_book_200 : decode cX12_book 200 = .ok (.sipush 226, 3) := by decide +kernel
theorem dX12_book_203 : decode cX12_book 203 = .ok (.iaload, 1) := by decide +kernel
theorem dX12_book_204 : decode cX12_book 204 = .ok (.iastore, 1) := by decide +kernel
theorem dX12_book_205 : decode cX12_book 205 = .ok (.aload_n 0, 1) := by decide +kernel
theorem dX12_book_206 : decode cX12_book 206 = .ok (.getfield 83, 3) := by decide +kernel
theorem dX12_book_209 : decode cX12_book 209 = .ok (.iconst 3, 1) := by decide +kernel
theorem dX12_book_210 : decode cX12_book 210 = .ok (.aload_n 0, 1) := by decide +kernel
theorem dX12_book_211 : decode cX12_book 211 = .ok (.invokevirtual 345, 3) := by decide +kernel
theorem dX12_book_214 : decode cX12_book 214 = .ok (.iastore, 1) := by decide +kernel
theorem dX12_book_215 : decode cX12_book 215 = .ok (.aload_n 0, 1) := by decide +kernel
theorem dX12_book_216 : decode cX12_book 216 = .ok (.iconst 1, 1) := by decide +kernel
theorem dX12_book_217 : decode cX12_book 217 = .ok (.putfield 489, 3) := by decide +kernel
theorem dX12_book_220 : decode cX12_book 220 = .ok (.iload_n 1, 1) := by decide +kernel
theorem dX12_book_221 : decode cX12_book 221 = .ok (.iconst 1, 1) := by decide +kernel
theorem dX12_book_222 : decode cX12_book 222 = .ok (.if_icmp .ne 52, 3) := by decide +kernel
theorem dX12_book_225 : decode cX12_book 225 = .ok (.aload_n 0, 1) := by decide +kernel
theorem dX12_book_226 : decode cX12_book 226 = .ok (.getfield 83, 3) := by decide +kernel
theorem dX12_book_229 : decode cX12_book 229 = .ok (.iconst 1, 1) := by decide +kernel
theorem dX12_book_230 : decode cX12_book 230 = .ok (.iaload, 1) := by decide +kernel
theorem dX12_book_231 : decode cX12_book 231 = .ok (.ifCond .le 43, 3) := by decide +kernel
theorem dX12_book_234 : decode cX12_book 234 = .ok (.aload_n 0, 1) := by decide +kernel
theorem dX12_book_235 : decode cX12_book 235 = .ok (.invokevirtual 379, 3) := by decide +kernel
theorem dX12_book_238 : decode cX12_book 238 = .ok (.iconst 0, 1) := by decide +kernel
theorem dX12_book_239 : decode cX12_book 239 = .ok (.istore_n 3, 1) := by decide +kernel
theorem dX12_book_240 : decode cX12_book 240 = .ok (.iload_n 3, 1) := by decide +kernel
theorem dX12_book_241 : decode cX12_book 241 = .ok (.bipush 62, 2) := by decide +kernel
theorem dX12_book_243 : decode cX12_book 243 = .ok (.if_icmp .ge 31, 3) := by decide +kernel
theorem dX12_book_246 : decode cX12_book 246 = .ok (.aload_n 0, 1) := by decide +kernel
theorem dX12_book_247 : decode cX12_book 247 = .ok (.getfield 50, 3) := by decide +kernel
theorem dX12_book_250 : decode cX12_book 250 = .ok (.bipush 62, 2) := by decide +kernel
theorem dX12_book_252 : decode cX12_book 252 = .ok (.aload_n 0, 1) := by decide +kernel
theorem dX12_book_253 : decode cX12_book 253 = .ok (.getfield 295, 3) := by decide +kernel
theorem dX12_book_256 : decode cX12_book 256 = .ok (.iconst 1, 1) := by decide +kernel
theorem dX12_book_257 : decode cX12_book 257 = .ok (.isub, 1) := by decide +kernel
theorem dX12_book_258 : decode cX12_book 258 = .ok (.imul, 1) := by decide +kernel
theorem dX12_book_259 : decode cX12_book 259 = .ok (.iload_n 3, 1) := by decide +kernel
theorem dX12_book_260 : decode cX12_book 260 = .ok (.iadd, 1) := by decide +kernel
theorem dX12_book_261 : decode cX12_book 261 = .ok (.aload_n 0, 1) := by decide +kernel
theorem dX12_book_262 : decode cX12_book 262 = .ok (.getfield 53, 3) := by decide +kernel
theorem dX12_book_265 : decode cX12_book 265 = .ok (.iload_n 3, 1) := by decide +kernel
theorem dX12_book_266 : decode cX12_book 266 = .ok (.iaload, 1) := by decide +kernel
theorem dX12_book_267 : decode cX12_book 267 = .ok (.iastore, 1) := by decide +kernel
theorem dX12_book_268 : decode cX12_book 268 = .ok (.iinc 3 1, 3) := by decide +kernel
theorem dX12_book_271 : decode cX12_book 271 = .ok (.goto (-31), 3) := by decide +kernel
theorem dX12_book_274 : decode cX12_book 274 = .ok (.iload_n 1, 1) := by decide +kernel
theorem dX12_book_275 : decode cX12_book 275 = .ok (.ifCond .ne 7, 3) := by decide +kernel
theorem dX12_book_278 : decode cX12_book 278 = .ok (.aload_n 0, 1) := by decide +kernel
theorem dX12_book_279 : decode cX12_book 279 = .ok (.invokevirtual 425, 3) := by decide +kernel
theorem dX12_book_282 : decode cX12_book 282 = .ok (.iload_n 2, 1) := by decide +kernel
theorem dX12_book_283 : decode cX12_book 283 = .ok (.ireturn, 1) := by decide +kernel
theorem dX12_told_0 : decode cX12_told 0 = .ok (.aload_n 0, 1) := by decide +kernel
theorem dX12_told_1 : decode cX12_told 1 = .ok (.iconst 0, 1) := by decide +kernel
theorem dX12_told_2 : decode cX12_told 2 = .ok (.putfield 1, 3) := by decide +kernel
theorem dX12_told_5 : decode cX12_told 5 = .ok (.aload_n 0, 1) := by decide +kernel
theorem dX12_told_6 : decode cX12_told 6 = .ok (.getfield 489, 3) := by decide +kernel
theorem dX12_told_9 : decode cX12_told 9 = .ok (.ifCond .eq 21, 3) := by decide +kernel
theorem dX12_told_12 : decode cX12_told 12 = .ok (.iload_n 1, 1) := by decide +kernel
theorem dX12_told_13 : decode cX12_told 13 = .ok (.iconst 0, 1) := by decide +kernel
theorem dX12_told_14 : decode cX12_told 14 = .ok (.iconst 3, 1) := by decide +kernel
theorem dX12_told_15 : decode cX12_told 15 = .ok (.invokestatic 211, 3) := by decide +kernel
theorem dX12_told_18 : decode cX12_told 18 = .ok (.ifCond .eq 12, 3) := by decide +kernel
theorem dX12_told_21 : decode cX12_told 21 = .ok (.aload_n 0, 1) := by decide +kernel
theorem dX12_told_22 : decode cX12_told 22 = .ok (.getfield 83, 3) := by decide +kernel
theorem dX12_told_25 : decode cX12_told 25 = .ok (.iload_n 1, 1) := by decide +kernel
theorem dX12_told_26 : decode cX12_told 26 = .ok (.iaload, 1) := by decide +kernel
theorem dX12_told_27 : decode cX12_told 27 = .ok (.goto 4, 3) := by decide +kernel
theorem dX12_told_30 : decode cX12_told 30 = .ok (.iconst (-1), 1) := by decide +kernel
theorem dX12_told_31 : decode cX12_told 31 = .ok (.ireturn, 1) := by decide +kernel
theorem dX12_code_0 : decode cX12_code 0 = .ok (.aload_n 0, 1) := by decide +kernel
theorem dX12_code_1 : decode cX12_code 1 = .ok (.getfield 40, 3) := by decide +kernel
theorem dX12_code_4 : decode cX12_code 4 = .ok (.iconst 3, 1) := by decide +kernel
theorem dX12_code_5 : decode cX12_code 5 = .ok (.aload_n 0, 1) := by decide +kernel
theorem dX12_code_6 : decode cX12_code 6 = .ok (.getfield 492, 3) := by decide +kernel
theorem dX12_code_9 : decode cX12_code 9 = .ok (.imul, 1) := by decide +kernel
theorem dX12_code_10 : decode cX12_code 10 = .ok (.iload_n 1, 1) := by decide +kernel
theorem dX12_code_11 : decode cX12_code 11 = .ok (.iastore, 1) := by decide +kernel
theorem dX12_code_12 : decode cX12_code 12 = .ok (.aload_n 0, 1) := by decide +kernel
theorem dX12_code_13 : decode cX12_code 13 = .ok (.getfield 40, 3) := by decide +kernel
theorem dX12_code_16 : decode cX12_code 16 = .ok (.iconst 3, 1) := by decide +kernel
theorem dX12_code_17 : decode cX12_code 17 = .ok (.aload_n 0, 1) := by decide +kernel
theorem dX12_code_18 : decode cX12_code 18 = .ok (.getfield 492, 3) := by decide +kernel
theorem dX12_code_21 : decode cX12_code 21 = .ok (.imul, 1) := by decide +kernel
theorem dX12_code_22 : decode cX12_code 22 = .ok (.iconst 1, 1) := by decide +kernel
theorem dX12_code_23 : decode cX12_code 23 = .ok (.iadd, 1) := by decide +kernel
theorem dX12_code_24 : decode cX12_code 24 = .ok (.iload_n 2, 1) := by decide +kernel
theorem dX12_code_25 : decode cX12_code 25 = .ok (.iastore, 1) := by decide +kernel
theorem dX12_code_26 : decode cX12_code 26 = .ok (.aload_n 0, 1) := by decide +kernel
theorem dX12_code_27 : decode cX12_code 27 = .ok (.getfield 40, 3) := by decide +kernel
theorem dX12_code_30 : decode cX12_code 30 = .ok (.iconst 3, 1) := by decide +kernel
theorem dX12_code_31 : decode cX12_code 31 = .ok (.aload_n 0, 1) := by decide +kernel
theorem dX12_code_32 : decode cX12_code 32 = .ok (.getfield 492, 3) := by decide +kernel
theorem dX12_code_35 : decode cX12_code 35 = .ok (.imul, 1) := by decide +kernel
theorem dX12_code_36 : decode cX12_code 36 = .ok (.iconst 2, 1) := by decide +kernel
theorem dX12_code_37 : decode cX12_code 37 = .ok (.iadd, 1) := by decide +kernel
theorem dX12_code_38 : decode cX12_code 38 = .ok (.iload_n 3, 1) := by decide +kernel
theorem dX12_code_39 : decode cX12_code 39 = .ok (.iastore, 1) := by decide +kernel
theorem dX12_code_40 : decode cX12_code 40 = .ok (.aload_n 0, 1) := by decide +kernel
theorem dX12_code_41 : decode cX12_code 41 = .ok (.dup, 1) := by decide +kernel
theorem dX12_code_42 : decode cX12_code 42 = .ok (.getfield 492, 3) := by decide +kernel
theorem dX12_code_45 : decode cX12_code 45 = .ok (.iconst 1, 1) := by decide +kernel
theorem dX12_code_46 : decode cX12_code 46 = .ok (.iadd, 1) := by decide +kernel
theorem dX12_code_47 : decode cX12_code 47 = .ok (.putfield 492, 3) := by decide +kernel
theorem dX12_code_50 : decode cX12_code 50 = .ok (.return_, 1) := by decide +kernel
theorem dX12_joins_0 : decode cX12_joins 0 = .ok (.aload_n 0, 1) := by decide +kernel
theorem dX12_joins_1 : decode cX12_joins 1 = .ok (.getfield 495, 3) := by decide +kernel
theorem dX12_joins_4 : decode cX12_joins 4 = .ok (.ifCond .le 69, 3) := by decide +kernel
theorem dX12_joins_7 : decode cX12_joins 7 = .ok (.aload_n 0, 1) := by decide +kernel
theorem dX12_joins_8 : decode cX12_joins 8 = .ok (.getfield 86, 3) := by decide +kernel
theorem dX12_joins_11 : decode cX12_joins 11 = .ok (.aload_n 0, 1) := by decide +kernel
theorem dX12_joins_12 : decode cX12_joins 12 = .ok (.getfield 495, 3) := by decide +kernel
theorem dX12_joins_15 : decode cX12_joins 15 = .ok (.iconst 1, 1) := by decide +kernel
theorem dX12_joins_16 : decode cX12_joins 16 = .ok (.isub, 1) := by decide +kernel
theorem dX12_joins_17 : decode cX12_joins 17 = .ok (.iaload, 1) := by decide +kernel
theorem dX12_joins_18 : decode cX12_joins 18 = .ok (.bipush 21, 2) := by decide +kernel
theorem dX12_joins_20 : decode cX12_joins 20 = .ok (.if_icmp .eq 25, 3) := by decide +kernel
theorem dX12_joins_23 : decode cX12_joins 23 = .ok (.aload_n 0, 1) := by decide +kernel
theorem dX12_joins_24 : decode cX12_joins 24 = .ok (.getfield 86, 3) := by decide +kernel
theorem dX12_joins_27 : decode cX12_joins 27 = .ok (.aload_n 0, 1) := by decide +kernel
theorem dX12_joins_28 : decode cX12_joins 28 = .ok (.getfield 495, 3) := by decide +kernel
theorem dX12_joins_31 : decode cX12_joins 31 = .ok (.iconst 1, 1) := by decide +kernel
theorem dX12_joins_32 : decode cX12_joins 32 = .ok (.isub, 1) := by decide +kernel
theorem dX12_joins_33 : decode cX12_joins 33 = .ok (.iaload, 1) := by decide +kernel
theorem dX12_joins_34 : decode cX12_joins 34 = .ok (.bipush 22, 2) := by decide +kernel
theorem dX12_joins_36 : decode cX12_joins 36 = .ok (.if_icmp .ne 37, 3) := by decide +kernel
theorem dX12_joins_39 : decode cX12_joins 39 = .ok (.iload_n 1, 1) := by decide +kernel
theorem dX12_joins_40 : decode cX12_joins 40 = .ok (.bipush 22, 2) := by decide +kernel
theorem dX12_joins_42 : decode cX12_joins 42 = .ok (.if_icmp .ne 31, 3) := by decide +kernel
theorem dX12_joins_45 : decode cX12_joins 45 = .ok (.aload_n 0, 1) := by decide +kernel
theorem dX12_joins_46 : decode cX12_joins 46 = .ok (.dup, 1) := by decide +kernel
theorem dX12_joins_47 : decode cX12_joins 47 = .ok (.getfield 495, 3) := by decide +kernel
theorem dX12_joins_50 : decode cX12_joins 50 = .ok (.iconst 1, 1) := by decide +kernel
theorem dX12_joins_51 : decode cX12_joins 51 = .ok (.isub, 1) := by decide +kernel
theorem dX12_joins_52 : decode cX12_joins 52 = .ok (.putfield 495, 3) := by decide +kernel
theorem dX12_joins_55 : decode cX12_joins 55 = .ok (.aload_n 0, 1) := by decide +kernel
theorem dX12_joins_56 : decode cX12_joins 56 = .ok (.aload_n 0, 1) := by decide +kernel
theorem dX12_joins_57 : decode cX12_joins 57 = .ok (.getfield 86, 3) := by decide +kernel
theorem dX12_joins_60 : decode cX12_joins 60 = .ok (.aload_n 0, 1) := by decide +kernel
theorem dX12_joins_61 : decode cX12_joins 61 = .ok (.getfield 495, 3) := by decide +kernel
theorem dX12_joins_64 : decode cX12_joins 64 = .ok (.iaload, 1) := by decide +kernel
theorem dX12_joins_65 : decode cX12_joins 65 = .ok (.iconst 0, 1) := by decide +kernel
theorem dX12_joins_66 : decode cX12_joins 66 = .ok (.iconst 0, 1) := by decide +kernel
theorem dX12_joins_67 : decode cX12_joins 67 = .ok (.invokevirtual 498, 3) := by decide +kernel
theorem dX12_joins_70 : decode cX12_joins 70 = .ok (.goto (-70), 3) := by decide +kernel
theorem dX12_joins_73 : decode cX12_joins 73 = .ok (.return_, 1) := by decide +kernel
theorem dX12_nots_0 : decode cX12_nots 0 = .ok (.aload_n 0, 1) := by decide +kernel
theorem dX12_nots_1 : decode cX12_nots 1 = .ok (.getfield 495, 3) := by decide +kernel
theorem dX12_nots_4 : decode cX12_nots 4 = .ok (.ifCond .le 50, 3) := by decide +kernel
theorem dX12_nots_7 : decode cX12_nots 7 = .ok (.aload_n 0, 1) := by decide +kernel
theorem dX12_nots_8 : decode cX12_nots 8 = .ok (.getfield 86, 3) := by decide +kernel
theorem dX12_nots_11 : decode cX12_nots 11 = .ok (.aload_n 0, 1) := by decide +kernel
theorem dX12_nots_12 : decode cX12_nots 12 = .ok (.getfield 495, 3) := by decide +kernel
theorem dX12_nots_15 : decode cX12_nots 15 = .ok (.iconst 1, 1) := by decide +kernel
theorem dX12_nots_16 : decode cX12_nots 16 = .ok (.isub, 1) := by decide +kernel
theorem dX12_nots_17 : decode cX12_nots 17 = .ok (.iaload, 1) := by decide +kernel
theorem dX12_nots_18 : decode cX12_nots 18 = .ok (.bipush 20, 2) := by decide +kernel
theorem dX12_nots_20 : decode cX12_nots 20 = .ok (.if_icmp .ne 34, 3) := by decide +kernel
theorem dX12_nots_23 : decode cX12_nots 23 = .ok (.aload_n 0, 1) := by decide +kernel
theorem dX12_nots_24 : decode cX12_nots 24 = .ok (.dup, 1) := by decide +kernel
theorem dX12_nots_25 : decode cX12_nots 25 = .ok (.getfield 495, 3) := by decide +kernel
theorem dX12_nots_28 : decode cX12_nots 28 = .ok (.iconst 1, 1) := by decide +kernel
theorem dX12_nots_29 : decode cX12_nots 29 = .ok (.isub, 1) := by decide +kernel
theorem dX12_nots_30 : decode cX12_nots 30 = .ok (.putfield 495, 3) := by decide +kernel
theorem dX12_nots_33 : decode cX12_nots 33 = .ok (.aload_n 0, 1) := by decide +kernel
theorem dX12_nots_34 : decode cX12_nots 34 = .ok (.dup, 1) := by decide +kernel
theorem dX12_nots_35 : decode cX12_nots 35 = .ok (.getfield 502, 3) := by decide +kernel
theorem dX12_nots_38 : decode cX12_nots 38 = .ok (.iconst 1, 1) := by decide +kernel
theorem dX12_nots_39 : decode cX12_nots 39 = .ok (.isub, 1) := by decide +kernel
theorem dX12_nots_40 : decode cX12_nots 40 = .ok (.putfield 502, 3) := by decide +kernel
theorem dX12_nots_43 : decode cX12_nots 43 = .ok (.aload_n 0, 1) := by decide +kernel
theorem dX12_nots_44 : decode cX12_nots 44 = .ok (.bipush 20, 2) := by decide +kernel
theorem dX12_nots_46 : decode cX12_nots 46 = .ok (.iconst 0, 1) := by decide +kernel
theorem dX12_nots_47 : decode cX12_nots 47 = .ok (.iconst 0, 1) := by decide +kernel
theorem dX12_nots_48 : decode cX12_nots 48 = .ok (.invokevirtual 498, 3) := by decide +kernel
theorem dX12_nots_51 : decode cX12_nots 51 = .ok (.goto (-51), 3) := by decide +kernel
theorem dX12_nots_54 : decode cX12_nots 54 = .ok (.return_, 1) := by decide +kernel
theorem dX12_leafOf_0 : decode cX12_leafOf 0 = .ok (.aload_n 0, 1) := by decide +kernel
theorem dX12_leafOf_1 : decode cX12_leafOf 1 = .ok (.ldc2_w 150, 3) := by decide +kernel
theorem dX12_leafOf_4 : decode cX12_leafOf 4 = .ok (.invokevirtual 233, 3) := by decide +kernel
theorem dX12_leafOf_7 : decode cX12_leafOf 7 = .ok (.ifCond .eq 7, 3) := by decide +kernel
theorem dX12_leafOf_10 : decode cX12_leafOf 10 = .ok (.iconst 0, 1) := by decide +kernel
theorem dX12_leafOf_11 : decode cX12_leafOf 11 = .ok (.goto 104, 3) := by decide +kernel
theorem dX12_leafOf_14 : decode cX12_leafOf 14 = .ok (.aload_n 0, 1) := by decide +kernel
theorem dX12_leafOf_15 : decode cX12_leafOf 15 = .ok (.ldc2_w 152, 3) := by decide +kernel
theorem dX12_leafOf_18 : decode cX12_leafOf 18 = .ok (.invokevirtual 233, 3) := by decide +kernel
theorem dX12_leafOf_21 : decode cX12_leafOf 21 = .ok (.ifCond .eq 7, 3) := by decide +kernel
theorem dX12_leafOf_24 : decode cX12_leafOf 24 = .ok (.iconst 1, 1) := by decide +kernel
theorem dX12_leafOf_25 : decode cX12_leafOf 25 = .ok (.goto 90, 3) := by decide +kernel
theorem dX12_leafOf_28 : decode cX12_leafOf 28 = .ok (.aload_n 0, 1) := by decide +kernel
theorem dX12_leafOf_29 : decode cX12_leafOf 29 = .ok (.ldc2_w 154, 3) := by decide +kernel
theorem dX12_leafOf_32 : decode cX12_leafOf 32 = .ok (.invokevirtual 233, 3) := by decide +kernel
theorem dX12_leafOf_35 : decode cX12_leafOf 35 = .ok (.ifCond .eq 7, 3) := by decide +kernel
theorem dX12_leafOf_38 : decode cX12_leafOf 38 = .ok (.iconst 2, 1) := by decide +kernel
theorem dX12_leafOf_39 : decode cX12_leafOf 39 = .ok (.goto 76, 3) := by decide +kernel
theorem dX12_leafOf_42 : decode cX12_leafOf 42 = .ok (.aload_n 0, 1) := by decide +kernel
theorem dX12_leafOf_43 : decode cX12_leafOf 43 = .ok (.ldc2_w 156, 3) := by decide +kernel
theorem dX12_leafOf_46 : decode cX12_leafOf 46 = .ok (.invokevirtual 233, 3) := by decide +kernel
theorem dX12_leafOf_49 : decode cX12_leafOf 49 = .ok (.ifCond .eq 7, 3) := by decide +kernel
theorem dX12_leafOf_52 : decode cX12_leafOf 52 = .ok (.iconst 3, 1) := by decide +kernel
theorem dX12_leafOf_53 : decode cX12_leafOf 53 = .ok (.goto 62, 3) := by decide +kernel
theorem dX12_leafOf_56 : decode cX12_leafOf 56 = .ok (.aload_n 0, 1) := by decide +kernel
theorem dX12_leafOf_57 : decode cX12_leafOf 57 = .ok (.ldc2_w 158, 3) := by decide +kernel
theorem dX12_leafOf_60 : decode cX12_leafOf 60 = .ok (.invokevirtual 233, 3) := by decide +kernel
theorem dX12_leafOf_63 : decode cX12_leafOf 63 = .ok (.ifCond .eq 7, 3) := by decide +kernel
theorem dX12_leafOf_66 : decode cX12_leafOf 66 = .ok (.iconst 4, 1) := by decide +kernel
theorem dX12_leafOf_67 : decode cX12_leafOf 67 = .ok (.goto 48, 3) := by decide +kernel
theorem dX12_leafOf_70 : decode cX12_leafOf 70 = .ok (.aload_n 0, 1) := by decide +kernel
theorem dX12_leafOf_71 : decode cX12_leafOf 71 = .ok (.ldc2_w 160, 3) := by decide +kernel
theorem dX12_leafOf_74 : decode cX12_leafOf 74 = .ok (.invokevirtual 233, 3) := by decide +kernel
theorem dX12_leafOf_77 : decode cX12_leafOf 77 = .ok (.ifCond .eq 7, 3) := by decide +kernel
theorem dX12_leafOf_80 : decode cX12_leafOf 80 = .ok (.iconst 5, 1) := by decide +kernel
theorem dX12_leafOf_81 : decode cX12_leafOf 81 = .ok (.goto 34, 3) := by decide +kernel
theorem dX12_leafOf_84 : decode cX12_leafOf 84 = .ok (.aload_n 0, 1) := by decide +kernel
theorem dX12_leafOf_85 : decode cX12_leafOf 85 = .ok (.ldc2_w 162, 3) := by decide +kernel
theorem dX12_leafOf_88 : decode cX12_leafOf 88 = .ok (.invokevirtual 233, 3) := by decide +kernel
theorem dX12_leafOf_91 : decode cX12_leafOf 91 = .ok (.ifCond .eq 8, 3) := by decide +kernel
theorem dX12_leafOf_94 : decode cX12_leafOf 94 = .ok (.bipush 6, 2) := by decide +kernel
theorem dX12_leafOf_96 : decode cX12_leafOf 96 = .ok (.goto 19, 3) := by decide +kernel
theorem dX12_leafOf_99 : decode cX12_leafOf 99 = .ok (.aload_n 0, 1) := by decide +kernel
theorem dX12_leafOf_100 : decode cX12_leafOf 100 = .ok (.ldc2_w 164, 3) := by decide +kernel
theorem dX12_leafOf_103 : decode cX12_leafOf 103 = .ok (.invokevirtual 233, 3) := by decide +kernel
theorem dX12_leafOf_106 : decode cX12_leafOf 106 = .ok (.ifCond .eq 8, 3) := by decide +kernel
theorem dX12_leafOf_109 : decode cX12_leafOf 109 = .ok (.bipush 7, 2) := by decide +kernel
theorem dX12_leafOf_111 : decode cX12_leafOf 111 = .ok (.goto 4, 3) := by decide +kernel
theorem dX12_leafOf_114 : decode cX12_leafOf 114 = .ok (.iconst (-1), 1) := by decide +kernel
theorem dX12_leafOf_115 : decode cX12_leafOf 115 = .ok (.ireturn, 1) := by decide +kernel
theorem dX12_operand_0 : decode cX12_operand 0 = .ok (.aload_n 0, 1) := by decide +kernel
theorem dX12_operand_1 : decode cX12_operand 1 = .ok (.ldc2_w 148, 3) := by decide +kernel
theorem dX12_operand_4 : decode cX12_operand 4 = .ok (.invokevirtual 233, 3) := by decide +kernel
theorem dX12_operand_7 : decode cX12_operand 7 = .ok (.istore_n 1, 1) := by decide +kernel
theorem dX12_operand_8 : decode cX12_operand 8 = .ok (.aload_n 0, 1) := by decide +kernel
theorem dX12_operand_9 : decode cX12_operand 9 = .ok (.bipush 40, 2) := by decide +kernel
theorem dX12_operand_11 : decode cX12_operand 11 = .ok (.invokevirtual 202, 3) := by decide +kernel
theorem dX12_operand_14 : decode cX12_operand 14 = .ok (.istore_n 2, 1) := by decide +kernel
theorem dX12_operand_15 : decode cX12_operand 15 = .ok (.aload_n 0, 1) := by decide +kernel
theorem dX12_operand_16 : decode cX12_operand 16 = .ok (.invokevirtual 505, 3) := by decide +kernel
theorem dX12_operand_19 : decode cX12_operand 19 = .ok (.istore_n 3, 1) := by decide +kernel
theorem dX12_operand_20 : decode cX12_operand 20 = .ok (.iload_n 1, 1) := by decide +kernel
theorem dX12_operand_21 : decode cX12_operand 21 = .ok (.ifCond .ne 17, 3) := by decide +kernel
theorem dX12_operand_24 : decode cX12_operand 24 = .ok (.iload_n 2, 1) := by decide +kernel
theorem dX12_operand_25 : decode cX12_operand 25 = .ok (.ifCond .ne 13, 3) := by decide +kernel
theorem dX12_operand_28 : decode cX12_operand 28 = .ok (.iload_n 3, 1) := by decide +kernel
theorem dX12_operand_29 : decode cX12_operand 29 = .ok (.ifCond .ge 9, 3) := by decide +kernel
theorem dX12_operand_32 : decode cX12_operand 32 = .ok (.aload_n 0, 1) := by decide +kernel
theorem dX12_operand_33 : decode cX12_operand 33 = .ok (.iconst 1, 1) := by decide +kernel
theorem dX12_operand_34 : decode cX12_operand 34 = .ok (.invokevirtual 205, 3) := by decide +kernel
theorem dX12_operand_37 : decode cX12_operand 37 = .ok (.ireturn, 1) := by decide +kernel
theorem dX12_operand_38 : decode cX12_operand 38 = .ok (.aload_n 0, 1) := by decide +kernel
theorem dX12_operand_39 : decode cX12_operand 39 = .ok (.getfield 508, 3) := by decide +kernel
theorem dX12_operand_42 : decode cX12_operand 42 = .ok (.bipush 20, 2) := by decide +kernel
theorem dX12_operand_44 : decode cX12_operand 44 = .ok (.if_icmp .eq 12, 3) := by decide +kernel
theorem dX12_operand_47 : decode cX12_operand 47 = .ok (.aload_n 0, 1) := by decide +kernel
theorem dX12_operand_48 : decode cX12_operand 48 = .ok (.getfield 502, 3) := by decide +kernel
theorem dX12_operand_51 : decode cX12_operand 51 = .ok (.bipush 8, 2) := by decide +kernel
theorem dX12_operand_53 : decode cX12_operand 53 = .ok (.if_icmp .le 9, 3) := by decide +kernel
theorem dX12_operand_56 : decode cX12_operand 56 = .ok (.aload_n 0, 1) := by decide +kernel
theorem dX12_operand_57 : decode cX12_operand 57 = .ok (.iconst 4, 1) := by decide +kernel
theorem dX12_operand_58 : decode cX12_operand 58 = .ok (.invokevirtual 205, 3) := by decide +kernel
theorem dX12_operand_61 : decode cX12_operand 61 = .ok (.ireturn, 1) := by decide +kernel
theorem dX12_operand_62 : decode cX12_operand 62 = .ok (.aload_n 0, 1) := by decide +kernel
theorem dX12_operand_63 : decode cX12_operand 63 = .ok (.dup, 1) := by decide +kernel
theorem dX12_operand_64 : decode cX12_operand 64 = .ok (.getfield 508, 3) := by decide +kernel
theorem dX12_operand_67 : decode cX12_operand 67 = .ok (.iconst 1, 1) := by decide +kernel
theorem dX12_operand_68 : decode cX12_operand 68 = .ok (.iadd, 1) := by decide +kernel
theorem dX12_operand_69 : decode cX12_operand 69 = .ok (.putfield 508, 3) := by decide +kernel
theorem dX12_operand_72 : decode cX12_operand 72 = .ok (.aload_n 0, 1) := by decide +kernel
theorem dX12_operand_73 : decode cX12_operand 73 = .ok (.invokevirtual 208, 3) := by decide +kernel
theorem dX12_operand_76 : decode cX12_operand 76 = .ok (.iload_n 1, 1) := by decide +kernel
theorem dX12_operand_77 : decode cX12_operand 77 = .ok (.ifCond .ne 7, 3) := by decide +kernel
theorem dX12_operand_80 : decode cX12_operand 80 = .ok (.iload_n 2, 1) := by decide +kernel
theorem dX12_operand_81 : decode cX12_operand 81 = .ok (.ifCond .eq 45, 3) := by decide +kernel
theorem dX12_operand_84 : decode cX12_operand 84 = .ok (.aload_n 0, 1) := by decide +kernel
theorem dX12_operand_85 : decode cX12_operand 85 = .ok (.getfield 86, 3) := by decide +kernel
theorem dX12_operand_88 : decode cX12_operand 88 = .ok (.aload_n 0, 1) := by decide +kernel
theorem dX12_operand_89 : decode cX12_operand 89 = .ok (.getfield 495, 3) := by decide +kernel
theorem dX12_operand_92 : decode cX12_operand 92 = .ok (.iload_n 1, 1) := by decide +kernel
theorem dX12_operand_93 : decode cX12_operand 93 = .ok (.ifCond .eq 8, 3) := by decide +kernel
theorem dX12_operand_96 : decode cX12_operand 96 = .ok (.bipush 20, 2) := by decide +kernel
theorem dX12_operand_98 : decode cX12_operand 98 = .ok (.goto 5, 3) := by decide +kernel
theorem dX12_operand_101 : decode cX12_operand 101 = .ok (.bipush 23, 2) := by decide +kernel
theorem dX12_operand_103 : decode cX12_operand 103 = .ok (.iastore, 1) := by decide +kernel
theorem dX12_operand_104 : decode cX12_operand 104 = .ok (.aload_n 0, 1) := by decide +kernel
theorem dX12_operand_105 : decode cX12_operand 105 = .ok (.dup, 1) := by decide +kernel
theorem dX12_operand_106 : decode cX12_operand 106 = .ok (.getfield 495, 3) := by decide +kernel
theorem dX12_operand_109 : decode cX12_operand 109 = .ok (.iconst 1, 1) := by decide +kernel
theorem dX12_operand_110 : decode cX12_operand 110 = .ok (.iadd, 1) := by decide +kernel
theorem dX12_operand_111 : decode cX12_operand 111 = .ok (.putfield 495, 3) := by decide +kernel
theorem dX12_operand_114 : decode cX12_operand 114 = .ok (.aload_n 0, 1) := by decide +kernel
theorem dX12_operand_115 : decode cX12_operand 115 = .ok (.dup, 1) := by decide +kernel
theorem dX12_operand_116 : decode cX12_operand 116 = .ok (.getfield 502, 3) := by decide +kernel
theorem dX12_operand_119 : decode cX12_operand 119 = .ok (.iconst 1, 1) := by decide +kernel
theorem dX12_operand_120 : decode cX12_operand 120 = .ok (.iadd, 1) := by decide +kernel
theorem dX12_operand_121 : decode cX12_operand 121 = .ok (.putfield 502, 3) := by decide +kernel
theorem dX12_operand_124 : decode cX12_operand 124 = .ok (.iconst 1, 1) := by decide +kernel
theorem dX12_operand_125 : decode cX12_operand 125 = .ok (.ireturn, 1) := by decide +kernel
theorem dX12_operand_126 : decode cX12_operand 126 = .ok (.aload_n 0, 1) := by decide +kernel
theorem dX12_operand_127 : decode cX12_operand 127 = .ok (.iconst 1, 1) := by decide +kernel
theorem dX12_operand_128 : decode cX12_operand 128 = .ok (.putfield 511, 3) := by decide +kernel
theorem dX12_operand_131 : decode cX12_operand 131 = .ok (.iload_n 3, 1) := by decide +kernel
theorem dX12_operand_132 : decode cX12_operand 132 = .ok (.iconst 3, 1) := by decide +kernel
theorem dX12_operand_133 : decode cX12_operand 133 = .ok (.if_icmp .ge 12, 3) := by decide +kernel
theorem dX12_operand_136 : decode cX12_operand 136 = .ok (.aload_n 0, 1) := by decide +kernel
theorem dX12_operand_137 : decode cX12_operand 137 = .ok (.iload_n 3, 1) := by decide +kernel
theorem dX12_operand_138 : decode cX12_operand 138 = .ok (.iconst 0, 1) := by decide +kernel
theorem dX12_operand_139 : decode cX12_operand 139 = .ok (.iconst 0, 1) := by decide +kernel
theorem dX12_operand_140 : decode cX12_operand 140 = .ok (.invokevirtual 498, 3) := by decide +kernel
theorem dX12_operand_143 : decode cX12_operand 143 = .ok (.iconst 1, 1) := by decide +kernel
theorem dX12_operand_144 : decode cX12_operand 144 = .ok (.ireturn, 1) := by decide +kernel
theorem dX12_operand_145 : decode cX12_operand 145 = .ok (.iload_n 3, 1) := by decide +kernel
theorem dX12_operand_146 : decode cX12_operand 146 = .ok (.iconst 5, 1) := by decide +kernel
theorem dX12_operand_147 : decode cX12_operand 147 = .ok (.if_icmp .ge 59, 3) := by decide +kernel
theorem dX12_operand_150 : decode cX12_operand 150 = .ok (.iload_n 3, 1) := by decide +kernel
theorem dX12_operand_151 : decode cX12_operand 151 = .ok (.iconst 3, 1) := by decide +kernel
theorem dX12_operand_152 : decode cX12_operand 152 = .ok (.if_icmp .ne 17, 3) := by decide +kernel
theorem dX12_operand_155 : decode cX12_operand 155 = .ok (.aload_n 0, 1) := by decide +kernel
theorem dX12_operand_156 : decode cX12_operand 156 = .ok (.iconst 0, 1) := by decide +kernel
theorem dX12_operand_157 : decode cX12_operand 157 = .ok (.aload_n 0, 1) := by decide +kernel
theorem dX12_operand_158 : decode cX12_operand 158 = .ok (.getfield 33, 3) := by decide +kernel
theorem dX12_operand_161 : decode cX12_operand 161 = .ok (.iconst 0, 1) := by decide +kernel
theorem dX12_operand_162 : decode cX12_operand 162 = .ok (.iaload, 1) := by decide +kernel
theorem dX12_operand_163 : decode cX12_operand 163 = .ok (.invokevirtual 230, 3) := by decide +kernel
theorem dX12_operand_166 : decode cX12_operand 166 = .ok (.goto 15, 3) := by decide +kernel
theorem dX12_operand_169 : decode cX12_operand 169 = .ok (.aload_n 0, 1) := by decide +kernel
theorem dX12_operand_170 : decode cX12_operand 170 = .ok (.bipush 26, 2) := by decide +kernel
theorem dX12_operand_172 : decode cX12_operand 172 = .ok (.aload_n 0, 1) := by decide +kernel
theorem dX12_operand_173 : decode cX12_operand 173 = .ok (.getfield 33, 3) := by decide +kernel
theorem dX12_operand_176 : decode cX12_operand 176 = .ok (.iconst 4, 1) := by decide +kernel
theorem dX12_operand_177 : decode cX12_operand 177 = .ok (.iaload, 1) := by decide +kernel
theorem dX12_operand_178 : decode cX12_operand 178 = .ok (.invokevirtual 230, 3) := by decide +kernel
theorem dX12_operand_181 : decode cX12_operand 181 = .ok (.istore 4, 2) := by decide +kernel
theorem dX12_operand_183 : decode cX12_operand 183 = .ok (.iload 4, 2) := by decide +kernel
theorem dX12_operand_185 : decode cX12_operand 185 = .ok (.ifCond .ne 5, 3) := by decide +kernel
theorem dX12_operand_188 : decode cX12_operand 188 = .ok (.iconst 0, 1) := by decide +kernel
theorem dX12_operand_189 : decode cX12_operand 189 = .ok (.ireturn, 1) := by decide +kernel
theorem dX12_operand_190 : decode cX12_operand 190 = .ok (.aload_n 0, 1) := by decide +kernel
theorem dX12_operand_191 : decode cX12_operand 191 = .ok (.iload_n 3, 1) := by decide +kernel
theorem dX12_operand_192 : decode cX12_operand 192 = .ok (.iconst 0, 1) := by decide +kernel
theorem dX12_operand_193 : decode cX12_operand 193 = .ok (.aload_n 0, 1) := by decide +kernel
theorem dX12_operand_194 : decode cX12_operand 194 = .ok (.getfield 215, 3) := by decide +kernel
theorem dX12_operand_197 : decode cX12_operand 197 = .ok (.invokevirtual 498, 3) := by decide +kernel
theorem dX12_operand_200 : decode cX12_operand 200 = .ok (.aload_n 0, 1) := by decide +kernel
theorem dX12_operand_201 : decode cX12_operand 201 = .ok (.invokevirtual 208, 3) := by decide +kernel
theorem dX12_operand_204 : decode cX12_operand 204 = .ok (.iconst 1, 1) := by decide +kernel
theorem dX12_operand_205 : decode cX12_operand 205 = .ok (.ireturn, 1) := by decide +kernel
theorem dX12_operand_206 : decode cX12_operand 206 = .ok (.aload_n 0, 1) := by decide +kernel
theorem dX12_operand_207 : decode cX12_operand 207 = .ok (.getfield 179, 3) := by decide +kernel
theorem dX12_operand_210 : decode cX12_operand 210 = .ok (.iconst 3, 1) := by decide +kernel
theorem dX12_operand_211 : decode cX12_operand 211 = .ok (.if_icmp .ne 21, 3) := by decide +kernel
theorem dX12_operand_214 : decode cX12_operand 214 = .ok (.aload_n 0, 1) := by decide +kernel
theorem dX12_operand_215 : decode cX12_operand 215 = .ok (.getfield 189, 3) := by decide +kernel
theorem dX12_operand_218 : decode cX12_operand 218 = .ok (.bipush 60, 2) := by decide +kernel
theorem dX12_operand_220 : decode cX12_operand 220 = .ok (.if_icmp .lt 12, 3) := by decide +kernel
theorem dX12_operand_223 : decode cX12_operand 223 = .ok (.aload_n 0, 1) := by decide +kernel
theorem dX12_operand_224 : decode cX12_operand 224 = .ok (.getfield 189, 3) := by decide +kernel
theorem dX12_operand_227 : decode cX12_operand 227 = .ok (.bipush 62, 2) := by decide +kernel
theorem dX12_operand_229 : decode cX12_operand 229 = .ok (.if_icmp .le 9, 3) := by decide +kernel
theorem dX12_operand_232 : decode cX12_operand 232 = .ok (.aload_n 0, 1) := by decide +kernel
theorem dX12_operand_233 : decode cX12_operand 233 = .ok (.iconst 1, 1) := by decide +kernel
theorem dX12_operand_234 : decode cX12_operand 234 = .ok (.invokevirtual 205, 3) := by decide +kernel
theorem dX12_operand_237 : decode cX12_operand 237 = .ok (.ireturn, 1) := by decide +kernel
theorem dX12_operand_238 : decode cX12_operand 238 = .ok (.aload_n 0, 1) := by decide +kernel
theorem dX12_operand_239 : decode cX12_operand 239 = .ok (.getfield 189, 3) := by decide +kernel
theorem dX12_operand_242 : decode cX12_operand 242 = .ok (.istore 4, 2) := by decide +kernel
theorem dX12_operand_244 : decode cX12_operand 244 = .ok (.aload_n 0, 1) := by decide +kernel
theorem dX12_operand_245 : decode cX12_operand 245 = .ok (.invokevirtual 208, 3) := by decide +kernel
theorem dX12_operand_248 : decode cX12_operand 248 = .ok (.aload_n 0, 1) := by decide +kernel
theorem dX12_operand_249 : decode cX12_operand 249 = .ok (.getfield 179, 3) := by decide +kernel
theorem dX12_operand_252 : decode cX12_operand 252 = .ok (.iconst 2, 1) := by decide +kernel
theorem dX12_operand_253 : decode cX12_operand 253 = .ok (.if_icmp .eq 9, 3) := by decide +kernel
theorem dX12_operand_256 : decode cX12_operand 256 = .ok (.aload_n 0, 1) := by decide +kernel
theorem dX12_operand_257 : decode cX12_operand 257 = .ok (.iconst 1, 1) := by decide +kernel
theorem dX12_operand_258 : decode cX12_operand 258 = .ok (.invokevirtual 205, 3) := by decide +kernel
theorem dX12_operand_261 : decode cX12_operand 261 = .ok (.ireturn, 1) := by decide +kernel
theorem dX12_operand_262 : decode cX12_operand 262 = .ok (.aload_n 0, 1) := by decide +kernel
theorem dX12_operand_263 : decode cX12_operand 263 = .ok (.iload_n 3, 1) := by decide +kernel
theorem dX12_operand_264 : decode cX12_operand 264 = .ok (.iload 4, 2) := by decide +kernel
theorem dX12_operand_266 : decode cX12_operand 266 = .ok (.aload_n 0, 1) := by decide +kernel
theorem dX12_operand_267 : decode cX12_operand 267 = .ok (.getfield 189, 3) := by decide +kernel
theorem dX12_operand_270 : decode cX12_operand 270 = .ok (.invokevirtual 498, 3) := by decide +kernel
theorem dX12_operand_273 : decode cX12_operand 273 = .ok (.aload_n 0, 1) := by decide +kernel
theorem dX12_operand_274 : decode cX12_operand 274 = .ok (.invokevirtual 208, 3) := by decide +kernel
theorem dX12_operand_277 : decode cX12_operand 277 = .ok (.iconst 1, 1) := by decide +kernel
theorem dX12_operand_278 : decode cX12_operand 278 = .ok (.ireturn, 1) := by decide +kernel
theorem dX12_behind_0 : decode cX12_behind 0 = .ok (.aload_n 0, 1) := by decide +kernel
theorem dX12_behind_1 : decode cX12_behind 1 = .ok (.invokevirtual 514, 3) := by decide +kernel
theorem dX12_behind_4 : decode cX12_behind 4 = .ok (.aload_n 0, 1) := by decide +kernel
theorem dX12_behind_5 : decode cX12_behind 5 = .ok (.ldc2_w 146, 3) := by decide +kernel
theorem dX12_behind_8 : decode cX12_behind 8 = .ok (.invokevirtual 233, 3) := by decide +kernel
theorem dX12_behind_11 : decode cX12_behind 11 = .ok (.ifCond .ne 13, 3) := by decide +kernel
theorem dX12_behind_14 : decode cX12_behind 14 = .ok (.aload_n 0, 1) := by decide +kernel
theorem dX12_behind_15 : decode cX12_behind 15 = .ok (.ldc2_w 144, 3) := by decide +kernel
theorem dX12_behind_18 : decode cX12_behind 18 = .ok (.invokevirtual 233, 3) := by decide +kernel
theorem dX12_behind_21 : decode cX12_behind 21 = .ok (.ifCond .eq 71, 3) := by decide +kernel
theorem dX12_behind_24 : decode cX12_behind 24 = .ok (.aload_n 0, 1) := by decide +kernel
theorem dX12_behind_25 : decode cX12_behind 25 = .ok (.aload_n 0, 1) := by decide +kernel
theorem dX12_behind_26 : decode cX12_behind 26 = .ok (.ldc2_w 146, 3) := by decide +kernel
theorem dX12_behind_29 : decode cX12_behind 29 = .ok (.invokevirtual 233, 3) := by decide +kernel
theorem dX12_behind_32 : decode cX12_behind 32 = .ok (.ifCond .eq 8, 3) := by decide +kernel
theorem dX12_behind_35 : decode cX12_behind 35 = .ok (.bipush 21, 2) := by decide +kernel
theorem dX12_behind_37 : decode cX12_behind 37 = .ok (.goto 5, 3) := by decide +kernel
theorem dX12_behind_40 : decode cX12_behind 40 = .ok (.bipush 22, 2) := by decide +kernel
theorem dX12_behind_42 : decode cX12_behind 42 = .ok (.invokevirtual 517, 3) := by decide +kernel
theorem dX12_behind_45 : decode cX12_behind 45 = .ok (.aload_n 0, 1) := by decide +kernel
theorem dX12_behind_46 : decode cX12_behind 46 = .ok (.getfield 86, 3) := by decide +kernel
theorem dX12_behind_49 : decode cX12_behind 49 = .ok (.aload_n 0, 1) := by decide +kernel
theorem dX12_behind_50 : decode cX12_behind 50 = .ok (.getfield 495, 3) := by decide +kernel
theorem dX12_behind_53 : decode cX12_behind 53 = .ok (.aload_n 0, 1) := by decide +kernel
theorem dX12_behind_54 : decode cX12_behind 54 = .ok (.ldc2_w 146, 3) := by decide +kernel
theorem dX12_behind_57 : decode cX12_behind 57 = .ok (.invokevirtual 233, 3) := by decide +kernel
theorem dX12_behind_60 : decode cX12_behind 60 = .ok (.ifCond .eq 8, 3) := by decide +kernel
theorem dX12_behind_63 : decode cX12_behind 63 = .ok (.bipush 21, 2) := by decide +kernel
theorem dX12_behind_65 : decode cX12_behind 65 = .ok (.goto 5, 3) := by decide +kernel
theorem dX12_behind_68 : decode cX12_behind 68 = .ok (.bipush 22, 2) := by decide +kernel
theorem dX12_behind_70 : decode cX12_behind 70 = .ok (.iastore, 1) := by decide +kernel
theorem dX12_behind_71 : decode cX12_behind 71 = .ok (.aload_n 0, 1) := by decide +kernel
theorem dX12_behind_72 : decode cX12_behind 72 = .ok (.dup, 1) := by decide +kernel
theorem dX12_behind_73 : decode cX12_behind 73 = .ok (.getfield 495, 3) := by decide +kernel
theorem dX12_behind_76 : decode cX12_behind 76 = .ok (.iconst 1, 1) := by decide +kernel
theorem dX12_behind_77 : decode cX12_behind 77 = .ok (.iadd, 1) := by decide +kernel
theorem dX12_behind_78 : decode cX12_behind 78 = .ok (.putfield 495, 3) := by decide +kernel
theorem dX12_behind_81 : decode cX12_behind 81 = .ok (.aload_n 0, 1) := by decide +kernel
theorem dX12_behind_82 : decode cX12_behind 82 = .ok (.iconst 0, 1) := by decide +kernel
theorem dX12_behind_83 : decode cX12_behind 83 = .ok (.putfield 511, 3) := by decide +kernel
theorem dX12_behind_86 : decode cX12_behind 86 = .ok (.aload_n 0, 1) := by decide +kernel
theorem dX12_behind_87 : decode cX12_behind 87 = .ok (.invokevirtual 208, 3) := by decide +kernel
theorem dX12_behind_90 : decode cX12_behind 90 = .ok (.iconst 1, 1) := by decide +kernel
theorem dX12_behind_91 : decode cX12_behind 91 = .ok (.ireturn, 1) := by decide +kernel
theorem dX12_behind_92 : decode cX12_behind 92 = .ok (.aload_n 0, 1) := by decide +kernel
theorem dX12_behind_93 : decode cX12_behind 93 = .ok (.bipush 22, 2) := by decide +kernel
theorem dX12_behind_95 : decode cX12_behind 95 = .ok (.invokevirtual 517, 3) := by decide +kernel
theorem dX12_behind_98 : decode cX12_behind 98 = .ok (.aload_n 0, 1) := by decide +kernel
theorem dX12_behind_99 : decode cX12_behind 99 = .ok (.bipush 41, 2) := by decide +kernel
theorem dX12_behind_101 : decode cX12_behind 101 = .ok (.invokevirtual 202, 3) := by decide +kernel
theorem dX12_behind_104 : decode cX12_behind 104 = .ok (.ifCond .eq 10, 3) := by decide +kernel
theorem dX12_behind_107 : decode cX12_behind 107 = .ok (.aload_n 0, 1) := by decide +kernel
theorem dX12_behind_108 : decode cX12_behind 108 = .ok (.getfield 495, 3) := by decide +kernel
theorem dX12_behind_111 : decode cX12_behind 111 = .ok (.ifCond .ne 9, 3) := by decide +kernel
theorem dX12_behind_114 : decode cX12_behind 114 = .ok (.aload_n 0, 1) := by decide +kernel
theorem dX12_behind_115 : decode cX12_behind 115 = .ok (.iconst 1, 1) := by decide +kernel
theorem dX12_behind_116 : decode cX12_behind 116 = .ok (.invokevirtual 205, 3) := by decide +kernel
theorem dX12_behind_119 : decode cX12_behind 119 = .ok (.ireturn, 1) := by decide +kernel
theorem dX12_behind_120 : decode cX12_behind 120 = .ok (.aload_n 0, 1) := by decide +kernel
theorem dX12_behind_121 : decode cX12_behind 121 = .ok (.dup, 1) := by decide +kernel
theorem dX12_behind_122 : decode cX12_behind 122 = .ok (.getfield 495, 3) := by decide +kernel
theorem dX12_behind_125 : decode cX12_behind 125 = .ok (.iconst 1, 1) := by decide +kernel
theorem dX12_behind_126 : decode cX12_behind 126 = .ok (.isub, 1) := by decide +kernel
theorem dX12_behind_127 : decode cX12_behind 127 = .ok (.putfield 495, 3) := by decide +kernel
theorem dX12_behind_130 : decode cX12_behind 130 = .ok (.aload_n 0, 1) := by decide +kernel
theorem dX12_behind_131 : decode cX12_behind 131 = .ok (.dup, 1) := by decide +kernel
theorem dX12_behind_132 : decode cX12_behind 132 = .ok (.getfield 502, 3) := by decide +kernel
theorem dX12_behind_135 : decode cX12_behind 135 = .ok (.iconst 1, 1) := by decide +kernel
theorem dX12_behind_136 : decode cX12_behind 136 = .ok (.isub, 1) := by decide +kernel
theorem dX12_behind_137 : decode cX12_behind 137 = .ok (.putfield 502, 3) := by decide +kernel
theorem dX12_behind_140 : decode cX12_behind 140 = .ok (.aload_n 0, 1) := by decide +kernel
theorem dX12_behind_141 : decode cX12_behind 141 = .ok (.invokevirtual 208, 3) := by decide +kernel
theorem dX12_behind_144 : decode cX12_behind 144 = .ok (.iconst 1, 1) := by decide +kernel
theorem dX12_behind_145 : decode cX12_behind 145 = .ok (.ireturn, 1) := by decide +kernel
theorem dX12_sentence_0 : decode cX12_sentence 0 = .ok (.aload_n 0, 1) := by decide +kernel
theorem dX12_sentence_1 : decode cX12_sentence 1 = .ok (.iconst 0, 1) := by decide +kernel
theorem dX12_sentence_2 : decode cX12_sentence 2 = .ok (.putfield 1, 3) := by decide +kernel
theorem dX12_sentence_5 : decode cX12_sentence 5 = .ok (.aload_n 0, 1) := by decide +kernel
theorem dX12_sentence_6 : decode cX12_sentence 6 = .ok (.sipush 200, 3) := by decide +kernel
theorem dX12_sentence_9 : decode cX12_sentence 9 = .ok (.invokevirtual 283, 3) := by decide +kernel
theorem dX12_sentence_12 : decode cX12_sentence 12 = .ok (.aload_n 0, 1) := by decide +kernel
theorem dX12_sentence_13 : decode cX12_sentence 13 = .ok (.iconst 0, 1) := by decide +kernel
theorem dX12_sentence_14 : decode cX12_sentence 14 = .ok (.putfield 196, 3) := by decide +kernel
theorem dX12_sentence_17 : decode cX12_sentence 17 = .ok (.aload_n 0, 1) := by decide +kernel
theorem dX12_sentence_18 : decode cX12_sentence 18 = .ok (.iconst 0, 1) := by decide +kernel
theorem dX12_sentence_19 : decode cX12_sentence 19 = .ok (.putfield 492, 3) := by decide +kernel
theorem dX12_sentence_22 : decode cX12_sentence 22 = .ok (.aload_n 0, 1) := by decide +kernel
theorem dX12_sentence_23 : decode cX12_sentence 23 = .ok (.iconst 0, 1) := by decide +kernel
theorem dX12_sentence_24 : decode cX12_sentence 24 = .ok (.putfield 508, 3) := by decide +kernel
theorem dX12_sentence_27 : decode cX12_sentence 27 = .ok (.aload_n 0, 1) := by decide +kernel
theorem dX12_sentence_28 : decode cX12_sentence 28 = .ok (.iconst 0, 1) := by decide +kernel
theorem dX12_sentence_29 : decode cX12_sentence 29 = .ok (.putfield 495, 3) := by decide +kernel
theorem dX12_sentence_32 : decode cX12_sentence 32 = .ok (.aload_n 0, 1) := by decide +kernel
theorem dX12_sentence_33 : decode cX12_sentence 33 = .ok (.iconst 1, 1) := by decide +kernel
theorem dX12_sentence_34 : decode cX12_sentence 34 = .ok (.putfield 502, 3) := by decide +kernel
theorem dX12_sentence_37 : decode cX12_sentence 37 = .ok (.aload_n 0, 1) := by decide +kernel
theorem dX12_sentence_38 : decode cX12_sentence 38 = .ok (.iconst 0, 1) := by decide +kernel
theorem dX12_sentence_39 : decode cX12_sentence 39 = .ok (.putfield 511, 3) := by decide +kernel
theorem dX12_sentence_42 : decode cX12_sentence 42 = .ok (.aload_n 0, 1) := by decide +kernel
theorem dX12_sentence_43 : decode cX12_sentence 43 = .ok (.invokevirtual 208, 3) := by decide +kernel
theorem dX12_sentence_46 : decode cX12_sentence 46 = .ok (.iconst 1, 1) := by decide +kernel
theorem dX12_sentence_47 : decode cX12_sentence 47 = .ok (.istore_n 1, 1) := by decide +kernel
theorem dX12_sentence_48 : decode cX12_sentence 48 = .ok (.iload_n 1, 1) := by decide +kernel
theorem dX12_sentence_49 : decode cX12_sentence 49 = .ok (.ifCond .eq 83, 3) := by decide +kernel
theorem dX12_sentence_52 : decode cX12_sentence 52 = .ok (.aload_n 0, 1) := by decide +kernel
theorem dX12_sentence_53 : decode cX12_sentence 53 = .ok (.getfield 511, 3) := by decide +kernel
theorem dX12_sentence_56 : decode cX12_sentence 56 = .ok (.ifCond .eq 45, 3) := by decide +kernel
theorem dX12_sentence_59 : decode cX12_sentence 59 = .ok (.aload_n 0, 1) := by decide +kernel
theorem dX12_sentence_60 : decode cX12_sentence 60 = .ok (.getfield 179, 3) := by decide +kernel
theorem dX12_sentence_63 : decode cX12_sentence 63 = .ok (.ifCond .ne 38, 3) := by decide +kernel
theorem dX12_sentence_66 : decode cX12_sentence 66 = .ok (.aload_n 0, 1) := by decide +kernel
theorem dX12_sentence_67 : decode cX12_sentence 67 = .ok (.invokevirtual 514, 3) := by decide +kernel
theorem dX12_sentence_70 : decode cX12_sentence 70 = .ok (.aload_n 0, 1) := by decide +kernel
theorem dX12_sentence_71 : decode cX12_sentence 71 = .ok (.bipush 22, 2) := by decide +kernel
theorem dX12_sentence_73 : decode cX12_sentence 73 = .ok (.invokevirtual 517, 3) := by decide +kernel
theorem dX12_sentence_76 : decode cX12_sentence 76 = .ok (.aload_n 0, 1) := by decide +kernel
theorem dX12_sentence_77 : decode cX12_sentence 77 = .ok (.getfield 495, 3) := by decide +kernel
theorem dX12_sentence_80 : decode cX12_sentence 80 = .ok (.ifCond .le 16, 3) := by decide +kernel
theorem dX12_sentence_83 : decode cX12_sentence 83 = .ok (.aload_n 0, 1) := by decide +kernel
theorem dX12_sentence_84 : decode cX12_sentence 84 = .ok (.iconst 1, 1) := by decide +kernel
theorem dX12_sentence_85 : decode cX12_sentence 85 = .ok (.invokevirtual 205, 3) := by decide +kernel
theorem dX12_sentence_88 : decode cX12_sentence 88 = .ok (.pop, 1) := by decide +kernel
theorem dX12_sentence_89 : decode cX12_sentence 89 = .ok (.iconst (-1), 1) := by decide +kernel
theorem dX12_sentence_90 : decode cX12_sentence 90 = .ok (.aload_n 0, 1) := by decide +kernel
theorem dX12_sentence_91 : decode cX12_sentence 91 = .ok (.getfield 199, 3) := by decide +kernel
theorem dX12_sentence_94 : decode cX12_sentence 94 = .ok (.isub, 1) := by decide +kernel
theorem dX12_sentence_95 : decode cX12_sentence 95 = .ok (.ireturn, 1) := by decide +kernel
theorem dX12_sentence_96 : decode cX12_sentence 96 = .ok (.iconst 0, 1) := by decide +kernel
theorem dX12_sentence_97 : decode cX12_sentence 97 = .ok (.istore_n 1, 1) := by decide +kernel
theorem dX12_sentence_98 : decode cX12_sentence 98 = .ok (.goto (-50), 3) := by decide +kernel
theorem dX12_sentence_101 : decode cX12_sentence 101 = .ok (.aload_n 0, 1) := by decide +kernel
theorem dX12_sentence_102 : decode cX12_sentence 102 = .ok (.getfield 511, 3) := by decide +kernel
theorem dX12_sentence_105 : decode cX12_sentence 105 = .ok (.ifCond .eq 13, 3) := by decide +kernel
theorem dX12_sentence_108 : decode cX12_sentence 108 = .ok (.aload_n 0, 1) := by decide +kernel
theorem dX12_sentence_109 : decode cX12_sentence 109 = .ok (.invokevirtual 520, 3) := by decide +kernel
theorem dX12_sentence_112 : decode cX12_sentence 112 = .ok (.ifCond .ne (-64), 3) := by decide +kernel
theorem dX12_sentence_115 : decode cX12_sentence 115 = .ok (.goto 10, 3) := by decide +kernel
theorem dX12_sentence_118 : decode cX12_sentence 118 = .ok (.aload_n 0, 1) := by decide +kernel
theorem dX12_sentence_119 : decode cX12_sentence 119 = .ok (.invokevirtual 523, 3) := by decide +kernel
theorem dX12_sentence_122 : decode cX12_sentence 122 = .ok (.ifCond .ne (-74), 3) := by decide +kernel
theorem dX12_sentence_125 : decode cX12_sentence 125 = .ok (.iconst (-1), 1) := by decide +kernel
theorem dX12_sentence_126 : decode cX12_sentence 126 = .ok (.aload_n 0, 1) := by decide +kernel
theorem dX12_sentence_127 : decode cX12_sentence 127 = .ok (.getfield 199, 3) := by decide +kernel
theorem dX12_sentence_130 : decode cX12_sentence 130 = .ok (.isub, 1) := by decide +kernel
theorem dX12_sentence_131 : decode cX12_sentence 131 = .ok (.ireturn, 1) := by decide +kernel
theorem dX12_sentence_132 : decode cX12_sentence 132 = .ok (.aload_n 0, 1) := by decide +kernel
theorem dX12_sentence_133 : decode cX12_sentence 133 = .ok (.getfield 33, 3) := by decide +kernel
theorem dX12_sentence_136 : decode cX12_sentence 136 = .ok (.sipush 288, 3) := by decide +kernel
theorem dX12_sentence_139 : decode cX12_sentence 139 = .ok (.aload_n 0, 1) := by decide +kernel
theorem dX12_sentence_140 : decode cX12_sentence 140 = .ok (.getfield 492, 3) := by decide +kernel
theorem dX12_sentence_143 : decode cX12_sentence 143 = .ok (.iastore, 1) := by decide +kernel
theorem dX12_sentence_144 : decode cX12_sentence 144 = .ok (.iconst 0, 1) := by decide +kernel
theorem dX12_sentence_145 : decode cX12_sentence 145 = .ok (.istore_n 2, 1) := by decide +kernel
theorem dX12_sentence_146 : decode cX12_sentence 146 = .ok (.iload_n 2, 1) := by decide +kernel
theorem dX12_sentence_147 : decode cX12_sentence 147 = .ok (.iconst 3, 1) := by decide +kernel
theorem dX12_sentence_148 : decode cX12_sentence 148 = .ok (.aload_n 0, 1) := by decide +kernel
theorem dX12_sentence_149 : decode cX12_sentence 149 = .ok (.getfield 492, 3) := by decide +kernel
theorem dX12_sentence_152 : decode cX12_sentence 152 = .ok (.imul, 1) := by decide +kernel
theorem dX12_sentence_153 : decode cX12_sentence 153 = .ok (.if_icmp .ge 25, 3) := by decide +kernel
theorem dX12_sentence_156 : decode cX12_sentence 156 = .ok (.aload_n 0, 1) := by decide +kernel
theorem dX12_sentence_157 : decode cX12_sentence 157 = .ok (.getfield 33, 3) := by decide +kernel
theorem dX12_sentence_160 : decode cX12_sentence 160 = .ok (.sipush 289, 3) := by decide +kernel
theorem dX12_sentence_163 : decode cX12_sentence 163 = .ok (.iload_n 2, 1) := by decide +kernel
theorem dX12_sentence_164 : decode cX12_sentence 164 = .ok (.iadd, 1) := by decide +kernel
theorem dX12_sentence_165 : decode cX12_sentence 165 = .ok (.aload_n 0, 1) := by decide +kernel
theorem dX12_sentence_166 : decode cX12_sentence 166 = .ok (.getfield 40, 3) := by decide +kernel
theorem dX12_sentence_169 : decode cX12_sentence 169 = .ok (.iload_n 2, 1) := by decide +kernel
theorem dX12_sentence_170 : decode cX12_sentence 170 = .ok (.iaload, 1) := by decide +kernel
theorem dX12_sentence_171 : decode cX12_sentence 171 = .ok (.iastore, 1) := by decide +kernel
theorem dX12_sentence_172 : decode cX12_sentence 172 = .ok (.iinc 2 1, 3) := by decide +kernel
theorem dX12_sentence_175 : decode cX12_sentence 175 = .ok (.goto (-29), 3) := by decide +kernel
theorem dX12_sentence_178 : decode cX12_sentence 178 = .ok (.aload_n 0, 1) := by decide +kernel
theorem dX12_sentence_179 : decode cX12_sentence 179 = .ok (.getfield 508, 3) := by decide +kernel
theorem dX12_sentence_182 : decode cX12_sentence 182 = .ok (.ireturn, 1) := by decide +kernel
theorem dX12_isLeaf_0 : decode cX12_isLeaf 0 = .ok (.iload_n 2, 1) := by decide +kernel
theorem dX12_isLeaf_1 : decode cX12_isLeaf 1 = .ok (.tableswitch 126 0 4 #[35, 54, 67, 80, 103], 35) := by decide +kernel
theorem dX12_isLeaf_36 : decode cX12_isLeaf 36 = .ok (.aload_n 0, 1) := by decide +kernel
theorem dX12_isLeaf_37 : decode cX12_isLeaf 37 = .ok (.getfield 33, 3) := by decide +kernel
theorem dX12_isLeaf_40 : decode cX12_isLeaf 40 = .ok (.sipush 271, 3) := by decide +kernel
theorem dX12_isLeaf_43 : decode cX12_isLeaf 43 = .ok (.iload_n 1, 1) := by decide +kernel
theorem dX12_isLeaf_44 : decode cX12_isLeaf 44 = .ok (.iadd, 1) := by decide +kernel
theorem dX12_isLeaf_45 : decode cX12_isLeaf 45 = .ok (.iaload, 1) := by decide +kernel
theorem dX12_isLeaf_46 : decode cX12_isLeaf 46 = .ok (.ifCond .ne 7, 3) := by decide +kernel
theorem dX12_isLeaf_49 : decode cX12_isLeaf 49 = .ok (.iconst 1, 1) := by decide +kernel
theorem dX12_isLeaf_50 : decode cX12_isLeaf 50 = .ok (.goto 4, 3) := by decide +kernel
theorem dX12_isLeaf_53 : decode cX12_isLeaf 53 = .ok (.iconst 0, 1) := by decide +kernel
theorem dX12_isLeaf_54 : decode cX12_isLeaf 54 = .ok (.ireturn, 1) := by decide +kernel
theorem dX12_isLeaf_55 : decode cX12_isLeaf 55 = .ok (.aload_n 0, 1) := by decide +kernel
theorem dX12_isLeaf_56 : decode cX12_isLeaf 56 = .ok (.getfield 33, 3) := by decide +kernel
theorem dX12_isLeaf_59 : decode cX12_isLeaf 59 = .ok (.sipush 281, 3) := by decide +kernel
theorem dX12_isLeaf_62 : decode cX12_isLeaf 62 = .ok (.iaload, 1) := by decide +kernel
theorem dX12_isLeaf_63 : decode cX12_isLeaf 63 = .ok (.iload_n 1, 1) := by decide +kernel
theorem dX12_isLeaf_64 : decode cX12_isLeaf 64 = .ok (.invokestatic 280, 3) := by decide +kernel
theorem dX12_isLeaf_67 : decode cX12_isLeaf 67 = .ok (.ireturn, 1) := by decide +kernel
theorem dX12_isLeaf_68 : decode cX12_isLeaf 68 = .ok (.aload_n 0, 1) := by decide +kernel
theorem dX12_isLeaf_69 : decode cX12_isLeaf 69 = .ok (.getfield 33, 3) := by decide +kernel
theorem dX12_isLeaf_72 : decode cX12_isLeaf 72 = .ok (.sipush 282, 3) := by decide +kernel
theorem dX12_isLeaf_75 : decode cX12_isLeaf 75 = .ok (.iaload, 1) := by decide +kernel
theorem dX12_isLeaf_76 : decode cX12_isLeaf 76 = .ok (.iload_n 1, 1) := by decide +kernel
theorem dX12_isLeaf_77 : decode cX12_isLeaf 77 = .ok (.invokestatic 280, 3) := by decide +kernel
theorem dX12_isLeaf_80 : decode cX12_isLeaf 80 = .ok (.ireturn, 1) := by decide +kernel
theorem dX12_isLeaf_81 : decode cX12_isLeaf 81 = .ok (.aload_n 0, 1) := by decide +kernel
theorem dX12_isLeaf_82 : decode cX12_isLeaf 82 = .ok (.getfield 33, 3) := by decide +kernel
theorem dX12_isLeaf_85 : decode cX12_isLeaf 85 = .ok (.sipush 271, 3) := by decide +kernel
theorem dX12_isLeaf_88 : decode cX12_isLeaf 88 = .ok (.iload_n 1, 1) := by decide +kernel
theorem dX12_isLeaf_89 : decode cX12_isLeaf 89 = .ok (.iadd, 1) := by decide +kernel
theorem dX12_isLeaf_90 : decode cX12_isLeaf 90 = .ok (.iaload, 1) := by decide +kernel
theorem dX12_isLeaf_91 : decode cX12_isLeaf 91 = .ok (.iload 4, 2) := by decide +kernel
theorem dX12_isLeaf_93 : decode cX12_isLeaf 93 = .ok (.iconst 1, 1) := by decide +kernel
theorem dX12_isLeaf_94 : decode cX12_isLeaf 94 = .ok (.iadd, 1) := by decide +kernel
theorem dX12_isLeaf_95 : decode cX12_isLeaf 95 = .ok (.if_icmp .ne 7, 3) := by decide +kernel
theorem dX12_isLeaf_98 : decode cX12_isLeaf 98 = .ok (.iconst 1, 1) := by decide +kernel
theorem dX12_isLeaf_99 : decode cX12_isLeaf 99 = .ok (.goto 4, 3) := by decide +kernel
theorem dX12_isLeaf_102 : decode cX12_isLeaf 102 = .ok (.iconst 0, 1) := by decide +kernel
theorem dX12_isLeaf_103 : decode cX12_isLeaf 103 = .ok (.ireturn, 1) := by decide +kernel
theorem dX12_isLeaf_104 : decode cX12_isLeaf 104 = .ok (.aload_n 0, 1) := by decide +kernel
theorem dX12_isLeaf_105 : decode cX12_isLeaf 105 = .ok (.getfield 33, 3) := by decide +kernel
theorem dX12_isLeaf_108 : decode cX12_isLeaf 108 = .ok (.sipush 249, 3) := by decide +kernel
theorem dX12_isLeaf_111 : decode cX12_isLeaf 111 = .ok (.iload 4, 2) := by decide +kernel
theorem dX12_isLeaf_113 : decode cX12_isLeaf 113 = .ok (.iadd, 1) := by decide +kernel
theorem dX12_isLeaf_114 : decode cX12_isLeaf 114 = .ok (.iaload, 1) := by decide +kernel
theorem dX12_isLeaf_115 : decode cX12_isLeaf 115 = .ok (.iload_n 1, 1) := by decide +kernel
theorem dX12_isLeaf_116 : decode cX12_isLeaf 116 = .ok (.iconst 1, 1) := by decide +kernel
theorem dX12_isLeaf_117 : decode cX12_isLeaf 117 = .ok (.iadd, 1) := by decide +kernel
theorem dX12_isLeaf_118 : decode cX12_isLeaf 118 = .ok (.if_icmp .ne 7, 3) := by decide +kernel
theorem dX12_isLeaf_121 : decode cX12_isLeaf 121 = .ok (.iconst 1, 1) := by decide +kernel
theorem dX12_isLeaf_122 : decode cX12_isLeaf 122 = .ok (.goto 4, 3) := by decide +kernel
theorem dX12_isLeaf_125 : decode cX12_isLeaf 125 = .ok (.iconst 0, 1) := by decide +kernel
theorem dX12_isLeaf_126 : decode cX12_isLeaf 126 = .ok (.ireturn, 1) := by decide +kernel
theorem dX12_isLeaf_127 : decode cX12_isLeaf 127 = .ok (.iload_n 2, 1) := by decide +kernel
theorem dX12_isLeaf_128 : decode cX12_isLeaf 128 = .ok (.iconst 5, 1) := by decide +kernel
theorem dX12_isLeaf_129 : decode cX12_isLeaf 129 = .ok (.if_icmp .ne 16, 3) := by decide +kernel
theorem dX12_isLeaf_132 : decode cX12_isLeaf 132 = .ok (.aload_n 0, 1) := by decide +kernel
theorem dX12_isLeaf_133 : decode cX12_isLeaf 133 = .ok (.getfield 33, 3) := by decide +kernel
theorem dX12_isLeaf_136 : decode cX12_isLeaf 136 = .ok (.sipush 276, 3) := by decide +kernel
theorem dX12_isLeaf_139 : decode cX12_isLeaf 139 = .ok (.iload_n 1, 1) := by decide +kernel
theorem dX12_isLeaf_140 : decode cX12_isLeaf 140 = .ok (.iadd, 1) := by decide +kernel
theorem dX12_isLeaf_141 : decode cX12_isLeaf 141 = .ok (.iaload, 1) := by decide +kernel
theorem dX12_isLeaf_142 : decode cX12_isLeaf 142 = .ok (.goto 23, 3) := by decide +kernel
theorem dX12_isLeaf_145 : decode cX12_isLeaf 145 = .ok (.iload_n 2, 1) := by decide +kernel
theorem dX12_isLeaf_146 : decode cX12_isLeaf 146 = .ok (.bipush 6, 2) := by decide +kernel
theorem dX12_isLeaf_148 : decode cX12_isLeaf 148 = .ok (.if_icmp .ne 16, 3) := by decide +kernel
theorem dX12_isLeaf_151 : decode cX12_isLeaf 151 = .ok (.aload_n 0, 1) := by decide +kernel
theorem dX12_isLeaf_152 : decode cX12_isLeaf 152 = .ok (.getfield 33, 3) := by decide +kernel
theorem dX12_isLeaf_155 : decode cX12_isLeaf 155 = .ok (.sipush 283, 3) := by decide +kernel
theorem dX12_isLeaf_158 : decode cX12_isLeaf 158 = .ok (.iload_n 1, 1) := by decide +kernel
theorem dX12_isLeaf_159 : decode cX12_isLeaf 159 = .ok (.iadd, 1) := by decide +kernel
theorem dX12_isLeaf_160 : decode cX12_isLeaf 160 = .ok (.iaload, 1) := by decide +kernel
theorem dX12_isLeaf_161 : decode cX12_isLeaf 161 = .ok (.goto 4, 3) := by decide +kernel
theorem dX12_isLeaf_164 : decode cX12_isLeaf 164 = .ok (.iload_n 1, 1) := by decide +kernel
theorem dX12_isLeaf_165 : decode cX12_isLeaf 165 = .ok (.istore 5, 2) := by decide +kernel
theorem dX12_isLeaf_167 : decode cX12_isLeaf 167 = .ok (.iload_n 3, 1) := by decide +kernel
theorem dX12_isLeaf_168 : decode cX12_isLeaf 168 = .ok (.bipush 60, 2) := by decide +kernel
theorem dX12_isLeaf_170 : decode cX12_isLeaf 170 = .ok (.if_icmp .ne 18, 3) := by decide +kernel
theorem dX12_isLeaf_173 : decode cX12_isLeaf 173 = .ok (.iload 5, 2) := by decide +kernel
theorem dX12_isLeaf_175 : decode cX12_isLeaf 175 = .ok (.iload 4, 2) := by decide +kernel
theorem dX12_isLeaf_177 : decode cX12_isLeaf 177 = .ok (.if_icmp .ge 7, 3) := by decide +kernel
theorem dX12_isLeaf_180 : decode cX12_isLeaf 180 = .ok (.iconst 1, 1) := by decide +kernel
theorem dX12_isLeaf_181 : decode cX12_isLeaf 181 = .ok (.goto 40, 3) := by decide +kernel
theorem dX12_isLeaf_184 : decode cX12_isLeaf 184 = .ok (.iconst 0, 1) := by decide +kernel
theorem dX12_isLeaf_185 : decode cX12_isLeaf 185 = .ok (.goto 36, 3) := by decide +kernel
theorem dX12_isLeaf_188 : decode cX12_isLeaf 188 = .ok (.iload_n 3, 1) := by decide +kernel
theorem dX12_isLeaf_189 : decode cX12_isLeaf 189 = .ok (.bipush 61, 2) := by decide +kernel
theorem dX12_isLeaf_191 : decode cX12_isLeaf 191 = .ok (.if_icmp .ne 18, 3) := by decide +kernel
theorem dX12_isLeaf_194 : decode cX12_isLeaf 194 = .ok (.iload 5, 2) := by decide +kernel
theorem dX12_isLeaf_196 : decode cX12_isLeaf 196 = .ok (.iload 4, 2) := by decide +kernel
theorem dX12_isLeaf_198 : decode cX12_isLeaf 198 = .ok (.if_icmp .ne 7, 3) := by decide +kernel
theorem dX12_isLeaf_201 : decode cX12_isLeaf 201 = .ok (.iconst 1, 1) := by decide +kernel
theorem dX12_isLeaf_202 : decode cX12_isLeaf 202 = .ok (.goto 19, 3) := by decide +kernel
theorem dX12_isLeaf_205 : decode cX12_isLeaf 205 = .ok (.iconst 0, 1) := by decide +kernel
theorem dX12_isLeaf_206 : decode cX12_isLeaf 206 = .ok (.goto 15, 3) := by decide +kernel
theorem dX12_isLeaf_209 : decode cX12_isLeaf 209 = .ok (.iload 5, 2) := by decide +kernel
theorem dX12_isLeaf_211 : decode cX12_isLeaf 211 = .ok (.iload 4, 2) := by decide +kernel
theorem dX12_isLeaf_213 : decode cX12_isLeaf 213 = .ok (.if_icmp .le 7, 3) := by decide +kernel
theorem dX12_isLeaf_216 : decode cX12_isLeaf 216 = .ok (.iconst 1, 1) := by decide +kernel
theorem dX12_isLeaf_217 : decode cX12_isLeaf 217 = .ok (.goto 4, 3) := by decide +kernel
theorem dX12_isLeaf_220 : decode cX12_isLeaf 220 = .ok (.iconst 0, 1) := by decide +kernel
theorem dX12_isLeaf_221 : decode cX12_isLeaf 221 = .ok (.ireturn, 1) := by decide +kernel
theorem dX12_isSaid_0 : decode cX12_isSaid 0 = .ok (.iconst 0, 1) := by decide +kernel
theorem dX12_isSaid_1 : decode cX12_isSaid 1 = .ok (.istore_n 2, 1) := by decide +kernel
theorem dX12_isSaid_2 : decode cX12_isSaid 2 = .ok (.iconst 0, 1) := by decide +kernel
theorem dX12_isSaid_3 : decode cX12_isSaid 3 = .ok (.istore_n 3, 1) := by decide +kernel
theorem dX12_isSaid_4 : decode cX12_isSaid 4 = .ok (.iload_n 3, 1) := by decide +kernel
theorem dX12_isSaid_5 : decode cX12_isSaid 5 = .ok (.aload_n 0, 1) := by decide +kernel
theorem dX12_isSaid_6 : decode cX12_isSaid 6 = .ok (.getfield 33, 3) := by decide +kernel
theorem dX12_isSaid_9 : decode cX12_isSaid 9 = .ok (.sipush 288, 3) := by decide +kernel
theorem dX12_isSaid_12 : decode cX12_isSaid 12 = .ok (.iaload, 1) := by decide +kernel
theorem dX12_isSaid_13 : decode cX12_isSaid 13 = .ok (.if_icmp .ge 199, 3) := by decide +kernel
theorem dX12_isSaid_16 : decode cX12_isSaid 16 = .ok (.sipush 289, 3) := by decide +kernel
theorem dX12_isSaid_19 : decode cX12_isSaid 19 = .ok (.iconst 3, 1) := by decide +kernel
theorem dX12_isSaid_20 : decode cX12_isSaid 20 = .ok (.iload_n 3, 1) := by decide +kernel
theorem dX12_isSaid_21 : decode cX12_isSaid 21 = .ok (.imul, 1) := by decide +kernel
theorem dX12_isSaid_22 : decode cX12_isSaid 22 = .ok (.iadd, 1) := by decide +kernel
theorem dX12_isSaid_23 : decode cX12_isSaid 23 = .ok (.istore 4, 2) := by decide +kernel
theorem dX12_isSaid_25 : decode cX12_isSaid 25 = .ok (.aload_n 0, 1) := by decide +kernel
theorem dX12_isSaid_26 : decode cX12_isSaid 26 = .ok (.getfield 33, 3) := by decide +kernel
theorem dX12_isSaid_29 : decode cX12_isSaid 29 = .ok (.iload 4, 2) := by decide +kernel
theorem dX12_isSaid_31 : decode cX12_isSaid 31 = .ok (.iaload, 1) := by decide +kernel
theorem dX12_isSaid_32 : decode cX12_isSaid 32 = .ok (.bipush 20, 2) := by decide +kernel
theorem dX12_isSaid_34 : decode cX12_isSaid 34 = .ok (.if_icmp .ne 30, 3) := by decide +kernel
theorem dX12_isSaid_37 : decode cX12_isSaid 37 = .ok (.aload_n 0, 1) := by decide +kernel
theorem dX12_isSaid_38 : decode cX12_isSaid 38 = .ok (.getfield 89, 3) := by decide +kernel
theorem dX12_isSaid_41 : decode cX12_isSaid 41 = .ok (.iload_n 2, 1) := by decide +kernel
theorem dX12_isSaid_42 : decode cX12_isSaid 42 = .ok (.iconst 1, 1) := by decide +kernel
theorem dX12_isSaid_43 : decode cX12_isSaid 43 = .ok (.isub, 1) := by decide +kernel
theorem dX12_isSaid_44 : decode cX12_isSaid 44 = .ok (.aload_n 0, 1) := by decide +kernel
theorem dX12_isSaid_45 : decode cX12_isSaid 45 = .ok (.getfield 89, 3) := by decide +kernel
theorem dX12_isSaid_48 : decode cX12_isSaid 48 = .ok (.iload_n 2, 1) := by decide +kernel
theorem dX12_isSaid_49 : decode cX12_isSaid 49 = .ok (.iconst 1, 1) := by decide +kernel
theorem dX12_isSaid_50 : decode cX12_isSaid 50 = .ok (.isub, 1) := by decide +kernel
theorem dX12_isSaid_51 : decode cX12_isSaid 51 = .ok (.baload, 1) := by decide +kernel
theorem dX12_isSaid_52 : decode cX12_isSaid 52 = .ok (.ifCond .ne 7, 3) := by decide +kernel
theorem dX12_isSaid_55 : decode cX12_isSaid 55 = .ok (.iconst 1, 1) := by decide +kernel
theorem dX12_isSaid_56 : decode cX12_isSaid 56 = .ok (.goto 4, 3) := by decide +kernel
theorem dX12_isSaid_59 : decode cX12_isSaid 59 = .ok (.iconst 0, 1) := by decide +kernel
theorem dX12_isSaid_60 : decode cX12_isSaid 60 = .ok (.bastore, 1) := by decide +kernel
theorem dX12_isSaid_61 : decode cX12_isSaid 61 = .ok (.goto 145, 3) := by decide +kernel
theorem dX12_isSaid_64 : decode cX12_isSaid 64 = .ok (.aload_n 0, 1) := by decide +kernel
theorem dX12_isSaid_65 : decode cX12_isSaid 65 = .ok (.getfield 33, 3) := by decide +kernel
theorem dX12_isSaid_68 : decode cX12_isSaid 68 = .ok (.iload 4, 2) := by decide +kernel
theorem dX12_isSaid_70 : decode cX12_isSaid 70 = .ok (.iaload, 1) := by decide +kernel
theorem dX12_isSaid_71 : decode cX12_isSaid 71 = .ok (.bipush 21, 2) := by decide +kernel
theorem dX12_isSaid_73 : decode cX12_isSaid 73 = .ok (.if_icmp .eq 15, 3) := by decide +kernel
theorem dX12_isSaid_76 : decode cX12_isSaid 76 = .ok (.aload_n 0, 1) := by decide +kernel
theorem dX12_isSaid_77 : decode cX12_isSaid 77 = .ok (.getfield 33, 3) := by decide +kernel
theorem dX12_isSaid_80 : decode cX12_isSaid 80 = .ok (.iload 4, 2) := by decide +kernel
theorem dX12_isSaid_82 : decode cX12_isSaid 82 = .ok (.iaload, 1) := by decide +kernel
theorem dX12_isSaid_83 : decode cX12_isSaid 83 = .ok (.bipush 22, 2) := by decide +kernel
theorem dX12_isSaid_85 : decode cX12_isSaid 85 = .ok (.if_icmp .ne 82, 3) := by decide +kernel
theorem dX12_isSaid_88 : decode cX12_isSaid 88 = .ok (.iinc 2 (-1), 3) := by decide +kernel
theorem dX12_isSaid_91 : decode cX12_isSaid 91 = .ok (.aload_n 0, 1) := by decide +kernel
theorem dX12_isSaid_92 : decode cX12_isSaid 92 = .ok (.getfield 89, 3) := by decide +kernel
theorem dX12_isSaid_95 : decode cX12_isSaid 95 = .ok (.iload_n 2, 1) := by decide +kernel
theorem dX12_isSaid_96 : decode cX12_isSaid 96 = .ok (.iconst 1, 1) := by decide +kernel
theorem dX12_isSaid_97 : decode cX12_isSaid 97 = .ok (.isub, 1) := by decide +kernel
theorem dX12_isSaid_98 : decode cX12_isSaid 98 = .ok (.aload_n 0, 1) := by decide +kernel
theorem dX12_isSaid_99 : decode cX12_isSaid 99 = .ok (.getfield 33, 3) := by decide +kernel
theorem dX12_isSaid_102 : decode cX12_isSaid 102 = .ok (.iload 4, 2) := by decide +kernel
theorem dX12_isSaid_104 : decode cX12_isSaid 104 = .ok (.iaload, 1) := by decide +kernel
theorem dX12_isSaid_105 : decode cX12_isSaid 105 = .ok (.bipush 21, 2) := by decide +kernel
theorem dX12_isSaid_107 : decode cX12_isSaid 107 = .ok (.if_icmp .ne 31, 3) := by decide +kernel
theorem dX12_isSaid_110 : decode cX12_isSaid 110 = .ok (.aload_n 0, 1) := by decide +kernel
theorem dX12_isSaid_111 : decode cX12_isSaid 111 = .ok (.getfield 89, 3) := by decide +kernel
theorem dX12_isSaid_114 : decode cX12_isSaid 114 = .ok (.iload_n 2, 1) := by decide +kernel
theorem dX12_isSaid_115 : decode cX12_isSaid 115 = .ok (.iconst 1, 1) := by decide +kernel
theorem dX12_isSaid_116 : decode cX12_isSaid 116 = .ok (.isub, 1) := by decide +kernel
theorem dX12_isSaid_117 : decode cX12_isSaid 117 = .ok (.baload, 1) := by decide +kernel
theorem dX12_isSaid_118 : decode cX12_isSaid 118 = .ok (.ifCond .eq 16, 3) := by decide +kernel
theorem dX12_isSaid_121 : decode cX12_isSaid 121 = .ok (.aload_n 0, 1) := by decide +kernel
theorem dX12_isSaid_122 : decode cX12_isSaid 122 = .ok (.getfield 89, 3) := by decide +kernel
theorem dX12_isSaid_125 : decode cX12_isSaid 125 = .ok (.iload_n 2, 1) := by decide +kernel
theorem dX12_isSaid_126 : decode cX12_isSaid 126 = .ok (.baload, 1) := by decide +kernel
theorem dX12_isSaid_127 : decode cX12_isSaid 127 = .ok (.ifCond .eq 7, 3) := by decide +kernel
theorem dX12_isSaid_130 : decode cX12_isSaid 130 = .ok (.iconst 1, 1) := by decide +kernel
theorem dX12_isSaid_131 : decode cX12_isSaid 131 = .ok (.goto 32, 3) := by decide +kernel
theorem dX12_isSaid_134 : decode cX12_isSaid 134 = .ok (.iconst 0, 1) := by decide +kernel
theorem dX12_isSaid_135 : decode cX12_isSaid 135 = .ok (.goto 28, 3) := by decide +kernel
theorem dX12_isSaid_138 : decode cX12_isSaid 138 = .ok (.aload_n 0, 1) := by decide +kernel
theorem dX12_isSaid_139 : decode cX12_isSaid 139 = .ok (.getfield 89, 3) := by decide +kernel
theorem dX12_isSaid_142 : decode cX12_isSaid 142 = .ok (.iload_n 2, 1) := by decide +kernel
theorem dX12_isSaid_143 : decode cX12_isSaid 143 = .ok (.iconst 1, 1) := by decide +kernel
theorem dX12_isSaid_144 : decode cX12_isSaid 144 = .ok (.isub, 1) := by decide +kernel
theorem dX12_isSaid_145 : decode cX12_isSaid 145 = .ok (.baload, 1) := by decide +kernel
theorem dX12_isSaid_146 : decode cX12_isSaid 146 = .ok (.ifCond .ne 12, 3) := by decide +kernel
theorem dX12_isSaid_149 : decode cX12_isSaid 149 = .ok (.aload_n 0, 1) := by decide +kernel
theorem dX12_isSaid_150 : decode cX12_isSaid 150 = .ok (.getfield 89, 3) := by decide +kernel
theorem dX12_isSaid_153 : decode cX12_isSaid 153 = .ok (.iload_n 2, 1) := by decide +kernel
theorem dX12_isSaid_154 : decode cX12_isSaid 154 = .ok (.baload, 1) := by decide +kernel
theorem dX12_isSaid_155 : decode cX12_isSaid 155 = .ok (.ifCond .eq 7, 3) := by decide +kernel
theorem dX12_isSaid_158 : decode cX12_isSaid 158 = .ok (.iconst 1, 1) := by decide +kernel
theorem dX12_isSaid_159 : decode cX12_isSaid 159 = .ok (.goto 4, 3) := by decide +kernel
theorem dX12_isSaid_162 : decode cX12_isSaid 162 = .ok (.iconst 0, 1) := by decide +kernel
theorem dX12_isSaid_163 : decode cX12_isSaid 163 = .ok (.bastore, 1) := by decide +kernel
theorem dX12_isSaid_164 : decode cX12_isSaid 164 = .ok (.goto 42, 3) := by decide +kernel
theorem dX12_isSaid_167 : decode cX12_isSaid 167 = .ok (.aload_n 0, 1) := by decide +kernel
theorem dX12_isSaid_168 : decode cX12_isSaid 168 = .ok (.getfield 89, 3) := by decide +kernel
theorem dX12_isSaid_171 : decode cX12_isSaid 171 = .ok (.iload_n 2, 1) := by decide +kernel
theorem dX12_isSaid_172 : decode cX12_isSaid 172 = .ok (.aload_n 0, 1) := by decide +kernel
theorem dX12_isSaid_173 : decode cX12_isSaid 173 = .ok (.iload_n 1, 1) := by decide +kernel
theorem dX12_isSaid_174 : decode cX12_isSaid 174 = .ok (.aload_n 0, 1) := by decide +kernel
theorem dX12_isSaid_175 : decode cX12_isSaid 175 = .ok (.getfield 33, 3) := by decide +kernel
theorem dX12_isSaid_178 : decode cX12_isSaid 178 = .ok (.iload 4, 2) := by decide +kernel
theorem dX12_isSaid_180 : decode cX12_isSaid 180 = .ok (.iaload, 1) := by decide +kernel
theorem dX12_isSaid_181 : decode cX12_isSaid 181 = .ok (.aload_n 0, 1) := by decide +kernel
theorem dX12_isSaid_182 : decode cX12_isSaid 182 = .ok (.getfield 33, 3) := by decide +kernel
theorem dX12_isSaid_185 : decode cX12_isSaid 185 = .ok (.iload 4, 2) := by decide +kernel
theorem dX12_isSaid_187 : decode cX12_isSaid 187 = .ok (.iconst 1, 1) := by decide +kernel
theorem dX12_isSaid_188 : decode cX12_isSaid 188 = .ok (.iadd, 1) := by decide +kernel
theorem dX12_isSaid_189 : decode cX12_isSaid 189 = .ok (.iaload, 1) := by decide +kernel
theorem dX12_isSaid_190 : decode cX12_isSaid 190 = .ok (.aload_n 0, 1) := by decide +kernel
theorem dX12_isSaid_191 : decode cX12_isSaid 191 = .ok (.getfield 33, 3) := by decide +kernel
theorem dX12_isSaid_194 : decode cX12_isSaid 194 = .ok (.iload 4, 2) := by decide +kernel
theorem dX12_isSaid_196 : decode cX12_isSaid 196 = .ok (.iconst 2, 1) := by decide +kernel
theorem dX12_isSaid_197 : decode cX12_isSaid 197 = .ok (.iadd, 1) := by decide +kernel
theorem dX12_isSaid_198 : decode cX12_isSaid 198 = .ok (.iaload, 1) := by decide +kernel
theorem dX12_isSaid_199 : decode cX12_isSaid 199 = .ok (.invokevirtual 526, 3) := by decide +kernel
theorem dX12_isSaid_202 : decode cX12_isSaid 202 = .ok (.bastore, 1) := by decide +kernel
theorem dX12_isSaid_203 : decode cX12_isSaid 203 = .ok (.iinc 2 1, 3) := by decide +kernel
theorem dX12_isSaid_206 : decode cX12_isSaid 206 = .ok (.iinc 3 1, 3) := by decide +kernel
theorem dX12_isSaid_209 : decode cX12_isSaid 209 = .ok (.goto (-205), 3) := by decide +kernel
theorem dX12_isSaid_212 : decode cX12_isSaid 212 = .ok (.aload_n 0, 1) := by decide +kernel
theorem dX12_isSaid_213 : decode cX12_isSaid 213 = .ok (.getfield 89, 3) := by decide +kernel
theorem dX12_isSaid_216 : decode cX12_isSaid 216 = .ok (.iconst 0, 1) := by decide +kernel
theorem dX12_isSaid_217 : decode cX12_isSaid 217 = .ok (.baload, 1) := by decide +kernel
theorem dX12_isSaid_218 : decode cX12_isSaid 218 = .ok (.ireturn, 1) := by decide +kernel
theorem dX12_said_0 : decode cX12_said 0 = .ok (.aload_n 0, 1) := by decide +kernel
theorem dX12_said_1 : decode cX12_said 1 = .ok (.iconst 0, 1) := by decide +kernel
theorem dX12_said_2 : decode cX12_said 2 = .ok (.putfield 1, 3) := by decide +kernel
theorem dX12_said_5 : decode cX12_said 5 = .ok (.aload_n 0, 1) := by decide +kernel
theorem dX12_said_6 : decode cX12_said 6 = .ok (.getfield 33, 3) := by decide +kernel
theorem dX12_said_9 : decode cX12_said 9 = .ok (.sipush 288, 3) := by decide +kernel
theorem dX12_said_12 : decode cX12_said 12 = .ok (.iaload, 1) := by decide +kernel
theorem dX12_said_13 : decode cX12_said 13 = .ok (.ifCond .eq 8, 3) := by decide +kernel
theorem dX12_said_16 : decode cX12_said 16 = .ok (.iload_n 1, 1) := by decide +kernel
theorem dX12_said_17 : decode cX12_said 17 = .ok (.iconst (-1), 1) := by decide +kernel
theorem dX12_said_18 : decode cX12_said 18 = .ok (.if_icmp .ge 5, 3) := by decide +kernel
theorem dX12_said_21 : decode cX12_said 21 = .ok (.iconst (-1), 1) := by decide +kernel
theorem dX12_said_22 : decode cX12_said 22 = .ok (.ireturn, 1) := by decide +kernel
theorem dX12_said_23 : decode cX12_said 23 = .ok (.iconst 0, 1) := by decide +kernel
theorem dX12_said_24 : decode cX12_said 24 = .ok (.istore_n 2, 1) := by decide +kernel
theorem dX12_said_25 : decode cX12_said 25 = .ok (.iconst 0, 1) := by decide +kernel
theorem dX12_said_26 : decode cX12_said 26 = .ok (.istore_n 3, 1) := by decide +kernel
theorem dX12_said_27 : decode cX12_said 27 = .ok (.iload_n 3, 1) := by decide +kernel
theorem dX12_said_28 : decode cX12_said 28 = .ok (.aload_n 0, 1) := by decide +kernel
theorem dX12_said_29 : decode cX12_said 29 = .ok (.getfield 33, 3) := by decide +kernel
theorem dX12_said_32 : decode cX12_said 32 = .ok (.bipush 6, 2) := by decide +kernel
theorem dX12_said_34 : decode cX12_said 34 = .ok (.iaload, 1) := by decide +kernel
theorem dX12_said_35 : decode cX12_said 35 = .ok (.if_icmp .ge 30, 3) := by decide +kernel
theorem dX12_said_38 : decode cX12_said 38 = .ok (.aload_n 0, 1) := by decide +kernel
theorem dX12_said_39 : decode cX12_said 39 = .ok (.iload_n 3, 1) := by decide +kernel
theorem dX12_said_40 : decode cX12_said 40 = .ok (.invokevirtual 530, 3) := by decide +kernel
theorem dX12_said_43 : decode cX12_said 43 = .ok (.ifCond .ne 6, 3) := by decide +kernel
theorem dX12_said_46 : decode cX12_said 46 = .ok (.goto 13, 3) := by decide +kernel
theorem dX12_said_49 : decode cX12_said 49 = .ok (.iload_n 2, 1) := by decide +kernel
theorem dX12_said_50 : decode cX12_said 50 = .ok (.iload_n 1, 1) := by decide +kernel
theorem dX12_said_51 : decode cX12_said 51 = .ok (.if_icmp .ne 5, 3) := by decide +kernel
theorem dX12_said_54 : decode cX12_said 54 = .ok (.iload_n 3, 1) := by decide +kernel
theorem dX12_said_55 : decode cX12_said 55 = .ok (.ireturn, 1) := by decide +kernel
theorem dX12_said_56 : decode cX12_said 56 = .ok (.iinc 2 1, 3) := by decide +kernel
theorem dX12_said_59 : decode cX12_said 59 = .ok (.iinc 3 1, 3) := by decide +kernel
theorem dX12_said_62 : decode cX12_said 62 = .ok (.goto (-35), 3) := by decide +kernel
theorem dX12_said_65 : decode cX12_said 65 = .ok (.iload_n 1, 1) := by decide +kernel
theorem dX12_said_66 : decode cX12_said 66 = .ok (.iconst (-1), 1) := by decide +kernel
theorem dX12_said_67 : decode cX12_said 67 = .ok (.if_icmp .ne 7, 3) := by decide +kernel
theorem dX12_said_70 : decode cX12_said 70 = .ok (.iload_n 2, 1) := by decide +kernel
theorem dX12_said_71 : decode cX12_said 71 = .ok (.goto 4, 3) := by decide +kernel
theorem dX12_said_74 : decode cX12_said 74 = .ok (.iconst (-1), 1) := by decide +kernel
theorem dX12_said_75 : decode cX12_said 75 = .ok (.ireturn, 1) := by decide +kernel
theorem dX12_image_0 : decode cX12_image 0 = .ok (.aload_n 0, 1) := by decide +kernel
theorem dX12_image_1 : decode cX12_image 1 = .ok (.iconst 0, 1) := by decide +kernel
theorem dX12_image_2 : decode cX12_image 2 = .ok (.putfield 1, 3) := by decide +kernel
theorem dX12_image_5 : decode cX12_image 5 = .ok (.iload_n 1, 1) := by decide +kernel
theorem dX12_image_6 : decode cX12_image 6 = .ok (.iconst 0, 1) := by decide +kernel
theorem dX12_image_7 : decode cX12_image 7 = .ok (.iconst 1, 1) := by decide +kernel
theorem dX12_image_8 : decode cX12_image 8 = .ok (.invokestatic 211, 3) := by decide +kernel
theorem dX12_image_11 : decode cX12_image 11 = .ok (.ifCond .ne 5, 3) := by decide +kernel
theorem dX12_image_14 : decode cX12_image 14 = .ok (.iconst 0, 1) := by decide +kernel
theorem dX12_image_15 : decode cX12_image 15 = .ok (.ireturn, 1) := by decide +kernel
theorem dX12_image_16 : decode cX12_image 16 = .ok (.iconst 0, 1) := by decide +kernel
theorem dX12_image_17 : decode cX12_image 17 = .ok (.istore_n 2, 1) := by decide +kernel
theorem dX12_image_18 : decode cX12_image 18 = .ok (.iload_n 2, 1) := by decide +kernel
theorem dX12_image_19 : decode cX12_image 19 = .ok (.sipush 469, 3) := by decide +kernel
theorem dX12_image_22 : decode cX12_image 22 = .ok (.if_icmp .ge 27, 3) := by decide +kernel
theorem dX12_image_25 : decode cX12_image 25 = .ok (.aload_n 0, 1) := by decide +kernel
theorem dX12_image_26 : decode cX12_image 26 = .ok (.getfield 93, 3) := by decide +kernel
theorem dX12_image_29 : decode cX12_image 29 = .ok (.sipush 469, 3) := by decide +kernel
theorem dX12_image_32 : decode cX12_image 32 = .ok (.iload_n 1, 1) := by decide +kernel
theorem dX12_image_33 : decode cX12_image 33 = .ok (.imul, 1) := by decide +kernel
theorem dX12_image_34 : decode cX12_image 34 = .ok (.iload_n 2, 1) := by decide +kernel
theorem dX12_image_35 : decode cX12_image 35 = .ok (.iadd, 1) := by decide +kernel
theorem dX12_image_36 : decode cX12_image 36 = .ok (.aload_n 0, 1) := by decide +kernel
theorem dX12_image_37 : decode cX12_image 37 = .ok (.getfield 33, 3) := by decide +kernel
theorem dX12_image_40 : decode cX12_image 40 = .ok (.iload_n 2, 1) := by decide +kernel
theorem dX12_image_41 : decode cX12_image 41 = .ok (.iaload, 1) := by decide +kernel
theorem dX12_image_42 : decode cX12_image 42 = .ok (.iastore, 1) := by decide +kernel
theorem dX12_image_43 : decode cX12_image 43 = .ok (.iinc 2 1, 3) := by decide +kernel
theorem dX12_image_46 : decode cX12_image 46 = .ok (.goto (-28), 3) := by decide +kernel
theorem dX12_image_49 : decode cX12_image 49 = .ok (.iconst 0, 1) := by decide +kernel
theorem dX12_image_50 : decode cX12_image 50 = .ok (.istore_n 2, 1) := by decide +kernel
theorem dX12_image_51 : decode cX12_image 51 = .ok (.iload_n 2, 1) := by decide +kernel
theorem dX12_image_52 : decode cX12_image 52 = .ok (.bipush 41, 2) := by decide +kernel
theorem dX12_image_54 : decode cX12_image 54 = .ok (.if_icmp .ge 26, 3) := by decide +kernel
theorem dX12_image_57 : decode cX12_image 57 = .ok (.aload_n 0, 1) := by decide +kernel
theorem dX12_image_58 : decode cX12_image 58 = .ok (.getfield 96, 3) := by decide +kernel
theorem dX12_image_61 : decode cX12_image 61 = .ok (.bipush 41, 2) := by decide +kernel
theorem dX12_image_63 : decode cX12_image 63 = .ok (.iload_n 1, 1) := by decide +kernel
theorem dX12_image_64 : decode cX12_image 64 = .ok (.imul, 1) := by decide +kernel
theorem dX12_image_65 : decode cX12_image 65 = .ok (.iload_n 2, 1) := by decide +kernel
theorem dX12_image_66 : decode cX12_image 66 = .ok (.iadd, 1) := by decide +kernel
theorem dX12_image_67 : decode cX12_image 67 = .ok (.aload_n 0, 1) := by decide +kernel
theorem dX12_image_68 : decode cX12_image 68 = .ok (.getfield 43, 3) := by decide +kernel
theorem dX12_image_71 : decode cX12_image 71 = .ok (.iload_n 2, 1) := by decide +kernel
theorem dX12_image_72 : decode cX12_image 72 = .ok (.laload, 1) := by decide +kernel
theorem dX12_image_73 : decode cX12_image 73 = .ok (.lastore, 1) := by decide +kernel
theorem dX12_image_74 : decode cX12_image 74 = .ok (.iinc 2 1, 3) := by decide +kernel
theorem dX12_image_77 : decode cX12_image 77 = .ok (.goto (-26), 3) := by decide +kernel
theorem dX12_image_80 : decode cX12_image 80 = .ok (.aload_n 0, 1) := by decide +kernel
theorem dX12_image_81 : decode cX12_image 81 = .ok (.getfield 99, 3) := by decide +kernel
theorem dX12_image_84 : decode cX12_image 84 = .ok (.iload_n 1, 1) := by decide +kernel
theorem dX12_image_85 : decode cX12_image 85 = .ok (.iconst 1, 1) := by decide +kernel
theorem dX12_image_86 : decode cX12_image 86 = .ok (.bastore, 1) := by decide +kernel
theorem dX12_image_87 : decode cX12_image 87 = .ok (.iconst 1, 1) := by decide +kernel
theorem dX12_image_88 : decode cX12_image 88 = .ok (.ireturn, 1) := by decide +kernel
theorem dX12_restore_0 : decode cX12_restore 0 = .ok (.aload_n 0, 1) := by decide +kernel
theorem dX12_restore_1 : decode cX12_restore 1 = .ok (.iconst 0, 1) := by decide +kernel
theorem dX12_restore_2 : decode cX12_restore 2 = .ok (.putfield 1, 3) := by decide +kernel
theorem dX12_restore_5 : decode cX12_restore 5 = .ok (.iload_n 1, 1) := by decide +kernel
theorem dX12_restore_6 : decode cX12_restore 6 = .ok (.iconst 0, 1) := by decide +kernel
theorem dX12_restore_7 : decode cX12_restore 7 = .ok (.iconst 1, 1) := by decide +kernel
theorem dX12_restore_8 : decode cX12_restore 8 = .ok (.invokestatic 211, 3) := by decide +kernel
theorem dX12_restore_11 : decode cX12_restore 11 = .ok (.ifCond .eq 12, 3) := by decide +kernel
theorem dX12_restore_14 : decode cX12_restore 14 = .ok (.aload_n 0, 1) := by decide +kernel
theorem dX12_restore_15 : decode cX12_restore 15 = .ok (.getfield 99, 3) := by decide +kernel
theorem dX12_restore_18 : decode cX12_restore 18 = .ok (.iload_n 1, 1) := by decide +kernel
theorem dX12_restore_19 : decode cX12_restore 19 = .ok (.baload, 1) := by decide +kernel
theorem dX12_restore_20 : decode cX12_restore 20 = .ok (.ifCond .ne 5, 3) := by decide +kernel
theorem dX12_restore_23 : decode cX12_restore 23 = .ok (.iconst 0, 1) := by decide +kernel
theorem dX12_restore_24 : decode cX12_restore 24 = .ok (.ireturn, 1) := by decide +kernel
theorem dX12_restore_25 : decode cX12_restore 25 = .ok (.iconst 0, 1) := by decide +kernel
theorem dX12_restore_26 : decode cX12_restore 26 = .ok (.istore_n 2, 1) := by decide +kernel
theorem dX12_restore_27 : decode cX12_restore 27 = .ok (.iload_n 2, 1) := by decide +kernel
theorem dX12_restore_28 : decode cX12_restore 28 = .ok (.sipush 469, 3) := by decide +kernel
theorem dX12_restore_31 : decode cX12_restore 31 = .ok (.if_icmp .ge 27, 3) := by decide +kernel
theorem dX12_restore_34 : decode cX12_restore 34 = .ok (.aload_n 0, 1) := by decide +kernel
theorem dX12_restore_35 : decode cX12_restore 35 = .ok (.getfield 33, 3) := by decide +kernel
theorem dX12_restore_38 : decode cX12_restore 38 = .ok (.iload_n 2, 1) := by decide +kernel
theorem dX12_restore_39 : decode cX12_restore 39 = .ok (.aload_n 0, 1) := by decide +kernel
theorem dX12_restore_40 : decode cX12_restore 40 = .ok (.getfield 93, 3) := by decide +kernel
theorem dX12_restore_43 : decode cX12_restore 43 = .ok (.sipush 469, 3) := by decide +kernel
theorem dX12_restore_46 : decode cX12_restore 46 = .ok (.iload_n 1, 1) := by decide +kernel
theorem dX12_restore_47 : decode cX12_restore 47 = .ok (.imul, 1) := by decide +kernel
theorem dX12_restore_48 : decode cX12_restore 48 = .ok (.iload_n 2, 1) := by decide +kernel
theorem dX12_restore_49 : decode cX12_restore 49 = .ok (.iadd, 1) := by decide +kernel
theorem dX12_restore_50 : decode cX12_restore 50 = .ok (.iaload, 1) := by decide +kernel
theorem dX12_restore_51 : decode cX12_restore 51 = .ok (.iastore, 1) := by decide +kernel
theorem dX12_restore_52 : decode cX12_restore 52 = .ok (.iinc 2 1, 3) := by decide +kernel
theorem dX12_restore_55 : decode cX12_restore 55 = .ok (.goto (-28), 3) := by decide +kernel
theorem dX12_restore_58 : decode cX12_restore 58 = .ok (.iconst 0, 1) := by decide +kernel
theorem dX12_restore_59 : decode cX12_restore 59 = .ok (.istore_n 2, 1) := by decide +kernel
theorem dX12_restore_60 : decode cX12_restore 60 = .ok (.iload_n 2, 1) := by decide +kernel
theorem dX12_restore_61 : decode cX12_restore 61 = .ok (.bipush 41, 2) := by decide +kernel
theorem dX12_restore_63 : decode cX12_restore 63 = .ok (.if_icmp .ge 26, 3) := by decide +kernel
theorem dX12_restore_66 : decode cX12_restore 66 = .ok (.aload_n 0, 1) := by decide +kernel
theorem dX12_restore_67 : decode cX12_restore 67 = .ok (.getfield 43, 3) := by decide +kernel
theorem dX12_restore_70 : decode cX12_restore 70 = .ok (.iload_n 2, 1) := by decide +kernel
theorem dX12_restore_71 : decode cX12_restore 71 = .ok (.aload_n 0, 1) := by decide +kernel
theorem dX12_restore_72 : decode cX12_restore 72 = .ok (.getfield 96, 3) := by decide +kernel
theorem dX12_restore_75 : decode cX12_restore 75 = .ok (.bipush 41, 2) := by decide +kernel
theorem dX12_restore_77 : decode cX12_restore 77 = .ok (.iload_n 1, 1) := by decide +kernel
theorem dX12_restore_78 : decode cX12_restore 78 = .ok (.imul, 1) := by decide +kernel
theorem dX12_restore_79 : decode cX12_restore 79 = .ok (.iload_n 2, 1) := by decide +kernel
theorem dX12_restore_80 : decode cX12_restore 80 = .ok (.iadd, 1) := by decide +kernel
theorem dX12_restore_81 : decode cX12_restore 81 = .ok (.laload, 1) := by decide +kernel
theorem dX12_restore_82 : decode cX12_restore 82 = .ok (.lastore, 1) := by decide +kernel
theorem dX12_restore_83 : decode cX12_restore 83 = .ok (.iinc 2 1, 3) := by decide +kernel
theorem dX12_restore_86 : decode cX12_restore 86 = .ok (.goto (-26), 3) := by decide +kernel
theorem dX12_restore_89 : decode cX12_restore 89 = .ok (.aload_n 0, 1) := by decide +kernel
theorem dX12_restore_90 : decode cX12_restore 90 = .ok (.iconst 0, 1) := by decide +kernel
theorem dX12_restore_91 : decode cX12_restore 91 = .ok (.putfield 295, 3) := by decide +kernel
theorem dX12_restore_94 : decode cX12_restore 94 = .ok (.iconst 1, 1) := by decide +kernel
theorem dX12_restore_95 : decode cX12_restore 95 = .ok (.ireturn, 1) := by decide +kernel
theorem dX12_count_0 : decode cX12_count 0 = .ok (.aload_n 0, 1) := by decide +kernel
theorem dX12_count_1 : decode cX12_count 1 = .ok (.iconst 0, 1) := by decide +kernel
theorem dX12_count_2 : decode cX12_count 2 = .ok (.putfield 1, 3) := by decide +kernel
theorem dX12_count_5 : decode cX12_count 5 = .ok (.iload_n 1, 1) := by decide +kernel
theorem dX12_count_6 : decode cX12_count 6 = .ok (.bipush 8, 2) := by decide +kernel
theorem dX12_count_8 : decode cX12_count 8 = .ok (.if_icmp .ne 10, 3) := by decide +kernel
theorem dX12_count_11 : decode cX12_count 11 = .ok (.aload_n 0, 1) := by decide +kernel
theorem dX12_count_12 : decode cX12_count 12 = .ok (.getfield 7, 3) := by decide +kernel
theorem dX12_count_15 : decode cX12_count 15 = .ok (.goto 23, 3) := by decide +kernel
theorem dX12_count_18 : decode cX12_count 18 = .ok (.iload_n 1, 1) := by decide +kernel
theorem dX12_count_19 : decode cX12_count 19 = .ok (.iconst 0, 1) := by decide +kernel
theorem dX12_count_20 : decode cX12_count 20 = .ok (.bipush 7, 2) := by decide +kernel
theorem dX12_count_22 : decode cX12_count 22 = .ok (.invokestatic 211, 3) := by decide +kernel
theorem dX12_count_25 : decode cX12_count 25 = .ok (.ifCond .eq 12, 3) := by decide +kernel
theorem dX12_count_28 : decode cX12_count 28 = .ok (.aload_n 0, 1) := by decide +kernel
theorem dX12_count_29 : decode cX12_count 29 = .ok (.getfield 33, 3) := by decide +kernel
theorem dX12_count_32 : decode cX12_count 32 = .ok (.iload_n 1, 1) := by decide +kernel
theorem dX12_count_33 : decode cX12_count 33 = .ok (.iaload, 1) := by decide +kernel
theorem dX12_count_34 : decode cX12_count 34 = .ok (.goto 4, 3) := by decide +kernel
theorem dX12_count_37 : decode cX12_count 37 = .ok (.iconst (-1), 1) := by decide +kernel
theorem dX12_count_38 : decode cX12_count 38 = .ok (.ireturn, 1) := by decide +kernel
theorem dJ6_bitCount_0f7a4_0 : decode cJ6_bitCount_0f7a4 0 = .ok (.iload_n 0, 1) := by decide +kernel
theorem dJ6_bitCount_0f7a4_1 : decode cJ6_bitCount_0f7a4 1 = .ok (.iload_n 0, 1) := by decide +kernel
theorem dJ6_bitCount_0f7a4_2 : decode cJ6_bitCount_0f7a4 2 = .ok (.iconst 1, 1) := by decide +kernel
theorem dJ6_bitCount_0f7a4_3 : decode cJ6_bitCount_0f7a4 3 = .ok (.iushr, 1) := by decide +kernel
theorem dJ6_bitCount_0f7a4_4 : decode cJ6_bitCount_0f7a4 4 = .ok (.ldc_w 265, 3) := by decide +kernel
theorem dJ6_bitCount_0f7a4_7 : decode cJ6_bitCount_0f7a4 7 = .ok (.iand, 1) := by decide +kernel
theorem dJ6_bitCount_0f7a4_8 : decode cJ6_bitCount_0f7a4 8 = .ok (.isub, 1) := by decide +kernel
theorem dJ6_bitCount_0f7a4_9 : decode cJ6_bitCount_0f7a4 9 = .ok (.istore_n 0, 1) := by decide +kernel
theorem dJ6_bitCount_0f7a4_10 : decode cJ6_bitCount_0f7a4 10 = .ok (.iload_n 0, 1) := by decide +kernel
theorem dJ6_bitCount_0f7a4_11 : decode cJ6_bitCount_0f7a4 11 = .ok (.ldc_w 266, 3) := by decide +kernel
theorem dJ6_bitCount_0f7a4_14 : decode cJ6_bitCount_0f7a4 14 = .ok (.iand, 1) := by decide +kernel
theorem dJ6_bitCount_0f7a4_15 : decode cJ6_bitCount_0f7a4 15 = .ok (.iload_n 0, 1) := by decide +kernel
theorem dJ6_bitCount_0f7a4_16 : decode cJ6_bitCount_0f7a4 16 = .ok (.iconst 2, 1) := by decide +kernel
theorem dJ6_bitCount_0f7a4_17 : decode cJ6_bitCount_0f7a4 17 = .ok (.iushr, 1) := by decide +kernel
theorem dJ6_bitCount_0f7a4_18 : decode cJ6_bitCount_0f7a4 18 = .ok (.ldc_w 266, 3) := by decide +kernel
theorem dJ6_bitCount_0f7a4_21 : decode cJ6_bitCount_0f7a4 21 = .ok (.iand, 1) := by decide +kernel
theorem dJ6_bitCount_0f7a4_22 : decode cJ6_bitCount_0f7a4 22 = .ok (.iadd, 1) := by decide +kernel
theorem dJ6_bitCount_0f7a4_23 : decode cJ6_bitCount_0f7a4 23 = .ok (.istore_n 0, 1) := by decide +kernel
theorem dJ6_bitCount_0f7a4_24 : decode cJ6_bitCount_0f7a4 24 = .ok (.iload_n 0, 1) := by decide +kernel
theorem dJ6_bitCount_0f7a4_25 : decode cJ6_bitCount_0f7a4 25 = .ok (.iload_n 0, 1) := by decide +kernel
theorem dJ6_bitCount_0f7a4_26 : decode cJ6_bitCount_0f7a4 26 = .ok (.iconst 4, 1) := by decide +kernel
theorem dJ6_bitCount_0f7a4_27 : decode cJ6_bitCount_0f7a4 27 = .ok (.iushr, 1) := by decide +kernel
theorem dJ6_bitCount_0f7a4_28 : decode cJ6_bitCount_0f7a4 28 = .ok (.iadd, 1) := by decide +kernel
theorem dJ6_bitCount_0f7a4_29 : decode cJ6_bitCount_0f7a4 29 = .ok (.ldc_w 267, 3) := by decide +kernel
theorem dJ6_bitCount_0f7a4_32 : decode cJ6_bitCount_0f7a4 32 = .ok (.iand, 1) := by decide +kernel
theorem dJ6_bitCount_0f7a4_33 : decode cJ6_bitCount_0f7a4 33 = .ok (.istore_n 0, 1) := by decide +kernel
theorem dJ6_bitCount_0f7a4_34 : decode cJ6_bitCount_0f7a4 34 = .ok (.iload_n 0, 1) := by decide +kernel
theorem dJ6_bitCount_0f7a4_35 : decode cJ6_bitCount_0f7a4 35 = .ok (.iload_n 0, 1) := by decide +kernel
theorem dJ6_bitCount_0f7a4_36 : decode cJ6_bitCount_0f7a4 36 = .ok (.bipush 8, 2) := by decide +kernel
theorem dJ6_bitCount_0f7a4_38 : decode cJ6_bitCount_0f7a4 38 = .ok (.iushr, 1) := by decide +kernel
theorem dJ6_bitCount_0f7a4_39 : decode cJ6_bitCount_0f7a4 39 = .ok (.iadd, 1) := by decide +kernel
theorem dJ6_bitCount_0f7a4_40 : decode cJ6_bitCount_0f7a4 40 = .ok (.istore_n 0, 1) := by decide +kernel
theorem dJ6_bitCount_0f7a4_41 : decode cJ6_bitCount_0f7a4 41 = .ok (.iload_n 0, 1) := by decide +kernel
theorem dJ6_bitCount_0f7a4_42 : decode cJ6_bitCount_0f7a4 42 = .ok (.iload_n 0, 1) := by decide +kernel
theorem dJ6_bitCount_0f7a4_43 : decode cJ6_bitCount_0f7a4 43 = .ok (.bipush 16, 2) := by decide +kernel
theorem dJ6_bitCount_0f7a4_45 : decode cJ6_bitCount_0f7a4 45 = .ok (.iushr, 1) := by decide +kernel
theorem dJ6_bitCount_0f7a4_46 : decode cJ6_bitCount_0f7a4 46 = .ok (.iadd, 1) := by decide +kernel
theorem dJ6_bitCount_0f7a4_47 : decode cJ6_bitCount_0f7a4 47 = .ok (.istore_n 0, 1) := by decide +kernel
theorem dJ6_bitCount_0f7a4_48 : decode cJ6_bitCount_0f7a4 48 = .ok (.iload_n 0, 1) := by decide +kernel
theorem dJ6_bitCount_0f7a4_49 : decode cJ6_bitCount_0f7a4 49 = .ok (.bipush 63, 2) := by decide +kernel
theorem dJ6_bitCount_0f7a4_51 : decode cJ6_bitCount_0f7a4 51 = .ok (.iand, 1) := by decide +kernel
theorem dJ6_bitCount_0f7a4_52 : decode cJ6_bitCount_0f7a4 52 = .ok (.ireturn, 1) := by decide +kernel
theorem dJ9_max_7cf53_0 : decode cJ9_max_7cf53 0 = .ok (.iload_n 0, 1) := by decide +kernel
theorem dJ9_max_7cf53_1 : decode cJ9_max_7cf53 1 = .ok (.iload_n 1, 1) := by decide +kernel
theorem dJ9_max_7cf53_2 : decode cJ9_max_7cf53 2 = .ok (.if_icmp .lt 7, 3) := by decide +kernel
theorem dJ9_max_7cf53_5 : decode cJ9_max_7cf53 5 = .ok (.iload_n 0, 1) := by decide +kernel
theorem dJ9_max_7cf53_6 : decode cJ9_max_7cf53 6 = .ok (.goto 4, 3) := by decide +kernel
theorem dJ9_max_7cf53_9 : decode cJ9_max_7cf53 9 = .ok (.iload_n 1, 1) := by decide +kernel
theorem dJ9_max_7cf53_10 : decode cJ9_max_7cf53 10 = .ok (.ireturn, 1) := by decide +kernel
theorem dJ9_min_7cf53_0 : decode cJ9_min_7cf53 0 = .ok (.iload_n 0, 1) := by decide +kernel
theorem dJ9_min_7cf53_1 : decode cJ9_min_7cf53 1 = .ok (.iload_n 1, 1) := by decide +kernel
theorem dJ9_min_7cf53_2 : decode cJ9_min_7cf53 2 = .ok (.if_icmp .gt 7, 3) := by decide +kernel
theorem dJ9_min_7cf53_5 : decode cJ9_min_7cf53 5 = .ok (.iload_n 0, 1) := by decide +kernel
theorem dJ9_min_7cf53_6 : decode cJ9_min_7cf53 6 = .ok (.goto 4, 3) := by decide +kernel
theorem dJ9_min_7cf53_9 : decode cJ9_min_7cf53 9 = .ok (.iload_n 1, 1) := by decide +kernel
theorem dJ9_min_7cf53_10 : decode cJ9_min_7cf53 10 = .ok (.ireturn, 1) := by decide +kernel
theorem dJ0_length_8abf5_0 : decode cJ0_length_8abf5 0 = .ok (.aload_n 0, 1) := by decide +kernel
theorem dJ0_length_8abf5_1 : decode cJ0_length_8abf5 1 = .ok (.getfield 9, 3) := by decide +kernel
theorem dJ0_length_8abf5_4 : decode cJ0_length_8abf5 4 = .ok (.arraylength, 1) := by decide +kernel
theorem dJ0_length_8abf5_5 : decode cJ0_length_8abf5 5 = .ok (.aload_n 0, 1) := by decide +kernel
theorem dJ0_length_8abf5_6 : decode cJ0_length_8abf5 6 = .ok (.invokevirtual 335, 3) := by decide +kernel
theorem dJ0_length_8abf5_9 : decode cJ0_length_8abf5 9 = .ok (.ishr, 1) := by decide +kernel
theorem dJ0_length_8abf5_10 : decode cJ0_length_8abf5 10 = .ok (.ireturn, 1) := by decide +kernel
theorem dJ0_charAt_5068e_0 : decode cJ0_charAt_5068e 0 = .ok (.aload_n 0, 1) := by decide +kernel
theorem dJ0_charAt_5068e_1 : decode cJ0_charAt_5068e 1 = .ok (.invokevirtual 492, 3) := by decide +kernel
theorem dJ0_charAt_5068e_4 : decode cJ0_charAt_5068e 4 = .ok (.ifCond .eq 12, 3) := by decide +kernel
theorem dJ0_charAt_5068e_7 : decode cJ0_charAt_5068e 7 = .ok (.aload_n 0, 1) := by decide +kernel
theorem dJ0_charAt_5068e_8 : decode cJ0_charAt_5068e 8 = .ok (.getfield 9, 3) := by decide +kernel
theorem dJ0_charAt_5068e_11 : decode cJ0_charAt_5068e 11 = .ok (.iload_n 1, 1) := by decide +kernel
theorem dJ0_charAt_5068e_12 : decode cJ0_charAt_5068e 12 = .ok (.invokestatic 495, 3) := by decide +kernel
theorem dJ0_charAt_5068e_15 : decode cJ0_charAt_5068e 15 = .ok (.ireturn, 1) := by decide +kernel
theorem dJ0_charAt_5068e_16 : decode cJ0_charAt_5068e 16 = .ok (.aload_n 0, 1) := by decide +kernel
theorem dJ0_charAt_5068e_17 : decode cJ0_charAt_5068e 17 = .ok (.getfield 9, 3) := by decide +kernel
theorem dJ0_charAt_5068e_20 : decode cJ0_charAt_5068e 20 = .ok (.iload_n 1, 1) := by decide +kernel
theorem dJ0_charAt_5068e_21 : decode cJ0_charAt_5068e 21 = .ok (.invokestatic 498, 3) := by decide +kernel
theorem dJ0_charAt_5068e_24 : decode cJ0_charAt_5068e 24 = .ok (.ireturn, 1) := by decide +kernel
theorem dJ0_coder_7d493_0 : decode cJ0_coder_7d493 0 = .ok (.getstatic 38, 3) := by decide +kernel
theorem dJ0_coder_7d493_3 : decode cJ0_coder_7d493 3 = .ok (.ifCond .eq 10, 3) := by decide +kernel
theorem dJ0_coder_7d493_6 : decode cJ0_coder_7d493 6 = .ok (.aload_n 0, 1) := by decide +kernel
theorem dJ0_coder_7d493_7 : decode cJ0_coder_7d493 7 = .ok (.getfield 15, 3) := by decide +kernel
theorem dJ0_coder_7d493_10 : decode cJ0_coder_7d493 10 = .ok (.goto 4, 3) := by decide +kernel
theorem dJ0_coder_7d493_13 : decode cJ0_coder_7d493 13 = .ok (.iconst 1, 1) := by decide +kernel
theorem dJ0_coder_7d493_14 : decode cJ0_coder_7d493 14 = .ok (.ireturn, 1) := by decide +kernel
theorem dJ0_isLatin1_aae02_0 : decode cJ0_isLatin1_aae02 0 = .ok (.getstatic 38, 3) := by decide +kernel
theorem dJ0_isLatin1_aae02_3 : decode cJ0_isLatin1_aae02 3 = .ok (.ifCond .eq 14, 3) := by decide +kernel
theorem dJ0_isLatin1_aae02_6 : decode cJ0_isLatin1_aae02 6 = .ok (.aload_n 0, 1) := by decide +kernel
theorem dJ0_isLatin1_aae02_7 : decode cJ0_isLatin1_aae02 7 = .ok (.getfield 15, 3) := by decide +kernel
theorem dJ0_isLatin1_aae02_10 : decode cJ0_isLatin1_aae02 10 = .ok (.ifCond .ne 7, 3) := by decide +kernel
theorem dJ0_isLatin1_aae02_13 : decode cJ0_isLatin1_aae02 13 = .ok (.iconst 1, 1) := by decide +kernel
theorem dJ0_isLatin1_aae02_14 : decode cJ0_isLatin1_aae02 14 = .ok (.goto 4, 3) := by decide +kernel
theorem dJ0_isLatin1_aae02_17 : decode cJ0_isLatin1_aae02 17 = .ok (.iconst 0, 1) := by decide +kernel
theorem dJ0_isLatin1_aae02_18 : decode cJ0_isLatin1_aae02 18 = .ok (.ireturn, 1) := by decide +kernel
theorem dJ0_checkIndex_df160_0 : decode cJ0_checkIndex_df160 0 = .ok (.iload_n 0, 1) := by decide +kernel
theorem dJ0_checkIndex_df160_1 : decode cJ0_checkIndex_df160 1 = .ok (.iload_n 1, 1) := by decide +kernel
theorem dJ0_checkIndex_df160_2 : decode cJ0_checkIndex_df160 2 = .ok (.getstatic 1053, 3) := by decide +kernel
theorem dJ0_checkIndex_df160_5 : decode cJ0_checkIndex_df160 5 = .ok (.invokestatic 1059, 3) := by decide +kernel
theorem dJ0_checkIndex_df160_8 : decode cJ0_checkIndex_df160 8 = .ok (.pop, 1) := by decide +kernel
theorem dJ0_checkIndex_df160_9 : decode cJ0_checkIndex_df160 9 = .ok (.return_, 1) := by decide +kernel
theorem dJ1_charAt_3b067_0 : decode cJ1_charAt_3b067 0 = .ok (.iload_n 1, 1) := by decide +kernel
theorem dJ1_charAt_3b067_1 : decode cJ1_charAt_3b067 1 = .ok (.aload_n 0, 1) := by decide +kernel
theorem dJ1_charAt_3b067_2 : decode cJ1_charAt_3b067 2 = .ok (.arraylength, 1) := by decide +kernel
theorem dJ1_charAt_3b067_3 : decode cJ1_charAt_3b067 3 = .ok (.invokestatic 9, 3) := by decide +kernel
theorem dJ1_charAt_3b067_6 : decode cJ1_charAt_3b067 6 = .ok (.aload_n 0, 1) := by decide +kernel
theorem dJ1_charAt_3b067_7 : decode cJ1_charAt_3b067 7 = .ok (.iload_n 1, 1) := by decide +kernel
theorem dJ1_charAt_3b067_8 : decode cJ1_charAt_3b067 8 = .ok (.baload, 1) := by decide +kernel
theorem dJ1_charAt_3b067_9 : decode cJ1_charAt_3b067 9 = .ok (.sipush 255, 3) := by decide +kernel
theorem dJ1_charAt_3b067_12 : decode cJ1_charAt_3b067 12 = .ok (.iand, 1) := by decide +kernel
theorem dJ1_charAt_3b067_13 : decode cJ1_charAt_3b067 13 = .ok (.i2c, 1) := by decide +kernel
theorem dJ1_charAt_3b067_14 : decode cJ1_charAt_3b067 14 = .ok (.ireturn, 1) := by decide +kernel
theorem dJ2_getChar_3b067_0 : decode cJ2_getChar_3b067 0 = .ok (.getstatic 44, 3) := by decide +kernel
theorem dJ2_getChar_3b067_3 : decode cJ2_getChar_3b067 3 = .ok (.ifCond .ne 25, 3) := by decide +kernel
theorem dJ2_getChar_3b067_6 : decode cJ2_getChar_3b067 6 = .ok (.iload_n 1, 1) := by decide +kernel
theorem dJ2_getChar_3b067_7 : decode cJ2_getChar_3b067 7 = .ok (.ifCond .lt 11, 3) := by decide +kernel
theorem dJ2_getChar_3b067_10 : decode cJ2_getChar_3b067 10 = .ok (.iload_n 1, 1) := by decide +kernel
theorem dJ2_getChar_3b067_11 : decode cJ2_getChar_3b067 11 = .ok (.aload_n 0, 1) := by decide +kernel
theorem dJ2_getChar_3b067_12 : decode cJ2_getChar_3b067 12 = .ok (.invokestatic 48, 3) := by decide +kernel
theorem dJ2_getChar_3b067_15 : decode cJ2_getChar_3b067 15 = .ok (.if_icmp .lt 13, 3) := by decide +kernel
theorem dJ2_getChar_3b067_18 : decode cJ2_getChar_3b067 18 = .ok (.new 52, 3) := by decide +kernel
theorem dJ2_getChar_3b067_21 : decode cJ2_getChar_3b067 21 = .ok (.dup, 1) := by decide +kernel
theorem dJ2_getChar_3b067_22 : decode cJ2_getChar_3b067 22 = .ok (.ldc 54, 2) := by decide +kernel
theorem dJ2_getChar_3b067_24 : decode cJ2_getChar_3b067 24 = .ok (.invokespecial 56, 3) := by decide +kernel
theorem dJ2_getChar_3b067_27 : decode cJ2_getChar_3b067 27 = .ok (.athrow, 1) := by decide +kernel
theorem dJ2_getChar_3b067_28 : decode cJ2_getChar_3b067 28 = .ok (.iload_n 1, 1) := by decide +kernel
theorem dJ2_getChar_3b067_29 : decode cJ2_getChar_3b067 29 = .ok (.iconst 1, 1) := by decide +kernel
theorem dJ2_getChar_3b067_30 : decode cJ2_getChar_3b067 30 = .ok (.ishl, 1) := by decide +kernel
theorem dJ2_getChar_3b067_31 : decode cJ2_getChar_3b067 31 = .ok (.istore_n 1, 1) := by decide +kernel
theorem dJ2_getChar_3b067_32 : decode cJ2_getChar_3b067 32 = .ok (.aload_n 0, 1) := by decide +kernel
theorem dJ2_getChar_3b067_33 : decode cJ2_getChar_3b067 33 = .ok (.iload_n 1, 1) := by decide +kernel
theorem dJ2_getChar_3b067_34 : decode cJ2_getChar_3b067 34 = .ok (.iinc 1 1, 3) := by decide +kernel
theorem dJ2_getChar_3b067_37 : decode cJ2_getChar_3b067 37 = .ok (.baload, 1) := by decide +kernel
theorem dJ2_getChar_3b067_38 : decode cJ2_getChar_3b067 38 = .ok (.sipush 255, 3) := by decide +kernel
theorem dJ2_getChar_3b067_41 : decode cJ2_getChar_3b067 41 = .ok (.iand, 1) := by decide +kernel
theorem dJ2_getChar_3b067_42 : decode cJ2_getChar_3b067 42 = .ok (.getstatic 59, 3) := by decide +kernel
theorem dJ2_getChar_3b067_45 : decode cJ2_getChar_3b067 45 = .ok (.ishl, 1) := by decide +kernel
theorem dJ2_getChar_3b067_46 : decode cJ2_getChar_3b067 46 = .ok (.aload_n 0, 1) := by decide +kernel
theorem dJ2_getChar_3b067_47 : decode cJ2_getChar_3b067 47 = .ok (.iload_n 1, 1) := by decide +kernel
theorem dJ2_getChar_3b067_48 : decode cJ2_getChar_3b067 48 = .ok (.baload, 1) := by decide +kernel
theorem dJ2_getChar_3b067_49 : decode cJ2_getChar_3b067 49 = .ok (.sipush 255, 3) := by decide +kernel
theorem dJ2_getChar_3b067_52 : decode cJ2_getChar_3b067 52 = .ok (.iand, 1) := by decide +kernel
theorem dJ2_getChar_3b067_53 : decode cJ2_getChar_3b067 53 = .ok (.getstatic 63, 3) := by decide +kernel
theorem dJ2_getChar_3b067_56 : decode cJ2_getChar_3b067 56 = .ok (.ishl, 1) := by decide +kernel
theorem dJ2_getChar_3b067_57 : decode cJ2_getChar_3b067 57 = .ok (.ior, 1) := by decide +kernel
theorem dJ2_getChar_3b067_58 : decode cJ2_getChar_3b067 58 = .ok (.i2c, 1) := by decide +kernel
theorem dJ2_getChar_3b067_59 : decode cJ2_getChar_3b067 59 = .ok (.ireturn, 1) := by decide +kernel
theorem dJ2_length_9d52b_0 : decode cJ2_length_9d52b 0 = .ok (.aload_n 0, 1) := by decide +kernel
theorem dJ2_length_9d52b_1 : decode cJ2_length_9d52b 1 = .ok (.arraylength, 1) := by decide +kernel
theorem dJ2_length_9d52b_2 : decode cJ2_length_9d52b 2 = .ok (.iconst 1, 1) := by decide +kernel
theorem dJ2_length_9d52b_3 : decode cJ2_length_9d52b 3 = .ok (.ishr, 1) := by decide +kernel
theorem dJ2_length_9d52b_4 : decode cJ2_length_9d52b 4 = .ok (.ireturn, 1) := by decide +kernel
theorem dJ2_charAt_3b067_0 : decode cJ2_charAt_3b067 0 = .ok (.iload_n 1, 1) := by decide +kernel
theorem dJ2_charAt_3b067_1 : decode cJ2_charAt_3b067 1 = .ok (.aload_n 0, 1) := by decide +kernel
theorem dJ2_charAt_3b067_2 : decode cJ2_charAt_3b067 2 = .ok (.invokestatic 67, 3) := by decide +kernel
theorem dJ2_charAt_3b067_5 : decode cJ2_charAt_3b067 5 = .ok (.aload_n 0, 1) := by decide +kernel
theorem dJ2_charAt_3b067_6 : decode cJ2_charAt_3b067 6 = .ok (.iload_n 1, 1) := by decide +kernel
theorem dJ2_charAt_3b067_7 : decode cJ2_charAt_3b067 7 = .ok (.invokestatic 71, 3) := by decide +kernel
theorem dJ2_charAt_3b067_10 : decode cJ2_charAt_3b067 10 = .ok (.ireturn, 1) := by decide +kernel
theorem dJ2_checkIndex_2214a_0 : decode cJ2_checkIndex_2214a 0 = .ok (.iload_n 0, 1) := by decide +kernel
theorem dJ2_checkIndex_2214a_1 : decode cJ2_checkIndex_2214a 1 = .ok (.aload_n 1, 1) := by decide +kernel
theorem dJ2_checkIndex_2214a_2 : decode cJ2_checkIndex_2214a 2 = .ok (.invokestatic 48, 3) := by decide +kernel
theorem dJ2_checkIndex_2214a_5 : decode cJ2_checkIndex_2214a 5 = .ok (.invokestatic 414, 3) := by decide +kernel
theorem dJ2_checkIndex_2214a_8 : decode cJ2_checkIndex_2214a 8 = .ok (.return_, 1) := by decide +kernel
theorem dJ7_fill_53178_0 : decode cJ7_fill_53178 0 = .ok (.iconst 0, 1) := by decide +kernel
theorem dJ7_fill_53178_1 : decode cJ7_fill_53178 1 = .ok (.istore_n 2, 1) := by decide +kernel
theorem dJ7_fill_53178_2 : decode cJ7_fill_53178 2 = .ok (.aload_n 0, 1) := by decide +kernel
theorem dJ7_fill_53178_3 : decode cJ7_fill_53178 3 = .ok (.arraylength, 1) := by decide +kernel
theorem dJ7_fill_53178_4 : decode cJ7_fill_53178 4 = .ok (.istore_n 3, 1) := by decide +kernel
theorem dJ7_fill_53178_5 : decode cJ7_fill_53178 5 = .ok (.iload_n 2, 1) := by decide +kernel
theorem dJ7_fill_53178_6 : decode cJ7_fill_53178 6 = .ok (.iload_n 3, 1) := by decide +kernel
theorem dJ7_fill_53178_7 : decode cJ7_fill_53178 7 = .ok (.if_icmp .ge 13, 3) := by decide +kernel
theorem dJ7_fill_53178_10 : decode cJ7_fill_53178 10 = .ok (.aload_n 0, 1) := by decide +kernel
theorem dJ7_fill_53178_11 : decode cJ7_fill_53178 11 = .ok (.iload_n 2, 1) := by decide +kernel
theorem dJ7_fill_53178_12 : decode cJ7_fill_53178 12 = .ok (.iload_n 1, 1) := by decide +kernel
theorem dJ7_fill_53178_13 : decode cJ7_fill_53178 13 = .ok (.iastore, 1) := by decide +kernel
theorem dJ7_fill_53178_14 : decode cJ7_fill_53178 14 = .ok (.iinc 2 1, 3) := by decide +kernel
theorem dJ7_fill_53178_17 : decode cJ7_fill_53178 17 = .ok (.goto (-12), 3) := by decide +kernel
theorem dJ7_fill_53178_20 : decode cJ7_fill_53178 20 = .ok (.return_, 1) := by decide +kernel
theorem dJ3_checkIndex_8e157_0 : decode cJ3_checkIndex_8e157 0 = .ok (.iload_n 0, 1) := by decide +kernel
theorem dJ3_checkIndex_8e157_1 : decode cJ3_checkIndex_8e157 1 = .ok (.ifCond .lt 8, 3) := by decide +kernel
theorem dJ3_checkIndex_8e157_4 : decode cJ3_checkIndex_8e157 4 = .ok (.iload_n 0, 1) := by decide +kernel
theorem dJ3_checkIndex_8e157_5 : decode cJ3_checkIndex_8e157 5 = .ok (.iload_n 1, 1) := by decide +kernel
theorem dJ3_checkIndex_8e157_6 : decode cJ3_checkIndex_8e157 6 = .ok (.if_icmp .lt 10, 3) := by decide +kernel
theorem dJ3_checkIndex_8e157_9 : decode cJ3_checkIndex_8e157 9 = .ok (.aload_n 2, 1) := by decide +kernel
theorem dJ3_checkIndex_8e157_10 : decode cJ3_checkIndex_8e157 10 = .ok (.iload_n 0, 1) := by decide +kernel
theorem dJ3_checkIndex_8e157_11 : decode cJ3_checkIndex_8e157 11 = .ok (.iload_n 1, 1) := by decide +kernel
theorem dJ3_checkIndex_8e157_12 : decode cJ3_checkIndex_8e157 12 = .ok (.invokestatic 95, 3) := by decide +kernel
theorem dJ3_checkIndex_8e157_15 : decode cJ3_checkIndex_8e157 15 = .ok (.athrow, 1) := by decide +kernel
theorem dJ3_checkIndex_8e157_16 : decode cJ3_checkIndex_8e157 16 = .ok (.iload_n 0, 1) := by decide +kernel
theorem dJ3_checkIndex_8e157_17 : decode cJ3_checkIndex_8e157 17 = .ok (.ireturn, 1) := by decide +kernel
theorem dL_train_0 : decode cL_train 0 = .ok (.aload_n 3, 1) := by decide +kernel
theorem dL_train_1 : decode cL_train 1 = .ok (.iconst 0, 1) := by decide +kernel
theorem dL_train_2 : decode cL_train 2 = .ok (.aload_n 0, 1) := by decide +kernel
theorem dL_train_3 : decode cL_train 3 = .ok (.iload_n 1, 1) := by decide +kernel
theorem dL_train_4 : decode cL_train 4 = .ok (.iload_n 2, 1) := by decide +kernel
theorem dL_train_5 : decode cL_train 5 = .ok (.invokevirtual 7, 3) := by decide +kernel
theorem dL_train_8 : decode cL_train 8 = .ok (.i2l, 1) := by decide +kernel
theorem dL_train_9 : decode cL_train 9 = .ok (.lastore, 1) := by decide +kernel
theorem dL_train_10 : decode cL_train 10 = .ok (.goto 7, 3) := by decide +kernel
theorem dL_train_13 : decode cL_train 13 = .ok (.astore 4, 2) := by decide +kernel
theorem dL_train_15 : decode cL_train 15 = .ok (.iconst 1, 1) := by decide +kernel
theorem dL_train_16 : decode cL_train 16 = .ok (.ireturn, 1) := by decide +kernel
theorem dL_train_17 : decode cL_train 17 = .ok (.iconst 0, 1) := by decide +kernel
theorem dL_train_18 : decode cL_train 18 = .ok (.ireturn, 1) := by decide +kernel
theorem dL_mean_0 : decode cL_mean 0 = .ok (.aload_n 2, 1) := by decide +kernel
theorem dL_mean_1 : decode cL_mean 1 = .ok (.iconst 0, 1) := by decide +kernel
theorem dL_mean_2 : decode cL_mean 2 = .ok (.aload_n 0, 1) := by decide +kernel
theorem dL_mean_3 : decode cL_mean 3 = .ok (.iload_n 1, 1) := by decide +kernel
theorem dL_mean_4 : decode cL_mean 4 = .ok (.invokevirtual 15, 3) := by decide +kernel
theorem dL_mean_7 : decode cL_mean 7 = .ok (.i2l, 1) := by decide +kernel
theorem dL_mean_8 : decode cL_mean 8 = .ok (.lastore, 1) := by decide +kernel
theorem dL_mean_9 : decode cL_mean 9 = .ok (.goto 6, 3) := by decide +kernel
theorem dL_mean_12 : decode cL_mean 12 = .ok (.astore_n 3, 1) := by decide +kernel
theorem dL_mean_13 : decode cL_mean 13 = .ok (.iconst 1, 1) := by decide +kernel
theorem dL_mean_14 : decode cL_mean 14 = .ok (.ireturn, 1) := by decide +kernel
theorem dL_mean_15 : decode cL_mean 15 = .ok (.iconst 0, 1) := by decide +kernel
theorem dL_mean_16 : decode cL_mean 16 = .ok (.ireturn, 1) := by decide +kernel
theorem dL_law_0 : decode cL_law 0 = .ok (.new 8, 3) := by decide +kernel
theorem dL_law_3 : decode cL_law 3 = .ok (.dup, 1) := by decide +kernel
theorem dL_law_4 : decode cL_law 4 = .ok (.invokespecial 19, 3) := by decide +kernel
theorem dL_law_7 : decode cL_law 7 = .ok (.astore_n 1, 1) := by decide +kernel
theorem dL_law_8 : decode cL_law 8 = .ok (.new 20, 3) := by decide +kernel
theorem dL_law_11 : decode cL_law 11 = .ok (.dup, 1) := by decide +kernel
theorem dL_law_12 : decode cL_law 12 = .ok (.invokespecial 22, 3) := by decide +kernel
theorem dL_law_15 : decode cL_law 15 = .ok (.astore_n 2, 1) := by decide +kernel
theorem dL_law_16 : decode cL_law 16 = .ok (.iconst 1, 1) := by decide +kernel
theorem dL_law_17 : decode cL_law 17 = .ok (.newarray .long, 2) := by decide +kernel
theorem dL_law_19 : decode cL_law 19 = .ok (.astore_n 3, 1) := by decide +kernel
theorem dL_law_20 : decode cL_law 20 = .ok (.iconst 0, 1) := by decide +kernel
theorem dL_law_21 : decode cL_law 21 = .ok (.istore 4, 2) := by decide +kernel
theorem dL_law_23 : decode cL_law 23 = .ok (.iload 4, 2) := by decide +kernel
theorem dL_law_25 : decode cL_law 25 = .ok (.aload_n 0, 1) := by decide +kernel
theorem dL_law_26 : decode cL_law 26 = .ok (.arraylength, 1) := by decide +kernel
theorem dL_law_27 : decode cL_law 27 = .ok (.bipush 6, 2) := by decide +kernel
theorem dL_law_29 : decode cL_law 29 = .ok (.isub, 1) := by decide +kernel
theorem dL_law_30 : decode cL_law 30 = .ok (.if_icmp .gt 1435, 3) := by decide +kernel
theorem dL_law_33 : decode cL_law 33 = .ok (.aload_n 0, 1) := by decide +kernel
theorem dL_law_34 : decode cL_law 34 = .ok (.iload 4, 2) := by decide +kernel
theorem dL_law_36 : decode cL_law 36 = .ok (.iaload, 1) := by decide +kernel
theorem dL_law_37 : decode cL_law 37 = .ok (.bipush 63, 2) := by decide +kernel
theorem dL_law_39 : decode cL_law 39 = .ok (.iand, 1) := by decide +kernel
theorem dL_law_40 : decode cL_law 40 = .ok (.tableswitch 1419 0 44 #[196, 269, 294, 307, 320, 357, 394, 431, 468, 505, 573, 598, 623, 648, 673, 710, 735, 760, 773, 786, 811, 824, 849, 874, 887, 900, 913, 950, 975, 1012, 1025, 1038, 1063, 1076, 1132, 1157, 1182, 1219, 1256, 1281, 1306, 1319, 1344, 1369, 1394], 196) := by decide +kernel
theorem dL_law_236 : decode cL_law 236 = .ok (.aload_n 1, 1) := by decide +kernel
theorem dL_law_237 : decode cL_law 237 = .ok (.aload_n 0, 1) := by decide +kernel
theorem dL_law_238 : decode cL_law 238 = .ok (.iload 4, 2) := by decide +kernel
theorem dL_law_240 : decode cL_law 240 = .ok (.iconst 1, 1) := by decide +kernel
theorem dL_law_241 : decode cL_law 241 = .ok (.iadd, 1) := by decide +kernel
theorem dL_law_242 : decode cL_law 242 = .ok (.iaload, 1) := by decide +kernel
theorem dL_law_243 : decode cL_law 243 = .ok (.aload_n 0, 1) := by decide +kernel
theorem dL_law_244 : decode cL_law 244 = .ok (.iload 4, 2) := by decide +kernel
theorem dL_law_246 : decode cL_law 246 = .ok (.iconst 2, 1) := by decide +kernel
theorem dL_law_247 : decode cL_law 247 = .ok (.iadd, 1) := by decide +kernel
theorem dL_law_248 : decode cL_law 248 = .ok (.iaload, 1) := by decide +kernel
theorem dL_law_249 : decode cL_law 249 = .ok (.aload_n 0, 1) := by decide +kernel
theorem dL_law_250 : decode cL_law 250 = .ok (.iload 4, 2) := by decide +kernel
theorem dL_law_252 : decode cL_law 252 = .ok (.iconst 3, 1) := by decide +kernel
theorem dL_law_253 : decode cL_law 253 = .ok (.iadd, 1) := by decide +kernel
theorem dL_law_254 : decode cL_law 254 = .ok (.iaload, 1) := by decide +kernel
theorem dL_law_255 : decode cL_law 255 = .ok (.aload_n 0, 1) := by decide +kernel
theorem dL_law_256 : decode cL_law 256 = .ok (.iload 4, 2) := by decide +kernel
theorem dL_law_258 : decode cL_law 258 = .ok (.iconst 4, 1) := by decide +kernel
theorem dL_law_259 : decode cL_law 259 = .ok (.iadd, 1) := by decide +kernel
theorem dL_law_260 : decode cL_law 260 = .ok (.iaload, 1) := by decide +kernel
theorem dL_law_261 : decode cL_law 261 = .ok (.aload_n 0, 1) := by decide +kernel
theorem dL_law_262 : decode cL_law 262 = .ok (.iload 4, 2) := by decide +kernel
theorem dL_law_264 : decode cL_law 264 = .ok (.iconst 5, 1) := by decide +kernel
theorem dL_law_265 : decode cL_law 265 = .ok (.iadd, 1) := by decide +kernel
theorem dL_law_266 : decode cL_law 266 = .ok (.iaload, 1) := by decide +kernel
theorem dL_law_267 : decode cL_law 267 = .ok (.invokevirtual 23, 3) := by decide +kernel
theorem dL_law_270 : decode cL_law 270 = .ok (.aload_n 2, 1) := by decide +kernel
theorem dL_law_271 : decode cL_law 271 = .ok (.aload_n 0, 1) := by decide +kernel
theorem dL_law_272 : decode cL_law 272 = .ok (.iload 4, 2) := by decide +kernel
theorem dL_law_274 : decode cL_law 274 = .ok (.iconst 1, 1) := by decide +kernel
theorem dL_law_275 : decode cL_law 275 = .ok (.iadd, 1) := by decide +kernel
theorem dL_law_276 : decode cL_law 276 = .ok (.iaload, 1) := by decide +kernel
theorem dL_law_277 : decode cL_law 277 = .ok (.aload_n 0, 1) := by decide +kernel
theorem dL_law_278 : decode cL_law 278 = .ok (.iload 4, 2) := by decide +kernel
theorem dL_law_280 : decode cL_law 280 = .ok (.iconst 2, 1) := by decide +kernel
theorem dL_law_281 : decode cL_law 281 = .ok (.iadd, 1) := by decide +kernel
theorem dL_law_282 : decode cL_law 282 = .ok (.iaload, 1) := by decide +kernel
theorem dL_law_283 : decode cL_law 283 = .ok (.aload_n 0, 1) := by decide +kernel
theorem dL_law_284 : decode cL_law 284 = .ok (.iload 4, 2) := by decide +kernel
theorem dL_law_286 : decode cL_law 286 = .ok (.iconst 3, 1) := by decide +kernel
theorem dL_law_287 : decode cL_law 287 = .ok (.iadd, 1) := by decide +kernel
theorem dL_law_288 : decode cL_law 288 = .ok (.iaload, 1) := by decide +kernel
theorem dL_law_289 : decode cL_law 289 = .ok (.aload_n 0, 1) := by decide +kernel
theorem dL_law_290 : decode cL_law 290 = .ok (.iload 4, 2) := by decide +kernel
theorem dL_law_292 : decode cL_law 292 = .ok (.iconst 4, 1) := by decide +kernel
theorem dL_law_293 : decode cL_law 293 = .ok (.iadd, 1) := by decide +kernel
theorem dL_law_294 : decode cL_law 294 = .ok (.iaload, 1) := by decide +kernel
theorem dL_law_295 : decode cL_law 295 = .ok (.aload_n 0, 1) := by decide +kernel
theorem dL_law_296 : decode cL_law 296 = .ok (.iload 4, 2) := by decide +kernel
theorem dL_law_298 : decode cL_law 298 = .ok (.iconst 5, 1) := by decide +kernel
theorem dL_law_299 : decode cL_law 299 = .ok (.iadd, 1) := by decide +kernel
theorem dL_law_300 : decode cL_law 300 = .ok (.iaload, 1) := by decide +kernel
theorem dL_law_301 : decode cL_law 301 = .ok (.invokevirtual 27, 3) := by decide +kernel
theorem dL_law_304 : decode cL_law 304 = .ok (.if_icmp .eq 1155, 3) := by decide +kernel
theorem dL_law_307 : decode cL_law 307 = .ok (.iconst 0, 1) := by decide +kernel
theorem dL_law_308 : decode cL_law 308 = .ok (.ireturn, 1) := by decide +kernel
theorem dL_law_309 : decode cL_law 309 = .ok (.aload_n 1, 1) := by decide +kernel
theorem dL_law_310 : decode cL_law 310 = .ok (.aload_n 0, 1) := by decide +kernel
theorem dL_law_311 : decode cL_law 311 = .ok (.iload 4, 2) := by decide +kernel
theorem dL_law_313 : decode cL_law 313 = .ok (.iconst 1, 1) := by decide +kernel
theorem dL_law_314 : decode cL_law 314 = .ok (.iadd, 1) := by decide +kernel
theorem dL_law_315 : decode cL_law 315 = .ok (.iaload, 1) := by decide +kernel
theorem dL_law_316 : decode cL_law 316 = .ok (.invokevirtual 28, 3) := by decide +kernel
theorem dL_law_319 : decode cL_law 319 = .ok (.aload_n 2, 1) := by decide +kernel
theorem dL_law_320 : decode cL_law 320 = .ok (.aload_n 0, 1) := by decide +kernel
theorem dL_law_321 : decode cL_law 321 = .ok (.iload 4, 2) := by decide +kernel
theorem dL_law_323 : decode cL_law 323 = .ok (.iconst 1, 1) := by decide +kernel
theorem dL_law_324 : decode cL_law 324 = .ok (.iadd, 1) := by decide +kernel
theorem dL_law_325 : decode cL_law 325 = .ok (.iaload, 1) := by decide +kernel
theorem dL_law_326 : decode cL_law 326 = .ok (.invokevirtual 32, 3) := by decide +kernel
theorem dL_law_329 : decode cL_law 329 = .ok (.if_icmp .eq 1130, 3) := by decide +kernel
theorem dL_law_332 : decode cL_law 332 = .ok (.iconst 0, 1) := by decide +kernel
theorem dL_law_333 : decode cL_law 333 = .ok (.ireturn, 1) := by decide +kernel
theorem dL_law_334 : decode cL_law 334 = .ok (.aload_n 1, 1) := by decide +kernel
theorem dL_law_335 : decode cL_law 335 = .ok (.invokevirtual 33, 3) := by decide +kernel
theorem dL_law_338 : decode cL_law 338 = .ok (.aload_n 2, 1) := by decide +kernel
theorem dL_law_339 : decode cL_law 339 = .ok (.invokevirtual 37, 3) := by decide +kernel
theorem dL_law_342 : decode cL_law 342 = .ok (.if_icmp .eq 1117, 3) := by decide +kernel
theorem dL_law_345 : decode cL_law 345 = .ok (.iconst 0, 1) := by decide +kernel
theorem dL_law_346 : decode cL_law 346 = .ok (.ireturn, 1) := by decide +kernel
theorem dL_law_347 : decode cL_law 347 = .ok (.aload_n 1, 1) := by decide +kernel
theorem dL_law_348 : decode cL_law 348 = .ok (.invokevirtual 38, 3) := by decide +kernel
theorem dL_law_351 : decode cL_law 351 = .ok (.aload_n 2, 1) := by decide +kernel
theorem dL_law_352 : decode cL_law 352 = .ok (.invokevirtual 41, 3) := by decide +kernel
theorem dL_law_355 : decode cL_law 355 = .ok (.if_icmp .eq 1104, 3) := by decide +kernel
theorem dL_law_358 : decode cL_law 358 = .ok (.iconst 0, 1) := by decide +kernel
theorem dL_law_359 : decode cL_law 359 = .ok (.ireturn, 1) := by decide +kernel
theorem dL_law_360 : decode cL_law 360 = .ok (.aload_n 1, 1) := by decide +kernel
theorem dL_law_361 : decode cL_law 361 = .ok (.aload_n 0, 1) := by decide +kernel
theorem dL_law_362 : decode cL_law 362 = .ok (.iload 4, 2) := by decide +kernel
theorem dL_law_364 : decode cL_law 364 = .ok (.iconst 1, 1) := by decide +kernel
theorem dL_law_365 : decode cL_law 365 = .ok (.iadd, 1) := by decide +kernel
theorem dL_law_366 : decode cL_law 366 = .ok (.iaload, 1) := by decide +kernel
theorem dL_law_367 : decode cL_law 367 = .ok (.aload_n 0, 1) := by decide +kernel
theorem dL_law_368 : decode cL_law 368 = .ok (.iload 4, 2) := by decide +kernel
theorem dL_law_370 : decode cL_law 370 = .ok (.iconst 2, 1) := by decide +kernel
theorem dL_law_371 : decode cL_law 371 = .ok (.iadd, 1) := by decide +kernel
theorem dL_law_372 : decode cL_law 372 = .ok (.iaload, 1) := by decide +kernel
theorem dL_law_373 : decode cL_law 373 = .ok (.invokevirtual 42, 3) := by decide +kernel
theorem dL_law_376 : decode cL_law 376 = .ok (.aload_n 2, 1) := by decide +kernel
theorem dL_law_377 : decode cL_law 377 = .ok (.aload_n 0, 1) := by decide +kernel
theorem dL_law_378 : decode cL_law 378 = .ok (.iload 4, 2) := by decide +kernel
theorem dL_law_380 : decode cL_law 380 = .ok (.iconst 1, 1) := by decide +kernel
theorem dL_law_381 : decode cL_law 381 = .ok (.iadd, 1) := by decide +kernel
theorem dL_law_382 : decode cL_law 382 = .ok (.iaload, 1) := by decide +kernel
theorem dL_law_383 : decode cL_law 383 = .ok (.aload_n 0, 1) := by decide +kernel
theorem dL_law_384 : decode cL_law 384 = .ok (.iload 4, 2) := by decide +kernel
theorem dL_law_386 : decode cL_law 386 = .ok (.iconst 2, 1) := by decide +kernel
theorem dL_law_387 : decode cL_law 387 = .ok (.iadd, 1) := by decide +kernel
theorem dL_law_388 : decode cL_law 388 = .ok (.iaload, 1) := by decide +kernel
theorem dL_law_389 : decode cL_law 389 = .ok (.invokevirtual 45, 3) := by decide +kernel
theorem dL_law_392 : decode cL_law 392 = .ok (.if_icmp .eq 1067, 3) := by decide +kernel
theorem dL_law_395 : decode cL_law 395 = .ok (.iconst 0, 1) := by decide +kernel
theorem dL_law_396 : decode cL_law 396 = .ok (.ireturn, 1) := by decide +kernel
theorem dL_law_397 : decode cL_law 397 = .ok (.aload_n 1, 1) := by decide +kernel
theorem dL_law_398 : decode cL_law 398 = .ok (.aload_n 0, 1) := by decide +kernel
theorem dL_law_399 : decode cL_law 399 = .ok (.iload 4, 2) := by decide +kernel
theorem dL_law_401 : decode cL_law 401 = .ok (.iconst 1, 1) := by decide +kernel
theorem dL_law_402 : decode cL_law 402 = .ok (.iadd, 1) := by decide +kernel
theorem dL_law_403 : decode cL_law 403 = .ok (.iaload, 1) := by decide +kernel
theorem dL_law_404 : decode cL_law 404 = .ok (.aload_n 0, 1) := by decide +kernel
theorem dL_law_405 : decode cL_law 405 = .ok (.iload 4, 2) := by decide +kernel
theorem dL_law_407 : decode cL_law 407 = .ok (.iconst 2, 1) := by decide +kernel
theorem dL_law_408 : decode cL_law 408 = .ok (.iadd, 1) := by decide +kernel
theorem dL_law_409 : decode cL_law 409 = .ok (.iaload, 1) := by decide +kernel
theorem dL_law_410 : decode cL_law 410 = .ok (.invokevirtual 46, 3) := by decide +kernel
theorem dL_law_413 : decode cL_law 413 = .ok (.aload_n 2, 1) := by decide +kernel
theorem dL_law_414 : decode cL_law 414 = .ok (.aload_n 0, 1) := by decide +kernel
theorem dL_law_415 : decode cL_law 415 = .ok (.iload 4, 2) := by decide +kernel
theorem dL_law_417 : decode cL_law 417 = .ok (.iconst 1, 1) := by decide +kernel
theorem dL_law_418 : decode cL_law 418 = .ok (.iadd, 1) := by decide +kernel
theorem dL_law_419 : decode cL_law 419 = .ok (.iaload, 1) := by decide +kernel
theorem dL_law_420 : decode cL_law 420 = .ok (.aload_n 0, 1) := by decide +kernel
theorem dL_law_421 : decode cL_law 421 = .ok (.iload 4, 2) := by decide +kernel
theorem dL_law_423 : decode cL_law 423 = .ok (.iconst 2, 1) := by decide +kernel
theorem dL_law_424 : decode cL_law 424 = .ok (.iadd, 1) := by decide +kernel
theorem dL_law_425 : decode cL_law 425 = .ok (.iaload, 1) := by decide +kernel
theorem dL_law_426 : decode cL_law 426 = .ok (.invokevirtual 49, 3) := by decide +kernel
theorem dL_law_429 : decode cL_law 429 = .ok (.if_icmp .eq 1030, 3) := by decide +kernel
theorem dL_law_432 : decode cL_law 432 = .ok (.iconst 0, 1) := by decide +kernel
theorem dL_law_433 : decode cL_law 433 = .ok (.ireturn, 1) := by decide +kernel
theorem dL_law_434 : decode cL_law 434 = .ok (.aload_n 1, 1) := by decide +kernel
theorem dL_law_435 : decode cL_law 435 = .ok (.aload_n 0, 1) := by decide +kernel
theorem dL_law_436 : decode cL_law 436 = .ok (.iload 4, 2) := by decide +kernel
theorem dL_law_438 : decode cL_law 438 = .ok (.iconst 1, 1) := by decide +kernel
theorem dL_law_439 : decode cL_law 439 = .ok (.iadd, 1) := by decide +kernel
theorem dL_law_440 : decode cL_law 440 = .ok (.iaload, 1) := by decide +kernel
theorem dL_law_441 : decode cL_law 441 = .ok (.aload_n 0, 1) := by decide +kernel
theorem dL_law_442 : decode cL_law 442 = .ok (.iload 4, 2) := by decide +kernel
theorem dL_law_444 : decode cL_law 444 = .ok (.iconst 2, 1) := by decide +kernel
theorem dL_law_445 : decode cL_law 445 = .ok (.iadd, 1) := by decide +kernel
theorem dL_law_446 : decode cL_law 446 = .ok (.iaload, 1) := by decide +kernel
theorem dL_law_447 : decode cL_law 447 = .ok (.invokevirtual 50, 3) := by decide +kernel
theorem dL_law_450 : decode cL_law 450 = .ok (.aload_n 2, 1) := by decide +kernel
theorem dL_law_451 : decode cL_law 451 = .ok (.aload_n 0, 1) := by decide +kernel
theorem dL_law_452 : decode cL_law 452 = .ok (.iload 4, 2) := by decide +kernel
theorem dL_law_454 : decode cL_law 454 = .ok (.iconst 1, 1) := by decide +kernel
theorem dL_law_455 : decode cL_law 455 = .ok (.iadd, 1) := by decide +kernel
theorem dL_law_456 : decode cL_law 456 = .ok (.iaload, 1) := by decide +kernel
theorem dL_law_457 : decode cL_law 457 = .ok (.aload_n 0, 1) := by decide +kernel
theorem dL_law_458 : decode cL_law 458 = .ok (.iload 4, 2) := by decide +kernel
theorem dL_law_460 : decode cL_law 460 = .ok (.iconst 2, 1) := by decide +kernel
theorem dL_law_461 : decode cL_law 461 = .ok (.iadd, 1) := by decide +kernel
theorem dL_law_462 : decode cL_law 462 = .ok (.iaload, 1) := by decide +kernel
theorem dL_law_463 : decode cL_law 463 = .ok (.invokevirtual 53, 3) := by decide +kernel
theorem dL_law_466 : decode cL_law 466 = .ok (.if_icmp .eq 993, 3) := by decide +kernel
theorem dL_law_469 : decode cL_law 469 = .ok (.iconst 0, 1) := by decide +kernel
theorem dL_law_470 : decode cL_law 470 = .ok (.ireturn, 1) := by decide +kernel
theorem dL_law_471 : decode cL_law 471 = .ok (.aload_n 1, 1) := by decide +kernel
theorem dL_law_472 : decode cL_law 472 = .ok (.aload_n 0, 1) := by decide +kernel
theorem dL_law_473 : decode cL_law 473 = .ok (.iload 4, 2) := by decide +kernel
theorem dL_law_475 : decode cL_law 475 = .ok (.iconst 1, 1) := by decide +kernel
theorem dL_law_476 : decode cL_law 476 = .ok (.iadd, 1) := by decide +kernel
theorem dL_law_477 : decode cL_law 477 = .ok (.iaload, 1) := by decide +kernel
theorem dL_law_478 : decode cL_law 478 = .ok (.aload_n 0, 1) := by decide +kernel
theorem dL_law_479 : decode cL_law 479 = .ok (.iload 4, 2) := by decide +kernel
theorem dL_law_481 : decode cL_law 481 = .ok (.iconst 2, 1) := by decide +kernel
theorem dL_law_482 : decode cL_law 482 = .ok (.iadd, 1) := by decide +kernel
theorem dL_law_483 : decode cL_law 483 = .ok (.iaload, 1) := by decide +kernel
theorem dL_law_484 : decode cL_law 484 = .ok (.invokevirtual 54, 3) := by decide +kernel
theorem dL_law_487 : decode cL_law 487 = .ok (.aload_n 2, 1) := by decide +kernel
theorem dL_law_488 : decode cL_law 488 = .ok (.aload_n 0, 1) := by decide +kernel
theorem dL_law_489 : decode cL_law 489 = .ok (.iload 4, 2) := by decide +kernel
theorem dL_law_491 : decode cL_law 491 = .ok (.iconst 1, 1) := by decide +kernel
theorem dL_law_492 : decode cL_law 492 = .ok (.iadd, 1) := by decide +kernel
theorem dL_law_493 : decode cL_law 493 = .ok (.iaload, 1) := by decide +kernel
theorem dL_law_494 : decode cL_law 494 = .ok (.aload_n 0, 1) := by decide +kernel
theorem dL_law_495 : decode cL_law 495 = .ok (.iload 4, 2) := by decide +kernel
theorem dL_law_497 : decode cL_law 497 = .ok (.iconst 2, 1) := by decide +kernel
theorem dL_law_498 : decode cL_law 498 = .ok (.iadd, 1) := by decide +kernel
theorem dL_law_499 : decode cL_law 499 = .ok (.iaload, 1) := by decide +kernel
theorem dL_law_500 : decode cL_law 500 = .ok (.invokevirtual 57, 3) := by decide +kernel
theorem dL_law_503 : decode cL_law 503 = .ok (.if_icmp .eq 956, 3) := by decide +kernel
theorem dL_law_506 : decode cL_law 506 = .ok (.iconst 0, 1) := by decide +kernel
theorem dL_law_507 : decode cL_law 507 = .ok (.ireturn, 1) := by decide +kernel
theorem dL_law_508 : decode cL_law 508 = .ok (.aload_n 1, 1) := by decide +kernel
theorem dL_law_509 : decode cL_law 509 = .ok (.aload_n 0, 1) := by decide +kernel
theorem dL_law_510 : decode cL_law 510 = .ok (.iload 4, 2) := by decide +kernel
theorem dL_law_512 : decode cL_law 512 = .ok (.iconst 1, 1) := by decide +kernel
theorem dL_law_513 : decode cL_law 513 = .ok (.iadd, 1) := by decide +kernel
theorem dL_law_514 : decode cL_law 514 = .ok (.iaload, 1) := by decide +kernel
theorem dL_law_515 : decode cL_law 515 = .ok (.aload_n 0, 1) := by decide +kernel
theorem dL_law_516 : decode cL_law 516 = .ok (.iload 4, 2) := by decide +kernel
theorem dL_law_518 : decode cL_law 518 = .ok (.iconst 2, 1) := by decide +kernel
theorem dL_law_519 : decode cL_law 519 = .ok (.iadd, 1) := by decide +kernel
theorem dL_law_520 : decode cL_law 520 = .ok (.iaload, 1) := by decide +kernel
theorem dL_law_521 : decode cL_law 521 = .ok (.invokevirtual 58, 3) := by decide +kernel
theorem dL_law_524 : decode cL_law 524 = .ok (.aload_n 2, 1) := by decide +kernel
theorem dL_law_525 : decode cL_law 525 = .ok (.aload_n 0, 1) := by decide +kernel
theorem dL_law_526 : decode cL_law 526 = .ok (.iload 4, 2) := by decide +kernel
theorem dL_law_528 : decode cL_law 528 = .ok (.iconst 1, 1) := by decide +kernel
theorem dL_law_529 : decode cL_law 529 = .ok (.iadd, 1) := by decide +kernel
theorem dL_law_530 : decode cL_law 530 = .ok (.iaload, 1) := by decide +kernel
theorem dL_law_531 : decode cL_law 531 = .ok (.aload_n 0, 1) := by decide +kernel
theorem dL_law_532 : decode cL_law 532 = .ok (.iload 4, 2) := by decide +kernel
theorem dL_law_534 : decode cL_law 534 = .ok (.iconst 2, 1) := by decide +kernel
theorem dL_law_535 : decode cL_law 535 = .ok (.iadd, 1) := by decide +kernel
theorem dL_law_536 : decode cL_law 536 = .ok (.iaload, 1) := by decide +kernel
theorem dL_law_537 : decode cL_law 537 = .ok (.invokevirtual 61, 3) := by decide +kernel
theorem dL_law_540 : decode cL_law 540 = .ok (.if_icmp .eq 919, 3) := by decide +kernel
theorem dL_law_543 : decode cL_law 543 = .ok (.iconst 0, 1) := by decide +kernel
theorem dL_law_544 : decode cL_law 544 = .ok (.ireturn, 1) := by decide +kernel
theorem dL_law_545 : decode cL_law 545 = .ok (.aload_n 1, 1) := by decide +kernel
theorem dL_law_546 : decode cL_law 546 = .ok (.aload_n 0, 1) := by decide +kernel
theorem dL_law_547 : decode cL_law 547 = .ok (.iload 4, 2) := by decide +kernel
theorem dL_law_549 : decode cL_law 549 = .ok (.iconst 1, 1) := by decide +kernel
theorem dL_law_550 : decode cL_law 550 = .ok (.iadd, 1) := by decide +kernel
theorem dL_law_551 : decode cL_law 551 = .ok (.iaload, 1) := by decide +kernel
theorem dL_law_552 : decode cL_law 552 = .ok (.aload_n 0, 1) := by decide +kernel
theorem dL_law_553 : decode cL_law 553 = .ok (.iload 4, 2) := by decide +kernel
theorem dL_law_555 : decode cL_law 555 = .ok (.iconst 2, 1) := by decide +kernel
theorem dL_law_556 : decode cL_law 556 = .ok (.iadd, 1) := by decide +kernel
theorem dL_law_557 : decode cL_law 557 = .ok (.iaload, 1) := by decide +kernel
theorem dL_law_558 : decode cL_law 558 = .ok (.aload_n 3, 1) := by decide +kernel
theorem dL_law_559 : decode cL_law 559 = .ok (.invokestatic 62, 3) := by decide +kernel
theorem dL_law_562 : decode cL_law 562 = .ok (.istore 5, 2) := by decide +kernel
theorem dL_law_564 : decode cL_law 564 = .ok (.aload_n 2, 1) := by decide +kernel
theorem dL_law_565 : decode cL_law 565 = .ok (.aload_n 0, 1) := by decide +kernel
theorem dL_law_566 : decode cL_law 566 = .ok (.iload 4, 2) := by decide +kernel
theorem dL_law_568 : decode cL_law 568 = .ok (.iconst 1, 1) := by decide +kernel
theorem dL_law_569 : decode cL_law 569 = .ok (.iadd, 1) := by decide +kernel
theorem dL_law_570 : decode cL_law 570 = .ok (.iaload, 1) := by decide +kernel
theorem dL_law_571 : decode cL_law 571 = .ok (.aload_n 0, 1) := by decide +kernel
theorem dL_law_572 : decode cL_law 572 = .ok (.iload 4, 2) := by decide +kernel
theorem dL_law_574 : decode cL_law 574 = .ok (.iconst 2, 1) := by decide +kernel
theorem dL_law_575 : decode cL_law 575 = .ok (.iadd, 1) := by decide +kernel
theorem dL_law_576 : decode cL_law 576 = .ok (.iaload, 1) := by decide +kernel
theorem dL_law_577 : decode cL_law 577 = .ok (.invokevirtual 67, 3) := by decide +kernel
theorem dL_law_580 : decode cL_law 580 = .ok (.istore 6, 2) := by decide +kernel
theorem dL_law_582 : decode cL_law 582 = .ok (.aload_n 2, 1) := by decide +kernel
theorem dL_law_583 : decode cL_law 583 = .ok (.invokevirtual 68, 3) := by decide +kernel
theorem dL_law_586 : decode cL_law 586 = .ok (.iload 5, 2) := by decide +kernel
theorem dL_law_588 : decode cL_law 588 = .ok (.if_icmp .eq 5, 3) := by decide +kernel
theorem dL_law_591 : decode cL_law 591 = .ok (.iconst 0, 1) := by decide +kernel
theorem dL_law_592 : decode cL_law 592 = .ok (.ireturn, 1) := by decide +kernel
theorem dL_law_593 : decode cL_law 593 = .ok (.iload 5, 2) := by decide +kernel
theorem dL_law_595 : decode cL_law 595 = .ok (.ifCond .ne 15, 3) := by decide +kernel
theorem dL_law_598 : decode cL_law 598 = .ok (.aload_n 3, 1) := by decide +kernel
theorem dL_law_599 : decode cL_law 599 = .ok (.iconst 0, 1) := by decide +kernel
theorem dL_law_600 : decode cL_law 600 = .ok (.laload, 1) := by decide +kernel
theorem dL_law_601 : decode cL_law 601 = .ok (.iload 6, 2) := by decide +kernel
theorem dL_law_603 : decode cL_law 603 = .ok (.i2l, 1) := by decide +kernel
theorem dL_law_604 : decode cL_law 604 = .ok (.lcmp, 1) := by decide +kernel
theorem dL_law_605 : decode cL_law 605 = .ok (.ifCond .eq 5, 3) := by decide +kernel
theorem dL_law_608 : decode cL_law 608 = .ok (.iconst 0, 1) := by decide +kernel
theorem dL_law_609 : decode cL_law 609 = .ok (.ireturn, 1) := by decide +kernel
theorem dL_law_610 : decode cL_law 610 = .ok (.goto 849, 3) := by decide +kernel
theorem dL_law_613 : decode cL_law 613 = .ok (.aload_n 1, 1) := by decide +kernel
theorem dL_law_614 : decode cL_law 614 = .ok (.aload_n 0, 1) := by decide +kernel
theorem dL_law_615 : decode cL_law 615 = .ok (.iload 4, 2) := by decide +kernel
theorem dL_law_617 : decode cL_law 617 = .ok (.iconst 1, 1) := by decide +kernel
theorem dL_law_618 : decode cL_law 618 = .ok (.iadd, 1) := by decide +kernel
theorem dL_law_619 : decode cL_law 619 = .ok (.iaload, 1) := by decide +kernel
theorem dL_law_620 : decode cL_law 620 = .ok (.invokevirtual 71, 3) := by decide +kernel
theorem dL_law_623 : decode cL_law 623 = .ok (.aload_n 2, 1) := by decide +kernel
theorem dL_law_624 : decode cL_law 624 = .ok (.aload_n 0, 1) := by decide +kernel
theorem dL_law_625 : decode cL_law 625 = .ok (.iload 4, 2) := by decide +kernel
theorem dL_law_627 : decode cL_law 627 = .ok (.iconst 1, 1) := by decide +kernel
theorem dL_law_628 : decode cL_law 628 = .ok (.iadd, 1) := by decide +kernel
theorem dL_law_629 : decode cL_law 629 = .ok (.iaload, 1) := by decide +kernel
theorem dL_law_630 : decode cL_law 630 = .ok (.invokevirtual 74, 3) := by decide +kernel
theorem dL_law_633 : decode cL_law 633 = .ok (.if_icmp .eq 826, 3) := by decide +kernel
theorem dL_law_636 : decode cL_law 636 = .ok (.iconst 0, 1) := by decide +kernel
theorem dL_law_637 : decode cL_law 637 = .ok (.ireturn, 1) := by decide +kernel
theorem dL_law_638 : decode cL_law 638 = .ok (.aload_n 1, 1) := by decide +kernel
theorem dL_law_639 : decode cL_law 639 = .ok (.aload_n 0, 1) := by decide +kernel
theorem dL_law_640 : decode cL_law 640 = .ok (.iload 4, 2) := by decide +kernel
theorem dL_law_642 : decode cL_law 642 = .ok (.iconst 1, 1) := by decide +kernel
theorem dL_law_643 : decode cL_law 643 = .ok (.iadd, 1) := by decide +kernel
theorem dL_law_644 : decode cL_law 644 = .ok (.iaload, 1) := by decide +kernel
theorem dL_law_645 : decode cL_law 645 = .ok (.invokevirtual 75, 3) := by decide +kernel
theorem dL_law_648 : decode cL_law 648 = .ok (.aload_n 2, 1) := by decide +kernel
theorem dL_law_649 : decode cL_law 649 = .ok (.aload_n 0, 1) := by decide +kernel
theorem dL_law_650 : decode cL_law 650 = .ok (.iload 4, 2) := by decide +kernel
theorem dL_law_652 : decode cL_law 652 = .ok (.iconst 1, 1) := by decide +kernel
theorem dL_law_653 : decode cL_law 653 = .ok (.iadd, 1) := by decide +kernel
theorem dL_law_654 : decode cL_law 654 = .ok (.iaload, 1) := by decide +kernel
theorem dL_law_655 : decode cL_law 655 = .ok (.invokevirtual 78, 3) := by decide +kernel
theorem dL_law_658 : decode cL_law 658 = .ok (.if_icmp .eq 801, 3) := by decide +kernel
theorem dL_law_661 : decode cL_law 661 = .ok (.iconst 0, 1) := by decide +kernel
theorem dL_law_662 : decode cL_law 662 = .ok (.ireturn, 1) := by decide +kernel
theorem dL_law_663 : decode cL_law 663 = .ok (.aload_n 1, 1) := by decide +kernel
theorem dL_law_664 : decode cL_law 664 = .ok (.aload_n 0, 1) := by decide +kernel
theorem dL_law_665 : decode cL_law 665 = .ok (.iload 4, 2) := by decide +kernel
theorem dL_law_667 : decode cL_law 667 = .ok (.iconst 1, 1) := by decide +kernel
theorem dL_law_668 : decode cL_law 668 = .ok (.iadd, 1) := by decide +kernel
theorem dL_law_669 : decode cL_law 669 = .ok (.iaload, 1) := by decide +kernel
theorem dL_law_670 : decode cL_law 670 = .ok (.invokevirtual 79, 3) := by decide +kernel
theorem dL_law_673 : decode cL_law 673 = .ok (.aload_n 2, 1) := by decide +kernel
theorem dL_law_674 : decode cL_law 674 = .ok (.aload_n 0, 1) := by decide +kernel
theorem dL_law_675 : decode cL_law 675 = .ok (.iload 4, 2) := by decide +kernel
theorem dL_law_677 : decode cL_law 677 = .ok (.iconst 1, 1) := by decide +kernel
theorem dL_law_678 : decode cL_law 678 = .ok (.iadd, 1) := by decide +kernel
theorem dL_law_679 : decode cL_law 679 = .ok (.iaload, 1) := by decide +kernel
theorem dL_law_680 : decode cL_law 680 = .ok (.invokevirtual 82, 3) := by decide +kernel
theorem dL_law_683 : decode cL_law 683 = .ok (.if_icmp .eq 776, 3) := by decide +kernel
theorem dL_law_686 : decode cL_law 686 = .ok (.iconst 0, 1) := by decide +kernel
theorem dL_law_687 : decode cL_law 687 = .ok (.ireturn, 1) := by decide +kernel
theorem dL_law_688 : decode cL_law 688 = .ok (.aload_n 1, 1) := by decide +kernel
theorem dL_law_689 : decode cL_law 689 = .ok (.aload_n 0, 1) := by decide +kernel
theorem dL_law_690 : decode cL_law 690 = .ok (.iload 4, 2) := by decide +kernel
theorem dL_law_692 : decode cL_law 692 = .ok (.iconst 1, 1) := by decide +kernel
theorem dL_law_693 : decode cL_law 693 = .ok (.iadd, 1) := by decide +kernel
theorem dL_law_694 : decode cL_law 694 = .ok (.iaload, 1) := by decide +kernel
theorem dL_law_695 : decode cL_law 695 = .ok (.invokevirtual 83, 3) := by decide +kernel
theorem dL_law_698 : decode cL_law 698 = .ok (.aload_n 2, 1) := by decide +kernel
theorem dL_law_699 : decode cL_law 699 = .ok (.aload_n 0, 1) := by decide +kernel
theorem dL_law_700 : decode cL_law 700 = .ok (.iload 4, 2) := by decide +kernel
theorem dL_law_702 : decode cL_law 702 = .ok (.iconst 1, 1) := by decide +kernel
theorem dL_law_703 : decode cL_law 703 = .ok (.iadd, 1) := by decide +kernel
theorem dL_law_704 : decode cL_law 704 = .ok (.iaload, 1) := by decide +kernel
theorem dL_law_705 : decode cL_law 705 = .ok (.invokevirtual 86, 3) := by decide +kernel
theorem dL_law_708 : decode cL_law 708 = .ok (.if_icmp .eq 751, 3) := by decide +kernel
theorem dL_law_711 : decode cL_law 711 = .ok (.iconst 0, 1) := by decide +kernel
theorem dL_law_712 : decode cL_law 712 = .ok (.ireturn, 1) := by decide +kernel
theorem dL_law_713 : decode cL_law 713 = .ok (.aload_n 1, 1) := by decide +kernel
theorem dL_law_714 : decode cL_law 714 = .ok (.aload_n 0, 1) := by decide +kernel
theorem dL_law_715 : decode cL_law 715 = .ok (.iload 4, 2) := by decide +kernel
theorem dL_law_717 : decode cL_law 717 = .ok (.iconst 1, 1) := by decide +kernel
theorem dL_law_718 : decode cL_law 718 = .ok (.iadd, 1) := by decide +kernel
theorem dL_law_719 : decode cL_law 719 = .ok (.iaload, 1) := by decide +kernel
theorem dL_law_720 : decode cL_law 720 = .ok (.aload_n 0, 1) := by decide +kernel
theorem dL_law_721 : decode cL_law 721 = .ok (.iload 4, 2) := by decide +kernel
theorem dL_law_723 : decode cL_law 723 = .ok (.iconst 2, 1) := by decide +kernel
theorem dL_law_724 : decode cL_law 724 = .ok (.iadd, 1) := by decide +kernel
theorem dL_law_725 : decode cL_law 725 = .ok (.iaload, 1) := by decide +kernel
theorem dL_law_726 : decode cL_law 726 = .ok (.invokevirtual 87, 3) := by decide +kernel
theorem dL_law_729 : decode cL_law 729 = .ok (.aload_n 2, 1) := by decide +kernel
theorem dL_law_730 : decode cL_law 730 = .ok (.aload_n 0, 1) := by decide +kernel
theorem dL_law_731 : decode cL_law 731 = .ok (.iload 4, 2) := by decide +kernel
theorem dL_law_733 : decode cL_law 733 = .ok (.iconst 1, 1) := by decide +kernel
theorem dL_law_734 : decode cL_law 734 = .ok (.iadd, 1) := by decide +kernel
theorem dL_law_735 : decode cL_law 735 = .ok (.iaload, 1) := by decide +kernel
theorem dL_law_736 : decode cL_law 736 = .ok (.aload_n 0, 1) := by decide +kernel
theorem dL_law_737 : decode cL_law 737 = .ok (.iload 4, 2) := by decide +kernel
theorem dL_law_739 : decode cL_law 739 = .ok (.iconst 2, 1) := by decide +kernel
theorem dL_law_740 : decode cL_law 740 = .ok (.iadd, 1) := by decide +kernel
theorem dL_law_741 : decode cL_law 741 = .ok (.iaload, 1) := by decide +kernel
theorem dL_law_742 : decode cL_law 742 = .ok (.invokevirtual 90, 3) := by decide +kernel
theorem dL_law_745 : decode cL_law 745 = .ok (.if_icmp .eq 714, 3) := by decide +kernel
theorem dL_law_748 : decode cL_law 748 = .ok (.iconst 0, 1) := by decide +kernel
theorem dL_law_749 : decode cL_law 749 = .ok (.ireturn, 1) := by decide +kernel
theorem dL_law_750 : decode cL_law 750 = .ok (.aload_n 1, 1) := by decide +kernel
theorem dL_law_751 : decode cL_law 751 = .ok (.aload_n 0, 1) := by decide +kernel
theorem dL_law_752 : decode cL_law 752 = .ok (.iload 4, 2) := by decide +kernel
theorem dL_law_754 : decode cL_law 754 = .ok (.iconst 1, 1) := by decide +kernel
theorem dL_law_755 : decode cL_law 755 = .ok (.iadd, 1) := by decide +kernel
theorem dL_law_756 : decode cL_law 756 = .ok (.iaload, 1) := by decide +kernel
theorem dL_law_757 : decode cL_law 757 = .ok (.invokevirtual 91, 3) := by decide +kernel
theorem dL_law_760 : decode cL_law 760 = .ok (.aload_n 2, 1) := by decide +kernel
theorem dL_law_761 : decode cL_law 761 = .ok (.aload_n 0, 1) := by decide +kernel
theorem dL_law_762 : decode cL_law 762 = .ok (.iload 4, 2) := by decide +kernel
theorem dL_law_764 : decode cL_law 764 = .ok (.iconst 1, 1) := by decide +kernel
theorem dL_law_765 : decode cL_law 765 = .ok (.iadd, 1) := by decide +kernel
theorem dL_law_766 : decode cL_law 766 = .ok (.iaload, 1) := by decide +kernel
theorem dL_law_767 : decode cL_law 767 = .ok (.invokevirtual 94, 3) := by decide +kernel
theorem dL_law_770 : decode cL_law 770 = .ok (.if_icmp .eq 689, 3) := by decide +kernel
theorem dL_law_773 : decode cL_law 773 = .ok (.iconst 0, 1) := by decide +kernel
theorem dL_law_774 : decode cL_law 774 = .ok (.ireturn, 1) := by decide +kernel
theorem dL_law_775 : decode cL_law 775 = .ok (.aload_n 1, 1) := by decide +kernel
theorem dL_law_776 : decode cL_law 776 = .ok (.aload_n 0, 1) := by decide +kernel
theorem dL_law_777 : decode cL_law 777 = .ok (.iload 4, 2) := by decide +kernel
theorem dL_law_779 : decode cL_law 779 = .ok (.iconst 1, 1) := by decide +kernel
theorem dL_law_780 : decode cL_law 780 = .ok (.iadd, 1) := by decide +kernel
theorem dL_law_781 : decode cL_law 781 = .ok (.iaload, 1) := by decide +kernel
theorem dL_law_782 : decode cL_law 782 = .ok (.invokevirtual 95, 3) := by decide +kernel
theorem dL_law_785 : decode cL_law 785 = .ok (.aload_n 2, 1) := by decide +kernel
theorem dL_law_786 : decode cL_law 786 = .ok (.aload_n 0, 1) := by decide +kernel
theorem dL_law_787 : decode cL_law 787 = .ok (.iload 4, 2) := by decide +kernel
theorem dL_law_789 : decode cL_law 789 = .ok (.iconst 1, 1) := by decide +kernel
theorem dL_law_790 : decode cL_law 790 = .ok (.iadd, 1) := by decide +kernel
theorem dL_law_791 : decode cL_law 791 = .ok (.iaload, 1) := by decide +kernel
theorem dL_law_792 : decode cL_law 792 = .ok (.invokevirtual 98, 3) := by decide +kernel
theorem dL_law_795 : decode cL_law 795 = .ok (.if_icmp .eq 664, 3) := by decide +kernel
theorem dL_law_798 : decode cL_law 798 = .ok (.iconst 0, 1) := by decide +kernel
theorem dL_law_799 : decode cL_law 799 = .ok (.ireturn, 1) := by decide +kernel
theorem dL_law_800 : decode cL_law 800 = .ok (.aload_n 1, 1) := by decide +kernel
theorem dL_law_801 : decode cL_law 801 = .ok (.invokevirtual 99, 3) := by decide +kernel
theorem dL_law_804 : decode cL_law 804 = .ok (.aload_n 2, 1) := by decide +kernel
theorem dL_law_805 : decode cL_law 805 = .ok (.invokevirtual 102, 3) := by decide +kernel
theorem dL_law_808 : decode cL_law 808 = .ok (.if_icmp .eq 651, 3) := by decide +kernel
theorem dL_law_811 : decode cL_law 811 = .ok (.iconst 0, 1) := by decide +kernel
theorem dL_law_812 : decode cL_law 812 = .ok (.ireturn, 1) := by decide +kernel
theorem dL_law_813 : decode cL_law 813 = .ok (.aload_n 1, 1) := by decide +kernel
theorem dL_law_814 : decode cL_law 814 = .ok (.invokevirtual 103, 3) := by decide +kernel
theorem dL_law_817 : decode cL_law 817 = .ok (.aload_n 2, 1) := by decide +kernel
theorem dL_law_818 : decode cL_law 818 = .ok (.invokevirtual 106, 3) := by decide +kernel
theorem dL_law_821 : decode cL_law 821 = .ok (.if_icmp .eq 638, 3) := by decide +kernel
theorem dL_law_824 : decode cL_law 824 = .ok (.iconst 0, 1) := by decide +kernel
theorem dL_law_825 : decode cL_law 825 = .ok (.ireturn, 1) := by decide +kernel
theorem dL_law_826 : decode cL_law 826 = .ok (.aload_n 1, 1) := by decide +kernel
theorem dL_law_827 : decode cL_law 827 = .ok (.aload_n 0, 1) := by decide +kernel
theorem dL_law_828 : decode cL_law 828 = .ok (.iload 4, 2) := by decide +kernel
theorem dL_law_830 : decode cL_law 830 = .ok (.iconst 1, 1) := by decide +kernel
theorem dL_law_831 : decode cL_law 831 = .ok (.iadd, 1) := by decide +kernel
theorem dL_law_832 : decode cL_law 832 = .ok (.iaload, 1) := by decide +kernel
theorem dL_law_833 : decode cL_law 833 = .ok (.invokevirtual 107, 3) := by decide +kernel
theorem dL_law_836 : decode cL_law 836 = .ok (.aload_n 2, 1) := by decide +kernel
theorem dL_law_837 : decode cL_law 837 = .ok (.aload_n 0, 1) := by decide +kernel
theorem dL_law_838 : decode cL_law 838 = .ok (.iload 4, 2) := by decide +kernel
theorem dL_law_840 : decode cL_law 840 = .ok (.iconst 1, 1) := by decide +kernel
theorem dL_law_841 : decode cL_law 841 = .ok (.iadd, 1) := by decide +kernel
theorem dL_law_842 : decode cL_law 842 = .ok (.iaload, 1) := by decide +kernel
theorem dL_law_843 : decode cL_law 843 = .ok (.invokevirtual 110, 3) := by decide +kernel
theorem dL_law_846 : decode cL_law 846 = .ok (.if_icmp .eq 613, 3) := by decide +kernel
theorem dL_law_849 : decode cL_law 849 = .ok (.iconst 0, 1) := by decide +kernel
theorem dL_law_850 : decode cL_law 850 = .ok (.ireturn, 1) := by decide +kernel
theorem dL_law_851 : decode cL_law 851 = .ok (.aload_n 1, 1) := by decide +kernel
theorem dL_law_852 : decode cL_law 852 = .ok (.invokevirtual 111, 3) := by decide +kernel
theorem dL_law_855 : decode cL_law 855 = .ok (.aload_n 2, 1) := by decide +kernel
theorem dL_law_856 : decode cL_law 856 = .ok (.invokevirtual 114, 3) := by decide +kernel
theorem dL_law_859 : decode cL_law 859 = .ok (.if_icmp .eq 600, 3) := by decide +kernel
theorem dL_law_862 : decode cL_law 862 = .ok (.iconst 0, 1) := by decide +kernel
theorem dL_law_863 : decode cL_law 863 = .ok (.ireturn, 1) := by decide +kernel
theorem dL_law_864 : decode cL_law 864 = .ok (.aload_n 1, 1) := by decide +kernel
theorem dL_law_865 : decode cL_law 865 = .ok (.aload_n 0, 1) := by decide +kernel
theorem dL_law_866 : decode cL_law 866 = .ok (.iload 4, 2) := by decide +kernel
theorem dL_law_868 : decode cL_law 868 = .ok (.iconst 1, 1) := by decide +kernel
theorem dL_law_869 : decode cL_law 869 = .ok (.iadd, 1) := by decide +kernel
theorem dL_law_870 : decode cL_law 870 = .ok (.iaload, 1) := by decide +kernel
theorem dL_law_871 : decode cL_law 871 = .ok (.invokevirtual 115, 3) := by decide +kernel
theorem dL_law_874 : decode cL_law 874 = .ok (.aload_n 2, 1) := by decide +kernel
theorem dL_law_875 : decode cL_law 875 = .ok (.aload_n 0, 1) := by decide +kernel
theorem dL_law_876 : decode cL_law 876 = .ok (.iload 4, 2) := by decide +kernel
theorem dL_law_878 : decode cL_law 878 = .ok (.iconst 1, 1) := by decide +kernel
theorem dL_law_879 : decode cL_law 879 = .ok (.iadd, 1) := by decide +kernel
theorem dL_law_880 : decode cL_law 880 = .ok (.iaload, 1) := by decide +kernel
theorem dL_law_881 : decode cL_law 881 = .ok (.invokevirtual 118, 3) := by decide +kernel
theorem dL_law_884 : decode cL_law 884 = .ok (.if_icmp .eq 575, 3) := by decide +kernel
theorem dL_law_887 : decode cL_law 887 = .ok (.iconst 0, 1) := by decide +kernel
theorem dL_law_888 : decode cL_law 888 = .ok (.ireturn, 1) := by decide +kernel
theorem dL_law_889 : decode cL_law 889 = .ok (.aload_n 1, 1) := by decide +kernel
theorem dL_law_890 : decode cL_law 890 = .ok (.aload_n 0, 1) := by decide +kernel
theorem dL_law_891 : decode cL_law 891 = .ok (.iload 4, 2) := by decide +kernel
theorem dL_law_893 : decode cL_law 893 = .ok (.iconst 1, 1) := by decide +kernel
theorem dL_law_894 : decode cL_law 894 = .ok (.iadd, 1) := by decide +kernel
theorem dL_law_895 : decode cL_law 895 = .ok (.iaload, 1) := by decide +kernel
theorem dL_law_896 : decode cL_law 896 = .ok (.invokevirtual 119, 3) := by decide +kernel
theorem dL_law_899 : decode cL_law 899 = .ok (.aload_n 2, 1) := by decide +kernel
theorem dL_law_900 : decode cL_law 900 = .ok (.aload_n 0, 1) := by decide +kernel
theorem dL_law_901 : decode cL_law 901 = .ok (.iload 4, 2) := by decide +kernel
theorem dL_law_903 : decode cL_law 903 = .ok (.iconst 1, 1) := by decide +kernel
theorem dL_law_904 : decode cL_law 904 = .ok (.iadd, 1) := by decide +kernel
theorem dL_law_905 : decode cL_law 905 = .ok (.iaload, 1) := by decide +kernel
theorem dL_law_906 : decode cL_law 906 = .ok (.invokevirtual 122, 3) := by decide +kernel
theorem dL_law_909 : decode cL_law 909 = .ok (.if_icmp .eq 550, 3) := by decide +kernel
theorem dL_law_912 : decode cL_law 912 = .ok (.iconst 0, 1) := by decide +kernel
theorem dL_law_913 : decode cL_law 913 = .ok (.ireturn, 1) := by decide +kernel
theorem dL_law_914 : decode cL_law 914 = .ok (.aload_n 1, 1) := by decide +kernel
theorem dL_law_915 : decode cL_law 915 = .ok (.invokevirtual 123, 3) := by decide +kernel
theorem dL_law_918 : decode cL_law 918 = .ok (.aload_n 2, 1) := by decide +kernel
theorem dL_law_919 : decode cL_law 919 = .ok (.invokevirtual 126, 3) := by decide +kernel
theorem dL_law_922 : decode cL_law 922 = .ok (.if_icmp .eq 537, 3) := by decide +kernel
theorem dL_law_925 : decode cL_law 925 = .ok (.iconst 0, 1) := by decide +kernel
theorem dL_law_926 : decode cL_law 926 = .ok (.ireturn, 1) := by decide +kernel
theorem dL_law_927 : decode cL_law 927 = .ok (.aload_n 1, 1) := by decide +kernel
theorem dL_law_928 : decode cL_law 928 = .ok (.invokevirtual 127, 3) := by decide +kernel
theorem dL_law_931 : decode cL_law 931 = .ok (.aload_n 2, 1) := by decide +kernel
theorem dL_law_932 : decode cL_law 932 = .ok (.invokevirtual 130, 3) := by decide +kernel
theorem dL_law_935 : decode cL_law 935 = .ok (.if_icmp .eq 524, 3) := by decide +kernel
theorem dL_law_938 : decode cL_law 938 = .ok (.iconst 0, 1) := by decide +kernel
theorem dL_law_939 : decode cL_law 939 = .ok (.ireturn, 1) := by decide +kernel
theorem dL_law_940 : decode cL_law 940 = .ok (.aload_n 1, 1) := by decide +kernel
theorem dL_law_941 : decode cL_law 941 = .ok (.invokevirtual 131, 3) := by decide +kernel
theorem dL_law_944 : decode cL_law 944 = .ok (.aload_n 2, 1) := by decide +kernel
theorem dL_law_945 : decode cL_law 945 = .ok (.invokevirtual 134, 3) := by decide +kernel
theorem dL_law_948 : decode cL_law 948 = .ok (.if_icmp .eq 511, 3) := by decide +kernel
theorem dL_law_951 : decode cL_law 951 = .ok (.iconst 0, 1) := by decide +kernel
theorem dL_law_952 : decode cL_law 952 = .ok (.ireturn, 1) := by decide +kernel
theorem dL_law_953 : decode cL_law 953 = .ok (.aload_n 1, 1) := by decide +kernel
theorem dL_law_954 : decode cL_law 954 = .ok (.aload_n 0, 1) := by decide +kernel
theorem dL_law_955 : decode cL_law 955 = .ok (.iload 4, 2) := by decide +kernel
theorem dL_law_957 : decode cL_law 957 = .ok (.iconst 1, 1) := by decide +kernel
theorem dL_law_958 : decode cL_law 958 = .ok (.iadd, 1) := by decide +kernel
theorem dL_law_959 : decode cL_law 959 = .ok (.iaload, 1) := by decide +kernel
theorem dL_law_960 : decode cL_law 960 = .ok (.aload_n 0, 1) := by decide +kernel
theorem dL_law_961 : decode cL_law 961 = .ok (.iload 4, 2) := by decide +kernel
theorem dL_law_963 : decode cL_law 963 = .ok (.iconst 2, 1) := by decide +kernel
theorem dL_law_964 : decode cL_law 964 = .ok (.iadd, 1) := by decide +kernel
theorem dL_law_965 : decode cL_law 965 = .ok (.iaload, 1) := by decide +kernel
theorem dL_law_966 : decode cL_law 966 = .ok (.invokevirtual 135, 3) := by decide +kernel
theorem dL_law_969 : decode cL_law 969 = .ok (.aload_n 2, 1) := by decide +kernel
theorem dL_law_970 : decode cL_law 970 = .ok (.aload_n 0, 1) := by decide +kernel
theorem dL_law_971 : decode cL_law 971 = .ok (.iload 4, 2) := by decide +kernel
theorem dL_law_973 : decode cL_law 973 = .ok (.iconst 1, 1) := by decide +kernel
theorem dL_law_974 : decode cL_law 974 = .ok (.iadd, 1) := by decide +kernel
theorem dL_law_975 : decode cL_law 975 = .ok (.iaload, 1) := by decide +kernel
theorem dL_law_976 : decode cL_law 976 = .ok (.aload_n 0, 1) := by decide +kernel
theorem dL_law_977 : decode cL_law 977 = .ok (.iload 4, 2) := by decide +kernel
theorem dL_law_979 : decode cL_law 979 = .ok (.iconst 2, 1) := by decide +kernel
theorem dL_law_980 : decode cL_law 980 = .ok (.iadd, 1) := by decide +kernel
theorem dL_law_981 : decode cL_law 981 = .ok (.iaload, 1) := by decide +kernel
theorem dL_law_982 : decode cL_law 982 = .ok (.invokevirtual 138, 3) := by decide +kernel
theorem dL_law_985 : decode cL_law 985 = .ok (.if_icmp .eq 474, 3) := by decide +kernel
theorem dL_law_988 : decode cL_law 988 = .ok (.iconst 0, 1) := by decide +kernel
theorem dL_law_989 : decode cL_law 989 = .ok (.ireturn, 1) := by decide +kernel
theorem dL_law_990 : decode cL_law 990 = .ok (.aload_n 1, 1) := by decide +kernel
theorem dL_law_991 : decode cL_law 991 = .ok (.aload_n 0, 1) := by decide +kernel
theorem dL_law_992 : decode cL_law 992 = .ok (.iload 4, 2) := by decide +kernel
theorem dL_law_994 : decode cL_law 994 = .ok (.iconst 1, 1) := by decide +kernel
theorem dL_law_995 : decode cL_law 995 = .ok (.iadd, 1) := by decide +kernel
theorem dL_law_996 : decode cL_law 996 = .ok (.iaload, 1) := by decide +kernel
theorem dL_law_997 : decode cL_law 997 = .ok (.invokevirtual 139, 3) := by decide +kernel
theorem dL_law_1000 : decode cL_law 1000 = .ok (.aload_n 2, 1) := by decide +kernel
theorem dL_law_1001 : decode cL_law 1001 = .ok (.aload_n 0, 1) := by decide +kernel
theorem dL_law_1002 : decode cL_law 1002 = .ok (.iload 4, 2) := by decide +kernel
theorem dL_law_1004 : decode cL_law 1004 = .ok (.iconst 1, 1) := by decide +kernel
theorem dL_law_1005 : decode cL_law 1005 = .ok (.iadd, 1) := by decide +kernel
theorem dL_law_1006 : decode cL_law 1006 = .ok (.iaload, 1) := by decide +kernel
theorem dL_law_1007 : decode cL_law 1007 = .ok (.invokevirtual 142, 3) := by decide +kernel
theorem dL_law_1010 : decode cL_law 1010 = .ok (.if_icmp .eq 449, 3) := by decide +kernel
theorem dL_law_1013 : decode cL_law 1013 = .ok (.iconst 0, 1) := by decide +kernel
