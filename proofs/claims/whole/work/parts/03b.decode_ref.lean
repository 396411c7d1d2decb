theorem dX11_thrown_0 : decode cX11_thrown 0 = .ok (.aload_n 0, 1) := by decide +kernel
theorem dX11_thrown_1 : decode cX11_thrown 1 = .ok (.getfield 3, 3) := by decide +kernel
theorem dX11_thrown_4 : decode cX11_thrown 4 = .ok (.ireturn, 1) := by decide +kernel
theorem dX11_refused_0 : decode cX11_refused 0 = .ok (.aload_n 0, 1) := by decide +kernel
theorem dX11_refused_1 : decode cX11_refused 1 = .ok (.iload_n 1, 1) := by decide +kernel
theorem dX11_refused_2 : decode cX11_refused 2 = .ok (.putfield 7, 3) := by decide +kernel
theorem dX11_refused_5 : decode cX11_refused 5 = .ok (.aload_n 0, 1) := by decide +kernel
theorem dX11_refused_6 : decode cX11_refused 6 = .ok (.iconst (-1), 1) := by decide +kernel
theorem dX11_refused_7 : decode cX11_refused 7 = .ok (.putfield 10, 3) := by decide +kernel
theorem dX11_refused_10 : decode cX11_refused 10 = .ok (.iconst (-1), 1) := by decide +kernel
theorem dX11_refused_11 : decode cX11_refused 11 = .ok (.ireturn, 1) := by decide +kernel
theorem dX11_good_0 : decode cX11_good 0 = .ok (.aload_n 0, 1) := by decide +kernel
theorem dX11_good_1 : decode cX11_good 1 = .ok (.iconst 0, 1) := by decide +kernel
theorem dX11_good_2 : decode cX11_good 2 = .ok (.putfield 7, 3) := by decide +kernel
theorem dX11_good_5 : decode cX11_good 5 = .ok (.aload_n 0, 1) := by decide +kernel
theorem dX11_good_6 : decode cX11_good 6 = .ok (.iconst (-1), 1) := by decide +kernel
theorem dX11_good_7 : decode cX11_good 7 = .ok (.putfield 10, 3) := by decide +kernel
theorem dX11_good_10 : decode cX11_good 10 = .ok (.iload_n 1, 1) := by decide +kernel
theorem dX11_good_11 : decode cX11_good 11 = .ok (.ireturn, 1) := by decide +kernel
theorem dX11_in_0 : decode cX11_in 0 = .ok (.iload_n 0, 1) := by decide +kernel
theorem dX11_in_1 : decode cX11_in 1 = .ok (.iload_n 1, 1) := by decide +kernel
theorem dX11_in_2 : decode cX11_in 2 = .ok (.if_icmp .lt 12, 3) := by decide +kernel
theorem dX11_in_5 : decode cX11_in 5 = .ok (.iload_n 0, 1) := by decide +kernel
theorem dX11_in_6 : decode cX11_in 6 = .ok (.iload_n 2, 1) := by decide +kernel
theorem dX11_in_7 : decode cX11_in 7 = .ok (.if_icmp .gt 7, 3) := by decide +kernel
theorem dX11_in_10 : decode cX11_in 10 = .ok (.iconst 1, 1) := by decide +kernel
theorem dX11_in_11 : decode cX11_in 11 = .ok (.goto 4, 3) := by decide +kernel
theorem dX11_in_14 : decode cX11_in 14 = .ok (.iconst 0, 1) := by decide +kernel
theorem dX11_in_15 : decode cX11_in 15 = .ok (.ireturn, 1) := by decide +kernel
theorem dX11_bit_0 : decode cX11_bit 0 = .ok (.iload_n 0, 1) := by decide +kernel
theorem dX11_bit_1 : decode cX11_bit 1 = .ok (.iload_n 1, 1) := by decide +kernel
theorem dX11_bit_2 : decode cX11_bit 2 = .ok (.ishr, 1) := by decide +kernel
theorem dX11_bit_3 : decode cX11_bit 3 = .ok (.iconst 1, 1) := by decide +kernel
theorem dX11_bit_4 : decode cX11_bit 4 = .ok (.iand, 1) := by decide +kernel
theorem dX11_bit_5 : decode cX11_bit 5 = .ok (.iconst 1, 1) := by decide +kernel
theorem dX11_bit_6 : decode cX11_bit 6 = .ok (.if_icmp .ne 7, 3) := by decide +kernel
theorem dX11_bit_9 : decode cX11_bit 9 = .ok (.iconst 1, 1) := by decide +kernel
theorem dX11_bit_10 : decode cX11_bit 10 = .ok (.goto 4, 3) := by decide +kernel
theorem dX11_bit_13 : decode cX11_bit 13 = .ok (.iconst 0, 1) := by decide +kernel
theorem dX11_bit_14 : decode cX11_bit 14 = .ok (.ireturn, 1) := by decide +kernel
theorem dX11_has_0 : decode cX11_has 0 = .ok (.lload_n 0, 1) := by decide +kernel
theorem dX11_has_1 : decode cX11_has 1 = .ok (.iload_n 2, 1) := by decide +kernel
theorem dX11_has_2 : decode cX11_has 2 = .ok (.lshr, 1) := by decide +kernel
theorem dX11_has_3 : decode cX11_has 3 = .ok (.lconst 1, 1) := by decide +kernel
theorem dX11_has_4 : decode cX11_has 4 = .ok (.land, 1) := by decide +kernel
theorem dX11_has_5 : decode cX11_has 5 = .ok (.lconst 1, 1) := by decide +kernel
theorem dX11_has_6 : decode cX11_has 6 = .ok (.lcmp, 1) := by decide +kernel
theorem dX11_has_7 : decode cX11_has 7 = .ok (.ifCond .ne 7, 3) := by decide +kernel
theorem dX11_has_10 : decode cX11_has 10 = .ok (.iconst 1, 1) := by decide +kernel
theorem dX11_has_11 : decode cX11_has 11 = .ok (.goto 4, 3) := by decide +kernel
theorem dX11_has_14 : decode cX11_has 14 = .ok (.iconst 0, 1) := by decide +kernel
theorem dX11_has_15 : decode cX11_has 15 = .ok (.ireturn, 1) := by decide +kernel
theorem dX11_init_0 : decode cX11_init 0 = .ok (.aload_n 0, 1) := by decide +kernel
theorem dX11_init_1 : decode cX11_init 1 = .ok (.invokespecial 13, 3) := by decide +kernel
theorem dX11_init_4 : decode cX11_init 4 = .ok (.aload_n 0, 1) := by decide +kernel
theorem dX11_init_5 : decode cX11_init 5 = .ok (.iconst (-1), 1) := by decide +kernel
theorem dX11_init_6 : decode cX11_init 6 = .ok (.putfield 10, 3) := by decide +kernel
theorem dX11_init_9 : decode cX11_init 9 = .ok (.aload_n 0, 1) := by decide +kernel
theorem dX11_init_10 : decode cX11_init 10 = .ok (.sipush 729, 3) := by decide +kernel
theorem dX11_init_13 : decode cX11_init 13 = .ok (.newarray .long, 2) := by decide +kernel
theorem dX11_init_15 : decode cX11_init 15 = .ok (.putfield 19, 3) := by decide +kernel
theorem dX11_init_18 : decode cX11_init 18 = .ok (.aload_n 0, 1) := by decide +kernel
theorem dX11_init_19 : decode cX11_init 19 = .ok (.sipush 4374, 3) := by decide +kernel
theorem dX11_init_22 : decode cX11_init 22 = .ok (.newarray .int, 2) := by decide +kernel
theorem dX11_init_24 : decode cX11_init 24 = .ok (.putfield 23, 3) := by decide +kernel
theorem dX11_init_27 : decode cX11_init 27 = .ok (.aload_n 0, 1) := by decide +kernel
theorem dX11_init_28 : decode cX11_init 28 = .ok (.sipush 600, 3) := by decide +kernel
theorem dX11_init_31 : decode cX11_init 31 = .ok (.newarray .byte, 2) := by decide +kernel
theorem dX11_init_33 : decode cX11_init 33 = .ok (.putfield 27, 3) := by decide +kernel
theorem dX11_init_36 : decode cX11_init 36 = .ok (.aload_n 0, 1) := by decide +kernel
theorem dX11_init_37 : decode cX11_init 37 = .ok (.bipush 88, 2) := by decide +kernel
theorem dX11_init_39 : decode cX11_init 39 = .ok (.newarray .int, 2) := by decide +kernel
theorem dX11_init_41 : decode cX11_init 41 = .ok (.putfield 31, 3) := by decide +kernel
theorem dX11_init_44 : decode cX11_init 44 = .ok (.aload_n 0, 1) := by decide +kernel
theorem dX11_init_45 : decode cX11_init 45 = .ok (.bipush 88, 2) := by decide +kernel
theorem dX11_init_47 : decode cX11_init 47 = .ok (.newarray .int, 2) := by decide +kernel
theorem dX11_init_49 : decode cX11_init 49 = .ok (.putfield 34, 3) := by decide +kernel
theorem dX11_init_52 : decode cX11_init 52 = .ok (.aload_n 0, 1) := by decide +kernel
theorem dX11_init_53 : decode cX11_init 53 = .ok (.iconst 4, 1) := by decide +kernel
theorem dX11_init_54 : decode cX11_init 54 = .ok (.newarray .int, 2) := by decide +kernel
theorem dX11_init_56 : decode cX11_init 56 = .ok (.putfield 37, 3) := by decide +kernel
theorem dX11_init_59 : decode cX11_init 59 = .ok (.aload_n 0, 1) := by decide +kernel
theorem dX11_init_60 : decode cX11_init 60 = .ok (.iconst 4, 1) := by decide +kernel
theorem dX11_init_61 : decode cX11_init 61 = .ok (.newarray .int, 2) := by decide +kernel
theorem dX11_init_63 : decode cX11_init 63 = .ok (.putfield 40, 3) := by decide +kernel
theorem dX11_init_66 : decode cX11_init 66 = .ok (.aload_n 0, 1) := by decide +kernel
theorem dX11_init_67 : decode cX11_init 67 = .ok (.sipush 1056, 3) := by decide +kernel
theorem dX11_init_70 : decode cX11_init 70 = .ok (.newarray .int, 2) := by decide +kernel
theorem dX11_init_72 : decode cX11_init 72 = .ok (.putfield 43, 3) := by decide +kernel
theorem dX11_init_75 : decode cX11_init 75 = .ok (.aload_n 0, 1) := by decide +kernel
theorem dX11_init_76 : decode cX11_init 76 = .ok (.bipush 6, 2) := by decide +kernel
theorem dX11_init_78 : decode cX11_init 78 = .ok (.newarray .boolean, 2) := by decide +kernel
theorem dX11_init_80 : decode cX11_init 80 = .ok (.putfield 46, 3) := by decide +kernel
theorem dX11_init_83 : decode cX11_init 83 = .ok (.aload_n 0, 1) := by decide +kernel
theorem dX11_init_84 : decode cX11_init 84 = .ok (.bipush 8, 2) := by decide +kernel
theorem dX11_init_86 : decode cX11_init 86 = .ok (.newarray .boolean, 2) := by decide +kernel
theorem dX11_init_88 : decode cX11_init 88 = .ok (.putfield 50, 3) := by decide +kernel
theorem dX11_init_91 : decode cX11_init 91 = .ok (.aload_n 0, 1) := by decide +kernel
theorem dX11_init_92 : decode cX11_init 92 = .ok (.bipush 6, 2) := by decide +kernel
theorem dX11_init_94 : decode cX11_init 94 = .ok (.newarray .int, 2) := by decide +kernel
theorem dX11_init_96 : decode cX11_init 96 = .ok (.putfield 53, 3) := by decide +kernel
theorem dX11_init_99 : decode cX11_init 99 = .ok (.aload_n 0, 1) := by decide +kernel
theorem dX11_init_100 : decode cX11_init 100 = .ok (.bipush 6, 2) := by decide +kernel
theorem dX11_init_102 : decode cX11_init 102 = .ok (.newarray .int, 2) := by decide +kernel
theorem dX11_init_104 : decode cX11_init 104 = .ok (.putfield 56, 3) := by decide +kernel
theorem dX11_init_107 : decode cX11_init 107 = .ok (.aload_n 0, 1) := by decide +kernel
theorem dX11_init_108 : decode cX11_init 108 = .ok (.iconst 5, 1) := by decide +kernel
theorem dX11_init_109 : decode cX11_init 109 = .ok (.newarray .long, 2) := by decide +kernel
theorem dX11_init_111 : decode cX11_init 111 = .ok (.putfield 59, 3) := by decide +kernel
theorem dX11_init_114 : decode cX11_init 114 = .ok (.aload_n 0, 1) := by decide +kernel
theorem dX11_init_115 : decode cX11_init 115 = .ok (.iconst 5, 1) := by decide +kernel
theorem dX11_init_116 : decode cX11_init 116 = .ok (.newarray .long, 2) := by decide +kernel
theorem dX11_init_118 : decode cX11_init 118 = .ok (.putfield 62, 3) := by decide +kernel
theorem dX11_init_121 : decode cX11_init 121 = .ok (.aload_n 0, 1) := by decide +kernel
theorem dX11_init_122 : decode cX11_init 122 = .ok (.bipush 41, 2) := by decide +kernel
theorem dX11_init_124 : decode cX11_init 124 = .ok (.newarray .int, 2) := by decide +kernel
theorem dX11_init_126 : decode cX11_init 126 = .ok (.putfield 65, 3) := by decide +kernel
theorem dX11_init_129 : decode cX11_init 129 = .ok (.aload_n 0, 1) := by decide +kernel
theorem dX11_init_130 : decode cX11_init 130 = .ok (.iconst 5, 1) := by decide +kernel
theorem dX11_init_131 : decode cX11_init 131 = .ok (.newarray .boolean, 2) := by decide +kernel
theorem dX11_init_133 : decode cX11_init 133 = .ok (.putfield 68, 3) := by decide +kernel
theorem dX11_init_136 : decode cX11_init 136 = .ok (.aload_n 0, 1) := by decide +kernel
theorem dX11_init_137 : decode cX11_init 137 = .ok (.iconst 5, 1) := by decide +kernel
theorem dX11_init_138 : decode cX11_init 138 = .ok (.newarray .boolean, 2) := by decide +kernel
theorem dX11_init_140 : decode cX11_init 140 = .ok (.putfield 71, 3) := by decide +kernel
theorem dX11_init_143 : decode cX11_init 143 = .ok (.aload_n 0, 1) := by decide +kernel
theorem dX11_init_144 : decode cX11_init 144 = .ok (.sipush 729, 3) := by decide +kernel
theorem dX11_init_147 : decode cX11_init 147 = .ok (.newarray .boolean, 2) := by decide +kernel
theorem dX11_init_149 : decode cX11_init 149 = .ok (.putfield 74, 3) := by decide +kernel
theorem dX11_init_152 : decode cX11_init 152 = .ok (.aload_n 0, 1) := by decide +kernel
theorem dX11_init_153 : decode cX11_init 153 = .ok (.iconst 5, 1) := by decide +kernel
theorem dX11_init_154 : decode cX11_init 154 = .ok (.newarray .int, 2) := by decide +kernel
theorem dX11_init_156 : decode cX11_init 156 = .ok (.putfield 77, 3) := by decide +kernel
theorem dX11_init_159 : decode cX11_init 159 = .ok (.aload_n 0, 1) := by decide +kernel
theorem dX11_init_160 : decode cX11_init 160 = .ok (.sipush 3645, 3) := by decide +kernel
theorem dX11_init_163 : decode cX11_init 163 = .ok (.newarray .int, 2) := by decide +kernel
theorem dX11_init_165 : decode cX11_init 165 = .ok (.putfield 80, 3) := by decide +kernel
theorem dX11_init_168 : decode cX11_init 168 = .ok (.aload_n 0, 1) := by decide +kernel
theorem dX11_init_169 : decode cX11_init 169 = .ok (.iconst 5, 1) := by decide +kernel
theorem dX11_init_170 : decode cX11_init 170 = .ok (.newarray .int, 2) := by decide +kernel
theorem dX11_init_172 : decode cX11_init 172 = .ok (.putfield 83, 3) := by decide +kernel
theorem dX11_init_175 : decode cX11_init 175 = .ok (.aload_n 0, 1) := by decide +kernel
theorem dX11_init_176 : decode cX11_init 176 = .ok (.bipush 25, 2) := by decide +kernel
theorem dX11_init_178 : decode cX11_init 178 = .ok (.newarray .int, 2) := by decide +kernel
theorem dX11_init_180 : decode cX11_init 180 = .ok (.putfield 86, 3) := by decide +kernel
theorem dX11_init_183 : decode cX11_init 183 = .ok (.aload_n 0, 1) := by decide +kernel
theorem dX11_init_184 : decode cX11_init 184 = .ok (.iconst 5, 1) := by decide +kernel
theorem dX11_init_185 : decode cX11_init 185 = .ok (.newarray .int, 2) := by decide +kernel
theorem dX11_init_187 : decode cX11_init 187 = .ok (.putfield 89, 3) := by decide +kernel
theorem dX11_init_190 : decode cX11_init 190 = .ok (.aload_n 0, 1) := by decide +kernel
theorem dX11_init_191 : decode cX11_init 191 = .ok (.sipush 729, 3) := by decide +kernel
theorem dX11_init_194 : decode cX11_init 194 = .ok (.newarray .long, 2) := by decide +kernel
theorem dX11_init_196 : decode cX11_init 196 = .ok (.putfield 92, 3) := by decide +kernel
theorem dX11_init_199 : decode cX11_init 199 = .ok (.aload_n 0, 1) := by decide +kernel
theorem dX11_init_200 : decode cX11_init 200 = .ok (.bipush 65, 2) := by decide +kernel
theorem dX11_init_202 : decode cX11_init 202 = .ok (.newarray .byte, 2) := by decide +kernel
theorem dX11_init_204 : decode cX11_init 204 = .ok (.putfield 95, 3) := by decide +kernel
theorem dX11_init_207 : decode cX11_init 207 = .ok (.aload_n 0, 1) := by decide +kernel
theorem dX11_init_208 : decode cX11_init 208 = .ok (.bipush 6, 2) := by decide +kernel
theorem dX11_init_210 : decode cX11_init 210 = .ok (.newarray .int, 2) := by decide +kernel
theorem dX11_init_212 : decode cX11_init 212 = .ok (.putfield 98, 3) := by decide +kernel
theorem dX11_init_215 : decode cX11_init 215 = .ok (.aload_n 0, 1) := by decide +kernel
theorem dX11_init_216 : decode cX11_init 216 = .ok (.bipush 6, 2) := by decide +kernel
theorem dX11_init_218 : decode cX11_init 218 = .ok (.newarray .int, 2) := by decide +kernel
theorem dX11_init_220 : decode cX11_init 220 = .ok (.putfield 101, 3) := by decide +kernel
theorem dX11_init_223 : decode cX11_init 223 = .ok (.aload_n 0, 1) := by decide +kernel
theorem dX11_init_224 : decode cX11_init 224 = .ok (.iconst 5, 1) := by decide +kernel
theorem dX11_init_225 : decode cX11_init 225 = .ok (.newarray .long, 2) := by decide +kernel
theorem dX11_init_227 : decode cX11_init 227 = .ok (.putfield 104, 3) := by decide +kernel
theorem dX11_init_230 : decode cX11_init 230 = .ok (.aload_n 0, 1) := by decide +kernel
theorem dX11_init_231 : decode cX11_init 231 = .ok (.iconst 5, 1) := by decide +kernel
theorem dX11_init_232 : decode cX11_init 232 = .ok (.newarray .long, 2) := by decide +kernel
theorem dX11_init_234 : decode cX11_init 234 = .ok (.putfield 107, 3) := by decide +kernel
theorem dX11_init_237 : decode cX11_init 237 = .ok (.iconst 0, 1) := by decide +kernel
theorem dX11_init_238 : decode cX11_init 238 = .ok (.istore_n 1, 1) := by decide +kernel
theorem dX11_init_239 : decode cX11_init 239 = .ok (.iload_n 1, 1) := by decide +kernel
theorem dX11_init_240 : decode cX11_init 240 = .ok (.sipush 729, 3) := by decide +kernel
theorem dX11_init_243 : decode cX11_init 243 = .ok (.if_icmp .ge 76, 3) := by decide +kernel
theorem dX11_init_246 : decode cX11_init 246 = .ok (.iload_n 1, 1) := by decide +kernel
theorem dX11_init_247 : decode cX11_init 247 = .ok (.istore_n 2, 1) := by decide +kernel
theorem dX11_init_248 : decode cX11_init 248 = .ok (.iconst 5, 1) := by decide +kernel
theorem dX11_init_249 : decode cX11_init 249 = .ok (.istore_n 3, 1) := by decide +kernel
theorem dX11_init_250 : decode cX11_init 250 = .ok (.iload_n 3, 1) := by decide +kernel
theorem dX11_init_251 : decode cX11_init 251 = .ok (.ifCond .lt 27, 3) := by decide +kernel
theorem dX11_init_254 : decode cX11_init 254 = .ok (.aload_n 0, 1) := by decide +kernel
theorem dX11_init_255 : decode cX11_init 255 = .ok (.getfield 23, 3) := by decide +kernel
theorem dX11_init_258 : decode cX11_init 258 = .ok (.bipush 6, 2) := by decide +kernel
theorem dX11_init_260 : decode cX11_init 260 = .ok (.iload_n 1, 1) := by decide +kernel
theorem dX11_init_261 : decode cX11_init 261 = .ok (.imul, 1) := by decide +kernel
theorem dX11_init_262 : decode cX11_init 262 = .ok (.iload_n 3, 1) := by decide +kernel
theorem dX11_init_263 : decode cX11_init 263 = .ok (.iadd, 1) := by decide +kernel
theorem dX11_init_264 : decode cX11_init 264 = .ok (.iload_n 2, 1) := by decide +kernel
theorem dX11_init_265 : decode cX11_init 265 = .ok (.iconst 3, 1) := by decide +kernel
theorem dX11_init_266 : decode cX11_init 266 = .ok (.irem, 1) := by decide +kernel
theorem dX11_init_267 : decode cX11_init 267 = .ok (.iastore, 1) := by decide +kernel
theorem dX11_init_268 : decode cX11_init 268 = .ok (.iload_n 2, 1) := by decide +kernel
theorem dX11_init_269 : decode cX11_init 269 = .ok (.iconst 3, 1) := by decide +kernel
theorem dX11_init_270 : decode cX11_init 270 = .ok (.idiv, 1) := by decide +kernel
theorem dX11_init_271 : decode cX11_init 271 = .ok (.istore_n 2, 1) := by decide +kernel
theorem dX11_init_272 : decode cX11_init 272 = .ok (.iinc 3 (-1), 3) := by decide +kernel
theorem dX11_init_275 : decode cX11_init 275 = .ok (.goto (-25), 3) := by decide +kernel
theorem dX11_init_278 : decode cX11_init 278 = .ok (.iconst 0, 1) := by decide +kernel
theorem dX11_init_279 : decode cX11_init 279 = .ok (.istore_n 3, 1) := by decide +kernel
theorem dX11_init_280 : decode cX11_init 280 = .ok (.iload_n 3, 1) := by decide +kernel
theorem dX11_init_281 : decode cX11_init 281 = .ok (.bipush 64, 2) := by decide +kernel
theorem dX11_init_283 : decode cX11_init 283 = .ok (.if_icmp .ge 30, 3) := by decide +kernel
theorem dX11_init_286 : decode cX11_init 286 = .ok (.aload_n 0, 1) := by decide +kernel
theorem dX11_init_287 : decode cX11_init 287 = .ok (.iload_n 1, 1) := by decide +kernel
theorem dX11_init_288 : decode cX11_init 288 = .ok (.iload_n 3, 1) := by decide +kernel
theorem dX11_init_289 : decode cX11_init 289 = .ok (.invokevirtual 110, 3) := by decide +kernel
theorem dX11_init_292 : decode cX11_init 292 = .ok (.ifCond .eq 15, 3) := by decide +kernel
theorem dX11_init_295 : decode cX11_init 295 = .ok (.aload_n 0, 1) := by decide +kernel
theorem dX11_init_296 : decode cX11_init 296 = .ok (.getfield 19, 3) := by decide +kernel
theorem dX11_init_299 : decode cX11_init 299 = .ok (.iload_n 1, 1) := by decide +kernel
theorem dX11_init_300 : decode cX11_init 300 = .ok (.dup2, 1) := by decide +kernel
theorem dX11_init_301 : decode cX11_init 301 = .ok (.laload, 1) := by decide +kernel
theorem dX11_init_302 : decode cX11_init 302 = .ok (.lconst 1, 1) := by decide +kernel
theorem dX11_init_303 : decode cX11_init 303 = .ok (.iload_n 3, 1) := by decide +kernel
theorem dX11_init_304 : decode cX11_init 304 = .ok (.lshl, 1) := by decide +kernel
theorem dX11_init_305 : decode cX11_init 305 = .ok (.lor, 1) := by decide +kernel
theorem dX11_init_306 : decode cX11_init 306 = .ok (.lastore, 1) := by decide +kernel
theorem dX11_init_307 : decode cX11_init 307 = .ok (.iinc 3 1, 3) := by decide +kernel
theorem dX11_init_310 : decode cX11_init 310 = .ok (.goto (-30), 3) := by decide +kernel
theorem dX11_init_313 : decode cX11_init 313 = .ok (.iinc 1 1, 3) := by decide +kernel
theorem dX11_init_316 : decode cX11_init 316 = .ok (.goto (-77), 3) := by decide +kernel
theorem dX11_init_319 : decode cX11_init 319 = .ok (.return_, 1) := by decide +kernel
theorem dX11_isIn_0 : decode cX11_isIn 0 = .ok (.iconst 0, 1) := by decide +kernel
theorem dX11_isIn_1 : decode cX11_isIn 1 = .ok (.istore_n 3, 1) := by decide +kernel
theorem dX11_isIn_2 : decode cX11_isIn 2 = .ok (.iload_n 3, 1) := by decide +kernel
theorem dX11_isIn_3 : decode cX11_isIn 3 = .ok (.bipush 6, 2) := by decide +kernel
theorem dX11_isIn_5 : decode cX11_isIn 5 = .ok (.if_icmp .ge 40, 3) := by decide +kernel
theorem dX11_isIn_8 : decode cX11_isIn 8 = .ok (.aload_n 0, 1) := by decide +kernel
theorem dX11_isIn_9 : decode cX11_isIn 9 = .ok (.getfield 23, 3) := by decide +kernel
theorem dX11_isIn_12 : decode cX11_isIn 12 = .ok (.bipush 6, 2) := by decide +kernel
theorem dX11_isIn_14 : decode cX11_isIn 14 = .ok (.iload_n 1, 1) := by decide +kernel
theorem dX11_isIn_15 : decode cX11_isIn 15 = .ok (.imul, 1) := by decide +kernel
theorem dX11_isIn_16 : decode cX11_isIn 16 = .ok (.iload_n 3, 1) := by decide +kernel
theorem dX11_isIn_17 : decode cX11_isIn 17 = .ok (.iadd, 1) := by decide +kernel
theorem dX11_isIn_18 : decode cX11_isIn 18 = .ok (.iaload, 1) := by decide +kernel
theorem dX11_isIn_19 : decode cX11_isIn 19 = .ok (.istore 4, 2) := by decide +kernel
theorem dX11_isIn_21 : decode cX11_isIn 21 = .ok (.iload 4, 2) := by decide +kernel
theorem dX11_isIn_23 : decode cX11_isIn 23 = .ok (.iconst 2, 1) := by decide +kernel
theorem dX11_isIn_24 : decode cX11_isIn 24 = .ok (.if_icmp .ge 15, 3) := by decide +kernel
theorem dX11_isIn_27 : decode cX11_isIn 27 = .ok (.iload 4, 2) := by decide +kernel
theorem dX11_isIn_29 : decode cX11_isIn 29 = .ok (.iload_n 2, 1) := by decide +kernel
theorem dX11_isIn_30 : decode cX11_isIn 30 = .ok (.iload_n 3, 1) := by decide +kernel
theorem dX11_isIn_31 : decode cX11_isIn 31 = .ok (.ishr, 1) := by decide +kernel
theorem dX11_isIn_32 : decode cX11_isIn 32 = .ok (.iconst 1, 1) := by decide +kernel
theorem dX11_isIn_33 : decode cX11_isIn 33 = .ok (.iand, 1) := by decide +kernel
theorem dX11_isIn_34 : decode cX11_isIn 34 = .ok (.if_icmp .eq 5, 3) := by decide +kernel
theorem dX11_isIn_37 : decode cX11_isIn 37 = .ok (.iconst 0, 1) := by decide +kernel
theorem dX11_isIn_38 : decode cX11_isIn 38 = .ok (.ireturn, 1) := by decide +kernel
theorem dX11_isIn_39 : decode cX11_isIn 39 = .ok (.iinc 3 1, 3) := by decide +kernel
theorem dX11_isIn_42 : decode cX11_isIn 42 = .ok (.goto (-40), 3) := by decide +kernel
theorem dX11_isIn_45 : decode cX11_isIn 45 = .ok (.iconst 1, 1) := by decide +kernel
theorem dX11_isIn_46 : decode cX11_isIn 46 = .ok (.ireturn, 1) := by decide +kernel
theorem dX11_cubeOf_0 : decode cX11_cubeOf 0 = .ok (.iconst 0, 1) := by decide +kernel
theorem dX11_cubeOf_1 : decode cX11_cubeOf 1 = .ok (.istore_n 2, 1) := by decide +kernel
theorem dX11_cubeOf_2 : decode cX11_cubeOf 2 = .ok (.iconst 0, 1) := by decide +kernel
theorem dX11_cubeOf_3 : decode cX11_cubeOf 3 = .ok (.istore_n 3, 1) := by decide +kernel
theorem dX11_cubeOf_4 : decode cX11_cubeOf 4 = .ok (.iload_n 3, 1) := by decide +kernel
theorem dX11_cubeOf_5 : decode cX11_cubeOf 5 = .ok (.bipush 6, 2) := by decide +kernel
theorem dX11_cubeOf_7 : decode cX11_cubeOf 7 = .ok (.if_icmp .ge 31, 3) := by decide +kernel
theorem dX11_cubeOf_10 : decode cX11_cubeOf 10 = .ok (.iconst 3, 1) := by decide +kernel
theorem dX11_cubeOf_11 : decode cX11_cubeOf 11 = .ok (.iload_n 2, 1) := by decide +kernel
theorem dX11_cubeOf_12 : decode cX11_cubeOf 12 = .ok (.imul, 1) := by decide +kernel
theorem dX11_cubeOf_13 : decode cX11_cubeOf 13 = .ok (.iload_n 1, 1) := by decide +kernel
theorem dX11_cubeOf_14 : decode cX11_cubeOf 14 = .ok (.iload_n 3, 1) := by decide +kernel
theorem dX11_cubeOf_15 : decode cX11_cubeOf 15 = .ok (.invokestatic 114, 3) := by decide +kernel
theorem dX11_cubeOf_18 : decode cX11_cubeOf 18 = .ok (.ifCond .eq 7, 3) := by decide +kernel
theorem dX11_cubeOf_21 : decode cX11_cubeOf 21 = .ok (.iconst 2, 1) := by decide +kernel
theorem dX11_cubeOf_22 : decode cX11_cubeOf 22 = .ok (.goto 8, 3) := by decide +kernel
theorem dX11_cubeOf_25 : decode cX11_cubeOf 25 = .ok (.iload_n 0, 1) := by decide +kernel
theorem dX11_cubeOf_26 : decode cX11_cubeOf 26 = .ok (.iload_n 3, 1) := by decide +kernel
theorem dX11_cubeOf_27 : decode cX11_cubeOf 27 = .ok (.ishr, 1) := by decide +kernel
theorem dX11_cubeOf_28 : decode cX11_cubeOf 28 = .ok (.iconst 1, 1) := by decide +kernel
theorem dX11_cubeOf_29 : decode cX11_cubeOf 29 = .ok (.iand, 1) := by decide +kernel
theorem dX11_cubeOf_30 : decode cX11_cubeOf 30 = .ok (.iadd, 1) := by decide +kernel
theorem dX11_cubeOf_31 : decode cX11_cubeOf 31 = .ok (.istore_n 2, 1) := by decide +kernel
theorem dX11_cubeOf_32 : decode cX11_cubeOf 32 = .ok (.iinc 3 1, 3) := by decide +kernel
theorem dX11_cubeOf_35 : decode cX11_cubeOf 35 = .ok (.goto (-31), 3) := by decide +kernel
theorem dX11_cubeOf_38 : decode cX11_cubeOf 38 = .ok (.iload_n 2, 1) := by decide +kernel
theorem dX11_cubeOf_39 : decode cX11_cubeOf 39 = .ok (.ireturn, 1) := by decide +kernel
theorem dX11_liesIn_0 : decode cX11_liesIn 0 = .ok (.aload_n 0, 1) := by decide +kernel
theorem dX11_liesIn_1 : decode cX11_liesIn 1 = .ok (.getfield 19, 3) := by decide +kernel
theorem dX11_liesIn_4 : decode cX11_liesIn 4 = .ok (.iload_n 1, 1) := by decide +kernel
theorem dX11_liesIn_5 : decode cX11_liesIn 5 = .ok (.laload, 1) := by decide +kernel
theorem dX11_liesIn_6 : decode cX11_liesIn 6 = .ok (.aload_n 0, 1) := by decide +kernel
theorem dX11_liesIn_7 : decode cX11_liesIn 7 = .ok (.getfield 19, 3) := by decide +kernel
theorem dX11_liesIn_10 : decode cX11_liesIn 10 = .ok (.iload_n 2, 1) := by decide +kernel
theorem dX11_liesIn_11 : decode cX11_liesIn 11 = .ok (.laload, 1) := by decide +kernel
theorem dX11_liesIn_12 : decode cX11_liesIn 12 = .ok (.ldc2_w 117, 3) := by decide +kernel
theorem dX11_liesIn_15 : decode cX11_liesIn 15 = .ok (.lxor, 1) := by decide +kernel
theorem dX11_liesIn_16 : decode cX11_liesIn 16 = .ok (.land, 1) := by decide +kernel
theorem dX11_liesIn_17 : decode cX11_liesIn 17 = .ok (.lconst 0, 1) := by decide +kernel
theorem dX11_liesIn_18 : decode cX11_liesIn 18 = .ok (.lcmp, 1) := by decide +kernel
theorem dX11_liesIn_19 : decode cX11_liesIn 19 = .ok (.ifCond .ne 7, 3) := by decide +kernel
theorem dX11_liesIn_22 : decode cX11_liesIn 22 = .ok (.iconst 1, 1) := by decide +kernel
theorem dX11_liesIn_23 : decode cX11_liesIn 23 = .ok (.goto 4, 3) := by decide +kernel
theorem dX11_liesIn_26 : decode cX11_liesIn 26 = .ok (.iconst 0, 1) := by decide +kernel
theorem dX11_liesIn_27 : decode cX11_liesIn 27 = .ok (.ireturn, 1) := by decide +kernel
theorem dX11_byteAt_0 : decode cX11_byteAt 0 = .ok (.iload_n 1, 1) := by decide +kernel
theorem dX11_byteAt_1 : decode cX11_byteAt 1 = .ok (.aload_n 0, 1) := by decide +kernel
theorem dX11_byteAt_2 : decode cX11_byteAt 2 = .ok (.getfield 119, 3) := by decide +kernel
theorem dX11_byteAt_5 : decode cX11_byteAt 5 = .ok (.if_icmp .ge 16, 3) := by decide +kernel
theorem dX11_byteAt_8 : decode cX11_byteAt 8 = .ok (.aload_n 0, 1) := by decide +kernel
theorem dX11_byteAt_9 : decode cX11_byteAt 9 = .ok (.getfield 27, 3) := by decide +kernel
theorem dX11_byteAt_12 : decode cX11_byteAt 12 = .ok (.iload_n 1, 1) := by decide +kernel
theorem dX11_byteAt_13 : decode cX11_byteAt 13 = .ok (.baload, 1) := by decide +kernel
theorem dX11_byteAt_14 : decode cX11_byteAt 14 = .ok (.sipush 255, 3) := by decide +kernel
theorem dX11_byteAt_17 : decode cX11_byteAt 17 = .ok (.iand, 1) := by decide +kernel
theorem dX11_byteAt_18 : decode cX11_byteAt 18 = .ok (.goto 4, 3) := by decide +kernel
theorem dX11_byteAt_21 : decode cX11_byteAt 21 = .ok (.iconst (-1), 1) := by decide +kernel
theorem dX11_byteAt_22 : decode cX11_byteAt 22 = .ok (.ireturn, 1) := by decide +kernel
theorem dX11_next_0 : decode cX11_next 0 = .ok (.aload_n 0, 1) := by decide +kernel
theorem dX11_next_1 : decode cX11_next 1 = .ok (.getfield 122, 3) := by decide +kernel
theorem dX11_next_4 : decode cX11_next 4 = .ok (.ifCond .le 4, 3) := by decide +kernel
theorem dX11_next_7 : decode cX11_next 7 = .ok (.return_, 1) := by decide +kernel
theorem dX11_next_8 : decode cX11_next 8 = .ok (.aload_n 0, 1) := by decide +kernel
theorem dX11_next_9 : decode cX11_next 9 = .ok (.aload_n 0, 1) := by decide +kernel
theorem dX11_next_10 : decode cX11_next 10 = .ok (.getfield 125, 3) := by decide +kernel
theorem dX11_next_13 : decode cX11_next 13 = .ok (.invokevirtual 128, 3) := by decide +kernel
theorem dX11_next_16 : decode cX11_next 16 = .ok (.bipush 32, 2) := by decide +kernel
theorem dX11_next_18 : decode cX11_next 18 = .ok (.if_icmp .ne 16, 3) := by decide +kernel
theorem dX11_next_21 : decode cX11_next 21 = .ok (.aload_n 0, 1) := by decide +kernel
theorem dX11_next_22 : decode cX11_next 22 = .ok (.dup, 1) := by decide +kernel
theorem dX11_next_23 : decode cX11_next 23 = .ok (.getfield 125, 3) := by decide +kernel
theorem dX11_next_26 : decode cX11_next 26 = .ok (.iconst 1, 1) := by decide +kernel
theorem dX11_next_27 : decode cX11_next 27 = .ok (.iadd, 1) := by decide +kernel
theorem dX11_next_28 : decode cX11_next 28 = .ok (.putfield 125, 3) := by decide +kernel
theorem dX11_next_31 : decode cX11_next 31 = .ok (.goto (-23), 3) := by decide +kernel
theorem dX11_next_34 : decode cX11_next 34 = .ok (.aload_n 0, 1) := by decide +kernel
theorem dX11_next_35 : decode cX11_next 35 = .ok (.aload_n 0, 1) := by decide +kernel
theorem dX11_next_36 : decode cX11_next 36 = .ok (.getfield 125, 3) := by decide +kernel
theorem dX11_next_39 : decode cX11_next 39 = .ok (.putfield 132, 3) := by decide +kernel
theorem dX11_next_42 : decode cX11_next 42 = .ok (.aload_n 0, 1) := by decide +kernel
theorem dX11_next_43 : decode cX11_next 43 = .ok (.aload_n 0, 1) := by decide +kernel
theorem dX11_next_44 : decode cX11_next 44 = .ok (.getfield 125, 3) := by decide +kernel
theorem dX11_next_47 : decode cX11_next 47 = .ok (.invokevirtual 128, 3) := by decide +kernel
theorem dX11_next_50 : decode cX11_next 50 = .ok (.istore_n 1, 1) := by decide +kernel
theorem dX11_next_51 : decode cX11_next 51 = .ok (.iload_n 1, 1) := by decide +kernel
theorem dX11_next_52 : decode cX11_next 52 = .ok (.iconst (-1), 1) := by decide +kernel
theorem dX11_next_53 : decode cX11_next 53 = .ok (.if_icmp .ne 11, 3) := by decide +kernel
theorem dX11_next_56 : decode cX11_next 56 = .ok (.aload_n 0, 1) := by decide +kernel
theorem dX11_next_57 : decode cX11_next 57 = .ok (.iconst 1, 1) := by decide +kernel
theorem dX11_next_58 : decode cX11_next 58 = .ok (.putfield 135, 3) := by decide +kernel
theorem dX11_next_61 : decode cX11_next 61 = .ok (.goto 44, 3) := by decide +kernel
theorem dX11_next_64 : decode cX11_next 64 = .ok (.iload_n 1, 1) := by decide +kernel
theorem dX11_next_65 : decode cX11_next 65 = .ok (.bipush 97, 2) := by decide +kernel
theorem dX11_next_67 : decode cX11_next 67 = .ok (.bipush 122, 2) := by decide +kernel
theorem dX11_next_69 : decode cX11_next 69 = .ok (.invokestatic 138, 3) := by decide +kernel
theorem dX11_next_72 : decode cX11_next 72 = .ok (.ifCond .eq 10, 3) := by decide +kernel
theorem dX11_next_75 : decode cX11_next 75 = .ok (.aload_n 0, 1) := by decide +kernel
theorem dX11_next_76 : decode cX11_next 76 = .ok (.invokevirtual 142, 3) := by decide +kernel
theorem dX11_next_79 : decode cX11_next 79 = .ok (.goto 26, 3) := by decide +kernel
theorem dX11_next_82 : decode cX11_next 82 = .ok (.iload_n 1, 1) := by decide +kernel
theorem dX11_next_83 : decode cX11_next 83 = .ok (.bipush 48, 2) := by decide +kernel
theorem dX11_next_85 : decode cX11_next 85 = .ok (.bipush 57, 2) := by decide +kernel
theorem dX11_next_87 : decode cX11_next 87 = .ok (.invokestatic 138, 3) := by decide +kernel
theorem dX11_next_90 : decode cX11_next 90 = .ok (.ifCond .eq 10, 3) := by decide +kernel
theorem dX11_next_93 : decode cX11_next 93 = .ok (.aload_n 0, 1) := by decide +kernel
theorem dX11_next_94 : decode cX11_next 94 = .ok (.invokevirtual 145, 3) := by decide +kernel
theorem dX11_next_97 : decode cX11_next 97 = .ok (.goto 8, 3) := by decide +kernel
theorem dX11_next_100 : decode cX11_next 100 = .ok (.aload_n 0, 1) := by decide +kernel
theorem dX11_next_101 : decode cX11_next 101 = .ok (.iload_n 1, 1) := by decide +kernel
theorem dX11_next_102 : decode cX11_next 102 = .ok (.invokevirtual 148, 3) := by decide +kernel
theorem dX11_next_105 : decode cX11_next 105 = .ok (.return_, 1) := by decide +kernel
theorem dX11_nextWord_0 : decode cX11_nextWord 0 = .ok (.aload_n 0, 1) := by decide +kernel
theorem dX11_nextWord_1 : decode cX11_nextWord 1 = .ok (.lconst 0, 1) := by decide +kernel
theorem dX11_nextWord_2 : decode cX11_nextWord 2 = .ok (.putfield 152, 3) := by decide +kernel
theorem dX11_nextWord_5 : decode cX11_nextWord 5 = .ok (.aload_n 0, 1) := by decide +kernel
theorem dX11_nextWord_6 : decode cX11_nextWord 6 = .ok (.aload_n 0, 1) := by decide +kernel
theorem dX11_nextWord_7 : decode cX11_nextWord 7 = .ok (.getfield 125, 3) := by decide +kernel
theorem dX11_nextWord_10 : decode cX11_nextWord 10 = .ok (.invokevirtual 128, 3) := by decide +kernel
theorem dX11_nextWord_13 : decode cX11_nextWord 13 = .ok (.bipush 97, 2) := by decide +kernel
theorem dX11_nextWord_15 : decode cX11_nextWord 15 = .ok (.bipush 122, 2) := by decide +kernel
theorem dX11_nextWord_17 : decode cX11_nextWord 17 = .ok (.invokestatic 138, 3) := by decide +kernel
theorem dX11_nextWord_20 : decode cX11_nextWord 20 = .ok (.ifCond .eq 50, 3) := by decide +kernel
theorem dX11_nextWord_23 : decode cX11_nextWord 23 = .ok (.aload_n 0, 1) := by decide +kernel
theorem dX11_nextWord_24 : decode cX11_nextWord 24 = .ok (.getfield 125, 3) := by decide +kernel
theorem dX11_nextWord_27 : decode cX11_nextWord 27 = .ok (.aload_n 0, 1) := by decide +kernel
theorem dX11_nextWord_28 : decode cX11_nextWord 28 = .ok (.getfield 132, 3) := by decide +kernel
theorem dX11_nextWord_31 : decode cX11_nextWord 31 = .ok (.isub, 1) := by decide +kernel
theorem dX11_nextWord_32 : decode cX11_nextWord 32 = .ok (.iconst 5, 1) := by decide +kernel
theorem dX11_nextWord_33 : decode cX11_nextWord 33 = .ok (.if_icmp .ge 24, 3) := by decide +kernel
theorem dX11_nextWord_36 : decode cX11_nextWord 36 = .ok (.aload_n 0, 1) := by decide +kernel
theorem dX11_nextWord_37 : decode cX11_nextWord 37 = .ok (.aload_n 0, 1) := by decide +kernel
theorem dX11_nextWord_38 : decode cX11_nextWord 38 = .ok (.getfield 152, 3) := by decide +kernel
theorem dX11_nextWord_41 : decode cX11_nextWord 41 = .ok (.bipush 8, 2) := by decide +kernel
theorem dX11_nextWord_43 : decode cX11_nextWord 43 = .ok (.lshl, 1) := by decide +kernel
theorem dX11_nextWord_44 : decode cX11_nextWord 44 = .ok (.aload_n 0, 1) := by decide +kernel
theorem dX11_nextWord_45 : decode cX11_nextWord 45 = .ok (.aload_n 0, 1) := by decide +kernel
theorem dX11_nextWord_46 : decode cX11_nextWord 46 = .ok (.getfield 125, 3) := by decide +kernel
theorem dX11_nextWord_49 : decode cX11_nextWord 49 = .ok (.invokevirtual 128, 3) := by decide +kernel
theorem dX11_nextWord_52 : decode cX11_nextWord 52 = .ok (.i2l, 1) := by decide +kernel
theorem dX11_nextWord_53 : decode cX11_nextWord 53 = .ok (.lor, 1) := by decide +kernel
theorem dX11_nextWord_54 : decode cX11_nextWord 54 = .ok (.putfield 152, 3) := by decide +kernel
theorem dX11_nextWord_57 : decode cX11_nextWord 57 = .ok (.aload_n 0, 1) := by decide +kernel
theorem dX11_nextWord_58 : decode cX11_nextWord 58 = .ok (.dup, 1) := by decide +kernel
theorem dX11_nextWord_59 : decode cX11_nextWord 59 = .ok (.getfield 125, 3) := by decide +kernel
theorem dX11_nextWord_62 : decode cX11_nextWord 62 = .ok (.iconst 1, 1) := by decide +kernel
theorem dX11_nextWord_63 : decode cX11_nextWord 63 = .ok (.iadd, 1) := by decide +kernel
theorem dX11_nextWord_64 : decode cX11_nextWord 64 = .ok (.putfield 125, 3) := by decide +kernel
theorem dX11_nextWord_67 : decode cX11_nextWord 67 = .ok (.goto (-62), 3) := by decide +kernel
theorem dX11_nextWord_70 : decode cX11_nextWord 70 = .ok (.aload_n 0, 1) := by decide +kernel
theorem dX11_nextWord_71 : decode cX11_nextWord 71 = .ok (.aload_n 0, 1) := by decide +kernel
theorem dX11_nextWord_72 : decode cX11_nextWord 72 = .ok (.getfield 125, 3) := by decide +kernel
theorem dX11_nextWord_75 : decode cX11_nextWord 75 = .ok (.aload_n 0, 1) := by decide +kernel
theorem dX11_nextWord_76 : decode cX11_nextWord 76 = .ok (.getfield 132, 3) := by decide +kernel
theorem dX11_nextWord_79 : decode cX11_nextWord 79 = .ok (.isub, 1) := by decide +kernel
theorem dX11_nextWord_80 : decode cX11_nextWord 80 = .ok (.iconst 5, 1) := by decide +kernel
theorem dX11_nextWord_81 : decode cX11_nextWord 81 = .ok (.if_icmp .le 7, 3) := by decide +kernel
theorem dX11_nextWord_84 : decode cX11_nextWord 84 = .ok (.iconst 0, 1) := by decide +kernel
theorem dX11_nextWord_85 : decode cX11_nextWord 85 = .ok (.goto 4, 3) := by decide +kernel
theorem dX11_nextWord_88 : decode cX11_nextWord 88 = .ok (.iconst 2, 1) := by decide +kernel
theorem dX11_nextWord_89 : decode cX11_nextWord 89 = .ok (.putfield 135, 3) := by decide +kernel
theorem dX11_nextWord_92 : decode cX11_nextWord 92 = .ok (.return_, 1) := by decide +kernel
theorem dX11_nextWhole_0 : decode cX11_nextWhole 0 = .ok (.aload_n 0, 1) := by decide +kernel
theorem dX11_nextWhole_1 : decode cX11_nextWhole 1 = .ok (.iconst 0, 1) := by decide +kernel
theorem dX11_nextWhole_2 : decode cX11_nextWhole 2 = .ok (.putfield 156, 3) := by decide +kernel
theorem dX11_nextWhole_5 : decode cX11_nextWhole 5 = .ok (.aload_n 0, 1) := by decide +kernel
theorem dX11_nextWhole_6 : decode cX11_nextWhole 6 = .ok (.aload_n 0, 1) := by decide +kernel
theorem dX11_nextWhole_7 : decode cX11_nextWhole 7 = .ok (.getfield 125, 3) := by decide +kernel
theorem dX11_nextWhole_10 : decode cX11_nextWhole 10 = .ok (.invokevirtual 128, 3) := by decide +kernel
theorem dX11_nextWhole_13 : decode cX11_nextWhole 13 = .ok (.bipush 48, 2) := by decide +kernel
theorem dX11_nextWhole_15 : decode cX11_nextWhole 15 = .ok (.bipush 57, 2) := by decide +kernel
theorem dX11_nextWhole_17 : decode cX11_nextWhole 17 = .ok (.invokestatic 138, 3) := by decide +kernel
theorem dX11_nextWhole_20 : decode cX11_nextWhole 20 = .ok (.ifCond .eq 52, 3) := by decide +kernel
theorem dX11_nextWhole_23 : decode cX11_nextWhole 23 = .ok (.aload_n 0, 1) := by decide +kernel
theorem dX11_nextWhole_24 : decode cX11_nextWhole 24 = .ok (.getfield 125, 3) := by decide +kernel
theorem dX11_nextWhole_27 : decode cX11_nextWhole 27 = .ok (.aload_n 0, 1) := by decide +kernel
theorem dX11_nextWhole_28 : decode cX11_nextWhole 28 = .ok (.getfield 132, 3) := by decide +kernel
theorem dX11_nextWhole_31 : decode cX11_nextWhole 31 = .ok (.isub, 1) := by decide +kernel
theorem dX11_nextWhole_32 : decode cX11_nextWhole 32 = .ok (.iconst 3, 1) := by decide +kernel
theorem dX11_nextWhole_33 : decode cX11_nextWhole 33 = .ok (.if_icmp .ge 26, 3) := by decide +kernel
theorem dX11_nextWhole_36 : decode cX11_nextWhole 36 = .ok (.aload_n 0, 1) := by decide +kernel
theorem dX11_nextWhole_37 : decode cX11_nextWhole 37 = .ok (.bipush 10, 2) := by decide +kernel
theorem dX11_nextWhole_39 : decode cX11_nextWhole 39 = .ok (.aload_n 0, 1) := by decide +kernel
theorem dX11_nextWhole_40 : decode cX11_nextWhole 40 = .ok (.getfield 156, 3) := by decide +kernel
theorem dX11_nextWhole_43 : decode cX11_nextWhole 43 = .ok (.imul, 1) := by decide +kernel
theorem dX11_nextWhole_44 : decode cX11_nextWhole 44 = .ok (.aload_n 0, 1) := by decide +kernel
theorem dX11_nextWhole_45 : decode cX11_nextWhole 45 = .ok (.aload_n 0, 1) := by decide +kernel
theorem dX11_nextWhole_46 : decode cX11_nextWhole 46 = .ok (.getfield 125, 3) := by decide +kernel
theorem dX11_nextWhole_49 : decode cX11_nextWhole 49 = .ok (.invokevirtual 128, 3) := by decide +kernel
theorem dX11_nextWhole_52 : decode cX11_nextWhole 52 = .ok (.iadd, 1) := by decide +kernel
theorem dX11_nextWhole_53 : decode cX11_nextWhole 53 = .ok (.bipush 48, 2) := by decide +kernel
theorem dX11_nextWhole_55 : decode cX11_nextWhole 55 = .ok (.isub, 1) := by decide +kernel
theorem dX11_nextWhole_56 : decode cX11_nextWhole 56 = .ok (.putfield 156, 3) := by decide +kernel
theorem dX11_nextWhole_59 : decode cX11_nextWhole 59 = .ok (.aload_n 0, 1) := by decide +kernel
theorem dX11_nextWhole_60 : decode cX11_nextWhole 60 = .ok (.dup, 1) := by decide +kernel
theorem dX11_nextWhole_61 : decode cX11_nextWhole 61 = .ok (.getfield 125, 3) := by decide +kernel
theorem dX11_nextWhole_64 : decode cX11_nextWhole 64 = .ok (.iconst 1, 1) := by decide +kernel
theorem dX11_nextWhole_65 : decode cX11_nextWhole 65 = .ok (.iadd, 1) := by decide +kernel
theorem dX11_nextWhole_66 : decode cX11_nextWhole 66 = .ok (.putfield 125, 3) := by decide +kernel
theorem dX11_nextWhole_69 : decode cX11_nextWhole 69 = .ok (.goto (-64), 3) := by decide +kernel
theorem dX11_nextWhole_72 : decode cX11_nextWhole 72 = .ok (.aload_n 0, 1) := by decide +kernel
theorem dX11_nextWhole_73 : decode cX11_nextWhole 73 = .ok (.aload_n 0, 1) := by decide +kernel
theorem dX11_nextWhole_74 : decode cX11_nextWhole 74 = .ok (.getfield 125, 3) := by decide +kernel
theorem dX11_nextWhole_77 : decode cX11_nextWhole 77 = .ok (.aload_n 0, 1) := by decide +kernel
theorem dX11_nextWhole_78 : decode cX11_nextWhole 78 = .ok (.getfield 132, 3) := by decide +kernel
theorem dX11_nextWhole_81 : decode cX11_nextWhole 81 = .ok (.isub, 1) := by decide +kernel
theorem dX11_nextWhole_82 : decode cX11_nextWhole 82 = .ok (.iconst 3, 1) := by decide +kernel
theorem dX11_nextWhole_83 : decode cX11_nextWhole 83 = .ok (.if_icmp .le 7, 3) := by decide +kernel
theorem dX11_nextWhole_86 : decode cX11_nextWhole 86 = .ok (.iconst 0, 1) := by decide +kernel
theorem dX11_nextWhole_87 : decode cX11_nextWhole 87 = .ok (.goto 4, 3) := by decide +kernel
theorem dX11_nextWhole_90 : decode cX11_nextWhole 90 = .ok (.iconst 3, 1) := by decide +kernel
theorem dX11_nextWhole_91 : decode cX11_nextWhole 91 = .ok (.putfield 135, 3) := by decide +kernel
theorem dX11_nextWhole_94 : decode cX11_nextWhole 94 = .ok (.return_, 1) := by decide +kernel
theorem dX11_nextSign_0 : decode cX11_nextSign 0 = .ok (.iload_n 1, 1) := by decide +kernel
theorem dX11_nextSign_1 : decode cX11_nextSign 1 = .ok (.bipush 59, 2) := by decide +kernel
theorem dX11_nextSign_3 : decode cX11_nextSign 3 = .ok (.if_icmp .eq 27, 3) := by decide +kernel
theorem dX11_nextSign_6 : decode cX11_nextSign 6 = .ok (.iload_n 1, 1) := by decide +kernel
theorem dX11_nextSign_7 : decode cX11_nextSign 7 = .ok (.bipush 47, 2) := by decide +kernel
theorem dX11_nextSign_9 : decode cX11_nextSign 9 = .ok (.if_icmp .eq 21, 3) := by decide +kernel
theorem dX11_nextSign_12 : decode cX11_nextSign 12 = .ok (.iload_n 1, 1) := by decide +kernel
theorem dX11_nextSign_13 : decode cX11_nextSign 13 = .ok (.bipush 43, 2) := by decide +kernel
theorem dX11_nextSign_15 : decode cX11_nextSign 15 = .ok (.if_icmp .eq 15, 3) := by decide +kernel
theorem dX11_nextSign_18 : decode cX11_nextSign 18 = .ok (.iload_n 1, 1) := by decide +kernel
theorem dX11_nextSign_19 : decode cX11_nextSign 19 = .ok (.bipush 45, 2) := by decide +kernel
theorem dX11_nextSign_21 : decode cX11_nextSign 21 = .ok (.if_icmp .eq 9, 3) := by decide +kernel
theorem dX11_nextSign_24 : decode cX11_nextSign 24 = .ok (.iload_n 1, 1) := by decide +kernel
theorem dX11_nextSign_25 : decode cX11_nextSign 25 = .ok (.bipush 39, 2) := by decide +kernel
theorem dX11_nextSign_27 : decode cX11_nextSign 27 = .ok (.if_icmp .ne 7, 3) := by decide +kernel
theorem dX11_nextSign_30 : decode cX11_nextSign 30 = .ok (.iconst 1, 1) := by decide +kernel
theorem dX11_nextSign_31 : decode cX11_nextSign 31 = .ok (.goto 4, 3) := by decide +kernel
theorem dX11_nextSign_34 : decode cX11_nextSign 34 = .ok (.iconst 0, 1) := by decide +kernel
theorem dX11_nextSign_35 : decode cX11_nextSign 35 = .ok (.istore_n 2, 1) := by decide +kernel
theorem dX11_nextSign_36 : decode cX11_nextSign 36 = .ok (.aload_n 0, 1) := by decide +kernel
theorem dX11_nextSign_37 : decode cX11_nextSign 37 = .ok (.iload_n 2, 1) := by decide +kernel
theorem dX11_nextSign_38 : decode cX11_nextSign 38 = .ok (.ifCond .eq 7, 3) := by decide +kernel
theorem dX11_nextSign_41 : decode cX11_nextSign 41 = .ok (.iconst 4, 1) := by decide +kernel
theorem dX11_nextSign_42 : decode cX11_nextSign 42 = .ok (.goto 4, 3) := by decide +kernel
theorem dX11_nextSign_45 : decode cX11_nextSign 45 = .ok (.iconst 0, 1) := by decide +kernel
theorem dX11_nextSign_46 : decode cX11_nextSign 46 = .ok (.putfield 135, 3) := by decide +kernel
theorem dX11_nextSign_49 : decode cX11_nextSign 49 = .ok (.aload_n 0, 1) := by decide +kernel
theorem dX11_nextSign_50 : decode cX11_nextSign 50 = .ok (.iload_n 1, 1) := by decide +kernel
theorem dX11_nextSign_51 : decode cX11_nextSign 51 = .ok (.putfield 156, 3) := by decide +kernel
theorem dX11_nextSign_54 : decode cX11_nextSign 54 = .ok (.iload_n 2, 1) := by decide +kernel
theorem dX11_nextSign_55 : decode cX11_nextSign 55 = .ok (.ifCond .eq 13, 3) := by decide +kernel
theorem dX11_nextSign_58 : decode cX11_nextSign 58 = .ok (.aload_n 0, 1) := by decide +kernel
theorem dX11_nextSign_59 : decode cX11_nextSign 59 = .ok (.dup, 1) := by decide +kernel
theorem dX11_nextSign_60 : decode cX11_nextSign 60 = .ok (.getfield 125, 3) := by decide +kernel
theorem dX11_nextSign_63 : decode cX11_nextSign 63 = .ok (.iconst 1, 1) := by decide +kernel
theorem dX11_nextSign_64 : decode cX11_nextSign 64 = .ok (.iadd, 1) := by decide +kernel
theorem dX11_nextSign_65 : decode cX11_nextSign 65 = .ok (.putfield 125, 3) := by decide +kernel
theorem dX11_nextSign_68 : decode cX11_nextSign 68 = .ok (.return_, 1) := by decide +kernel
theorem dX11_wrong_0 : decode cX11_wrong 0 = .ok (.aload_n 0, 1) := by decide +kernel
theorem dX11_wrong_1 : decode cX11_wrong 1 = .ok (.getfield 122, 3) := by decide +kernel
theorem dX11_wrong_4 : decode cX11_wrong 4 = .ok (.ifCond .ne 8, 3) := by decide +kernel
theorem dX11_wrong_7 : decode cX11_wrong 7 = .ok (.aload_n 0, 1) := by decide +kernel
theorem dX11_wrong_8 : decode cX11_wrong 8 = .ok (.iload_n 1, 1) := by decide +kernel
theorem dX11_wrong_9 : decode cX11_wrong 9 = .ok (.putfield 122, 3) := by decide +kernel
theorem dX11_wrong_12 : decode cX11_wrong 12 = .ok (.aload_n 0, 1) := by decide +kernel
theorem dX11_wrong_13 : decode cX11_wrong 13 = .ok (.iconst 0, 1) := by decide +kernel
theorem dX11_wrong_14 : decode cX11_wrong 14 = .ok (.putfield 135, 3) := by decide +kernel
theorem dX11_wrong_17 : decode cX11_wrong 17 = .ok (.return_, 1) := by decide +kernel
theorem dX11_isSign_0 : decode cX11_isSign 0 = .ok (.aload_n 0, 1) := by decide +kernel
theorem dX11_isSign_1 : decode cX11_isSign 1 = .ok (.getfield 135, 3) := by decide +kernel
theorem dX11_isSign_4 : decode cX11_isSign 4 = .ok (.iconst 4, 1) := by decide +kernel
theorem dX11_isSign_5 : decode cX11_isSign 5 = .ok (.if_icmp .ne 15, 3) := by decide +kernel
theorem dX11_isSign_8 : decode cX11_isSign 8 = .ok (.aload_n 0, 1) := by decide +kernel
theorem dX11_isSign_9 : decode cX11_isSign 9 = .ok (.getfield 156, 3) := by decide +kernel
theorem dX11_isSign_12 : decode cX11_isSign 12 = .ok (.iload_n 1, 1) := by decide +kernel
theorem dX11_isSign_13 : decode cX11_isSign 13 = .ok (.if_icmp .ne 7, 3) := by decide +kernel
theorem dX11_isSign_16 : decode cX11_isSign 16 = .ok (.iconst 1, 1) := by decide +kernel
theorem dX11_isSign_17 : decode cX11_isSign 17 = .ok (.goto 4, 3) := by decide +kernel
theorem dX11_isSign_20 : decode cX11_isSign 20 = .ok (.iconst 0, 1) := by decide +kernel
theorem dX11_isSign_21 : decode cX11_isSign 21 = .ok (.ireturn, 1) := by decide +kernel
theorem dX11_isWord_0 : decode cX11_isWord 0 = .ok (.lconst 0, 1) := by decide +kernel
theorem dX11_isWord_1 : decode cX11_isWord 1 = .ok (.lstore_n 2, 1) := by decide +kernel
theorem dX11_isWord_2 : decode cX11_isWord 2 = .ok (.iconst 0, 1) := by decide +kernel
theorem dX11_isWord_3 : decode cX11_isWord 3 = .ok (.istore 4, 2) := by decide +kernel
theorem dX11_isWord_5 : decode cX11_isWord 5 = .ok (.iload 4, 2) := by decide +kernel
theorem dX11_isWord_7 : decode cX11_isWord 7 = .ok (.aload_n 1, 1) := by decide +kernel
theorem dX11_isWord_8 : decode cX11_isWord 8 = .ok (.invokevirtual 159, 3) := by decide +kernel
theorem dX11_isWord_11 : decode cX11_isWord 11 = .ok (.if_icmp .ge 22, 3) := by decide +kernel
theorem dX11_isWord_14 : decode cX11_isWord 14 = .ok (.lload_n 2, 1) := by decide +kernel
theorem dX11_isWord_15 : decode cX11_isWord 15 = .ok (.bipush 8, 2) := by decide +kernel
theorem dX11_isWord_17 : decode cX11_isWord 17 = .ok (.lshl, 1) := by decide +kernel
theorem dX11_isWord_18 : decode cX11_isWord 18 = .ok (.aload_n 1, 1) := by decide +kernel
theorem dX11_isWord_19 : decode cX11_isWord 19 = .ok (.iload 4, 2) := by decide +kernel
theorem dX11_isWord_21 : decode cX11_isWord 21 = .ok (.invokevirtual 165, 3) := by decide +kernel
theorem dX11_isWord_24 : decode cX11_isWord 24 = .ok (.i2l, 1) := by decide +kernel
theorem dX11_isWord_25 : decode cX11_isWord 25 = .ok (.lor, 1) := by decide +kernel
theorem dX11_isWord_26 : decode cX11_isWord 26 = .ok (.lstore_n 2, 1) := by decide +kernel
theorem dX11_isWord_27 : decode cX11_isWord 27 = .ok (.iinc 4 1, 3) := by decide +kernel
theorem dX11_isWord_30 : decode cX11_isWord 30 = .ok (.goto (-25), 3) := by decide +kernel
theorem dX11_isWord_33 : decode cX11_isWord 33 = .ok (.aload_n 0, 1) := by decide +kernel
theorem dX11_isWord_34 : decode cX11_isWord 34 = .ok (.getfield 135, 3) := by decide +kernel
theorem dX11_isWord_37 : decode cX11_isWord 37 = .ok (.iconst 2, 1) := by decide +kernel
theorem dX11_isWord_38 : decode cX11_isWord 38 = .ok (.if_icmp .ne 16, 3) := by decide +kernel
theorem dX11_isWord_41 : decode cX11_isWord 41 = .ok (.aload_n 0, 1) := by decide +kernel
theorem dX11_isWord_42 : decode cX11_isWord 42 = .ok (.getfield 152, 3) := by decide +kernel
theorem dX11_isWord_45 : decode cX11_isWord 45 = .ok (.lload_n 2, 1) := by decide +kernel
theorem dX11_isWord_46 : decode cX11_isWord 46 = .ok (.lcmp, 1) := by decide +kernel
theorem dX11_isWord_47 : decode cX11_isWord 47 = .ok (.ifCond .ne 7, 3) := by decide +kernel
theorem dX11_isWord_50 : decode cX11_isWord 50 = .ok (.iconst 1, 1) := by decide +kernel
theorem dX11_isWord_51 : decode cX11_isWord 51 = .ok (.goto 4, 3) := by decide +kernel
theorem dX11_isWord_54 : decode cX11_isWord 54 = .ok (.iconst 0, 1) := by decide +kernel
theorem dX11_isWord_55 : decode cX11_isWord 55 = .ok (.ireturn, 1) := by decide +kernel
theorem dX11_letterOf_0 : decode cX11_letterOf 0 = .ok (.aload_n 0, 1) := by decide +kernel
theorem dX11_letterOf_1 : decode cX11_letterOf 1 = .ok (.getfield 135, 3) := by decide +kernel
theorem dX11_letterOf_4 : decode cX11_letterOf 4 = .ok (.iconst 2, 1) := by decide +kernel
theorem dX11_letterOf_5 : decode cX11_letterOf 5 = .ok (.if_icmp .ne 35, 3) := by decide +kernel
theorem dX11_letterOf_8 : decode cX11_letterOf 8 = .ok (.aload_n 0, 1) := by decide +kernel
theorem dX11_letterOf_9 : decode cX11_letterOf 9 = .ok (.getfield 152, 3) := by decide +kernel
theorem dX11_letterOf_12 : decode cX11_letterOf 12 = .ok (.iload_n 1, 1) := by decide +kernel
theorem dX11_letterOf_13 : decode cX11_letterOf 13 = .ok (.i2l, 1) := by decide +kernel
theorem dX11_letterOf_14 : decode cX11_letterOf 14 = .ok (.lcmp, 1) := by decide +kernel
theorem dX11_letterOf_15 : decode cX11_letterOf 15 = .ok (.ifCond .lt 25, 3) := by decide +kernel
theorem dX11_letterOf_18 : decode cX11_letterOf 18 = .ok (.aload_n 0, 1) := by decide +kernel
theorem dX11_letterOf_19 : decode cX11_letterOf 19 = .ok (.getfield 152, 3) := by decide +kernel
theorem dX11_letterOf_22 : decode cX11_letterOf 22 = .ok (.iload_n 1, 1) := by decide +kernel
theorem dX11_letterOf_23 : decode cX11_letterOf 23 = .ok (.iload_n 2, 1) := by decide +kernel
theorem dX11_letterOf_24 : decode cX11_letterOf 24 = .ok (.iadd, 1) := by decide +kernel
theorem dX11_letterOf_25 : decode cX11_letterOf 25 = .ok (.i2l, 1) := by decide +kernel
theorem dX11_letterOf_26 : decode cX11_letterOf 26 = .ok (.lcmp, 1) := by decide +kernel
theorem dX11_letterOf_27 : decode cX11_letterOf 27 = .ok (.ifCond .ge 13, 3) := by decide +kernel
theorem dX11_letterOf_30 : decode cX11_letterOf 30 = .ok (.aload_n 0, 1) := by decide +kernel
theorem dX11_letterOf_31 : decode cX11_letterOf 31 = .ok (.getfield 152, 3) := by decide +kernel
theorem dX11_letterOf_34 : decode cX11_letterOf 34 = .ok (.l2i, 1) := by decide +kernel
theorem dX11_letterOf_35 : decode cX11_letterOf 35 = .ok (.iload_n 1, 1) := by decide +kernel
theorem dX11_letterOf_36 : decode cX11_letterOf 36 = .ok (.isub, 1) := by decide +kernel
theorem dX11_letterOf_37 : decode cX11_letterOf 37 = .ok (.goto 4, 3) := by decide +kernel
theorem dX11_letterOf_40 : decode cX11_letterOf 40 = .ok (.iconst (-1), 1) := by decide +kernel
theorem dX11_letterOf_41 : decode cX11_letterOf 41 = .ok (.ireturn, 1) := by decide +kernel
theorem dX11_inputAt_0 : decode cX11_inputAt 0 = .ok (.aload_n 0, 1) := by decide +kernel
theorem dX11_inputAt_1 : decode cX11_inputAt 1 = .ok (.bipush 97, 2) := by decide +kernel
theorem dX11_inputAt_3 : decode cX11_inputAt 3 = .ok (.iconst 4, 1) := by decide +kernel
theorem dX11_inputAt_4 : decode cX11_inputAt 4 = .ok (.invokevirtual 169, 3) := by decide +kernel
theorem dX11_inputAt_7 : decode cX11_inputAt 7 = .ok (.ireturn, 1) := by decide +kernel
theorem dX11_outputAt_0 : decode cX11_outputAt 0 = .ok (.aload_n 0, 1) := by decide +kernel
theorem dX11_outputAt_1 : decode cX11_outputAt 1 = .ok (.bipush 112, 2) := by decide +kernel
theorem dX11_outputAt_3 : decode cX11_outputAt 3 = .ok (.iconst 3, 1) := by decide +kernel
theorem dX11_outputAt_4 : decode cX11_outputAt 4 = .ok (.invokevirtual 169, 3) := by decide +kernel
theorem dX11_outputAt_7 : decode cX11_outputAt 7 = .ok (.ireturn, 1) := by decide +kernel
theorem dX11_codeBitAt_0 : decode cX11_codeBitAt 0 = .ok (.aload_n 0, 1) := by decide +kernel
theorem dX11_codeBitAt_1 : decode cX11_codeBitAt 1 = .ok (.bipush 115, 2) := by decide +kernel
theorem dX11_codeBitAt_3 : decode cX11_codeBitAt 3 = .ok (.iconst 2, 1) := by decide +kernel
theorem dX11_codeBitAt_4 : decode cX11_codeBitAt 4 = .ok (.invokevirtual 169, 3) := by decide +kernel
theorem dX11_codeBitAt_7 : decode cX11_codeBitAt 7 = .ok (.ireturn, 1) := by decide +kernel
theorem dX11_readAll_0 : decode cX11_readAll 0 = .ok (.iconst 0, 1) := by decide +kernel
theorem dX11_readAll_1 : decode cX11_readAll 1 = .ok (.istore_n 1, 1) := by decide +kernel
theorem dX11_readAll_2 : decode cX11_readAll 2 = .ok (.iload_n 1, 1) := by decide +kernel
theorem dX11_readAll_3 : decode cX11_readAll 3 = .ok (.bipush 88, 2) := by decide +kernel
theorem dX11_readAll_5 : decode cX11_readAll 5 = .ok (.if_icmp .ge 16, 3) := by decide +kernel
theorem dX11_readAll_8 : decode cX11_readAll 8 = .ok (.aload_n 0, 1) := by decide +kernel
theorem dX11_readAll_9 : decode cX11_readAll 9 = .ok (.getfield 34, 3) := by decide +kernel
theorem dX11_readAll_12 : decode cX11_readAll 12 = .ok (.iload_n 1, 1) := by decide +kernel
theorem dX11_readAll_13 : decode cX11_readAll 13 = .ok (.iconst 0, 1) := by decide +kernel
theorem dX11_readAll_14 : decode cX11_readAll 14 = .ok (.iastore, 1) := by decide +kernel
theorem dX11_readAll_15 : decode cX11_readAll 15 = .ok (.iinc 1 1, 3) := by decide +kernel
theorem dX11_readAll_18 : decode cX11_readAll 18 = .ok (.goto (-16), 3) := by decide +kernel
theorem dX11_readAll_21 : decode cX11_readAll 21 = .ok (.aload_n 0, 1) := by decide +kernel
theorem dX11_readAll_22 : decode cX11_readAll 22 = .ok (.getfield 40, 3) := by decide +kernel
theorem dX11_readAll_25 : decode cX11_readAll 25 = .ok (.iconst 0, 1) := by decide +kernel
theorem dX11_readAll_26 : decode cX11_readAll 26 = .ok (.iconst 0, 1) := by decide +kernel
theorem dX11_readAll_27 : decode cX11_readAll 27 = .ok (.iastore, 1) := by decide +kernel
theorem dX11_readAll_28 : decode cX11_readAll 28 = .ok (.aload_n 0, 1) := by decide +kernel
theorem dX11_readAll_29 : decode cX11_readAll 29 = .ok (.getfield 40, 3) := by decide +kernel
theorem dX11_readAll_32 : decode cX11_readAll 32 = .ok (.iconst 1, 1) := by decide +kernel
theorem dX11_readAll_33 : decode cX11_readAll 33 = .ok (.iconst (-1), 1) := by decide +kernel
theorem dX11_readAll_34 : decode cX11_readAll 34 = .ok (.iastore, 1) := by decide +kernel
theorem dX11_readAll_35 : decode cX11_readAll 35 = .ok (.aload_n 0, 1) := by decide +kernel
theorem dX11_readAll_36 : decode cX11_readAll 36 = .ok (.invokevirtual 173, 3) := by decide +kernel
theorem dX11_readAll_39 : decode cX11_readAll 39 = .ok (.aload_n 0, 1) := by decide +kernel
theorem dX11_readAll_40 : decode cX11_readAll 40 = .ok (.invokevirtual 176, 3) := by decide +kernel
theorem dX11_readAll_43 : decode cX11_readAll 43 = .ok (.aload_n 0, 1) := by decide +kernel
theorem dX11_readAll_44 : decode cX11_readAll 44 = .ok (.bipush 59, 2) := by decide +kernel
theorem dX11_readAll_46 : decode cX11_readAll 46 = .ok (.invokevirtual 179, 3) := by decide +kernel
theorem dX11_readAll_49 : decode cX11_readAll 49 = .ok (.ifCond .eq 14, 3) := by decide +kernel
theorem dX11_readAll_52 : decode cX11_readAll 52 = .ok (.aload_n 0, 1) := by decide +kernel
theorem dX11_readAll_53 : decode cX11_readAll 53 = .ok (.invokevirtual 173, 3) := by decide +kernel
theorem dX11_readAll_56 : decode cX11_readAll 56 = .ok (.aload_n 0, 1) := by decide +kernel
theorem dX11_readAll_57 : decode cX11_readAll 57 = .ok (.invokevirtual 176, 3) := by decide +kernel
theorem dX11_readAll_60 : decode cX11_readAll 60 = .ok (.goto (-17), 3) := by decide +kernel
theorem dX11_readAll_63 : decode cX11_readAll 63 = .ok (.aload_n 0, 1) := by decide +kernel
theorem dX11_readAll_64 : decode cX11_readAll 64 = .ok (.getfield 135, 3) := by decide +kernel
theorem dX11_readAll_67 : decode cX11_readAll 67 = .ok (.iconst 1, 1) := by decide +kernel
theorem dX11_readAll_68 : decode cX11_readAll 68 = .ok (.if_icmp .eq 8, 3) := by decide +kernel
theorem dX11_readAll_71 : decode cX11_readAll 71 = .ok (.aload_n 0, 1) := by decide +kernel
theorem dX11_readAll_72 : decode cX11_readAll 72 = .ok (.iconst 1, 1) := by decide +kernel
theorem dX11_readAll_73 : decode cX11_readAll 73 = .ok (.invokevirtual 183, 3) := by decide +kernel
theorem dX11_readAll_76 : decode cX11_readAll 76 = .ok (.aload_n 0, 1) := by decide +kernel
theorem dX11_readAll_77 : decode cX11_readAll 77 = .ok (.getfield 122, 3) := by decide +kernel
theorem dX11_readAll_80 : decode cX11_readAll 80 = .ok (.ifCond .ne 19, 3) := by decide +kernel
theorem dX11_readAll_83 : decode cX11_readAll 83 = .ok (.aload_n 0, 1) := by decide +kernel
theorem dX11_readAll_84 : decode cX11_readAll 84 = .ok (.getfield 40, 3) := by decide +kernel
theorem dX11_readAll_87 : decode cX11_readAll 87 = .ok (.iconst 1, 1) := by decide +kernel
theorem dX11_readAll_88 : decode cX11_readAll 88 = .ok (.iaload, 1) := by decide +kernel
theorem dX11_readAll_89 : decode cX11_readAll 89 = .ok (.iconst (-1), 1) := by decide +kernel
theorem dX11_readAll_90 : decode cX11_readAll 90 = .ok (.if_icmp .ne 9, 3) := by decide +kernel
theorem dX11_readAll_93 : decode cX11_readAll 93 = .ok (.aload_n 0, 1) := by decide +kernel
theorem dX11_readAll_94 : decode cX11_readAll 94 = .ok (.bipush 6, 2) := by decide +kernel
theorem dX11_readAll_96 : decode cX11_readAll 96 = .ok (.invokevirtual 183, 3) := by decide +kernel
theorem dX11_readAll_99 : decode cX11_readAll 99 = .ok (.return_, 1) := by decide +kernel
theorem dX11_readLine_0 : decode cX11_readLine 0 = .ok (.aload_n 0, 1) := by decide +kernel
theorem dX11_readLine_1 : decode cX11_readLine 1 = .ok (.ldc 186, 2) := by decide +kernel
theorem dX11_readLine_3 : decode cX11_readLine 3 = .ok (.invokevirtual 188, 3) := by decide +kernel
theorem dX11_readLine_6 : decode cX11_readLine 6 = .ok (.ifCond .eq 10, 3) := by decide +kernel
theorem dX11_readLine_9 : decode cX11_readLine 9 = .ok (.aload_n 0, 1) := by decide +kernel
theorem dX11_readLine_10 : decode cX11_readLine 10 = .ok (.invokevirtual 192, 3) := by decide +kernel
theorem dX11_readLine_13 : decode cX11_readLine 13 = .ok (.goto 56, 3) := by decide +kernel
theorem dX11_readLine_16 : decode cX11_readLine 16 = .ok (.aload_n 0, 1) := by decide +kernel
theorem dX11_readLine_17 : decode cX11_readLine 17 = .ok (.ldc 195, 2) := by decide +kernel
theorem dX11_readLine_19 : decode cX11_readLine 19 = .ok (.invokevirtual 188, 3) := by decide +kernel
theorem dX11_readLine_22 : decode cX11_readLine 22 = .ok (.ifCond .eq 10, 3) := by decide +kernel
theorem dX11_readLine_25 : decode cX11_readLine 25 = .ok (.aload_n 0, 1) := by decide +kernel
theorem dX11_readLine_26 : decode cX11_readLine 26 = .ok (.invokevirtual 197, 3) := by decide +kernel
theorem dX11_readLine_29 : decode cX11_readLine 29 = .ok (.goto 40, 3) := by decide +kernel
theorem dX11_readLine_32 : decode cX11_readLine 32 = .ok (.aload_n 0, 1) := by decide +kernel
theorem dX11_readLine_33 : decode cX11_readLine 33 = .ok (.ldc 200, 2) := by decide +kernel
theorem dX11_readLine_35 : decode cX11_readLine 35 = .ok (.invokevirtual 188, 3) := by decide +kernel
theorem dX11_readLine_38 : decode cX11_readLine 38 = .ok (.ifCond .eq 10, 3) := by decide +kernel
theorem dX11_readLine_41 : decode cX11_readLine 41 = .ok (.aload_n 0, 1) := by decide +kernel
theorem dX11_readLine_42 : decode cX11_readLine 42 = .ok (.invokevirtual 202, 3) := by decide +kernel
theorem dX11_readLine_45 : decode cX11_readLine 45 = .ok (.goto 24, 3) := by decide +kernel
theorem dX11_readLine_48 : decode cX11_readLine 48 = .ok (.aload_n 0, 1) := by decide +kernel
theorem dX11_readLine_49 : decode cX11_readLine 49 = .ok (.ldc 205, 2) := by decide +kernel
theorem dX11_readLine_51 : decode cX11_readLine 51 = .ok (.invokevirtual 188, 3) := by decide +kernel
theorem dX11_readLine_54 : decode cX11_readLine 54 = .ok (.ifCond .eq 10, 3) := by decide +kernel
theorem dX11_readLine_57 : decode cX11_readLine 57 = .ok (.aload_n 0, 1) := by decide +kernel
theorem dX11_readLine_58 : decode cX11_readLine 58 = .ok (.invokevirtual 207, 3) := by decide +kernel
theorem dX11_readLine_61 : decode cX11_readLine 61 = .ok (.goto 8, 3) := by decide +kernel
theorem dX11_readLine_64 : decode cX11_readLine 64 = .ok (.aload_n 0, 1) := by decide +kernel
theorem dX11_readLine_65 : decode cX11_readLine 65 = .ok (.iconst 1, 1) := by decide +kernel
theorem dX11_readLine_66 : decode cX11_readLine 66 = .ok (.invokevirtual 183, 3) := by decide +kernel
theorem dX11_readLine_69 : decode cX11_readLine 69 = .ok (.return_, 1) := by decide +kernel
theorem dX11_begins_0 : decode cX11_begins 0 = .ok (.iload_n 1, 1) := by decide +kernel
theorem dX11_begins_1 : decode cX11_begins 1 = .ok (.ifCond .eq 8, 3) := by decide +kernel
theorem dX11_begins_4 : decode cX11_begins 4 = .ok (.aload_n 0, 1) := by decide +kernel
theorem dX11_begins_5 : decode cX11_begins 5 = .ok (.iconst 5, 1) := by decide +kernel
theorem dX11_begins_6 : decode cX11_begins 6 = .ok (.invokevirtual 183, 3) := by decide +kernel
theorem dX11_begins_9 : decode cX11_begins 9 = .ok (.aload_n 0, 1) := by decide +kernel
theorem dX11_begins_10 : decode cX11_begins 10 = .ok (.invokevirtual 173, 3) := by decide +kernel
theorem dX11_begins_13 : decode cX11_begins 13 = .ok (.return_, 1) := by decide +kernel
theorem dX11_readState_0 : decode cX11_readState 0 = .ok (.aload_n 0, 1) := by decide +kernel
theorem dX11_readState_1 : decode cX11_readState 1 = .ok (.aload_n 0, 1) := by decide +kernel
theorem dX11_readState_2 : decode cX11_readState 2 = .ok (.getfield 40, 3) := by decide +kernel
theorem dX11_readState_5 : decode cX11_readState 5 = .ok (.iconst 0, 1) := by decide +kernel
theorem dX11_readState_6 : decode cX11_readState 6 = .ok (.iaload, 1) := by decide +kernel
theorem dX11_readState_7 : decode cX11_readState 7 = .ok (.bipush 6, 2) := by decide +kernel
theorem dX11_readState_9 : decode cX11_readState 9 = .ok (.if_icmp .ne 7, 3) := by decide +kernel
theorem dX11_readState_12 : decode cX11_readState 12 = .ok (.iconst 1, 1) := by decide +kernel
theorem dX11_readState_13 : decode cX11_readState 13 = .ok (.goto 4, 3) := by decide +kernel
theorem dX11_readState_16 : decode cX11_readState 16 = .ok (.iconst 0, 1) := by decide +kernel
theorem dX11_readState_17 : decode cX11_readState 17 = .ok (.invokevirtual 210, 3) := by decide +kernel
theorem dX11_readState_20 : decode cX11_readState 20 = .ok (.aload_n 0, 1) := by decide +kernel
theorem dX11_readState_21 : decode cX11_readState 21 = .ok (.getfield 135, 3) := by decide +kernel
theorem dX11_readState_24 : decode cX11_readState 24 = .ok (.iconst 3, 1) := by decide +kernel
theorem dX11_readState_25 : decode cX11_readState 25 = .ok (.if_icmp .eq 11, 3) := by decide +kernel
theorem dX11_readState_28 : decode cX11_readState 28 = .ok (.aload_n 0, 1) := by decide +kernel
theorem dX11_readState_29 : decode cX11_readState 29 = .ok (.iconst 1, 1) := by decide +kernel
theorem dX11_readState_30 : decode cX11_readState 30 = .ok (.invokevirtual 183, 3) := by decide +kernel
theorem dX11_readState_33 : decode cX11_readState 33 = .ok (.goto 16, 3) := by decide +kernel
theorem dX11_readState_36 : decode cX11_readState 36 = .ok (.aload_n 0, 1) := by decide +kernel
theorem dX11_readState_37 : decode cX11_readState 37 = .ok (.getfield 156, 3) := by decide +kernel
theorem dX11_readState_40 : decode cX11_readState 40 = .ok (.iconst 4, 1) := by decide +kernel
theorem dX11_readState_41 : decode cX11_readState 41 = .ok (.if_icmp .lt 8, 3) := by decide +kernel
theorem dX11_readState_44 : decode cX11_readState 44 = .ok (.aload_n 0, 1) := by decide +kernel
theorem dX11_readState_45 : decode cX11_readState 45 = .ok (.iconst 4, 1) := by decide +kernel
theorem dX11_readState_46 : decode cX11_readState 46 = .ok (.invokevirtual 183, 3) := by decide +kernel
theorem dX11_readState_49 : decode cX11_readState 49 = .ok (.aload_n 0, 1) := by decide +kernel
theorem dX11_readState_50 : decode cX11_readState 50 = .ok (.getfield 122, 3) := by decide +kernel
theorem dX11_readState_53 : decode cX11_readState 53 = .ok (.ifCond .le 4, 3) := by decide +kernel
theorem dX11_readState_56 : decode cX11_readState 56 = .ok (.return_, 1) := by decide +kernel
theorem dX11_readState_57 : decode cX11_readState 57 = .ok (.aload_n 0, 1) := by decide +kernel
theorem dX11_readState_58 : decode cX11_readState 58 = .ok (.getfield 34, 3) := by decide +kernel
theorem dX11_readState_61 : decode cX11_readState 61 = .ok (.aload_n 0, 1) := by decide +kernel
theorem dX11_readState_62 : decode cX11_readState 62 = .ok (.getfield 40, 3) := by decide +kernel
theorem dX11_readState_65 : decode cX11_readState 65 = .ok (.iconst 0, 1) := by decide +kernel
theorem dX11_readState_66 : decode cX11_readState 66 = .ok (.iaload, 1) := by decide +kernel
theorem dX11_readState_67 : decode cX11_readState 67 = .ok (.aload_n 0, 1) := by decide +kernel
theorem dX11_readState_68 : decode cX11_readState 68 = .ok (.getfield 156, 3) := by decide +kernel
theorem dX11_readState_71 : decode cX11_readState 71 = .ok (.iastore, 1) := by decide +kernel
theorem dX11_readState_72 : decode cX11_readState 72 = .ok (.aload_n 0, 1) := by decide +kernel
theorem dX11_readState_73 : decode cX11_readState 73 = .ok (.getfield 40, 3) := by decide +kernel
theorem dX11_readState_76 : decode cX11_readState 76 = .ok (.iconst 0, 1) := by decide +kernel
theorem dX11_readState_77 : decode cX11_readState 77 = .ok (.dup2, 1) := by decide +kernel
theorem dX11_readState_78 : decode cX11_readState 78 = .ok (.iaload, 1) := by decide +kernel
theorem dX11_readState_79 : decode cX11_readState 79 = .ok (.iconst 1, 1) := by decide +kernel
theorem dX11_readState_80 : decode cX11_readState 80 = .ok (.iadd, 1) := by decide +kernel
theorem dX11_readState_81 : decode cX11_readState 81 = .ok (.iastore, 1) := by decide +kernel
theorem dX11_readState_82 : decode cX11_readState 82 = .ok (.aload_n 0, 1) := by decide +kernel
theorem dX11_readState_83 : decode cX11_readState 83 = .ok (.invokevirtual 173, 3) := by decide +kernel
theorem dX11_readState_86 : decode cX11_readState 86 = .ok (.return_, 1) := by decide +kernel
theorem dX11_stateAt_0 : decode cX11_stateAt 0 = .ok (.aload_n 0, 1) := by decide +kernel
theorem dX11_stateAt_1 : decode cX11_stateAt 1 = .ok (.getfield 135, 3) := by decide +kernel
theorem dX11_stateAt_4 : decode cX11_stateAt 4 = .ok (.iconst 3, 1) := by decide +kernel
theorem dX11_stateAt_5 : decode cX11_stateAt 5 = .ok (.if_icmp .eq 11, 3) := by decide +kernel
theorem dX11_stateAt_8 : decode cX11_stateAt 8 = .ok (.aload_n 0, 1) := by decide +kernel
theorem dX11_stateAt_9 : decode cX11_stateAt 9 = .ok (.iconst 1, 1) := by decide +kernel
theorem dX11_stateAt_10 : decode cX11_stateAt 10 = .ok (.invokevirtual 183, 3) := by decide +kernel
theorem dX11_stateAt_13 : decode cX11_stateAt 13 = .ok (.goto 21, 3) := by decide +kernel
theorem dX11_stateAt_16 : decode cX11_stateAt 16 = .ok (.aload_n 0, 1) := by decide +kernel
theorem dX11_stateAt_17 : decode cX11_stateAt 17 = .ok (.getfield 156, 3) := by decide +kernel
theorem dX11_stateAt_20 : decode cX11_stateAt 20 = .ok (.aload_n 0, 1) := by decide +kernel
theorem dX11_stateAt_21 : decode cX11_stateAt 21 = .ok (.getfield 40, 3) := by decide +kernel
theorem dX11_stateAt_24 : decode cX11_stateAt 24 = .ok (.iconst 0, 1) := by decide +kernel
theorem dX11_stateAt_25 : decode cX11_stateAt 25 = .ok (.iaload, 1) := by decide +kernel
theorem dX11_stateAt_26 : decode cX11_stateAt 26 = .ok (.if_icmp .lt 8, 3) := by decide +kernel
theorem dX11_stateAt_29 : decode cX11_stateAt 29 = .ok (.aload_n 0, 1) := by decide +kernel
theorem dX11_stateAt_30 : decode cX11_stateAt 30 = .ok (.iconst 2, 1) := by decide +kernel
theorem dX11_stateAt_31 : decode cX11_stateAt 31 = .ok (.invokevirtual 183, 3) := by decide +kernel
theorem dX11_stateAt_34 : decode cX11_stateAt 34 = .ok (.aload_n 0, 1) := by decide +kernel
theorem dX11_stateAt_35 : decode cX11_stateAt 35 = .ok (.getfield 156, 3) := by decide +kernel
theorem dX11_stateAt_38 : decode cX11_stateAt 38 = .ok (.istore_n 1, 1) := by decide +kernel
theorem dX11_stateAt_39 : decode cX11_stateAt 39 = .ok (.aload_n 0, 1) := by decide +kernel
theorem dX11_stateAt_40 : decode cX11_stateAt 40 = .ok (.invokevirtual 173, 3) := by decide +kernel
theorem dX11_stateAt_43 : decode cX11_stateAt 43 = .ok (.iload_n 1, 1) := by decide +kernel
theorem dX11_stateAt_44 : decode cX11_stateAt 44 = .ok (.ireturn, 1) := by decide +kernel
theorem dX11_readBegin_0 : decode cX11_readBegin 0 = .ok (.aload_n 0, 1) := by decide +kernel
theorem dX11_readBegin_1 : decode cX11_readBegin 1 = .ok (.getfield 40, 3) := by decide +kernel
theorem dX11_readBegin_4 : decode cX11_readBegin 4 = .ok (.iconst 1, 1) := by decide +kernel
theorem dX11_readBegin_5 : decode cX11_readBegin 5 = .ok (.iaload, 1) := by decide +kernel
theorem dX11_readBegin_6 : decode cX11_readBegin 6 = .ok (.iconst (-1), 1) := by decide +kernel
theorem dX11_readBegin_7 : decode cX11_readBegin 7 = .ok (.if_icmp .eq 8, 3) := by decide +kernel
theorem dX11_readBegin_10 : decode cX11_readBegin 10 = .ok (.aload_n 0, 1) := by decide +kernel
theorem dX11_readBegin_11 : decode cX11_readBegin 11 = .ok (.iconst 3, 1) := by decide +kernel
theorem dX11_readBegin_12 : decode cX11_readBegin 12 = .ok (.invokevirtual 183, 3) := by decide +kernel
theorem dX11_readBegin_15 : decode cX11_readBegin 15 = .ok (.aload_n 0, 1) := by decide +kernel
theorem dX11_readBegin_16 : decode cX11_readBegin 16 = .ok (.invokevirtual 173, 3) := by decide +kernel
theorem dX11_readBegin_19 : decode cX11_readBegin 19 = .ok (.aload_n 0, 1) := by decide +kernel
theorem dX11_readBegin_20 : decode cX11_readBegin 20 = .ok (.invokevirtual 214, 3) := by decide +kernel
theorem dX11_readBegin_23 : decode cX11_readBegin 23 = .ok (.istore_n 1, 1) := by decide +kernel
theorem dX11_readBegin_24 : decode cX11_readBegin 24 = .ok (.aload_n 0, 1) := by decide +kernel
theorem dX11_readBegin_25 : decode cX11_readBegin 25 = .ok (.iconst 1, 1) := by decide +kernel
theorem dX11_readBegin_26 : decode cX11_readBegin 26 = .ok (.invokevirtual 217, 3) := by decide +kernel
theorem dX11_readBegin_29 : decode cX11_readBegin 29 = .ok (.istore_n 2, 1) := by decide +kernel
theorem dX11_readBegin_30 : decode cX11_readBegin 30 = .ok (.aload_n 0, 1) := by decide +kernel
theorem dX11_readBegin_31 : decode cX11_readBegin 31 = .ok (.invokevirtual 221, 3) := by decide +kernel
theorem dX11_readBegin_34 : decode cX11_readBegin 34 = .ok (.aload_n 0, 1) := by decide +kernel
theorem dX11_readBegin_35 : decode cX11_readBegin 35 = .ok (.iconst 0, 1) := by decide +kernel
theorem dX11_readBegin_36 : decode cX11_readBegin 36 = .ok (.invokevirtual 217, 3) := by decide +kernel
theorem dX11_readBegin_39 : decode cX11_readBegin 39 = .ok (.istore_n 3, 1) := by decide +kernel
theorem dX11_readBegin_40 : decode cX11_readBegin 40 = .ok (.aload_n 0, 1) := by decide +kernel
theorem dX11_readBegin_41 : decode cX11_readBegin 41 = .ok (.getfield 122, 3) := by decide +kernel
theorem dX11_readBegin_44 : decode cX11_readBegin 44 = .ok (.ifCond .le 4, 3) := by decide +kernel
theorem dX11_readBegin_47 : decode cX11_readBegin 47 = .ok (.return_, 1) := by decide +kernel
theorem dX11_readBegin_48 : decode cX11_readBegin 48 = .ok (.aload_n 0, 1) := by decide +kernel
theorem dX11_readBegin_49 : decode cX11_readBegin 49 = .ok (.getfield 40, 3) := by decide +kernel
theorem dX11_readBegin_52 : decode cX11_readBegin 52 = .ok (.iconst 1, 1) := by decide +kernel
theorem dX11_readBegin_53 : decode cX11_readBegin 53 = .ok (.iload_n 1, 1) := by decide +kernel
theorem dX11_readBegin_54 : decode cX11_readBegin 54 = .ok (.iastore, 1) := by decide +kernel
theorem dX11_readBegin_55 : decode cX11_readBegin 55 = .ok (.aload_n 0, 1) := by decide +kernel
theorem dX11_readBegin_56 : decode cX11_readBegin 56 = .ok (.getfield 40, 3) := by decide +kernel
theorem dX11_readBegin_59 : decode cX11_readBegin 59 = .ok (.iconst 2, 1) := by decide +kernel
theorem dX11_readBegin_60 : decode cX11_readBegin 60 = .ok (.iload_n 2, 1) := by decide +kernel
theorem dX11_readBegin_61 : decode cX11_readBegin 61 = .ok (.iastore, 1) := by decide +kernel
theorem dX11_readBegin_62 : decode cX11_readBegin 62 = .ok (.aload_n 0, 1) := by decide +kernel
theorem dX11_readBegin_63 : decode cX11_readBegin 63 = .ok (.getfield 40, 3) := by decide +kernel
theorem dX11_readBegin_66 : decode cX11_readBegin 66 = .ok (.iconst 3, 1) := by decide +kernel
theorem dX11_readBegin_67 : decode cX11_readBegin 67 = .ok (.iload_n 3, 1) := by decide +kernel
theorem dX11_readBegin_68 : decode cX11_readBegin 68 = .ok (.iastore, 1) := by decide +kernel
theorem dX11_readBegin_69 : decode cX11_readBegin 69 = .ok (.return_, 1) := by decide +kernel
theorem dX11_readSlash_0 : decode cX11_readSlash 0 = .ok (.aload_n 0, 1) := by decide +kernel
theorem dX11_readSlash_1 : decode cX11_readSlash 1 = .ok (.bipush 47, 2) := by decide +kernel
theorem dX11_readSlash_3 : decode cX11_readSlash 3 = .ok (.invokevirtual 179, 3) := by decide +kernel
theorem dX11_readSlash_6 : decode cX11_readSlash 6 = .ok (.ifCond .ne 8, 3) := by decide +kernel
theorem dX11_readSlash_9 : decode cX11_readSlash 9 = .ok (.aload_n 0, 1) := by decide +kernel
theorem dX11_readSlash_10 : decode cX11_readSlash 10 = .ok (.iconst 1, 1) := by decide +kernel
theorem dX11_readSlash_11 : decode cX11_readSlash 11 = .ok (.invokevirtual 183, 3) := by decide +kernel
theorem dX11_readSlash_14 : decode cX11_readSlash 14 = .ok (.aload_n 0, 1) := by decide +kernel
theorem dX11_readSlash_15 : decode cX11_readSlash 15 = .ok (.invokevirtual 173, 3) := by decide +kernel
theorem dX11_readSlash_18 : decode cX11_readSlash 18 = .ok (.return_, 1) := by decide +kernel
theorem dX11_readLetters_0 : decode cX11_readLetters 0 = .ok (.iconst 0, 1) := by decide +kernel
theorem dX11_readLetters_1 : decode cX11_readLetters 1 = .ok (.istore_n 2, 1) := by decide +kernel
theorem dX11_readLetters_2 : decode cX11_readLetters 2 = .ok (.iload_n 1, 1) := by decide +kernel
theorem dX11_readLetters_3 : decode cX11_readLetters 3 = .ok (.ifCond .eq 10, 3) := by decide +kernel
theorem dX11_readLetters_6 : decode cX11_readLetters 6 = .ok (.aload_n 0, 1) := by decide +kernel
theorem dX11_readLetters_7 : decode cX11_readLetters 7 = .ok (.invokevirtual 224, 3) := by decide +kernel
theorem dX11_readLetters_10 : decode cX11_readLetters 10 = .ok (.goto 7, 3) := by decide +kernel
theorem dX11_readLetters_13 : decode cX11_readLetters 13 = .ok (.aload_n 0, 1) := by decide +kernel
theorem dX11_readLetters_14 : decode cX11_readLetters 14 = .ok (.invokevirtual 227, 3) := by decide +kernel
theorem dX11_readLetters_17 : decode cX11_readLetters 17 = .ok (.istore_n 3, 1) := by decide +kernel
theorem dX11_readLetters_18 : decode cX11_readLetters 18 = .ok (.iload_n 3, 1) := by decide +kernel
theorem dX11_readLetters_19 : decode cX11_readLetters 19 = .ok (.iconst (-1), 1) := by decide +kernel
theorem dX11_readLetters_20 : decode cX11_readLetters 20 = .ok (.if_icmp .eq 45, 3) := by decide +kernel
theorem dX11_readLetters_23 : decode cX11_readLetters 23 = .ok (.iload_n 2, 1) := by decide +kernel
theorem dX11_readLetters_24 : decode cX11_readLetters 24 = .ok (.iload_n 3, 1) := by decide +kernel
theorem dX11_readLetters_25 : decode cX11_readLetters 25 = .ok (.invokestatic 114, 3) := by decide +kernel
theorem dX11_readLetters_28 : decode cX11_readLetters 28 = .ok (.ifCond .eq 8, 3) := by decide +kernel
theorem dX11_readLetters_31 : decode cX11_readLetters 31 = .ok (.aload_n 0, 1) := by decide +kernel
theorem dX11_readLetters_32 : decode cX11_readLetters 32 = .ok (.iconst 3, 1) := by decide +kernel
theorem dX11_readLetters_33 : decode cX11_readLetters 33 = .ok (.invokevirtual 183, 3) := by decide +kernel
theorem dX11_readLetters_36 : decode cX11_readLetters 36 = .ok (.iload_n 2, 1) := by decide +kernel
theorem dX11_readLetters_37 : decode cX11_readLetters 37 = .ok (.iconst 1, 1) := by decide +kernel
theorem dX11_readLetters_38 : decode cX11_readLetters 38 = .ok (.iload_n 3, 1) := by decide +kernel
theorem dX11_readLetters_39 : decode cX11_readLetters 39 = .ok (.ishl, 1) := by decide +kernel
theorem dX11_readLetters_40 : decode cX11_readLetters 40 = .ok (.ior, 1) := by decide +kernel
theorem dX11_readLetters_41 : decode cX11_readLetters 41 = .ok (.istore_n 2, 1) := by decide +kernel
theorem dX11_readLetters_42 : decode cX11_readLetters 42 = .ok (.aload_n 0, 1) := by decide +kernel
theorem dX11_readLetters_43 : decode cX11_readLetters 43 = .ok (.invokevirtual 173, 3) := by decide +kernel
theorem dX11_readLetters_46 : decode cX11_readLetters 46 = .ok (.iload_n 1, 1) := by decide +kernel
theorem dX11_readLetters_47 : decode cX11_readLetters 47 = .ok (.ifCond .eq 10, 3) := by decide +kernel
theorem dX11_readLetters_50 : decode cX11_readLetters 50 = .ok (.aload_n 0, 1) := by decide +kernel
theorem dX11_readLetters_51 : decode cX11_readLetters 51 = .ok (.invokevirtual 224, 3) := by decide +kernel
theorem dX11_readLetters_54 : decode cX11_readLetters 54 = .ok (.goto 7, 3) := by decide +kernel
theorem dX11_readLetters_57 : decode cX11_readLetters 57 = .ok (.aload_n 0, 1) := by decide +kernel
theorem dX11_readLetters_58 : decode cX11_readLetters 58 = .ok (.invokevirtual 227, 3) := by decide +kernel
theorem dX11_readLetters_61 : decode cX11_readLetters 61 = .ok (.istore_n 3, 1) := by decide +kernel
theorem dX11_readLetters_62 : decode cX11_readLetters 62 = .ok (.goto (-44), 3) := by decide +kernel
theorem dX11_readLetters_65 : decode cX11_readLetters 65 = .ok (.iload_n 2, 1) := by decide +kernel
theorem dX11_readLetters_66 : decode cX11_readLetters 66 = .ok (.ireturn, 1) := by decide +kernel
theorem dX11_readChanges_0 : decode cX11_readChanges 0 = .ok (.aload_n 0, 1) := by decide +kernel
theorem dX11_readChanges_1 : decode cX11_readChanges 1 = .ok (.iconst 0, 1) := by decide +kernel
theorem dX11_readChanges_2 : decode cX11_readChanges 2 = .ok (.putfield 230, 3) := by decide +kernel
theorem dX11_readChanges_5 : decode cX11_readChanges 5 = .ok (.aload_n 0, 1) := by decide +kernel
theorem dX11_readChanges_6 : decode cX11_readChanges 6 = .ok (.iconst 0, 1) := by decide +kernel
theorem dX11_readChanges_7 : decode cX11_readChanges 7 = .ok (.putfield 233, 3) := by decide +kernel
theorem dX11_readChanges_10 : decode cX11_readChanges 10 = .ok (.iload_n 1, 1) := by decide +kernel
theorem dX11_readChanges_11 : decode cX11_readChanges 11 = .ok (.ifCond .eq 10, 3) := by decide +kernel
theorem dX11_readChanges_14 : decode cX11_readChanges 14 = .ok (.aload_n 0, 1) := by decide +kernel
theorem dX11_readChanges_15 : decode cX11_readChanges 15 = .ok (.invokevirtual 224, 3) := by decide +kernel
theorem dX11_readChanges_18 : decode cX11_readChanges 18 = .ok (.goto 7, 3) := by decide +kernel
theorem dX11_readChanges_21 : decode cX11_readChanges 21 = .ok (.aload_n 0, 1) := by decide +kernel
theorem dX11_readChanges_22 : decode cX11_readChanges 22 = .ok (.invokevirtual 227, 3) := by decide +kernel
theorem dX11_readChanges_25 : decode cX11_readChanges 25 = .ok (.istore_n 2, 1) := by decide +kernel
theorem dX11_readChanges_26 : decode cX11_readChanges 26 = .ok (.iload_n 1, 1) := by decide +kernel
theorem dX11_readChanges_27 : decode cX11_readChanges 27 = .ok (.ifCond .eq 13, 3) := by decide +kernel
theorem dX11_readChanges_30 : decode cX11_readChanges 30 = .ok (.iload_n 2, 1) := by decide +kernel
theorem dX11_readChanges_31 : decode cX11_readChanges 31 = .ok (.iconst (-1), 1) := by decide +kernel
theorem dX11_readChanges_32 : decode cX11_readChanges 32 = .ok (.if_icmp .ne 8, 3) := by decide +kernel
theorem dX11_readChanges_35 : decode cX11_readChanges 35 = .ok (.aload_n 0, 1) := by decide +kernel
theorem dX11_readChanges_36 : decode cX11_readChanges 36 = .ok (.iconst 1, 1) := by decide +kernel
theorem dX11_readChanges_37 : decode cX11_readChanges 37 = .ok (.invokevirtual 183, 3) := by decide +kernel
theorem dX11_readChanges_40 : decode cX11_readChanges 40 = .ok (.iload_n 2, 1) := by decide +kernel
theorem dX11_readChanges_41 : decode cX11_readChanges 41 = .ok (.iconst (-1), 1) := by decide +kernel
theorem dX11_readChanges_42 : decode cX11_readChanges 42 = .ok (.if_icmp .eq 104, 3) := by decide +kernel
theorem dX11_readChanges_45 : decode cX11_readChanges 45 = .ok (.aload_n 0, 1) := by decide +kernel
theorem dX11_readChanges_46 : decode cX11_readChanges 46 = .ok (.getfield 230, 3) := by decide +kernel
theorem dX11_readChanges_49 : decode cX11_readChanges 49 = .ok (.aload_n 0, 1) := by decide +kernel
theorem dX11_readChanges_50 : decode cX11_readChanges 50 = .ok (.getfield 233, 3) := by decide +kernel
theorem dX11_readChanges_53 : decode cX11_readChanges 53 = .ok (.ior, 1) := by decide +kernel
theorem dX11_readChanges_54 : decode cX11_readChanges 54 = .ok (.iload_n 2, 1) := by decide +kernel
theorem dX11_readChanges_55 : decode cX11_readChanges 55 = .ok (.invokestatic 114, 3) := by decide +kernel
theorem dX11_readChanges_58 : decode cX11_readChanges 58 = .ok (.ifCond .eq 8, 3) := by decide +kernel
theorem dX11_readChanges_61 : decode cX11_readChanges 61 = .ok (.aload_n 0, 1) := by decide +kernel
theorem dX11_readChanges_62 : decode cX11_readChanges 62 = .ok (.iconst 3, 1) := by decide +kernel
theorem dX11_readChanges_63 : decode cX11_readChanges 63 = .ok (.invokevirtual 183, 3) := by decide +kernel
theorem dX11_readChanges_66 : decode cX11_readChanges 66 = .ok (.aload_n 0, 1) := by decide +kernel
theorem dX11_readChanges_67 : decode cX11_readChanges 67 = .ok (.invokevirtual 173, 3) := by decide +kernel
theorem dX11_readChanges_70 : decode cX11_readChanges 70 = .ok (.aload_n 0, 1) := by decide +kernel
theorem dX11_readChanges_71 : decode cX11_readChanges 71 = .ok (.bipush 43, 2) := by decide +kernel
theorem dX11_readChanges_73 : decode cX11_readChanges 73 = .ok (.invokevirtual 179, 3) := by decide +kernel
theorem dX11_readChanges_76 : decode cX11_readChanges 76 = .ok (.ifCond .eq 18, 3) := by decide +kernel
theorem dX11_readChanges_79 : decode cX11_readChanges 79 = .ok (.aload_n 0, 1) := by decide +kernel
theorem dX11_readChanges_80 : decode cX11_readChanges 80 = .ok (.dup, 1) := by decide +kernel
theorem dX11_readChanges_81 : decode cX11_readChanges 81 = .ok (.getfield 230, 3) := by decide +kernel
theorem dX11_readChanges_84 : decode cX11_readChanges 84 = .ok (.iconst 1, 1) := by decide +kernel
theorem dX11_readChanges_85 : decode cX11_readChanges 85 = .ok (.iload_n 2, 1) := by decide +kernel
theorem dX11_readChanges_86 : decode cX11_readChanges 86 = .ok (.ishl, 1) := by decide +kernel
theorem dX11_readChanges_87 : decode cX11_readChanges 87 = .ok (.ior, 1) := by decide +kernel
theorem dX11_readChanges_88 : decode cX11_readChanges 88 = .ok (.putfield 230, 3) := by decide +kernel
theorem dX11_readChanges_91 : decode cX11_readChanges 91 = .ok (.goto 32, 3) := by decide +kernel
theorem dX11_readChanges_94 : decode cX11_readChanges 94 = .ok (.aload_n 0, 1) := by decide +kernel
theorem dX11_readChanges_95 : decode cX11_readChanges 95 = .ok (.bipush 45, 2) := by decide +kernel
theorem dX11_readChanges_97 : decode cX11_readChanges 97 = .ok (.invokevirtual 179, 3) := by decide +kernel
theorem dX11_readChanges_100 : decode cX11_readChanges 100 = .ok (.ifCond .eq 18, 3) := by decide +kernel
theorem dX11_readChanges_103 : decode cX11_readChanges 103 = .ok (.aload_n 0, 1) := by decide +kernel
theorem dX11_readChanges_104 : decode cX11_readChanges 104 = .ok (.dup, 1) := by decide +kernel
theorem dX11_readChanges_105 : decode cX11_readChanges 105 = .ok (.getfield 233, 3) := by decide +kernel
theorem dX11_readChanges_108 : decode cX11_readChanges 108 = .ok (.iconst 1, 1) := by decide +kernel
theorem dX11_readChanges_109 : decode cX11_readChanges 109 = .ok (.iload_n 2, 1) := by decide +kernel
theorem dX11_readChanges_110 : decode cX11_readChanges 110 = .ok (.ishl, 1) := by decide +kernel
theorem dX11_readChanges_111 : decode cX11_readChanges 111 = .ok (.ior, 1) := by decide +kernel
theorem dX11_readChanges_112 : decode cX11_readChanges 112 = .ok (.putfield 233, 3) := by decide +kernel
theorem dX11_readChanges_115 : decode cX11_readChanges 115 = .ok (.goto 8, 3) := by decide +kernel
theorem dX11_readChanges_118 : decode cX11_readChanges 118 = .ok (.aload_n 0, 1) := by decide +kernel
theorem dX11_readChanges_119 : decode cX11_readChanges 119 = .ok (.iconst 1, 1) := by decide +kernel
theorem dX11_readChanges_120 : decode cX11_readChanges 120 = .ok (.invokevirtual 183, 3) := by decide +kernel
theorem dX11_readChanges_123 : decode cX11_readChanges 123 = .ok (.aload_n 0, 1) := by decide +kernel
theorem dX11_readChanges_124 : decode cX11_readChanges 124 = .ok (.invokevirtual 173, 3) := by decide +kernel
theorem dX11_readChanges_127 : decode cX11_readChanges 127 = .ok (.iload_n 1, 1) := by decide +kernel
theorem dX11_readChanges_128 : decode cX11_readChanges 128 = .ok (.ifCond .eq 10, 3) := by decide +kernel
theorem dX11_readChanges_131 : decode cX11_readChanges 131 = .ok (.aload_n 0, 1) := by decide +kernel
theorem dX11_readChanges_132 : decode cX11_readChanges 132 = .ok (.invokevirtual 224, 3) := by decide +kernel
theorem dX11_readChanges_135 : decode cX11_readChanges 135 = .ok (.goto 7, 3) := by decide +kernel
theorem dX11_readChanges_138 : decode cX11_readChanges 138 = .ok (.aload_n 0, 1) := by decide +kernel
theorem dX11_readChanges_139 : decode cX11_readChanges 139 = .ok (.invokevirtual 227, 3) := by decide +kernel
theorem dX11_readChanges_142 : decode cX11_readChanges 142 = .ok (.istore_n 2, 1) := by decide +kernel
theorem dX11_readChanges_143 : decode cX11_readChanges 143 = .ok (.goto (-103), 3) := by decide +kernel
theorem dX11_readChanges_146 : decode cX11_readChanges 146 = .ok (.return_, 1) := by decide +kernel
theorem dX11_readArc_0 : decode cX11_readArc 0 = .ok (.aload_n 0, 1) := by decide +kernel
theorem dX11_readArc_1 : decode cX11_readArc 1 = .ok (.aload_n 0, 1) := by decide +kernel
theorem dX11_readArc_2 : decode cX11_readArc 2 = .ok (.getfield 34, 3) := by decide +kernel
theorem dX11_readArc_5 : decode cX11_readArc 5 = .ok (.bipush 6, 2) := by decide +kernel
theorem dX11_readArc_7 : decode cX11_readArc 7 = .ok (.iaload, 1) := by decide +kernel
theorem dX11_readArc_8 : decode cX11_readArc 8 = .ok (.bipush 8, 2) := by decide +kernel
theorem dX11_readArc_10 : decode cX11_readArc 10 = .ok (.if_icmp .ne 7, 3) := by decide +kernel
theorem dX11_readArc_13 : decode cX11_readArc 13 = .ok (.iconst 1, 1) := by decide +kernel
theorem dX11_readArc_14 : decode cX11_readArc 14 = .ok (.goto 4, 3) := by decide +kernel
theorem dX11_readArc_17 : decode cX11_readArc 17 = .ok (.iconst 0, 1) := by decide +kernel
theorem dX11_readArc_18 : decode cX11_readArc 18 = .ok (.invokevirtual 210, 3) := by decide +kernel
theorem dX11_readArc_21 : decode cX11_readArc 21 = .ok (.bipush 7, 2) := by decide +kernel
theorem dX11_readArc_23 : decode cX11_readArc 23 = .ok (.bipush 6, 2) := by decide +kernel
theorem dX11_readArc_25 : decode cX11_readArc 25 = .ok (.aload_n 0, 1) := by decide +kernel
theorem dX11_readArc_26 : decode cX11_readArc 26 = .ok (.getfield 34, 3) := by decide +kernel
theorem dX11_readArc_29 : decode cX11_readArc 29 = .ok (.bipush 6, 2) := by decide +kernel
theorem dX11_readArc_31 : decode cX11_readArc 31 = .ok (.iaload, 1) := by decide +kernel
theorem dX11_readArc_32 : decode cX11_readArc 32 = .ok (.imul, 1) := by decide +kernel
theorem dX11_readArc_33 : decode cX11_readArc 33 = .ok (.iadd, 1) := by decide +kernel
theorem dX11_readArc_34 : decode cX11_readArc 34 = .ok (.istore_n 1, 1) := by decide +kernel
theorem dX11_readArc_35 : decode cX11_readArc 35 = .ok (.aload_n 0, 1) := by decide +kernel
theorem dX11_readArc_36 : decode cX11_readArc 36 = .ok (.invokevirtual 214, 3) := by decide +kernel
theorem dX11_readArc_39 : decode cX11_readArc 39 = .ok (.istore_n 2, 1) := by decide +kernel
theorem dX11_readArc_40 : decode cX11_readArc 40 = .ok (.aload_n 0, 1) := by decide +kernel
theorem dX11_readArc_41 : decode cX11_readArc 41 = .ok (.invokevirtual 214, 3) := by decide +kernel
theorem dX11_readArc_44 : decode cX11_readArc 44 = .ok (.istore_n 3, 1) := by decide +kernel
theorem dX11_readArc_45 : decode cX11_readArc 45 = .ok (.aload_n 0, 1) := by decide +kernel
theorem dX11_readArc_46 : decode cX11_readArc 46 = .ok (.iconst 1, 1) := by decide +kernel
theorem dX11_readArc_47 : decode cX11_readArc 47 = .ok (.invokevirtual 236, 3) := by decide +kernel
theorem dX11_readArc_50 : decode cX11_readArc 50 = .ok (.aload_n 0, 1) := by decide +kernel
theorem dX11_readArc_51 : decode cX11_readArc 51 = .ok (.getfield 230, 3) := by decide +kernel
theorem dX11_readArc_54 : decode cX11_readArc 54 = .ok (.istore 4, 2) := by decide +kernel
theorem dX11_readArc_56 : decode cX11_readArc 56 = .ok (.aload_n 0, 1) := by decide +kernel
theorem dX11_readArc_57 : decode cX11_readArc 57 = .ok (.getfield 233, 3) := by decide +kernel
theorem dX11_readArc_60 : decode cX11_readArc 60 = .ok (.istore 5, 2) := by decide +kernel
theorem dX11_readArc_62 : decode cX11_readArc 62 = .ok (.aload_n 0, 1) := by decide +kernel
theorem dX11_readArc_63 : decode cX11_readArc 63 = .ok (.invokevirtual 221, 3) := by decide +kernel
theorem dX11_readArc_66 : decode cX11_readArc 66 = .ok (.aload_n 0, 1) := by decide +kernel
theorem dX11_readArc_67 : decode cX11_readArc 67 = .ok (.iconst 0, 1) := by decide +kernel
theorem dX11_readArc_68 : decode cX11_readArc 68 = .ok (.invokevirtual 236, 3) := by decide +kernel
theorem dX11_readArc_71 : decode cX11_readArc 71 = .ok (.aload_n 0, 1) := by decide +kernel
theorem dX11_readArc_72 : decode cX11_readArc 72 = .ok (.getfield 122, 3) := by decide +kernel
theorem dX11_readArc_75 : decode cX11_readArc 75 = .ok (.ifCond .le 4, 3) := by decide +kernel
theorem dX11_readArc_78 : decode cX11_readArc 78 = .ok (.return_, 1) := by decide +kernel
theorem dX11_readArc_79 : decode cX11_readArc 79 = .ok (.aload_n 0, 1) := by decide +kernel
theorem dX11_readArc_80 : decode cX11_readArc 80 = .ok (.getfield 34, 3) := by decide +kernel
theorem dX11_readArc_83 : decode cX11_readArc 83 = .ok (.iload_n 1, 1) := by decide +kernel
theorem dX11_readArc_84 : decode cX11_readArc 84 = .ok (.iconst 0, 1) := by decide +kernel
theorem dX11_readArc_85 : decode cX11_readArc 85 = .ok (.iadd, 1) := by decide +kernel
theorem dX11_readArc_86 : decode cX11_readArc 86 = .ok (.iload_n 2, 1) := by decide +kernel
theorem dX11_readArc_87 : decode cX11_readArc 87 = .ok (.iastore, 1) := by decide +kernel
theorem dX11_readArc_88 : decode cX11_readArc 88 = .ok (.aload_n 0, 1) := by decide +kernel
theorem dX11_readArc_89 : decode cX11_readArc 89 = .ok (.getfield 34, 3) := by decide +kernel
theorem dX11_readArc_92 : decode cX11_readArc 92 = .ok (.iload_n 1, 1) := by decide +kernel
theorem dX11_readArc_93 : decode cX11_readArc 93 = .ok (.iconst 1, 1) := by decide +kernel
theorem dX11_readArc_94 : decode cX11_readArc 94 = .ok (.iadd, 1) := by decide +kernel
theorem dX11_readArc_95 : decode cX11_readArc 95 = .ok (.iload_n 3, 1) := by decide +kernel
theorem dX11_readArc_96 : decode cX11_readArc 96 = .ok (.iastore, 1) := by decide +kernel
theorem dX11_readArc_97 : decode cX11_readArc 97 = .ok (.aload_n 0, 1) := by decide +kernel
theorem dX11_readArc_98 : decode cX11_readArc 98 = .ok (.getfield 34, 3) := by decide +kernel
theorem dX11_readArc_101 : decode cX11_readArc 101 = .ok (.iload_n 1, 1) := by decide +kernel
theorem dX11_readArc_102 : decode cX11_readArc 102 = .ok (.iconst 2, 1) := by decide +kernel
theorem dX11_readArc_103 : decode cX11_readArc 103 = .ok (.iadd, 1) := by decide +kernel
theorem dX11_readArc_104 : decode cX11_readArc 104 = .ok (.iload 4, 2) := by decide +kernel
theorem dX11_readArc_106 : decode cX11_readArc 106 = .ok (.iastore, 1) := by decide +kernel
theorem dX11_readArc_107 : decode cX11_readArc 107 = .ok (.aload_n 0, 1) := by decide +kernel
theorem dX11_readArc_108 : decode cX11_readArc 108 = .ok (.getfield 34, 3) := by decide +kernel
theorem dX11_readArc_111 : decode cX11_readArc 111 = .ok (.iload_n 1, 1) := by decide +kernel
theorem dX11_readArc_112 : decode cX11_readArc 112 = .ok (.iconst 3, 1) := by decide +kernel
theorem dX11_readArc_113 : decode cX11_readArc 113 = .ok (.iadd, 1) := by decide +kernel
theorem dX11_readArc_114 : decode cX11_readArc 114 = .ok (.iload 5, 2) := by decide +kernel
theorem dX11_readArc_116 : decode cX11_readArc 116 = .ok (.iastore, 1) := by decide +kernel
theorem dX11_readArc_117 : decode cX11_readArc 117 = .ok (.aload_n 0, 1) := by decide +kernel
theorem dX11_readArc_118 : decode cX11_readArc 118 = .ok (.getfield 34, 3) := by decide +kernel
theorem dX11_readArc_121 : decode cX11_readArc 121 = .ok (.iload_n 1, 1) := by decide +kernel
theorem dX11_readArc_122 : decode cX11_readArc 122 = .ok (.iconst 4, 1) := by decide +kernel
theorem dX11_readArc_123 : decode cX11_readArc 123 = .ok (.iadd, 1) := by decide +kernel
theorem dX11_readArc_124 : decode cX11_readArc 124 = .ok (.aload_n 0, 1) := by decide +kernel
theorem dX11_readArc_125 : decode cX11_readArc 125 = .ok (.getfield 230, 3) := by decide +kernel
theorem dX11_readArc_128 : decode cX11_readArc 128 = .ok (.iastore, 1) := by decide +kernel
theorem dX11_readArc_129 : decode cX11_readArc 129 = .ok (.aload_n 0, 1) := by decide +kernel
theorem dX11_readArc_130 : decode cX11_readArc 130 = .ok (.getfield 34, 3) := by decide +kernel
theorem dX11_readArc_133 : decode cX11_readArc 133 = .ok (.iload_n 1, 1) := by decide +kernel
theorem dX11_readArc_134 : decode cX11_readArc 134 = .ok (.iconst 5, 1) := by decide +kernel
theorem dX11_readArc_135 : decode cX11_readArc 135 = .ok (.iadd, 1) := by decide +kernel
theorem dX11_readArc_136 : decode cX11_readArc 136 = .ok (.aload_n 0, 1) := by decide +kernel
theorem dX11_readArc_137 : decode cX11_readArc 137 = .ok (.getfield 233, 3) := by decide +kernel
theorem dX11_readArc_140 : decode cX11_readArc 140 = .ok (.iastore, 1) := by decide +kernel
theorem dX11_readArc_141 : decode cX11_readArc 141 = .ok (.aload_n 0, 1) := by decide +kernel
theorem dX11_readArc_142 : decode cX11_readArc 142 = .ok (.getfield 34, 3) := by decide +kernel
theorem dX11_readArc_145 : decode cX11_readArc 145 = .ok (.bipush 6, 2) := by decide +kernel
theorem dX11_readArc_147 : decode cX11_readArc 147 = .ok (.dup2, 1) := by decide +kernel
theorem dX11_readArc_148 : decode cX11_readArc 148 = .ok (.iaload, 1) := by decide +kernel
theorem dX11_readArc_149 : decode cX11_readArc 149 = .ok (.iconst 1, 1) := by decide +kernel
theorem dX11_readArc_150 : decode cX11_readArc 150 = .ok (.iadd, 1) := by decide +kernel
theorem dX11_readArc_151 : decode cX11_readArc 151 = .ok (.iastore, 1) := by decide +kernel
theorem dX11_readArc_152 : decode cX11_readArc 152 = .ok (.return_, 1) := by decide +kernel
theorem dX11_literalAt_0 : decode cX11_literalAt 0 = .ok (.aload_n 0, 1) := by decide +kernel
theorem dX11_literalAt_1 : decode cX11_literalAt 1 = .ok (.invokevirtual 224, 3) := by decide +kernel
theorem dX11_literalAt_4 : decode cX11_literalAt 4 = .ok (.istore_n 1, 1) := by decide +kernel
theorem dX11_literalAt_5 : decode cX11_literalAt 5 = .ok (.iload_n 1, 1) := by decide +kernel
theorem dX11_literalAt_6 : decode cX11_literalAt 6 = .ok (.iconst (-1), 1) := by decide +kernel
theorem dX11_literalAt_7 : decode cX11_literalAt 7 = .ok (.if_icmp .eq 7, 3) := by decide +kernel
theorem dX11_literalAt_10 : decode cX11_literalAt 10 = .ok (.iload_n 1, 1) := by decide +kernel
theorem dX11_literalAt_11 : decode cX11_literalAt 11 = .ok (.goto 21, 3) := by decide +kernel
theorem dX11_literalAt_14 : decode cX11_literalAt 14 = .ok (.aload_n 0, 1) := by decide +kernel
theorem dX11_literalAt_15 : decode cX11_literalAt 15 = .ok (.invokevirtual 239, 3) := by decide +kernel
theorem dX11_literalAt_18 : decode cX11_literalAt 18 = .ok (.iconst (-1), 1) := by decide +kernel
theorem dX11_literalAt_19 : decode cX11_literalAt 19 = .ok (.if_icmp .ne 7, 3) := by decide +kernel
theorem dX11_literalAt_22 : decode cX11_literalAt 22 = .ok (.iconst (-1), 1) := by decide +kernel
theorem dX11_literalAt_23 : decode cX11_literalAt 23 = .ok (.goto 9, 3) := by decide +kernel
theorem dX11_literalAt_26 : decode cX11_literalAt 26 = .ok (.iconst 4, 1) := by decide +kernel
theorem dX11_literalAt_27 : decode cX11_literalAt 27 = .ok (.aload_n 0, 1) := by decide +kernel
theorem dX11_literalAt_28 : decode cX11_literalAt 28 = .ok (.invokevirtual 239, 3) := by decide +kernel
theorem dX11_literalAt_31 : decode cX11_literalAt 31 = .ok (.iadd, 1) := by decide +kernel
theorem dX11_literalAt_32 : decode cX11_literalAt 32 = .ok (.ireturn, 1) := by decide +kernel
theorem dX11_readGate_0 : decode cX11_readGate 0 = .ok (.aload_n 0, 1) := by decide +kernel
theorem dX11_readGate_1 : decode cX11_readGate 1 = .ok (.aload_n 0, 1) := by decide +kernel
theorem dX11_readGate_2 : decode cX11_readGate 2 = .ok (.getfield 34, 3) := by decide +kernel
theorem dX11_readGate_5 : decode cX11_readGate 5 = .ok (.bipush 55, 2) := by decide +kernel
theorem dX11_readGate_7 : decode cX11_readGate 7 = .ok (.iaload, 1) := by decide +kernel
theorem dX11_readGate_8 : decode cX11_readGate 8 = .ok (.bipush 16, 2) := by decide +kernel
theorem dX11_readGate_10 : decode cX11_readGate 10 = .ok (.if_icmp .ne 7, 3) := by decide +kernel
theorem dX11_readGate_13 : decode cX11_readGate 13 = .ok (.iconst 1, 1) := by decide +kernel
theorem dX11_readGate_14 : decode cX11_readGate 14 = .ok (.goto 4, 3) := by decide +kernel
theorem dX11_readGate_17 : decode cX11_readGate 17 = .ok (.iconst 0, 1) := by decide +kernel
theorem dX11_readGate_18 : decode cX11_readGate 18 = .ok (.invokevirtual 210, 3) := by decide +kernel
theorem dX11_readGate_21 : decode cX11_readGate 21 = .ok (.aload_n 0, 1) := by decide +kernel
theorem dX11_readGate_22 : decode cX11_readGate 22 = .ok (.invokevirtual 227, 3) := by decide +kernel
theorem dX11_readGate_25 : decode cX11_readGate 25 = .ok (.iconst (-1), 1) := by decide +kernel
theorem dX11_readGate_26 : decode cX11_readGate 26 = .ok (.if_icmp .eq 10, 3) := by decide +kernel
theorem dX11_readGate_29 : decode cX11_readGate 29 = .ok (.aload_n 0, 1) := by decide +kernel
theorem dX11_readGate_30 : decode cX11_readGate 30 = .ok (.invokevirtual 227, 3) := by decide +kernel
theorem dX11_readGate_33 : decode cX11_readGate 33 = .ok (.goto 21, 3) := by decide +kernel
theorem dX11_readGate_36 : decode cX11_readGate 36 = .ok (.aload_n 0, 1) := by decide +kernel
theorem dX11_readGate_37 : decode cX11_readGate 37 = .ok (.invokevirtual 239, 3) := by decide +kernel
theorem dX11_readGate_40 : decode cX11_readGate 40 = .ok (.iconst (-1), 1) := by decide +kernel
theorem dX11_readGate_41 : decode cX11_readGate 41 = .ok (.if_icmp .eq 12, 3) := by decide +kernel
theorem dX11_readGate_44 : decode cX11_readGate 44 = .ok (.iconst 3, 1) := by decide +kernel
theorem dX11_readGate_45 : decode cX11_readGate 45 = .ok (.aload_n 0, 1) := by decide +kernel
theorem dX11_readGate_46 : decode cX11_readGate 46 = .ok (.invokevirtual 239, 3) := by decide +kernel
theorem dX11_readGate_49 : decode cX11_readGate 49 = .ok (.iadd, 1) := by decide +kernel
theorem dX11_readGate_50 : decode cX11_readGate 50 = .ok (.goto 4, 3) := by decide +kernel
theorem dX11_readGate_53 : decode cX11_readGate 53 = .ok (.iconst (-1), 1) := by decide +kernel
theorem dX11_readGate_54 : decode cX11_readGate 54 = .ok (.istore_n 1, 1) := by decide +kernel
theorem dX11_readGate_55 : decode cX11_readGate 55 = .ok (.iload_n 1, 1) := by decide +kernel
theorem dX11_readGate_56 : decode cX11_readGate 56 = .ok (.iconst (-1), 1) := by decide +kernel
theorem dX11_readGate_57 : decode cX11_readGate 57 = .ok (.if_icmp .ne 8, 3) := by decide +kernel
theorem dX11_readGate_60 : decode cX11_readGate 60 = .ok (.aload_n 0, 1) := by decide +kernel
theorem dX11_readGate_61 : decode cX11_readGate 61 = .ok (.iconst 1, 1) := by decide +kernel
theorem dX11_readGate_62 : decode cX11_readGate 62 = .ok (.invokevirtual 183, 3) := by decide +kernel
theorem dX11_readGate_65 : decode cX11_readGate 65 = .ok (.aload_n 0, 1) := by decide +kernel
theorem dX11_readGate_66 : decode cX11_readGate 66 = .ok (.invokevirtual 173, 3) := by decide +kernel
theorem dX11_readGate_69 : decode cX11_readGate 69 = .ok (.iconst 0, 1) := by decide +kernel
theorem dX11_readGate_70 : decode cX11_readGate 70 = .ok (.istore_n 2, 1) := by decide +kernel
theorem dX11_readGate_71 : decode cX11_readGate 71 = .ok (.iconst 0, 1) := by decide +kernel
theorem dX11_readGate_72 : decode cX11_readGate 72 = .ok (.istore_n 3, 1) := by decide +kernel
theorem dX11_readGate_73 : decode cX11_readGate 73 = .ok (.aload_n 0, 1) := by decide +kernel
theorem dX11_readGate_74 : decode cX11_readGate 74 = .ok (.invokevirtual 242, 3) := by decide +kernel
theorem dX11_readGate_77 : decode cX11_readGate 77 = .ok (.istore 4, 2) := by decide +kernel
theorem dX11_readGate_79 : decode cX11_readGate 79 = .ok (.iload 4, 2) := by decide +kernel
theorem dX11_readGate_81 : decode cX11_readGate 81 = .ok (.iconst (-1), 1) := by decide +kernel
theorem dX11_readGate_82 : decode cX11_readGate 82 = .ok (.if_icmp .eq 60, 3) := by decide +kernel
theorem dX11_readGate_85 : decode cX11_readGate 85 = .ok (.iload_n 2, 1) := by decide +kernel
theorem dX11_readGate_86 : decode cX11_readGate 86 = .ok (.iload 4, 2) := by decide +kernel
theorem dX11_readGate_88 : decode cX11_readGate 88 = .ok (.invokestatic 114, 3) := by decide +kernel
theorem dX11_readGate_91 : decode cX11_readGate 91 = .ok (.ifCond .eq 8, 3) := by decide +kernel
theorem dX11_readGate_94 : decode cX11_readGate 94 = .ok (.aload_n 0, 1) := by decide +kernel
theorem dX11_readGate_95 : decode cX11_readGate 95 = .ok (.iconst 3, 1) := by decide +kernel
theorem dX11_readGate_96 : decode cX11_readGate 96 = .ok (.invokevirtual 183, 3) := by decide +kernel
theorem dX11_readGate_99 : decode cX11_readGate 99 = .ok (.iload_n 2, 1) := by decide +kernel
theorem dX11_readGate_100 : decode cX11_readGate 100 = .ok (.iconst 1, 1) := by decide +kernel
theorem dX11_readGate_101 : decode cX11_readGate 101 = .ok (.iload 4, 2) := by decide +kernel
theorem dX11_readGate_103 : decode cX11_readGate 103 = .ok (.ishl, 1) := by decide +kernel
theorem dX11_readGate_104 : decode cX11_readGate 104 = .ok (.ior, 1) := by decide +kernel
theorem dX11_readGate_105 : decode cX11_readGate 105 = .ok (.istore_n 2, 1) := by decide +kernel
theorem dX11_readGate_106 : decode cX11_readGate 106 = .ok (.aload_n 0, 1) := by decide +kernel
theorem dX11_readGate_107 : decode cX11_readGate 107 = .ok (.invokevirtual 173, 3) := by decide +kernel
theorem dX11_readGate_110 : decode cX11_readGate 110 = .ok (.aload_n 0, 1) := by decide +kernel
theorem dX11_readGate_111 : decode cX11_readGate 111 = .ok (.bipush 39, 2) := by decide +kernel
theorem dX11_readGate_113 : decode cX11_readGate 113 = .ok (.invokevirtual 179, 3) := by decide +kernel
theorem dX11_readGate_116 : decode cX11_readGate 116 = .ok (.ifCond .eq 10, 3) := by decide +kernel
theorem dX11_readGate_119 : decode cX11_readGate 119 = .ok (.aload_n 0, 1) := by decide +kernel
theorem dX11_readGate_120 : decode cX11_readGate 120 = .ok (.invokevirtual 173, 3) := by decide +kernel
theorem dX11_readGate_123 : decode cX11_readGate 123 = .ok (.goto 10, 3) := by decide +kernel
theorem dX11_readGate_126 : decode cX11_readGate 126 = .ok (.iload_n 3, 1) := by decide +kernel
theorem dX11_readGate_127 : decode cX11_readGate 127 = .ok (.iconst 1, 1) := by decide +kernel
theorem dX11_readGate_128 : decode cX11_readGate 128 = .ok (.iload 4, 2) := by decide +kernel
theorem dX11_readGate_130 : decode cX11_readGate 130 = .ok (.ishl, 1) := by decide +kernel
theorem dX11_readGate_131 : decode cX11_readGate 131 = .ok (.ior, 1) := by decide +kernel
theorem dX11_readGate_132 : decode cX11_readGate 132 = .ok (.istore_n 3, 1) := by decide +kernel
theorem dX11_readGate_133 : decode cX11_readGate 133 = .ok (.aload_n 0, 1) := by decide +kernel
theorem dX11_readGate_134 : decode cX11_readGate 134 = .ok (.invokevirtual 242, 3) := by decide +kernel
theorem dX11_readGate_137 : decode cX11_readGate 137 = .ok (.istore 4, 2) := by decide +kernel
theorem dX11_readGate_139 : decode cX11_readGate 139 = .ok (.goto (-60), 3) := by decide +kernel
theorem dX11_readGate_142 : decode cX11_readGate 142 = .ok (.aload_n 0, 1) := by decide +kernel
theorem dX11_readGate_143 : decode cX11_readGate 143 = .ok (.getfield 122, 3) := by decide +kernel
theorem dX11_readGate_146 : decode cX11_readGate 146 = .ok (.ifCond .le 4, 3) := by decide +kernel
theorem dX11_readGate_149 : decode cX11_readGate 149 = .ok (.return_, 1) := by decide +kernel
theorem dX11_readGate_150 : decode cX11_readGate 150 = .ok (.aload_n 0, 1) := by decide +kernel
theorem dX11_readGate_151 : decode cX11_readGate 151 = .ok (.getfield 34, 3) := by decide +kernel
theorem dX11_readGate_154 : decode cX11_readGate 154 = .ok (.bipush 56, 2) := by decide +kernel
theorem dX11_readGate_156 : decode cX11_readGate 156 = .ok (.iconst 2, 1) := by decide +kernel
theorem dX11_readGate_157 : decode cX11_readGate 157 = .ok (.aload_n 0, 1) := by decide +kernel
theorem dX11_readGate_158 : decode cX11_readGate 158 = .ok (.getfield 34, 3) := by decide +kernel
theorem dX11_readGate_161 : decode cX11_readGate 161 = .ok (.bipush 55, 2) := by decide +kernel
theorem dX11_readGate_163 : decode cX11_readGate 163 = .ok (.iaload, 1) := by decide +kernel
theorem dX11_readGate_164 : decode cX11_readGate 164 = .ok (.imul, 1) := by decide +kernel
theorem dX11_readGate_165 : decode cX11_readGate 165 = .ok (.iadd, 1) := by decide +kernel
theorem dX11_readGate_166 : decode cX11_readGate 166 = .ok (.iload_n 1, 1) := by decide +kernel
theorem dX11_readGate_167 : decode cX11_readGate 167 = .ok (.iastore, 1) := by decide +kernel
theorem dX11_readGate_168 : decode cX11_readGate 168 = .ok (.aload_n 0, 1) := by decide +kernel
theorem dX11_readGate_169 : decode cX11_readGate 169 = .ok (.getfield 34, 3) := by decide +kernel
theorem dX11_readGate_172 : decode cX11_readGate 172 = .ok (.bipush 56, 2) := by decide +kernel
theorem dX11_readGate_174 : decode cX11_readGate 174 = .ok (.iconst 2, 1) := by decide +kernel
theorem dX11_readGate_175 : decode cX11_readGate 175 = .ok (.aload_n 0, 1) := by decide +kernel
theorem dX11_readGate_176 : decode cX11_readGate 176 = .ok (.getfield 34, 3) := by decide +kernel
theorem dX11_readGate_179 : decode cX11_readGate 179 = .ok (.bipush 55, 2) := by decide +kernel
theorem dX11_readGate_181 : decode cX11_readGate 181 = .ok (.iaload, 1) := by decide +kernel
theorem dX11_readGate_182 : decode cX11_readGate 182 = .ok (.imul, 1) := by decide +kernel
theorem dX11_readGate_183 : decode cX11_readGate 183 = .ok (.iadd, 1) := by decide +kernel
theorem dX11_readGate_184 : decode cX11_readGate 184 = .ok (.iconst 1, 1) := by decide +kernel
theorem dX11_readGate_185 : decode cX11_readGate 185 = .ok (.iadd, 1) := by decide +kernel
theorem dX11_readGate_186 : decode cX11_readGate 186 = .ok (.iload_n 3, 1) := by decide +kernel
theorem dX11_readGate_187 : decode cX11_readGate 187 = .ok (.bipush 63, 2) := by decide +kernel
theorem dX11_readGate_189 : decode cX11_readGate 189 = .ok (.iload_n 2, 1) := by decide +kernel
theorem dX11_readGate_190 : decode cX11_readGate 190 = .ok (.iconst (-1), 1) := by decide +kernel
theorem dX11_readGate_191 : decode cX11_readGate 191 = .ok (.ixor, 1) := by decide +kernel
theorem dX11_readGate_192 : decode cX11_readGate 192 = .ok (.iand, 1) := by decide +kernel
theorem dX11_readGate_193 : decode cX11_readGate 193 = .ok (.invokestatic 245, 3) := by decide +kernel
theorem dX11_readGate_196 : decode cX11_readGate 196 = .ok (.iastore, 1) := by decide +kernel
theorem dX11_readGate_197 : decode cX11_readGate 197 = .ok (.aload_n 0, 1) := by decide +kernel
theorem dX11_readGate_198 : decode cX11_readGate 198 = .ok (.getfield 34, 3) := by decide +kernel
theorem dX11_readGate_201 : decode cX11_readGate 201 = .ok (.bipush 55, 2) := by decide +kernel
theorem dX11_readGate_203 : decode cX11_readGate 203 = .ok (.dup2, 1) := by decide +kernel
theorem dX11_readGate_204 : decode cX11_readGate 204 = .ok (.iaload, 1) := by decide +kernel
theorem dX11_readGate_205 : decode cX11_readGate 205 = .ok (.iconst 1, 1) := by decide +kernel
theorem dX11_readGate_206 : decode cX11_readGate 206 = .ok (.iadd, 1) := by decide +kernel
theorem dX11_readGate_207 : decode cX11_readGate 207 = .ok (.iastore, 1) := by decide +kernel
theorem dX11_readGate_208 : decode cX11_readGate 208 = .ok (.return_, 1) := by decide +kernel
theorem dX11_feed_0 : decode cX11_feed 0 = .ok (.aload_n 0, 1) := by decide +kernel
theorem dX11_feed_1 : decode cX11_feed 1 = .ok (.iconst 0, 1) := by decide +kernel
theorem dX11_feed_2 : decode cX11_feed 2 = .ok (.putfield 3, 3) := by decide +kernel
theorem dX11_feed_5 : decode cX11_feed 5 = .ok (.aload_n 0, 1) := by decide +kernel
theorem dX11_feed_6 : decode cX11_feed 6 = .ok (.getfield 248, 3) := by decide +kernel
theorem dX11_feed_9 : decode cX11_feed 9 = .ok (.bipush 20, 2) := by decide +kernel
theorem dX11_feed_11 : decode cX11_feed 11 = .ok (.iadd, 1) := by decide +kernel
theorem dX11_feed_12 : decode cX11_feed 12 = .ok (.sipush 600, 3) := by decide +kernel
theorem dX11_feed_15 : decode cX11_feed 15 = .ok (.if_icmp .le 5, 3) := by decide +kernel
theorem dX11_feed_18 : decode cX11_feed 18 = .ok (.iconst (-1), 1) := by decide +kernel
theorem dX11_feed_19 : decode cX11_feed 19 = .ok (.ireturn, 1) := by decide +kernel
theorem dX11_feed_20 : decode cX11_feed 20 = .ok (.iconst 0, 1) := by decide +kernel
theorem dX11_feed_21 : decode cX11_feed 21 = .ok (.istore 6, 2) := by decide +kernel
theorem dX11_feed_23 : decode cX11_feed 23 = .ok (.iload 6, 2) := by decide +kernel
theorem dX11_feed_25 : decode cX11_feed 25 = .ok (.bipush 20, 2) := by decide +kernel
theorem dX11_feed_27 : decode cX11_feed 27 = .ok (.if_icmp .ge 90, 3) := by decide +kernel
theorem dX11_feed_30 : decode cX11_feed 30 = .ok (.iload 6, 2) := by decide +kernel
theorem dX11_feed_32 : decode cX11_feed 32 = .ok (.iconst 4, 1) := by decide +kernel
theorem dX11_feed_33 : decode cX11_feed 33 = .ok (.if_icmp .ge 7, 3) := by decide +kernel
theorem dX11_feed_36 : decode cX11_feed 36 = .ok (.iload_n 1, 1) := by decide +kernel
theorem dX11_feed_37 : decode cX11_feed 37 = .ok (.goto 39, 3) := by decide +kernel
theorem dX11_feed_40 : decode cX11_feed 40 = .ok (.iload 6, 2) := by decide +kernel
theorem dX11_feed_42 : decode cX11_feed 42 = .ok (.bipush 8, 2) := by decide +kernel
theorem dX11_feed_44 : decode cX11_feed 44 = .ok (.if_icmp .ge 7, 3) := by decide +kernel
theorem dX11_feed_47 : decode cX11_feed 47 = .ok (.iload_n 2, 1) := by decide +kernel
theorem dX11_feed_48 : decode cX11_feed 48 = .ok (.goto 28, 3) := by decide +kernel
theorem dX11_feed_51 : decode cX11_feed 51 = .ok (.iload 6, 2) := by decide +kernel
theorem dX11_feed_53 : decode cX11_feed 53 = .ok (.bipush 12, 2) := by decide +kernel
theorem dX11_feed_55 : decode cX11_feed 55 = .ok (.if_icmp .ge 7, 3) := by decide +kernel
theorem dX11_feed_58 : decode cX11_feed 58 = .ok (.iload_n 3, 1) := by decide +kernel
theorem dX11_feed_59 : decode cX11_feed 59 = .ok (.goto 17, 3) := by decide +kernel
theorem dX11_feed_62 : decode cX11_feed 62 = .ok (.iload 6, 2) := by decide +kernel
theorem dX11_feed_64 : decode cX11_feed 64 = .ok (.bipush 16, 2) := by decide +kernel
theorem dX11_feed_66 : decode cX11_feed 66 = .ok (.if_icmp .ge 8, 3) := by decide +kernel
theorem dX11_feed_69 : decode cX11_feed 69 = .ok (.iload 4, 2) := by decide +kernel
theorem dX11_feed_71 : decode cX11_feed 71 = .ok (.goto 5, 3) := by decide +kernel
theorem dX11_feed_74 : decode cX11_feed 74 = .ok (.iload 5, 2) := by decide +kernel
theorem dX11_feed_76 : decode cX11_feed 76 = .ok (.istore 7, 2) := by decide +kernel
theorem dX11_feed_78 : decode cX11_feed 78 = .ok (.aload_n 0, 1) := by decide +kernel
theorem dX11_feed_79 : decode cX11_feed 79 = .ok (.getfield 27, 3) := by decide +kernel
theorem dX11_feed_82 : decode cX11_feed 82 = .ok (.aload_n 0, 1) := by decide +kernel
theorem dX11_feed_83 : decode cX11_feed 83 = .ok (.getfield 248, 3) := by decide +kernel
theorem dX11_feed_86 : decode cX11_feed 86 = .ok (.iload 7, 2) := by decide +kernel
theorem dX11_feed_88 : decode cX11_feed 88 = .ok (.bipush 24, 2) := by decide +kernel
theorem dX11_feed_90 : decode cX11_feed 90 = .ok (.bipush 8, 2) := by decide +kernel
theorem dX11_feed_92 : decode cX11_feed 92 = .ok (.iload 6, 2) := by decide +kernel
theorem dX11_feed_94 : decode cX11_feed 94 = .ok (.iconst 4, 1) := by decide +kernel
theorem dX11_feed_95 : decode cX11_feed 95 = .ok (.irem, 1) := by decide +kernel
theorem dX11_feed_96 : decode cX11_feed 96 = .ok (.imul, 1) := by decide +kernel
theorem dX11_feed_97 : decode cX11_feed 97 = .ok (.isub, 1) := by decide +kernel
theorem dX11_feed_98 : decode cX11_feed 98 = .ok (.ishr, 1) := by decide +kernel
theorem dX11_feed_99 : decode cX11_feed 99 = .ok (.i2b, 1) := by decide +kernel
theorem dX11_feed_100 : decode cX11_feed 100 = .ok (.bastore, 1) := by decide +kernel
theorem dX11_feed_101 : decode cX11_feed 101 = .ok (.aload_n 0, 1) := by decide +kernel
theorem dX11_feed_102 : decode cX11_feed 102 = .ok (.dup, 1) := by decide +kernel
theorem dX11_feed_103 : decode cX11_feed 103 = .ok (.getfield 248, 3) := by decide +kernel
theorem dX11_feed_106 : decode cX11_feed 106 = .ok (.iconst 1, 1) := by decide +kernel
theorem dX11_feed_107 : decode cX11_feed 107 = .ok (.iadd, 1) := by decide +kernel
theorem dX11_feed_108 : decode cX11_feed 108 = .ok (.putfield 248, 3) := by decide +kernel
theorem dX11_feed_111 : decode cX11_feed 111 = .ok (.iinc 6 1, 3) := by decide +kernel
theorem dX11_feed_114 : decode cX11_feed 114 = .ok (.goto (-91), 3) := by decide +kernel
theorem dX11_feed_117 : decode cX11_feed 117 = .ok (.aload_n 0, 1) := by decide +kernel
theorem dX11_feed_118 : decode cX11_feed 118 = .ok (.getfield 248, 3) := by decide +kernel
theorem dX11_feed_121 : decode cX11_feed 121 = .ok (.ireturn, 1) := by decide +kernel
theorem dX11_machine_0 : decode cX11_machine 0 = .ok (.aload_n 0, 1) := by decide +kernel
theorem dX11_machine_1 : decode cX11_machine 1 = .ok (.iconst 0, 1) := by decide +kernel
theorem dX11_machine_2 : decode cX11_machine 2 = .ok (.putfield 3, 3) := by decide +kernel
theorem dX11_machine_5 : decode cX11_machine 5 = .ok (.iload_n 1, 1) := by decide +kernel
theorem dX11_machine_6 : decode cX11_machine 6 = .ok (.ifCond .lt 11, 3) := by decide +kernel
theorem dX11_machine_9 : decode cX11_machine 9 = .ok (.iload_n 1, 1) := by decide +kernel
theorem dX11_machine_10 : decode cX11_machine 10 = .ok (.aload_n 0, 1) := by decide +kernel
theorem dX11_machine_11 : decode cX11_machine 11 = .ok (.getfield 248, 3) := by decide +kernel
theorem dX11_machine_14 : decode cX11_machine 14 = .ok (.if_icmp .le 9, 3) := by decide +kernel
theorem dX11_machine_17 : decode cX11_machine 17 = .ok (.aload_n 0, 1) := by decide +kernel
theorem dX11_machine_18 : decode cX11_machine 18 = .ok (.iconst 2, 1) := by decide +kernel
theorem dX11_machine_19 : decode cX11_machine 19 = .ok (.invokevirtual 251, 3) := by decide +kernel
theorem dX11_machine_22 : decode cX11_machine 22 = .ok (.ireturn, 1) := by decide +kernel
theorem dX11_machine_23 : decode cX11_machine 23 = .ok (.aload_n 0, 1) := by decide +kernel
theorem dX11_machine_24 : decode cX11_machine 24 = .ok (.iload_n 1, 1) := by decide +kernel
theorem dX11_machine_25 : decode cX11_machine 25 = .ok (.putfield 119, 3) := by decide +kernel
theorem dX11_machine_28 : decode cX11_machine 28 = .ok (.aload_n 0, 1) := by decide +kernel
theorem dX11_machine_29 : decode cX11_machine 29 = .ok (.iconst 0, 1) := by decide +kernel
theorem dX11_machine_30 : decode cX11_machine 30 = .ok (.putfield 248, 3) := by decide +kernel
theorem dX11_machine_33 : decode cX11_machine 33 = .ok (.aload_n 0, 1) := by decide +kernel
theorem dX11_machine_34 : decode cX11_machine 34 = .ok (.iconst 0, 1) := by decide +kernel
theorem dX11_machine_35 : decode cX11_machine 35 = .ok (.putfield 125, 3) := by decide +kernel
theorem dX11_machine_38 : decode cX11_machine 38 = .ok (.aload_n 0, 1) := by decide +kernel
theorem dX11_machine_39 : decode cX11_machine 39 = .ok (.iconst 0, 1) := by decide +kernel
theorem dX11_machine_40 : decode cX11_machine 40 = .ok (.putfield 122, 3) := by decide +kernel
theorem dX11_machine_43 : decode cX11_machine 43 = .ok (.aload_n 0, 1) := by decide +kernel
theorem dX11_machine_44 : decode cX11_machine 44 = .ok (.invokevirtual 254, 3) := by decide +kernel
theorem dX11_machine_47 : decode cX11_machine 47 = .ok (.aload_n 0, 1) := by decide +kernel
theorem dX11_machine_48 : decode cX11_machine 48 = .ok (.getfield 122, 3) := by decide +kernel
theorem dX11_machine_51 : decode cX11_machine 51 = .ok (.ifCond .le 18, 3) := by decide +kernel
theorem dX11_machine_54 : decode cX11_machine 54 = .ok (.aload_n 0, 1) := by decide +kernel
theorem dX11_machine_55 : decode cX11_machine 55 = .ok (.iconst 4, 1) := by decide +kernel
theorem dX11_machine_56 : decode cX11_machine 56 = .ok (.putfield 7, 3) := by decide +kernel
theorem dX11_machine_59 : decode cX11_machine 59 = .ok (.aload_n 0, 1) := by decide +kernel
theorem dX11_machine_60 : decode cX11_machine 60 = .ok (.aload_n 0, 1) := by decide +kernel
theorem dX11_machine_61 : decode cX11_machine 61 = .ok (.getfield 132, 3) := by decide +kernel
theorem dX11_machine_64 : decode cX11_machine 64 = .ok (.putfield 10, 3) := by decide +kernel
theorem dX11_machine_67 : decode cX11_machine 67 = .ok (.iconst (-1), 1) := by decide +kernel
theorem dX11_machine_68 : decode cX11_machine 68 = .ok (.ireturn, 1) := by decide +kernel
theorem dX11_machine_69 : decode cX11_machine 69 = .ok (.iconst 0, 1) := by decide +kernel
theorem dX11_machine_70 : decode cX11_machine 70 = .ok (.istore_n 2, 1) := by decide +kernel
theorem dX11_machine_71 : decode cX11_machine 71 = .ok (.iload_n 2, 1) := by decide +kernel
theorem dX11_machine_72 : decode cX11_machine 72 = .ok (.bipush 88, 2) := by decide +kernel
theorem dX11_machine_74 : decode cX11_machine 74 = .ok (.if_icmp .ge 21, 3) := by decide +kernel
theorem dX11_machine_77 : decode cX11_machine 77 = .ok (.aload_n 0, 1) := by decide +kernel
theorem dX11_machine_78 : decode cX11_machine 78 = .ok (.getfield 31, 3) := by decide +kernel
theorem dX11_machine_81 : decode cX11_machine 81 = .ok (.iload_n 2, 1) := by decide +kernel
theorem dX11_machine_82 : decode cX11_machine 82 = .ok (.aload_n 0, 1) := by decide +kernel
theorem dX11_machine_83 : decode cX11_machine 83 = .ok (.getfield 34, 3) := by decide +kernel
theorem dX11_machine_86 : decode cX11_machine 86 = .ok (.iload_n 2, 1) := by decide +kernel
theorem dX11_machine_87 : decode cX11_machine 87 = .ok (.iaload, 1) := by decide +kernel
theorem dX11_machine_88 : decode cX11_machine 88 = .ok (.iastore, 1) := by decide +kernel
theorem dX11_machine_89 : decode cX11_machine 89 = .ok (.iinc 2 1, 3) := by decide +kernel
theorem dX11_machine_92 : decode cX11_machine 92 = .ok (.goto (-21), 3) := by decide +kernel
theorem dX11_machine_95 : decode cX11_machine 95 = .ok (.iconst 0, 1) := by decide +kernel
theorem dX11_machine_96 : decode cX11_machine 96 = .ok (.istore_n 2, 1) := by decide +kernel
theorem dX11_machine_97 : decode cX11_machine 97 = .ok (.iload_n 2, 1) := by decide +kernel
theorem dX11_machine_98 : decode cX11_machine 98 = .ok (.iconst 4, 1) := by decide +kernel
theorem dX11_machine_99 : decode cX11_machine 99 = .ok (.if_icmp .ge 21, 3) := by decide +kernel
theorem dX11_machine_102 : decode cX11_machine 102 = .ok (.aload_n 0, 1) := by decide +kernel
theorem dX11_machine_103 : decode cX11_machine 103 = .ok (.getfield 37, 3) := by decide +kernel
theorem dX11_machine_106 : decode cX11_machine 106 = .ok (.iload_n 2, 1) := by decide +kernel
theorem dX11_machine_107 : decode cX11_machine 107 = .ok (.aload_n 0, 1) := by decide +kernel
theorem dX11_machine_108 : decode cX11_machine 108 = .ok (.getfield 40, 3) := by decide +kernel
theorem dX11_machine_111 : decode cX11_machine 111 = .ok (.iload_n 2, 1) := by decide +kernel
theorem dX11_machine_112 : decode cX11_machine 112 = .ok (.iaload, 1) := by decide +kernel
theorem dX11_machine_113 : decode cX11_machine 113 = .ok (.iastore, 1) := by decide +kernel
theorem dX11_machine_114 : decode cX11_machine 114 = .ok (.iinc 2 1, 3) := by decide +kernel
theorem dX11_machine_117 : decode cX11_machine 117 = .ok (.goto (-20), 3) := by decide +kernel
theorem dX11_machine_120 : decode cX11_machine 120 = .ok (.aload_n 0, 1) := by decide +kernel
theorem dX11_machine_121 : decode cX11_machine 121 = .ok (.iconst 1, 1) := by decide +kernel
theorem dX11_machine_122 : decode cX11_machine 122 = .ok (.putfield 257, 3) := by decide +kernel
theorem dX11_machine_125 : decode cX11_machine 125 = .ok (.aload_n 0, 1) := by decide +kernel
theorem dX11_machine_126 : decode cX11_machine 126 = .ok (.iconst 0, 1) := by decide +kernel
theorem dX11_machine_127 : decode cX11_machine 127 = .ok (.putfield 261, 3) := by decide +kernel
theorem dX11_machine_130 : decode cX11_machine 130 = .ok (.aload_n 0, 1) := by decide +kernel
theorem dX11_machine_131 : decode cX11_machine 131 = .ok (.invokevirtual 264, 3) := by decide +kernel
theorem dX11_machine_134 : decode cX11_machine 134 = .ok (.aload_n 0, 1) := by decide +kernel
theorem dX11_machine_135 : decode cX11_machine 135 = .ok (.aload_n 0, 1) := by decide +kernel
theorem dX11_machine_136 : decode cX11_machine 136 = .ok (.getfield 31, 3) := by decide +kernel
theorem dX11_machine_139 : decode cX11_machine 139 = .ok (.bipush 6, 2) := by decide +kernel
theorem dX11_machine_141 : decode cX11_machine 141 = .ok (.iaload, 1) := by decide +kernel
theorem dX11_machine_142 : decode cX11_machine 142 = .ok (.invokevirtual 267, 3) := by decide +kernel
theorem dX11_machine_145 : decode cX11_machine 145 = .ok (.ireturn, 1) := by decide +kernel
theorem dX11_fault_0 : decode cX11_fault 0 = .ok (.aload_n 0, 1) := by decide +kernel
theorem dX11_fault_1 : decode cX11_fault 1 = .ok (.iconst 0, 1) := by decide +kernel
theorem dX11_fault_2 : decode cX11_fault 2 = .ok (.putfield 3, 3) := by decide +kernel
theorem dX11_fault_5 : decode cX11_fault 5 = .ok (.aload_n 0, 1) := by decide +kernel
theorem dX11_fault_6 : decode cX11_fault 6 = .ok (.getfield 122, 3) := by decide +kernel
theorem dX11_fault_9 : decode cX11_fault 9 = .ok (.ireturn, 1) := by decide +kernel
theorem dX11_where_0 : decode cX11_where 0 = .ok (.aload_n 0, 1) := by decide +kernel
theorem dX11_where_1 : decode cX11_where 1 = .ok (.iconst 0, 1) := by decide +kernel
theorem dX11_where_2 : decode cX11_where 2 = .ok (.putfield 3, 3) := by decide +kernel
theorem dX11_where_5 : decode cX11_where 5 = .ok (.aload_n 0, 1) := by decide +kernel
theorem dX11_where_6 : decode cX11_where 6 = .ok (.getfield 10, 3) := by decide +kernel
theorem dX11_where_9 : decode cX11_where 9 = .ok (.ireturn, 1) := by decide +kernel
theorem dX11_arcOf_0 : decode cX11_arcOf 0 = .ok (.aload_n 0, 1) := by decide +kernel
theorem dX11_arcOf_1 : decode cX11_arcOf 1 = .ok (.getfield 31, 3) := by decide +kernel
theorem dX11_arcOf_4 : decode cX11_arcOf 4 = .ok (.bipush 7, 2) := by decide +kernel
theorem dX11_arcOf_6 : decode cX11_arcOf 6 = .ok (.bipush 6, 2) := by decide +kernel
theorem dX11_arcOf_8 : decode cX11_arcOf 8 = .ok (.iload_n 1, 1) := by decide +kernel
theorem dX11_arcOf_9 : decode cX11_arcOf 9 = .ok (.imul, 1) := by decide +kernel
theorem dX11_arcOf_10 : decode cX11_arcOf 10 = .ok (.iadd, 1) := by decide +kernel
theorem dX11_arcOf_11 : decode cX11_arcOf 11 = .ok (.iload_n 2, 1) := by decide +kernel
theorem dX11_arcOf_12 : decode cX11_arcOf 12 = .ok (.iadd, 1) := by decide +kernel
theorem dX11_arcOf_13 : decode cX11_arcOf 13 = .ok (.iaload, 1) := by decide +kernel
theorem dX11_arcOf_14 : decode cX11_arcOf 14 = .ok (.ireturn, 1) := by decide +kernel
theorem dX11_changed_0 : decode cX11_changed 0 = .ok (.aload_n 0, 1) := by decide +kernel
theorem dX11_changed_1 : decode cX11_changed 1 = .ok (.iload_n 1, 1) := by decide +kernel
theorem dX11_changed_2 : decode cX11_changed 2 = .ok (.iconst 2, 1) := by decide +kernel
theorem dX11_changed_3 : decode cX11_changed 3 = .ok (.invokevirtual 270, 3) := by decide +kernel
theorem dX11_changed_6 : decode cX11_changed 6 = .ok (.aload_n 0, 1) := by decide +kernel
theorem dX11_changed_7 : decode cX11_changed 7 = .ok (.iload_n 1, 1) := by decide +kernel
theorem dX11_changed_8 : decode cX11_changed 8 = .ok (.iconst 3, 1) := by decide +kernel
theorem dX11_changed_9 : decode cX11_changed 9 = .ok (.invokevirtual 270, 3) := by decide +kernel
theorem dX11_changed_12 : decode cX11_changed 12 = .ok (.ior, 1) := by decide +kernel
theorem dX11_changed_13 : decode cX11_changed 13 = .ok (.ireturn, 1) := by decide +kernel
theorem dX11_spoils_0 : decode cX11_spoils 0 = .ok (.aload_n 0, 1) := by decide +kernel
theorem dX11_spoils_1 : decode cX11_spoils 1 = .ok (.getfield 273, 3) := by decide +kernel
theorem dX11_spoils_4 : decode cX11_spoils 4 = .ok (.ifCond .le 4, 3) := by decide +kernel
theorem dX11_spoils_7 : decode cX11_spoils 7 = .ok (.return_, 1) := by decide +kernel
theorem dX11_spoils_8 : decode cX11_spoils 8 = .ok (.aload_n 0, 1) := by decide +kernel
theorem dX11_spoils_9 : decode cX11_spoils 9 = .ok (.iload_n 1, 1) := by decide +kernel
theorem dX11_spoils_10 : decode cX11_spoils 10 = .ok (.putfield 273, 3) := by decide +kernel
theorem dX11_spoils_13 : decode cX11_spoils 13 = .ok (.aload_n 0, 1) := by decide +kernel
theorem dX11_spoils_14 : decode cX11_spoils 14 = .ok (.iload_n 2, 1) := by decide +kernel
theorem dX11_spoils_15 : decode cX11_spoils 15 = .ok (.putfield 276, 3) := by decide +kernel
theorem dX11_spoils_18 : decode cX11_spoils 18 = .ok (.return_, 1) := by decide +kernel
theorem dX11_looks_0 : decode cX11_looks 0 = .ok (.aload_n 0, 1) := by decide +kernel
theorem dX11_looks_1 : decode cX11_looks 1 = .ok (.iconst 0, 1) := by decide +kernel
theorem dX11_looks_2 : decode cX11_looks 2 = .ok (.putfield 273, 3) := by decide +kernel
theorem dX11_looks_5 : decode cX11_looks 5 = .ok (.aload_n 0, 1) := by decide +kernel
theorem dX11_looks_6 : decode cX11_looks 6 = .ok (.bipush (-2), 2) := by decide +kernel
theorem dX11_looks_8 : decode cX11_looks 8 = .ok (.putfield 276, 3) := by decide +kernel
theorem dX11_looks_11 : decode cX11_looks 11 = .ok (.aload_n 0, 1) := by decide +kernel
theorem dX11_looks_12 : decode cX11_looks 12 = .ok (.invokevirtual 279, 3) := by decide +kernel
theorem dX11_looks_15 : decode cX11_looks 15 = .ok (.aload_n 0, 1) := by decide +kernel
theorem dX11_looks_16 : decode cX11_looks 16 = .ok (.getfield 273, 3) := by decide +kernel
theorem dX11_looks_19 : decode cX11_looks 19 = .ok (.ifCond .ne 7, 3) := by decide +kernel
theorem dX11_looks_22 : decode cX11_looks 22 = .ok (.aload_n 0, 1) := by decide +kernel
theorem dX11_looks_23 : decode cX11_looks 23 = .ok (.invokevirtual 282, 3) := by decide +kernel
theorem dX11_looks_26 : decode cX11_looks 26 = .ok (.aload_n 0, 1) := by decide +kernel
theorem dX11_looks_27 : decode cX11_looks 27 = .ok (.getfield 273, 3) := by decide +kernel
theorem dX11_looks_30 : decode cX11_looks 30 = .ok (.ifCond .ne 7, 3) := by decide +kernel
theorem dX11_looks_33 : decode cX11_looks 33 = .ok (.aload_n 0, 1) := by decide +kernel
theorem dX11_looks_34 : decode cX11_looks 34 = .ok (.invokevirtual 285, 3) := by decide +kernel
theorem dX11_looks_37 : decode cX11_looks 37 = .ok (.aload_n 0, 1) := by decide +kernel
theorem dX11_looks_38 : decode cX11_looks 38 = .ok (.getfield 273, 3) := by decide +kernel
theorem dX11_looks_41 : decode cX11_looks 41 = .ok (.ifCond .ne 7, 3) := by decide +kernel
theorem dX11_looks_44 : decode cX11_looks 44 = .ok (.aload_n 0, 1) := by decide +kernel
theorem dX11_looks_45 : decode cX11_looks 45 = .ok (.invokevirtual 288, 3) := by decide +kernel
theorem dX11_looks_48 : decode cX11_looks 48 = .ok (.iconst 0, 1) := by decide +kernel
theorem dX11_looks_49 : decode cX11_looks 49 = .ok (.istore_n 1, 1) := by decide +kernel
theorem dX11_looks_50 : decode cX11_looks 50 = .ok (.iload_n 1, 1) := by decide +kernel
theorem dX11_looks_51 : decode cX11_looks 51 = .ok (.iconst 5, 1) := by decide +kernel
theorem dX11_looks_52 : decode cX11_looks 52 = .ok (.if_icmp .ge 23, 3) := by decide +kernel
theorem dX11_looks_55 : decode cX11_looks 55 = .ok (.aload_n 0, 1) := by decide +kernel
theorem dX11_looks_56 : decode cX11_looks 56 = .ok (.getfield 68, 3) := by decide +kernel
theorem dX11_looks_59 : decode cX11_looks 59 = .ok (.iload_n 1, 1) := by decide +kernel
theorem dX11_looks_60 : decode cX11_looks 60 = .ok (.iconst 0, 1) := by decide +kernel
theorem dX11_looks_61 : decode cX11_looks 61 = .ok (.bastore, 1) := by decide +kernel
theorem dX11_looks_62 : decode cX11_looks 62 = .ok (.aload_n 0, 1) := by decide +kernel
theorem dX11_looks_63 : decode cX11_looks 63 = .ok (.getfield 71, 3) := by decide +kernel
theorem dX11_looks_66 : decode cX11_looks 66 = .ok (.iload_n 1, 1) := by decide +kernel
theorem dX11_looks_67 : decode cX11_looks 67 = .ok (.iconst 0, 1) := by decide +kernel
theorem dX11_looks_68 : decode cX11_looks 68 = .ok (.bastore, 1) := by decide +kernel
theorem dX11_looks_69 : decode cX11_looks 69 = .ok (.iinc 1 1, 3) := by decide +kernel
theorem dX11_looks_72 : decode cX11_looks 72 = .ok (.goto (-22), 3) := by decide +kernel
theorem dX11_looks_75 : decode cX11_looks 75 = .ok (.aload_n 0, 1) := by decide +kernel
theorem dX11_looks_76 : decode cX11_looks 76 = .ok (.aload_n 0, 1) := by decide +kernel
theorem dX11_looks_77 : decode cX11_looks 77 = .ok (.getfield 37, 3) := by decide +kernel
theorem dX11_looks_80 : decode cX11_looks 80 = .ok (.iconst 1, 1) := by decide +kernel
theorem dX11_looks_81 : decode cX11_looks 81 = .ok (.iaload, 1) := by decide +kernel
theorem dX11_looks_82 : decode cX11_looks 82 = .ok (.putfield 291, 3) := by decide +kernel
theorem dX11_looks_85 : decode cX11_looks 85 = .ok (.aload_n 0, 1) := by decide +kernel
theorem dX11_looks_86 : decode cX11_looks 86 = .ok (.iconst 0, 1) := by decide +kernel
theorem dX11_looks_87 : decode cX11_looks 87 = .ok (.putfield 294, 3) := by decide +kernel
theorem dX11_looks_90 : decode cX11_looks 90 = .ok (.return_, 1) := by decide +kernel
theorem dX11_goesAlong_0 : decode cX11_goesAlong 0 = .ok (.iconst 0, 1) := by decide +kernel
theorem dX11_goesAlong_1 : decode cX11_goesAlong 1 = .ok (.istore_n 1, 1) := by decide +kernel
theorem dX11_goesAlong_2 : decode cX11_goesAlong 2 = .ok (.iload_n 1, 1) := by decide +kernel
theorem dX11_goesAlong_3 : decode cX11_goesAlong 3 = .ok (.bipush 6, 2) := by decide +kernel
theorem dX11_goesAlong_5 : decode cX11_goesAlong 5 = .ok (.if_icmp .ge 16, 3) := by decide +kernel
theorem dX11_goesAlong_8 : decode cX11_goesAlong 8 = .ok (.aload_n 0, 1) := by decide +kernel
theorem dX11_goesAlong_9 : decode cX11_goesAlong 9 = .ok (.getfield 46, 3) := by decide +kernel
theorem dX11_goesAlong_12 : decode cX11_goesAlong 12 = .ok (.iload_n 1, 1) := by decide +kernel
theorem dX11_goesAlong_13 : decode cX11_goesAlong 13 = .ok (.iconst 0, 1) := by decide +kernel
theorem dX11_goesAlong_14 : decode cX11_goesAlong 14 = .ok (.bastore, 1) := by decide +kernel
theorem dX11_goesAlong_15 : decode cX11_goesAlong 15 = .ok (.iinc 1 1, 3) := by decide +kernel
theorem dX11_goesAlong_18 : decode cX11_goesAlong 18 = .ok (.goto (-16), 3) := by decide +kernel
theorem dX11_goesAlong_21 : decode cX11_goesAlong 21 = .ok (.iconst 0, 1) := by decide +kernel
theorem dX11_goesAlong_22 : decode cX11_goesAlong 22 = .ok (.istore_n 1, 1) := by decide +kernel
theorem dX11_goesAlong_23 : decode cX11_goesAlong 23 = .ok (.iload_n 1, 1) := by decide +kernel
theorem dX11_goesAlong_24 : decode cX11_goesAlong 24 = .ok (.bipush 8, 2) := by decide +kernel
theorem dX11_goesAlong_26 : decode cX11_goesAlong 26 = .ok (.if_icmp .ge 16, 3) := by decide +kernel
theorem dX11_goesAlong_29 : decode cX11_goesAlong 29 = .ok (.aload_n 0, 1) := by decide +kernel
theorem dX11_goesAlong_30 : decode cX11_goesAlong 30 = .ok (.getfield 50, 3) := by decide +kernel
theorem dX11_goesAlong_33 : decode cX11_goesAlong 33 = .ok (.iload_n 1, 1) := by decide +kernel
theorem dX11_goesAlong_34 : decode cX11_goesAlong 34 = .ok (.iconst 0, 1) := by decide +kernel
theorem dX11_goesAlong_35 : decode cX11_goesAlong 35 = .ok (.bastore, 1) := by decide +kernel
theorem dX11_goesAlong_36 : decode cX11_goesAlong 36 = .ok (.iinc 1 1, 3) := by decide +kernel
theorem dX11_goesAlong_39 : decode cX11_goesAlong 39 = .ok (.goto (-16), 3) := by decide +kernel
theorem dX11_goesAlong_42 : decode cX11_goesAlong 42 = .ok (.aload_n 0, 1) := by decide +kernel
theorem dX11_goesAlong_43 : decode cX11_goesAlong 43 = .ok (.getfield 37, 3) := by decide +kernel
theorem dX11_goesAlong_46 : decode cX11_goesAlong 46 = .ok (.iconst 1, 1) := by decide +kernel
theorem dX11_goesAlong_47 : decode cX11_goesAlong 47 = .ok (.iaload, 1) := by decide +kernel
theorem dX11_goesAlong_48 : decode cX11_goesAlong 48 = .ok (.istore_n 1, 1) := by decide +kernel
theorem dX11_goesAlong_49 : decode cX11_goesAlong 49 = .ok (.aload_n 0, 1) := by decide +kernel
theorem dX11_goesAlong_50 : decode cX11_goesAlong 50 = .ok (.getfield 46, 3) := by decide +kernel
theorem dX11_goesAlong_53 : decode cX11_goesAlong 53 = .ok (.iload_n 1, 1) := by decide +kernel
theorem dX11_goesAlong_54 : decode cX11_goesAlong 54 = .ok (.iconst 1, 1) := by decide +kernel
theorem dX11_goesAlong_55 : decode cX11_goesAlong 55 = .ok (.bastore, 1) := by decide +kernel
theorem dX11_goesAlong_56 : decode cX11_goesAlong 56 = .ok (.aload_n 0, 1) := by decide +kernel
theorem dX11_goesAlong_57 : decode cX11_goesAlong 57 = .ok (.getfield 53, 3) := by decide +kernel
theorem dX11_goesAlong_60 : decode cX11_goesAlong 60 = .ok (.iload_n 1, 1) := by decide +kernel
theorem dX11_goesAlong_61 : decode cX11_goesAlong 61 = .ok (.aload_n 0, 1) := by decide +kernel
theorem dX11_goesAlong_62 : decode cX11_goesAlong 62 = .ok (.getfield 37, 3) := by decide +kernel
theorem dX11_goesAlong_65 : decode cX11_goesAlong 65 = .ok (.iconst 2, 1) := by decide +kernel
theorem dX11_goesAlong_66 : decode cX11_goesAlong 66 = .ok (.iaload, 1) := by decide +kernel
theorem dX11_goesAlong_67 : decode cX11_goesAlong 67 = .ok (.iastore, 1) := by decide +kernel
theorem dX11_goesAlong_68 : decode cX11_goesAlong 68 = .ok (.aload_n 0, 1) := by decide +kernel
theorem dX11_goesAlong_69 : decode cX11_goesAlong 69 = .ok (.getfield 56, 3) := by decide +kernel
theorem dX11_goesAlong_72 : decode cX11_goesAlong 72 = .ok (.iload_n 1, 1) := by decide +kernel
theorem dX11_goesAlong_73 : decode cX11_goesAlong 73 = .ok (.aload_n 0, 1) := by decide +kernel
theorem dX11_goesAlong_74 : decode cX11_goesAlong 74 = .ok (.getfield 37, 3) := by decide +kernel
theorem dX11_goesAlong_77 : decode cX11_goesAlong 77 = .ok (.iconst 3, 1) := by decide +kernel
theorem dX11_goesAlong_78 : decode cX11_goesAlong 78 = .ok (.iaload, 1) := by decide +kernel
theorem dX11_goesAlong_79 : decode cX11_goesAlong 79 = .ok (.iastore, 1) := by decide +kernel
theorem dX11_goesAlong_80 : decode cX11_goesAlong 80 = .ok (.aload_n 0, 1) := by decide +kernel
theorem dX11_goesAlong_81 : decode cX11_goesAlong 81 = .ok (.invokevirtual 297, 3) := by decide +kernel
theorem dX11_goesAlong_84 : decode cX11_goesAlong 84 = .ok (.istore_n 2, 1) := by decide +kernel
theorem dX11_goesAlong_85 : decode cX11_goesAlong 85 = .ok (.iload_n 2, 1) := by decide +kernel
theorem dX11_goesAlong_86 : decode cX11_goesAlong 86 = .ok (.iconst (-1), 1) := by decide +kernel
theorem dX11_goesAlong_87 : decode cX11_goesAlong 87 = .ok (.if_icmp .eq 30, 3) := by decide +kernel
theorem dX11_goesAlong_90 : decode cX11_goesAlong 90 = .ok (.aload_n 0, 1) := by decide +kernel
theorem dX11_goesAlong_91 : decode cX11_goesAlong 91 = .ok (.getfield 273, 3) := by decide +kernel
theorem dX11_goesAlong_94 : decode cX11_goesAlong 94 = .ok (.ifCond .ne 23, 3) := by decide +kernel
theorem dX11_goesAlong_97 : decode cX11_goesAlong 97 = .ok (.aload_n 0, 1) := by decide +kernel
theorem dX11_goesAlong_98 : decode cX11_goesAlong 98 = .ok (.getfield 50, 3) := by decide +kernel
theorem dX11_goesAlong_101 : decode cX11_goesAlong 101 = .ok (.iload_n 2, 1) := by decide +kernel
theorem dX11_goesAlong_102 : decode cX11_goesAlong 102 = .ok (.iconst 1, 1) := by decide +kernel
theorem dX11_goesAlong_103 : decode cX11_goesAlong 103 = .ok (.bastore, 1) := by decide +kernel
theorem dX11_goesAlong_104 : decode cX11_goesAlong 104 = .ok (.aload_n 0, 1) := by decide +kernel
theorem dX11_goesAlong_105 : decode cX11_goesAlong 105 = .ok (.iload_n 2, 1) := by decide +kernel
theorem dX11_goesAlong_106 : decode cX11_goesAlong 106 = .ok (.invokevirtual 300, 3) := by decide +kernel
theorem dX11_goesAlong_109 : decode cX11_goesAlong 109 = .ok (.aload_n 0, 1) := by decide +kernel
theorem dX11_goesAlong_110 : decode cX11_goesAlong 110 = .ok (.invokevirtual 297, 3) := by decide +kernel
theorem dX11_goesAlong_113 : decode cX11_goesAlong 113 = .ok (.istore_n 2, 1) := by decide +kernel
theorem dX11_goesAlong_114 : decode cX11_goesAlong 114 = .ok (.goto (-29), 3) := by decide +kernel
theorem dX11_goesAlong_117 : decode cX11_goesAlong 117 = .ok (.return_, 1) := by decide +kernel
theorem dX11_nextArc_0 : decode cX11_nextArc 0 = .ok (.iconst 0, 1) := by decide +kernel
theorem dX11_nextArc_1 : decode cX11_nextArc 1 = .ok (.istore_n 1, 1) := by decide +kernel
theorem dX11_nextArc_2 : decode cX11_nextArc 2 = .ok (.iload_n 1, 1) := by decide +kernel
theorem dX11_nextArc_3 : decode cX11_nextArc 3 = .ok (.aload_n 0, 1) := by decide +kernel
theorem dX11_nextArc_4 : decode cX11_nextArc 4 = .ok (.getfield 31, 3) := by decide +kernel
theorem dX11_nextArc_7 : decode cX11_nextArc 7 = .ok (.bipush 6, 2) := by decide +kernel
theorem dX11_nextArc_9 : decode cX11_nextArc 9 = .ok (.iaload, 1) := by decide +kernel
theorem dX11_nextArc_10 : decode cX11_nextArc 10 = .ok (.if_icmp .ge 34, 3) := by decide +kernel
theorem dX11_nextArc_13 : decode cX11_nextArc 13 = .ok (.aload_n 0, 1) := by decide +kernel
theorem dX11_nextArc_14 : decode cX11_nextArc 14 = .ok (.getfield 50, 3) := by decide +kernel
theorem dX11_nextArc_17 : decode cX11_nextArc 17 = .ok (.iload_n 1, 1) := by decide +kernel
theorem dX11_nextArc_18 : decode cX11_nextArc 18 = .ok (.baload, 1) := by decide +kernel
theorem dX11_nextArc_19 : decode cX11_nextArc 19 = .ok (.ifCond .ne 19, 3) := by decide +kernel
theorem dX11_nextArc_22 : decode cX11_nextArc 22 = .ok (.aload_n 0, 1) := by decide +kernel
theorem dX11_nextArc_23 : decode cX11_nextArc 23 = .ok (.getfield 46, 3) := by decide +kernel
theorem dX11_nextArc_26 : decode cX11_nextArc 26 = .ok (.aload_n 0, 1) := by decide +kernel
theorem dX11_nextArc_27 : decode cX11_nextArc 27 = .ok (.iload_n 1, 1) := by decide +kernel
theorem dX11_nextArc_28 : decode cX11_nextArc 28 = .ok (.iconst 0, 1) := by decide +kernel
theorem dX11_nextArc_29 : decode cX11_nextArc 29 = .ok (.invokevirtual 270, 3) := by decide +kernel
theorem dX11_nextArc_32 : decode cX11_nextArc 32 = .ok (.baload, 1) := by decide +kernel
theorem dX11_nextArc_33 : decode cX11_nextArc 33 = .ok (.ifCond .eq 5, 3) := by decide +kernel
theorem dX11_nextArc_36 : decode cX11_nextArc 36 = .ok (.iload_n 1, 1) := by decide +kernel
theorem dX11_nextArc_37 : decode cX11_nextArc 37 = .ok (.ireturn, 1) := by decide +kernel
theorem dX11_nextArc_38 : decode cX11_nextArc 38 = .ok (.iinc 1 1, 3) := by decide +kernel
theorem dX11_nextArc_41 : decode cX11_nextArc 41 = .ok (.goto (-39), 3) := by decide +kernel
theorem dX11_nextArc_44 : decode cX11_nextArc 44 = .ok (.iconst (-1), 1) := by decide +kernel
theorem dX11_nextArc_45 : decode cX11_nextArc 45 = .ok (.ireturn, 1) := by decide +kernel
theorem dX11_goes_0 : decode cX11_goes 0 = .ok (.aload_n 0, 1) := by decide +kernel
theorem dX11_goes_1 : decode cX11_goes 1 = .ok (.iload_n 1, 1) := by decide +kernel
theorem dX11_goes_2 : decode cX11_goes 2 = .ok (.iconst 0, 1) := by decide +kernel
theorem dX11_goes_3 : decode cX11_goes 3 = .ok (.invokevirtual 270, 3) := by decide +kernel
theorem dX11_goes_6 : decode cX11_goes 6 = .ok (.istore_n 2, 1) := by decide +kernel
theorem dX11_goes_7 : decode cX11_goes 7 = .ok (.aload_n 0, 1) := by decide +kernel
theorem dX11_goes_8 : decode cX11_goes 8 = .ok (.iload_n 1, 1) := by decide +kernel
theorem dX11_goes_9 : decode cX11_goes 9 = .ok (.iconst 1, 1) := by decide +kernel
theorem dX11_goes_10 : decode cX11_goes 10 = .ok (.invokevirtual 270, 3) := by decide +kernel
theorem dX11_goes_13 : decode cX11_goes 13 = .ok (.istore_n 3, 1) := by decide +kernel
theorem dX11_goes_14 : decode cX11_goes 14 = .ok (.aload_n 0, 1) := by decide +kernel
theorem dX11_goes_15 : decode cX11_goes 15 = .ok (.getfield 53, 3) := by decide +kernel
theorem dX11_goes_18 : decode cX11_goes 18 = .ok (.iload_n 2, 1) := by decide +kernel
theorem dX11_goes_19 : decode cX11_goes 19 = .ok (.iaload, 1) := by decide +kernel
theorem dX11_goes_20 : decode cX11_goes 20 = .ok (.istore 4, 2) := by decide +kernel
theorem dX11_goes_22 : decode cX11_goes 22 = .ok (.aload_n 0, 1) := by decide +kernel
theorem dX11_goes_23 : decode cX11_goes 23 = .ok (.getfield 56, 3) := by decide +kernel
theorem dX11_goes_26 : decode cX11_goes 26 = .ok (.iload_n 2, 1) := by decide +kernel
theorem dX11_goes_27 : decode cX11_goes 27 = .ok (.iaload, 1) := by decide +kernel
theorem dX11_goes_28 : decode cX11_goes 28 = .ok (.istore 5, 2) := by decide +kernel
theorem dX11_goes_30 : decode cX11_goes 30 = .ok (.iload 4, 2) := by decide +kernel
theorem dX11_goes_32 : decode cX11_goes 32 = .ok (.aload_n 0, 1) := by decide +kernel
theorem dX11_goes_33 : decode cX11_goes 33 = .ok (.iload_n 1, 1) := by decide +kernel
theorem dX11_goes_34 : decode cX11_goes 34 = .ok (.iconst 2, 1) := by decide +kernel
theorem dX11_goes_35 : decode cX11_goes 35 = .ok (.invokevirtual 270, 3) := by decide +kernel
theorem dX11_goes_38 : decode cX11_goes 38 = .ok (.iand, 1) := by decide +kernel
theorem dX11_goes_39 : decode cX11_goes 39 = .ok (.iload 4, 2) := by decide +kernel
theorem dX11_goes_41 : decode cX11_goes 41 = .ok (.iconst (-1), 1) := by decide +kernel
theorem dX11_goes_42 : decode cX11_goes 42 = .ok (.ixor, 1) := by decide +kernel
theorem dX11_goes_43 : decode cX11_goes 43 = .ok (.aload_n 0, 1) := by decide +kernel
theorem dX11_goes_44 : decode cX11_goes 44 = .ok (.iload_n 1, 1) := by decide +kernel
theorem dX11_goes_45 : decode cX11_goes 45 = .ok (.iconst 3, 1) := by decide +kernel
theorem dX11_goes_46 : decode cX11_goes 46 = .ok (.invokevirtual 270, 3) := by decide +kernel
theorem dX11_goes_49 : decode cX11_goes 49 = .ok (.iand, 1) := by decide +kernel
theorem dX11_goes_50 : decode cX11_goes 50 = .ok (.ior, 1) := by decide +kernel
theorem dX11_goes_51 : decode cX11_goes 51 = .ok (.iload 5, 2) := by decide +kernel
theorem dX11_goes_53 : decode cX11_goes 53 = .ok (.aload_n 0, 1) := by decide +kernel
theorem dX11_goes_54 : decode cX11_goes 54 = .ok (.iload_n 1, 1) := by decide +kernel
theorem dX11_goes_55 : decode cX11_goes 55 = .ok (.iconst 4, 1) := by decide +kernel
theorem dX11_goes_56 : decode cX11_goes 56 = .ok (.invokevirtual 270, 3) := by decide +kernel
theorem dX11_goes_59 : decode cX11_goes 59 = .ok (.iand, 1) := by decide +kernel
theorem dX11_goes_60 : decode cX11_goes 60 = .ok (.ior, 1) := by decide +kernel
theorem dX11_goes_61 : decode cX11_goes 61 = .ok (.iload 5, 2) := by decide +kernel
theorem dX11_goes_63 : decode cX11_goes 63 = .ok (.iconst (-1), 1) := by decide +kernel
theorem dX11_goes_64 : decode cX11_goes 64 = .ok (.ixor, 1) := by decide +kernel
theorem dX11_goes_65 : decode cX11_goes 65 = .ok (.aload_n 0, 1) := by decide +kernel
theorem dX11_goes_66 : decode cX11_goes 66 = .ok (.iload_n 1, 1) := by decide +kernel
theorem dX11_goes_67 : decode cX11_goes 67 = .ok (.iconst 5, 1) := by decide +kernel
theorem dX11_goes_68 : decode cX11_goes 68 = .ok (.invokevirtual 270, 3) := by decide +kernel
theorem dX11_goes_71 : decode cX11_goes 71 = .ok (.iand, 1) := by decide +kernel
theorem dX11_goes_72 : decode cX11_goes 72 = .ok (.ior, 1) := by decide +kernel
theorem dX11_goes_73 : decode cX11_goes 73 = .ok (.ifCond .eq 10, 3) := by decide +kernel
theorem dX11_goes_76 : decode cX11_goes 76 = .ok (.aload_n 0, 1) := by decide +kernel
theorem dX11_goes_77 : decode cX11_goes 77 = .ok (.iconst 1, 1) := by decide +kernel
theorem dX11_goes_78 : decode cX11_goes 78 = .ok (.iload_n 1, 1) := by decide +kernel
theorem dX11_goes_79 : decode cX11_goes 79 = .ok (.invokevirtual 303, 3) := by decide +kernel
theorem dX11_goes_82 : decode cX11_goes 82 = .ok (.return_, 1) := by decide +kernel
theorem dX11_goes_83 : decode cX11_goes 83 = .ok (.iload 4, 2) := by decide +kernel
theorem dX11_goes_85 : decode cX11_goes 85 = .ok (.aload_n 0, 1) := by decide +kernel
theorem dX11_goes_86 : decode cX11_goes 86 = .ok (.iload_n 1, 1) := by decide +kernel
theorem dX11_goes_87 : decode cX11_goes 87 = .ok (.invokevirtual 307, 3) := by decide +kernel
theorem dX11_goes_90 : decode cX11_goes 90 = .ok (.ixor, 1) := by decide +kernel
theorem dX11_goes_91 : decode cX11_goes 91 = .ok (.istore 4, 2) := by decide +kernel
theorem dX11_goes_93 : decode cX11_goes 93 = .ok (.iload 5, 2) := by decide +kernel
theorem dX11_goes_95 : decode cX11_goes 95 = .ok (.aload_n 0, 1) := by decide +kernel
theorem dX11_goes_96 : decode cX11_goes 96 = .ok (.iload_n 1, 1) := by decide +kernel
theorem dX11_goes_97 : decode cX11_goes 97 = .ok (.iconst 4, 1) := by decide +kernel
theorem dX11_goes_98 : decode cX11_goes 98 = .ok (.invokevirtual 270, 3) := by decide +kernel
theorem dX11_goes_101 : decode cX11_goes 101 = .ok (.aload_n 0, 1) := by decide +kernel
theorem dX11_goes_102 : decode cX11_goes 102 = .ok (.iload_n 1, 1) := by decide +kernel
theorem dX11_goes_103 : decode cX11_goes 103 = .ok (.iconst 5, 1) := by decide +kernel
theorem dX11_goes_104 : decode cX11_goes 104 = .ok (.invokevirtual 270, 3) := by decide +kernel
theorem dX11_goes_107 : decode cX11_goes 107 = .ok (.ior, 1) := by decide +kernel
theorem dX11_goes_108 : decode cX11_goes 108 = .ok (.ixor, 1) := by decide +kernel
theorem dX11_goes_109 : decode cX11_goes 109 = .ok (.istore 5, 2) := by decide +kernel
theorem dX11_goes_111 : decode cX11_goes 111 = .ok (.aload_n 0, 1) := by decide +kernel
theorem dX11_goes_112 : decode cX11_goes 112 = .ok (.getfield 46, 3) := by decide +kernel
theorem dX11_goes_115 : decode cX11_goes 115 = .ok (.iload_n 3, 1) := by decide +kernel
theorem dX11_goes_116 : decode cX11_goes 116 = .ok (.baload, 1) := by decide +kernel
theorem dX11_goes_117 : decode cX11_goes 117 = .ok (.ifCond .eq 32, 3) := by decide +kernel
theorem dX11_goes_120 : decode cX11_goes 120 = .ok (.aload_n 0, 1) := by decide +kernel
theorem dX11_goes_121 : decode cX11_goes 121 = .ok (.getfield 53, 3) := by decide +kernel
theorem dX11_goes_124 : decode cX11_goes 124 = .ok (.iload_n 3, 1) := by decide +kernel
theorem dX11_goes_125 : decode cX11_goes 125 = .ok (.iaload, 1) := by decide +kernel
theorem dX11_goes_126 : decode cX11_goes 126 = .ok (.iload 4, 2) := by decide +kernel
theorem dX11_goes_128 : decode cX11_goes 128 = .ok (.if_icmp .ne 14, 3) := by decide +kernel
theorem dX11_goes_131 : decode cX11_goes 131 = .ok (.aload_n 0, 1) := by decide +kernel
theorem dX11_goes_132 : decode cX11_goes 132 = .ok (.getfield 56, 3) := by decide +kernel
theorem dX11_goes_135 : decode cX11_goes 135 = .ok (.iload_n 3, 1) := by decide +kernel
theorem dX11_goes_136 : decode cX11_goes 136 = .ok (.iaload, 1) := by decide +kernel
theorem dX11_goes_137 : decode cX11_goes 137 = .ok (.iload 5, 2) := by decide +kernel
theorem dX11_goes_139 : decode cX11_goes 139 = .ok (.if_icmp .eq 10, 3) := by decide +kernel
theorem dX11_goes_142 : decode cX11_goes 142 = .ok (.aload_n 0, 1) := by decide +kernel
theorem dX11_goes_143 : decode cX11_goes 143 = .ok (.iconst 2, 1) := by decide +kernel
theorem dX11_goes_144 : decode cX11_goes 144 = .ok (.iload_n 1, 1) := by decide +kernel
theorem dX11_goes_145 : decode cX11_goes 145 = .ok (.invokevirtual 303, 3) := by decide +kernel
theorem dX11_goes_148 : decode cX11_goes 148 = .ok (.return_, 1) := by decide +kernel
theorem dX11_goes_149 : decode cX11_goes 149 = .ok (.aload_n 0, 1) := by decide +kernel
theorem dX11_goes_150 : decode cX11_goes 150 = .ok (.getfield 46, 3) := by decide +kernel
theorem dX11_goes_153 : decode cX11_goes 153 = .ok (.iload_n 3, 1) := by decide +kernel
theorem dX11_goes_154 : decode cX11_goes 154 = .ok (.iconst 1, 1) := by decide +kernel
theorem dX11_goes_155 : decode cX11_goes 155 = .ok (.bastore, 1) := by decide +kernel
theorem dX11_goes_156 : decode cX11_goes 156 = .ok (.aload_n 0, 1) := by decide +kernel
theorem dX11_goes_157 : decode cX11_goes 157 = .ok (.getfield 53, 3) := by decide +kernel
theorem dX11_goes_160 : decode cX11_goes 160 = .ok (.iload_n 3, 1) := by decide +kernel
theorem dX11_goes_161 : decode cX11_goes 161 = .ok (.iload 4, 2) := by decide +kernel
theorem dX11_goes_163 : decode cX11_goes 163 = .ok (.iastore, 1) := by decide +kernel
theorem dX11_goes_164 : decode cX11_goes 164 = .ok (.aload_n 0, 1) := by decide +kernel
theorem dX11_goes_165 : decode cX11_goes 165 = .ok (.getfield 56, 3) := by decide +kernel
theorem dX11_goes_168 : decode cX11_goes 168 = .ok (.iload_n 3, 1) := by decide +kernel
theorem dX11_goes_169 : decode cX11_goes 169 = .ok (.iload 5, 2) := by decide +kernel
theorem dX11_goes_171 : decode cX11_goes 171 = .ok (.iastore, 1) := by decide +kernel
theorem dX11_goes_172 : decode cX11_goes 172 = .ok (.return_, 1) := by decide +kernel
theorem dX11_looksAtStates_0 : decode cX11_looksAtStates 0 = .ok (.iconst 0, 1) := by decide +kernel
theorem dX11_looksAtStates_1 : decode cX11_looksAtStates 1 = .ok (.istore_n 1, 1) := by decide +kernel
theorem dX11_looksAtStates_2 : decode cX11_looksAtStates 2 = .ok (.iload_n 1, 1) := by decide +kernel
theorem dX11_looksAtStates_3 : decode cX11_looksAtStates 3 = .ok (.aload_n 0, 1) := by decide +kernel
theorem dX11_looksAtStates_4 : decode cX11_looksAtStates 4 = .ok (.getfield 37, 3) := by decide +kernel
theorem dX11_looksAtStates_7 : decode cX11_looksAtStates 7 = .ok (.iconst 0, 1) := by decide +kernel
theorem dX11_looksAtStates_8 : decode cX11_looksAtStates 8 = .ok (.iaload, 1) := by decide +kernel
theorem dX11_looksAtStates_9 : decode cX11_looksAtStates 9 = .ok (.if_icmp .ge 24, 3) := by decide +kernel
theorem dX11_looksAtStates_12 : decode cX11_looksAtStates 12 = .ok (.aload_n 0, 1) := by decide +kernel
theorem dX11_looksAtStates_13 : decode cX11_looksAtStates 13 = .ok (.getfield 46, 3) := by decide +kernel
theorem dX11_looksAtStates_16 : decode cX11_looksAtStates 16 = .ok (.iload_n 1, 1) := by decide +kernel
theorem dX11_looksAtStates_17 : decode cX11_looksAtStates 17 = .ok (.baload, 1) := by decide +kernel
theorem dX11_looksAtStates_18 : decode cX11_looksAtStates 18 = .ok (.ifCond .ne 9, 3) := by decide +kernel
theorem dX11_looksAtStates_21 : decode cX11_looksAtStates 21 = .ok (.aload_n 0, 1) := by decide +kernel
theorem dX11_looksAtStates_22 : decode cX11_looksAtStates 22 = .ok (.iconst 3, 1) := by decide +kernel
theorem dX11_looksAtStates_23 : decode cX11_looksAtStates 23 = .ok (.iload_n 1, 1) := by decide +kernel
theorem dX11_looksAtStates_24 : decode cX11_looksAtStates 24 = .ok (.invokevirtual 303, 3) := by decide +kernel
theorem dX11_looksAtStates_27 : decode cX11_looksAtStates 27 = .ok (.iinc 1 1, 3) := by decide +kernel
theorem dX11_looksAtStates_30 : decode cX11_looksAtStates 30 = .ok (.goto (-28), 3) := by decide +kernel
theorem dX11_looksAtStates_33 : decode cX11_looksAtStates 33 = .ok (.return_, 1) := by decide +kernel
theorem dX11_looksAtBursts_0 : decode cX11_looksAtBursts 0 = .ok (.iconst 0, 1) := by decide +kernel
theorem dX11_looksAtBursts_1 : decode cX11_looksAtBursts 1 = .ok (.istore_n 1, 1) := by decide +kernel
theorem dX11_looksAtBursts_2 : decode cX11_looksAtBursts 2 = .ok (.iload_n 1, 1) := by decide +kernel
theorem dX11_looksAtBursts_3 : decode cX11_looksAtBursts 3 = .ok (.aload_n 0, 1) := by decide +kernel
theorem dX11_looksAtBursts_4 : decode cX11_looksAtBursts 4 = .ok (.getfield 31, 3) := by decide +kernel
theorem dX11_looksAtBursts_7 : decode cX11_looksAtBursts 7 = .ok (.bipush 6, 2) := by decide +kernel
theorem dX11_looksAtBursts_9 : decode cX11_looksAtBursts 9 = .ok (.iaload, 1) := by decide +kernel
theorem dX11_looksAtBursts_10 : decode cX11_looksAtBursts 10 = .ok (.if_icmp .ge 70, 3) := by decide +kernel
theorem dX11_looksAtBursts_13 : decode cX11_looksAtBursts 13 = .ok (.iconst 0, 1) := by decide +kernel
theorem dX11_looksAtBursts_14 : decode cX11_looksAtBursts 14 = .ok (.istore_n 2, 1) := by decide +kernel
theorem dX11_looksAtBursts_15 : decode cX11_looksAtBursts 15 = .ok (.iload_n 2, 1) := by decide +kernel
theorem dX11_looksAtBursts_16 : decode cX11_looksAtBursts 16 = .ok (.aload_n 0, 1) := by decide +kernel
theorem dX11_looksAtBursts_17 : decode cX11_looksAtBursts 17 = .ok (.getfield 31, 3) := by decide +kernel
theorem dX11_looksAtBursts_20 : decode cX11_looksAtBursts 20 = .ok (.bipush 6, 2) := by decide +kernel
theorem dX11_looksAtBursts_22 : decode cX11_looksAtBursts 22 = .ok (.iaload, 1) := by decide +kernel
theorem dX11_looksAtBursts_23 : decode cX11_looksAtBursts 23 = .ok (.if_icmp .ge 51, 3) := by decide +kernel
theorem dX11_looksAtBursts_26 : decode cX11_looksAtBursts 26 = .ok (.iload_n 2, 1) := by decide +kernel
theorem dX11_looksAtBursts_27 : decode cX11_looksAtBursts 27 = .ok (.iload_n 1, 1) := by decide +kernel
theorem dX11_looksAtBursts_28 : decode cX11_looksAtBursts 28 = .ok (.if_icmp .eq 40, 3) := by decide +kernel
theorem dX11_looksAtBursts_31 : decode cX11_looksAtBursts 31 = .ok (.aload_n 0, 1) := by decide +kernel
theorem dX11_looksAtBursts_32 : decode cX11_looksAtBursts 32 = .ok (.iload_n 2, 1) := by decide +kernel
theorem dX11_looksAtBursts_33 : decode cX11_looksAtBursts 33 = .ok (.iconst 0, 1) := by decide +kernel
theorem dX11_looksAtBursts_34 : decode cX11_looksAtBursts 34 = .ok (.invokevirtual 270, 3) := by decide +kernel
theorem dX11_looksAtBursts_37 : decode cX11_looksAtBursts 37 = .ok (.aload_n 0, 1) := by decide +kernel
theorem dX11_looksAtBursts_38 : decode cX11_looksAtBursts 38 = .ok (.iload_n 1, 1) := by decide +kernel
theorem dX11_looksAtBursts_39 : decode cX11_looksAtBursts 39 = .ok (.iconst 0, 1) := by decide +kernel
theorem dX11_looksAtBursts_40 : decode cX11_looksAtBursts 40 = .ok (.invokevirtual 270, 3) := by decide +kernel
theorem dX11_looksAtBursts_43 : decode cX11_looksAtBursts 43 = .ok (.if_icmp .ne 25, 3) := by decide +kernel
theorem dX11_looksAtBursts_46 : decode cX11_looksAtBursts 46 = .ok (.aload_n 0, 1) := by decide +kernel
theorem dX11_looksAtBursts_47 : decode cX11_looksAtBursts 47 = .ok (.iload_n 1, 1) := by decide +kernel
theorem dX11_looksAtBursts_48 : decode cX11_looksAtBursts 48 = .ok (.invokevirtual 307, 3) := by decide +kernel
theorem dX11_looksAtBursts_51 : decode cX11_looksAtBursts 51 = .ok (.aload_n 0, 1) := by decide +kernel
theorem dX11_looksAtBursts_52 : decode cX11_looksAtBursts 52 = .ok (.iload_n 2, 1) := by decide +kernel
theorem dX11_looksAtBursts_53 : decode cX11_looksAtBursts 53 = .ok (.invokevirtual 307, 3) := by decide +kernel
theorem dX11_looksAtBursts_56 : decode cX11_looksAtBursts 56 = .ok (.iconst (-1), 1) := by decide +kernel
theorem dX11_looksAtBursts_57 : decode cX11_looksAtBursts 57 = .ok (.ixor, 1) := by decide +kernel
theorem dX11_looksAtBursts_58 : decode cX11_looksAtBursts 58 = .ok (.iand, 1) := by decide +kernel
theorem dX11_looksAtBursts_59 : decode cX11_looksAtBursts 59 = .ok (.ifCond .ne 9, 3) := by decide +kernel
theorem dX11_looksAtBursts_62 : decode cX11_looksAtBursts 62 = .ok (.aload_n 0, 1) := by decide +kernel
theorem dX11_looksAtBursts_63 : decode cX11_looksAtBursts 63 = .ok (.iconst 4, 1) := by decide +kernel
theorem dX11_looksAtBursts_64 : decode cX11_looksAtBursts 64 = .ok (.iload_n 1, 1) := by decide +kernel
theorem dX11_looksAtBursts_65 : decode cX11_looksAtBursts 65 = .ok (.invokevirtual 303, 3) := by decide +kernel
theorem dX11_looksAtBursts_68 : decode cX11_looksAtBursts 68 = .ok (.iinc 2 1, 3) := by decide +kernel
theorem dX11_looksAtBursts_71 : decode cX11_looksAtBursts 71 = .ok (.goto (-56), 3) := by decide +kernel
theorem dX11_looksAtBursts_74 : decode cX11_looksAtBursts 74 = .ok (.iinc 1 1, 3) := by decide +kernel
theorem dX11_looksAtBursts_77 : decode cX11_looksAtBursts 77 = .ok (.goto (-75), 3) := by decide +kernel
theorem dX11_looksAtBursts_80 : decode cX11_looksAtBursts 80 = .ok (.return_, 1) := by decide +kernel
theorem dX11_codeOf_0 : decode cX11_codeOf 0 = .ok (.aload_n 0, 1) := by decide +kernel
theorem dX11_codeOf_1 : decode cX11_codeOf 1 = .ok (.getfield 31, 3) := by decide +kernel
theorem dX11_codeOf_4 : decode cX11_codeOf 4 = .ok (.iload_n 1, 1) := by decide +kernel
theorem dX11_codeOf_5 : decode cX11_codeOf 5 = .ok (.iaload, 1) := by decide +kernel
theorem dX11_codeOf_6 : decode cX11_codeOf 6 = .ok (.ireturn, 1) := by decide +kernel
theorem dX11_pointOf_0 : decode cX11_pointOf 0 = .ok (.aload_n 0, 1) := by decide +kernel
theorem dX11_pointOf_1 : decode cX11_pointOf 1 = .ok (.getfield 53, 3) := by decide +kernel
theorem dX11_pointOf_4 : decode cX11_pointOf 4 = .ok (.iload_n 1, 1) := by decide +kernel
theorem dX11_pointOf_5 : decode cX11_pointOf 5 = .ok (.iaload, 1) := by decide +kernel
theorem dX11_pointOf_6 : decode cX11_pointOf 6 = .ok (.aload_n 0, 1) := by decide +kernel
theorem dX11_pointOf_7 : decode cX11_pointOf 7 = .ok (.iload_n 1, 1) := by decide +kernel
theorem dX11_pointOf_8 : decode cX11_pointOf 8 = .ok (.invokevirtual 310, 3) := by decide +kernel
theorem dX11_pointOf_11 : decode cX11_pointOf 11 = .ok (.iconst 4, 1) := by decide +kernel
theorem dX11_pointOf_12 : decode cX11_pointOf 12 = .ok (.ishl, 1) := by decide +kernel
theorem dX11_pointOf_13 : decode cX11_pointOf 13 = .ok (.ior, 1) := by decide +kernel
theorem dX11_pointOf_14 : decode cX11_pointOf 14 = .ok (.ireturn, 1) := by decide +kernel
theorem dX11_wants_0 : decode cX11_wants 0 = .ok (.aload_n 0, 1) := by decide +kernel
theorem dX11_wants_1 : decode cX11_wants 1 = .ok (.getfield 56, 3) := by decide +kernel
theorem dX11_wants_4 : decode cX11_wants 4 = .ok (.iload_n 1, 1) := by decide +kernel
theorem dX11_wants_5 : decode cX11_wants 5 = .ok (.iaload, 1) := by decide +kernel
theorem dX11_wants_6 : decode cX11_wants 6 = .ok (.aload_n 0, 1) := by decide +kernel
theorem dX11_wants_7 : decode cX11_wants 7 = .ok (.iload_n 1, 1) := by decide +kernel
theorem dX11_wants_8 : decode cX11_wants 8 = .ok (.invokevirtual 310, 3) := by decide +kernel
theorem dX11_wants_11 : decode cX11_wants 11 = .ok (.iconst 3, 1) := by decide +kernel
theorem dX11_wants_12 : decode cX11_wants 12 = .ok (.ishl, 1) := by decide +kernel
theorem dX11_wants_13 : decode cX11_wants 13 = .ok (.ior, 1) := by decide +kernel
theorem dX11_wants_14 : decode cX11_wants 14 = .ok (.ireturn, 1) := by decide +kernel
theorem dX11_lays_0 : decode cX11_lays 0 = .ok (.iconst 0, 1) := by decide +kernel
theorem dX11_lays_1 : decode cX11_lays 1 = .ok (.istore_n 3, 1) := by decide +kernel
theorem dX11_lays_2 : decode cX11_lays 2 = .ok (.iload_n 3, 1) := by decide +kernel
theorem dX11_lays_3 : decode cX11_lays 3 = .ok (.iconst 5, 1) := by decide +kernel
theorem dX11_lays_4 : decode cX11_lays 4 = .ok (.if_icmp .ge 44, 3) := by decide +kernel
theorem dX11_lays_7 : decode cX11_lays 7 = .ok (.iload_n 2, 1) := by decide +kernel
theorem dX11_lays_8 : decode cX11_lays 8 = .ok (.iload_n 3, 1) := by decide +kernel
theorem dX11_lays_9 : decode cX11_lays 9 = .ok (.invokestatic 114, 3) := by decide +kernel
theorem dX11_lays_12 : decode cX11_lays 12 = .ok (.ifCond .eq 18, 3) := by decide +kernel
theorem dX11_lays_15 : decode cX11_lays 15 = .ok (.aload_n 0, 1) := by decide +kernel
theorem dX11_lays_16 : decode cX11_lays 16 = .ok (.getfield 59, 3) := by decide +kernel
theorem dX11_lays_19 : decode cX11_lays 19 = .ok (.iload_n 3, 1) := by decide +kernel
theorem dX11_lays_20 : decode cX11_lays 20 = .ok (.dup2, 1) := by decide +kernel
theorem dX11_lays_21 : decode cX11_lays 21 = .ok (.laload, 1) := by decide +kernel
theorem dX11_lays_22 : decode cX11_lays 22 = .ok (.lconst 1, 1) := by decide +kernel
theorem dX11_lays_23 : decode cX11_lays 23 = .ok (.iload_n 1, 1) := by decide +kernel
theorem dX11_lays_24 : decode cX11_lays 24 = .ok (.lshl, 1) := by decide +kernel
theorem dX11_lays_25 : decode cX11_lays 25 = .ok (.lor, 1) := by decide +kernel
theorem dX11_lays_26 : decode cX11_lays 26 = .ok (.lastore, 1) := by decide +kernel
theorem dX11_lays_27 : decode cX11_lays 27 = .ok (.goto 15, 3) := by decide +kernel
theorem dX11_lays_30 : decode cX11_lays 30 = .ok (.aload_n 0, 1) := by decide +kernel
theorem dX11_lays_31 : decode cX11_lays 31 = .ok (.getfield 62, 3) := by decide +kernel
theorem dX11_lays_34 : decode cX11_lays 34 = .ok (.iload_n 3, 1) := by decide +kernel
theorem dX11_lays_35 : decode cX11_lays 35 = .ok (.dup2, 1) := by decide +kernel
theorem dX11_lays_36 : decode cX11_lays 36 = .ok (.laload, 1) := by decide +kernel
theorem dX11_lays_37 : decode cX11_lays 37 = .ok (.lconst 1, 1) := by decide +kernel
theorem dX11_lays_38 : decode cX11_lays 38 = .ok (.iload_n 1, 1) := by decide +kernel
theorem dX11_lays_39 : decode cX11_lays 39 = .ok (.lshl, 1) := by decide +kernel
theorem dX11_lays_40 : decode cX11_lays 40 = .ok (.lor, 1) := by decide +kernel
theorem dX11_lays_41 : decode cX11_lays 41 = .ok (.lastore, 1) := by decide +kernel
theorem dX11_lays_42 : decode cX11_lays 42 = .ok (.iinc 3 1, 3) := by decide +kernel
theorem dX11_lays_45 : decode cX11_lays 45 = .ok (.goto (-43), 3) := by decide +kernel
theorem dX11_lays_48 : decode cX11_lays 48 = .ok (.return_, 1) := by decide +kernel
theorem dX11_clashes_0 : decode cX11_clashes 0 = .ok (.iconst 0, 1) := by decide +kernel
theorem dX11_clashes_1 : decode cX11_clashes 1 = .ok (.istore_n 1, 1) := by decide +kernel
theorem dX11_clashes_2 : decode cX11_clashes 2 = .ok (.iload_n 1, 1) := by decide +kernel
theorem dX11_clashes_3 : decode cX11_clashes 3 = .ok (.iconst 5, 1) := by decide +kernel
theorem dX11_clashes_4 : decode cX11_clashes 4 = .ok (.if_icmp .ge 29, 3) := by decide +kernel
theorem dX11_clashes_7 : decode cX11_clashes 7 = .ok (.aload_n 0, 1) := by decide +kernel
theorem dX11_clashes_8 : decode cX11_clashes 8 = .ok (.getfield 59, 3) := by decide +kernel
theorem dX11_clashes_11 : decode cX11_clashes 11 = .ok (.iload_n 1, 1) := by decide +kernel
theorem dX11_clashes_12 : decode cX11_clashes 12 = .ok (.laload, 1) := by decide +kernel
theorem dX11_clashes_13 : decode cX11_clashes 13 = .ok (.aload_n 0, 1) := by decide +kernel
theorem dX11_clashes_14 : decode cX11_clashes 14 = .ok (.getfield 62, 3) := by decide +kernel
theorem dX11_clashes_17 : decode cX11_clashes 17 = .ok (.iload_n 1, 1) := by decide +kernel
theorem dX11_clashes_18 : decode cX11_clashes 18 = .ok (.laload, 1) := by decide +kernel
theorem dX11_clashes_19 : decode cX11_clashes 19 = .ok (.land, 1) := by decide +kernel
theorem dX11_clashes_20 : decode cX11_clashes 20 = .ok (.lconst 0, 1) := by decide +kernel
theorem dX11_clashes_21 : decode cX11_clashes 21 = .ok (.lcmp, 1) := by decide +kernel
theorem dX11_clashes_22 : decode cX11_clashes 22 = .ok (.ifCond .eq 5, 3) := by decide +kernel
theorem dX11_clashes_25 : decode cX11_clashes 25 = .ok (.iconst 1, 1) := by decide +kernel
theorem dX11_clashes_26 : decode cX11_clashes 26 = .ok (.ireturn, 1) := by decide +kernel
theorem dX11_clashes_27 : decode cX11_clashes 27 = .ok (.iinc 1 1, 3) := by decide +kernel
theorem dX11_clashes_30 : decode cX11_clashes 30 = .ok (.goto (-28), 3) := by decide +kernel
theorem dX11_clashes_33 : decode cX11_clashes 33 = .ok (.iconst 0, 1) := by decide +kernel
theorem dX11_clashes_34 : decode cX11_clashes 34 = .ok (.ireturn, 1) := by decide +kernel
theorem dX11_laysArc_0 : decode cX11_laysArc 0 = .ok (.aload_n 0, 1) := by decide +kernel
theorem dX11_laysArc_1 : decode cX11_laysArc 1 = .ok (.iload_n 1, 1) := by decide +kernel
theorem dX11_laysArc_2 : decode cX11_laysArc 2 = .ok (.iconst 0, 1) := by decide +kernel
theorem dX11_laysArc_3 : decode cX11_laysArc 3 = .ok (.invokevirtual 270, 3) := by decide +kernel
theorem dX11_laysArc_6 : decode cX11_laysArc 6 = .ok (.istore_n 2, 1) := by decide +kernel
theorem dX11_laysArc_7 : decode cX11_laysArc 7 = .ok (.aload_n 0, 1) := by decide +kernel
theorem dX11_laysArc_8 : decode cX11_laysArc 8 = .ok (.iload_n 1, 1) := by decide +kernel
theorem dX11_laysArc_9 : decode cX11_laysArc 9 = .ok (.iconst 1, 1) := by decide +kernel
theorem dX11_laysArc_10 : decode cX11_laysArc 10 = .ok (.invokevirtual 270, 3) := by decide +kernel
theorem dX11_laysArc_13 : decode cX11_laysArc 13 = .ok (.istore_n 3, 1) := by decide +kernel
theorem dX11_laysArc_14 : decode cX11_laysArc 14 = .ok (.aload_n 0, 1) := by decide +kernel
theorem dX11_laysArc_15 : decode cX11_laysArc 15 = .ok (.iload_n 1, 1) := by decide +kernel
theorem dX11_laysArc_16 : decode cX11_laysArc 16 = .ok (.invokevirtual 307, 3) := by decide +kernel
theorem dX11_laysArc_19 : decode cX11_laysArc 19 = .ok (.istore 4, 2) := by decide +kernel
theorem dX11_laysArc_21 : decode cX11_laysArc 21 = .ok (.iconst 0, 1) := by decide +kernel
theorem dX11_laysArc_22 : decode cX11_laysArc 22 = .ok (.istore 5, 2) := by decide +kernel
theorem dX11_laysArc_24 : decode cX11_laysArc 24 = .ok (.iload 5, 2) := by decide +kernel
theorem dX11_laysArc_26 : decode cX11_laysArc 26 = .ok (.bipush 16, 2) := by decide +kernel
theorem dX11_laysArc_28 : decode cX11_laysArc 28 = .ok (.if_icmp .ge 51, 3) := by decide +kernel
theorem dX11_laysArc_31 : decode cX11_laysArc 31 = .ok (.iload 5, 2) := by decide +kernel
theorem dX11_laysArc_33 : decode cX11_laysArc 33 = .ok (.iload 4, 2) := by decide +kernel
theorem dX11_laysArc_35 : decode cX11_laysArc 35 = .ok (.iconst (-1), 1) := by decide +kernel
theorem dX11_laysArc_36 : decode cX11_laysArc 36 = .ok (.ixor, 1) := by decide +kernel
theorem dX11_laysArc_37 : decode cX11_laysArc 37 = .ok (.iand, 1) := by decide +kernel
theorem dX11_laysArc_38 : decode cX11_laysArc 38 = .ok (.ifCond .ne 35, 3) := by decide +kernel
theorem dX11_laysArc_41 : decode cX11_laysArc 41 = .ok (.aload_n 0, 1) := by decide +kernel
theorem dX11_laysArc_42 : decode cX11_laysArc 42 = .ok (.aload_n 0, 1) := by decide +kernel
theorem dX11_laysArc_43 : decode cX11_laysArc 43 = .ok (.iload_n 2, 1) := by decide +kernel
theorem dX11_laysArc_44 : decode cX11_laysArc 44 = .ok (.invokevirtual 313, 3) := by decide +kernel
theorem dX11_laysArc_47 : decode cX11_laysArc 47 = .ok (.iload 5, 2) := by decide +kernel
theorem dX11_laysArc_49 : decode cX11_laysArc 49 = .ok (.ixor, 1) := by decide +kernel
theorem dX11_laysArc_50 : decode cX11_laysArc 50 = .ok (.iload 5, 2) := by decide +kernel
theorem dX11_laysArc_52 : decode cX11_laysArc 52 = .ok (.iload 4, 2) := by decide +kernel
theorem dX11_laysArc_54 : decode cX11_laysArc 54 = .ok (.if_icmp .ne 11, 3) := by decide +kernel
theorem dX11_laysArc_57 : decode cX11_laysArc 57 = .ok (.aload_n 0, 1) := by decide +kernel
theorem dX11_laysArc_58 : decode cX11_laysArc 58 = .ok (.iload_n 3, 1) := by decide +kernel
theorem dX11_laysArc_59 : decode cX11_laysArc 59 = .ok (.invokevirtual 316, 3) := by decide +kernel
theorem dX11_laysArc_62 : decode cX11_laysArc 62 = .ok (.goto 8, 3) := by decide +kernel
theorem dX11_laysArc_65 : decode cX11_laysArc 65 = .ok (.aload_n 0, 1) := by decide +kernel
theorem dX11_laysArc_66 : decode cX11_laysArc 66 = .ok (.iload_n 2, 1) := by decide +kernel
theorem dX11_laysArc_67 : decode cX11_laysArc 67 = .ok (.invokevirtual 316, 3) := by decide +kernel
theorem dX11_laysArc_70 : decode cX11_laysArc 70 = .ok (.invokevirtual 319, 3) := by decide +kernel
theorem dX11_laysArc_73 : decode cX11_laysArc 73 = .ok (.iinc 5 1, 3) := by decide +kernel
theorem dX11_laysArc_76 : decode cX11_laysArc 76 = .ok (.goto (-52), 3) := by decide +kernel
theorem dX11_laysArc_79 : decode cX11_laysArc 79 = .ok (.aload_n 0, 1) := by decide +kernel
theorem dX11_laysArc_80 : decode cX11_laysArc 80 = .ok (.iload_n 2, 1) := by decide +kernel
theorem dX11_laysArc_81 : decode cX11_laysArc 81 = .ok (.invokevirtual 310, 3) := by decide +kernel
theorem dX11_laysArc_84 : decode cX11_laysArc 84 = .ok (.aload_n 0, 1) := by decide +kernel
theorem dX11_laysArc_85 : decode cX11_laysArc 85 = .ok (.iload_n 3, 1) := by decide +kernel
theorem dX11_laysArc_86 : decode cX11_laysArc 86 = .ok (.invokevirtual 310, 3) := by decide +kernel
theorem dX11_laysArc_89 : decode cX11_laysArc 89 = .ok (.ixor, 1) := by decide +kernel
theorem dX11_laysArc_90 : decode cX11_laysArc 90 = .ok (.istore 5, 2) := by decide +kernel
theorem dX11_laysArc_92 : decode cX11_laysArc 92 = .ok (.iconst 0, 1) := by decide +kernel
theorem dX11_laysArc_93 : decode cX11_laysArc 93 = .ok (.istore 6, 2) := by decide +kernel
theorem dX11_laysArc_95 : decode cX11_laysArc 95 = .ok (.iload 6, 2) := by decide +kernel
theorem dX11_laysArc_97 : decode cX11_laysArc 97 = .ok (.iconst 4, 1) := by decide +kernel
theorem dX11_laysArc_98 : decode cX11_laysArc 98 = .ok (.if_icmp .ge 38, 3) := by decide +kernel
theorem dX11_laysArc_101 : decode cX11_laysArc 101 = .ok (.iload 6, 2) := by decide +kernel
theorem dX11_laysArc_103 : decode cX11_laysArc 103 = .ok (.iload 5, 2) := by decide +kernel
theorem dX11_laysArc_105 : decode cX11_laysArc 105 = .ok (.iconst (-1), 1) := by decide +kernel
theorem dX11_laysArc_106 : decode cX11_laysArc 106 = .ok (.ixor, 1) := by decide +kernel
theorem dX11_laysArc_107 : decode cX11_laysArc 107 = .ok (.iand, 1) := by decide +kernel
theorem dX11_laysArc_108 : decode cX11_laysArc 108 = .ok (.ifCond .ne 22, 3) := by decide +kernel
theorem dX11_laysArc_111 : decode cX11_laysArc 111 = .ok (.aload_n 0, 1) := by decide +kernel
theorem dX11_laysArc_112 : decode cX11_laysArc 112 = .ok (.aload_n 0, 1) := by decide +kernel
theorem dX11_laysArc_113 : decode cX11_laysArc 113 = .ok (.iload_n 3, 1) := by decide +kernel
theorem dX11_laysArc_114 : decode cX11_laysArc 114 = .ok (.invokevirtual 313, 3) := by decide +kernel
theorem dX11_laysArc_117 : decode cX11_laysArc 117 = .ok (.iload 6, 2) := by decide +kernel
theorem dX11_laysArc_119 : decode cX11_laysArc 119 = .ok (.iconst 4, 1) := by decide +kernel
theorem dX11_laysArc_120 : decode cX11_laysArc 120 = .ok (.ishl, 1) := by decide +kernel
theorem dX11_laysArc_121 : decode cX11_laysArc 121 = .ok (.ixor, 1) := by decide +kernel
theorem dX11_laysArc_122 : decode cX11_laysArc 122 = .ok (.aload_n 0, 1) := by decide +kernel
theorem dX11_laysArc_123 : decode cX11_laysArc 123 = .ok (.iload_n 3, 1) := by decide +kernel
theorem dX11_laysArc_124 : decode cX11_laysArc 124 = .ok (.invokevirtual 316, 3) := by decide +kernel
theorem dX11_laysArc_127 : decode cX11_laysArc 127 = .ok (.invokevirtual 319, 3) := by decide +kernel
theorem dX11_laysArc_130 : decode cX11_laysArc 130 = .ok (.iinc 6 1, 3) := by decide +kernel
theorem dX11_laysArc_133 : decode cX11_laysArc 133 = .ok (.goto (-38), 3) := by decide +kernel
theorem dX11_laysArc_136 : decode cX11_laysArc 136 = .ok (.return_, 1) := by decide +kernel
theorem dX11_unlikeState_0 : decode cX11_unlikeState 0 = .ok (.iconst 0, 1) := by decide +kernel
theorem dX11_unlikeState_1 : decode cX11_unlikeState 1 = .ok (.istore_n 1, 1) := by decide +kernel
theorem dX11_unlikeState_2 : decode cX11_unlikeState 2 = .ok (.iload_n 1, 1) := by decide +kernel
theorem dX11_unlikeState_3 : decode cX11_unlikeState 3 = .ok (.aload_n 0, 1) := by decide +kernel
theorem dX11_unlikeState_4 : decode cX11_unlikeState 4 = .ok (.getfield 37, 3) := by decide +kernel
theorem dX11_unlikeState_7 : decode cX11_unlikeState 7 = .ok (.iconst 0, 1) := by decide +kernel
theorem dX11_unlikeState_8 : decode cX11_unlikeState 8 = .ok (.iaload, 1) := by decide +kernel
theorem dX11_unlikeState_9 : decode cX11_unlikeState 9 = .ok (.if_icmp .ge 52, 3) := by decide +kernel
theorem dX11_unlikeState_12 : decode cX11_unlikeState 12 = .ok (.iconst 0, 1) := by decide +kernel
theorem dX11_unlikeState_13 : decode cX11_unlikeState 13 = .ok (.istore_n 2, 1) := by decide +kernel
theorem dX11_unlikeState_14 : decode cX11_unlikeState 14 = .ok (.iload_n 2, 1) := by decide +kernel
theorem dX11_unlikeState_15 : decode cX11_unlikeState 15 = .ok (.iload_n 1, 1) := by decide +kernel
theorem dX11_unlikeState_16 : decode cX11_unlikeState 16 = .ok (.if_icmp .ge 39, 3) := by decide +kernel
theorem dX11_unlikeState_19 : decode cX11_unlikeState 19 = .ok (.aload_n 0, 1) := by decide +kernel
theorem dX11_unlikeState_20 : decode cX11_unlikeState 20 = .ok (.iload_n 2, 1) := by decide +kernel
theorem dX11_unlikeState_21 : decode cX11_unlikeState 21 = .ok (.invokevirtual 313, 3) := by decide +kernel
theorem dX11_unlikeState_24 : decode cX11_unlikeState 24 = .ok (.aload_n 0, 1) := by decide +kernel
theorem dX11_unlikeState_25 : decode cX11_unlikeState 25 = .ok (.iload_n 1, 1) := by decide +kernel
theorem dX11_unlikeState_26 : decode cX11_unlikeState 26 = .ok (.invokevirtual 313, 3) := by decide +kernel
theorem dX11_unlikeState_29 : decode cX11_unlikeState 29 = .ok (.if_icmp .ne 20, 3) := by decide +kernel
theorem dX11_unlikeState_32 : decode cX11_unlikeState 32 = .ok (.aload_n 0, 1) := by decide +kernel
theorem dX11_unlikeState_33 : decode cX11_unlikeState 33 = .ok (.getfield 56, 3) := by decide +kernel
theorem dX11_unlikeState_36 : decode cX11_unlikeState 36 = .ok (.iload_n 2, 1) := by decide +kernel
theorem dX11_unlikeState_37 : decode cX11_unlikeState 37 = .ok (.iaload, 1) := by decide +kernel
theorem dX11_unlikeState_38 : decode cX11_unlikeState 38 = .ok (.aload_n 0, 1) := by decide +kernel
theorem dX11_unlikeState_39 : decode cX11_unlikeState 39 = .ok (.getfield 56, 3) := by decide +kernel
theorem dX11_unlikeState_42 : decode cX11_unlikeState 42 = .ok (.iload_n 1, 1) := by decide +kernel
theorem dX11_unlikeState_43 : decode cX11_unlikeState 43 = .ok (.iaload, 1) := by decide +kernel
theorem dX11_unlikeState_44 : decode cX11_unlikeState 44 = .ok (.if_icmp .eq 5, 3) := by decide +kernel
theorem dX11_unlikeState_47 : decode cX11_unlikeState 47 = .ok (.iload_n 1, 1) := by decide +kernel
theorem dX11_unlikeState_48 : decode cX11_unlikeState 48 = .ok (.ireturn, 1) := by decide +kernel
theorem dX11_unlikeState_49 : decode cX11_unlikeState 49 = .ok (.iinc 2 1, 3) := by decide +kernel
theorem dX11_unlikeState_52 : decode cX11_unlikeState 52 = .ok (.goto (-38), 3) := by decide +kernel
theorem dX11_unlikeState_55 : decode cX11_unlikeState 55 = .ok (.iinc 1 1, 3) := by decide +kernel
theorem dX11_unlikeState_58 : decode cX11_unlikeState 58 = .ok (.goto (-56), 3) := by decide +kernel
theorem dX11_unlikeState_61 : decode cX11_unlikeState 61 = .ok (.iconst (-1), 1) := by decide +kernel
theorem dX11_unlikeState_62 : decode cX11_unlikeState 62 = .ok (.ireturn, 1) := by decide +kernel
theorem dX11_clashingArc_0 : decode cX11_clashingArc 0 = .ok (.iconst 0, 1) := by decide +kernel
theorem dX11_clashingArc_1 : decode cX11_clashingArc 1 = .ok (.istore_n 1, 1) := by decide +kernel
theorem dX11_clashingArc_2 : decode cX11_clashingArc 2 = .ok (.iload_n 1, 1) := by decide +kernel
theorem dX11_clashingArc_3 : decode cX11_clashingArc 3 = .ok (.iconst 5, 1) := by decide +kernel
theorem dX11_clashingArc_4 : decode cX11_clashingArc 4 = .ok (.if_icmp .ge 23, 3) := by decide +kernel
theorem dX11_clashingArc_7 : decode cX11_clashingArc 7 = .ok (.aload_n 0, 1) := by decide +kernel
theorem dX11_clashingArc_8 : decode cX11_clashingArc 8 = .ok (.getfield 59, 3) := by decide +kernel
theorem dX11_clashingArc_11 : decode cX11_clashingArc 11 = .ok (.iload_n 1, 1) := by decide +kernel
theorem dX11_clashingArc_12 : decode cX11_clashingArc 12 = .ok (.lconst 0, 1) := by decide +kernel
theorem dX11_clashingArc_13 : decode cX11_clashingArc 13 = .ok (.lastore, 1) := by decide +kernel
theorem dX11_clashingArc_14 : decode cX11_clashingArc 14 = .ok (.aload_n 0, 1) := by decide +kernel
theorem dX11_clashingArc_15 : decode cX11_clashingArc 15 = .ok (.getfield 62, 3) := by decide +kernel
theorem dX11_clashingArc_18 : decode cX11_clashingArc 18 = .ok (.iload_n 1, 1) := by decide +kernel
theorem dX11_clashingArc_19 : decode cX11_clashingArc 19 = .ok (.lconst 0, 1) := by decide +kernel
theorem dX11_clashingArc_20 : decode cX11_clashingArc 20 = .ok (.lastore, 1) := by decide +kernel
theorem dX11_clashingArc_21 : decode cX11_clashingArc 21 = .ok (.iinc 1 1, 3) := by decide +kernel
theorem dX11_clashingArc_24 : decode cX11_clashingArc 24 = .ok (.goto (-22), 3) := by decide +kernel
theorem dX11_clashingArc_27 : decode cX11_clashingArc 27 = .ok (.iconst 0, 1) := by decide +kernel
theorem dX11_clashingArc_28 : decode cX11_clashingArc 28 = .ok (.istore_n 1, 1) := by decide +kernel
theorem dX11_clashingArc_29 : decode cX11_clashingArc 29 = .ok (.iload_n 1, 1) := by decide +kernel
theorem dX11_clashingArc_30 : decode cX11_clashingArc 30 = .ok (.aload_n 0, 1) := by decide +kernel
theorem dX11_clashingArc_31 : decode cX11_clashingArc 31 = .ok (.getfield 37, 3) := by decide +kernel
theorem dX11_clashingArc_34 : decode cX11_clashingArc 34 = .ok (.iconst 0, 1) := by decide +kernel
theorem dX11_clashingArc_35 : decode cX11_clashingArc 35 = .ok (.iaload, 1) := by decide +kernel
theorem dX11_clashingArc_36 : decode cX11_clashingArc 36 = .ok (.if_icmp .ge 23, 3) := by decide +kernel
theorem dX11_clashingArc_39 : decode cX11_clashingArc 39 = .ok (.aload_n 0, 1) := by decide +kernel
theorem dX11_clashingArc_40 : decode cX11_clashingArc 40 = .ok (.aload_n 0, 1) := by decide +kernel
theorem dX11_clashingArc_41 : decode cX11_clashingArc 41 = .ok (.iload_n 1, 1) := by decide +kernel
theorem dX11_clashingArc_42 : decode cX11_clashingArc 42 = .ok (.invokevirtual 313, 3) := by decide +kernel
theorem dX11_clashingArc_45 : decode cX11_clashingArc 45 = .ok (.aload_n 0, 1) := by decide +kernel
theorem dX11_clashingArc_46 : decode cX11_clashingArc 46 = .ok (.iload_n 1, 1) := by decide +kernel
theorem dX11_clashingArc_47 : decode cX11_clashingArc 47 = .ok (.invokevirtual 316, 3) := by decide +kernel
theorem dX11_clashingArc_50 : decode cX11_clashingArc 50 = .ok (.invokevirtual 319, 3) := by decide +kernel
theorem dX11_clashingArc_53 : decode cX11_clashingArc 53 = .ok (.iinc 1 1, 3) := by decide +kernel
theorem dX11_clashingArc_56 : decode cX11_clashingArc 56 = .ok (.goto (-27), 3) := by decide +kernel
theorem dX11_clashingArc_59 : decode cX11_clashingArc 59 = .ok (.iconst 0, 1) := by decide +kernel
theorem dX11_clashingArc_60 : decode cX11_clashingArc 60 = .ok (.istore_n 1, 1) := by decide +kernel
theorem dX11_clashingArc_61 : decode cX11_clashingArc 61 = .ok (.iload_n 1, 1) := by decide +kernel
theorem dX11_clashingArc_62 : decode cX11_clashingArc 62 = .ok (.aload_n 0, 1) := by decide +kernel
theorem dX11_clashingArc_63 : decode cX11_clashingArc 63 = .ok (.getfield 31, 3) := by decide +kernel
theorem dX11_clashingArc_66 : decode cX11_clashingArc 66 = .ok (.bipush 6, 2) := by decide +kernel
theorem dX11_clashingArc_68 : decode cX11_clashingArc 68 = .ok (.iaload, 1) := by decide +kernel
theorem dX11_clashingArc_69 : decode cX11_clashingArc 69 = .ok (.if_icmp .ge 23, 3) := by decide +kernel
theorem dX11_clashingArc_72 : decode cX11_clashingArc 72 = .ok (.aload_n 0, 1) := by decide +kernel
theorem dX11_clashingArc_73 : decode cX11_clashingArc 73 = .ok (.iload_n 1, 1) := by decide +kernel
theorem dX11_clashingArc_74 : decode cX11_clashingArc 74 = .ok (.invokevirtual 322, 3) := by decide +kernel
theorem dX11_clashingArc_77 : decode cX11_clashingArc 77 = .ok (.aload_n 0, 1) := by decide +kernel
theorem dX11_clashingArc_78 : decode cX11_clashingArc 78 = .ok (.invokevirtual 325, 3) := by decide +kernel
theorem dX11_clashingArc_81 : decode cX11_clashingArc 81 = .ok (.ifCond .eq 5, 3) := by decide +kernel
theorem dX11_clashingArc_84 : decode cX11_clashingArc 84 = .ok (.iload_n 1, 1) := by decide +kernel
theorem dX11_clashingArc_85 : decode cX11_clashingArc 85 = .ok (.ireturn, 1) := by decide +kernel
theorem dX11_clashingArc_86 : decode cX11_clashingArc 86 = .ok (.iinc 1 1, 3) := by decide +kernel
theorem dX11_clashingArc_89 : decode cX11_clashingArc 89 = .ok (.goto (-28), 3) := by decide +kernel
theorem dX11_clashingArc_92 : decode cX11_clashingArc 92 = .ok (.iconst (-1), 1) := by decide +kernel
theorem dX11_clashingArc_93 : decode cX11_clashingArc 93 = .ok (.ireturn, 1) := by decide +kernel
theorem dX11_looksAtCodes_0 : decode cX11_looksAtCodes 0 = .ok (.aload_n 0, 1) := by decide +kernel
theorem dX11_looksAtCodes_1 : decode cX11_looksAtCodes 1 = .ok (.invokevirtual 329, 3) := by decide +kernel
theorem dX11_looksAtCodes_4 : decode cX11_looksAtCodes 4 = .ok (.istore_n 1, 1) := by decide +kernel
theorem dX11_looksAtCodes_5 : decode cX11_looksAtCodes 5 = .ok (.iload_n 1, 1) := by decide +kernel
theorem dX11_looksAtCodes_6 : decode cX11_looksAtCodes 6 = .ok (.iconst (-1), 1) := by decide +kernel
theorem dX11_looksAtCodes_7 : decode cX11_looksAtCodes 7 = .ok (.if_icmp .eq 9, 3) := by decide +kernel
theorem dX11_looksAtCodes_10 : decode cX11_looksAtCodes 10 = .ok (.aload_n 0, 1) := by decide +kernel
theorem dX11_looksAtCodes_11 : decode cX11_looksAtCodes 11 = .ok (.iconst 5, 1) := by decide +kernel
theorem dX11_looksAtCodes_12 : decode cX11_looksAtCodes 12 = .ok (.iload_n 1, 1) := by decide +kernel
theorem dX11_looksAtCodes_13 : decode cX11_looksAtCodes 13 = .ok (.invokevirtual 303, 3) := by decide +kernel
theorem dX11_looksAtCodes_16 : decode cX11_looksAtCodes 16 = .ok (.aload_n 0, 1) := by decide +kernel
theorem dX11_looksAtCodes_17 : decode cX11_looksAtCodes 17 = .ok (.getfield 273, 3) := by decide +kernel
theorem dX11_looksAtCodes_20 : decode cX11_looksAtCodes 20 = .ok (.ifCond .ne 10, 3) := by decide +kernel
theorem dX11_looksAtCodes_23 : decode cX11_looksAtCodes 23 = .ok (.aload_n 0, 1) := by decide +kernel
theorem dX11_looksAtCodes_24 : decode cX11_looksAtCodes 24 = .ok (.invokevirtual 332, 3) := by decide +kernel
theorem dX11_looksAtCodes_27 : decode cX11_looksAtCodes 27 = .ok (.goto 4, 3) := by decide +kernel
theorem dX11_looksAtCodes_30 : decode cX11_looksAtCodes 30 = .ok (.iconst (-1), 1) := by decide +kernel
theorem dX11_looksAtCodes_31 : decode cX11_looksAtCodes 31 = .ok (.istore_n 2, 1) := by decide +kernel
theorem dX11_looksAtCodes_32 : decode cX11_looksAtCodes 32 = .ok (.iload_n 2, 1) := by decide +kernel
theorem dX11_looksAtCodes_33 : decode cX11_looksAtCodes 33 = .ok (.iconst (-1), 1) := by decide +kernel
theorem dX11_looksAtCodes_34 : decode cX11_looksAtCodes 34 = .ok (.if_icmp .eq 10, 3) := by decide +kernel
theorem dX11_looksAtCodes_37 : decode cX11_looksAtCodes 37 = .ok (.aload_n 0, 1) := by decide +kernel
theorem dX11_looksAtCodes_38 : decode cX11_looksAtCodes 38 = .ok (.bipush 6, 2) := by decide +kernel
theorem dX11_looksAtCodes_40 : decode cX11_looksAtCodes 40 = .ok (.iload_n 2, 1) := by decide +kernel
theorem dX11_looksAtCodes_41 : decode cX11_looksAtCodes 41 = .ok (.invokevirtual 303, 3) := by decide +kernel
theorem dX11_looksAtCodes_44 : decode cX11_looksAtCodes 44 = .ok (.return_, 1) := by decide +kernel
theorem dX11_bad_0 : decode cX11_bad 0 = .ok (.aload_n 0, 1) := by decide +kernel
theorem dX11_bad_1 : decode cX11_bad 1 = .ok (.iconst 0, 1) := by decide +kernel
theorem dX11_bad_2 : decode cX11_bad 2 = .ok (.putfield 3, 3) := by decide +kernel
theorem dX11_bad_5 : decode cX11_bad 5 = .ok (.aload_n 0, 1) := by decide +kernel
theorem dX11_bad_6 : decode cX11_bad 6 = .ok (.getfield 257, 3) := by decide +kernel
theorem dX11_bad_9 : decode cX11_bad 9 = .ok (.ifCond .ne 9, 3) := by decide +kernel
theorem dX11_bad_12 : decode cX11_bad 12 = .ok (.aload_n 0, 1) := by decide +kernel
theorem dX11_bad_13 : decode cX11_bad 13 = .ok (.iconst 1, 1) := by decide +kernel
theorem dX11_bad_14 : decode cX11_bad 14 = .ok (.invokevirtual 251, 3) := by decide +kernel
theorem dX11_bad_17 : decode cX11_bad 17 = .ok (.ireturn, 1) := by decide +kernel
theorem dX11_bad_18 : decode cX11_bad 18 = .ok (.aload_n 0, 1) := by decide +kernel
theorem dX11_bad_19 : decode cX11_bad 19 = .ok (.aload_n 0, 1) := by decide +kernel
theorem dX11_bad_20 : decode cX11_bad 20 = .ok (.getfield 273, 3) := by decide +kernel
theorem dX11_bad_23 : decode cX11_bad 23 = .ok (.invokevirtual 267, 3) := by decide +kernel
theorem dX11_bad_26 : decode cX11_bad 26 = .ok (.ireturn, 1) := by decide +kernel
theorem dX11_badAt_0 : decode cX11_badAt 0 = .ok (.aload_n 0, 1) := by decide +kernel
theorem dX11_badAt_1 : decode cX11_badAt 1 = .ok (.iconst 0, 1) := by decide +kernel
theorem dX11_badAt_2 : decode cX11_badAt 2 = .ok (.putfield 3, 3) := by decide +kernel
theorem dX11_badAt_5 : decode cX11_badAt 5 = .ok (.aload_n 0, 1) := by decide +kernel
theorem dX11_badAt_6 : decode cX11_badAt 6 = .ok (.getfield 257, 3) := by decide +kernel
theorem dX11_badAt_9 : decode cX11_badAt 9 = .ok (.ifCond .ne 9, 3) := by decide +kernel
theorem dX11_badAt_12 : decode cX11_badAt 12 = .ok (.aload_n 0, 1) := by decide +kernel
theorem dX11_badAt_13 : decode cX11_badAt 13 = .ok (.iconst 1, 1) := by decide +kernel
theorem dX11_badAt_14 : decode cX11_badAt 14 = .ok (.invokevirtual 251, 3) := by decide +kernel
theorem dX11_badAt_17 : decode cX11_badAt 17 = .ok (.ireturn, 1) := by decide +kernel
theorem dX11_badAt_18 : decode cX11_badAt 18 = .ok (.aload_n 0, 1) := by decide +kernel
theorem dX11_badAt_19 : decode cX11_badAt 19 = .ok (.aload_n 0, 1) := by decide +kernel
theorem dX11_badAt_20 : decode cX11_badAt 20 = .ok (.getfield 276, 3) := by decide +kernel
theorem dX11_badAt_23 : decode cX11_badAt 23 = .ok (.invokevirtual 267, 3) := by decide +kernel
theorem dX11_badAt_26 : decode cX11_badAt 26 = .ok (.ireturn, 1) := by decide +kernel
theorem dX11_isState_0 : decode cX11_isState 0 = .ok (.aload_n 0, 1) := by decide +kernel
theorem dX11_isState_1 : decode cX11_isState 1 = .ok (.getfield 257, 3) := by decide +kernel
theorem dX11_isState_4 : decode cX11_isState 4 = .ok (.ifCond .eq 21, 3) := by decide +kernel
theorem dX11_isState_7 : decode cX11_isState 7 = .ok (.iload_n 1, 1) := by decide +kernel
theorem dX11_isState_8 : decode cX11_isState 8 = .ok (.ifCond .lt 17, 3) := by decide +kernel
theorem dX11_isState_11 : decode cX11_isState 11 = .ok (.iload_n 1, 1) := by decide +kernel
theorem dX11_isState_12 : decode cX11_isState 12 = .ok (.aload_n 0, 1) := by decide +kernel
theorem dX11_isState_13 : decode cX11_isState 13 = .ok (.getfield 37, 3) := by decide +kernel
theorem dX11_isState_16 : decode cX11_isState 16 = .ok (.iconst 0, 1) := by decide +kernel
theorem dX11_isState_17 : decode cX11_isState 17 = .ok (.iaload, 1) := by decide +kernel
theorem dX11_isState_18 : decode cX11_isState 18 = .ok (.if_icmp .ge 7, 3) := by decide +kernel
theorem dX11_isState_21 : decode cX11_isState 21 = .ok (.iconst 1, 1) := by decide +kernel
theorem dX11_isState_22 : decode cX11_isState 22 = .ok (.goto 4, 3) := by decide +kernel
theorem dX11_isState_25 : decode cX11_isState 25 = .ok (.iconst 0, 1) := by decide +kernel
theorem dX11_isState_26 : decode cX11_isState 26 = .ok (.ireturn, 1) := by decide +kernel
theorem dX11_isArc_0 : decode cX11_isArc 0 = .ok (.aload_n 0, 1) := by decide +kernel
theorem dX11_isArc_1 : decode cX11_isArc 1 = .ok (.getfield 257, 3) := by decide +kernel
theorem dX11_isArc_4 : decode cX11_isArc 4 = .ok (.ifCond .eq 22, 3) := by decide +kernel
theorem dX11_isArc_7 : decode cX11_isArc 7 = .ok (.iload_n 1, 1) := by decide +kernel
theorem dX11_isArc_8 : decode cX11_isArc 8 = .ok (.ifCond .lt 18, 3) := by decide +kernel
theorem dX11_isArc_11 : decode cX11_isArc 11 = .ok (.iload_n 1, 1) := by decide +kernel
theorem dX11_isArc_12 : decode cX11_isArc 12 = .ok (.aload_n 0, 1) := by decide +kernel
theorem dX11_isArc_13 : decode cX11_isArc 13 = .ok (.getfield 31, 3) := by decide +kernel
theorem dX11_isArc_16 : decode cX11_isArc 16 = .ok (.bipush 6, 2) := by decide +kernel
theorem dX11_isArc_18 : decode cX11_isArc 18 = .ok (.iaload, 1) := by decide +kernel
theorem dX11_isArc_19 : decode cX11_isArc 19 = .ok (.if_icmp .ge 7, 3) := by decide +kernel
theorem dX11_isArc_22 : decode cX11_isArc 22 = .ok (.iconst 1, 1) := by decide +kernel
theorem dX11_isArc_23 : decode cX11_isArc 23 = .ok (.goto 4, 3) := by decide +kernel
theorem dX11_isArc_26 : decode cX11_isArc 26 = .ok (.iconst 0, 1) := by decide +kernel
theorem dX11_isArc_27 : decode cX11_isArc 27 = .ok (.ireturn, 1) := by decide +kernel
theorem dX11_state_0 : decode cX11_state 0 = .ok (.aload_n 0, 1) := by decide +kernel
theorem dX11_state_1 : decode cX11_state 1 = .ok (.iconst 0, 1) := by decide +kernel
theorem dX11_state_2 : decode cX11_state 2 = .ok (.putfield 3, 3) := by decide +kernel
theorem dX11_state_5 : decode cX11_state 5 = .ok (.aload_n 0, 1) := by decide +kernel
theorem dX11_state_6 : decode cX11_state 6 = .ok (.iload_n 1, 1) := by decide +kernel
theorem dX11_state_7 : decode cX11_state 7 = .ok (.invokevirtual 335, 3) := by decide +kernel
theorem dX11_state_10 : decode cX11_state 10 = .ok (.ifCond .eq 12, 3) := by decide +kernel
theorem dX11_state_13 : decode cX11_state 13 = .ok (.iload_n 2, 1) := by decide +kernel
theorem dX11_state_14 : decode cX11_state 14 = .ok (.iconst 0, 1) := by decide +kernel
theorem dX11_state_15 : decode cX11_state 15 = .ok (.iconst 2, 1) := by decide +kernel
theorem dX11_state_16 : decode cX11_state 16 = .ok (.invokestatic 138, 3) := by decide +kernel
theorem dX11_state_19 : decode cX11_state 19 = .ok (.ifCond .ne 9, 3) := by decide +kernel
theorem dX11_state_22 : decode cX11_state 22 = .ok (.aload_n 0, 1) := by decide +kernel
theorem dX11_state_23 : decode cX11_state 23 = .ok (.iconst 1, 1) := by decide +kernel
theorem dX11_state_24 : decode cX11_state 24 = .ok (.invokevirtual 251, 3) := by decide +kernel
theorem dX11_state_27 : decode cX11_state 27 = .ok (.ireturn, 1) := by decide +kernel
theorem dX11_state_28 : decode cX11_state 28 = .ok (.iload_n 2, 1) := by decide +kernel
theorem dX11_state_29 : decode cX11_state 29 = .ok (.ifCond .ne 13, 3) := by decide +kernel
theorem dX11_state_32 : decode cX11_state 32 = .ok (.aload_n 0, 1) := by decide +kernel
theorem dX11_state_33 : decode cX11_state 33 = .ok (.aload_n 0, 1) := by decide +kernel
theorem dX11_state_34 : decode cX11_state 34 = .ok (.iload_n 1, 1) := by decide +kernel
theorem dX11_state_35 : decode cX11_state 35 = .ok (.invokevirtual 310, 3) := by decide +kernel
theorem dX11_state_38 : decode cX11_state 38 = .ok (.invokevirtual 267, 3) := by decide +kernel
theorem dX11_state_41 : decode cX11_state 41 = .ok (.ireturn, 1) := by decide +kernel
theorem dX11_state_42 : decode cX11_state 42 = .ok (.aload_n 0, 1) := by decide +kernel
theorem dX11_state_43 : decode cX11_state 43 = .ok (.aload_n 0, 1) := by decide +kernel
theorem dX11_state_44 : decode cX11_state 44 = .ok (.getfield 46, 3) := by decide +kernel
theorem dX11_state_47 : decode cX11_state 47 = .ok (.iload_n 1, 1) := by decide +kernel
theorem dX11_state_48 : decode cX11_state 48 = .ok (.baload, 1) := by decide +kernel
theorem dX11_state_49 : decode cX11_state 49 = .ok (.ifCond .ne 8, 3) := by decide +kernel
theorem dX11_state_52 : decode cX11_state 52 = .ok (.bipush (-2), 2) := by decide +kernel
theorem dX11_state_54 : decode cX11_state 54 = .ok (.goto 23, 3) := by decide +kernel
theorem dX11_state_57 : decode cX11_state 57 = .ok (.iload_n 2, 1) := by decide +kernel
theorem dX11_state_58 : decode cX11_state 58 = .ok (.iconst 1, 1) := by decide +kernel
theorem dX11_state_59 : decode cX11_state 59 = .ok (.if_icmp .ne 12, 3) := by decide +kernel
theorem dX11_state_62 : decode cX11_state 62 = .ok (.aload_n 0, 1) := by decide +kernel
theorem dX11_state_63 : decode cX11_state 63 = .ok (.getfield 53, 3) := by decide +kernel
theorem dX11_state_66 : decode cX11_state 66 = .ok (.iload_n 1, 1) := by decide +kernel
theorem dX11_state_67 : decode cX11_state 67 = .ok (.iaload, 1) := by decide +kernel
theorem dX11_state_68 : decode cX11_state 68 = .ok (.goto 9, 3) := by decide +kernel
theorem dX11_state_71 : decode cX11_state 71 = .ok (.aload_n 0, 1) := by decide +kernel
theorem dX11_state_72 : decode cX11_state 72 = .ok (.getfield 56, 3) := by decide +kernel
theorem dX11_state_75 : decode cX11_state 75 = .ok (.iload_n 1, 1) := by decide +kernel
theorem dX11_state_76 : decode cX11_state 76 = .ok (.iaload, 1) := by decide +kernel
theorem dX11_state_77 : decode cX11_state 77 = .ok (.invokevirtual 267, 3) := by decide +kernel
theorem dX11_state_80 : decode cX11_state 80 = .ok (.ireturn, 1) := by decide +kernel
theorem dX11_arc_0 : decode cX11_arc 0 = .ok (.aload_n 0, 1) := by decide +kernel
theorem dX11_arc_1 : decode cX11_arc 1 = .ok (.iconst 0, 1) := by decide +kernel
theorem dX11_arc_2 : decode cX11_arc 2 = .ok (.putfield 3, 3) := by decide +kernel
theorem dX11_arc_5 : decode cX11_arc 5 = .ok (.aload_n 0, 1) := by decide +kernel
theorem dX11_arc_6 : decode cX11_arc 6 = .ok (.iload_n 1, 1) := by decide +kernel
theorem dX11_arc_7 : decode cX11_arc 7 = .ok (.invokevirtual 338, 3) := by decide +kernel
theorem dX11_arc_10 : decode cX11_arc 10 = .ok (.ifCond .eq 13, 3) := by decide +kernel
theorem dX11_arc_13 : decode cX11_arc 13 = .ok (.iload_n 2, 1) := by decide +kernel
theorem dX11_arc_14 : decode cX11_arc 14 = .ok (.iconst 0, 1) := by decide +kernel
theorem dX11_arc_15 : decode cX11_arc 15 = .ok (.bipush 6, 2) := by decide +kernel
theorem dX11_arc_17 : decode cX11_arc 17 = .ok (.invokestatic 138, 3) := by decide +kernel
theorem dX11_arc_20 : decode cX11_arc 20 = .ok (.ifCond .ne 9, 3) := by decide +kernel
theorem dX11_arc_23 : decode cX11_arc 23 = .ok (.aload_n 0, 1) := by decide +kernel
theorem dX11_arc_24 : decode cX11_arc 24 = .ok (.iconst 1, 1) := by decide +kernel
theorem dX11_arc_25 : decode cX11_arc 25 = .ok (.invokevirtual 251, 3) := by decide +kernel
theorem dX11_arc_28 : decode cX11_arc 28 = .ok (.ireturn, 1) := by decide +kernel
theorem dX11_arc_29 : decode cX11_arc 29 = .ok (.aload_n 0, 1) := by decide +kernel
theorem dX11_arc_30 : decode cX11_arc 30 = .ok (.iload_n 2, 1) := by decide +kernel
theorem dX11_arc_31 : decode cX11_arc 31 = .ok (.bipush 6, 2) := by decide +kernel
theorem dX11_arc_33 : decode cX11_arc 33 = .ok (.if_icmp .ge 12, 3) := by decide +kernel
theorem dX11_arc_36 : decode cX11_arc 36 = .ok (.aload_n 0, 1) := by decide +kernel
theorem dX11_arc_37 : decode cX11_arc 37 = .ok (.iload_n 1, 1) := by decide +kernel
theorem dX11_arc_38 : decode cX11_arc 38 = .ok (.iload_n 2, 1) := by decide +kernel
theorem dX11_arc_39 : decode cX11_arc 39 = .ok (.invokevirtual 270, 3) := by decide +kernel
theorem dX11_arc_42 : decode cX11_arc 42 = .ok (.goto 17, 3) := by decide +kernel
theorem dX11_arc_45 : decode cX11_arc 45 = .ok (.aload_n 0, 1) := by decide +kernel
theorem dX11_arc_46 : decode cX11_arc 46 = .ok (.getfield 50, 3) := by decide +kernel
theorem dX11_arc_49 : decode cX11_arc 49 = .ok (.iload_n 1, 1) := by decide +kernel
theorem dX11_arc_50 : decode cX11_arc 50 = .ok (.baload, 1) := by decide +kernel
theorem dX11_arc_51 : decode cX11_arc 51 = .ok (.ifCond .eq 7, 3) := by decide +kernel
theorem dX11_arc_54 : decode cX11_arc 54 = .ok (.iconst 1, 1) := by decide +kernel
theorem dX11_arc_55 : decode cX11_arc 55 = .ok (.goto 4, 3) := by decide +kernel
theorem dX11_arc_58 : decode cX11_arc 58 = .ok (.iconst 0, 1) := by decide +kernel
theorem dX11_arc_59 : decode cX11_arc 59 = .ok (.invokevirtual 267, 3) := by decide +kernel
theorem dX11_arc_62 : decode cX11_arc 62 = .ok (.ireturn, 1) := by decide +kernel
theorem dX11_gate_0 : decode cX11_gate 0 = .ok (.aload_n 0, 1) := by decide +kernel
theorem dX11_gate_1 : decode cX11_gate 1 = .ok (.iconst 0, 1) := by decide +kernel
theorem dX11_gate_2 : decode cX11_gate 2 = .ok (.putfield 3, 3) := by decide +kernel
theorem dX11_gate_5 : decode cX11_gate 5 = .ok (.aload_n 0, 1) := by decide +kernel
theorem dX11_gate_6 : decode cX11_gate 6 = .ok (.getfield 257, 3) := by decide +kernel
theorem dX11_gate_9 : decode cX11_gate 9 = .ok (.ifCond .eq 27, 3) := by decide +kernel
theorem dX11_gate_12 : decode cX11_gate 12 = .ok (.iload_n 1, 1) := by decide +kernel
theorem dX11_gate_13 : decode cX11_gate 13 = .ok (.ifCond .lt 23, 3) := by decide +kernel
theorem dX11_gate_16 : decode cX11_gate 16 = .ok (.iload_n 1, 1) := by decide +kernel
theorem dX11_gate_17 : decode cX11_gate 17 = .ok (.aload_n 0, 1) := by decide +kernel
theorem dX11_gate_18 : decode cX11_gate 18 = .ok (.getfield 31, 3) := by decide +kernel
theorem dX11_gate_21 : decode cX11_gate 21 = .ok (.bipush 55, 2) := by decide +kernel
theorem dX11_gate_23 : decode cX11_gate 23 = .ok (.iaload, 1) := by decide +kernel
theorem dX11_gate_24 : decode cX11_gate 24 = .ok (.if_icmp .ge 12, 3) := by decide +kernel
theorem dX11_gate_27 : decode cX11_gate 27 = .ok (.iload_n 2, 1) := by decide +kernel
theorem dX11_gate_28 : decode cX11_gate 28 = .ok (.iconst 0, 1) := by decide +kernel
theorem dX11_gate_29 : decode cX11_gate 29 = .ok (.iconst 1, 1) := by decide +kernel
theorem dX11_gate_30 : decode cX11_gate 30 = .ok (.invokestatic 138, 3) := by decide +kernel
theorem dX11_gate_33 : decode cX11_gate 33 = .ok (.ifCond .ne 9, 3) := by decide +kernel
theorem dX11_gate_36 : decode cX11_gate 36 = .ok (.aload_n 0, 1) := by decide +kernel
theorem dX11_gate_37 : decode cX11_gate 37 = .ok (.iconst 1, 1) := by decide +kernel
theorem dX11_gate_38 : decode cX11_gate 38 = .ok (.invokevirtual 251, 3) := by decide +kernel
theorem dX11_gate_41 : decode cX11_gate 41 = .ok (.ireturn, 1) := by decide +kernel
theorem dX11_gate_42 : decode cX11_gate 42 = .ok (.aload_n 0, 1) := by decide +kernel
theorem dX11_gate_43 : decode cX11_gate 43 = .ok (.aload_n 0, 1) := by decide +kernel
theorem dX11_gate_44 : decode cX11_gate 44 = .ok (.getfield 31, 3) := by decide +kernel
theorem dX11_gate_47 : decode cX11_gate 47 = .ok (.bipush 56, 2) := by decide +kernel
theorem dX11_gate_49 : decode cX11_gate 49 = .ok (.iconst 2, 1) := by decide +kernel
theorem dX11_gate_50 : decode cX11_gate 50 = .ok (.iload_n 1, 1) := by decide +kernel
theorem dX11_gate_51 : decode cX11_gate 51 = .ok (.imul, 1) := by decide +kernel
theorem dX11_gate_52 : decode cX11_gate 52 = .ok (.iadd, 1) := by decide +kernel
theorem dX11_gate_53 : decode cX11_gate 53 = .ok (.iload_n 2, 1) := by decide +kernel
theorem dX11_gate_54 : decode cX11_gate 54 = .ok (.iadd, 1) := by decide +kernel
theorem dX11_gate_55 : decode cX11_gate 55 = .ok (.iaload, 1) := by decide +kernel
theorem dX11_gate_56 : decode cX11_gate 56 = .ok (.invokevirtual 267, 3) := by decide +kernel
theorem dX11_gate_59 : decode cX11_gate 59 = .ok (.ireturn, 1) := by decide +kernel
theorem dX11_isFunction_0 : decode cX11_isFunction 0 = .ok (.aload_n 0, 1) := by decide +kernel
theorem dX11_isFunction_1 : decode cX11_isFunction 1 = .ok (.getfield 257, 3) := by decide +kernel
theorem dX11_isFunction_4 : decode cX11_isFunction 4 = .ok (.ifCond .eq 16, 3) := by decide +kernel
theorem dX11_isFunction_7 : decode cX11_isFunction 7 = .ok (.iload_n 1, 1) := by decide +kernel
theorem dX11_isFunction_8 : decode cX11_isFunction 8 = .ok (.iconst 0, 1) := by decide +kernel
theorem dX11_isFunction_9 : decode cX11_isFunction 9 = .ok (.iconst 4, 1) := by decide +kernel
theorem dX11_isFunction_10 : decode cX11_isFunction 10 = .ok (.invokestatic 138, 3) := by decide +kernel
theorem dX11_isFunction_13 : decode cX11_isFunction 13 = .ok (.ifCond .eq 7, 3) := by decide +kernel
theorem dX11_isFunction_16 : decode cX11_isFunction 16 = .ok (.iconst 1, 1) := by decide +kernel
theorem dX11_isFunction_17 : decode cX11_isFunction 17 = .ok (.goto 4, 3) := by decide +kernel
theorem dX11_isFunction_20 : decode cX11_isFunction 20 = .ok (.iconst 0, 1) := by decide +kernel
theorem dX11_isFunction_21 : decode cX11_isFunction 21 = .ok (.ireturn, 1) := by decide +kernel
theorem dX11_refuses_0 : decode cX11_refuses 0 = .ok (.aload_n 0, 1) := by decide +kernel
theorem dX11_refuses_1 : decode cX11_refuses 1 = .ok (.iload_n 1, 1) := by decide +kernel
theorem dX11_refuses_2 : decode cX11_refuses 2 = .ok (.invokevirtual 341, 3) := by decide +kernel
theorem dX11_refuses_5 : decode cX11_refuses 5 = .ok (.ifCond .ne 7, 3) := by decide +kernel
theorem dX11_refuses_8 : decode cX11_refuses 8 = .ok (.iconst 1, 1) := by decide +kernel
theorem dX11_refuses_9 : decode cX11_refuses 9 = .ok (.goto 15, 3) := by decide +kernel
theorem dX11_refuses_12 : decode cX11_refuses 12 = .ok (.aload_n 0, 1) := by decide +kernel
theorem dX11_refuses_13 : decode cX11_refuses 13 = .ok (.getfield 273, 3) := by decide +kernel
theorem dX11_refuses_16 : decode cX11_refuses 16 = .ok (.ifCond .le 7, 3) := by decide +kernel
theorem dX11_refuses_19 : decode cX11_refuses 19 = .ok (.iconst 5, 1) := by decide +kernel
theorem dX11_refuses_20 : decode cX11_refuses 20 = .ok (.goto 4, 3) := by decide +kernel
theorem dX11_refuses_23 : decode cX11_refuses 23 = .ok (.iconst 0, 1) := by decide +kernel
theorem dX11_refuses_24 : decode cX11_refuses 24 = .ok (.ireturn, 1) := by decide +kernel
theorem dX11_at_0 : decode cX11_at 0 = .ok (.aload_n 0, 1) := by decide +kernel
theorem dX11_at_1 : decode cX11_at 1 = .ok (.iconst 0, 1) := by decide +kernel
theorem dX11_at_2 : decode cX11_at 2 = .ok (.putfield 3, 3) := by decide +kernel
theorem dX11_at_5 : decode cX11_at 5 = .ok (.aload_n 0, 1) := by decide +kernel
theorem dX11_at_6 : decode cX11_at 6 = .ok (.iload_n 1, 1) := by decide +kernel
theorem dX11_at_7 : decode cX11_at 7 = .ok (.invokevirtual 344, 3) := by decide +kernel
theorem dX11_at_10 : decode cX11_at 10 = .ok (.istore_n 3, 1) := by decide +kernel
theorem dX11_at_11 : decode cX11_at 11 = .ok (.iload_n 3, 1) := by decide +kernel
theorem dX11_at_12 : decode cX11_at 12 = .ok (.ifCond .ne 15, 3) := by decide +kernel
theorem dX11_at_15 : decode cX11_at 15 = .ok (.iload_n 2, 1) := by decide +kernel
theorem dX11_at_16 : decode cX11_at 16 = .ok (.iconst 0, 1) := by decide +kernel
theorem dX11_at_17 : decode cX11_at 17 = .ok (.bipush 63, 2) := by decide +kernel
theorem dX11_at_19 : decode cX11_at 19 = .ok (.invokestatic 138, 3) := by decide +kernel
theorem dX11_at_22 : decode cX11_at 22 = .ok (.ifCond .ne 5, 3) := by decide +kernel
theorem dX11_at_25 : decode cX11_at 25 = .ok (.iconst 2, 1) := by decide +kernel
theorem dX11_at_26 : decode cX11_at 26 = .ok (.istore_n 3, 1) := by decide +kernel
theorem dX11_at_27 : decode cX11_at 27 = .ok (.iload_n 3, 1) := by decide +kernel
theorem dX11_at_28 : decode cX11_at 28 = .ok (.ifCond .le 9, 3) := by decide +kernel
theorem dX11_at_31 : decode cX11_at 31 = .ok (.aload_n 0, 1) := by decide +kernel
theorem dX11_at_32 : decode cX11_at 32 = .ok (.iload_n 3, 1) := by decide +kernel
theorem dX11_at_33 : decode cX11_at 33 = .ok (.invokevirtual 251, 3) := by decide +kernel
theorem dX11_at_36 : decode cX11_at 36 = .ok (.ireturn, 1) := by decide +kernel
theorem dX11_at_37 : decode cX11_at 37 = .ok (.aload_n 0, 1) := by decide +kernel
theorem dX11_at_38 : decode cX11_at 38 = .ok (.aload_n 0, 1) := by decide +kernel
theorem dX11_at_39 : decode cX11_at 39 = .ok (.getfield 59, 3) := by decide +kernel
theorem dX11_at_42 : decode cX11_at 42 = .ok (.iload_n 1, 1) := by decide +kernel
theorem dX11_at_43 : decode cX11_at 43 = .ok (.laload, 1) := by decide +kernel
theorem dX11_at_44 : decode cX11_at 44 = .ok (.iload_n 2, 1) := by decide +kernel
theorem dX11_at_45 : decode cX11_at 45 = .ok (.invokestatic 347, 3) := by decide +kernel
theorem dX11_at_48 : decode cX11_at 48 = .ok (.ifCond .eq 7, 3) := by decide +kernel
theorem dX11_at_51 : decode cX11_at 51 = .ok (.iconst 1, 1) := by decide +kernel
theorem dX11_at_52 : decode cX11_at 52 = .ok (.goto 21, 3) := by decide +kernel
theorem dX11_at_55 : decode cX11_at 55 = .ok (.aload_n 0, 1) := by decide +kernel
theorem dX11_at_56 : decode cX11_at 56 = .ok (.getfield 62, 3) := by decide +kernel
theorem dX11_at_59 : decode cX11_at 59 = .ok (.iload_n 1, 1) := by decide +kernel
theorem dX11_at_60 : decode cX11_at 60 = .ok (.laload, 1) := by decide +kernel
theorem dX11_at_61 : decode cX11_at 61 = .ok (.iload_n 2, 1) := by decide +kernel
theorem dX11_at_62 : decode cX11_at 62 = .ok (.invokestatic 347, 3) := by decide +kernel
theorem dX11_at_65 : decode cX11_at 65 = .ok (.ifCond .eq 7, 3) := by decide +kernel
theorem dX11_at_68 : decode cX11_at 68 = .ok (.iconst 0, 1) := by decide +kernel
theorem dX11_at_69 : decode cX11_at 69 = .ok (.goto 4, 3) := by decide +kernel
theorem dX11_at_72 : decode cX11_at 72 = .ok (.iconst 2, 1) := by decide +kernel
theorem dX11_at_73 : decode cX11_at 73 = .ok (.invokevirtual 267, 3) := by decide +kernel
theorem dX11_at_76 : decode cX11_at 76 = .ok (.ireturn, 1) := by decide +kernel
theorem dX11_many_0 : decode cX11_many 0 = .ok (.iconst 0, 1) := by decide +kernel
theorem dX11_many_1 : decode cX11_many 1 = .ok (.istore_n 2, 1) := by decide +kernel
theorem dX11_many_2 : decode cX11_many 2 = .ok (.iconst 0, 1) := by decide +kernel
theorem dX11_many_3 : decode cX11_many 3 = .ok (.istore_n 3, 1) := by decide +kernel
theorem dX11_many_4 : decode cX11_many 4 = .ok (.iload_n 3, 1) := by decide +kernel
theorem dX11_many_5 : decode cX11_many 5 = .ok (.bipush 64, 2) := by decide +kernel
theorem dX11_many_7 : decode cX11_many 7 = .ok (.if_icmp .ge 25, 3) := by decide +kernel
theorem dX11_many_10 : decode cX11_many 10 = .ok (.iload_n 2, 1) := by decide +kernel
theorem dX11_many_11 : decode cX11_many 11 = .ok (.lload_n 0, 1) := by decide +kernel
theorem dX11_many_12 : decode cX11_many 12 = .ok (.iload_n 3, 1) := by decide +kernel
theorem dX11_many_13 : decode cX11_many 13 = .ok (.invokestatic 347, 3) := by decide +kernel
theorem dX11_many_16 : decode cX11_many 16 = .ok (.ifCond .eq 7, 3) := by decide +kernel
theorem dX11_many_19 : decode cX11_many 19 = .ok (.iconst 1, 1) := by decide +kernel
theorem dX11_many_20 : decode cX11_many 20 = .ok (.goto 4, 3) := by decide +kernel
theorem dX11_many_23 : decode cX11_many 23 = .ok (.iconst 0, 1) := by decide +kernel
theorem dX11_many_24 : decode cX11_many 24 = .ok (.iadd, 1) := by decide +kernel
theorem dX11_many_25 : decode cX11_many 25 = .ok (.istore_n 2, 1) := by decide +kernel
theorem dX11_many_26 : decode cX11_many 26 = .ok (.iinc 3 1, 3) := by decide +kernel
theorem dX11_many_29 : decode cX11_many 29 = .ok (.goto (-25), 3) := by decide +kernel
theorem dX11_many_32 : decode cX11_many 32 = .ok (.iload_n 2, 1) := by decide +kernel
theorem dX11_many_33 : decode cX11_many 33 = .ok (.ireturn, 1) := by decide +kernel
theorem dX11_points_0 : decode cX11_points 0 = .ok (.aload_n 0, 1) := by decide +kernel
theorem dX11_points_1 : decode cX11_points 1 = .ok (.iconst 0, 1) := by decide +kernel
theorem dX11_points_2 : decode cX11_points 2 = .ok (.putfield 3, 3) := by decide +kernel
theorem dX11_points_5 : decode cX11_points 5 = .ok (.aload_n 0, 1) := by decide +kernel
theorem dX11_points_6 : decode cX11_points 6 = .ok (.iload_n 1, 1) := by decide +kernel
theorem dX11_points_7 : decode cX11_points 7 = .ok (.invokevirtual 344, 3) := by decide +kernel
theorem dX11_points_10 : decode cX11_points 10 = .ok (.istore_n 3, 1) := by decide +kernel
theorem dX11_points_11 : decode cX11_points 11 = .ok (.iload_n 3, 1) := by decide +kernel
theorem dX11_points_12 : decode cX11_points 12 = .ok (.ifCond .ne 14, 3) := by decide +kernel
theorem dX11_points_15 : decode cX11_points 15 = .ok (.iload_n 2, 1) := by decide +kernel
theorem dX11_points_16 : decode cX11_points 16 = .ok (.iconst 0, 1) := by decide +kernel
theorem dX11_points_17 : decode cX11_points 17 = .ok (.iconst 2, 1) := by decide +kernel
theorem dX11_points_18 : decode cX11_points 18 = .ok (.invokestatic 138, 3) := by decide +kernel
theorem dX11_points_21 : decode cX11_points 21 = .ok (.ifCond .ne 5, 3) := by decide +kernel
theorem dX11_points_24 : decode cX11_points 24 = .ok (.iconst 2, 1) := by decide +kernel
theorem dX11_points_25 : decode cX11_points 25 = .ok (.istore_n 3, 1) := by decide +kernel
theorem dX11_points_26 : decode cX11_points 26 = .ok (.iload_n 3, 1) := by decide +kernel
theorem dX11_points_27 : decode cX11_points 27 = .ok (.ifCond .le 9, 3) := by decide +kernel
theorem dX11_points_30 : decode cX11_points 30 = .ok (.aload_n 0, 1) := by decide +kernel
theorem dX11_points_31 : decode cX11_points 31 = .ok (.iload_n 3, 1) := by decide +kernel
theorem dX11_points_32 : decode cX11_points 32 = .ok (.invokevirtual 251, 3) := by decide +kernel
theorem dX11_points_35 : decode cX11_points 35 = .ok (.ireturn, 1) := by decide +kernel
theorem dX11_points_36 : decode cX11_points 36 = .ok (.aload_n 0, 1) := by decide +kernel
theorem dX11_points_37 : decode cX11_points 37 = .ok (.iload_n 2, 1) := by decide +kernel
theorem dX11_points_38 : decode cX11_points 38 = .ok (.iconst 1, 1) := by decide +kernel
theorem dX11_points_39 : decode cX11_points 39 = .ok (.if_icmp .ne 15, 3) := by decide +kernel
theorem dX11_points_42 : decode cX11_points 42 = .ok (.aload_n 0, 1) := by decide +kernel
theorem dX11_points_43 : decode cX11_points 43 = .ok (.getfield 59, 3) := by decide +kernel
theorem dX11_points_46 : decode cX11_points 46 = .ok (.iload_n 1, 1) := by decide +kernel
theorem dX11_points_47 : decode cX11_points 47 = .ok (.laload, 1) := by decide +kernel
theorem dX11_points_48 : decode cX11_points 48 = .ok (.invokestatic 351, 3) := by decide +kernel
theorem dX11_points_51 : decode cX11_points 51 = .ok (.goto 38, 3) := by decide +kernel
theorem dX11_points_54 : decode cX11_points 54 = .ok (.iload_n 2, 1) := by decide +kernel
theorem dX11_points_55 : decode cX11_points 55 = .ok (.ifCond .ne 15, 3) := by decide +kernel
theorem dX11_points_58 : decode cX11_points 58 = .ok (.aload_n 0, 1) := by decide +kernel
theorem dX11_points_59 : decode cX11_points 59 = .ok (.getfield 62, 3) := by decide +kernel
theorem dX11_points_62 : decode cX11_points 62 = .ok (.iload_n 1, 1) := by decide +kernel
theorem dX11_points_63 : decode cX11_points 63 = .ok (.laload, 1) := by decide +kernel
theorem dX11_points_64 : decode cX11_points 64 = .ok (.invokestatic 351, 3) := by decide +kernel
theorem dX11_points_67 : decode cX11_points 67 = .ok (.goto 22, 3) := by decide +kernel
theorem dX11_points_70 : decode cX11_points 70 = .ok (.bipush 64, 2) := by decide +kernel
theorem dX11_points_72 : decode cX11_points 72 = .ok (.aload_n 0, 1) := by decide +kernel
theorem dX11_points_73 : decode cX11_points 73 = .ok (.getfield 59, 3) := by decide +kernel
theorem dX11_points_76 : decode cX11_points 76 = .ok (.iload_n 1, 1) := by decide +kernel
theorem dX11_points_77 : decode cX11_points 77 = .ok (.laload, 1) := by decide +kernel
theorem dX11_points_78 : decode cX11_points 78 = .ok (.aload_n 0, 1) := by decide +kernel
theorem dX11_points_79 : decode cX11_points 79 = .ok (.getfield 62, 3) := by decide +kernel
theorem dX11_points_82 : decode cX11_points 82 = .ok (.iload_n 1, 1) := by decide +kernel
theorem dX11_points_83 : decode cX11_points 83 = .ok (.laload, 1) := by decide +kernel
theorem dX11_points_84 : decode cX11_points 84 = .ok (.lor, 1) := by decide +kernel
theorem dX11_points_85 : decode cX11_points 85 = .ok (.invokestatic 351, 3) := by decide +kernel
theorem dX11_points_88 : decode cX11_points 88 = .ok (.isub, 1) := by decide +kernel
theorem dX11_points_89 : decode cX11_points 89 = .ok (.invokevirtual 267, 3) := by decide +kernel
theorem dX11_points_92 : decode cX11_points 92 = .ok (.ireturn, 1) := by decide +kernel
theorem dX11_isOne_0 : decode cX11_isOne 0 = .ok (.aload_n 0, 1) := by decide +kernel
theorem dX11_isOne_1 : decode cX11_isOne 1 = .ok (.iload_n 2, 1) := by decide +kernel
theorem dX11_isOne_2 : decode cX11_isOne 2 = .ok (.invokevirtual 316, 3) := by decide +kernel
theorem dX11_isOne_5 : decode cX11_isOne 5 = .ok (.iload_n 1, 1) := by decide +kernel
theorem dX11_isOne_6 : decode cX11_isOne 6 = .ok (.invokestatic 114, 3) := by decide +kernel
theorem dX11_isOne_9 : decode cX11_isOne 9 = .ok (.ireturn, 1) := by decide +kernel
theorem dX11_falling_0 : decode cX11_falling 0 = .ok (.aload_n 0, 1) := by decide +kernel
theorem dX11_falling_1 : decode cX11_falling 1 = .ok (.iload_n 1, 1) := by decide +kernel
theorem dX11_falling_2 : decode cX11_falling 2 = .ok (.aload_n 0, 1) := by decide +kernel
theorem dX11_falling_3 : decode cX11_falling 3 = .ok (.iload_n 2, 1) := by decide +kernel
theorem dX11_falling_4 : decode cX11_falling 4 = .ok (.iconst 0, 1) := by decide +kernel
theorem dX11_falling_5 : decode cX11_falling 5 = .ok (.invokevirtual 270, 3) := by decide +kernel
theorem dX11_falling_8 : decode cX11_falling 8 = .ok (.invokevirtual 355, 3) := by decide +kernel
theorem dX11_falling_11 : decode cX11_falling 11 = .ok (.ifCond .eq 21, 3) := by decide +kernel
theorem dX11_falling_14 : decode cX11_falling 14 = .ok (.aload_n 0, 1) := by decide +kernel
theorem dX11_falling_15 : decode cX11_falling 15 = .ok (.iload_n 1, 1) := by decide +kernel
theorem dX11_falling_16 : decode cX11_falling 16 = .ok (.aload_n 0, 1) := by decide +kernel
theorem dX11_falling_17 : decode cX11_falling 17 = .ok (.iload_n 2, 1) := by decide +kernel
theorem dX11_falling_18 : decode cX11_falling 18 = .ok (.iconst 1, 1) := by decide +kernel
theorem dX11_falling_19 : decode cX11_falling 19 = .ok (.invokevirtual 270, 3) := by decide +kernel
theorem dX11_falling_22 : decode cX11_falling 22 = .ok (.invokevirtual 355, 3) := by decide +kernel
theorem dX11_falling_25 : decode cX11_falling 25 = .ok (.ifCond .ne 7, 3) := by decide +kernel
theorem dX11_falling_28 : decode cX11_falling 28 = .ok (.iconst 1, 1) := by decide +kernel
theorem dX11_falling_29 : decode cX11_falling 29 = .ok (.goto 4, 3) := by decide +kernel
theorem dX11_falling_32 : decode cX11_falling 32 = .ok (.iconst 0, 1) := by decide +kernel
theorem dX11_falling_33 : decode cX11_falling 33 = .ok (.ireturn, 1) := by decide +kernel
theorem dX11_burstCube_0 : decode cX11_burstCube 0 = .ok (.aload_n 0, 1) := by decide +kernel
theorem dX11_burstCube_1 : decode cX11_burstCube 1 = .ok (.aload_n 0, 1) := by decide +kernel
theorem dX11_burstCube_2 : decode cX11_burstCube 2 = .ok (.iload_n 1, 1) := by decide +kernel
theorem dX11_burstCube_3 : decode cX11_burstCube 3 = .ok (.iconst 0, 1) := by decide +kernel
theorem dX11_burstCube_4 : decode cX11_burstCube 4 = .ok (.invokevirtual 270, 3) := by decide +kernel
theorem dX11_burstCube_7 : decode cX11_burstCube 7 = .ok (.invokevirtual 313, 3) := by decide +kernel
theorem dX11_burstCube_10 : decode cX11_burstCube 10 = .ok (.aload_n 0, 1) := by decide +kernel
theorem dX11_burstCube_11 : decode cX11_burstCube 11 = .ok (.iload_n 1, 1) := by decide +kernel
theorem dX11_burstCube_12 : decode cX11_burstCube 12 = .ok (.invokevirtual 307, 3) := by decide +kernel
theorem dX11_burstCube_15 : decode cX11_burstCube 15 = .ok (.invokestatic 245, 3) := by decide +kernel
theorem dX11_burstCube_18 : decode cX11_burstCube 18 = .ok (.ireturn, 1) := by decide +kernel
theorem dX11_turnCube_0 : decode cX11_turnCube 0 = .ok (.aload_n 0, 1) := by decide +kernel
theorem dX11_turnCube_1 : decode cX11_turnCube 1 = .ok (.aload_n 0, 1) := by decide +kernel
theorem dX11_turnCube_2 : decode cX11_turnCube 2 = .ok (.iload_n 1, 1) := by decide +kernel
theorem dX11_turnCube_3 : decode cX11_turnCube 3 = .ok (.iconst 1, 1) := by decide +kernel
theorem dX11_turnCube_4 : decode cX11_turnCube 4 = .ok (.invokevirtual 270, 3) := by decide +kernel
theorem dX11_turnCube_7 : decode cX11_turnCube 7 = .ok (.invokevirtual 313, 3) := by decide +kernel
theorem dX11_turnCube_10 : decode cX11_turnCube 10 = .ok (.aload_n 0, 1) := by decide +kernel
theorem dX11_turnCube_11 : decode cX11_turnCube 11 = .ok (.aload_n 0, 1) := by decide +kernel
theorem dX11_turnCube_12 : decode cX11_turnCube 12 = .ok (.iload_n 1, 1) := by decide +kernel
theorem dX11_turnCube_13 : decode cX11_turnCube 13 = .ok (.iconst 0, 1) := by decide +kernel
theorem dX11_turnCube_14 : decode cX11_turnCube 14 = .ok (.invokevirtual 270, 3) := by decide +kernel
theorem dX11_turnCube_17 : decode cX11_turnCube 17 = .ok (.invokevirtual 310, 3) := by decide +kernel
theorem dX11_turnCube_20 : decode cX11_turnCube 20 = .ok (.aload_n 0, 1) := by decide +kernel
theorem dX11_turnCube_21 : decode cX11_turnCube 21 = .ok (.aload_n 0, 1) := by decide +kernel
theorem dX11_turnCube_22 : decode cX11_turnCube 22 = .ok (.iload_n 1, 1) := by decide +kernel
theorem dX11_turnCube_23 : decode cX11_turnCube 23 = .ok (.iconst 1, 1) := by decide +kernel
theorem dX11_turnCube_24 : decode cX11_turnCube 24 = .ok (.invokevirtual 270, 3) := by decide +kernel
theorem dX11_turnCube_27 : decode cX11_turnCube 27 = .ok (.invokevirtual 310, 3) := by decide +kernel
theorem dX11_turnCube_30 : decode cX11_turnCube 30 = .ok (.ixor, 1) := by decide +kernel
theorem dX11_turnCube_31 : decode cX11_turnCube 31 = .ok (.iconst 4, 1) := by decide +kernel
theorem dX11_turnCube_32 : decode cX11_turnCube 32 = .ok (.ishl, 1) := by decide +kernel
theorem dX11_turnCube_33 : decode cX11_turnCube 33 = .ok (.invokestatic 245, 3) := by decide +kernel
theorem dX11_turnCube_36 : decode cX11_turnCube 36 = .ok (.ireturn, 1) := by decide +kernel
theorem dX11_addNeed_0 : decode cX11_addNeed 0 = .ok (.iconst 0, 1) := by decide +kernel
theorem dX11_addNeed_1 : decode cX11_addNeed 1 = .ok (.istore_n 2, 1) := by decide +kernel
theorem dX11_addNeed_2 : decode cX11_addNeed 2 = .ok (.iload_n 2, 1) := by decide +kernel
theorem dX11_addNeed_3 : decode cX11_addNeed 3 = .ok (.aload_n 0, 1) := by decide +kernel
theorem dX11_addNeed_4 : decode cX11_addNeed 4 = .ok (.getfield 358, 3) := by decide +kernel
theorem dX11_addNeed_7 : decode cX11_addNeed 7 = .ok (.if_icmp .ge 20, 3) := by decide +kernel
theorem dX11_addNeed_10 : decode cX11_addNeed 10 = .ok (.aload_n 0, 1) := by decide +kernel
theorem dX11_addNeed_11 : decode cX11_addNeed 11 = .ok (.getfield 65, 3) := by decide +kernel
theorem dX11_addNeed_14 : decode cX11_addNeed 14 = .ok (.iload_n 2, 1) := by decide +kernel
theorem dX11_addNeed_15 : decode cX11_addNeed 15 = .ok (.iaload, 1) := by decide +kernel
theorem dX11_addNeed_16 : decode cX11_addNeed 16 = .ok (.iload_n 1, 1) := by decide +kernel
theorem dX11_addNeed_17 : decode cX11_addNeed 17 = .ok (.if_icmp .ne 4, 3) := by decide +kernel
theorem dX11_addNeed_20 : decode cX11_addNeed 20 = .ok (.return_, 1) := by decide +kernel
theorem dX11_addNeed_21 : decode cX11_addNeed 21 = .ok (.iinc 2 1, 3) := by decide +kernel
theorem dX11_addNeed_24 : decode cX11_addNeed 24 = .ok (.goto (-22), 3) := by decide +kernel
theorem dX11_addNeed_27 : decode cX11_addNeed 27 = .ok (.aload_n 0, 1) := by decide +kernel
theorem dX11_addNeed_28 : decode cX11_addNeed 28 = .ok (.getfield 65, 3) := by decide +kernel
theorem dX11_addNeed_31 : decode cX11_addNeed 31 = .ok (.aload_n 0, 1) := by decide +kernel
theorem dX11_addNeed_32 : decode cX11_addNeed 32 = .ok (.getfield 358, 3) := by decide +kernel
theorem dX11_addNeed_35 : decode cX11_addNeed 35 = .ok (.iload_n 1, 1) := by decide +kernel
theorem dX11_addNeed_36 : decode cX11_addNeed 36 = .ok (.iastore, 1) := by decide +kernel
theorem dX11_addNeed_37 : decode cX11_addNeed 37 = .ok (.aload_n 0, 1) := by decide +kernel
theorem dX11_addNeed_38 : decode cX11_addNeed 38 = .ok (.dup, 1) := by decide +kernel
theorem dX11_addNeed_39 : decode cX11_addNeed 39 = .ok (.getfield 358, 3) := by decide +kernel
theorem dX11_addNeed_42 : decode cX11_addNeed 42 = .ok (.iconst 1, 1) := by decide +kernel
theorem dX11_addNeed_43 : decode cX11_addNeed 43 = .ok (.iadd, 1) := by decide +kernel
theorem dX11_addNeed_44 : decode cX11_addNeed 44 = .ok (.putfield 358, 3) := by decide +kernel
theorem dX11_addNeed_47 : decode cX11_addNeed 47 = .ok (.return_, 1) := by decide +kernel
theorem dX11_needsByArc_0 : decode cX11_needsByArc 0 = .ok (.aload_n 0, 1) := by decide +kernel
theorem dX11_needsByArc_1 : decode cX11_needsByArc 1 = .ok (.iload_n 1, 1) := by decide +kernel
theorem dX11_needsByArc_2 : decode cX11_needsByArc 2 = .ok (.aload_n 0, 1) := by decide +kernel
theorem dX11_needsByArc_3 : decode cX11_needsByArc 3 = .ok (.iload_n 2, 1) := by decide +kernel
theorem dX11_needsByArc_4 : decode cX11_needsByArc 4 = .ok (.iconst 0, 1) := by decide +kernel
theorem dX11_needsByArc_5 : decode cX11_needsByArc 5 = .ok (.invokevirtual 270, 3) := by decide +kernel
theorem dX11_needsByArc_8 : decode cX11_needsByArc 8 = .ok (.invokevirtual 355, 3) := by decide +kernel
theorem dX11_needsByArc_11 : decode cX11_needsByArc 11 = .ok (.istore_n 3, 1) := by decide +kernel
theorem dX11_needsByArc_12 : decode cX11_needsByArc 12 = .ok (.aload_n 0, 1) := by decide +kernel
theorem dX11_needsByArc_13 : decode cX11_needsByArc 13 = .ok (.iload_n 1, 1) := by decide +kernel
theorem dX11_needsByArc_14 : decode cX11_needsByArc 14 = .ok (.aload_n 0, 1) := by decide +kernel
theorem dX11_needsByArc_15 : decode cX11_needsByArc 15 = .ok (.iload_n 2, 1) := by decide +kernel
theorem dX11_needsByArc_16 : decode cX11_needsByArc 16 = .ok (.iconst 1, 1) := by decide +kernel
theorem dX11_needsByArc_17 : decode cX11_needsByArc 17 = .ok (.invokevirtual 270, 3) := by decide +kernel
theorem dX11_needsByArc_20 : decode cX11_needsByArc 20 = .ok (.invokevirtual 355, 3) := by decide +kernel
theorem dX11_needsByArc_23 : decode cX11_needsByArc 23 = .ok (.istore 4, 2) := by decide +kernel
theorem dX11_needsByArc_25 : decode cX11_needsByArc 25 = .ok (.iload_n 3, 1) := by decide +kernel
theorem dX11_needsByArc_26 : decode cX11_needsByArc 26 = .ok (.ifCond .eq 17, 3) := by decide +kernel
theorem dX11_needsByArc_29 : decode cX11_needsByArc 29 = .ok (.iload 4, 2) := by decide +kernel
theorem dX11_needsByArc_31 : decode cX11_needsByArc 31 = .ok (.ifCond .eq 12, 3) := by decide +kernel
theorem dX11_needsByArc_34 : decode cX11_needsByArc 34 = .ok (.aload_n 0, 1) := by decide +kernel
theorem dX11_needsByArc_35 : decode cX11_needsByArc 35 = .ok (.aload_n 0, 1) := by decide +kernel
theorem dX11_needsByArc_36 : decode cX11_needsByArc 36 = .ok (.iload_n 2, 1) := by decide +kernel
theorem dX11_needsByArc_37 : decode cX11_needsByArc 37 = .ok (.invokevirtual 361, 3) := by decide +kernel
theorem dX11_needsByArc_40 : decode cX11_needsByArc 40 = .ok (.invokevirtual 364, 3) := by decide +kernel
theorem dX11_needsByArc_43 : decode cX11_needsByArc 43 = .ok (.iconst 0, 1) := by decide +kernel
theorem dX11_needsByArc_44 : decode cX11_needsByArc 44 = .ok (.istore 5, 2) := by decide +kernel
theorem dX11_needsByArc_46 : decode cX11_needsByArc 46 = .ok (.iload 5, 2) := by decide +kernel
theorem dX11_needsByArc_48 : decode cX11_needsByArc 48 = .ok (.iconst 4, 1) := by decide +kernel
theorem dX11_needsByArc_49 : decode cX11_needsByArc 49 = .ok (.if_icmp .ge 60, 3) := by decide +kernel
theorem dX11_needsByArc_52 : decode cX11_needsByArc 52 = .ok (.iload_n 3, 1) := by decide +kernel
theorem dX11_needsByArc_53 : decode cX11_needsByArc 53 = .ok (.ifCond .eq 50, 3) := by decide +kernel
theorem dX11_needsByArc_56 : decode cX11_needsByArc 56 = .ok (.iload 4, 2) := by decide +kernel
theorem dX11_needsByArc_58 : decode cX11_needsByArc 58 = .ok (.ifCond .ne 45, 3) := by decide +kernel
theorem dX11_needsByArc_61 : decode cX11_needsByArc 61 = .ok (.aload_n 0, 1) := by decide +kernel
theorem dX11_needsByArc_62 : decode cX11_needsByArc 62 = .ok (.iload_n 2, 1) := by decide +kernel
theorem dX11_needsByArc_63 : decode cX11_needsByArc 63 = .ok (.invokevirtual 307, 3) := by decide +kernel
theorem dX11_needsByArc_66 : decode cX11_needsByArc 66 = .ok (.iload 5, 2) := by decide +kernel
theorem dX11_needsByArc_68 : decode cX11_needsByArc 68 = .ok (.invokestatic 114, 3) := by decide +kernel
theorem dX11_needsByArc_71 : decode cX11_needsByArc 71 = .ok (.ifCond .eq 32, 3) := by decide +kernel
theorem dX11_needsByArc_74 : decode cX11_needsByArc 74 = .ok (.aload_n 0, 1) := by decide +kernel
theorem dX11_needsByArc_75 : decode cX11_needsByArc 75 = .ok (.aload_n 0, 1) := by decide +kernel
theorem dX11_needsByArc_76 : decode cX11_needsByArc 76 = .ok (.aload_n 0, 1) := by decide +kernel
theorem dX11_needsByArc_77 : decode cX11_needsByArc 77 = .ok (.iload_n 2, 1) := by decide +kernel
theorem dX11_needsByArc_78 : decode cX11_needsByArc 78 = .ok (.iconst 0, 1) := by decide +kernel
theorem dX11_needsByArc_79 : decode cX11_needsByArc 79 = .ok (.invokevirtual 270, 3) := by decide +kernel
theorem dX11_needsByArc_82 : decode cX11_needsByArc 82 = .ok (.invokevirtual 313, 3) := by decide +kernel
theorem dX11_needsByArc_85 : decode cX11_needsByArc 85 = .ok (.aload_n 0, 1) := by decide +kernel
theorem dX11_needsByArc_86 : decode cX11_needsByArc 86 = .ok (.iload_n 2, 1) := by decide +kernel
theorem dX11_needsByArc_87 : decode cX11_needsByArc 87 = .ok (.invokevirtual 307, 3) := by decide +kernel
theorem dX11_needsByArc_90 : decode cX11_needsByArc 90 = .ok (.iconst 1, 1) := by decide +kernel
theorem dX11_needsByArc_91 : decode cX11_needsByArc 91 = .ok (.iload 5, 2) := by decide +kernel
theorem dX11_needsByArc_93 : decode cX11_needsByArc 93 = .ok (.ishl, 1) := by decide +kernel
theorem dX11_needsByArc_94 : decode cX11_needsByArc 94 = .ok (.iconst (-1), 1) := by decide +kernel
theorem dX11_needsByArc_95 : decode cX11_needsByArc 95 = .ok (.ixor, 1) := by decide +kernel
theorem dX11_needsByArc_96 : decode cX11_needsByArc 96 = .ok (.iand, 1) := by decide +kernel
theorem dX11_needsByArc_97 : decode cX11_needsByArc 97 = .ok (.invokestatic 245, 3) := by decide +kernel
theorem dX11_needsByArc_100 : decode cX11_needsByArc 100 = .ok (.invokevirtual 364, 3) := by decide +kernel
theorem dX11_needsByArc_103 : decode cX11_needsByArc 103 = .ok (.iinc 5 1, 3) := by decide +kernel
theorem dX11_needsByArc_106 : decode cX11_needsByArc 106 = .ok (.goto (-60), 3) := by decide +kernel
theorem dX11_needsByArc_109 : decode cX11_needsByArc 109 = .ok (.iload 4, 2) := by decide +kernel
theorem dX11_needsByArc_111 : decode cX11_needsByArc 111 = .ok (.ifCond .eq 12, 3) := by decide +kernel
theorem dX11_needsByArc_114 : decode cX11_needsByArc 114 = .ok (.aload_n 0, 1) := by decide +kernel
theorem dX11_needsByArc_115 : decode cX11_needsByArc 115 = .ok (.aload_n 0, 1) := by decide +kernel
theorem dX11_needsByArc_116 : decode cX11_needsByArc 116 = .ok (.iload_n 2, 1) := by decide +kernel
theorem dX11_needsByArc_117 : decode cX11_needsByArc 117 = .ok (.invokevirtual 367, 3) := by decide +kernel
theorem dX11_needsByArc_120 : decode cX11_needsByArc 120 = .ok (.invokevirtual 364, 3) := by decide +kernel
theorem dX11_needsByArc_123 : decode cX11_needsByArc 123 = .ok (.return_, 1) := by decide +kernel
theorem dX11_needsOf_0 : decode cX11_needsOf 0 = .ok (.aload_n 0, 1) := by decide +kernel
theorem dX11_needsOf_1 : decode cX11_needsOf 1 = .ok (.iconst 0, 1) := by decide +kernel
theorem dX11_needsOf_2 : decode cX11_needsOf 2 = .ok (.putfield 358, 3) := by decide +kernel
theorem dX11_needsOf_5 : decode cX11_needsOf 5 = .ok (.iconst 0, 1) := by decide +kernel
theorem dX11_needsOf_6 : decode cX11_needsOf 6 = .ok (.istore_n 2, 1) := by decide +kernel
theorem dX11_needsOf_7 : decode cX11_needsOf 7 = .ok (.iload_n 2, 1) := by decide +kernel
theorem dX11_needsOf_8 : decode cX11_needsOf 8 = .ok (.aload_n 0, 1) := by decide +kernel
theorem dX11_needsOf_9 : decode cX11_needsOf 9 = .ok (.getfield 31, 3) := by decide +kernel
theorem dX11_needsOf_12 : decode cX11_needsOf 12 = .ok (.bipush 6, 2) := by decide +kernel
theorem dX11_needsOf_14 : decode cX11_needsOf 14 = .ok (.iaload, 1) := by decide +kernel
theorem dX11_needsOf_15 : decode cX11_needsOf 15 = .ok (.if_icmp .ge 15, 3) := by decide +kernel
theorem dX11_needsOf_18 : decode cX11_needsOf 18 = .ok (.aload_n 0, 1) := by decide +kernel
theorem dX11_needsOf_19 : decode cX11_needsOf 19 = .ok (.iload_n 1, 1) := by decide +kernel
theorem dX11_needsOf_20 : decode cX11_needsOf 20 = .ok (.iload_n 2, 1) := by decide +kernel
theorem dX11_needsOf_21 : decode cX11_needsOf 21 = .ok (.invokevirtual 370, 3) := by decide +kernel
theorem dX11_needsOf_24 : decode cX11_needsOf 24 = .ok (.iinc 2 1, 3) := by decide +kernel
theorem dX11_needsOf_27 : decode cX11_needsOf 27 = .ok (.goto (-20), 3) := by decide +kernel
theorem dX11_needsOf_30 : decode cX11_needsOf 30 = .ok (.aload_n 0, 1) := by decide +kernel
theorem dX11_needsOf_31 : decode cX11_needsOf 31 = .ok (.iload_n 1, 1) := by decide +kernel
theorem dX11_needsOf_32 : decode cX11_needsOf 32 = .ok (.aload_n 0, 1) := by decide +kernel
theorem dX11_needsOf_33 : decode cX11_needsOf 33 = .ok (.getfield 37, 3) := by decide +kernel
theorem dX11_needsOf_36 : decode cX11_needsOf 36 = .ok (.iconst 1, 1) := by decide +kernel
theorem dX11_needsOf_37 : decode cX11_needsOf 37 = .ok (.iaload, 1) := by decide +kernel
theorem dX11_needsOf_38 : decode cX11_needsOf 38 = .ok (.invokevirtual 355, 3) := by decide +kernel
theorem dX11_needsOf_41 : decode cX11_needsOf 41 = .ok (.ifCond .eq 21, 3) := by decide +kernel
theorem dX11_needsOf_44 : decode cX11_needsOf 44 = .ok (.aload_n 0, 1) := by decide +kernel
theorem dX11_needsOf_45 : decode cX11_needsOf 45 = .ok (.aload_n 0, 1) := by decide +kernel
theorem dX11_needsOf_46 : decode cX11_needsOf 46 = .ok (.aload_n 0, 1) := by decide +kernel
theorem dX11_needsOf_47 : decode cX11_needsOf 47 = .ok (.getfield 37, 3) := by decide +kernel
theorem dX11_needsOf_50 : decode cX11_needsOf 50 = .ok (.iconst 1, 1) := by decide +kernel
theorem dX11_needsOf_51 : decode cX11_needsOf 51 = .ok (.iaload, 1) := by decide +kernel
theorem dX11_needsOf_52 : decode cX11_needsOf 52 = .ok (.invokevirtual 313, 3) := by decide +kernel
theorem dX11_needsOf_55 : decode cX11_needsOf 55 = .ok (.iconst 0, 1) := by decide +kernel
theorem dX11_needsOf_56 : decode cX11_needsOf 56 = .ok (.invokestatic 245, 3) := by decide +kernel
theorem dX11_needsOf_59 : decode cX11_needsOf 59 = .ok (.invokevirtual 364, 3) := by decide +kernel
theorem dX11_needsOf_62 : decode cX11_needsOf 62 = .ok (.return_, 1) := by decide +kernel
theorem dX11_required_0 : decode cX11_required 0 = .ok (.aload_n 0, 1) := by decide +kernel
theorem dX11_required_1 : decode cX11_required 1 = .ok (.iconst 0, 1) := by decide +kernel
theorem dX11_required_2 : decode cX11_required 2 = .ok (.putfield 3, 3) := by decide +kernel
theorem dX11_required_5 : decode cX11_required 5 = .ok (.aload_n 0, 1) := by decide +kernel
theorem dX11_required_6 : decode cX11_required 6 = .ok (.iload_n 1, 1) := by decide +kernel
theorem dX11_required_7 : decode cX11_required 7 = .ok (.invokevirtual 344, 3) := by decide +kernel
theorem dX11_required_10 : decode cX11_required 10 = .ok (.istore_n 2, 1) := by decide +kernel
theorem dX11_required_11 : decode cX11_required 11 = .ok (.iload_n 2, 1) := by decide +kernel
theorem dX11_required_12 : decode cX11_required 12 = .ok (.ifCond .le 9, 3) := by decide +kernel
theorem dX11_required_15 : decode cX11_required 15 = .ok (.aload_n 0, 1) := by decide +kernel
theorem dX11_required_16 : decode cX11_required 16 = .ok (.iload_n 2, 1) := by decide +kernel
theorem dX11_required_17 : decode cX11_required 17 = .ok (.invokevirtual 251, 3) := by decide +kernel
theorem dX11_required_20 : decode cX11_required 20 = .ok (.ireturn, 1) := by decide +kernel
theorem dX11_required_21 : decode cX11_required 21 = .ok (.aload_n 0, 1) := by decide +kernel
theorem dX11_required_22 : decode cX11_required 22 = .ok (.iload_n 1, 1) := by decide +kernel
theorem dX11_required_23 : decode cX11_required 23 = .ok (.invokevirtual 373, 3) := by decide +kernel
theorem dX11_required_26 : decode cX11_required 26 = .ok (.aload_n 0, 1) := by decide +kernel
theorem dX11_required_27 : decode cX11_required 27 = .ok (.aload_n 0, 1) := by decide +kernel
theorem dX11_required_28 : decode cX11_required 28 = .ok (.getfield 358, 3) := by decide +kernel
theorem dX11_required_31 : decode cX11_required 31 = .ok (.invokevirtual 267, 3) := by decide +kernel
theorem dX11_required_34 : decode cX11_required 34 = .ok (.ireturn, 1) := by decide +kernel
theorem dX11_requiredCube_0 : decode cX11_requiredCube 0 = .ok (.aload_n 0, 1) := by decide +kernel
theorem dX11_requiredCube_1 : decode cX11_requiredCube 1 = .ok (.iconst 0, 1) := by decide +kernel
theorem dX11_requiredCube_2 : decode cX11_requiredCube 2 = .ok (.putfield 3, 3) := by decide +kernel
theorem dX11_requiredCube_5 : decode cX11_requiredCube 5 = .ok (.aload_n 0, 1) := by decide +kernel
theorem dX11_requiredCube_6 : decode cX11_requiredCube 6 = .ok (.iload_n 1, 1) := by decide +kernel
theorem dX11_requiredCube_7 : decode cX11_requiredCube 7 = .ok (.invokevirtual 344, 3) := by decide +kernel
theorem dX11_requiredCube_10 : decode cX11_requiredCube 10 = .ok (.istore_n 3, 1) := by decide +kernel
theorem dX11_requiredCube_11 : decode cX11_requiredCube 11 = .ok (.iload_n 3, 1) := by decide +kernel
theorem dX11_requiredCube_12 : decode cX11_requiredCube 12 = .ok (.ifCond .le 9, 3) := by decide +kernel
theorem dX11_requiredCube_15 : decode cX11_requiredCube 15 = .ok (.aload_n 0, 1) := by decide +kernel
theorem dX11_requiredCube_16 : decode cX11_requiredCube 16 = .ok (.iload_n 3, 1) := by decide +kernel
theorem dX11_requiredCube_17 : decode cX11_requiredCube 17 = .ok (.invokevirtual 251, 3) := by decide +kernel
theorem dX11_requiredCube_20 : decode cX11_requiredCube 20 = .ok (.ireturn, 1) := by decide +kernel
theorem dX11_requiredCube_21 : decode cX11_requiredCube 21 = .ok (.aload_n 0, 1) := by decide +kernel
theorem dX11_requiredCube_22 : decode cX11_requiredCube 22 = .ok (.iload_n 1, 1) := by decide +kernel
theorem dX11_requiredCube_23 : decode cX11_requiredCube 23 = .ok (.invokevirtual 373, 3) := by decide +kernel
theorem dX11_requiredCube_26 : decode cX11_requiredCube 26 = .ok (.iload_n 2, 1) := by decide +kernel
theorem dX11_requiredCube_27 : decode cX11_requiredCube 27 = .ok (.ifCond .lt 11, 3) := by decide +kernel
theorem dX11_requiredCube_30 : decode cX11_requiredCube 30 = .ok (.iload_n 2, 1) := by decide +kernel
theorem dX11_requiredCube_31 : decode cX11_requiredCube 31 = .ok (.aload_n 0, 1) := by decide +kernel
theorem dX11_requiredCube_32 : decode cX11_requiredCube 32 = .ok (.getfield 358, 3) := by decide +kernel
theorem dX11_requiredCube_35 : decode cX11_requiredCube 35 = .ok (.if_icmp .lt 9, 3) := by decide +kernel
theorem dX11_requiredCube_38 : decode cX11_requiredCube 38 = .ok (.aload_n 0, 1) := by decide +kernel
theorem dX11_requiredCube_39 : decode cX11_requiredCube 39 = .ok (.iconst 1, 1) := by decide +kernel
theorem dX11_requiredCube_40 : decode cX11_requiredCube 40 = .ok (.invokevirtual 251, 3) := by decide +kernel
theorem dX11_requiredCube_43 : decode cX11_requiredCube 43 = .ok (.ireturn, 1) := by decide +kernel
theorem dX11_requiredCube_44 : decode cX11_requiredCube 44 = .ok (.aload_n 0, 1) := by decide +kernel
theorem dX11_requiredCube_45 : decode cX11_requiredCube 45 = .ok (.aload_n 0, 1) := by decide +kernel
theorem dX11_requiredCube_46 : decode cX11_requiredCube 46 = .ok (.getfield 65, 3) := by decide +kernel
theorem dX11_requiredCube_49 : decode cX11_requiredCube 49 = .ok (.iload_n 2, 1) := by decide +kernel
theorem dX11_requiredCube_50 : decode cX11_requiredCube 50 = .ok (.iaload, 1) := by decide +kernel
theorem dX11_requiredCube_51 : decode cX11_requiredCube 51 = .ok (.invokevirtual 267, 3) := by decide +kernel
theorem dX11_requiredCube_54 : decode cX11_requiredCube 54 = .ok (.ireturn, 1) := by decide +kernel
theorem dX11_falls_0 : decode cX11_falls 0 = .ok (.aload_n 0, 1) := by decide +kernel
theorem dX11_falls_1 : decode cX11_falls 1 = .ok (.iconst 0, 1) := by decide +kernel
theorem dX11_falls_2 : decode cX11_falls 2 = .ok (.putfield 3, 3) := by decide +kernel
theorem dX11_falls_5 : decode cX11_falls 5 = .ok (.aload_n 0, 1) := by decide +kernel
theorem dX11_falls_6 : decode cX11_falls 6 = .ok (.iload_n 1, 1) := by decide +kernel
theorem dX11_falls_7 : decode cX11_falls 7 = .ok (.invokevirtual 344, 3) := by decide +kernel
theorem dX11_falls_10 : decode cX11_falls 10 = .ok (.istore_n 2, 1) := by decide +kernel
theorem dX11_falls_11 : decode cX11_falls 11 = .ok (.iload_n 2, 1) := by decide +kernel
theorem dX11_falls_12 : decode cX11_falls 12 = .ok (.ifCond .le 9, 3) := by decide +kernel
theorem dX11_falls_15 : decode cX11_falls 15 = .ok (.aload_n 0, 1) := by decide +kernel
theorem dX11_falls_16 : decode cX11_falls 16 = .ok (.iload_n 2, 1) := by decide +kernel
theorem dX11_falls_17 : decode cX11_falls 17 = .ok (.invokevirtual 251, 3) := by decide +kernel
theorem dX11_falls_20 : decode cX11_falls 20 = .ok (.ireturn, 1) := by decide +kernel
theorem dX11_falls_21 : decode cX11_falls 21 = .ok (.iconst 0, 1) := by decide +kernel
theorem dX11_falls_22 : decode cX11_falls 22 = .ok (.istore_n 3, 1) := by decide +kernel
theorem dX11_falls_23 : decode cX11_falls 23 = .ok (.iconst 0, 1) := by decide +kernel
theorem dX11_falls_24 : decode cX11_falls 24 = .ok (.istore 4, 2) := by decide +kernel
theorem dX11_falls_26 : decode cX11_falls 26 = .ok (.iload 4, 2) := by decide +kernel
theorem dX11_falls_28 : decode cX11_falls 28 = .ok (.aload_n 0, 1) := by decide +kernel
theorem dX11_falls_29 : decode cX11_falls 29 = .ok (.getfield 31, 3) := by decide +kernel
theorem dX11_falls_32 : decode cX11_falls 32 = .ok (.bipush 6, 2) := by decide +kernel
theorem dX11_falls_34 : decode cX11_falls 34 = .ok (.iaload, 1) := by decide +kernel
theorem dX11_falls_35 : decode cX11_falls 35 = .ok (.if_icmp .ge 27, 3) := by decide +kernel
theorem dX11_falls_38 : decode cX11_falls 38 = .ok (.iload_n 3, 1) := by decide +kernel
theorem dX11_falls_39 : decode cX11_falls 39 = .ok (.aload_n 0, 1) := by decide +kernel
theorem dX11_falls_40 : decode cX11_falls 40 = .ok (.iload_n 1, 1) := by decide +kernel
theorem dX11_falls_41 : decode cX11_falls 41 = .ok (.iload 4, 2) := by decide +kernel
theorem dX11_falls_43 : decode cX11_falls 43 = .ok (.invokevirtual 376, 3) := by decide +kernel
theorem dX11_falls_46 : decode cX11_falls 46 = .ok (.ifCond .eq 7, 3) := by decide +kernel
theorem dX11_falls_49 : decode cX11_falls 49 = .ok (.iconst 1, 1) := by decide +kernel
theorem dX11_falls_50 : decode cX11_falls 50 = .ok (.goto 4, 3) := by decide +kernel
theorem dX11_falls_53 : decode cX11_falls 53 = .ok (.iconst 0, 1) := by decide +kernel
theorem dX11_falls_54 : decode cX11_falls 54 = .ok (.iadd, 1) := by decide +kernel
theorem dX11_falls_55 : decode cX11_falls 55 = .ok (.istore_n 3, 1) := by decide +kernel
theorem dX11_falls_56 : decode cX11_falls 56 = .ok (.iinc 4 1, 3) := by decide +kernel
theorem dX11_falls_59 : decode cX11_falls 59 = .ok (.goto (-33), 3) := by decide +kernel
theorem dX11_falls_62 : decode cX11_falls 62 = .ok (.aload_n 0, 1) := by decide +kernel
theorem dX11_falls_63 : decode cX11_falls 63 = .ok (.iload_n 3, 1) := by decide +kernel
theorem dX11_falls_64 : decode cX11_falls 64 = .ok (.invokevirtual 267, 3) := by decide +kernel
theorem dX11_falls_67 : decode cX11_falls 67 = .ok (.ireturn, 1) := by decide +kernel
theorem dX11_cuts_0 : decode cX11_cuts 0 = .ok (.aload_n 0, 1) := by decide +kernel
theorem dX11_cuts_1 : decode cX11_cuts 1 = .ok (.getfield 19, 3) := by decide +kernel
theorem dX11_cuts_4 : decode cX11_cuts 4 = .ok (.iload_n 1, 1) := by decide +kernel
theorem dX11_cuts_5 : decode cX11_cuts 5 = .ok (.laload, 1) := by decide +kernel
theorem dX11_cuts_6 : decode cX11_cuts 6 = .ok (.aload_n 0, 1) := by decide +kernel
theorem dX11_cuts_7 : decode cX11_cuts 7 = .ok (.getfield 19, 3) := by decide +kernel
theorem dX11_cuts_10 : decode cX11_cuts 10 = .ok (.aload_n 0, 1) := by decide +kernel
theorem dX11_cuts_11 : decode cX11_cuts 11 = .ok (.iload_n 2, 1) := by decide +kernel
theorem dX11_cuts_12 : decode cX11_cuts 12 = .ok (.invokevirtual 361, 3) := by decide +kernel
theorem dX11_cuts_15 : decode cX11_cuts 15 = .ok (.laload, 1) := by decide +kernel
theorem dX11_cuts_16 : decode cX11_cuts 16 = .ok (.land, 1) := by decide +kernel
theorem dX11_cuts_17 : decode cX11_cuts 17 = .ok (.lconst 0, 1) := by decide +kernel
theorem dX11_cuts_18 : decode cX11_cuts 18 = .ok (.lcmp, 1) := by decide +kernel
theorem dX11_cuts_19 : decode cX11_cuts 19 = .ok (.ifCond .eq 29, 3) := by decide +kernel
theorem dX11_cuts_22 : decode cX11_cuts 22 = .ok (.aload_n 0, 1) := by decide +kernel
theorem dX11_cuts_23 : decode cX11_cuts 23 = .ok (.getfield 19, 3) := by decide +kernel
theorem dX11_cuts_26 : decode cX11_cuts 26 = .ok (.iload_n 1, 1) := by decide +kernel
theorem dX11_cuts_27 : decode cX11_cuts 27 = .ok (.laload, 1) := by decide +kernel
theorem dX11_cuts_28 : decode cX11_cuts 28 = .ok (.aload_n 0, 1) := by decide +kernel
theorem dX11_cuts_29 : decode cX11_cuts 29 = .ok (.aload_n 0, 1) := by decide +kernel
theorem dX11_cuts_30 : decode cX11_cuts 30 = .ok (.iload_n 2, 1) := by decide +kernel
theorem dX11_cuts_31 : decode cX11_cuts 31 = .ok (.iconst 0, 1) := by decide +kernel
theorem dX11_cuts_32 : decode cX11_cuts 32 = .ok (.invokevirtual 270, 3) := by decide +kernel
theorem dX11_cuts_35 : decode cX11_cuts 35 = .ok (.invokevirtual 313, 3) := by decide +kernel
theorem dX11_cuts_38 : decode cX11_cuts 38 = .ok (.invokestatic 347, 3) := by decide +kernel
theorem dX11_cuts_41 : decode cX11_cuts 41 = .ok (.ifCond .ne 7, 3) := by decide +kernel
theorem dX11_cuts_44 : decode cX11_cuts 44 = .ok (.iconst 1, 1) := by decide +kernel
theorem dX11_cuts_45 : decode cX11_cuts 45 = .ok (.goto 4, 3) := by decide +kernel
theorem dX11_cuts_48 : decode cX11_cuts 48 = .ok (.iconst 0, 1) := by decide +kernel
theorem dX11_cuts_49 : decode cX11_cuts 49 = .ok (.ireturn, 1) := by decide +kernel
theorem dX11_isSafe_0 : decode cX11_isSafe 0 = .ok (.aload_n 0, 1) := by decide +kernel
theorem dX11_isSafe_1 : decode cX11_isSafe 1 = .ok (.getfield 19, 3) := by decide +kernel
theorem dX11_isSafe_4 : decode cX11_isSafe 4 = .ok (.iload_n 2, 1) := by decide +kernel
theorem dX11_isSafe_5 : decode cX11_isSafe 5 = .ok (.laload, 1) := by decide +kernel
theorem dX11_isSafe_6 : decode cX11_isSafe 6 = .ok (.aload_n 0, 1) := by decide +kernel
theorem dX11_isSafe_7 : decode cX11_isSafe 7 = .ok (.getfield 62, 3) := by decide +kernel
theorem dX11_isSafe_10 : decode cX11_isSafe 10 = .ok (.iload_n 1, 1) := by decide +kernel
theorem dX11_isSafe_11 : decode cX11_isSafe 11 = .ok (.laload, 1) := by decide +kernel
theorem dX11_isSafe_12 : decode cX11_isSafe 12 = .ok (.land, 1) := by decide +kernel
theorem dX11_isSafe_13 : decode cX11_isSafe 13 = .ok (.lconst 0, 1) := by decide +kernel
theorem dX11_isSafe_14 : decode cX11_isSafe 14 = .ok (.lcmp, 1) := by decide +kernel
theorem dX11_isSafe_15 : decode cX11_isSafe 15 = .ok (.ifCond .ne 7, 3) := by decide +kernel
theorem dX11_isSafe_18 : decode cX11_isSafe 18 = .ok (.iconst 1, 1) := by decide +kernel
theorem dX11_isSafe_19 : decode cX11_isSafe 19 = .ok (.goto 4, 3) := by decide +kernel
theorem dX11_isSafe_22 : decode cX11_isSafe 22 = .ok (.iconst 0, 1) := by decide +kernel
theorem dX11_isSafe_23 : decode cX11_isSafe 23 = .ok (.istore_n 3, 1) := by decide +kernel
theorem dX11_isSafe_24 : decode cX11_isSafe 24 = .ok (.iconst 0, 1) := by decide +kernel
theorem dX11_isSafe_25 : decode cX11_isSafe 25 = .ok (.istore 4, 2) := by decide +kernel
theorem dX11_isSafe_27 : decode cX11_isSafe 27 = .ok (.iload 4, 2) := by decide +kernel
theorem dX11_isSafe_29 : decode cX11_isSafe 29 = .ok (.aload_n 0, 1) := by decide +kernel
theorem dX11_isSafe_30 : decode cX11_isSafe 30 = .ok (.getfield 31, 3) := by decide +kernel
theorem dX11_isSafe_33 : decode cX11_isSafe 33 = .ok (.bipush 6, 2) := by decide +kernel
theorem dX11_isSafe_35 : decode cX11_isSafe 35 = .ok (.iaload, 1) := by decide +kernel
theorem dX11_isSafe_36 : decode cX11_isSafe 36 = .ok (.if_icmp .ge 39, 3) := by decide +kernel
theorem dX11_isSafe_39 : decode cX11_isSafe 39 = .ok (.iload_n 3, 1) := by decide +kernel
theorem dX11_isSafe_40 : decode cX11_isSafe 40 = .ok (.ifCond .eq 35, 3) := by decide +kernel
theorem dX11_isSafe_43 : decode cX11_isSafe 43 = .ok (.aload_n 0, 1) := by decide +kernel
theorem dX11_isSafe_44 : decode cX11_isSafe 44 = .ok (.iload_n 1, 1) := by decide +kernel
theorem dX11_isSafe_45 : decode cX11_isSafe 45 = .ok (.iload 4, 2) := by decide +kernel
theorem dX11_isSafe_47 : decode cX11_isSafe 47 = .ok (.invokevirtual 376, 3) := by decide +kernel
theorem dX11_isSafe_50 : decode cX11_isSafe 50 = .ok (.ifCond .eq 13, 3) := by decide +kernel
theorem dX11_isSafe_53 : decode cX11_isSafe 53 = .ok (.aload_n 0, 1) := by decide +kernel
theorem dX11_isSafe_54 : decode cX11_isSafe 54 = .ok (.iload_n 2, 1) := by decide +kernel
theorem dX11_isSafe_55 : decode cX11_isSafe 55 = .ok (.iload 4, 2) := by decide +kernel
theorem dX11_isSafe_57 : decode cX11_isSafe 57 = .ok (.invokevirtual 379, 3) := by decide +kernel
theorem dX11_isSafe_60 : decode cX11_isSafe 60 = .ok (.ifCond .ne 7, 3) := by decide +kernel
theorem dX11_isSafe_63 : decode cX11_isSafe 63 = .ok (.iconst 1, 1) := by decide +kernel
theorem dX11_isSafe_64 : decode cX11_isSafe 64 = .ok (.goto 4, 3) := by decide +kernel
theorem dX11_isSafe_67 : decode cX11_isSafe 67 = .ok (.iconst 0, 1) := by decide +kernel
theorem dX11_isSafe_68 : decode cX11_isSafe 68 = .ok (.istore_n 3, 1) := by decide +kernel
theorem dX11_isSafe_69 : decode cX11_isSafe 69 = .ok (.iinc 4 1, 3) := by decide +kernel
theorem dX11_isSafe_72 : decode cX11_isSafe 72 = .ok (.goto (-45), 3) := by decide +kernel
theorem dX11_isSafe_75 : decode cX11_isSafe 75 = .ok (.iload_n 3, 1) := by decide +kernel
theorem dX11_isSafe_76 : decode cX11_isSafe 76 = .ok (.ireturn, 1) := by decide +kernel
theorem dX11_safe_0 : decode cX11_safe 0 = .ok (.aload_n 0, 1) := by decide +kernel
theorem dX11_safe_1 : decode cX11_safe 1 = .ok (.iconst 0, 1) := by decide +kernel
theorem dX11_safe_2 : decode cX11_safe 2 = .ok (.putfield 3, 3) := by decide +kernel
theorem dX11_safe_5 : decode cX11_safe 5 = .ok (.aload_n 0, 1) := by decide +kernel
theorem dX11_safe_6 : decode cX11_safe 6 = .ok (.iload_n 1, 1) := by decide +kernel
theorem dX11_safe_7 : decode cX11_safe 7 = .ok (.invokevirtual 344, 3) := by decide +kernel
theorem dX11_safe_10 : decode cX11_safe 10 = .ok (.istore_n 3, 1) := by decide +kernel
theorem dX11_safe_11 : decode cX11_safe 11 = .ok (.iload_n 3, 1) := by decide +kernel
theorem dX11_safe_12 : decode cX11_safe 12 = .ok (.ifCond .ne 16, 3) := by decide +kernel
theorem dX11_safe_15 : decode cX11_safe 15 = .ok (.iload_n 2, 1) := by decide +kernel
theorem dX11_safe_16 : decode cX11_safe 16 = .ok (.iconst 0, 1) := by decide +kernel
theorem dX11_safe_17 : decode cX11_safe 17 = .ok (.sipush 728, 3) := by decide +kernel
theorem dX11_safe_20 : decode cX11_safe 20 = .ok (.invokestatic 138, 3) := by decide +kernel
theorem dX11_safe_23 : decode cX11_safe 23 = .ok (.ifCond .ne 5, 3) := by decide +kernel
theorem dX11_safe_26 : decode cX11_safe 26 = .ok (.iconst 2, 1) := by decide +kernel
theorem dX11_safe_27 : decode cX11_safe 27 = .ok (.istore_n 3, 1) := by decide +kernel
theorem dX11_safe_28 : decode cX11_safe 28 = .ok (.iload_n 3, 1) := by decide +kernel
theorem dX11_safe_29 : decode cX11_safe 29 = .ok (.ifCond .le 9, 3) := by decide +kernel
theorem dX11_safe_32 : decode cX11_safe 32 = .ok (.aload_n 0, 1) := by decide +kernel
theorem dX11_safe_33 : decode cX11_safe 33 = .ok (.iload_n 3, 1) := by decide +kernel
theorem dX11_safe_34 : decode cX11_safe 34 = .ok (.invokevirtual 251, 3) := by decide +kernel
theorem dX11_safe_37 : decode cX11_safe 37 = .ok (.ireturn, 1) := by decide +kernel
theorem dX11_safe_38 : decode cX11_safe 38 = .ok (.aload_n 0, 1) := by decide +kernel
theorem dX11_safe_39 : decode cX11_safe 39 = .ok (.aload_n 0, 1) := by decide +kernel
theorem dX11_safe_40 : decode cX11_safe 40 = .ok (.iload_n 1, 1) := by decide +kernel
theorem dX11_safe_41 : decode cX11_safe 41 = .ok (.iload_n 2, 1) := by decide +kernel
theorem dX11_safe_42 : decode cX11_safe 42 = .ok (.invokevirtual 382, 3) := by decide +kernel
theorem dX11_safe_45 : decode cX11_safe 45 = .ok (.ifCond .eq 7, 3) := by decide +kernel
theorem dX11_safe_48 : decode cX11_safe 48 = .ok (.iconst 1, 1) := by decide +kernel
theorem dX11_safe_49 : decode cX11_safe 49 = .ok (.goto 4, 3) := by decide +kernel
theorem dX11_safe_52 : decode cX11_safe 52 = .ok (.iconst 0, 1) := by decide +kernel
theorem dX11_safe_53 : decode cX11_safe 53 = .ok (.invokevirtual 267, 3) := by decide +kernel
theorem dX11_safe_56 : decode cX11_safe 56 = .ok (.ireturn, 1) := by decide +kernel
theorem dX11_primesOf_0 : decode cX11_primesOf 0 = .ok (.aload_n 0, 1) := by decide +kernel
theorem dX11_primesOf_1 : decode cX11_primesOf 1 = .ok (.getfield 68, 3) := by decide +kernel
theorem dX11_primesOf_4 : decode cX11_primesOf 4 = .ok (.iload_n 1, 1) := by decide +kernel
theorem dX11_primesOf_5 : decode cX11_primesOf 5 = .ok (.baload, 1) := by decide +kernel
theorem dX11_primesOf_6 : decode cX11_primesOf 6 = .ok (.ifCond .eq 4, 3) := by decide +kernel
theorem dX11_primesOf_9 : decode cX11_primesOf 9 = .ok (.return_, 1) := by decide +kernel
theorem dX11_primesOf_10 : decode cX11_primesOf 10 = .ok (.aload_n 0, 1) := by decide +kernel
theorem dX11_primesOf_11 : decode cX11_primesOf 11 = .ok (.getfield 68, 3) := by decide +kernel
theorem dX11_primesOf_14 : decode cX11_primesOf 14 = .ok (.iload_n 1, 1) := by decide +kernel
theorem dX11_primesOf_15 : decode cX11_primesOf 15 = .ok (.iconst 1, 1) := by decide +kernel
theorem dX11_primesOf_16 : decode cX11_primesOf 16 = .ok (.bastore, 1) := by decide +kernel
theorem dX11_primesOf_17 : decode cX11_primesOf 17 = .ok (.iconst 0, 1) := by decide +kernel
theorem dX11_primesOf_18 : decode cX11_primesOf 18 = .ok (.istore_n 2, 1) := by decide +kernel
theorem dX11_primesOf_19 : decode cX11_primesOf 19 = .ok (.iload_n 2, 1) := by decide +kernel
theorem dX11_primesOf_20 : decode cX11_primesOf 20 = .ok (.sipush 729, 3) := by decide +kernel
theorem dX11_primesOf_23 : decode cX11_primesOf 23 = .ok (.if_icmp .ge 21, 3) := by decide +kernel
theorem dX11_primesOf_26 : decode cX11_primesOf 26 = .ok (.aload_n 0, 1) := by decide +kernel
theorem dX11_primesOf_27 : decode cX11_primesOf 27 = .ok (.getfield 74, 3) := by decide +kernel
theorem dX11_primesOf_30 : decode cX11_primesOf 30 = .ok (.iload_n 2, 1) := by decide +kernel
theorem dX11_primesOf_31 : decode cX11_primesOf 31 = .ok (.aload_n 0, 1) := by decide +kernel
theorem dX11_primesOf_32 : decode cX11_primesOf 32 = .ok (.iload_n 1, 1) := by decide +kernel
theorem dX11_primesOf_33 : decode cX11_primesOf 33 = .ok (.iload_n 2, 1) := by decide +kernel
theorem dX11_primesOf_34 : decode cX11_primesOf 34 = .ok (.invokevirtual 382, 3) := by decide +kernel
theorem dX11_primesOf_37 : decode cX11_primesOf 37 = .ok (.bastore, 1) := by decide +kernel
theorem dX11_primesOf_38 : decode cX11_primesOf 38 = .ok (.iinc 2 1, 3) := by decide +kernel
theorem dX11_primesOf_41 : decode cX11_primesOf 41 = .ok (.goto (-22), 3) := by decide +kernel
theorem dX11_primesOf_44 : decode cX11_primesOf 44 = .ok (.aload_n 0, 1) := by decide +kernel
theorem dX11_primesOf_45 : decode cX11_primesOf 45 = .ok (.getfield 77, 3) := by decide +kernel
theorem dX11_primesOf_48 : decode cX11_primesOf 48 = .ok (.iload_n 1, 1) := by decide +kernel
theorem dX11_primesOf_49 : decode cX11_primesOf 49 = .ok (.iconst 0, 1) := by decide +kernel
theorem dX11_primesOf_50 : decode cX11_primesOf 50 = .ok (.iastore, 1) := by decide +kernel
theorem dX11_primesOf_51 : decode cX11_primesOf 51 = .ok (.iconst 0, 1) := by decide +kernel
theorem dX11_primesOf_52 : decode cX11_primesOf 52 = .ok (.istore_n 2, 1) := by decide +kernel
theorem dX11_primesOf_53 : decode cX11_primesOf 53 = .ok (.iload_n 2, 1) := by decide +kernel
theorem dX11_primesOf_54 : decode cX11_primesOf 54 = .ok (.sipush 729, 3) := by decide +kernel
theorem dX11_primesOf_57 : decode cX11_primesOf 57 = .ok (.if_icmp .ge 57, 3) := by decide +kernel
theorem dX11_primesOf_60 : decode cX11_primesOf 60 = .ok (.aload_n 0, 1) := by decide +kernel
theorem dX11_primesOf_61 : decode cX11_primesOf 61 = .ok (.getfield 74, 3) := by decide +kernel
theorem dX11_primesOf_64 : decode cX11_primesOf 64 = .ok (.iload_n 2, 1) := by decide +kernel
theorem dX11_primesOf_65 : decode cX11_primesOf 65 = .ok (.baload, 1) := by decide +kernel
theorem dX11_primesOf_66 : decode cX11_primesOf 66 = .ok (.ifCond .eq 42, 3) := by decide +kernel
theorem dX11_primesOf_69 : decode cX11_primesOf 69 = .ok (.aload_n 0, 1) := by decide +kernel
theorem dX11_primesOf_70 : decode cX11_primesOf 70 = .ok (.iload_n 2, 1) := by decide +kernel
theorem dX11_primesOf_71 : decode cX11_primesOf 71 = .ok (.invokevirtual 385, 3) := by decide +kernel
theorem dX11_primesOf_74 : decode cX11_primesOf 74 = .ok (.ifCond .eq 6, 3) := by decide +kernel
theorem dX11_primesOf_77 : decode cX11_primesOf 77 = .ok (.goto 31, 3) := by decide +kernel
theorem dX11_primesOf_80 : decode cX11_primesOf 80 = .ok (.aload_n 0, 1) := by decide +kernel
theorem dX11_primesOf_81 : decode cX11_primesOf 81 = .ok (.getfield 80, 3) := by decide +kernel
theorem dX11_primesOf_84 : decode cX11_primesOf 84 = .ok (.sipush 729, 3) := by decide +kernel
theorem dX11_primesOf_87 : decode cX11_primesOf 87 = .ok (.iload_n 1, 1) := by decide +kernel
theorem dX11_primesOf_88 : decode cX11_primesOf 88 = .ok (.imul, 1) := by decide +kernel
theorem dX11_primesOf_89 : decode cX11_primesOf 89 = .ok (.aload_n 0, 1) := by decide +kernel
theorem dX11_primesOf_90 : decode cX11_primesOf 90 = .ok (.getfield 77, 3) := by decide +kernel
theorem dX11_primesOf_93 : decode cX11_primesOf 93 = .ok (.iload_n 1, 1) := by decide +kernel
theorem dX11_primesOf_94 : decode cX11_primesOf 94 = .ok (.iaload, 1) := by decide +kernel
theorem dX11_primesOf_95 : decode cX11_primesOf 95 = .ok (.iadd, 1) := by decide +kernel
theorem dX11_primesOf_96 : decode cX11_primesOf 96 = .ok (.iload_n 2, 1) := by decide +kernel
theorem dX11_primesOf_97 : decode cX11_primesOf 97 = .ok (.iastore, 1) := by decide +kernel
theorem dX11_primesOf_98 : decode cX11_primesOf 98 = .ok (.aload_n 0, 1) := by decide +kernel
theorem dX11_primesOf_99 : decode cX11_primesOf 99 = .ok (.getfield 77, 3) := by decide +kernel
theorem dX11_primesOf_102 : decode cX11_primesOf 102 = .ok (.iload_n 1, 1) := by decide +kernel
theorem dX11_primesOf_103 : decode cX11_primesOf 103 = .ok (.dup2, 1) := by decide +kernel
theorem dX11_primesOf_104 : decode cX11_primesOf 104 = .ok (.iaload, 1) := by decide +kernel
theorem dX11_primesOf_105 : decode cX11_primesOf 105 = .ok (.iconst 1, 1) := by decide +kernel
theorem dX11_primesOf_106 : decode cX11_primesOf 106 = .ok (.iadd, 1) := by decide +kernel
theorem dX11_primesOf_107 : decode cX11_primesOf 107 = .ok (.iastore, 1) := by decide +kernel
theorem dX11_primesOf_108 : decode cX11_primesOf 108 = .ok (.iinc 2 1, 3) := by decide +kernel
theorem dX11_primesOf_111 : decode cX11_primesOf 111 = .ok (.goto (-58), 3) := by decide +kernel
theorem dX11_primesOf_114 : decode cX11_primesOf 114 = .ok (.return_, 1) := by decide +kernel
theorem dX11_isWithin_0 : decode cX11_isWithin 0 = .ok (.iconst 0, 1) := by decide +kernel
theorem dX11_isWithin_1 : decode cX11_isWithin 1 = .ok (.istore_n 2, 1) := by decide +kernel
theorem dX11_isWithin_2 : decode cX11_isWithin 2 = .ok (.iload_n 2, 1) := by decide +kernel
theorem dX11_isWithin_3 : decode cX11_isWithin 3 = .ok (.sipush 729, 3) := by decide +kernel
theorem dX11_isWithin_6 : decode cX11_isWithin 6 = .ok (.if_icmp .ge 34, 3) := by decide +kernel
theorem dX11_isWithin_9 : decode cX11_isWithin 9 = .ok (.iload_n 2, 1) := by decide +kernel
theorem dX11_isWithin_10 : decode cX11_isWithin 10 = .ok (.iload_n 1, 1) := by decide +kernel
theorem dX11_isWithin_11 : decode cX11_isWithin 11 = .ok (.if_icmp .eq 23, 3) := by decide +kernel
theorem dX11_isWithin_14 : decode cX11_isWithin 14 = .ok (.aload_n 0, 1) := by decide +kernel
theorem dX11_isWithin_15 : decode cX11_isWithin 15 = .ok (.getfield 74, 3) := by decide +kernel
theorem dX11_isWithin_18 : decode cX11_isWithin 18 = .ok (.iload_n 2, 1) := by decide +kernel
theorem dX11_isWithin_19 : decode cX11_isWithin 19 = .ok (.baload, 1) := by decide +kernel
theorem dX11_isWithin_20 : decode cX11_isWithin 20 = .ok (.ifCond .eq 14, 3) := by decide +kernel
theorem dX11_isWithin_23 : decode cX11_isWithin 23 = .ok (.aload_n 0, 1) := by decide +kernel
theorem dX11_isWithin_24 : decode cX11_isWithin 24 = .ok (.iload_n 1, 1) := by decide +kernel
theorem dX11_isWithin_25 : decode cX11_isWithin 25 = .ok (.iload_n 2, 1) := by decide +kernel
theorem dX11_isWithin_26 : decode cX11_isWithin 26 = .ok (.invokevirtual 388, 3) := by decide +kernel
theorem dX11_isWithin_29 : decode cX11_isWithin 29 = .ok (.ifCond .eq 5, 3) := by decide +kernel
theorem dX11_isWithin_32 : decode cX11_isWithin 32 = .ok (.iconst 1, 1) := by decide +kernel
theorem dX11_isWithin_33 : decode cX11_isWithin 33 = .ok (.ireturn, 1) := by decide +kernel
theorem dX11_isWithin_34 : decode cX11_isWithin 34 = .ok (.iinc 2 1, 3) := by decide +kernel
theorem dX11_isWithin_37 : decode cX11_isWithin 37 = .ok (.goto (-35), 3) := by decide +kernel
theorem dX11_isWithin_40 : decode cX11_isWithin 40 = .ok (.iconst 0, 1) := by decide +kernel
theorem dX11_isWithin_41 : decode cX11_isWithin 41 = .ok (.ireturn, 1) := by decide +kernel
theorem dX11_primes_0 : decode cX11_primes 0 = .ok (.aload_n 0, 1) := by decide +kernel
theorem dX11_primes_1 : decode cX11_primes 1 = .ok (.iconst 0, 1) := by decide +kernel
theorem dX11_primes_2 : decode cX11_primes 2 = .ok (.putfield 3, 3) := by decide +kernel
theorem dX11_primes_5 : decode cX11_primes 5 = .ok (.aload_n 0, 1) := by decide +kernel
theorem dX11_primes_6 : decode cX11_primes 6 = .ok (.iload_n 1, 1) := by decide +kernel
theorem dX11_primes_7 : decode cX11_primes 7 = .ok (.invokevirtual 344, 3) := by decide +kernel
theorem dX11_primes_10 : decode cX11_primes 10 = .ok (.istore_n 2, 1) := by decide +kernel
theorem dX11_primes_11 : decode cX11_primes 11 = .ok (.iload_n 2, 1) := by decide +kernel
theorem dX11_primes_12 : decode cX11_primes 12 = .ok (.ifCond .le 9, 3) := by decide +kernel
theorem dX11_primes_15 : decode cX11_primes 15 = .ok (.aload_n 0, 1) := by decide +kernel
theorem dX11_primes_16 : decode cX11_primes 16 = .ok (.iload_n 2, 1) := by decide +kernel
theorem dX11_primes_17 : decode cX11_primes 17 = .ok (.invokevirtual 251, 3) := by decide +kernel
theorem dX11_primes_20 : decode cX11_primes 20 = .ok (.ireturn, 1) := by decide +kernel
theorem dX11_primes_21 : decode cX11_primes 21 = .ok (.aload_n 0, 1) := by decide +kernel
theorem dX11_primes_22 : decode cX11_primes 22 = .ok (.iload_n 1, 1) := by decide +kernel
theorem dX11_primes_23 : decode cX11_primes 23 = .ok (.invokevirtual 391, 3) := by decide +kernel
theorem dX11_primes_26 : decode cX11_primes 26 = .ok (.aload_n 0, 1) := by decide +kernel
theorem dX11_primes_27 : decode cX11_primes 27 = .ok (.aload_n 0, 1) := by decide +kernel
theorem dX11_primes_28 : decode cX11_primes 28 = .ok (.getfield 77, 3) := by decide +kernel
theorem dX11_primes_31 : decode cX11_primes 31 = .ok (.iload_n 1, 1) := by decide +kernel
theorem dX11_primes_32 : decode cX11_primes 32 = .ok (.iaload, 1) := by decide +kernel
theorem dX11_primes_33 : decode cX11_primes 33 = .ok (.invokevirtual 267, 3) := by decide +kernel
theorem dX11_primes_36 : decode cX11_primes 36 = .ok (.ireturn, 1) := by decide +kernel
theorem dX11_prime_0 : decode cX11_prime 0 = .ok (.aload_n 0, 1) := by decide +kernel
theorem dX11_prime_1 : decode cX11_prime 1 = .ok (.iconst 0, 1) := by decide +kernel
theorem dX11_prime_2 : decode cX11_prime 2 = .ok (.putfield 3, 3) := by decide +kernel
theorem dX11_prime_5 : decode cX11_prime 5 = .ok (.aload_n 0, 1) := by decide +kernel
theorem dX11_prime_6 : decode cX11_prime 6 = .ok (.iload_n 1, 1) := by decide +kernel
theorem dX11_prime_7 : decode cX11_prime 7 = .ok (.invokevirtual 344, 3) := by decide +kernel
theorem dX11_prime_10 : decode cX11_prime 10 = .ok (.istore_n 3, 1) := by decide +kernel
theorem dX11_prime_11 : decode cX11_prime 11 = .ok (.iload_n 3, 1) := by decide +kernel
theorem dX11_prime_12 : decode cX11_prime 12 = .ok (.ifCond .le 9, 3) := by decide +kernel
theorem dX11_prime_15 : decode cX11_prime 15 = .ok (.aload_n 0, 1) := by decide +kernel
theorem dX11_prime_16 : decode cX11_prime 16 = .ok (.iload_n 3, 1) := by decide +kernel
theorem dX11_prime_17 : decode cX11_prime 17 = .ok (.invokevirtual 251, 3) := by decide +kernel
theorem dX11_prime_20 : decode cX11_prime 20 = .ok (.ireturn, 1) := by decide +kernel
theorem dX11_prime_21 : decode cX11_prime 21 = .ok (.aload_n 0, 1) := by decide +kernel
theorem dX11_prime_22 : decode cX11_prime 22 = .ok (.iload_n 1, 1) := by decide +kernel
theorem dX11_prime_23 : decode cX11_prime 23 = .ok (.invokevirtual 391, 3) := by decide +kernel
theorem dX11_prime_26 : decode cX11_prime 26 = .ok (.iload_n 2, 1) := by decide +kernel
theorem dX11_prime_27 : decode cX11_prime 27 = .ok (.ifCond .lt 13, 3) := by decide +kernel
theorem dX11_prime_30 : decode cX11_prime 30 = .ok (.iload_n 2, 1) := by decide +kernel
theorem dX11_prime_31 : decode cX11_prime 31 = .ok (.aload_n 0, 1) := by decide +kernel
theorem dX11_prime_32 : decode cX11_prime 32 = .ok (.getfield 77, 3) := by decide +kernel
theorem dX11_prime_35 : decode cX11_prime 35 = .ok (.iload_n 1, 1) := by decide +kernel
theorem dX11_prime_36 : decode cX11_prime 36 = .ok (.iaload, 1) := by decide +kernel
theorem dX11_prime_37 : decode cX11_prime 37 = .ok (.if_icmp .lt 9, 3) := by decide +kernel
theorem dX11_prime_40 : decode cX11_prime 40 = .ok (.aload_n 0, 1) := by decide +kernel
theorem dX11_prime_41 : decode cX11_prime 41 = .ok (.iconst 1, 1) := by decide +kernel
theorem dX11_prime_42 : decode cX11_prime 42 = .ok (.invokevirtual 251, 3) := by decide +kernel
theorem dX11_prime_45 : decode cX11_prime 45 = .ok (.ireturn, 1) := by decide +kernel
theorem dX11_prime_46 : decode cX11_prime 46 = .ok (.aload_n 0, 1) := by decide +kernel
theorem dX11_prime_47 : decode cX11_prime 47 = .ok (.aload_n 0, 1) := by decide +kernel
theorem dX11_prime_48 : decode cX11_prime 48 = .ok (.getfield 80, 3) := by decide +kernel
theorem dX11_prime_51 : decode cX11_prime 51 = .ok (.sipush 729, 3) := by decide +kernel
theorem dX11_prime_54 : decode cX11_prime 54 = .ok (.iload_n 1, 1) := by decide +kernel
theorem dX11_prime_55 : decode cX11_prime 55 = .ok (.imul, 1) := by decide +kernel
theorem dX11_prime_56 : decode cX11_prime 56 = .ok (.iload_n 2, 1) := by decide +kernel
theorem dX11_prime_57 : decode cX11_prime 57 = .ok (.iadd, 1) := by decide +kernel
theorem dX11_prime_58 : decode cX11_prime 58 = .ok (.iaload, 1) := by decide +kernel
theorem dX11_prime_59 : decode cX11_prime 59 = .ok (.invokevirtual 267, 3) := by decide +kernel
theorem dX11_prime_62 : decode cX11_prime 62 = .ok (.ireturn, 1) := by decide +kernel
theorem dX11_covers_0 : decode cX11_covers 0 = .ok (.lconst 0, 1) := by decide +kernel
theorem dX11_covers_1 : decode cX11_covers 1 = .ok (.lstore_n 3, 1) := by decide +kernel
theorem dX11_covers_2 : decode cX11_covers 2 = .ok (.iconst 0, 1) := by decide +kernel
theorem dX11_covers_3 : decode cX11_covers 3 = .ok (.istore 5, 2) := by decide +kernel
theorem dX11_covers_5 : decode cX11_covers 5 = .ok (.iload 5, 2) := by decide +kernel
theorem dX11_covers_7 : decode cX11_covers 7 = .ok (.aload_n 0, 1) := by decide +kernel
theorem dX11_covers_8 : decode cX11_covers 8 = .ok (.getfield 358, 3) := by decide +kernel
theorem dX11_covers_11 : decode cX11_covers 11 = .ok (.if_icmp .ge 42, 3) := by decide +kernel
theorem dX11_covers_14 : decode cX11_covers 14 = .ok (.aload_n 0, 1) := by decide +kernel
theorem dX11_covers_15 : decode cX11_covers 15 = .ok (.aload_n 0, 1) := by decide +kernel
theorem dX11_covers_16 : decode cX11_covers 16 = .ok (.getfield 65, 3) := by decide +kernel
theorem dX11_covers_19 : decode cX11_covers 19 = .ok (.iload 5, 2) := by decide +kernel
theorem dX11_covers_21 : decode cX11_covers 21 = .ok (.iaload, 1) := by decide +kernel
theorem dX11_covers_22 : decode cX11_covers 22 = .ok (.aload_n 0, 1) := by decide +kernel
theorem dX11_covers_23 : decode cX11_covers 23 = .ok (.getfield 80, 3) := by decide +kernel
theorem dX11_covers_26 : decode cX11_covers 26 = .ok (.sipush 729, 3) := by decide +kernel
theorem dX11_covers_29 : decode cX11_covers 29 = .ok (.iload_n 1, 1) := by decide +kernel
theorem dX11_covers_30 : decode cX11_covers 30 = .ok (.imul, 1) := by decide +kernel
theorem dX11_covers_31 : decode cX11_covers 31 = .ok (.iload_n 2, 1) := by decide +kernel
theorem dX11_covers_32 : decode cX11_covers 32 = .ok (.iadd, 1) := by decide +kernel
theorem dX11_covers_33 : decode cX11_covers 33 = .ok (.iaload, 1) := by decide +kernel
theorem dX11_covers_34 : decode cX11_covers 34 = .ok (.invokevirtual 388, 3) := by decide +kernel
theorem dX11_covers_37 : decode cX11_covers 37 = .ok (.ifCond .eq 10, 3) := by decide +kernel
theorem dX11_covers_40 : decode cX11_covers 40 = .ok (.lload_n 3, 1) := by decide +kernel
theorem dX11_covers_41 : decode cX11_covers 41 = .ok (.lconst 1, 1) := by decide +kernel
theorem dX11_covers_42 : decode cX11_covers 42 = .ok (.iload 5, 2) := by decide +kernel
theorem dX11_covers_44 : decode cX11_covers 44 = .ok (.lshl, 1) := by decide +kernel
theorem dX11_covers_45 : decode cX11_covers 45 = .ok (.lor, 1) := by decide +kernel
theorem dX11_covers_46 : decode cX11_covers 46 = .ok (.lstore_n 3, 1) := by decide +kernel
theorem dX11_covers_47 : decode cX11_covers 47 = .ok (.iinc 5 1, 3) := by decide +kernel
theorem dX11_covers_50 : decode cX11_covers 50 = .ok (.goto (-45), 3) := by decide +kernel
theorem dX11_covers_53 : decode cX11_covers 53 = .ok (.lload_n 3, 1) := by decide +kernel
theorem dX11_covers_54 : decode cX11_covers 54 = .ok (.lreturn, 1) := by decide +kernel
theorem dX11_needed_0 : decode cX11_needed 0 = .ok (.aload_n 0, 1) := by decide +kernel
theorem dX11_needed_1 : decode cX11_needed 1 = .ok (.iconst 0, 1) := by decide +kernel
theorem dX11_needed_2 : decode cX11_needed 2 = .ok (.putfield 3, 3) := by decide +kernel
theorem dX11_needed_5 : decode cX11_needed 5 = .ok (.aload_n 0, 1) := by decide +kernel
theorem dX11_needed_6 : decode cX11_needed 6 = .ok (.iload_n 1, 1) := by decide +kernel
theorem dX11_needed_7 : decode cX11_needed 7 = .ok (.invokevirtual 344, 3) := by decide +kernel
theorem dX11_needed_10 : decode cX11_needed 10 = .ok (.istore_n 2, 1) := by decide +kernel
theorem dX11_needed_11 : decode cX11_needed 11 = .ok (.iload_n 2, 1) := by decide +kernel
theorem dX11_needed_12 : decode cX11_needed 12 = .ok (.ifCond .le 9, 3) := by decide +kernel
theorem dX11_needed_15 : decode cX11_needed 15 = .ok (.aload_n 0, 1) := by decide +kernel
theorem dX11_needed_16 : decode cX11_needed 16 = .ok (.iload_n 2, 1) := by decide +kernel
theorem dX11_needed_17 : decode cX11_needed 17 = .ok (.invokevirtual 251, 3) := by decide +kernel
theorem dX11_needed_20 : decode cX11_needed 20 = .ok (.ireturn, 1) := by decide +kernel
theorem dX11_needed_21 : decode cX11_needed 21 = .ok (.aload_n 0, 1) := by decide +kernel
theorem dX11_needed_22 : decode cX11_needed 22 = .ok (.iload_n 1, 1) := by decide +kernel
theorem dX11_needed_23 : decode cX11_needed 23 = .ok (.invokevirtual 373, 3) := by decide +kernel
theorem dX11_needed_26 : decode cX11_needed 26 = .ok (.aload_n 0, 1) := by decide +kernel
theorem dX11_needed_27 : decode cX11_needed 27 = .ok (.iload_n 1, 1) := by decide +kernel
theorem dX11_needed_28 : decode cX11_needed 28 = .ok (.invokevirtual 391, 3) := by decide +kernel
theorem dX11_needed_31 : decode cX11_needed 31 = .ok (.iconst 0, 1) := by decide +kernel
theorem dX11_needed_32 : decode cX11_needed 32 = .ok (.istore_n 3, 1) := by decide +kernel
theorem dX11_needed_33 : decode cX11_needed 33 = .ok (.iconst 0, 1) := by decide +kernel
theorem dX11_needed_34 : decode cX11_needed 34 = .ok (.istore 4, 2) := by decide +kernel
theorem dX11_needed_36 : decode cX11_needed 36 = .ok (.iload 4, 2) := by decide +kernel
theorem dX11_needed_38 : decode cX11_needed 38 = .ok (.aload_n 0, 1) := by decide +kernel
theorem dX11_needed_39 : decode cX11_needed 39 = .ok (.getfield 77, 3) := by decide +kernel
theorem dX11_needed_42 : decode cX11_needed 42 = .ok (.iload_n 1, 1) := by decide +kernel
theorem dX11_needed_43 : decode cX11_needed 43 = .ok (.iaload, 1) := by decide +kernel
theorem dX11_needed_44 : decode cX11_needed 44 = .ok (.if_icmp .ge 41, 3) := by decide +kernel
theorem dX11_needed_47 : decode cX11_needed 47 = .ok (.iload_n 3, 1) := by decide +kernel
theorem dX11_needed_48 : decode cX11_needed 48 = .ok (.aload_n 0, 1) := by decide +kernel
theorem dX11_needed_49 : decode cX11_needed 49 = .ok (.iload_n 1, 1) := by decide +kernel
theorem dX11_needed_50 : decode cX11_needed 50 = .ok (.iload 4, 2) := by decide +kernel
theorem dX11_needed_52 : decode cX11_needed 52 = .ok (.invokevirtual 394, 3) := by decide +kernel
theorem dX11_needed_55 : decode cX11_needed 55 = .ok (.aload_n 0, 1) := by decide +kernel
theorem dX11_needed_56 : decode cX11_needed 56 = .ok (.iload_n 1, 1) := by decide +kernel
theorem dX11_needed_57 : decode cX11_needed 57 = .ok (.iload 4, 2) := by decide +kernel
theorem dX11_needed_59 : decode cX11_needed 59 = .ok (.invokevirtual 398, 3) := by decide +kernel
theorem dX11_needed_62 : decode cX11_needed 62 = .ok (.ldc2_w 117, 3) := by decide +kernel
theorem dX11_needed_65 : decode cX11_needed 65 = .ok (.lxor, 1) := by decide +kernel
theorem dX11_needed_66 : decode cX11_needed 66 = .ok (.land, 1) := by decide +kernel
theorem dX11_needed_67 : decode cX11_needed 67 = .ok (.lconst 0, 1) := by decide +kernel
theorem dX11_needed_68 : decode cX11_needed 68 = .ok (.lcmp, 1) := by decide +kernel
theorem dX11_needed_69 : decode cX11_needed 69 = .ok (.ifCond .eq 7, 3) := by decide +kernel
theorem dX11_needed_72 : decode cX11_needed 72 = .ok (.iconst 1, 1) := by decide +kernel
theorem dX11_needed_73 : decode cX11_needed 73 = .ok (.goto 4, 3) := by decide +kernel
theorem dX11_needed_76 : decode cX11_needed 76 = .ok (.iconst 0, 1) := by decide +kernel
theorem dX11_needed_77 : decode cX11_needed 77 = .ok (.iadd, 1) := by decide +kernel
theorem dX11_needed_78 : decode cX11_needed 78 = .ok (.istore_n 3, 1) := by decide +kernel
theorem dX11_needed_79 : decode cX11_needed 79 = .ok (.iinc 4 1, 3) := by decide +kernel
theorem dX11_needed_82 : decode cX11_needed 82 = .ok (.goto (-46), 3) := by decide +kernel
theorem dX11_needed_85 : decode cX11_needed 85 = .ok (.aload_n 0, 1) := by decide +kernel
theorem dX11_needed_86 : decode cX11_needed 86 = .ok (.iload_n 3, 1) := by decide +kernel
theorem dX11_needed_87 : decode cX11_needed 87 = .ok (.invokevirtual 267, 3) := by decide +kernel
theorem dX11_needed_90 : decode cX11_needed 90 = .ok (.ireturn, 1) := by decide +kernel
theorem dX11_coveredBut_0 : decode cX11_coveredBut 0 = .ok (.lconst 0, 1) := by decide +kernel
theorem dX11_coveredBut_1 : decode cX11_coveredBut 1 = .ok (.lstore_n 3, 1) := by decide +kernel
theorem dX11_coveredBut_2 : decode cX11_coveredBut 2 = .ok (.iconst 0, 1) := by decide +kernel
theorem dX11_coveredBut_3 : decode cX11_coveredBut 3 = .ok (.istore 5, 2) := by decide +kernel
theorem dX11_coveredBut_5 : decode cX11_coveredBut 5 = .ok (.iload 5, 2) := by decide +kernel
theorem dX11_coveredBut_7 : decode cX11_coveredBut 7 = .ok (.aload_n 0, 1) := by decide +kernel
theorem dX11_coveredBut_8 : decode cX11_coveredBut 8 = .ok (.getfield 77, 3) := by decide +kernel
theorem dX11_coveredBut_11 : decode cX11_coveredBut 11 = .ok (.iload_n 1, 1) := by decide +kernel
theorem dX11_coveredBut_12 : decode cX11_coveredBut 12 = .ok (.iaload, 1) := by decide +kernel
theorem dX11_coveredBut_13 : decode cX11_coveredBut 13 = .ok (.if_icmp .ge 25, 3) := by decide +kernel
theorem dX11_coveredBut_16 : decode cX11_coveredBut 16 = .ok (.iload 5, 2) := by decide +kernel
theorem dX11_coveredBut_18 : decode cX11_coveredBut 18 = .ok (.iload_n 2, 1) := by decide +kernel
theorem dX11_coveredBut_19 : decode cX11_coveredBut 19 = .ok (.if_icmp .eq 13, 3) := by decide +kernel
theorem dX11_coveredBut_22 : decode cX11_coveredBut 22 = .ok (.lload_n 3, 1) := by decide +kernel
theorem dX11_coveredBut_23 : decode cX11_coveredBut 23 = .ok (.aload_n 0, 1) := by decide +kernel
theorem dX11_coveredBut_24 : decode cX11_coveredBut 24 = .ok (.iload_n 1, 1) := by decide +kernel
theorem dX11_coveredBut_25 : decode cX11_coveredBut 25 = .ok (.iload 5, 2) := by decide +kernel
theorem dX11_coveredBut_27 : decode cX11_coveredBut 27 = .ok (.invokevirtual 394, 3) := by decide +kernel
theorem dX11_coveredBut_30 : decode cX11_coveredBut 30 = .ok (.lor, 1) := by decide +kernel
theorem dX11_coveredBut_31 : decode cX11_coveredBut 31 = .ok (.lstore_n 3, 1) := by decide +kernel
theorem dX11_coveredBut_32 : decode cX11_coveredBut 32 = .ok (.iinc 5 1, 3) := by decide +kernel
theorem dX11_coveredBut_35 : decode cX11_coveredBut 35 = .ok (.goto (-30), 3) := by decide +kernel
theorem dX11_coveredBut_38 : decode cX11_coveredBut 38 = .ok (.lload_n 3, 1) := by decide +kernel
theorem dX11_coveredBut_39 : decode cX11_coveredBut 39 = .ok (.lreturn, 1) := by decide +kernel
theorem dX11_lackingNow_0 : decode cX11_lackingNow 0 = .ok (.aload_n 0, 1) := by decide +kernel
theorem dX11_lackingNow_1 : decode cX11_lackingNow 1 = .ok (.iload_n 1, 1) := by decide +kernel
theorem dX11_lackingNow_2 : decode cX11_lackingNow 2 = .ok (.invokevirtual 373, 3) := by decide +kernel
theorem dX11_lackingNow_5 : decode cX11_lackingNow 5 = .ok (.aload_n 0, 1) := by decide +kernel
theorem dX11_lackingNow_6 : decode cX11_lackingNow 6 = .ok (.iload_n 1, 1) := by decide +kernel
theorem dX11_lackingNow_7 : decode cX11_lackingNow 7 = .ok (.invokevirtual 391, 3) := by decide +kernel
theorem dX11_lackingNow_10 : decode cX11_lackingNow 10 = .ok (.aload_n 0, 1) := by decide +kernel
theorem dX11_lackingNow_11 : decode cX11_lackingNow 11 = .ok (.iload_n 1, 1) := by decide +kernel
theorem dX11_lackingNow_12 : decode cX11_lackingNow 12 = .ok (.iconst (-1), 1) := by decide +kernel
theorem dX11_lackingNow_13 : decode cX11_lackingNow 13 = .ok (.invokevirtual 398, 3) := by decide +kernel
theorem dX11_lackingNow_16 : decode cX11_lackingNow 16 = .ok (.lstore_n 2, 1) := by decide +kernel
theorem dX11_lackingNow_17 : decode cX11_lackingNow 17 = .ok (.iconst 0, 1) := by decide +kernel
theorem dX11_lackingNow_18 : decode cX11_lackingNow 18 = .ok (.istore 4, 2) := by decide +kernel
theorem dX11_lackingNow_20 : decode cX11_lackingNow 20 = .ok (.iload 4, 2) := by decide +kernel
theorem dX11_lackingNow_22 : decode cX11_lackingNow 22 = .ok (.aload_n 0, 1) := by decide +kernel
theorem dX11_lackingNow_23 : decode cX11_lackingNow 23 = .ok (.getfield 358, 3) := by decide +kernel
theorem dX11_lackingNow_26 : decode cX11_lackingNow 26 = .ok (.if_icmp .ge 21, 3) := by decide +kernel
theorem dX11_lackingNow_29 : decode cX11_lackingNow 29 = .ok (.lload_n 2, 1) := by decide +kernel
theorem dX11_lackingNow_30 : decode cX11_lackingNow 30 = .ok (.iload 4, 2) := by decide +kernel
theorem dX11_lackingNow_32 : decode cX11_lackingNow 32 = .ok (.invokestatic 347, 3) := by decide +kernel
theorem dX11_lackingNow_35 : decode cX11_lackingNow 35 = .ok (.ifCond .ne 6, 3) := by decide +kernel
theorem dX11_lackingNow_38 : decode cX11_lackingNow 38 = .ok (.iload 4, 2) := by decide +kernel
theorem dX11_lackingNow_40 : decode cX11_lackingNow 40 = .ok (.ireturn, 1) := by decide +kernel
theorem dX11_lackingNow_41 : decode cX11_lackingNow 41 = .ok (.iinc 4 1, 3) := by decide +kernel
theorem dX11_lackingNow_44 : decode cX11_lackingNow 44 = .ok (.goto (-24), 3) := by decide +kernel
theorem dX11_lackingNow_47 : decode cX11_lackingNow 47 = .ok (.bipush (-2), 2) := by decide +kernel
theorem dX11_lackingNow_49 : decode cX11_lackingNow 49 = .ok (.ireturn, 1) := by decide +kernel
theorem dX11_lacking_0 : decode cX11_lacking 0 = .ok (.aload_n 0, 1) := by decide +kernel
theorem dX11_lacking_1 : decode cX11_lacking 1 = .ok (.iconst 0, 1) := by decide +kernel
theorem dX11_lacking_2 : decode cX11_lacking 2 = .ok (.putfield 3, 3) := by decide +kernel
theorem dX11_lacking_5 : decode cX11_lacking 5 = .ok (.aload_n 0, 1) := by decide +kernel
theorem dX11_lacking_6 : decode cX11_lacking 6 = .ok (.iload_n 1, 1) := by decide +kernel
theorem dX11_lacking_7 : decode cX11_lacking 7 = .ok (.invokevirtual 344, 3) := by decide +kernel
theorem dX11_lacking_10 : decode cX11_lacking 10 = .ok (.istore_n 2, 1) := by decide +kernel
theorem dX11_lacking_11 : decode cX11_lacking 11 = .ok (.iload_n 2, 1) := by decide +kernel
theorem dX11_lacking_12 : decode cX11_lacking 12 = .ok (.ifCond .le 9, 3) := by decide +kernel
theorem dX11_lacking_15 : decode cX11_lacking 15 = .ok (.aload_n 0, 1) := by decide +kernel
theorem dX11_lacking_16 : decode cX11_lacking 16 = .ok (.iload_n 2, 1) := by decide +kernel
theorem dX11_lacking_17 : decode cX11_lacking 17 = .ok (.invokevirtual 251, 3) := by decide +kernel
theorem dX11_lacking_20 : decode cX11_lacking 20 = .ok (.ireturn, 1) := by decide +kernel
theorem dX11_lacking_21 : decode cX11_lacking 21 = .ok (.aload_n 0, 1) := by decide +kernel
theorem dX11_lacking_22 : decode cX11_lacking 22 = .ok (.aload_n 0, 1) := by decide +kernel
theorem dX11_lacking_23 : decode cX11_lacking 23 = .ok (.iload_n 1, 1) := by decide +kernel
theorem dX11_lacking_24 : decode cX11_lacking 24 = .ok (.invokevirtual 401, 3) := by decide +kernel
theorem dX11_lacking_27 : decode cX11_lacking 27 = .ok (.invokevirtual 267, 3) := by decide +kernel
theorem dX11_lacking_30 : decode cX11_lacking 30 = .ok (.ireturn, 1) := by decide +kernel
theorem dX11_coversBest_0 : decode cX11_coversBest 0 = .ok (.aload_n 0, 1) := by decide +kernel
theorem dX11_coversBest_1 : decode cX11_coversBest 1 = .ok (.getfield 71, 3) := by decide +kernel
theorem dX11_coversBest_4 : decode cX11_coversBest 4 = .ok (.iload_n 1, 1) := by decide +kernel
theorem dX11_coversBest_5 : decode cX11_coversBest 5 = .ok (.baload, 1) := by decide +kernel
theorem dX11_coversBest_6 : decode cX11_coversBest 6 = .ok (.ifCond .eq 4, 3) := by decide +kernel
theorem dX11_coversBest_9 : decode cX11_coversBest 9 = .ok (.return_, 1) := by decide +kernel
theorem dX11_coversBest_10 : decode cX11_coversBest 10 = .ok (.aload_n 0, 1) := by decide +kernel
theorem dX11_coversBest_11 : decode cX11_coversBest 11 = .ok (.getfield 71, 3) := by decide +kernel
theorem dX11_coversBest_14 : decode cX11_coversBest 14 = .ok (.iload_n 1, 1) := by decide +kernel
theorem dX11_coversBest_15 : decode cX11_coversBest 15 = .ok (.iconst 1, 1) := by decide +kernel
theorem dX11_coversBest_16 : decode cX11_coversBest 16 = .ok (.bastore, 1) := by decide +kernel
theorem dX11_coversBest_17 : decode cX11_coversBest 17 = .ok (.aload_n 0, 1) := by decide +kernel
theorem dX11_coversBest_18 : decode cX11_coversBest 18 = .ok (.getfield 83, 3) := by decide +kernel
theorem dX11_coversBest_21 : decode cX11_coversBest 21 = .ok (.iload_n 1, 1) := by decide +kernel
theorem dX11_coversBest_22 : decode cX11_coversBest 22 = .ok (.aload_n 0, 1) := by decide +kernel
theorem dX11_coversBest_23 : decode cX11_coversBest 23 = .ok (.iload_n 1, 1) := by decide +kernel
theorem dX11_coversBest_24 : decode cX11_coversBest 24 = .ok (.invokevirtual 401, 3) := by decide +kernel
theorem dX11_coversBest_27 : decode cX11_coversBest 27 = .ok (.bipush (-2), 2) := by decide +kernel
theorem dX11_coversBest_29 : decode cX11_coversBest 29 = .ok (.if_icmp .ne 8, 3) := by decide +kernel
theorem dX11_coversBest_32 : decode cX11_coversBest 32 = .ok (.bipush 6, 2) := by decide +kernel
theorem dX11_coversBest_34 : decode cX11_coversBest 34 = .ok (.goto 5, 3) := by decide +kernel
theorem dX11_coversBest_37 : decode cX11_coversBest 37 = .ok (.bipush (-2), 2) := by decide +kernel
theorem dX11_coversBest_39 : decode cX11_coversBest 39 = .ok (.iastore, 1) := by decide +kernel
theorem dX11_coversBest_40 : decode cX11_coversBest 40 = .ok (.aload_n 0, 1) := by decide +kernel
theorem dX11_coversBest_41 : decode cX11_coversBest 41 = .ok (.getfield 83, 3) := by decide +kernel
theorem dX11_coversBest_44 : decode cX11_coversBest 44 = .ok (.iload_n 1, 1) := by decide +kernel
theorem dX11_coversBest_45 : decode cX11_coversBest 45 = .ok (.iaload, 1) := by decide +kernel
theorem dX11_coversBest_46 : decode cX11_coversBest 46 = .ok (.bipush (-2), 2) := by decide +kernel
theorem dX11_coversBest_48 : decode cX11_coversBest 48 = .ok (.if_icmp .ne 4, 3) := by decide +kernel
theorem dX11_coversBest_51 : decode cX11_coversBest 51 = .ok (.return_, 1) := by decide +kernel
theorem dX11_coversBest_52 : decode cX11_coversBest 52 = .ok (.iconst 0, 1) := by decide +kernel
theorem dX11_coversBest_53 : decode cX11_coversBest 53 = .ok (.istore_n 2, 1) := by decide +kernel
theorem dX11_coversBest_54 : decode cX11_coversBest 54 = .ok (.iload_n 2, 1) := by decide +kernel
theorem dX11_coversBest_55 : decode cX11_coversBest 55 = .ok (.aload_n 0, 1) := by decide +kernel
theorem dX11_coversBest_56 : decode cX11_coversBest 56 = .ok (.getfield 77, 3) := by decide +kernel
theorem dX11_coversBest_59 : decode cX11_coversBest 59 = .ok (.iload_n 1, 1) := by decide +kernel
theorem dX11_coversBest_60 : decode cX11_coversBest 60 = .ok (.iaload, 1) := by decide +kernel
theorem dX11_coversBest_61 : decode cX11_coversBest 61 = .ok (.if_icmp .ge 21, 3) := by decide +kernel
theorem dX11_coversBest_64 : decode cX11_coversBest 64 = .ok (.aload_n 0, 1) := by decide +kernel
theorem dX11_coversBest_65 : decode cX11_coversBest 65 = .ok (.getfield 92, 3) := by decide +kernel
theorem dX11_coversBest_68 : decode cX11_coversBest 68 = .ok (.iload_n 2, 1) := by decide +kernel
theorem dX11_coversBest_69 : decode cX11_coversBest 69 = .ok (.aload_n 0, 1) := by decide +kernel
theorem dX11_coversBest_70 : decode cX11_coversBest 70 = .ok (.iload_n 1, 1) := by decide +kernel
theorem dX11_coversBest_71 : decode cX11_coversBest 71 = .ok (.iload_n 2, 1) := by decide +kernel
theorem dX11_coversBest_72 : decode cX11_coversBest 72 = .ok (.invokevirtual 394, 3) := by decide +kernel
theorem dX11_coversBest_75 : decode cX11_coversBest 75 = .ok (.lastore, 1) := by decide +kernel
theorem dX11_coversBest_76 : decode cX11_coversBest 76 = .ok (.iinc 2 1, 3) := by decide +kernel
theorem dX11_coversBest_79 : decode cX11_coversBest 79 = .ok (.goto (-25), 3) := by decide +kernel
theorem dX11_coversBest_82 : decode cX11_coversBest 82 = .ok (.lconst 1, 1) := by decide +kernel
theorem dX11_coversBest_83 : decode cX11_coversBest 83 = .ok (.aload_n 0, 1) := by decide +kernel
theorem dX11_coversBest_84 : decode cX11_coversBest 84 = .ok (.getfield 358, 3) := by decide +kernel
theorem dX11_coversBest_87 : decode cX11_coversBest 87 = .ok (.lshl, 1) := by decide +kernel
theorem dX11_coversBest_88 : decode cX11_coversBest 88 = .ok (.lconst 1, 1) := by decide +kernel
theorem dX11_coversBest_89 : decode cX11_coversBest 89 = .ok (.lsub, 1) := by decide +kernel
theorem dX11_coversBest_90 : decode cX11_coversBest 90 = .ok (.lstore_n 2, 1) := by decide +kernel
theorem dX11_coversBest_91 : decode cX11_coversBest 91 = .ok (.iconst 0, 1) := by decide +kernel
theorem dX11_coversBest_92 : decode cX11_coversBest 92 = .ok (.istore 4, 2) := by decide +kernel
theorem dX11_coversBest_94 : decode cX11_coversBest 94 = .ok (.iload 4, 2) := by decide +kernel
theorem dX11_coversBest_96 : decode cX11_coversBest 96 = .ok (.iconst 5, 1) := by decide +kernel
theorem dX11_coversBest_97 : decode cX11_coversBest 97 = .ok (.if_icmp .gt 68, 3) := by decide +kernel
theorem dX11_coversBest_100 : decode cX11_coversBest 100 = .ok (.aload_n 0, 1) := by decide +kernel
theorem dX11_coversBest_101 : decode cX11_coversBest 101 = .ok (.iload_n 1, 1) := by decide +kernel
theorem dX11_coversBest_102 : decode cX11_coversBest 102 = .ok (.iconst 0, 1) := by decide +kernel
theorem dX11_coversBest_103 : decode cX11_coversBest 103 = .ok (.iload 4, 2) := by decide +kernel
theorem dX11_coversBest_105 : decode cX11_coversBest 105 = .ok (.iconst 0, 1) := by decide +kernel
theorem dX11_coversBest_106 : decode cX11_coversBest 106 = .ok (.lload_n 2, 1) := by decide +kernel
theorem dX11_coversBest_107 : decode cX11_coversBest 107 = .ok (.invokevirtual 404, 3) := by decide +kernel
theorem dX11_coversBest_110 : decode cX11_coversBest 110 = .ok (.ifCond .ne 6, 3) := by decide +kernel
theorem dX11_coversBest_113 : decode cX11_coversBest 113 = .ok (.goto 46, 3) := by decide +kernel
theorem dX11_coversBest_116 : decode cX11_coversBest 116 = .ok (.aload_n 0, 1) := by decide +kernel
theorem dX11_coversBest_117 : decode cX11_coversBest 117 = .ok (.getfield 83, 3) := by decide +kernel
theorem dX11_coversBest_120 : decode cX11_coversBest 120 = .ok (.iload_n 1, 1) := by decide +kernel
theorem dX11_coversBest_121 : decode cX11_coversBest 121 = .ok (.iload 4, 2) := by decide +kernel
theorem dX11_coversBest_123 : decode cX11_coversBest 123 = .ok (.iastore, 1) := by decide +kernel
theorem dX11_coversBest_124 : decode cX11_coversBest 124 = .ok (.iconst 0, 1) := by decide +kernel
theorem dX11_coversBest_125 : decode cX11_coversBest 125 = .ok (.istore 5, 2) := by decide +kernel
theorem dX11_coversBest_127 : decode cX11_coversBest 127 = .ok (.iload 5, 2) := by decide +kernel
theorem dX11_coversBest_129 : decode cX11_coversBest 129 = .ok (.iload 4, 2) := by decide +kernel
theorem dX11_coversBest_131 : decode cX11_coversBest 131 = .ok (.if_icmp .ge 27, 3) := by decide +kernel
theorem dX11_coversBest_134 : decode cX11_coversBest 134 = .ok (.aload_n 0, 1) := by decide +kernel
theorem dX11_coversBest_135 : decode cX11_coversBest 135 = .ok (.getfield 86, 3) := by decide +kernel
theorem dX11_coversBest_138 : decode cX11_coversBest 138 = .ok (.iconst 5, 1) := by decide +kernel
theorem dX11_coversBest_139 : decode cX11_coversBest 139 = .ok (.iload_n 1, 1) := by decide +kernel
theorem dX11_coversBest_140 : decode cX11_coversBest 140 = .ok (.imul, 1) := by decide +kernel
theorem dX11_coversBest_141 : decode cX11_coversBest 141 = .ok (.iload 5, 2) := by decide +kernel
theorem dX11_coversBest_143 : decode cX11_coversBest 143 = .ok (.iadd, 1) := by decide +kernel
theorem dX11_coversBest_144 : decode cX11_coversBest 144 = .ok (.aload_n 0, 1) := by decide +kernel
theorem dX11_coversBest_145 : decode cX11_coversBest 145 = .ok (.getfield 89, 3) := by decide +kernel
theorem dX11_coversBest_148 : decode cX11_coversBest 148 = .ok (.iload 5, 2) := by decide +kernel
theorem dX11_coversBest_150 : decode cX11_coversBest 150 = .ok (.iaload, 1) := by decide +kernel
theorem dX11_coversBest_151 : decode cX11_coversBest 151 = .ok (.iastore, 1) := by decide +kernel
theorem dX11_coversBest_152 : decode cX11_coversBest 152 = .ok (.iinc 5 1, 3) := by decide +kernel
theorem dX11_coversBest_155 : decode cX11_coversBest 155 = .ok (.goto (-28), 3) := by decide +kernel
theorem dX11_coversBest_158 : decode cX11_coversBest 158 = .ok (.return_, 1) := by decide +kernel
theorem dX11_coversBest_159 : decode cX11_coversBest 159 = .ok (.iinc 4 1, 3) := by decide +kernel
theorem dX11_coversBest_162 : decode cX11_coversBest 162 = .ok (.goto (-68), 3) := by decide +kernel
theorem dX11_coversBest_165 : decode cX11_coversBest 165 = .ok (.return_, 1) := by decide +kernel
theorem dX11_chooses_0 : decode cX11_chooses 0 = .ok (.lload 5, 2) := by decide +kernel
theorem dX11_chooses_2 : decode cX11_chooses 2 = .ok (.lconst 0, 1) := by decide +kernel
theorem dX11_chooses_3 : decode cX11_chooses 3 = .ok (.lcmp, 1) := by decide +kernel
theorem dX11_chooses_4 : decode cX11_chooses 4 = .ok (.ifCond .ne 14, 3) := by decide +kernel
theorem dX11_chooses_7 : decode cX11_chooses 7 = .ok (.iload_n 2, 1) := by decide +kernel
theorem dX11_chooses_8 : decode cX11_chooses 8 = .ok (.iload_n 3, 1) := by decide +kernel
theorem dX11_chooses_9 : decode cX11_chooses 9 = .ok (.if_icmp .ne 7, 3) := by decide +kernel
theorem dX11_chooses_12 : decode cX11_chooses 12 = .ok (.iconst 1, 1) := by decide +kernel
theorem dX11_chooses_13 : decode cX11_chooses 13 = .ok (.goto 4, 3) := by decide +kernel
theorem dX11_chooses_16 : decode cX11_chooses 16 = .ok (.iconst 0, 1) := by decide +kernel
theorem dX11_chooses_17 : decode cX11_chooses 17 = .ok (.ireturn, 1) := by decide +kernel
theorem dX11_chooses_18 : decode cX11_chooses 18 = .ok (.iload_n 2, 1) := by decide +kernel
theorem dX11_chooses_19 : decode cX11_chooses 19 = .ok (.iload_n 3, 1) := by decide +kernel
theorem dX11_chooses_20 : decode cX11_chooses 20 = .ok (.if_icmp .ne 5, 3) := by decide +kernel
theorem dX11_chooses_23 : decode cX11_chooses 23 = .ok (.iconst 0, 1) := by decide +kernel
theorem dX11_chooses_24 : decode cX11_chooses 24 = .ok (.ireturn, 1) := by decide +kernel
theorem dX11_chooses_25 : decode cX11_chooses 25 = .ok (.aload_n 0, 1) := by decide +kernel
theorem dX11_chooses_26 : decode cX11_chooses 26 = .ok (.iload_n 1, 1) := by decide +kernel
theorem dX11_chooses_27 : decode cX11_chooses 27 = .ok (.lload 5, 2) := by decide +kernel
theorem dX11_chooses_29 : decode cX11_chooses 29 = .ok (.invokevirtual 408, 3) := by decide +kernel
theorem dX11_chooses_32 : decode cX11_chooses 32 = .ok (.istore 7, 2) := by decide +kernel
theorem dX11_chooses_34 : decode cX11_chooses 34 = .ok (.iload 4, 2) := by decide +kernel
theorem dX11_chooses_36 : decode cX11_chooses 36 = .ok (.istore 8, 2) := by decide +kernel
theorem dX11_chooses_38 : decode cX11_chooses 38 = .ok (.iload 8, 2) := by decide +kernel
theorem dX11_chooses_40 : decode cX11_chooses 40 = .ok (.iload 7, 2) := by decide +kernel
theorem dX11_chooses_42 : decode cX11_chooses 42 = .ok (.if_icmp .gt 67, 3) := by decide +kernel
theorem dX11_chooses_45 : decode cX11_chooses 45 = .ok (.aload_n 0, 1) := by decide +kernel
theorem dX11_chooses_46 : decode cX11_chooses 46 = .ok (.getfield 92, 3) := by decide +kernel
theorem dX11_chooses_49 : decode cX11_chooses 49 = .ok (.iload 8, 2) := by decide +kernel
theorem dX11_chooses_51 : decode cX11_chooses 51 = .ok (.laload, 1) := by decide +kernel
theorem dX11_chooses_52 : decode cX11_chooses 52 = .ok (.lload 5, 2) := by decide +kernel
theorem dX11_chooses_54 : decode cX11_chooses 54 = .ok (.land, 1) := by decide +kernel
theorem dX11_chooses_55 : decode cX11_chooses 55 = .ok (.lconst 0, 1) := by decide +kernel
theorem dX11_chooses_56 : decode cX11_chooses 56 = .ok (.lcmp, 1) := by decide +kernel
theorem dX11_chooses_57 : decode cX11_chooses 57 = .ok (.ifCond .ne 6, 3) := by decide +kernel
theorem dX11_chooses_60 : decode cX11_chooses 60 = .ok (.goto 43, 3) := by decide +kernel
theorem dX11_chooses_63 : decode cX11_chooses 63 = .ok (.aload_n 0, 1) := by decide +kernel
theorem dX11_chooses_64 : decode cX11_chooses 64 = .ok (.getfield 89, 3) := by decide +kernel
theorem dX11_chooses_67 : decode cX11_chooses 67 = .ok (.iload_n 2, 1) := by decide +kernel
theorem dX11_chooses_68 : decode cX11_chooses 68 = .ok (.iload 8, 2) := by decide +kernel
theorem dX11_chooses_70 : decode cX11_chooses 70 = .ok (.iastore, 1) := by decide +kernel
theorem dX11_chooses_71 : decode cX11_chooses 71 = .ok (.aload_n 0, 1) := by decide +kernel
theorem dX11_chooses_72 : decode cX11_chooses 72 = .ok (.iload_n 1, 1) := by decide +kernel
theorem dX11_chooses_73 : decode cX11_chooses 73 = .ok (.iload_n 2, 1) := by decide +kernel
theorem dX11_chooses_74 : decode cX11_chooses 74 = .ok (.iconst 1, 1) := by decide +kernel
theorem dX11_chooses_75 : decode cX11_chooses 75 = .ok (.iadd, 1) := by decide +kernel
theorem dX11_chooses_76 : decode cX11_chooses 76 = .ok (.iload_n 3, 1) := by decide +kernel
theorem dX11_chooses_77 : decode cX11_chooses 77 = .ok (.iload 8, 2) := by decide +kernel
theorem dX11_chooses_79 : decode cX11_chooses 79 = .ok (.iconst 1, 1) := by decide +kernel
theorem dX11_chooses_80 : decode cX11_chooses 80 = .ok (.iadd, 1) := by decide +kernel
theorem dX11_chooses_81 : decode cX11_chooses 81 = .ok (.lload 5, 2) := by decide +kernel
theorem dX11_chooses_83 : decode cX11_chooses 83 = .ok (.aload_n 0, 1) := by decide +kernel
theorem dX11_chooses_84 : decode cX11_chooses 84 = .ok (.getfield 92, 3) := by decide +kernel
theorem dX11_chooses_87 : decode cX11_chooses 87 = .ok (.iload 8, 2) := by decide +kernel
theorem dX11_chooses_89 : decode cX11_chooses 89 = .ok (.laload, 1) := by decide +kernel
theorem dX11_chooses_90 : decode cX11_chooses 90 = .ok (.ldc2_w 117, 3) := by decide +kernel
theorem dX11_chooses_93 : decode cX11_chooses 93 = .ok (.lxor, 1) := by decide +kernel
theorem dX11_chooses_94 : decode cX11_chooses 94 = .ok (.land, 1) := by decide +kernel
theorem dX11_chooses_95 : decode cX11_chooses 95 = .ok (.invokevirtual 404, 3) := by decide +kernel
theorem dX11_chooses_98 : decode cX11_chooses 98 = .ok (.ifCond .eq 5, 3) := by decide +kernel
theorem dX11_chooses_101 : decode cX11_chooses 101 = .ok (.iconst 1, 1) := by decide +kernel
theorem dX11_chooses_102 : decode cX11_chooses 102 = .ok (.ireturn, 1) := by decide +kernel
theorem dX11_chooses_103 : decode cX11_chooses 103 = .ok (.iinc 8 1, 3) := by decide +kernel
theorem dX11_chooses_106 : decode cX11_chooses 106 = .ok (.goto (-68), 3) := by decide +kernel
theorem dX11_chooses_109 : decode cX11_chooses 109 = .ok (.iconst 0, 1) := by decide +kernel
theorem dX11_chooses_110 : decode cX11_chooses 110 = .ok (.ireturn, 1) := by decide +kernel
theorem dX11_lastThatHas_0 : decode cX11_lastThatHas 0 = .ok (.aload_n 0, 1) := by decide +kernel
theorem dX11_lastThatHas_1 : decode cX11_lastThatHas 1 = .ok (.getfield 77, 3) := by decide +kernel
theorem dX11_lastThatHas_4 : decode cX11_lastThatHas 4 = .ok (.iload_n 1, 1) := by decide +kernel
theorem dX11_lastThatHas_5 : decode cX11_lastThatHas 5 = .ok (.iaload, 1) := by decide +kernel
theorem dX11_lastThatHas_6 : decode cX11_lastThatHas 6 = .ok (.istore 4, 2) := by decide +kernel
theorem dX11_lastThatHas_8 : decode cX11_lastThatHas 8 = .ok (.iconst 0, 1) := by decide +kernel
theorem dX11_lastThatHas_9 : decode cX11_lastThatHas 9 = .ok (.istore 5, 2) := by decide +kernel
theorem dX11_lastThatHas_11 : decode cX11_lastThatHas 11 = .ok (.iload 5, 2) := by decide +kernel
theorem dX11_lastThatHas_13 : decode cX11_lastThatHas 13 = .ok (.aload_n 0, 1) := by decide +kernel
theorem dX11_lastThatHas_14 : decode cX11_lastThatHas 14 = .ok (.getfield 358, 3) := by decide +kernel
theorem dX11_lastThatHas_17 : decode cX11_lastThatHas 17 = .ok (.if_icmp .ge 68, 3) := by decide +kernel
theorem dX11_lastThatHas_20 : decode cX11_lastThatHas 20 = .ok (.lload_n 2, 1) := by decide +kernel
theorem dX11_lastThatHas_21 : decode cX11_lastThatHas 21 = .ok (.iload 5, 2) := by decide +kernel
theorem dX11_lastThatHas_23 : decode cX11_lastThatHas 23 = .ok (.invokestatic 347, 3) := by decide +kernel
theorem dX11_lastThatHas_26 : decode cX11_lastThatHas 26 = .ok (.ifCond .ne 6, 3) := by decide +kernel
theorem dX11_lastThatHas_29 : decode cX11_lastThatHas 29 = .ok (.goto 50, 3) := by decide +kernel
theorem dX11_lastThatHas_32 : decode cX11_lastThatHas 32 = .ok (.aload_n 0, 1) := by decide +kernel
theorem dX11_lastThatHas_33 : decode cX11_lastThatHas 33 = .ok (.getfield 77, 3) := by decide +kernel
theorem dX11_lastThatHas_36 : decode cX11_lastThatHas 36 = .ok (.iload_n 1, 1) := by decide +kernel
theorem dX11_lastThatHas_37 : decode cX11_lastThatHas 37 = .ok (.iaload, 1) := by decide +kernel
theorem dX11_lastThatHas_38 : decode cX11_lastThatHas 38 = .ok (.iconst 1, 1) := by decide +kernel
theorem dX11_lastThatHas_39 : decode cX11_lastThatHas 39 = .ok (.isub, 1) := by decide +kernel
theorem dX11_lastThatHas_40 : decode cX11_lastThatHas 40 = .ok (.istore 6, 2) := by decide +kernel
theorem dX11_lastThatHas_42 : decode cX11_lastThatHas 42 = .ok (.aload_n 0, 1) := by decide +kernel
theorem dX11_lastThatHas_43 : decode cX11_lastThatHas 43 = .ok (.getfield 92, 3) := by decide +kernel
theorem dX11_lastThatHas_46 : decode cX11_lastThatHas 46 = .ok (.iload 6, 2) := by decide +kernel
theorem dX11_lastThatHas_48 : decode cX11_lastThatHas 48 = .ok (.laload, 1) := by decide +kernel
theorem dX11_lastThatHas_49 : decode cX11_lastThatHas 49 = .ok (.iload 5, 2) := by decide +kernel
theorem dX11_lastThatHas_51 : decode cX11_lastThatHas 51 = .ok (.invokestatic 347, 3) := by decide +kernel
theorem dX11_lastThatHas_54 : decode cX11_lastThatHas 54 = .ok (.ifCond .ne 9, 3) := by decide +kernel
theorem dX11_lastThatHas_57 : decode cX11_lastThatHas 57 = .ok (.iinc 6 (-1), 3) := by decide +kernel
theorem dX11_lastThatHas_60 : decode cX11_lastThatHas 60 = .ok (.goto (-18), 3) := by decide +kernel
theorem dX11_lastThatHas_63 : decode cX11_lastThatHas 63 = .ok (.iload 6, 2) := by decide +kernel
theorem dX11_lastThatHas_65 : decode cX11_lastThatHas 65 = .ok (.iload 4, 2) := by decide +kernel
theorem dX11_lastThatHas_67 : decode cX11_lastThatHas 67 = .ok (.if_icmp .ge 8, 3) := by decide +kernel
theorem dX11_lastThatHas_70 : decode cX11_lastThatHas 70 = .ok (.iload 6, 2) := by decide +kernel
theorem dX11_lastThatHas_72 : decode cX11_lastThatHas 72 = .ok (.goto 5, 3) := by decide +kernel
theorem dX11_lastThatHas_75 : decode cX11_lastThatHas 75 = .ok (.iload 4, 2) := by decide +kernel
theorem dX11_lastThatHas_77 : decode cX11_lastThatHas 77 = .ok (.istore 4, 2) := by decide +kernel
theorem dX11_lastThatHas_79 : decode cX11_lastThatHas 79 = .ok (.iinc 5 1, 3) := by decide +kernel
theorem dX11_lastThatHas_82 : decode cX11_lastThatHas 82 = .ok (.goto (-71), 3) := by decide +kernel
theorem dX11_lastThatHas_85 : decode cX11_lastThatHas 85 = .ok (.iload 4, 2) := by decide +kernel
theorem dX11_lastThatHas_87 : decode cX11_lastThatHas 87 = .ok (.ireturn, 1) := by decide +kernel
theorem dX11_hasCover_0 : decode cX11_hasCover 0 = .ok (.aload_n 0, 1) := by decide +kernel
theorem dX11_hasCover_1 : decode cX11_hasCover 1 = .ok (.iload_n 1, 1) := by decide +kernel
theorem dX11_hasCover_2 : decode cX11_hasCover 2 = .ok (.invokevirtual 412, 3) := by decide +kernel
theorem dX11_hasCover_5 : decode cX11_hasCover 5 = .ok (.aload_n 0, 1) := by decide +kernel
theorem dX11_hasCover_6 : decode cX11_hasCover 6 = .ok (.getfield 83, 3) := by decide +kernel
theorem dX11_hasCover_9 : decode cX11_hasCover 9 = .ok (.iload_n 1, 1) := by decide +kernel
theorem dX11_hasCover_10 : decode cX11_hasCover 10 = .ok (.iaload, 1) := by decide +kernel
theorem dX11_hasCover_11 : decode cX11_hasCover 11 = .ok (.iconst 0, 1) := by decide +kernel
theorem dX11_hasCover_12 : decode cX11_hasCover 12 = .ok (.iconst 5, 1) := by decide +kernel
theorem dX11_hasCover_13 : decode cX11_hasCover 13 = .ok (.invokestatic 138, 3) := by decide +kernel
theorem dX11_hasCover_16 : decode cX11_hasCover 16 = .ok (.ireturn, 1) := by decide +kernel
theorem dX11_refusesCover_0 : decode cX11_refusesCover 0 = .ok (.aload_n 0, 1) := by decide +kernel
theorem dX11_refusesCover_1 : decode cX11_refusesCover 1 = .ok (.iload_n 1, 1) := by decide +kernel
theorem dX11_refusesCover_2 : decode cX11_refusesCover 2 = .ok (.invokevirtual 344, 3) := by decide +kernel
theorem dX11_refusesCover_5 : decode cX11_refusesCover 5 = .ok (.istore_n 2, 1) := by decide +kernel
theorem dX11_refusesCover_6 : decode cX11_refusesCover 6 = .ok (.iload_n 2, 1) := by decide +kernel
theorem dX11_refusesCover_7 : decode cX11_refusesCover 7 = .ok (.ifCond .le 7, 3) := by decide +kernel
theorem dX11_refusesCover_10 : decode cX11_refusesCover 10 = .ok (.iload_n 2, 1) := by decide +kernel
theorem dX11_refusesCover_11 : decode cX11_refusesCover 11 = .ok (.goto 16, 3) := by decide +kernel
theorem dX11_refusesCover_14 : decode cX11_refusesCover 14 = .ok (.aload_n 0, 1) := by decide +kernel
theorem dX11_refusesCover_15 : decode cX11_refusesCover 15 = .ok (.iload_n 1, 1) := by decide +kernel
theorem dX11_refusesCover_16 : decode cX11_refusesCover 16 = .ok (.invokevirtual 415, 3) := by decide +kernel
theorem dX11_refusesCover_19 : decode cX11_refusesCover 19 = .ok (.ifCond .eq 7, 3) := by decide +kernel
theorem dX11_refusesCover_22 : decode cX11_refusesCover 22 = .ok (.iconst 0, 1) := by decide +kernel
theorem dX11_refusesCover_23 : decode cX11_refusesCover 23 = .ok (.goto 4, 3) := by decide +kernel
theorem dX11_refusesCover_26 : decode cX11_refusesCover 26 = .ok (.iconst 5, 1) := by decide +kernel
theorem dX11_refusesCover_27 : decode cX11_refusesCover 27 = .ok (.ireturn, 1) := by decide +kernel
theorem dX11_chosenCube_0 : decode cX11_chosenCube 0 = .ok (.aload_n 0, 1) := by decide +kernel
theorem dX11_chosenCube_1 : decode cX11_chosenCube 1 = .ok (.getfield 80, 3) := by decide +kernel
theorem dX11_chosenCube_4 : decode cX11_chosenCube 4 = .ok (.sipush 729, 3) := by decide +kernel
theorem dX11_chosenCube_7 : decode cX11_chosenCube 7 = .ok (.iload_n 1, 1) := by decide +kernel
theorem dX11_chosenCube_8 : decode cX11_chosenCube 8 = .ok (.imul, 1) := by decide +kernel
theorem dX11_chosenCube_9 : decode cX11_chosenCube 9 = .ok (.aload_n 0, 1) := by decide +kernel
theorem dX11_chosenCube_10 : decode cX11_chosenCube 10 = .ok (.getfield 86, 3) := by decide +kernel
theorem dX11_chosenCube_13 : decode cX11_chosenCube 13 = .ok (.iconst 5, 1) := by decide +kernel
theorem dX11_chosenCube_14 : decode cX11_chosenCube 14 = .ok (.iload_n 1, 1) := by decide +kernel
theorem dX11_chosenCube_15 : decode cX11_chosenCube 15 = .ok (.imul, 1) := by decide +kernel
theorem dX11_chosenCube_16 : decode cX11_chosenCube 16 = .ok (.iload_n 2, 1) := by decide +kernel
theorem dX11_chosenCube_17 : decode cX11_chosenCube 17 = .ok (.iadd, 1) := by decide +kernel
theorem dX11_chosenCube_18 : decode cX11_chosenCube 18 = .ok (.iaload, 1) := by decide +kernel
theorem dX11_chosenCube_19 : decode cX11_chosenCube 19 = .ok (.iadd, 1) := by decide +kernel
theorem dX11_chosenCube_20 : decode cX11_chosenCube 20 = .ok (.iaload, 1) := by decide +kernel
theorem dX11_chosenCube_21 : decode cX11_chosenCube 21 = .ok (.ireturn, 1) := by decide +kernel
theorem dX11_fewest_0 : decode cX11_fewest 0 = .ok (.aload_n 0, 1) := by decide +kernel
theorem dX11_fewest_1 : decode cX11_fewest 1 = .ok (.iconst 0, 1) := by decide +kernel
theorem dX11_fewest_2 : decode cX11_fewest 2 = .ok (.putfield 3, 3) := by decide +kernel
theorem dX11_fewest_5 : decode cX11_fewest 5 = .ok (.aload_n 0, 1) := by decide +kernel
theorem dX11_fewest_6 : decode cX11_fewest 6 = .ok (.iload_n 1, 1) := by decide +kernel
theorem dX11_fewest_7 : decode cX11_fewest 7 = .ok (.invokevirtual 344, 3) := by decide +kernel
theorem dX11_fewest_10 : decode cX11_fewest 10 = .ok (.istore_n 2, 1) := by decide +kernel
theorem dX11_fewest_11 : decode cX11_fewest 11 = .ok (.iload_n 2, 1) := by decide +kernel
theorem dX11_fewest_12 : decode cX11_fewest 12 = .ok (.ifCond .le 9, 3) := by decide +kernel
theorem dX11_fewest_15 : decode cX11_fewest 15 = .ok (.aload_n 0, 1) := by decide +kernel
theorem dX11_fewest_16 : decode cX11_fewest 16 = .ok (.iload_n 2, 1) := by decide +kernel
theorem dX11_fewest_17 : decode cX11_fewest 17 = .ok (.invokevirtual 251, 3) := by decide +kernel
theorem dX11_fewest_20 : decode cX11_fewest 20 = .ok (.ireturn, 1) := by decide +kernel
theorem dX11_fewest_21 : decode cX11_fewest 21 = .ok (.aload_n 0, 1) := by decide +kernel
theorem dX11_fewest_22 : decode cX11_fewest 22 = .ok (.iload_n 1, 1) := by decide +kernel
theorem dX11_fewest_23 : decode cX11_fewest 23 = .ok (.invokevirtual 412, 3) := by decide +kernel
theorem dX11_fewest_26 : decode cX11_fewest 26 = .ok (.aload_n 0, 1) := by decide +kernel
theorem dX11_fewest_27 : decode cX11_fewest 27 = .ok (.aload_n 0, 1) := by decide +kernel
theorem dX11_fewest_28 : decode cX11_fewest 28 = .ok (.getfield 83, 3) := by decide +kernel
theorem dX11_fewest_31 : decode cX11_fewest 31 = .ok (.iload_n 1, 1) := by decide +kernel
theorem dX11_fewest_32 : decode cX11_fewest 32 = .ok (.iaload, 1) := by decide +kernel
theorem dX11_fewest_33 : decode cX11_fewest 33 = .ok (.invokevirtual 267, 3) := by decide +kernel
theorem dX11_fewest_36 : decode cX11_fewest 36 = .ok (.ireturn, 1) := by decide +kernel
theorem dX11_chosen_0 : decode cX11_chosen 0 = .ok (.aload_n 0, 1) := by decide +kernel
theorem dX11_chosen_1 : decode cX11_chosen 1 = .ok (.iconst 0, 1) := by decide +kernel
theorem dX11_chosen_2 : decode cX11_chosen 2 = .ok (.putfield 3, 3) := by decide +kernel
theorem dX11_chosen_5 : decode cX11_chosen 5 = .ok (.aload_n 0, 1) := by decide +kernel
theorem dX11_chosen_6 : decode cX11_chosen 6 = .ok (.iload_n 1, 1) := by decide +kernel
theorem dX11_chosen_7 : decode cX11_chosen 7 = .ok (.invokevirtual 418, 3) := by decide +kernel
theorem dX11_chosen_10 : decode cX11_chosen 10 = .ok (.istore_n 3, 1) := by decide +kernel
theorem dX11_chosen_11 : decode cX11_chosen 11 = .ok (.iload_n 3, 1) := by decide +kernel
theorem dX11_chosen_12 : decode cX11_chosen 12 = .ok (.ifCond .ne 19, 3) := by decide +kernel
theorem dX11_chosen_15 : decode cX11_chosen 15 = .ok (.iload_n 2, 1) := by decide +kernel
theorem dX11_chosen_16 : decode cX11_chosen 16 = .ok (.ifCond .lt 13, 3) := by decide +kernel
theorem dX11_chosen_19 : decode cX11_chosen 19 = .ok (.iload_n 2, 1) := by decide +kernel
theorem dX11_chosen_20 : decode cX11_chosen 20 = .ok (.aload_n 0, 1) := by decide +kernel
theorem dX11_chosen_21 : decode cX11_chosen 21 = .ok (.getfield 83, 3) := by decide +kernel
theorem dX11_chosen_24 : decode cX11_chosen 24 = .ok (.iload_n 1, 1) := by decide +kernel
theorem dX11_chosen_25 : decode cX11_chosen 25 = .ok (.iaload, 1) := by decide +kernel
theorem dX11_chosen_26 : decode cX11_chosen 26 = .ok (.if_icmp .lt 5, 3) := by decide +kernel
theorem dX11_chosen_29 : decode cX11_chosen 29 = .ok (.iconst 1, 1) := by decide +kernel
theorem dX11_chosen_30 : decode cX11_chosen 30 = .ok (.istore_n 3, 1) := by decide +kernel
theorem dX11_chosen_31 : decode cX11_chosen 31 = .ok (.iload_n 3, 1) := by decide +kernel
theorem dX11_chosen_32 : decode cX11_chosen 32 = .ok (.ifCond .le 9, 3) := by decide +kernel
theorem dX11_chosen_35 : decode cX11_chosen 35 = .ok (.aload_n 0, 1) := by decide +kernel
theorem dX11_chosen_36 : decode cX11_chosen 36 = .ok (.iload_n 3, 1) := by decide +kernel
theorem dX11_chosen_37 : decode cX11_chosen 37 = .ok (.invokevirtual 251, 3) := by decide +kernel
theorem dX11_chosen_40 : decode cX11_chosen 40 = .ok (.ireturn, 1) := by decide +kernel
theorem dX11_chosen_41 : decode cX11_chosen 41 = .ok (.aload_n 0, 1) := by decide +kernel
theorem dX11_chosen_42 : decode cX11_chosen 42 = .ok (.aload_n 0, 1) := by decide +kernel
theorem dX11_chosen_43 : decode cX11_chosen 43 = .ok (.getfield 86, 3) := by decide +kernel
theorem dX11_chosen_46 : decode cX11_chosen 46 = .ok (.iconst 5, 1) := by decide +kernel
theorem dX11_chosen_47 : decode cX11_chosen 47 = .ok (.iload_n 1, 1) := by decide +kernel
theorem dX11_chosen_48 : decode cX11_chosen 48 = .ok (.imul, 1) := by decide +kernel
theorem dX11_chosen_49 : decode cX11_chosen 49 = .ok (.iload_n 2, 1) := by decide +kernel
theorem dX11_chosen_50 : decode cX11_chosen 50 = .ok (.iadd, 1) := by decide +kernel
theorem dX11_chosen_51 : decode cX11_chosen 51 = .ok (.iaload, 1) := by decide +kernel
theorem dX11_chosen_52 : decode cX11_chosen 52 = .ok (.invokevirtual 267, 3) := by decide +kernel
theorem dX11_chosen_55 : decode cX11_chosen 55 = .ok (.ireturn, 1) := by decide +kernel
theorem dX11_fixed_0 : decode cX11_fixed 0 = .ok (.iconst 0, 1) := by decide +kernel
theorem dX11_fixed_1 : decode cX11_fixed 1 = .ok (.istore_n 2, 1) := by decide +kernel
theorem dX11_fixed_2 : decode cX11_fixed 2 = .ok (.iconst 0, 1) := by decide +kernel
theorem dX11_fixed_3 : decode cX11_fixed 3 = .ok (.istore_n 3, 1) := by decide +kernel
theorem dX11_fixed_4 : decode cX11_fixed 4 = .ok (.iload_n 3, 1) := by decide +kernel
theorem dX11_fixed_5 : decode cX11_fixed 5 = .ok (.bipush 6, 2) := by decide +kernel
theorem dX11_fixed_7 : decode cX11_fixed 7 = .ok (.if_icmp .ge 32, 3) := by decide +kernel
theorem dX11_fixed_10 : decode cX11_fixed 10 = .ok (.iload_n 2, 1) := by decide +kernel
theorem dX11_fixed_11 : decode cX11_fixed 11 = .ok (.aload_n 0, 1) := by decide +kernel
theorem dX11_fixed_12 : decode cX11_fixed 12 = .ok (.getfield 23, 3) := by decide +kernel
theorem dX11_fixed_15 : decode cX11_fixed 15 = .ok (.bipush 6, 2) := by decide +kernel
theorem dX11_fixed_17 : decode cX11_fixed 17 = .ok (.iload_n 1, 1) := by decide +kernel
theorem dX11_fixed_18 : decode cX11_fixed 18 = .ok (.imul, 1) := by decide +kernel
theorem dX11_fixed_19 : decode cX11_fixed 19 = .ok (.iload_n 3, 1) := by decide +kernel
theorem dX11_fixed_20 : decode cX11_fixed 20 = .ok (.iadd, 1) := by decide +kernel
theorem dX11_fixed_21 : decode cX11_fixed 21 = .ok (.iaload, 1) := by decide +kernel
theorem dX11_fixed_22 : decode cX11_fixed 22 = .ok (.iconst 2, 1) := by decide +kernel
theorem dX11_fixed_23 : decode cX11_fixed 23 = .ok (.if_icmp .ge 7, 3) := by decide +kernel
theorem dX11_fixed_26 : decode cX11_fixed 26 = .ok (.iconst 1, 1) := by decide +kernel
theorem dX11_fixed_27 : decode cX11_fixed 27 = .ok (.goto 4, 3) := by decide +kernel
theorem dX11_fixed_30 : decode cX11_fixed 30 = .ok (.iconst 0, 1) := by decide +kernel
theorem dX11_fixed_31 : decode cX11_fixed 31 = .ok (.iadd, 1) := by decide +kernel
theorem dX11_fixed_32 : decode cX11_fixed 32 = .ok (.istore_n 2, 1) := by decide +kernel
theorem dX11_fixed_33 : decode cX11_fixed 33 = .ok (.iinc 3 1, 3) := by decide +kernel
theorem dX11_fixed_36 : decode cX11_fixed 36 = .ok (.goto (-32), 3) := by decide +kernel
theorem dX11_fixed_39 : decode cX11_fixed 39 = .ok (.iload_n 2, 1) := by decide +kernel
theorem dX11_fixed_40 : decode cX11_fixed 40 = .ok (.ireturn, 1) := by decide +kernel
theorem dX11_literals_0 : decode cX11_literals 0 = .ok (.aload_n 0, 1) := by decide +kernel
theorem dX11_literals_1 : decode cX11_literals 1 = .ok (.iconst 0, 1) := by decide +kernel
theorem dX11_literals_2 : decode cX11_literals 2 = .ok (.putfield 3, 3) := by decide +kernel
theorem dX11_literals_5 : decode cX11_literals 5 = .ok (.aload_n 0, 1) := by decide +kernel
theorem dX11_literals_6 : decode cX11_literals 6 = .ok (.iload_n 1, 1) := by decide +kernel
theorem dX11_literals_7 : decode cX11_literals 7 = .ok (.invokevirtual 418, 3) := by decide +kernel
theorem dX11_literals_10 : decode cX11_literals 10 = .ok (.istore_n 2, 1) := by decide +kernel
theorem dX11_literals_11 : decode cX11_literals 11 = .ok (.iload_n 2, 1) := by decide +kernel
theorem dX11_literals_12 : decode cX11_literals 12 = .ok (.ifCond .le 9, 3) := by decide +kernel
theorem dX11_literals_15 : decode cX11_literals 15 = .ok (.aload_n 0, 1) := by decide +kernel
theorem dX11_literals_16 : decode cX11_literals 16 = .ok (.iload_n 2, 1) := by decide +kernel
theorem dX11_literals_17 : decode cX11_literals 17 = .ok (.invokevirtual 251, 3) := by decide +kernel
theorem dX11_literals_20 : decode cX11_literals 20 = .ok (.ireturn, 1) := by decide +kernel
theorem dX11_literals_21 : decode cX11_literals 21 = .ok (.iconst 0, 1) := by decide +kernel
theorem dX11_literals_22 : decode cX11_literals 22 = .ok (.istore_n 3, 1) := by decide +kernel
theorem dX11_literals_23 : decode cX11_literals 23 = .ok (.iconst 0, 1) := by decide +kernel
theorem dX11_literals_24 : decode cX11_literals 24 = .ok (.istore 4, 2) := by decide +kernel
theorem dX11_literals_26 : decode cX11_literals 26 = .ok (.iload 4, 2) := by decide +kernel
theorem dX11_literals_28 : decode cX11_literals 28 = .ok (.aload_n 0, 1) := by decide +kernel
theorem dX11_literals_29 : decode cX11_literals 29 = .ok (.getfield 83, 3) := by decide +kernel
theorem dX11_literals_32 : decode cX11_literals 32 = .ok (.iload_n 1, 1) := by decide +kernel
theorem dX11_literals_33 : decode cX11_literals 33 = .ok (.iaload, 1) := by decide +kernel
theorem dX11_literals_34 : decode cX11_literals 34 = .ok (.if_icmp .ge 23, 3) := by decide +kernel
theorem dX11_literals_37 : decode cX11_literals 37 = .ok (.iload_n 3, 1) := by decide +kernel
theorem dX11_literals_38 : decode cX11_literals 38 = .ok (.aload_n 0, 1) := by decide +kernel
theorem dX11_literals_39 : decode cX11_literals 39 = .ok (.aload_n 0, 1) := by decide +kernel
theorem dX11_literals_40 : decode cX11_literals 40 = .ok (.iload_n 1, 1) := by decide +kernel
theorem dX11_literals_41 : decode cX11_literals 41 = .ok (.iload 4, 2) := by decide +kernel
theorem dX11_literals_43 : decode cX11_literals 43 = .ok (.invokevirtual 421, 3) := by decide +kernel
theorem dX11_literals_46 : decode cX11_literals 46 = .ok (.invokevirtual 424, 3) := by decide +kernel
theorem dX11_literals_49 : decode cX11_literals 49 = .ok (.iadd, 1) := by decide +kernel
theorem dX11_literals_50 : decode cX11_literals 50 = .ok (.istore_n 3, 1) := by decide +kernel
theorem dX11_literals_51 : decode cX11_literals 51 = .ok (.iinc 4 1, 3) := by decide +kernel
theorem dX11_literals_54 : decode cX11_literals 54 = .ok (.goto (-28), 3) := by decide +kernel
theorem dX11_literals_57 : decode cX11_literals 57 = .ok (.aload_n 0, 1) := by decide +kernel
theorem dX11_literals_58 : decode cX11_literals 58 = .ok (.iload_n 3, 1) := by decide +kernel
theorem dX11_literals_59 : decode cX11_literals 59 = .ok (.invokevirtual 267, 3) := by decide +kernel
theorem dX11_literals_62 : decode cX11_literals 62 = .ok (.ireturn, 1) := by decide +kernel
theorem dX11_writes_0 : decode cX11_writes 0 = .ok (.aload_n 0, 1) := by decide +kernel
theorem dX11_writes_1 : decode cX11_writes 1 = .ok (.getfield 95, 3) := by decide +kernel
theorem dX11_writes_4 : decode cX11_writes 4 = .ok (.aload_n 0, 1) := by decide +kernel
theorem dX11_writes_5 : decode cX11_writes 5 = .ok (.getfield 427, 3) := by decide +kernel
theorem dX11_writes_8 : decode cX11_writes 8 = .ok (.iload_n 1, 1) := by decide +kernel
theorem dX11_writes_9 : decode cX11_writes 9 = .ok (.i2b, 1) := by decide +kernel
theorem dX11_writes_10 : decode cX11_writes 10 = .ok (.bastore, 1) := by decide +kernel
theorem dX11_writes_11 : decode cX11_writes 11 = .ok (.aload_n 0, 1) := by decide +kernel
theorem dX11_writes_12 : decode cX11_writes 12 = .ok (.dup, 1) := by decide +kernel
theorem dX11_writes_13 : decode cX11_writes 13 = .ok (.getfield 427, 3) := by decide +kernel
theorem dX11_writes_16 : decode cX11_writes 16 = .ok (.iconst 1, 1) := by decide +kernel
theorem dX11_writes_17 : decode cX11_writes 17 = .ok (.iadd, 1) := by decide +kernel
theorem dX11_writes_18 : decode cX11_writes 18 = .ok (.putfield 427, 3) := by decide +kernel
theorem dX11_writes_21 : decode cX11_writes 21 = .ok (.return_, 1) := by decide +kernel
theorem dX11_signOf_0 : decode cX11_signOf 0 = .ok (.iload_n 0, 1) := by decide +kernel
theorem dX11_signOf_1 : decode cX11_signOf 1 = .ok (.iconst 4, 1) := by decide +kernel
theorem dX11_signOf_2 : decode cX11_signOf 2 = .ok (.if_icmp .ge 10, 3) := by decide +kernel
theorem dX11_signOf_5 : decode cX11_signOf 5 = .ok (.bipush 97, 2) := by decide +kernel
theorem dX11_signOf_7 : decode cX11_signOf 7 = .ok (.iload_n 0, 1) := by decide +kernel
theorem dX11_signOf_8 : decode cX11_signOf 8 = .ok (.iadd, 1) := by decide +kernel
theorem dX11_signOf_9 : decode cX11_signOf 9 = .ok (.goto 9, 3) := by decide +kernel
theorem dX11_signOf_12 : decode cX11_signOf 12 = .ok (.bipush 115, 2) := by decide +kernel
theorem dX11_signOf_14 : decode cX11_signOf 14 = .ok (.iload_n 0, 1) := by decide +kernel
theorem dX11_signOf_15 : decode cX11_signOf 15 = .ok (.iadd, 1) := by decide +kernel
theorem dX11_signOf_16 : decode cX11_signOf 16 = .ok (.iconst 4, 1) := by decide +kernel
theorem dX11_signOf_17 : decode cX11_signOf 17 = .ok (.isub, 1) := by decide +kernel
theorem dX11_signOf_18 : decode cX11_signOf 18 = .ok (.ireturn, 1) := by decide +kernel
theorem dX11_writesCube_0 : decode cX11_writesCube 0 = .ok (.aload_n 0, 1) := by decide +kernel
theorem dX11_writesCube_1 : decode cX11_writesCube 1 = .ok (.iload_n 1, 1) := by decide +kernel
theorem dX11_writesCube_2 : decode cX11_writesCube 2 = .ok (.invokevirtual 424, 3) := by decide +kernel
theorem dX11_writesCube_5 : decode cX11_writesCube 5 = .ok (.ifCond .ne 9, 3) := by decide +kernel
theorem dX11_writesCube_8 : decode cX11_writesCube 8 = .ok (.aload_n 0, 1) := by decide +kernel
theorem dX11_writesCube_9 : decode cX11_writesCube 9 = .ok (.bipush 49, 2) := by decide +kernel
theorem dX11_writesCube_11 : decode cX11_writesCube 11 = .ok (.invokevirtual 430, 3) := by decide +kernel
theorem dX11_writesCube_14 : decode cX11_writesCube 14 = .ok (.iconst 0, 1) := by decide +kernel
theorem dX11_writesCube_15 : decode cX11_writesCube 15 = .ok (.istore_n 2, 1) := by decide +kernel
theorem dX11_writesCube_16 : decode cX11_writesCube 16 = .ok (.iload_n 2, 1) := by decide +kernel
theorem dX11_writesCube_17 : decode cX11_writesCube 17 = .ok (.bipush 6, 2) := by decide +kernel
theorem dX11_writesCube_19 : decode cX11_writesCube 19 = .ok (.if_icmp .ge 47, 3) := by decide +kernel
theorem dX11_writesCube_22 : decode cX11_writesCube 22 = .ok (.aload_n 0, 1) := by decide +kernel
theorem dX11_writesCube_23 : decode cX11_writesCube 23 = .ok (.getfield 23, 3) := by decide +kernel
theorem dX11_writesCube_26 : decode cX11_writesCube 26 = .ok (.bipush 6, 2) := by decide +kernel
theorem dX11_writesCube_28 : decode cX11_writesCube 28 = .ok (.iload_n 1, 1) := by decide +kernel
theorem dX11_writesCube_29 : decode cX11_writesCube 29 = .ok (.imul, 1) := by decide +kernel
theorem dX11_writesCube_30 : decode cX11_writesCube 30 = .ok (.iload_n 2, 1) := by decide +kernel
theorem dX11_writesCube_31 : decode cX11_writesCube 31 = .ok (.iadd, 1) := by decide +kernel
theorem dX11_writesCube_32 : decode cX11_writesCube 32 = .ok (.iaload, 1) := by decide +kernel
theorem dX11_writesCube_33 : decode cX11_writesCube 33 = .ok (.istore_n 3, 1) := by decide +kernel
theorem dX11_writesCube_34 : decode cX11_writesCube 34 = .ok (.iload_n 3, 1) := by decide +kernel
theorem dX11_writesCube_35 : decode cX11_writesCube 35 = .ok (.iconst 2, 1) := by decide +kernel
theorem dX11_writesCube_36 : decode cX11_writesCube 36 = .ok (.if_icmp .ne 6, 3) := by decide +kernel
theorem dX11_writesCube_39 : decode cX11_writesCube 39 = .ok (.goto 21, 3) := by decide +kernel
theorem dX11_writesCube_42 : decode cX11_writesCube 42 = .ok (.aload_n 0, 1) := by decide +kernel
theorem dX11_writesCube_43 : decode cX11_writesCube 43 = .ok (.iload_n 2, 1) := by decide +kernel
theorem dX11_writesCube_44 : decode cX11_writesCube 44 = .ok (.invokestatic 433, 3) := by decide +kernel
theorem dX11_writesCube_47 : decode cX11_writesCube 47 = .ok (.invokevirtual 430, 3) := by decide +kernel
theorem dX11_writesCube_50 : decode cX11_writesCube 50 = .ok (.iload_n 3, 1) := by decide +kernel
theorem dX11_writesCube_51 : decode cX11_writesCube 51 = .ok (.ifCond .ne 9, 3) := by decide +kernel
theorem dX11_writesCube_54 : decode cX11_writesCube 54 = .ok (.aload_n 0, 1) := by decide +kernel
theorem dX11_writesCube_55 : decode cX11_writesCube 55 = .ok (.bipush 39, 2) := by decide +kernel
theorem dX11_writesCube_57 : decode cX11_writesCube 57 = .ok (.invokevirtual 430, 3) := by decide +kernel
theorem dX11_writesCube_60 : decode cX11_writesCube 60 = .ok (.iinc 2 1, 3) := by decide +kernel
theorem dX11_writesCube_63 : decode cX11_writesCube 63 = .ok (.goto (-47), 3) := by decide +kernel
theorem dX11_writesCube_66 : decode cX11_writesCube 66 = .ok (.return_, 1) := by decide +kernel
theorem dX11_writesAll_0 : decode cX11_writesAll 0 = .ok (.aload_n 0, 1) := by decide +kernel
theorem dX11_writesAll_1 : decode cX11_writesAll 1 = .ok (.iconst 0, 1) := by decide +kernel
theorem dX11_writesAll_2 : decode cX11_writesAll 2 = .ok (.putfield 427, 3) := by decide +kernel
theorem dX11_writesAll_5 : decode cX11_writesAll 5 = .ok (.aload_n 0, 1) := by decide +kernel
theorem dX11_writesAll_6 : decode cX11_writesAll 6 = .ok (.getfield 83, 3) := by decide +kernel
theorem dX11_writesAll_9 : decode cX11_writesAll 9 = .ok (.iload_n 1, 1) := by decide +kernel
theorem dX11_writesAll_10 : decode cX11_writesAll 10 = .ok (.iaload, 1) := by decide +kernel
theorem dX11_writesAll_11 : decode cX11_writesAll 11 = .ok (.ifCond .ne 9, 3) := by decide +kernel
theorem dX11_writesAll_14 : decode cX11_writesAll 14 = .ok (.aload_n 0, 1) := by decide +kernel
theorem dX11_writesAll_15 : decode cX11_writesAll 15 = .ok (.bipush 48, 2) := by decide +kernel
theorem dX11_writesAll_17 : decode cX11_writesAll 17 = .ok (.invokevirtual 430, 3) := by decide +kernel
theorem dX11_writesAll_20 : decode cX11_writesAll 20 = .ok (.iconst 0, 1) := by decide +kernel
theorem dX11_writesAll_21 : decode cX11_writesAll 21 = .ok (.istore_n 2, 1) := by decide +kernel
theorem dX11_writesAll_22 : decode cX11_writesAll 22 = .ok (.iload_n 2, 1) := by decide +kernel
theorem dX11_writesAll_23 : decode cX11_writesAll 23 = .ok (.aload_n 0, 1) := by decide +kernel
theorem dX11_writesAll_24 : decode cX11_writesAll 24 = .ok (.getfield 83, 3) := by decide +kernel
theorem dX11_writesAll_27 : decode cX11_writesAll 27 = .ok (.iload_n 1, 1) := by decide +kernel
theorem dX11_writesAll_28 : decode cX11_writesAll 28 = .ok (.iaload, 1) := by decide +kernel
theorem dX11_writesAll_29 : decode cX11_writesAll 29 = .ok (.if_icmp .ge 29, 3) := by decide +kernel
theorem dX11_writesAll_32 : decode cX11_writesAll 32 = .ok (.iload_n 2, 1) := by decide +kernel
theorem dX11_writesAll_33 : decode cX11_writesAll 33 = .ok (.ifCond .le 9, 3) := by decide +kernel
theorem dX11_writesAll_36 : decode cX11_writesAll 36 = .ok (.aload_n 0, 1) := by decide +kernel
theorem dX11_writesAll_37 : decode cX11_writesAll 37 = .ok (.bipush 43, 2) := by decide +kernel
theorem dX11_writesAll_39 : decode cX11_writesAll 39 = .ok (.invokevirtual 430, 3) := by decide +kernel
theorem dX11_writesAll_42 : decode cX11_writesAll 42 = .ok (.aload_n 0, 1) := by decide +kernel
theorem dX11_writesAll_43 : decode cX11_writesAll 43 = .ok (.aload_n 0, 1) := by decide +kernel
theorem dX11_writesAll_44 : decode cX11_writesAll 44 = .ok (.iload_n 1, 1) := by decide +kernel
theorem dX11_writesAll_45 : decode cX11_writesAll 45 = .ok (.iload_n 2, 1) := by decide +kernel
theorem dX11_writesAll_46 : decode cX11_writesAll 46 = .ok (.invokevirtual 421, 3) := by decide +kernel
theorem dX11_writesAll_49 : decode cX11_writesAll 49 = .ok (.invokevirtual 436, 3) := by decide +kernel
theorem dX11_writesAll_52 : decode cX11_writesAll 52 = .ok (.iinc 2 1, 3) := by decide +kernel
theorem dX11_writesAll_55 : decode cX11_writesAll 55 = .ok (.goto (-33), 3) := by decide +kernel
theorem dX11_writesAll_58 : decode cX11_writesAll 58 = .ok (.return_, 1) := by decide +kernel
theorem dX11_formula_0 : decode cX11_formula 0 = .ok (.aload_n 0, 1) := by decide +kernel
theorem dX11_formula_1 : decode cX11_formula 1 = .ok (.iconst 0, 1) := by decide +kernel
theorem dX11_formula_2 : decode cX11_formula 2 = .ok (.putfield 3, 3) := by decide +kernel
theorem dX11_formula_5 : decode cX11_formula 5 = .ok (.aload_n 0, 1) := by decide +kernel
theorem dX11_formula_6 : decode cX11_formula 6 = .ok (.iload_n 1, 1) := by decide +kernel
theorem dX11_formula_7 : decode cX11_formula 7 = .ok (.invokevirtual 418, 3) := by decide +kernel
theorem dX11_formula_10 : decode cX11_formula 10 = .ok (.istore_n 2, 1) := by decide +kernel
theorem dX11_formula_11 : decode cX11_formula 11 = .ok (.iload_n 2, 1) := by decide +kernel
theorem dX11_formula_12 : decode cX11_formula 12 = .ok (.ifCond .le 9, 3) := by decide +kernel
theorem dX11_formula_15 : decode cX11_formula 15 = .ok (.aload_n 0, 1) := by decide +kernel
theorem dX11_formula_16 : decode cX11_formula 16 = .ok (.iload_n 2, 1) := by decide +kernel
theorem dX11_formula_17 : decode cX11_formula 17 = .ok (.invokevirtual 251, 3) := by decide +kernel
theorem dX11_formula_20 : decode cX11_formula 20 = .ok (.ireturn, 1) := by decide +kernel
theorem dX11_formula_21 : decode cX11_formula 21 = .ok (.aload_n 0, 1) := by decide +kernel
theorem dX11_formula_22 : decode cX11_formula 22 = .ok (.iload_n 1, 1) := by decide +kernel
theorem dX11_formula_23 : decode cX11_formula 23 = .ok (.invokevirtual 439, 3) := by decide +kernel
theorem dX11_formula_26 : decode cX11_formula 26 = .ok (.aload_n 0, 1) := by decide +kernel
theorem dX11_formula_27 : decode cX11_formula 27 = .ok (.aload_n 0, 1) := by decide +kernel
theorem dX11_formula_28 : decode cX11_formula 28 = .ok (.getfield 427, 3) := by decide +kernel
theorem dX11_formula_31 : decode cX11_formula 31 = .ok (.invokevirtual 267, 3) := by decide +kernel
theorem dX11_formula_34 : decode cX11_formula 34 = .ok (.ireturn, 1) := by decide +kernel
theorem dX11_sign_0 : decode cX11_sign 0 = .ok (.aload_n 0, 1) := by decide +kernel
theorem dX11_sign_1 : decode cX11_sign 1 = .ok (.iconst 0, 1) := by decide +kernel
theorem dX11_sign_2 : decode cX11_sign 2 = .ok (.putfield 3, 3) := by decide +kernel
theorem dX11_sign_5 : decode cX11_sign 5 = .ok (.aload_n 0, 1) := by decide +kernel
theorem dX11_sign_6 : decode cX11_sign 6 = .ok (.iload_n 1, 1) := by decide +kernel
theorem dX11_sign_7 : decode cX11_sign 7 = .ok (.invokevirtual 418, 3) := by decide +kernel
theorem dX11_sign_10 : decode cX11_sign 10 = .ok (.istore_n 3, 1) := by decide +kernel
theorem dX11_sign_11 : decode cX11_sign 11 = .ok (.iload_n 3, 1) := by decide +kernel
theorem dX11_sign_12 : decode cX11_sign 12 = .ok (.ifCond .le 9, 3) := by decide +kernel
theorem dX11_sign_15 : decode cX11_sign 15 = .ok (.aload_n 0, 1) := by decide +kernel
theorem dX11_sign_16 : decode cX11_sign 16 = .ok (.iload_n 3, 1) := by decide +kernel
theorem dX11_sign_17 : decode cX11_sign 17 = .ok (.invokevirtual 251, 3) := by decide +kernel
theorem dX11_sign_20 : decode cX11_sign 20 = .ok (.ireturn, 1) := by decide +kernel
theorem dX11_sign_21 : decode cX11_sign 21 = .ok (.aload_n 0, 1) := by decide +kernel
theorem dX11_sign_22 : decode cX11_sign 22 = .ok (.iload_n 1, 1) := by decide +kernel
theorem dX11_sign_23 : decode cX11_sign 23 = .ok (.invokevirtual 439, 3) := by decide +kernel
theorem dX11_sign_26 : decode cX11_sign 26 = .ok (.iload_n 2, 1) := by decide +kernel
theorem dX11_sign_27 : decode cX11_sign 27 = .ok (.ifCond .lt 11, 3) := by decide +kernel
theorem dX11_sign_30 : decode cX11_sign 30 = .ok (.iload_n 2, 1) := by decide +kernel
theorem dX11_sign_31 : decode cX11_sign 31 = .ok (.aload_n 0, 1) := by decide +kernel
theorem dX11_sign_32 : decode cX11_sign 32 = .ok (.getfield 427, 3) := by decide +kernel
theorem dX11_sign_35 : decode cX11_sign 35 = .ok (.if_icmp .lt 9, 3) := by decide +kernel
theorem dX11_sign_38 : decode cX11_sign 38 = .ok (.aload_n 0, 1) := by decide +kernel
theorem dX11_sign_39 : decode cX11_sign 39 = .ok (.iconst 1, 1) := by decide +kernel
theorem dX11_sign_40 : decode cX11_sign 40 = .ok (.invokevirtual 251, 3) := by decide +kernel
theorem dX11_sign_43 : decode cX11_sign 43 = .ok (.ireturn, 1) := by decide +kernel
theorem dX11_sign_44 : decode cX11_sign 44 = .ok (.aload_n 0, 1) := by decide +kernel
theorem dX11_sign_45 : decode cX11_sign 45 = .ok (.aload_n 0, 1) := by decide +kernel
theorem dX11_sign_46 : decode cX11_sign 46 = .ok (.getfield 95, 3) := by decide +kernel
theorem dX11_sign_49 : decode cX11_sign 49 = .ok (.iload_n 2, 1) := by decide +kernel
theorem dX11_sign_50 : decode cX11_sign 50 = .ok (.baload, 1) := by decide +kernel
theorem dX11_sign_51 : decode cX11_sign 51 = .ok (.invokevirtual 267, 3) := by decide +kernel
theorem dX11_sign_54 : decode cX11_sign 54 = .ok (.ireturn, 1) := by decide +kernel
theorem dX11_isGateOf_0 : decode cX11_isGateOf 0 = .ok (.aload_n 0, 1) := by decide +kernel
theorem dX11_isGateOf_1 : decode cX11_isGateOf 1 = .ok (.getfield 31, 3) := by decide +kernel
theorem dX11_isGateOf_4 : decode cX11_isGateOf 4 = .ok (.bipush 56, 2) := by decide +kernel
theorem dX11_isGateOf_6 : decode cX11_isGateOf 6 = .ok (.iconst 2, 1) := by decide +kernel
theorem dX11_isGateOf_7 : decode cX11_isGateOf 7 = .ok (.iload_n 2, 1) := by decide +kernel
theorem dX11_isGateOf_8 : decode cX11_isGateOf 8 = .ok (.imul, 1) := by decide +kernel
theorem dX11_isGateOf_9 : decode cX11_isGateOf 9 = .ok (.iadd, 1) := by decide +kernel
theorem dX11_isGateOf_10 : decode cX11_isGateOf 10 = .ok (.iaload, 1) := by decide +kernel
theorem dX11_isGateOf_11 : decode cX11_isGateOf 11 = .ok (.iload_n 1, 1) := by decide +kernel
theorem dX11_isGateOf_12 : decode cX11_isGateOf 12 = .ok (.if_icmp .ne 7, 3) := by decide +kernel
theorem dX11_isGateOf_15 : decode cX11_isGateOf 15 = .ok (.iconst 1, 1) := by decide +kernel
theorem dX11_isGateOf_16 : decode cX11_isGateOf 16 = .ok (.goto 4, 3) := by decide +kernel
theorem dX11_isGateOf_19 : decode cX11_isGateOf 19 = .ok (.iconst 0, 1) := by decide +kernel
theorem dX11_isGateOf_20 : decode cX11_isGateOf 20 = .ok (.ireturn, 1) := by decide +kernel
theorem dX11_gateCube_0 : decode cX11_gateCube 0 = .ok (.aload_n 0, 1) := by decide +kernel
theorem dX11_gateCube_1 : decode cX11_gateCube 1 = .ok (.getfield 31, 3) := by decide +kernel
theorem dX11_gateCube_4 : decode cX11_gateCube 4 = .ok (.bipush 56, 2) := by decide +kernel
theorem dX11_gateCube_6 : decode cX11_gateCube 6 = .ok (.iconst 2, 1) := by decide +kernel
theorem dX11_gateCube_7 : decode cX11_gateCube 7 = .ok (.iload_n 1, 1) := by decide +kernel
theorem dX11_gateCube_8 : decode cX11_gateCube 8 = .ok (.imul, 1) := by decide +kernel
theorem dX11_gateCube_9 : decode cX11_gateCube 9 = .ok (.iadd, 1) := by decide +kernel
theorem dX11_gateCube_10 : decode cX11_gateCube 10 = .ok (.iconst 1, 1) := by decide +kernel
theorem dX11_gateCube_11 : decode cX11_gateCube 11 = .ok (.iadd, 1) := by decide +kernel
theorem dX11_gateCube_12 : decode cX11_gateCube 12 = .ok (.iaload, 1) := by decide +kernel
theorem dX11_gateCube_13 : decode cX11_gateCube 13 = .ok (.ireturn, 1) := by decide +kernel
theorem dX11_liesInGate_0 : decode cX11_liesInGate 0 = .ok (.iconst 0, 1) := by decide +kernel
theorem dX11_liesInGate_1 : decode cX11_liesInGate 1 = .ok (.istore_n 3, 1) := by decide +kernel
theorem dX11_liesInGate_2 : decode cX11_liesInGate 2 = .ok (.iload_n 3, 1) := by decide +kernel
theorem dX11_liesInGate_3 : decode cX11_liesInGate 3 = .ok (.aload_n 0, 1) := by decide +kernel
theorem dX11_liesInGate_4 : decode cX11_liesInGate 4 = .ok (.getfield 31, 3) := by decide +kernel
theorem dX11_liesInGate_7 : decode cX11_liesInGate 7 = .ok (.bipush 55, 2) := by decide +kernel
theorem dX11_liesInGate_9 : decode cX11_liesInGate 9 = .ok (.iaload, 1) := by decide +kernel
theorem dX11_liesInGate_10 : decode cX11_liesInGate 10 = .ok (.if_icmp .ge 33, 3) := by decide +kernel
theorem dX11_liesInGate_13 : decode cX11_liesInGate 13 = .ok (.aload_n 0, 1) := by decide +kernel
theorem dX11_liesInGate_14 : decode cX11_liesInGate 14 = .ok (.iload_n 1, 1) := by decide +kernel
theorem dX11_liesInGate_15 : decode cX11_liesInGate 15 = .ok (.iload_n 3, 1) := by decide +kernel
theorem dX11_liesInGate_16 : decode cX11_liesInGate 16 = .ok (.invokevirtual 442, 3) := by decide +kernel
theorem dX11_liesInGate_19 : decode cX11_liesInGate 19 = .ok (.ifCond .eq 18, 3) := by decide +kernel
theorem dX11_liesInGate_22 : decode cX11_liesInGate 22 = .ok (.aload_n 0, 1) := by decide +kernel
theorem dX11_liesInGate_23 : decode cX11_liesInGate 23 = .ok (.iload_n 2, 1) := by decide +kernel
theorem dX11_liesInGate_24 : decode cX11_liesInGate 24 = .ok (.aload_n 0, 1) := by decide +kernel
theorem dX11_liesInGate_25 : decode cX11_liesInGate 25 = .ok (.iload_n 3, 1) := by decide +kernel
theorem dX11_liesInGate_26 : decode cX11_liesInGate 26 = .ok (.invokevirtual 445, 3) := by decide +kernel
theorem dX11_liesInGate_29 : decode cX11_liesInGate 29 = .ok (.invokevirtual 388, 3) := by decide +kernel
theorem dX11_liesInGate_32 : decode cX11_liesInGate 32 = .ok (.ifCond .eq 5, 3) := by decide +kernel
theorem dX11_liesInGate_35 : decode cX11_liesInGate 35 = .ok (.iconst 1, 1) := by decide +kernel
theorem dX11_liesInGate_36 : decode cX11_liesInGate 36 = .ok (.ireturn, 1) := by decide +kernel
theorem dX11_liesInGate_37 : decode cX11_liesInGate 37 = .ok (.iinc 3 1, 3) := by decide +kernel
theorem dX11_liesInGate_40 : decode cX11_liesInGate 40 = .ok (.goto (-38), 3) := by decide +kernel
theorem dX11_liesInGate_43 : decode cX11_liesInGate 43 = .ok (.iconst 0, 1) := by decide +kernel
theorem dX11_liesInGate_44 : decode cX11_liesInGate 44 = .ok (.ireturn, 1) := by decide +kernel
theorem dX11_harmOf_0 : decode cX11_harmOf 0 = .ok (.iconst 0, 1) := by decide +kernel
theorem dX11_harmOf_1 : decode cX11_harmOf 1 = .ok (.istore_n 3, 1) := by decide +kernel
theorem dX11_harmOf_2 : decode cX11_harmOf 2 = .ok (.aload_n 0, 1) := by decide +kernel
theorem dX11_harmOf_3 : decode cX11_harmOf 3 = .ok (.getfield 19, 3) := by decide +kernel
theorem dX11_harmOf_6 : decode cX11_harmOf 6 = .ok (.aload_n 0, 1) := by decide +kernel
theorem dX11_harmOf_7 : decode cX11_harmOf 7 = .ok (.iload_n 2, 1) := by decide +kernel
theorem dX11_harmOf_8 : decode cX11_harmOf 8 = .ok (.invokevirtual 361, 3) := by decide +kernel
theorem dX11_harmOf_11 : decode cX11_harmOf 11 = .ok (.laload, 1) := by decide +kernel
theorem dX11_harmOf_12 : decode cX11_harmOf 12 = .ok (.aload_n 0, 1) := by decide +kernel
theorem dX11_harmOf_13 : decode cX11_harmOf 13 = .ok (.getfield 19, 3) := by decide +kernel
theorem dX11_harmOf_16 : decode cX11_harmOf 16 = .ok (.aload_n 0, 1) := by decide +kernel
theorem dX11_harmOf_17 : decode cX11_harmOf 17 = .ok (.iload_n 2, 1) := by decide +kernel
theorem dX11_harmOf_18 : decode cX11_harmOf 18 = .ok (.invokevirtual 367, 3) := by decide +kernel
theorem dX11_harmOf_21 : decode cX11_harmOf 21 = .ok (.laload, 1) := by decide +kernel
theorem dX11_harmOf_22 : decode cX11_harmOf 22 = .ok (.lor, 1) := by decide +kernel
theorem dX11_harmOf_23 : decode cX11_harmOf 23 = .ok (.aload_n 0, 1) := by decide +kernel
theorem dX11_harmOf_24 : decode cX11_harmOf 24 = .ok (.getfield 62, 3) := by decide +kernel
theorem dX11_harmOf_27 : decode cX11_harmOf 27 = .ok (.iload_n 1, 1) := by decide +kernel
theorem dX11_harmOf_28 : decode cX11_harmOf 28 = .ok (.laload, 1) := by decide +kernel
theorem dX11_harmOf_29 : decode cX11_harmOf 29 = .ok (.land, 1) := by decide +kernel
theorem dX11_harmOf_30 : decode cX11_harmOf 30 = .ok (.lstore 4, 2) := by decide +kernel
theorem dX11_harmOf_32 : decode cX11_harmOf 32 = .ok (.iconst 0, 1) := by decide +kernel
theorem dX11_harmOf_33 : decode cX11_harmOf 33 = .ok (.istore 6, 2) := by decide +kernel
theorem dX11_harmOf_35 : decode cX11_harmOf 35 = .ok (.iload 6, 2) := by decide +kernel
theorem dX11_harmOf_37 : decode cX11_harmOf 37 = .ok (.aload_n 0, 1) := by decide +kernel
theorem dX11_harmOf_38 : decode cX11_harmOf 38 = .ok (.getfield 31, 3) := by decide +kernel
theorem dX11_harmOf_41 : decode cX11_harmOf 41 = .ok (.bipush 55, 2) := by decide +kernel
theorem dX11_harmOf_43 : decode cX11_harmOf 43 = .ok (.iaload, 1) := by decide +kernel
theorem dX11_harmOf_44 : decode cX11_harmOf 44 = .ok (.if_icmp .ge 72, 3) := by decide +kernel
theorem dX11_harmOf_47 : decode cX11_harmOf 47 = .ok (.aload_n 0, 1) := by decide +kernel
theorem dX11_harmOf_48 : decode cX11_harmOf 48 = .ok (.iload_n 1, 1) := by decide +kernel
theorem dX11_harmOf_49 : decode cX11_harmOf 49 = .ok (.iload 6, 2) := by decide +kernel
theorem dX11_harmOf_51 : decode cX11_harmOf 51 = .ok (.invokevirtual 442, 3) := by decide +kernel
theorem dX11_harmOf_54 : decode cX11_harmOf 54 = .ok (.ifCond .ne 6, 3) := by decide +kernel
theorem dX11_harmOf_57 : decode cX11_harmOf 57 = .ok (.goto 53, 3) := by decide +kernel
theorem dX11_harmOf_60 : decode cX11_harmOf 60 = .ok (.aload_n 0, 1) := by decide +kernel
theorem dX11_harmOf_61 : decode cX11_harmOf 61 = .ok (.getfield 19, 3) := by decide +kernel
theorem dX11_harmOf_64 : decode cX11_harmOf 64 = .ok (.aload_n 0, 1) := by decide +kernel
theorem dX11_harmOf_65 : decode cX11_harmOf 65 = .ok (.iload 6, 2) := by decide +kernel
theorem dX11_harmOf_67 : decode cX11_harmOf 67 = .ok (.invokevirtual 445, 3) := by decide +kernel
theorem dX11_harmOf_70 : decode cX11_harmOf 70 = .ok (.laload, 1) := by decide +kernel
theorem dX11_harmOf_71 : decode cX11_harmOf 71 = .ok (.lload 4, 2) := by decide +kernel
theorem dX11_harmOf_73 : decode cX11_harmOf 73 = .ok (.land, 1) := by decide +kernel
theorem dX11_harmOf_74 : decode cX11_harmOf 74 = .ok (.lconst 0, 1) := by decide +kernel
theorem dX11_harmOf_75 : decode cX11_harmOf 75 = .ok (.lcmp, 1) := by decide +kernel
theorem dX11_harmOf_76 : decode cX11_harmOf 76 = .ok (.ifCond .eq 7, 3) := by decide +kernel
theorem dX11_harmOf_79 : decode cX11_harmOf 79 = .ok (.iload_n 3, 1) := by decide +kernel
theorem dX11_harmOf_80 : decode cX11_harmOf 80 = .ok (.iconst 1, 1) := by decide +kernel
theorem dX11_harmOf_81 : decode cX11_harmOf 81 = .ok (.ior, 1) := by decide +kernel
theorem dX11_harmOf_82 : decode cX11_harmOf 82 = .ok (.istore_n 3, 1) := by decide +kernel
theorem dX11_harmOf_83 : decode cX11_harmOf 83 = .ok (.aload_n 0, 1) := by decide +kernel
theorem dX11_harmOf_84 : decode cX11_harmOf 84 = .ok (.iload_n 1, 1) := by decide +kernel
theorem dX11_harmOf_85 : decode cX11_harmOf 85 = .ok (.iload_n 2, 1) := by decide +kernel
theorem dX11_harmOf_86 : decode cX11_harmOf 86 = .ok (.invokevirtual 376, 3) := by decide +kernel
theorem dX11_harmOf_89 : decode cX11_harmOf 89 = .ok (.ifCond .eq 21, 3) := by decide +kernel
theorem dX11_harmOf_92 : decode cX11_harmOf 92 = .ok (.aload_n 0, 1) := by decide +kernel
theorem dX11_harmOf_93 : decode cX11_harmOf 93 = .ok (.aload_n 0, 1) := by decide +kernel
theorem dX11_harmOf_94 : decode cX11_harmOf 94 = .ok (.iload 6, 2) := by decide +kernel
theorem dX11_harmOf_96 : decode cX11_harmOf 96 = .ok (.invokevirtual 445, 3) := by decide +kernel
theorem dX11_harmOf_99 : decode cX11_harmOf 99 = .ok (.iload_n 2, 1) := by decide +kernel
theorem dX11_harmOf_100 : decode cX11_harmOf 100 = .ok (.invokevirtual 379, 3) := by decide +kernel
theorem dX11_harmOf_103 : decode cX11_harmOf 103 = .ok (.ifCond .eq 7, 3) := by decide +kernel
theorem dX11_harmOf_106 : decode cX11_harmOf 106 = .ok (.iload_n 3, 1) := by decide +kernel
theorem dX11_harmOf_107 : decode cX11_harmOf 107 = .ok (.iconst 4, 1) := by decide +kernel
theorem dX11_harmOf_108 : decode cX11_harmOf 108 = .ok (.ior, 1) := by decide +kernel
theorem dX11_harmOf_109 : decode cX11_harmOf 109 = .ok (.istore_n 3, 1) := by decide +kernel
theorem dX11_harmOf_110 : decode cX11_harmOf 110 = .ok (.iinc 6 1, 3) := by decide +kernel
theorem dX11_harmOf_113 : decode cX11_harmOf 113 = .ok (.goto (-78), 3) := by decide +kernel
theorem dX11_harmOf_116 : decode cX11_harmOf 116 = .ok (.aload_n 0, 1) := by decide +kernel
theorem dX11_harmOf_117 : decode cX11_harmOf 117 = .ok (.iconst 0, 1) := by decide +kernel
theorem dX11_harmOf_118 : decode cX11_harmOf 118 = .ok (.putfield 358, 3) := by decide +kernel
theorem dX11_harmOf_121 : decode cX11_harmOf 121 = .ok (.aload_n 0, 1) := by decide +kernel
theorem dX11_harmOf_122 : decode cX11_harmOf 122 = .ok (.iload_n 1, 1) := by decide +kernel
theorem dX11_harmOf_123 : decode cX11_harmOf 123 = .ok (.iload_n 2, 1) := by decide +kernel
theorem dX11_harmOf_124 : decode cX11_harmOf 124 = .ok (.invokevirtual 370, 3) := by decide +kernel
theorem dX11_harmOf_127 : decode cX11_harmOf 127 = .ok (.iconst 0, 1) := by decide +kernel
theorem dX11_harmOf_128 : decode cX11_harmOf 128 = .ok (.istore 6, 2) := by decide +kernel
theorem dX11_harmOf_130 : decode cX11_harmOf 130 = .ok (.iload 6, 2) := by decide +kernel
theorem dX11_harmOf_132 : decode cX11_harmOf 132 = .ok (.aload_n 0, 1) := by decide +kernel
theorem dX11_harmOf_133 : decode cX11_harmOf 133 = .ok (.getfield 358, 3) := by decide +kernel
theorem dX11_harmOf_136 : decode cX11_harmOf 136 = .ok (.if_icmp .ge 28, 3) := by decide +kernel
theorem dX11_harmOf_139 : decode cX11_harmOf 139 = .ok (.aload_n 0, 1) := by decide +kernel
theorem dX11_harmOf_140 : decode cX11_harmOf 140 = .ok (.iload_n 1, 1) := by decide +kernel
theorem dX11_harmOf_141 : decode cX11_harmOf 141 = .ok (.aload_n 0, 1) := by decide +kernel
theorem dX11_harmOf_142 : decode cX11_harmOf 142 = .ok (.getfield 65, 3) := by decide +kernel
theorem dX11_harmOf_145 : decode cX11_harmOf 145 = .ok (.iload 6, 2) := by decide +kernel
theorem dX11_harmOf_147 : decode cX11_harmOf 147 = .ok (.iaload, 1) := by decide +kernel
theorem dX11_harmOf_148 : decode cX11_harmOf 148 = .ok (.invokevirtual 448, 3) := by decide +kernel
theorem dX11_harmOf_151 : decode cX11_harmOf 151 = .ok (.ifCond .ne 7, 3) := by decide +kernel
theorem dX11_harmOf_154 : decode cX11_harmOf 154 = .ok (.iload_n 3, 1) := by decide +kernel
theorem dX11_harmOf_155 : decode cX11_harmOf 155 = .ok (.iconst 2, 1) := by decide +kernel
theorem dX11_harmOf_156 : decode cX11_harmOf 156 = .ok (.ior, 1) := by decide +kernel
theorem dX11_harmOf_157 : decode cX11_harmOf 157 = .ok (.istore_n 3, 1) := by decide +kernel
theorem dX11_harmOf_158 : decode cX11_harmOf 158 = .ok (.iinc 6 1, 3) := by decide +kernel
theorem dX11_harmOf_161 : decode cX11_harmOf 161 = .ok (.goto (-31), 3) := by decide +kernel
theorem dX11_harmOf_164 : decode cX11_harmOf 164 = .ok (.iload_n 3, 1) := by decide +kernel
theorem dX11_harmOf_165 : decode cX11_harmOf 165 = .ok (.ireturn, 1) := by decide +kernel
theorem dX11_harm_0 : decode cX11_harm 0 = .ok (.aload_n 0, 1) := by decide +kernel
theorem dX11_harm_1 : decode cX11_harm 1 = .ok (.iconst 0, 1) := by decide +kernel
theorem dX11_harm_2 : decode cX11_harm 2 = .ok (.putfield 3, 3) := by decide +kernel
theorem dX11_harm_5 : decode cX11_harm 5 = .ok (.aload_n 0, 1) := by decide +kernel
theorem dX11_harm_6 : decode cX11_harm 6 = .ok (.iload_n 1, 1) := by decide +kernel
theorem dX11_harm_7 : decode cX11_harm 7 = .ok (.invokevirtual 341, 3) := by decide +kernel
theorem dX11_harm_10 : decode cX11_harm 10 = .ok (.ifCond .eq 19, 3) := by decide +kernel
theorem dX11_harm_13 : decode cX11_harm 13 = .ok (.aload_n 0, 1) := by decide +kernel
theorem dX11_harm_14 : decode cX11_harm 14 = .ok (.iload_n 2, 1) := by decide +kernel
theorem dX11_harm_15 : decode cX11_harm 15 = .ok (.invokevirtual 338, 3) := by decide +kernel
theorem dX11_harm_18 : decode cX11_harm 18 = .ok (.ifCond .eq 11, 3) := by decide +kernel
theorem dX11_harm_21 : decode cX11_harm 21 = .ok (.aload_n 0, 1) := by decide +kernel
theorem dX11_harm_22 : decode cX11_harm 22 = .ok (.iload_n 1, 1) := by decide +kernel
theorem dX11_harm_23 : decode cX11_harm 23 = .ok (.invokevirtual 344, 3) := by decide +kernel
theorem dX11_harm_26 : decode cX11_harm 26 = .ok (.goto 4, 3) := by decide +kernel
theorem dX11_harm_29 : decode cX11_harm 29 = .ok (.iconst 1, 1) := by decide +kernel
theorem dX11_harm_30 : decode cX11_harm 30 = .ok (.istore_n 3, 1) := by decide +kernel
theorem dX11_harm_31 : decode cX11_harm 31 = .ok (.iload_n 3, 1) := by decide +kernel
theorem dX11_harm_32 : decode cX11_harm 32 = .ok (.ifCond .le 9, 3) := by decide +kernel
theorem dX11_harm_35 : decode cX11_harm 35 = .ok (.aload_n 0, 1) := by decide +kernel
theorem dX11_harm_36 : decode cX11_harm 36 = .ok (.iload_n 3, 1) := by decide +kernel
theorem dX11_harm_37 : decode cX11_harm 37 = .ok (.invokevirtual 251, 3) := by decide +kernel
theorem dX11_harm_40 : decode cX11_harm 40 = .ok (.ireturn, 1) := by decide +kernel
theorem dX11_harm_41 : decode cX11_harm 41 = .ok (.aload_n 0, 1) := by decide +kernel
theorem dX11_harm_42 : decode cX11_harm 42 = .ok (.aload_n 0, 1) := by decide +kernel
theorem dX11_harm_43 : decode cX11_harm 43 = .ok (.iload_n 1, 1) := by decide +kernel
theorem dX11_harm_44 : decode cX11_harm 44 = .ok (.iload_n 2, 1) := by decide +kernel
theorem dX11_harm_45 : decode cX11_harm 45 = .ok (.invokevirtual 451, 3) := by decide +kernel
theorem dX11_harm_48 : decode cX11_harm 48 = .ok (.invokevirtual 267, 3) := by decide +kernel
theorem dX11_harm_51 : decode cX11_harm 51 = .ok (.ireturn, 1) := by decide +kernel
theorem dX11_glitch_0 : decode cX11_glitch 0 = .ok (.aload_n 0, 1) := by decide +kernel
theorem dX11_glitch_1 : decode cX11_glitch 1 = .ok (.iconst 0, 1) := by decide +kernel
theorem dX11_glitch_2 : decode cX11_glitch 2 = .ok (.putfield 3, 3) := by decide +kernel
theorem dX11_glitch_5 : decode cX11_glitch 5 = .ok (.aload_n 0, 1) := by decide +kernel
theorem dX11_glitch_6 : decode cX11_glitch 6 = .ok (.iload_n 1, 1) := by decide +kernel
theorem dX11_glitch_7 : decode cX11_glitch 7 = .ok (.invokevirtual 344, 3) := by decide +kernel
theorem dX11_glitch_10 : decode cX11_glitch 10 = .ok (.istore_n 2, 1) := by decide +kernel
theorem dX11_glitch_11 : decode cX11_glitch 11 = .ok (.iload_n 2, 1) := by decide +kernel
theorem dX11_glitch_12 : decode cX11_glitch 12 = .ok (.ifCond .le 9, 3) := by decide +kernel
theorem dX11_glitch_15 : decode cX11_glitch 15 = .ok (.aload_n 0, 1) := by decide +kernel
theorem dX11_glitch_16 : decode cX11_glitch 16 = .ok (.iload_n 2, 1) := by decide +kernel
theorem dX11_glitch_17 : decode cX11_glitch 17 = .ok (.invokevirtual 251, 3) := by decide +kernel
theorem dX11_glitch_20 : decode cX11_glitch 20 = .ok (.ireturn, 1) := by decide +kernel
theorem dX11_glitch_21 : decode cX11_glitch 21 = .ok (.iconst 0, 1) := by decide +kernel
theorem dX11_glitch_22 : decode cX11_glitch 22 = .ok (.istore_n 3, 1) := by decide +kernel
theorem dX11_glitch_23 : decode cX11_glitch 23 = .ok (.iload_n 3, 1) := by decide +kernel
theorem dX11_glitch_24 : decode cX11_glitch 24 = .ok (.aload_n 0, 1) := by decide +kernel
theorem dX11_glitch_25 : decode cX11_glitch 25 = .ok (.getfield 31, 3) := by decide +kernel
theorem dX11_glitch_28 : decode cX11_glitch 28 = .ok (.bipush 6, 2) := by decide +kernel
theorem dX11_glitch_30 : decode cX11_glitch 30 = .ok (.iaload, 1) := by decide +kernel
theorem dX11_glitch_31 : decode cX11_glitch 31 = .ok (.if_icmp .ge 24, 3) := by decide +kernel
theorem dX11_glitch_34 : decode cX11_glitch 34 = .ok (.aload_n 0, 1) := by decide +kernel
theorem dX11_glitch_35 : decode cX11_glitch 35 = .ok (.iload_n 1, 1) := by decide +kernel
theorem dX11_glitch_36 : decode cX11_glitch 36 = .ok (.iload_n 3, 1) := by decide +kernel
theorem dX11_glitch_37 : decode cX11_glitch 37 = .ok (.invokevirtual 451, 3) := by decide +kernel
theorem dX11_glitch_40 : decode cX11_glitch 40 = .ok (.ifCond .le 9, 3) := by decide +kernel
theorem dX11_glitch_43 : decode cX11_glitch 43 = .ok (.aload_n 0, 1) := by decide +kernel
theorem dX11_glitch_44 : decode cX11_glitch 44 = .ok (.iload_n 3, 1) := by decide +kernel
theorem dX11_glitch_45 : decode cX11_glitch 45 = .ok (.invokevirtual 267, 3) := by decide +kernel
theorem dX11_glitch_48 : decode cX11_glitch 48 = .ok (.ireturn, 1) := by decide +kernel
theorem dX11_glitch_49 : decode cX11_glitch 49 = .ok (.iinc 3 1, 3) := by decide +kernel
theorem dX11_glitch_52 : decode cX11_glitch 52 = .ok (.goto (-29), 3) := by decide +kernel
theorem dX11_glitch_55 : decode cX11_glitch 55 = .ok (.aload_n 0, 1) := by decide +kernel
theorem dX11_glitch_56 : decode cX11_glitch 56 = .ok (.bipush (-2), 2) := by decide +kernel
theorem dX11_glitch_58 : decode cX11_glitch 58 = .ok (.invokevirtual 267, 3) := by decide +kernel
theorem dX11_glitch_61 : decode cX11_glitch 61 = .ok (.ireturn, 1) := by decide +kernel
theorem dX11_product_0 : decode cX11_product 0 = .ok (.iconst 1, 1) := by decide +kernel
theorem dX11_product_1 : decode cX11_product 1 = .ok (.istore_n 3, 1) := by decide +kernel
theorem dX11_product_2 : decode cX11_product 2 = .ok (.iconst 0, 1) := by decide +kernel
theorem dX11_product_3 : decode cX11_product 3 = .ok (.istore 4, 2) := by decide +kernel
theorem dX11_product_5 : decode cX11_product 5 = .ok (.iload 4, 2) := by decide +kernel
theorem dX11_product_7 : decode cX11_product 7 = .ok (.bipush 6, 2) := by decide +kernel
theorem dX11_product_9 : decode cX11_product 9 = .ok (.if_icmp .ge 73, 3) := by decide +kernel
theorem dX11_product_12 : decode cX11_product 12 = .ok (.iload_n 3, 1) := by decide +kernel
theorem dX11_product_13 : decode cX11_product 13 = .ok (.ifCond .le 69, 3) := by decide +kernel
theorem dX11_product_16 : decode cX11_product 16 = .ok (.aload_n 0, 1) := by decide +kernel
theorem dX11_product_17 : decode cX11_product 17 = .ok (.getfield 23, 3) := by decide +kernel
theorem dX11_product_20 : decode cX11_product 20 = .ok (.bipush 6, 2) := by decide +kernel
theorem dX11_product_22 : decode cX11_product 22 = .ok (.iload_n 1, 1) := by decide +kernel
theorem dX11_product_23 : decode cX11_product 23 = .ok (.imul, 1) := by decide +kernel
theorem dX11_product_24 : decode cX11_product 24 = .ok (.iload 4, 2) := by decide +kernel
theorem dX11_product_26 : decode cX11_product 26 = .ok (.iadd, 1) := by decide +kernel
theorem dX11_product_27 : decode cX11_product 27 = .ok (.iaload, 1) := by decide +kernel
theorem dX11_product_28 : decode cX11_product 28 = .ok (.istore 5, 2) := by decide +kernel
theorem dX11_product_30 : decode cX11_product 30 = .ok (.aload_n 0, 1) := by decide +kernel
theorem dX11_product_31 : decode cX11_product 31 = .ok (.getfield 23, 3) := by decide +kernel
theorem dX11_product_34 : decode cX11_product 34 = .ok (.bipush 6, 2) := by decide +kernel
theorem dX11_product_36 : decode cX11_product 36 = .ok (.iload_n 2, 1) := by decide +kernel
theorem dX11_product_37 : decode cX11_product 37 = .ok (.imul, 1) := by decide +kernel
theorem dX11_product_38 : decode cX11_product 38 = .ok (.iload 4, 2) := by decide +kernel
theorem dX11_product_40 : decode cX11_product 40 = .ok (.iadd, 1) := by decide +kernel
theorem dX11_product_41 : decode cX11_product 41 = .ok (.iaload, 1) := by decide +kernel
theorem dX11_product_42 : decode cX11_product 42 = .ok (.istore 6, 2) := by decide +kernel
theorem dX11_product_44 : decode cX11_product 44 = .ok (.iload 5, 2) := by decide +kernel
theorem dX11_product_46 : decode cX11_product 46 = .ok (.iconst 2, 1) := by decide +kernel
theorem dX11_product_47 : decode cX11_product 47 = .ok (.if_icmp .ne 6, 3) := by decide +kernel
theorem dX11_product_50 : decode cX11_product 50 = .ok (.goto 26, 3) := by decide +kernel
theorem dX11_product_53 : decode cX11_product 53 = .ok (.iload 6, 2) := by decide +kernel
theorem dX11_product_55 : decode cX11_product 55 = .ok (.iconst 2, 1) := by decide +kernel
theorem dX11_product_56 : decode cX11_product 56 = .ok (.if_icmp .ne 7, 3) := by decide +kernel
theorem dX11_product_59 : decode cX11_product 59 = .ok (.iconst 2, 1) := by decide +kernel
theorem dX11_product_60 : decode cX11_product 60 = .ok (.goto 15, 3) := by decide +kernel
theorem dX11_product_63 : decode cX11_product 63 = .ok (.iload 6, 2) := by decide +kernel
theorem dX11_product_65 : decode cX11_product 65 = .ok (.iload 5, 2) := by decide +kernel
theorem dX11_product_67 : decode cX11_product 67 = .ok (.if_icmp .ne 7, 3) := by decide +kernel
theorem dX11_product_70 : decode cX11_product 70 = .ok (.iload_n 3, 1) := by decide +kernel
theorem dX11_product_71 : decode cX11_product 71 = .ok (.goto 4, 3) := by decide +kernel
theorem dX11_product_74 : decode cX11_product 74 = .ok (.iconst 0, 1) := by decide +kernel
theorem dX11_product_75 : decode cX11_product 75 = .ok (.istore_n 3, 1) := by decide +kernel
theorem dX11_product_76 : decode cX11_product 76 = .ok (.iinc 4 1, 3) := by decide +kernel
theorem dX11_product_79 : decode cX11_product 79 = .ok (.goto (-74), 3) := by decide +kernel
theorem dX11_product_82 : decode cX11_product 82 = .ok (.iload_n 3, 1) := by decide +kernel
theorem dX11_product_83 : decode cX11_product 83 = .ok (.ireturn, 1) := by decide +kernel
theorem dX11_either_0 : decode cX11_either 0 = .ok (.iload_n 0, 1) := by decide +kernel
theorem dX11_either_1 : decode cX11_either 1 = .ok (.iconst 1, 1) := by decide +kernel
theorem dX11_either_2 : decode cX11_either 2 = .ok (.if_icmp .eq 8, 3) := by decide +kernel
theorem dX11_either_5 : decode cX11_either 5 = .ok (.iload_n 1, 1) := by decide +kernel
theorem dX11_either_6 : decode cX11_either 6 = .ok (.iconst 1, 1) := by decide +kernel
theorem dX11_either_7 : decode cX11_either 7 = .ok (.if_icmp .ne 7, 3) := by decide +kernel
theorem dX11_either_10 : decode cX11_either 10 = .ok (.iconst 1, 1) := by decide +kernel
theorem dX11_either_11 : decode cX11_either 11 = .ok (.goto 13, 3) := by decide +kernel
theorem dX11_either_14 : decode cX11_either 14 = .ok (.iload_n 0, 1) := by decide +kernel
theorem dX11_either_15 : decode cX11_either 15 = .ok (.iload_n 1, 1) := by decide +kernel
theorem dX11_either_16 : decode cX11_either 16 = .ok (.if_icmp .le 7, 3) := by decide +kernel
theorem dX11_either_19 : decode cX11_either 19 = .ok (.iload_n 0, 1) := by decide +kernel
theorem dX11_either_20 : decode cX11_either 20 = .ok (.goto 4, 3) := by decide +kernel
theorem dX11_either_23 : decode cX11_either 23 = .ok (.iload_n 1, 1) := by decide +kernel
theorem dX11_either_24 : decode cX11_either 24 = .ok (.ireturn, 1) := by decide +kernel
theorem dX11_runs_0 : decode cX11_runs 0 = .ok (.iconst 0, 1) := by decide +kernel
theorem dX11_runs_1 : decode cX11_runs 1 = .ok (.istore 4, 2) := by decide +kernel
theorem dX11_runs_3 : decode cX11_runs 3 = .ok (.iload_n 3, 1) := by decide +kernel
theorem dX11_runs_4 : decode cX11_runs 4 = .ok (.ifCond .eq 60, 3) := by decide +kernel
theorem dX11_runs_7 : decode cX11_runs 7 = .ok (.iconst 0, 1) := by decide +kernel
theorem dX11_runs_8 : decode cX11_runs 8 = .ok (.istore 5, 2) := by decide +kernel
theorem dX11_runs_10 : decode cX11_runs 10 = .ok (.iload 5, 2) := by decide +kernel
theorem dX11_runs_12 : decode cX11_runs 12 = .ok (.aload_n 0, 1) := by decide +kernel
theorem dX11_runs_13 : decode cX11_runs 13 = .ok (.getfield 31, 3) := by decide +kernel
theorem dX11_runs_16 : decode cX11_runs 16 = .ok (.bipush 55, 2) := by decide +kernel
theorem dX11_runs_18 : decode cX11_runs 18 = .ok (.iaload, 1) := by decide +kernel
theorem dX11_runs_19 : decode cX11_runs 19 = .ok (.if_icmp .ge 42, 3) := by decide +kernel
theorem dX11_runs_22 : decode cX11_runs 22 = .ok (.aload_n 0, 1) := by decide +kernel
theorem dX11_runs_23 : decode cX11_runs 23 = .ok (.iload_n 1, 1) := by decide +kernel
theorem dX11_runs_24 : decode cX11_runs 24 = .ok (.iload 5, 2) := by decide +kernel
theorem dX11_runs_26 : decode cX11_runs 26 = .ok (.invokevirtual 442, 3) := by decide +kernel
theorem dX11_runs_29 : decode cX11_runs 29 = .ok (.ifCond .eq 22, 3) := by decide +kernel
theorem dX11_runs_32 : decode cX11_runs 32 = .ok (.iload 4, 2) := by decide +kernel
theorem dX11_runs_34 : decode cX11_runs 34 = .ok (.aload_n 0, 1) := by decide +kernel
theorem dX11_runs_35 : decode cX11_runs 35 = .ok (.aload_n 0, 1) := by decide +kernel
theorem dX11_runs_36 : decode cX11_runs 36 = .ok (.iload 5, 2) := by decide +kernel
theorem dX11_runs_38 : decode cX11_runs 38 = .ok (.invokevirtual 445, 3) := by decide +kernel
theorem dX11_runs_41 : decode cX11_runs 41 = .ok (.iload_n 2, 1) := by decide +kernel
theorem dX11_runs_42 : decode cX11_runs 42 = .ok (.invokevirtual 454, 3) := by decide +kernel
theorem dX11_runs_45 : decode cX11_runs 45 = .ok (.invokestatic 457, 3) := by decide +kernel
theorem dX11_runs_48 : decode cX11_runs 48 = .ok (.goto 5, 3) := by decide +kernel
theorem dX11_runs_51 : decode cX11_runs 51 = .ok (.iload 4, 2) := by decide +kernel
theorem dX11_runs_53 : decode cX11_runs 53 = .ok (.istore 4, 2) := by decide +kernel
theorem dX11_runs_55 : decode cX11_runs 55 = .ok (.iinc 5 1, 3) := by decide +kernel
theorem dX11_runs_58 : decode cX11_runs 58 = .ok (.goto (-48), 3) := by decide +kernel
theorem dX11_runs_61 : decode cX11_runs 61 = .ok (.goto 42, 3) := by decide +kernel
theorem dX11_runs_64 : decode cX11_runs 64 = .ok (.iconst 0, 1) := by decide +kernel
theorem dX11_runs_65 : decode cX11_runs 65 = .ok (.istore 5, 2) := by decide +kernel
theorem dX11_runs_67 : decode cX11_runs 67 = .ok (.iload 5, 2) := by decide +kernel
theorem dX11_runs_69 : decode cX11_runs 69 = .ok (.aload_n 0, 1) := by decide +kernel
theorem dX11_runs_70 : decode cX11_runs 70 = .ok (.getfield 83, 3) := by decide +kernel
theorem dX11_runs_73 : decode cX11_runs 73 = .ok (.iload_n 1, 1) := by decide +kernel
theorem dX11_runs_74 : decode cX11_runs 74 = .ok (.iaload, 1) := by decide +kernel
theorem dX11_runs_75 : decode cX11_runs 75 = .ok (.if_icmp .ge 28, 3) := by decide +kernel
theorem dX11_runs_78 : decode cX11_runs 78 = .ok (.iload 4, 2) := by decide +kernel
theorem dX11_runs_80 : decode cX11_runs 80 = .ok (.aload_n 0, 1) := by decide +kernel
theorem dX11_runs_81 : decode cX11_runs 81 = .ok (.aload_n 0, 1) := by decide +kernel
theorem dX11_runs_82 : decode cX11_runs 82 = .ok (.iload_n 1, 1) := by decide +kernel
theorem dX11_runs_83 : decode cX11_runs 83 = .ok (.iload 5, 2) := by decide +kernel
theorem dX11_runs_85 : decode cX11_runs 85 = .ok (.invokevirtual 421, 3) := by decide +kernel
theorem dX11_runs_88 : decode cX11_runs 88 = .ok (.iload_n 2, 1) := by decide +kernel
theorem dX11_runs_89 : decode cX11_runs 89 = .ok (.invokevirtual 454, 3) := by decide +kernel
theorem dX11_runs_92 : decode cX11_runs 92 = .ok (.invokestatic 457, 3) := by decide +kernel
theorem dX11_runs_95 : decode cX11_runs 95 = .ok (.istore 4, 2) := by decide +kernel
theorem dX11_runs_97 : decode cX11_runs 97 = .ok (.iinc 5 1, 3) := by decide +kernel
theorem dX11_runs_100 : decode cX11_runs 100 = .ok (.goto (-33), 3) := by decide +kernel
theorem dX11_runs_103 : decode cX11_runs 103 = .ok (.iload 4, 2) := by decide +kernel
theorem dX11_runs_105 : decode cX11_runs 105 = .ok (.ireturn, 1) := by decide +kernel
theorem dX11_refusesRun_0 : decode cX11_refusesRun 0 = .ok (.iload_n 2, 1) := by decide +kernel
theorem dX11_refusesRun_1 : decode cX11_refusesRun 1 = .ok (.ifCond .eq 11, 3) := by decide +kernel
theorem dX11_refusesRun_4 : decode cX11_refusesRun 4 = .ok (.aload_n 0, 1) := by decide +kernel
theorem dX11_refusesRun_5 : decode cX11_refusesRun 5 = .ok (.iload_n 1, 1) := by decide +kernel
theorem dX11_refusesRun_6 : decode cX11_refusesRun 6 = .ok (.invokevirtual 344, 3) := by decide +kernel
theorem dX11_refusesRun_9 : decode cX11_refusesRun 9 = .ok (.goto 8, 3) := by decide +kernel
theorem dX11_refusesRun_12 : decode cX11_refusesRun 12 = .ok (.aload_n 0, 1) := by decide +kernel
theorem dX11_refusesRun_13 : decode cX11_refusesRun 13 = .ok (.iload_n 1, 1) := by decide +kernel
theorem dX11_refusesRun_14 : decode cX11_refusesRun 14 = .ok (.invokevirtual 418, 3) := by decide +kernel
theorem dX11_refusesRun_17 : decode cX11_refusesRun 17 = .ok (.ireturn, 1) := by decide +kernel
theorem dX11_run_0 : decode cX11_run 0 = .ok (.aload_n 0, 1) := by decide +kernel
theorem dX11_run_1 : decode cX11_run 1 = .ok (.iconst 0, 1) := by decide +kernel
theorem dX11_run_2 : decode cX11_run 2 = .ok (.putfield 3, 3) := by decide +kernel
theorem dX11_run_5 : decode cX11_run 5 = .ok (.aload_n 0, 1) := by decide +kernel
theorem dX11_run_6 : decode cX11_run 6 = .ok (.iload_n 1, 1) := by decide +kernel
theorem dX11_run_7 : decode cX11_run 7 = .ok (.iload_n 3, 1) := by decide +kernel
theorem dX11_run_8 : decode cX11_run 8 = .ok (.invokevirtual 460, 3) := by decide +kernel
theorem dX11_run_11 : decode cX11_run 11 = .ok (.istore 4, 2) := by decide +kernel
theorem dX11_run_13 : decode cX11_run 13 = .ok (.iload 4, 2) := by decide +kernel
theorem dX11_run_15 : decode cX11_run 15 = .ok (.ifCond .ne 17, 3) := by decide +kernel
theorem dX11_run_18 : decode cX11_run 18 = .ok (.iload_n 2, 1) := by decide +kernel
theorem dX11_run_19 : decode cX11_run 19 = .ok (.iconst 0, 1) := by decide +kernel
theorem dX11_run_20 : decode cX11_run 20 = .ok (.sipush 728, 3) := by decide +kernel
theorem dX11_run_23 : decode cX11_run 23 = .ok (.invokestatic 138, 3) := by decide +kernel
theorem dX11_run_26 : decode cX11_run 26 = .ok (.ifCond .ne 6, 3) := by decide +kernel
theorem dX11_run_29 : decode cX11_run 29 = .ok (.iconst 2, 1) := by decide +kernel
theorem dX11_run_30 : decode cX11_run 30 = .ok (.istore 4, 2) := by decide +kernel
theorem dX11_run_32 : decode cX11_run 32 = .ok (.iload 4, 2) := by decide +kernel
theorem dX11_run_34 : decode cX11_run 34 = .ok (.ifCond .le 10, 3) := by decide +kernel
theorem dX11_run_37 : decode cX11_run 37 = .ok (.aload_n 0, 1) := by decide +kernel
theorem dX11_run_38 : decode cX11_run 38 = .ok (.iload 4, 2) := by decide +kernel
theorem dX11_run_40 : decode cX11_run 40 = .ok (.invokevirtual 251, 3) := by decide +kernel
theorem dX11_run_43 : decode cX11_run 43 = .ok (.ireturn, 1) := by decide +kernel
theorem dX11_run_44 : decode cX11_run 44 = .ok (.aload_n 0, 1) := by decide +kernel
theorem dX11_run_45 : decode cX11_run 45 = .ok (.aload_n 0, 1) := by decide +kernel
theorem dX11_run_46 : decode cX11_run 46 = .ok (.iload_n 1, 1) := by decide +kernel
theorem dX11_run_47 : decode cX11_run 47 = .ok (.iload_n 2, 1) := by decide +kernel
theorem dX11_run_48 : decode cX11_run 48 = .ok (.iload_n 3, 1) := by decide +kernel
theorem dX11_run_49 : decode cX11_run 49 = .ok (.invokevirtual 464, 3) := by decide +kernel
theorem dX11_run_52 : decode cX11_run 52 = .ok (.invokevirtual 267, 3) := by decide +kernel
theorem dX11_run_55 : decode cX11_run 55 = .ok (.ireturn, 1) := by decide +kernel
theorem dX11_runBurst_0 : decode cX11_runBurst 0 = .ok (.aload_n 0, 1) := by decide +kernel
theorem dX11_runBurst_1 : decode cX11_runBurst 1 = .ok (.iconst 0, 1) := by decide +kernel
theorem dX11_runBurst_2 : decode cX11_runBurst 2 = .ok (.putfield 3, 3) := by decide +kernel
theorem dX11_runBurst_5 : decode cX11_runBurst 5 = .ok (.aload_n 0, 1) := by decide +kernel
theorem dX11_runBurst_6 : decode cX11_runBurst 6 = .ok (.iload_n 1, 1) := by decide +kernel
theorem dX11_runBurst_7 : decode cX11_runBurst 7 = .ok (.invokevirtual 341, 3) := by decide +kernel
theorem dX11_runBurst_10 : decode cX11_runBurst 10 = .ok (.ifCond .eq 20, 3) := by decide +kernel
theorem dX11_runBurst_13 : decode cX11_runBurst 13 = .ok (.aload_n 0, 1) := by decide +kernel
theorem dX11_runBurst_14 : decode cX11_runBurst 14 = .ok (.iload_n 2, 1) := by decide +kernel
theorem dX11_runBurst_15 : decode cX11_runBurst 15 = .ok (.invokevirtual 338, 3) := by decide +kernel
theorem dX11_runBurst_18 : decode cX11_runBurst 18 = .ok (.ifCond .eq 12, 3) := by decide +kernel
theorem dX11_runBurst_21 : decode cX11_runBurst 21 = .ok (.aload_n 0, 1) := by decide +kernel
theorem dX11_runBurst_22 : decode cX11_runBurst 22 = .ok (.iload_n 1, 1) := by decide +kernel
theorem dX11_runBurst_23 : decode cX11_runBurst 23 = .ok (.iload_n 3, 1) := by decide +kernel
theorem dX11_runBurst_24 : decode cX11_runBurst 24 = .ok (.invokevirtual 460, 3) := by decide +kernel
theorem dX11_runBurst_27 : decode cX11_runBurst 27 = .ok (.goto 4, 3) := by decide +kernel
theorem dX11_runBurst_30 : decode cX11_runBurst 30 = .ok (.iconst 1, 1) := by decide +kernel
theorem dX11_runBurst_31 : decode cX11_runBurst 31 = .ok (.istore 4, 2) := by decide +kernel
theorem dX11_runBurst_33 : decode cX11_runBurst 33 = .ok (.iload 4, 2) := by decide +kernel
theorem dX11_runBurst_35 : decode cX11_runBurst 35 = .ok (.ifCond .le 10, 3) := by decide +kernel
theorem dX11_runBurst_38 : decode cX11_runBurst 38 = .ok (.aload_n 0, 1) := by decide +kernel
theorem dX11_runBurst_39 : decode cX11_runBurst 39 = .ok (.iload 4, 2) := by decide +kernel
theorem dX11_runBurst_41 : decode cX11_runBurst 41 = .ok (.invokevirtual 251, 3) := by decide +kernel
theorem dX11_runBurst_44 : decode cX11_runBurst 44 = .ok (.ireturn, 1) := by decide +kernel
theorem dX11_runBurst_45 : decode cX11_runBurst 45 = .ok (.aload_n 0, 1) := by decide +kernel
theorem dX11_runBurst_46 : decode cX11_runBurst 46 = .ok (.aload_n 0, 1) := by decide +kernel
theorem dX11_runBurst_47 : decode cX11_runBurst 47 = .ok (.iload_n 1, 1) := by decide +kernel
theorem dX11_runBurst_48 : decode cX11_runBurst 48 = .ok (.aload_n 0, 1) := by decide +kernel
theorem dX11_runBurst_49 : decode cX11_runBurst 49 = .ok (.iload_n 2, 1) := by decide +kernel
theorem dX11_runBurst_50 : decode cX11_runBurst 50 = .ok (.invokevirtual 361, 3) := by decide +kernel
theorem dX11_runBurst_53 : decode cX11_runBurst 53 = .ok (.iload_n 3, 1) := by decide +kernel
theorem dX11_runBurst_54 : decode cX11_runBurst 54 = .ok (.invokevirtual 464, 3) := by decide +kernel
theorem dX11_runBurst_57 : decode cX11_runBurst 57 = .ok (.invokevirtual 267, 3) := by decide +kernel
theorem dX11_runBurst_60 : decode cX11_runBurst 60 = .ok (.ireturn, 1) := by decide +kernel
theorem dX11_valueAt_0 : decode cX11_valueAt 0 = .ok (.aload_n 0, 1) := by decide +kernel
theorem dX11_valueAt_1 : decode cX11_valueAt 1 = .ok (.iload_n 1, 1) := by decide +kernel
theorem dX11_valueAt_2 : decode cX11_valueAt 2 = .ok (.iload_n 2, 1) := by decide +kernel
theorem dX11_valueAt_3 : decode cX11_valueAt 3 = .ok (.iconst 0, 1) := by decide +kernel
theorem dX11_valueAt_4 : decode cX11_valueAt 4 = .ok (.invokestatic 245, 3) := by decide +kernel
theorem dX11_valueAt_7 : decode cX11_valueAt 7 = .ok (.iconst 0, 1) := by decide +kernel
theorem dX11_valueAt_8 : decode cX11_valueAt 8 = .ok (.invokevirtual 464, 3) := by decide +kernel
theorem dX11_valueAt_11 : decode cX11_valueAt 11 = .ok (.ireturn, 1) := by decide +kernel
theorem dX11_goesRound_0 : decode cX11_goesRound 0 = .ok (.aload_n 0, 1) := by decide +kernel
theorem dX11_goesRound_1 : decode cX11_goesRound 1 = .ok (.getfield 53, 3) := by decide +kernel
theorem dX11_goesRound_4 : decode cX11_goesRound 4 = .ok (.aload_n 0, 1) := by decide +kernel
theorem dX11_goesRound_5 : decode cX11_goesRound 5 = .ok (.iload_n 1, 1) := by decide +kernel
theorem dX11_goesRound_6 : decode cX11_goesRound 6 = .ok (.iconst 1, 1) := by decide +kernel
theorem dX11_goesRound_7 : decode cX11_goesRound 7 = .ok (.invokevirtual 270, 3) := by decide +kernel
theorem dX11_goesRound_10 : decode cX11_goesRound 10 = .ok (.iaload, 1) := by decide +kernel
theorem dX11_goesRound_11 : decode cX11_goesRound 11 = .ok (.istore_n 2, 1) := by decide +kernel
theorem dX11_goesRound_12 : decode cX11_goesRound 12 = .ok (.aload_n 0, 1) := by decide +kernel
theorem dX11_goesRound_13 : decode cX11_goesRound 13 = .ok (.aload_n 0, 1) := by decide +kernel
theorem dX11_goesRound_14 : decode cX11_goesRound 14 = .ok (.aload_n 0, 1) := by decide +kernel
theorem dX11_goesRound_15 : decode cX11_goesRound 15 = .ok (.iload_n 1, 1) := by decide +kernel
theorem dX11_goesRound_16 : decode cX11_goesRound 16 = .ok (.iconst 0, 1) := by decide +kernel
theorem dX11_goesRound_17 : decode cX11_goesRound 17 = .ok (.invokevirtual 270, 3) := by decide +kernel
theorem dX11_goesRound_20 : decode cX11_goesRound 20 = .ok (.invokevirtual 310, 3) := by decide +kernel
theorem dX11_goesRound_23 : decode cX11_goesRound 23 = .ok (.putfield 468, 3) := by decide +kernel
theorem dX11_goesRound_26 : decode cX11_goesRound 26 = .ok (.aload_n 0, 1) := by decide +kernel
theorem dX11_goesRound_27 : decode cX11_goesRound 27 = .ok (.bipush (-2), 2) := by decide +kernel
theorem dX11_goesRound_29 : decode cX11_goesRound 29 = .ok (.putfield 471, 3) := by decide +kernel
theorem dX11_goesRound_32 : decode cX11_goesRound 32 = .ok (.iconst 0, 1) := by decide +kernel
theorem dX11_goesRound_33 : decode cX11_goesRound 33 = .ok (.istore_n 3, 1) := by decide +kernel
theorem dX11_goesRound_34 : decode cX11_goesRound 34 = .ok (.iload_n 3, 1) := by decide +kernel
theorem dX11_goesRound_35 : decode cX11_goesRound 35 = .ok (.bipush 8, 2) := by decide +kernel
theorem dX11_goesRound_37 : decode cX11_goesRound 37 = .ok (.if_icmp .ge 59, 3) := by decide +kernel
theorem dX11_goesRound_40 : decode cX11_goesRound 40 = .ok (.iload_n 2, 1) := by decide +kernel
theorem dX11_goesRound_41 : decode cX11_goesRound 41 = .ok (.aload_n 0, 1) := by decide +kernel
theorem dX11_goesRound_42 : decode cX11_goesRound 42 = .ok (.getfield 468, 3) := by decide +kernel
theorem dX11_goesRound_45 : decode cX11_goesRound 45 = .ok (.iconst 4, 1) := by decide +kernel
theorem dX11_goesRound_46 : decode cX11_goesRound 46 = .ok (.ishl, 1) := by decide +kernel
theorem dX11_goesRound_47 : decode cX11_goesRound 47 = .ok (.ior, 1) := by decide +kernel
theorem dX11_goesRound_48 : decode cX11_goesRound 48 = .ok (.istore 4, 2) := by decide +kernel
theorem dX11_goesRound_50 : decode cX11_goesRound 50 = .ok (.aload_n 0, 1) := by decide +kernel
theorem dX11_goesRound_51 : decode cX11_goesRound 51 = .ok (.iconst 3, 1) := by decide +kernel
theorem dX11_goesRound_52 : decode cX11_goesRound 52 = .ok (.iload 4, 2) := by decide +kernel
theorem dX11_goesRound_54 : decode cX11_goesRound 54 = .ok (.invokevirtual 474, 3) := by decide +kernel
theorem dX11_goesRound_57 : decode cX11_goesRound 57 = .ok (.aload_n 0, 1) := by decide +kernel
theorem dX11_goesRound_58 : decode cX11_goesRound 58 = .ok (.iconst 4, 1) := by decide +kernel
theorem dX11_goesRound_59 : decode cX11_goesRound 59 = .ok (.iload 4, 2) := by decide +kernel
theorem dX11_goesRound_61 : decode cX11_goesRound 61 = .ok (.invokevirtual 474, 3) := by decide +kernel
theorem dX11_goesRound_64 : decode cX11_goesRound 64 = .ok (.iconst 1, 1) := by decide +kernel
theorem dX11_goesRound_65 : decode cX11_goesRound 65 = .ok (.ishl, 1) := by decide +kernel
theorem dX11_goesRound_66 : decode cX11_goesRound 66 = .ok (.ior, 1) := by decide +kernel
theorem dX11_goesRound_67 : decode cX11_goesRound 67 = .ok (.istore 5, 2) := by decide +kernel
theorem dX11_goesRound_69 : decode cX11_goesRound 69 = .ok (.iload 5, 2) := by decide +kernel
theorem dX11_goesRound_71 : decode cX11_goesRound 71 = .ok (.aload_n 0, 1) := by decide +kernel
theorem dX11_goesRound_72 : decode cX11_goesRound 72 = .ok (.getfield 468, 3) := by decide +kernel
theorem dX11_goesRound_75 : decode cX11_goesRound 75 = .ok (.if_icmp .ne 9, 3) := by decide +kernel
theorem dX11_goesRound_78 : decode cX11_goesRound 78 = .ok (.aload_n 0, 1) := by decide +kernel
theorem dX11_goesRound_79 : decode cX11_goesRound 79 = .ok (.iload_n 3, 1) := by decide +kernel
theorem dX11_goesRound_80 : decode cX11_goesRound 80 = .ok (.putfield 471, 3) := by decide +kernel
theorem dX11_goesRound_83 : decode cX11_goesRound 83 = .ok (.return_, 1) := by decide +kernel
theorem dX11_goesRound_84 : decode cX11_goesRound 84 = .ok (.aload_n 0, 1) := by decide +kernel
theorem dX11_goesRound_85 : decode cX11_goesRound 85 = .ok (.iload 5, 2) := by decide +kernel
theorem dX11_goesRound_87 : decode cX11_goesRound 87 = .ok (.putfield 468, 3) := by decide +kernel
theorem dX11_goesRound_90 : decode cX11_goesRound 90 = .ok (.iinc 3 1, 3) := by decide +kernel
theorem dX11_goesRound_93 : decode cX11_goesRound 93 = .ok (.goto (-59), 3) := by decide +kernel
theorem dX11_goesRound_96 : decode cX11_goesRound 96 = .ok (.return_, 1) := by decide +kernel
theorem dX11_refusesRounds_0 : decode cX11_refusesRounds 0 = .ok (.aload_n 0, 1) := by decide +kernel
theorem dX11_refusesRounds_1 : decode cX11_refusesRounds 1 = .ok (.iload_n 1, 1) := by decide +kernel
theorem dX11_refusesRounds_2 : decode cX11_refusesRounds 2 = .ok (.invokevirtual 338, 3) := by decide +kernel
theorem dX11_refusesRounds_5 : decode cX11_refusesRounds 5 = .ok (.ifCond .ne 5, 3) := by decide +kernel
theorem dX11_refusesRounds_8 : decode cX11_refusesRounds 8 = .ok (.iconst 1, 1) := by decide +kernel
theorem dX11_refusesRounds_9 : decode cX11_refusesRounds 9 = .ok (.ireturn, 1) := by decide +kernel
theorem dX11_refusesRounds_10 : decode cX11_refusesRounds 10 = .ok (.aload_n 0, 1) := by decide +kernel
theorem dX11_refusesRounds_11 : decode cX11_refusesRounds 11 = .ok (.getfield 273, 3) := by decide +kernel
theorem dX11_refusesRounds_14 : decode cX11_refusesRounds 14 = .ok (.ifCond .le 5, 3) := by decide +kernel
theorem dX11_refusesRounds_17 : decode cX11_refusesRounds 17 = .ok (.iconst 5, 1) := by decide +kernel
theorem dX11_refusesRounds_18 : decode cX11_refusesRounds 18 = .ok (.ireturn, 1) := by decide +kernel
theorem dX11_refusesRounds_19 : decode cX11_refusesRounds 19 = .ok (.aload_n 0, 1) := by decide +kernel
theorem dX11_refusesRounds_20 : decode cX11_refusesRounds 20 = .ok (.iconst 3, 1) := by decide +kernel
theorem dX11_refusesRounds_21 : decode cX11_refusesRounds 21 = .ok (.invokevirtual 415, 3) := by decide +kernel
theorem dX11_refusesRounds_24 : decode cX11_refusesRounds 24 = .ok (.ifCond .eq 15, 3) := by decide +kernel
theorem dX11_refusesRounds_27 : decode cX11_refusesRounds 27 = .ok (.aload_n 0, 1) := by decide +kernel
theorem dX11_refusesRounds_28 : decode cX11_refusesRounds 28 = .ok (.iconst 4, 1) := by decide +kernel
theorem dX11_refusesRounds_29 : decode cX11_refusesRounds 29 = .ok (.invokevirtual 415, 3) := by decide +kernel
theorem dX11_refusesRounds_32 : decode cX11_refusesRounds 32 = .ok (.ifCond .eq 7, 3) := by decide +kernel
theorem dX11_refusesRounds_35 : decode cX11_refusesRounds 35 = .ok (.iconst 0, 1) := by decide +kernel
theorem dX11_refusesRounds_36 : decode cX11_refusesRounds 36 = .ok (.goto 4, 3) := by decide +kernel
theorem dX11_refusesRounds_39 : decode cX11_refusesRounds 39 = .ok (.iconst 5, 1) := by decide +kernel
theorem dX11_refusesRounds_40 : decode cX11_refusesRounds 40 = .ok (.ireturn, 1) := by decide +kernel
theorem dX11_settles_0 : decode cX11_settles 0 = .ok (.aload_n 0, 1) := by decide +kernel
theorem dX11_settles_1 : decode cX11_settles 1 = .ok (.iconst 0, 1) := by decide +kernel
theorem dX11_settles_2 : decode cX11_settles 2 = .ok (.putfield 3, 3) := by decide +kernel
theorem dX11_settles_5 : decode cX11_settles 5 = .ok (.aload_n 0, 1) := by decide +kernel
theorem dX11_settles_6 : decode cX11_settles 6 = .ok (.iload_n 1, 1) := by decide +kernel
theorem dX11_settles_7 : decode cX11_settles 7 = .ok (.invokevirtual 477, 3) := by decide +kernel
theorem dX11_settles_10 : decode cX11_settles 10 = .ok (.istore_n 2, 1) := by decide +kernel
theorem dX11_settles_11 : decode cX11_settles 11 = .ok (.iload_n 2, 1) := by decide +kernel
theorem dX11_settles_12 : decode cX11_settles 12 = .ok (.ifCond .le 9, 3) := by decide +kernel
theorem dX11_settles_15 : decode cX11_settles 15 = .ok (.aload_n 0, 1) := by decide +kernel
theorem dX11_settles_16 : decode cX11_settles 16 = .ok (.iload_n 2, 1) := by decide +kernel
theorem dX11_settles_17 : decode cX11_settles 17 = .ok (.invokevirtual 251, 3) := by decide +kernel
theorem dX11_settles_20 : decode cX11_settles 20 = .ok (.ireturn, 1) := by decide +kernel
theorem dX11_settles_21 : decode cX11_settles 21 = .ok (.aload_n 0, 1) := by decide +kernel
theorem dX11_settles_22 : decode cX11_settles 22 = .ok (.iload_n 1, 1) := by decide +kernel
theorem dX11_settles_23 : decode cX11_settles 23 = .ok (.invokevirtual 480, 3) := by decide +kernel
theorem dX11_settles_26 : decode cX11_settles 26 = .ok (.aload_n 0, 1) := by decide +kernel
theorem dX11_settles_27 : decode cX11_settles 27 = .ok (.aload_n 0, 1) := by decide +kernel
theorem dX11_settles_28 : decode cX11_settles 28 = .ok (.getfield 471, 3) := by decide +kernel
theorem dX11_settles_31 : decode cX11_settles 31 = .ok (.invokevirtual 267, 3) := by decide +kernel
theorem dX11_settles_34 : decode cX11_settles 34 = .ok (.ireturn, 1) := by decide +kernel
theorem dX11_settled_0 : decode cX11_settled 0 = .ok (.aload_n 0, 1) := by decide +kernel
theorem dX11_settled_1 : decode cX11_settled 1 = .ok (.iconst 0, 1) := by decide +kernel
theorem dX11_settled_2 : decode cX11_settled 2 = .ok (.putfield 3, 3) := by decide +kernel
theorem dX11_settled_5 : decode cX11_settled 5 = .ok (.aload_n 0, 1) := by decide +kernel
theorem dX11_settled_6 : decode cX11_settled 6 = .ok (.iload_n 1, 1) := by decide +kernel
theorem dX11_settled_7 : decode cX11_settled 7 = .ok (.invokevirtual 477, 3) := by decide +kernel
theorem dX11_settled_10 : decode cX11_settled 10 = .ok (.istore_n 2, 1) := by decide +kernel
theorem dX11_settled_11 : decode cX11_settled 11 = .ok (.iload_n 2, 1) := by decide +kernel
theorem dX11_settled_12 : decode cX11_settled 12 = .ok (.ifCond .le 9, 3) := by decide +kernel
theorem dX11_settled_15 : decode cX11_settled 15 = .ok (.aload_n 0, 1) := by decide +kernel
theorem dX11_settled_16 : decode cX11_settled 16 = .ok (.iload_n 2, 1) := by decide +kernel
theorem dX11_settled_17 : decode cX11_settled 17 = .ok (.invokevirtual 251, 3) := by decide +kernel
theorem dX11_settled_20 : decode cX11_settled 20 = .ok (.ireturn, 1) := by decide +kernel
theorem dX11_settled_21 : decode cX11_settled 21 = .ok (.aload_n 0, 1) := by decide +kernel
theorem dX11_settled_22 : decode cX11_settled 22 = .ok (.iload_n 1, 1) := by decide +kernel
theorem dX11_settled_23 : decode cX11_settled 23 = .ok (.invokevirtual 480, 3) := by decide +kernel
theorem dX11_settled_26 : decode cX11_settled 26 = .ok (.aload_n 0, 1) := by decide +kernel
theorem dX11_settled_27 : decode cX11_settled 27 = .ok (.aload_n 0, 1) := by decide +kernel
theorem dX11_settled_28 : decode cX11_settled 28 = .ok (.getfield 468, 3) := by decide +kernel
theorem dX11_settled_31 : decode cX11_settled 31 = .ok (.invokevirtual 267, 3) := by decide +kernel
theorem dX11_settled_34 : decode cX11_settled 34 = .ok (.ireturn, 1) := by decide +kernel
theorem dX11_arcBy_0 : decode cX11_arcBy 0 = .ok (.iconst (-1), 1) := by decide +kernel
theorem dX11_arcBy_1 : decode cX11_arcBy 1 = .ok (.istore_n 2, 1) := by decide +kernel
theorem dX11_arcBy_2 : decode cX11_arcBy 2 = .ok (.iconst 0, 1) := by decide +kernel
theorem dX11_arcBy_3 : decode cX11_arcBy 3 = .ok (.istore_n 3, 1) := by decide +kernel
theorem dX11_arcBy_4 : decode cX11_arcBy 4 = .ok (.iload_n 3, 1) := by decide +kernel
theorem dX11_arcBy_5 : decode cX11_arcBy 5 = .ok (.aload_n 0, 1) := by decide +kernel
theorem dX11_arcBy_6 : decode cX11_arcBy 6 = .ok (.getfield 31, 3) := by decide +kernel
theorem dX11_arcBy_9 : decode cX11_arcBy 9 = .ok (.bipush 6, 2) := by decide +kernel
theorem dX11_arcBy_11 : decode cX11_arcBy 11 = .ok (.iaload, 1) := by decide +kernel
theorem dX11_arcBy_12 : decode cX11_arcBy 12 = .ok (.if_icmp .ge 51, 3) := by decide +kernel
theorem dX11_arcBy_15 : decode cX11_arcBy 15 = .ok (.aload_n 0, 1) := by decide +kernel
theorem dX11_arcBy_16 : decode cX11_arcBy 16 = .ok (.iload_n 3, 1) := by decide +kernel
theorem dX11_arcBy_17 : decode cX11_arcBy 17 = .ok (.iconst 0, 1) := by decide +kernel
theorem dX11_arcBy_18 : decode cX11_arcBy 18 = .ok (.invokevirtual 270, 3) := by decide +kernel
theorem dX11_arcBy_21 : decode cX11_arcBy 21 = .ok (.aload_n 0, 1) := by decide +kernel
theorem dX11_arcBy_22 : decode cX11_arcBy 22 = .ok (.getfield 291, 3) := by decide +kernel
theorem dX11_arcBy_25 : decode cX11_arcBy 25 = .ok (.if_icmp .ne 32, 3) := by decide +kernel
theorem dX11_arcBy_28 : decode cX11_arcBy 28 = .ok (.iload_n 1, 1) := by decide +kernel
theorem dX11_arcBy_29 : decode cX11_arcBy 29 = .ok (.aload_n 0, 1) := by decide +kernel
theorem dX11_arcBy_30 : decode cX11_arcBy 30 = .ok (.iload_n 3, 1) := by decide +kernel
theorem dX11_arcBy_31 : decode cX11_arcBy 31 = .ok (.invokevirtual 307, 3) := by decide +kernel
theorem dX11_arcBy_34 : decode cX11_arcBy 34 = .ok (.iconst (-1), 1) := by decide +kernel
theorem dX11_arcBy_35 : decode cX11_arcBy 35 = .ok (.ixor, 1) := by decide +kernel
theorem dX11_arcBy_36 : decode cX11_arcBy 36 = .ok (.iand, 1) := by decide +kernel
theorem dX11_arcBy_37 : decode cX11_arcBy 37 = .ok (.ifCond .eq 6, 3) := by decide +kernel
theorem dX11_arcBy_40 : decode cX11_arcBy 40 = .ok (.goto 17, 3) := by decide +kernel
theorem dX11_arcBy_43 : decode cX11_arcBy 43 = .ok (.aload_n 0, 1) := by decide +kernel
theorem dX11_arcBy_44 : decode cX11_arcBy 44 = .ok (.iload_n 3, 1) := by decide +kernel
theorem dX11_arcBy_45 : decode cX11_arcBy 45 = .ok (.invokevirtual 307, 3) := by decide +kernel
theorem dX11_arcBy_48 : decode cX11_arcBy 48 = .ok (.iload_n 1, 1) := by decide +kernel
theorem dX11_arcBy_49 : decode cX11_arcBy 49 = .ok (.if_icmp .ne 5, 3) := by decide +kernel
theorem dX11_arcBy_52 : decode cX11_arcBy 52 = .ok (.iload_n 3, 1) := by decide +kernel
theorem dX11_arcBy_53 : decode cX11_arcBy 53 = .ok (.ireturn, 1) := by decide +kernel
theorem dX11_arcBy_54 : decode cX11_arcBy 54 = .ok (.bipush (-2), 2) := by decide +kernel
theorem dX11_arcBy_56 : decode cX11_arcBy 56 = .ok (.istore_n 2, 1) := by decide +kernel
theorem dX11_arcBy_57 : decode cX11_arcBy 57 = .ok (.iinc 3 1, 3) := by decide +kernel
theorem dX11_arcBy_60 : decode cX11_arcBy 60 = .ok (.goto (-56), 3) := by decide +kernel
theorem dX11_arcBy_63 : decode cX11_arcBy 63 = .ok (.iload_n 2, 1) := by decide +kernel
theorem dX11_arcBy_64 : decode cX11_arcBy 64 = .ok (.ireturn, 1) := by decide +kernel
theorem dX11_push_0 : decode cX11_push 0 = .ok (.aload_n 0, 1) := by decide +kernel
theorem dX11_push_1 : decode cX11_push 1 = .ok (.iconst 0, 1) := by decide +kernel
theorem dX11_push_2 : decode cX11_push 2 = .ok (.putfield 3, 3) := by decide +kernel
theorem dX11_push_5 : decode cX11_push 5 = .ok (.aload_n 0, 1) := by decide +kernel
theorem dX11_push_6 : decode cX11_push 6 = .ok (.getfield 257, 3) := by decide +kernel
theorem dX11_push_9 : decode cX11_push 9 = .ok (.ifCond .ne 9, 3) := by decide +kernel
theorem dX11_push_12 : decode cX11_push 12 = .ok (.aload_n 0, 1) := by decide +kernel
theorem dX11_push_13 : decode cX11_push 13 = .ok (.iconst 1, 1) := by decide +kernel
theorem dX11_push_14 : decode cX11_push 14 = .ok (.invokevirtual 251, 3) := by decide +kernel
theorem dX11_push_17 : decode cX11_push 17 = .ok (.ireturn, 1) := by decide +kernel
theorem dX11_push_18 : decode cX11_push 18 = .ok (.aload_n 0, 1) := by decide +kernel
theorem dX11_push_19 : decode cX11_push 19 = .ok (.getfield 273, 3) := by decide +kernel
theorem dX11_push_22 : decode cX11_push 22 = .ok (.ifCond .le 9, 3) := by decide +kernel
theorem dX11_push_25 : decode cX11_push 25 = .ok (.aload_n 0, 1) := by decide +kernel
theorem dX11_push_26 : decode cX11_push 26 = .ok (.iconst 5, 1) := by decide +kernel
theorem dX11_push_27 : decode cX11_push 27 = .ok (.invokevirtual 251, 3) := by decide +kernel
theorem dX11_push_30 : decode cX11_push 30 = .ok (.ireturn, 1) := by decide +kernel
theorem dX11_push_31 : decode cX11_push 31 = .ok (.iload_n 1, 1) := by decide +kernel
theorem dX11_push_32 : decode cX11_push 32 = .ok (.iconst 0, 1) := by decide +kernel
theorem dX11_push_33 : decode cX11_push 33 = .ok (.iconst 3, 1) := by decide +kernel
theorem dX11_push_34 : decode cX11_push 34 = .ok (.invokestatic 138, 3) := by decide +kernel
theorem dX11_push_37 : decode cX11_push 37 = .ok (.ifCond .ne 9, 3) := by decide +kernel
theorem dX11_push_40 : decode cX11_push 40 = .ok (.aload_n 0, 1) := by decide +kernel
theorem dX11_push_41 : decode cX11_push 41 = .ok (.iconst 2, 1) := by decide +kernel
theorem dX11_push_42 : decode cX11_push 42 = .ok (.invokevirtual 251, 3) := by decide +kernel
theorem dX11_push_45 : decode cX11_push 45 = .ok (.ireturn, 1) := by decide +kernel
theorem dX11_push_46 : decode cX11_push 46 = .ok (.aload_n 0, 1) := by decide +kernel
theorem dX11_push_47 : decode cX11_push 47 = .ok (.getfield 294, 3) := by decide +kernel
theorem dX11_push_50 : decode cX11_push 50 = .ok (.iconst 1, 1) := by decide +kernel
theorem dX11_push_51 : decode cX11_push 51 = .ok (.iload_n 1, 1) := by decide +kernel
theorem dX11_push_52 : decode cX11_push 52 = .ok (.ishl, 1) := by decide +kernel
theorem dX11_push_53 : decode cX11_push 53 = .ok (.ior, 1) := by decide +kernel
theorem dX11_push_54 : decode cX11_push 54 = .ok (.istore_n 2, 1) := by decide +kernel
theorem dX11_push_55 : decode cX11_push 55 = .ok (.aload_n 0, 1) := by decide +kernel
theorem dX11_push_56 : decode cX11_push 56 = .ok (.getfield 294, 3) := by decide +kernel
theorem dX11_push_59 : decode cX11_push 59 = .ok (.iload_n 1, 1) := by decide +kernel
theorem dX11_push_60 : decode cX11_push 60 = .ok (.invokestatic 114, 3) := by decide +kernel
theorem dX11_push_63 : decode cX11_push 63 = .ok (.ifCond .eq 7, 3) := by decide +kernel
theorem dX11_push_66 : decode cX11_push 66 = .ok (.iconst (-1), 1) := by decide +kernel
theorem dX11_push_67 : decode cX11_push 67 = .ok (.goto 8, 3) := by decide +kernel
theorem dX11_push_70 : decode cX11_push 70 = .ok (.aload_n 0, 1) := by decide +kernel
theorem dX11_push_71 : decode cX11_push 71 = .ok (.iload_n 2, 1) := by decide +kernel
theorem dX11_push_72 : decode cX11_push 72 = .ok (.invokevirtual 483, 3) := by decide +kernel
theorem dX11_push_75 : decode cX11_push 75 = .ok (.istore_n 3, 1) := by decide +kernel
theorem dX11_push_76 : decode cX11_push 76 = .ok (.iload_n 3, 1) := by decide +kernel
theorem dX11_push_77 : decode cX11_push 77 = .ok (.iconst (-1), 1) := by decide +kernel
theorem dX11_push_78 : decode cX11_push 78 = .ok (.if_icmp .ne 9, 3) := by decide +kernel
theorem dX11_push_81 : decode cX11_push 81 = .ok (.aload_n 0, 1) := by decide +kernel
theorem dX11_push_82 : decode cX11_push 82 = .ok (.iconst 5, 1) := by decide +kernel
theorem dX11_push_83 : decode cX11_push 83 = .ok (.invokevirtual 251, 3) := by decide +kernel
theorem dX11_push_86 : decode cX11_push 86 = .ok (.ireturn, 1) := by decide +kernel
theorem dX11_push_87 : decode cX11_push 87 = .ok (.aload_n 0, 1) := by decide +kernel
theorem dX11_push_88 : decode cX11_push 88 = .ok (.iload_n 3, 1) := by decide +kernel
theorem dX11_push_89 : decode cX11_push 89 = .ok (.bipush (-2), 2) := by decide +kernel
theorem dX11_push_91 : decode cX11_push 91 = .ok (.if_icmp .ne 7, 3) := by decide +kernel
theorem dX11_push_94 : decode cX11_push 94 = .ok (.iload_n 2, 1) := by decide +kernel
theorem dX11_push_95 : decode cX11_push 95 = .ok (.goto 4, 3) := by decide +kernel
theorem dX11_push_98 : decode cX11_push 98 = .ok (.iconst 0, 1) := by decide +kernel
theorem dX11_push_99 : decode cX11_push 99 = .ok (.putfield 294, 3) := by decide +kernel
theorem dX11_push_102 : decode cX11_push 102 = .ok (.iload_n 3, 1) := by decide +kernel
theorem dX11_push_103 : decode cX11_push 103 = .ok (.bipush (-2), 2) := by decide +kernel
theorem dX11_push_105 : decode cX11_push 105 = .ok (.if_icmp .eq 13, 3) := by decide +kernel
theorem dX11_push_108 : decode cX11_push 108 = .ok (.aload_n 0, 1) := by decide +kernel
theorem dX11_push_109 : decode cX11_push 109 = .ok (.aload_n 0, 1) := by decide +kernel
theorem dX11_push_110 : decode cX11_push 110 = .ok (.iload_n 3, 1) := by decide +kernel
theorem dX11_push_111 : decode cX11_push 111 = .ok (.iconst 1, 1) := by decide +kernel
theorem dX11_push_112 : decode cX11_push 112 = .ok (.invokevirtual 270, 3) := by decide +kernel
theorem dX11_push_115 : decode cX11_push 115 = .ok (.putfield 291, 3) := by decide +kernel
theorem dX11_push_118 : decode cX11_push 118 = .ok (.aload_n 0, 1) := by decide +kernel
theorem dX11_push_119 : decode cX11_push 119 = .ok (.aload_n 0, 1) := by decide +kernel
theorem dX11_push_120 : decode cX11_push 120 = .ok (.getfield 291, 3) := by decide +kernel
theorem dX11_push_123 : decode cX11_push 123 = .ok (.invokevirtual 267, 3) := by decide +kernel
theorem dX11_push_126 : decode cX11_push 126 = .ok (.ireturn, 1) := by decide +kernel
theorem dX11_walk_0 : decode cX11_walk 0 = .ok (.aload_n 0, 1) := by decide +kernel
theorem dX11_walk_1 : decode cX11_walk 1 = .ok (.iconst 0, 1) := by decide +kernel
theorem dX11_walk_2 : decode cX11_walk 2 = .ok (.putfield 3, 3) := by decide +kernel
theorem dX11_walk_5 : decode cX11_walk 5 = .ok (.aload_n 0, 1) := by decide +kernel
theorem dX11_walk_6 : decode cX11_walk 6 = .ok (.getfield 257, 3) := by decide +kernel
theorem dX11_walk_9 : decode cX11_walk 9 = .ok (.ifCond .eq 12, 3) := by decide +kernel
theorem dX11_walk_12 : decode cX11_walk 12 = .ok (.iload_n 1, 1) := by decide +kernel
theorem dX11_walk_13 : decode cX11_walk 13 = .ok (.iconst 0, 1) := by decide +kernel
theorem dX11_walk_14 : decode cX11_walk 14 = .ok (.iconst 3, 1) := by decide +kernel
theorem dX11_walk_15 : decode cX11_walk 15 = .ok (.invokestatic 138, 3) := by decide +kernel
theorem dX11_walk_18 : decode cX11_walk 18 = .ok (.ifCond .ne 9, 3) := by decide +kernel
theorem dX11_walk_21 : decode cX11_walk 21 = .ok (.aload_n 0, 1) := by decide +kernel
theorem dX11_walk_22 : decode cX11_walk 22 = .ok (.iconst 1, 1) := by decide +kernel
theorem dX11_walk_23 : decode cX11_walk 23 = .ok (.invokevirtual 251, 3) := by decide +kernel
theorem dX11_walk_26 : decode cX11_walk 26 = .ok (.ireturn, 1) := by decide +kernel
theorem dX11_walk_27 : decode cX11_walk 27 = .ok (.aload_n 0, 1) := by decide +kernel
theorem dX11_walk_28 : decode cX11_walk 28 = .ok (.getfield 273, 3) := by decide +kernel
theorem dX11_walk_31 : decode cX11_walk 31 = .ok (.ifCond .le 9, 3) := by decide +kernel
theorem dX11_walk_34 : decode cX11_walk 34 = .ok (.aload_n 0, 1) := by decide +kernel
theorem dX11_walk_35 : decode cX11_walk 35 = .ok (.iconst 5, 1) := by decide +kernel
theorem dX11_walk_36 : decode cX11_walk 36 = .ok (.invokevirtual 251, 3) := by decide +kernel
theorem dX11_walk_39 : decode cX11_walk 39 = .ok (.ireturn, 1) := by decide +kernel
theorem dX11_walk_40 : decode cX11_walk 40 = .ok (.iload_n 1, 1) := by decide +kernel
theorem dX11_walk_41 : decode cX11_walk 41 = .ok (.tableswitch 69 0 2 #[27, 36, 55], 27) := by decide +kernel
theorem dX11_walk_68 : decode cX11_walk 68 = .ok (.aload_n 0, 1) := by decide +kernel
theorem dX11_walk_69 : decode cX11_walk 69 = .ok (.aload_n 0, 1) := by decide +kernel
theorem dX11_walk_70 : decode cX11_walk 70 = .ok (.getfield 291, 3) := by decide +kernel
theorem dX11_walk_73 : decode cX11_walk 73 = .ok (.invokevirtual 267, 3) := by decide +kernel
theorem dX11_walk_76 : decode cX11_walk 76 = .ok (.ireturn, 1) := by decide +kernel
theorem dX11_walk_77 : decode cX11_walk 77 = .ok (.aload_n 0, 1) := by decide +kernel
theorem dX11_walk_78 : decode cX11_walk 78 = .ok (.aload_n 0, 1) := by decide +kernel
theorem dX11_walk_79 : decode cX11_walk 79 = .ok (.getfield 53, 3) := by decide +kernel
theorem dX11_walk_82 : decode cX11_walk 82 = .ok (.aload_n 0, 1) := by decide +kernel
theorem dX11_walk_83 : decode cX11_walk 83 = .ok (.getfield 291, 3) := by decide +kernel
theorem dX11_walk_86 : decode cX11_walk 86 = .ok (.iaload, 1) := by decide +kernel
theorem dX11_walk_87 : decode cX11_walk 87 = .ok (.aload_n 0, 1) := by decide +kernel
theorem dX11_walk_88 : decode cX11_walk 88 = .ok (.getfield 294, 3) := by decide +kernel
theorem dX11_walk_91 : decode cX11_walk 91 = .ok (.ixor, 1) := by decide +kernel
theorem dX11_walk_92 : decode cX11_walk 92 = .ok (.invokevirtual 267, 3) := by decide +kernel
theorem dX11_walk_95 : decode cX11_walk 95 = .ok (.ireturn, 1) := by decide +kernel
theorem dX11_walk_96 : decode cX11_walk 96 = .ok (.aload_n 0, 1) := by decide +kernel
theorem dX11_walk_97 : decode cX11_walk 97 = .ok (.aload_n 0, 1) := by decide +kernel
theorem dX11_walk_98 : decode cX11_walk 98 = .ok (.getfield 56, 3) := by decide +kernel
theorem dX11_walk_101 : decode cX11_walk 101 = .ok (.aload_n 0, 1) := by decide +kernel
theorem dX11_walk_102 : decode cX11_walk 102 = .ok (.getfield 291, 3) := by decide +kernel
theorem dX11_walk_105 : decode cX11_walk 105 = .ok (.iaload, 1) := by decide +kernel
theorem dX11_walk_106 : decode cX11_walk 106 = .ok (.invokevirtual 267, 3) := by decide +kernel
theorem dX11_walk_109 : decode cX11_walk 109 = .ok (.ireturn, 1) := by decide +kernel
theorem dX11_walk_110 : decode cX11_walk 110 = .ok (.aload_n 0, 1) := by decide +kernel
theorem dX11_walk_111 : decode cX11_walk 111 = .ok (.aload_n 0, 1) := by decide +kernel
theorem dX11_walk_112 : decode cX11_walk 112 = .ok (.getfield 294, 3) := by decide +kernel
theorem dX11_walk_115 : decode cX11_walk 115 = .ok (.invokevirtual 267, 3) := by decide +kernel
theorem dX11_walk_118 : decode cX11_walk 118 = .ok (.ireturn, 1) := by decide +kernel
theorem dX11_shown_0 : decode cX11_shown 0 = .ok (.aload_n 0, 1) := by decide +kernel
theorem dX11_shown_1 : decode cX11_shown 1 = .ok (.iconst 0, 1) := by decide +kernel
theorem dX11_shown_2 : decode cX11_shown 2 = .ok (.putfield 3, 3) := by decide +kernel
theorem dX11_shown_5 : decode cX11_shown 5 = .ok (.aload_n 0, 1) := by decide +kernel
theorem dX11_shown_6 : decode cX11_shown 6 = .ok (.getfield 257, 3) := by decide +kernel
theorem dX11_shown_9 : decode cX11_shown 9 = .ok (.ifCond .ne 9, 3) := by decide +kernel
theorem dX11_shown_12 : decode cX11_shown 12 = .ok (.aload_n 0, 1) := by decide +kernel
theorem dX11_shown_13 : decode cX11_shown 13 = .ok (.iconst 1, 1) := by decide +kernel
theorem dX11_shown_14 : decode cX11_shown 14 = .ok (.invokevirtual 251, 3) := by decide +kernel
theorem dX11_shown_17 : decode cX11_shown 17 = .ok (.ireturn, 1) := by decide +kernel
theorem dX11_shown_18 : decode cX11_shown 18 = .ok (.aload_n 0, 1) := by decide +kernel
theorem dX11_shown_19 : decode cX11_shown 19 = .ok (.getfield 273, 3) := by decide +kernel
theorem dX11_shown_22 : decode cX11_shown 22 = .ok (.ifCond .le 9, 3) := by decide +kernel
theorem dX11_shown_25 : decode cX11_shown 25 = .ok (.aload_n 0, 1) := by decide +kernel
theorem dX11_shown_26 : decode cX11_shown 26 = .ok (.iconst 5, 1) := by decide +kernel
theorem dX11_shown_27 : decode cX11_shown 27 = .ok (.invokevirtual 251, 3) := by decide +kernel
theorem dX11_shown_30 : decode cX11_shown 30 = .ok (.ireturn, 1) := by decide +kernel
theorem dX11_shown_31 : decode cX11_shown 31 = .ok (.iconst 0, 1) := by decide +kernel
theorem dX11_shown_32 : decode cX11_shown 32 = .ok (.istore_n 1, 1) := by decide +kernel
theorem dX11_shown_33 : decode cX11_shown 33 = .ok (.iconst 0, 1) := by decide +kernel
theorem dX11_shown_34 : decode cX11_shown 34 = .ok (.istore_n 2, 1) := by decide +kernel
theorem dX11_shown_35 : decode cX11_shown 35 = .ok (.iload_n 2, 1) := by decide +kernel
theorem dX11_shown_36 : decode cX11_shown 36 = .ok (.iconst 5, 1) := by decide +kernel
theorem dX11_shown_37 : decode cX11_shown 37 = .ok (.if_icmp .ge 59, 3) := by decide +kernel
theorem dX11_shown_40 : decode cX11_shown 40 = .ok (.aload_n 0, 1) := by decide +kernel
theorem dX11_shown_41 : decode cX11_shown 41 = .ok (.iload_n 2, 1) := by decide +kernel
theorem dX11_shown_42 : decode cX11_shown 42 = .ok (.invokevirtual 415, 3) := by decide +kernel
theorem dX11_shown_45 : decode cX11_shown 45 = .ok (.ifCond .ne 10, 3) := by decide +kernel
theorem dX11_shown_48 : decode cX11_shown 48 = .ok (.aload_n 0, 1) := by decide +kernel
theorem dX11_shown_49 : decode cX11_shown 49 = .ok (.bipush (-2), 2) := by decide +kernel
theorem dX11_shown_51 : decode cX11_shown 51 = .ok (.invokevirtual 267, 3) := by decide +kernel
theorem dX11_shown_54 : decode cX11_shown 54 = .ok (.ireturn, 1) := by decide +kernel
theorem dX11_shown_55 : decode cX11_shown 55 = .ok (.iload_n 1, 1) := by decide +kernel
theorem dX11_shown_56 : decode cX11_shown 56 = .ok (.aload_n 0, 1) := by decide +kernel
theorem dX11_shown_57 : decode cX11_shown 57 = .ok (.iload_n 2, 1) := by decide +kernel
theorem dX11_shown_58 : decode cX11_shown 58 = .ok (.aload_n 0, 1) := by decide +kernel
theorem dX11_shown_59 : decode cX11_shown 59 = .ok (.getfield 53, 3) := by decide +kernel
theorem dX11_shown_62 : decode cX11_shown 62 = .ok (.aload_n 0, 1) := by decide +kernel
theorem dX11_shown_63 : decode cX11_shown 63 = .ok (.getfield 291, 3) := by decide +kernel
theorem dX11_shown_66 : decode cX11_shown 66 = .ok (.iaload, 1) := by decide +kernel
theorem dX11_shown_67 : decode cX11_shown 67 = .ok (.aload_n 0, 1) := by decide +kernel
theorem dX11_shown_68 : decode cX11_shown 68 = .ok (.getfield 294, 3) := by decide +kernel
theorem dX11_shown_71 : decode cX11_shown 71 = .ok (.ixor, 1) := by decide +kernel
theorem dX11_shown_72 : decode cX11_shown 72 = .ok (.aload_n 0, 1) := by decide +kernel
theorem dX11_shown_73 : decode cX11_shown 73 = .ok (.aload_n 0, 1) := by decide +kernel
theorem dX11_shown_74 : decode cX11_shown 74 = .ok (.getfield 291, 3) := by decide +kernel
theorem dX11_shown_77 : decode cX11_shown 77 = .ok (.invokevirtual 310, 3) := by decide +kernel
theorem dX11_shown_80 : decode cX11_shown 80 = .ok (.iconst 4, 1) := by decide +kernel
theorem dX11_shown_81 : decode cX11_shown 81 = .ok (.ishl, 1) := by decide +kernel
theorem dX11_shown_82 : decode cX11_shown 82 = .ok (.ior, 1) := by decide +kernel
theorem dX11_shown_83 : decode cX11_shown 83 = .ok (.invokevirtual 474, 3) := by decide +kernel
theorem dX11_shown_86 : decode cX11_shown 86 = .ok (.iload_n 2, 1) := by decide +kernel
theorem dX11_shown_87 : decode cX11_shown 87 = .ok (.ishl, 1) := by decide +kernel
theorem dX11_shown_88 : decode cX11_shown 88 = .ok (.ior, 1) := by decide +kernel
theorem dX11_shown_89 : decode cX11_shown 89 = .ok (.istore_n 1, 1) := by decide +kernel
theorem dX11_shown_90 : decode cX11_shown 90 = .ok (.iinc 2 1, 3) := by decide +kernel
theorem dX11_shown_93 : decode cX11_shown 93 = .ok (.goto (-58), 3) := by decide +kernel
theorem dX11_shown_96 : decode cX11_shown 96 = .ok (.aload_n 0, 1) := by decide +kernel
theorem dX11_shown_97 : decode cX11_shown 97 = .ok (.iload_n 1, 1) := by decide +kernel
theorem dX11_shown_98 : decode cX11_shown 98 = .ok (.invokevirtual 267, 3) := by decide +kernel
theorem dX11_shown_101 : decode cX11_shown 101 = .ok (.ireturn, 1) := by decide +kernel
theorem dX11_triesCodes_0 : decode cX11_triesCodes 0 = .ok (.aload_n 0, 1) := by decide +kernel
theorem dX11_triesCodes_1 : decode cX11_triesCodes 1 = .ok (.getfield 37, 3) := by decide +kernel
theorem dX11_triesCodes_4 : decode cX11_triesCodes 4 = .ok (.iconst 0, 1) := by decide +kernel
theorem dX11_triesCodes_5 : decode cX11_triesCodes 5 = .ok (.iaload, 1) := by decide +kernel
theorem dX11_triesCodes_6 : decode cX11_triesCodes 6 = .ok (.istore_n 2, 1) := by decide +kernel
theorem dX11_triesCodes_7 : decode cX11_triesCodes 7 = .ok (.iconst 0, 1) := by decide +kernel
theorem dX11_triesCodes_8 : decode cX11_triesCodes 8 = .ok (.istore_n 3, 1) := by decide +kernel
theorem dX11_triesCodes_9 : decode cX11_triesCodes 9 = .ok (.iload_n 3, 1) := by decide +kernel
theorem dX11_triesCodes_10 : decode cX11_triesCodes 10 = .ok (.iload_n 2, 1) := by decide +kernel
theorem dX11_triesCodes_11 : decode cX11_triesCodes 11 = .ok (.if_icmp .ge 28, 3) := by decide +kernel
theorem dX11_triesCodes_14 : decode cX11_triesCodes 14 = .ok (.aload_n 0, 1) := by decide +kernel
theorem dX11_triesCodes_15 : decode cX11_triesCodes 15 = .ok (.getfield 98, 3) := by decide +kernel
theorem dX11_triesCodes_18 : decode cX11_triesCodes 18 = .ok (.iload_n 3, 1) := by decide +kernel
theorem dX11_triesCodes_19 : decode cX11_triesCodes 19 = .ok (.aload_n 0, 1) := by decide +kernel
theorem dX11_triesCodes_20 : decode cX11_triesCodes 20 = .ok (.getfield 31, 3) := by decide +kernel
theorem dX11_triesCodes_23 : decode cX11_triesCodes 23 = .ok (.iload_n 3, 1) := by decide +kernel
theorem dX11_triesCodes_24 : decode cX11_triesCodes 24 = .ok (.iaload, 1) := by decide +kernel
theorem dX11_triesCodes_25 : decode cX11_triesCodes 25 = .ok (.iastore, 1) := by decide +kernel
theorem dX11_triesCodes_26 : decode cX11_triesCodes 26 = .ok (.aload_n 0, 1) := by decide +kernel
theorem dX11_triesCodes_27 : decode cX11_triesCodes 27 = .ok (.getfield 31, 3) := by decide +kernel
theorem dX11_triesCodes_30 : decode cX11_triesCodes 30 = .ok (.iload_n 3, 1) := by decide +kernel
theorem dX11_triesCodes_31 : decode cX11_triesCodes 31 = .ok (.iconst 0, 1) := by decide +kernel
theorem dX11_triesCodes_32 : decode cX11_triesCodes 32 = .ok (.iastore, 1) := by decide +kernel
theorem dX11_triesCodes_33 : decode cX11_triesCodes 33 = .ok (.iinc 3 1, 3) := by decide +kernel
theorem dX11_triesCodes_36 : decode cX11_triesCodes 36 = .ok (.goto (-27), 3) := by decide +kernel
theorem dX11_triesCodes_39 : decode cX11_triesCodes 39 = .ok (.iconst 0, 1) := by decide +kernel
theorem dX11_triesCodes_40 : decode cX11_triesCodes 40 = .ok (.istore_n 3, 1) := by decide +kernel
theorem dX11_triesCodes_41 : decode cX11_triesCodes 41 = .ok (.iload_n 3, 1) := by decide +kernel
theorem dX11_triesCodes_42 : decode cX11_triesCodes 42 = .ok (.iconst 5, 1) := by decide +kernel
theorem dX11_triesCodes_43 : decode cX11_triesCodes 43 = .ok (.if_icmp .ge 33, 3) := by decide +kernel
theorem dX11_triesCodes_46 : decode cX11_triesCodes 46 = .ok (.aload_n 0, 1) := by decide +kernel
theorem dX11_triesCodes_47 : decode cX11_triesCodes 47 = .ok (.getfield 104, 3) := by decide +kernel
theorem dX11_triesCodes_50 : decode cX11_triesCodes 50 = .ok (.iload_n 3, 1) := by decide +kernel
theorem dX11_triesCodes_51 : decode cX11_triesCodes 51 = .ok (.aload_n 0, 1) := by decide +kernel
theorem dX11_triesCodes_52 : decode cX11_triesCodes 52 = .ok (.getfield 59, 3) := by decide +kernel
theorem dX11_triesCodes_55 : decode cX11_triesCodes 55 = .ok (.iload_n 3, 1) := by decide +kernel
theorem dX11_triesCodes_56 : decode cX11_triesCodes 56 = .ok (.laload, 1) := by decide +kernel
theorem dX11_triesCodes_57 : decode cX11_triesCodes 57 = .ok (.lastore, 1) := by decide +kernel
theorem dX11_triesCodes_58 : decode cX11_triesCodes 58 = .ok (.aload_n 0, 1) := by decide +kernel
theorem dX11_triesCodes_59 : decode cX11_triesCodes 59 = .ok (.getfield 107, 3) := by decide +kernel
theorem dX11_triesCodes_62 : decode cX11_triesCodes 62 = .ok (.iload_n 3, 1) := by decide +kernel
theorem dX11_triesCodes_63 : decode cX11_triesCodes 63 = .ok (.aload_n 0, 1) := by decide +kernel
theorem dX11_triesCodes_64 : decode cX11_triesCodes 64 = .ok (.getfield 62, 3) := by decide +kernel
theorem dX11_triesCodes_67 : decode cX11_triesCodes 67 = .ok (.iload_n 3, 1) := by decide +kernel
theorem dX11_triesCodes_68 : decode cX11_triesCodes 68 = .ok (.laload, 1) := by decide +kernel
theorem dX11_triesCodes_69 : decode cX11_triesCodes 69 = .ok (.lastore, 1) := by decide +kernel
theorem dX11_triesCodes_70 : decode cX11_triesCodes 70 = .ok (.iinc 3 1, 3) := by decide +kernel
theorem dX11_triesCodes_73 : decode cX11_triesCodes 73 = .ok (.goto (-32), 3) := by decide +kernel
theorem dX11_triesCodes_76 : decode cX11_triesCodes 76 = .ok (.aload_n 0, 1) := by decide +kernel
theorem dX11_triesCodes_77 : decode cX11_triesCodes 77 = .ok (.iconst 0, 1) := by decide +kernel
theorem dX11_triesCodes_78 : decode cX11_triesCodes 78 = .ok (.putfield 486, 3) := by decide +kernel
theorem dX11_triesCodes_81 : decode cX11_triesCodes 81 = .ok (.iconst 1, 1) := by decide +kernel
theorem dX11_triesCodes_82 : decode cX11_triesCodes 82 = .ok (.istore_n 3, 1) := by decide +kernel
theorem dX11_triesCodes_83 : decode cX11_triesCodes 83 = .ok (.iload_n 3, 1) := by decide +kernel
theorem dX11_triesCodes_84 : decode cX11_triesCodes 84 = .ok (.ifCond .eq 34, 3) := by decide +kernel
theorem dX11_triesCodes_87 : decode cX11_triesCodes 87 = .ok (.aload_n 0, 1) := by decide +kernel
theorem dX11_triesCodes_88 : decode cX11_triesCodes 88 = .ok (.invokevirtual 329, 3) := by decide +kernel
theorem dX11_triesCodes_91 : decode cX11_triesCodes 91 = .ok (.iconst (-1), 1) := by decide +kernel
theorem dX11_triesCodes_92 : decode cX11_triesCodes 92 = .ok (.if_icmp .ne 16, 3) := by decide +kernel
theorem dX11_triesCodes_95 : decode cX11_triesCodes 95 = .ok (.aload_n 0, 1) := by decide +kernel
theorem dX11_triesCodes_96 : decode cX11_triesCodes 96 = .ok (.invokevirtual 332, 3) := by decide +kernel
theorem dX11_triesCodes_99 : decode cX11_triesCodes 99 = .ok (.iconst (-1), 1) := by decide +kernel
theorem dX11_triesCodes_100 : decode cX11_triesCodes 100 = .ok (.if_icmp .ne 8, 3) := by decide +kernel
theorem dX11_triesCodes_103 : decode cX11_triesCodes 103 = .ok (.aload_n 0, 1) := by decide +kernel
theorem dX11_triesCodes_104 : decode cX11_triesCodes 104 = .ok (.iload_n 2, 1) := by decide +kernel
theorem dX11_triesCodes_105 : decode cX11_triesCodes 105 = .ok (.invokevirtual 489, 3) := by decide +kernel
theorem dX11_triesCodes_108 : decode cX11_triesCodes 108 = .ok (.aload_n 0, 1) := by decide +kernel
theorem dX11_triesCodes_109 : decode cX11_triesCodes 109 = .ok (.iload_n 2, 1) := by decide +kernel
theorem dX11_triesCodes_110 : decode cX11_triesCodes 110 = .ok (.iload_n 1, 1) := by decide +kernel
theorem dX11_triesCodes_111 : decode cX11_triesCodes 111 = .ok (.invokevirtual 492, 3) := by decide +kernel
theorem dX11_triesCodes_114 : decode cX11_triesCodes 114 = .ok (.istore_n 3, 1) := by decide +kernel
theorem dX11_triesCodes_115 : decode cX11_triesCodes 115 = .ok (.goto (-32), 3) := by decide +kernel
theorem dX11_triesCodes_118 : decode cX11_triesCodes 118 = .ok (.iconst 0, 1) := by decide +kernel
theorem dX11_triesCodes_119 : decode cX11_triesCodes 119 = .ok (.istore 4, 2) := by decide +kernel
theorem dX11_triesCodes_121 : decode cX11_triesCodes 121 = .ok (.iload 4, 2) := by decide +kernel
theorem dX11_triesCodes_123 : decode cX11_triesCodes 123 = .ok (.iload_n 2, 1) := by decide +kernel
theorem dX11_triesCodes_124 : decode cX11_triesCodes 124 = .ok (.if_icmp .ge 23, 3) := by decide +kernel
theorem dX11_triesCodes_127 : decode cX11_triesCodes 127 = .ok (.aload_n 0, 1) := by decide +kernel
theorem dX11_triesCodes_128 : decode cX11_triesCodes 128 = .ok (.getfield 31, 3) := by decide +kernel
theorem dX11_triesCodes_131 : decode cX11_triesCodes 131 = .ok (.iload 4, 2) := by decide +kernel
theorem dX11_triesCodes_133 : decode cX11_triesCodes 133 = .ok (.aload_n 0, 1) := by decide +kernel
theorem dX11_triesCodes_134 : decode cX11_triesCodes 134 = .ok (.getfield 98, 3) := by decide +kernel
theorem dX11_triesCodes_137 : decode cX11_triesCodes 137 = .ok (.iload 4, 2) := by decide +kernel
theorem dX11_triesCodes_139 : decode cX11_triesCodes 139 = .ok (.iaload, 1) := by decide +kernel
theorem dX11_triesCodes_140 : decode cX11_triesCodes 140 = .ok (.iastore, 1) := by decide +kernel
theorem dX11_triesCodes_141 : decode cX11_triesCodes 141 = .ok (.iinc 4 1, 3) := by decide +kernel
theorem dX11_triesCodes_144 : decode cX11_triesCodes 144 = .ok (.goto (-23), 3) := by decide +kernel
theorem dX11_triesCodes_147 : decode cX11_triesCodes 147 = .ok (.iconst 0, 1) := by decide +kernel
theorem dX11_triesCodes_148 : decode cX11_triesCodes 148 = .ok (.istore 4, 2) := by decide +kernel
theorem dX11_triesCodes_150 : decode cX11_triesCodes 150 = .ok (.iload 4, 2) := by decide +kernel
theorem dX11_triesCodes_152 : decode cX11_triesCodes 152 = .ok (.iconst 5, 1) := by decide +kernel
theorem dX11_triesCodes_153 : decode cX11_triesCodes 153 = .ok (.if_icmp .ge 37, 3) := by decide +kernel
theorem dX11_triesCodes_156 : decode cX11_triesCodes 156 = .ok (.aload_n 0, 1) := by decide +kernel
theorem dX11_triesCodes_157 : decode cX11_triesCodes 157 = .ok (.getfield 59, 3) := by decide +kernel
theorem dX11_triesCodes_160 : decode cX11_triesCodes 160 = .ok (.iload 4, 2) := by decide +kernel
theorem dX11_triesCodes_162 : decode cX11_triesCodes 162 = .ok (.aload_n 0, 1) := by decide +kernel
theorem dX11_triesCodes_163 : decode cX11_triesCodes 163 = .ok (.getfield 104, 3) := by decide +kernel
theorem dX11_triesCodes_166 : decode cX11_triesCodes 166 = .ok (.iload 4, 2) := by decide +kernel
theorem dX11_triesCodes_168 : decode cX11_triesCodes 168 = .ok (.laload, 1) := by decide +kernel
theorem dX11_triesCodes_169 : decode cX11_triesCodes 169 = .ok (.lastore, 1) := by decide +kernel
theorem dX11_triesCodes_170 : decode cX11_triesCodes 170 = .ok (.aload_n 0, 1) := by decide +kernel
theorem dX11_triesCodes_171 : decode cX11_triesCodes 171 = .ok (.getfield 62, 3) := by decide +kernel
theorem dX11_triesCodes_174 : decode cX11_triesCodes 174 = .ok (.iload 4, 2) := by decide +kernel
theorem dX11_triesCodes_176 : decode cX11_triesCodes 176 = .ok (.aload_n 0, 1) := by decide +kernel
theorem dX11_triesCodes_177 : decode cX11_triesCodes 177 = .ok (.getfield 107, 3) := by decide +kernel
theorem dX11_triesCodes_180 : decode cX11_triesCodes 180 = .ok (.iload 4, 2) := by decide +kernel
theorem dX11_triesCodes_182 : decode cX11_triesCodes 182 = .ok (.laload, 1) := by decide +kernel
theorem dX11_triesCodes_183 : decode cX11_triesCodes 183 = .ok (.lastore, 1) := by decide +kernel
theorem dX11_triesCodes_184 : decode cX11_triesCodes 184 = .ok (.iinc 4 1, 3) := by decide +kernel
theorem dX11_triesCodes_187 : decode cX11_triesCodes 187 = .ok (.goto (-37), 3) := by decide +kernel
theorem dX11_triesCodes_190 : decode cX11_triesCodes 190 = .ok (.return_, 1) := by decide +kernel
theorem dX11_countsWay_0 : decode cX11_countsWay 0 = .ok (.iconst 0, 1) := by decide +kernel
theorem dX11_countsWay_1 : decode cX11_countsWay 1 = .ok (.istore_n 2, 1) := by decide +kernel
theorem dX11_countsWay_2 : decode cX11_countsWay 2 = .ok (.iload_n 2, 1) := by decide +kernel
theorem dX11_countsWay_3 : decode cX11_countsWay 3 = .ok (.iload_n 1, 1) := by decide +kernel
theorem dX11_countsWay_4 : decode cX11_countsWay 4 = .ok (.if_icmp .ge 28, 3) := by decide +kernel
theorem dX11_countsWay_7 : decode cX11_countsWay 7 = .ok (.aload_n 0, 1) := by decide +kernel
theorem dX11_countsWay_8 : decode cX11_countsWay 8 = .ok (.getfield 486, 3) := by decide +kernel
theorem dX11_countsWay_11 : decode cX11_countsWay 11 = .ok (.ifCond .ne 21, 3) := by decide +kernel
theorem dX11_countsWay_14 : decode cX11_countsWay 14 = .ok (.aload_n 0, 1) := by decide +kernel
theorem dX11_countsWay_15 : decode cX11_countsWay 15 = .ok (.getfield 101, 3) := by decide +kernel
theorem dX11_countsWay_18 : decode cX11_countsWay 18 = .ok (.iload_n 2, 1) := by decide +kernel
theorem dX11_countsWay_19 : decode cX11_countsWay 19 = .ok (.aload_n 0, 1) := by decide +kernel
theorem dX11_countsWay_20 : decode cX11_countsWay 20 = .ok (.getfield 31, 3) := by decide +kernel
theorem dX11_countsWay_23 : decode cX11_countsWay 23 = .ok (.iload_n 2, 1) := by decide +kernel
theorem dX11_countsWay_24 : decode cX11_countsWay 24 = .ok (.iaload, 1) := by decide +kernel
theorem dX11_countsWay_25 : decode cX11_countsWay 25 = .ok (.iastore, 1) := by decide +kernel
theorem dX11_countsWay_26 : decode cX11_countsWay 26 = .ok (.iinc 2 1, 3) := by decide +kernel
theorem dX11_countsWay_29 : decode cX11_countsWay 29 = .ok (.goto (-27), 3) := by decide +kernel
theorem dX11_countsWay_32 : decode cX11_countsWay 32 = .ok (.aload_n 0, 1) := by decide +kernel
theorem dX11_countsWay_33 : decode cX11_countsWay 33 = .ok (.dup, 1) := by decide +kernel
theorem dX11_countsWay_34 : decode cX11_countsWay 34 = .ok (.getfield 486, 3) := by decide +kernel
theorem dX11_countsWay_37 : decode cX11_countsWay 37 = .ok (.iconst 1, 1) := by decide +kernel
theorem dX11_countsWay_38 : decode cX11_countsWay 38 = .ok (.iadd, 1) := by decide +kernel
theorem dX11_countsWay_39 : decode cX11_countsWay 39 = .ok (.putfield 486, 3) := by decide +kernel
theorem dX11_countsWay_42 : decode cX11_countsWay 42 = .ok (.return_, 1) := by decide +kernel
theorem dX11_nextCodes_0 : decode cX11_nextCodes 0 = .ok (.iload_n 1, 1) := by decide +kernel
theorem dX11_nextCodes_1 : decode cX11_nextCodes 1 = .ok (.iconst 1, 1) := by decide +kernel
theorem dX11_nextCodes_2 : decode cX11_nextCodes 2 = .ok (.isub, 1) := by decide +kernel
theorem dX11_nextCodes_3 : decode cX11_nextCodes 3 = .ok (.istore_n 3, 1) := by decide +kernel
theorem dX11_nextCodes_4 : decode cX11_nextCodes 4 = .ok (.iload_n 3, 1) := by decide +kernel
theorem dX11_nextCodes_5 : decode cX11_nextCodes 5 = .ok (.ifCond .lt 28, 3) := by decide +kernel
theorem dX11_nextCodes_8 : decode cX11_nextCodes 8 = .ok (.aload_n 0, 1) := by decide +kernel
theorem dX11_nextCodes_9 : decode cX11_nextCodes 9 = .ok (.getfield 31, 3) := by decide +kernel
theorem dX11_nextCodes_12 : decode cX11_nextCodes 12 = .ok (.iload_n 3, 1) := by decide +kernel
theorem dX11_nextCodes_13 : decode cX11_nextCodes 13 = .ok (.iaload, 1) := by decide +kernel
theorem dX11_nextCodes_14 : decode cX11_nextCodes 14 = .ok (.iload_n 2, 1) := by decide +kernel
theorem dX11_nextCodes_15 : decode cX11_nextCodes 15 = .ok (.iconst 1, 1) := by decide +kernel
theorem dX11_nextCodes_16 : decode cX11_nextCodes 16 = .ok (.isub, 1) := by decide +kernel
theorem dX11_nextCodes_17 : decode cX11_nextCodes 17 = .ok (.if_icmp .ne 16, 3) := by decide +kernel
theorem dX11_nextCodes_20 : decode cX11_nextCodes 20 = .ok (.aload_n 0, 1) := by decide +kernel
theorem dX11_nextCodes_21 : decode cX11_nextCodes 21 = .ok (.getfield 31, 3) := by decide +kernel
theorem dX11_nextCodes_24 : decode cX11_nextCodes 24 = .ok (.iload_n 3, 1) := by decide +kernel
theorem dX11_nextCodes_25 : decode cX11_nextCodes 25 = .ok (.iconst 0, 1) := by decide +kernel
theorem dX11_nextCodes_26 : decode cX11_nextCodes 26 = .ok (.iastore, 1) := by decide +kernel
theorem dX11_nextCodes_27 : decode cX11_nextCodes 27 = .ok (.iinc 3 (-1), 3) := by decide +kernel
theorem dX11_nextCodes_30 : decode cX11_nextCodes 30 = .ok (.goto (-26), 3) := by decide +kernel
theorem dX11_nextCodes_33 : decode cX11_nextCodes 33 = .ok (.iload_n 3, 1) := by decide +kernel
theorem dX11_nextCodes_34 : decode cX11_nextCodes 34 = .ok (.ifCond .lt 13, 3) := by decide +kernel
theorem dX11_nextCodes_37 : decode cX11_nextCodes 37 = .ok (.aload_n 0, 1) := by decide +kernel
theorem dX11_nextCodes_38 : decode cX11_nextCodes 38 = .ok (.getfield 31, 3) := by decide +kernel
theorem dX11_nextCodes_41 : decode cX11_nextCodes 41 = .ok (.iload_n 3, 1) := by decide +kernel
theorem dX11_nextCodes_42 : decode cX11_nextCodes 42 = .ok (.dup2, 1) := by decide +kernel
theorem dX11_nextCodes_43 : decode cX11_nextCodes 43 = .ok (.iaload, 1) := by decide +kernel
theorem dX11_nextCodes_44 : decode cX11_nextCodes 44 = .ok (.iconst 1, 1) := by decide +kernel
theorem dX11_nextCodes_45 : decode cX11_nextCodes 45 = .ok (.iadd, 1) := by decide +kernel
theorem dX11_nextCodes_46 : decode cX11_nextCodes 46 = .ok (.iastore, 1) := by decide +kernel
theorem dX11_nextCodes_47 : decode cX11_nextCodes 47 = .ok (.iload_n 3, 1) := by decide +kernel
theorem dX11_nextCodes_48 : decode cX11_nextCodes 48 = .ok (.ifCond .lt 7, 3) := by decide +kernel
theorem dX11_nextCodes_51 : decode cX11_nextCodes 51 = .ok (.iconst 1, 1) := by decide +kernel
theorem dX11_nextCodes_52 : decode cX11_nextCodes 52 = .ok (.goto 4, 3) := by decide +kernel
theorem dX11_nextCodes_55 : decode cX11_nextCodes 55 = .ok (.iconst 0, 1) := by decide +kernel
theorem dX11_nextCodes_56 : decode cX11_nextCodes 56 = .ok (.ireturn, 1) := by decide +kernel
theorem dX11_refusesCodes_0 : decode cX11_refusesCodes 0 = .ok (.iload_n 1, 1) := by decide +kernel
theorem dX11_refusesCodes_1 : decode cX11_refusesCodes 1 = .ok (.ifCond .ne 5, 3) := by decide +kernel
theorem dX11_refusesCodes_4 : decode cX11_refusesCodes 4 = .ok (.iconst 1, 1) := by decide +kernel
theorem dX11_refusesCodes_5 : decode cX11_refusesCodes 5 = .ok (.ireturn, 1) := by decide +kernel
theorem dX11_refusesCodes_6 : decode cX11_refusesCodes 6 = .ok (.aload_n 0, 1) := by decide +kernel
theorem dX11_refusesCodes_7 : decode cX11_refusesCodes 7 = .ok (.getfield 273, 3) := by decide +kernel
theorem dX11_refusesCodes_10 : decode cX11_refusesCodes 10 = .ok (.iconst 1, 1) := by decide +kernel
theorem dX11_refusesCodes_11 : decode cX11_refusesCodes 11 = .ok (.iconst 4, 1) := by decide +kernel
theorem dX11_refusesCodes_12 : decode cX11_refusesCodes 12 = .ok (.invokestatic 138, 3) := by decide +kernel
theorem dX11_refusesCodes_15 : decode cX11_refusesCodes 15 = .ok (.ifCond .eq 5, 3) := by decide +kernel
theorem dX11_refusesCodes_18 : decode cX11_refusesCodes 18 = .ok (.iconst 5, 1) := by decide +kernel
theorem dX11_refusesCodes_19 : decode cX11_refusesCodes 19 = .ok (.ireturn, 1) := by decide +kernel
theorem dX11_refusesCodes_20 : decode cX11_refusesCodes 20 = .ok (.iload_n 2, 1) := by decide +kernel
theorem dX11_refusesCodes_21 : decode cX11_refusesCodes 21 = .ok (.iconst 1, 1) := by decide +kernel
theorem dX11_refusesCodes_22 : decode cX11_refusesCodes 22 = .ok (.iconst 4, 1) := by decide +kernel
theorem dX11_refusesCodes_23 : decode cX11_refusesCodes 23 = .ok (.invokestatic 138, 3) := by decide +kernel
theorem dX11_refusesCodes_26 : decode cX11_refusesCodes 26 = .ok (.ifCond .eq 7, 3) := by decide +kernel
theorem dX11_refusesCodes_29 : decode cX11_refusesCodes 29 = .ok (.iconst 0, 1) := by decide +kernel
theorem dX11_refusesCodes_30 : decode cX11_refusesCodes 30 = .ok (.goto 4, 3) := by decide +kernel
theorem dX11_refusesCodes_33 : decode cX11_refusesCodes 33 = .ok (.iconst 2, 1) := by decide +kernel
theorem dX11_refusesCodes_34 : decode cX11_refusesCodes 34 = .ok (.ireturn, 1) := by decide +kernel
theorem dX11_codings_0 : decode cX11_codings 0 = .ok (.aload_n 0, 1) := by decide +kernel
theorem dX11_codings_1 : decode cX11_codings 1 = .ok (.iconst 0, 1) := by decide +kernel
theorem dX11_codings_2 : decode cX11_codings 2 = .ok (.putfield 3, 3) := by decide +kernel
theorem dX11_codings_5 : decode cX11_codings 5 = .ok (.aload_n 0, 1) := by decide +kernel
theorem dX11_codings_6 : decode cX11_codings 6 = .ok (.aload_n 0, 1) := by decide +kernel
theorem dX11_codings_7 : decode cX11_codings 7 = .ok (.getfield 257, 3) := by decide +kernel
theorem dX11_codings_10 : decode cX11_codings 10 = .ok (.iload_n 1, 1) := by decide +kernel
theorem dX11_codings_11 : decode cX11_codings 11 = .ok (.invokevirtual 495, 3) := by decide +kernel
theorem dX11_codings_14 : decode cX11_codings 14 = .ok (.istore_n 2, 1) := by decide +kernel
theorem dX11_codings_15 : decode cX11_codings 15 = .ok (.iload_n 2, 1) := by decide +kernel
theorem dX11_codings_16 : decode cX11_codings 16 = .ok (.ifCond .le 9, 3) := by decide +kernel
theorem dX11_codings_19 : decode cX11_codings 19 = .ok (.aload_n 0, 1) := by decide +kernel
theorem dX11_codings_20 : decode cX11_codings 20 = .ok (.iload_n 2, 1) := by decide +kernel
theorem dX11_codings_21 : decode cX11_codings 21 = .ok (.invokevirtual 251, 3) := by decide +kernel
theorem dX11_codings_24 : decode cX11_codings 24 = .ok (.ireturn, 1) := by decide +kernel
theorem dX11_codings_25 : decode cX11_codings 25 = .ok (.aload_n 0, 1) := by decide +kernel
theorem dX11_codings_26 : decode cX11_codings 26 = .ok (.iload_n 1, 1) := by decide +kernel
theorem dX11_codings_27 : decode cX11_codings 27 = .ok (.invokevirtual 499, 3) := by decide +kernel
theorem dX11_codings_30 : decode cX11_codings 30 = .ok (.aload_n 0, 1) := by decide +kernel
theorem dX11_codings_31 : decode cX11_codings 31 = .ok (.aload_n 0, 1) := by decide +kernel
theorem dX11_codings_32 : decode cX11_codings 32 = .ok (.getfield 486, 3) := by decide +kernel
theorem dX11_codings_35 : decode cX11_codings 35 = .ok (.invokevirtual 267, 3) := by decide +kernel
theorem dX11_codings_38 : decode cX11_codings 38 = .ok (.ireturn, 1) := by decide +kernel
theorem dX11_coding_0 : decode cX11_coding 0 = .ok (.aload_n 0, 1) := by decide +kernel
theorem dX11_coding_1 : decode cX11_coding 1 = .ok (.iconst 0, 1) := by decide +kernel
theorem dX11_coding_2 : decode cX11_coding 2 = .ok (.putfield 3, 3) := by decide +kernel
theorem dX11_coding_5 : decode cX11_coding 5 = .ok (.aload_n 0, 1) := by decide +kernel
theorem dX11_coding_6 : decode cX11_coding 6 = .ok (.aload_n 0, 1) := by decide +kernel
theorem dX11_coding_7 : decode cX11_coding 7 = .ok (.iload_n 2, 1) := by decide +kernel
theorem dX11_coding_8 : decode cX11_coding 8 = .ok (.invokevirtual 335, 3) := by decide +kernel
theorem dX11_coding_11 : decode cX11_coding 11 = .ok (.iload_n 1, 1) := by decide +kernel
theorem dX11_coding_12 : decode cX11_coding 12 = .ok (.invokevirtual 495, 3) := by decide +kernel
theorem dX11_coding_15 : decode cX11_coding 15 = .ok (.istore_n 3, 1) := by decide +kernel
theorem dX11_coding_16 : decode cX11_coding 16 = .ok (.iload_n 3, 1) := by decide +kernel
theorem dX11_coding_17 : decode cX11_coding 17 = .ok (.ifCond .le 9, 3) := by decide +kernel
theorem dX11_coding_20 : decode cX11_coding 20 = .ok (.aload_n 0, 1) := by decide +kernel
theorem dX11_coding_21 : decode cX11_coding 21 = .ok (.iload_n 3, 1) := by decide +kernel
theorem dX11_coding_22 : decode cX11_coding 22 = .ok (.invokevirtual 251, 3) := by decide +kernel
theorem dX11_coding_25 : decode cX11_coding 25 = .ok (.ireturn, 1) := by decide +kernel
theorem dX11_coding_26 : decode cX11_coding 26 = .ok (.aload_n 0, 1) := by decide +kernel
theorem dX11_coding_27 : decode cX11_coding 27 = .ok (.iload_n 1, 1) := by decide +kernel
theorem dX11_coding_28 : decode cX11_coding 28 = .ok (.invokevirtual 499, 3) := by decide +kernel
theorem dX11_coding_31 : decode cX11_coding 31 = .ok (.aload_n 0, 1) := by decide +kernel
theorem dX11_coding_32 : decode cX11_coding 32 = .ok (.getfield 486, 3) := by decide +kernel
theorem dX11_coding_35 : decode cX11_coding 35 = .ok (.ifCond .ne 11, 3) := by decide +kernel
theorem dX11_coding_38 : decode cX11_coding 38 = .ok (.aload_n 0, 1) := by decide +kernel
theorem dX11_coding_39 : decode cX11_coding 39 = .ok (.iconst 1, 1) := by decide +kernel
theorem dX11_coding_40 : decode cX11_coding 40 = .ok (.invokevirtual 251, 3) := by decide +kernel
theorem dX11_coding_43 : decode cX11_coding 43 = .ok (.goto 13, 3) := by decide +kernel
theorem dX11_coding_46 : decode cX11_coding 46 = .ok (.aload_n 0, 1) := by decide +kernel
theorem dX11_coding_47 : decode cX11_coding 47 = .ok (.aload_n 0, 1) := by decide +kernel
theorem dX11_coding_48 : decode cX11_coding 48 = .ok (.getfield 101, 3) := by decide +kernel
theorem dX11_coding_51 : decode cX11_coding 51 = .ok (.iload_n 2, 1) := by decide +kernel
theorem dX11_coding_52 : decode cX11_coding 52 = .ok (.iaload, 1) := by decide +kernel
theorem dX11_coding_53 : decode cX11_coding 53 = .ok (.invokevirtual 267, 3) := by decide +kernel
theorem dX11_coding_56 : decode cX11_coding 56 = .ok (.ireturn, 1) := by decide +kernel
theorem dX11_remembers_0 : decode cX11_remembers 0 = .ok (.aload_n 0, 1) := by decide +kernel
theorem dX11_remembers_1 : decode cX11_remembers 1 = .ok (.getfield 261, 3) := by decide +kernel
theorem dX11_remembers_4 : decode cX11_remembers 4 = .ok (.bipush 12, 2) := by decide +kernel
theorem dX11_remembers_6 : decode cX11_remembers 6 = .ok (.if_icmp .ne 43, 3) := by decide +kernel
theorem dX11_remembers_9 : decode cX11_remembers 9 = .ok (.iconst 0, 1) := by decide +kernel
theorem dX11_remembers_10 : decode cX11_remembers 10 = .ok (.istore_n 1, 1) := by decide +kernel
theorem dX11_remembers_11 : decode cX11_remembers 11 = .ok (.iload_n 1, 1) := by decide +kernel
theorem dX11_remembers_12 : decode cX11_remembers 12 = .ok (.sipush 968, 3) := by decide +kernel
theorem dX11_remembers_15 : decode cX11_remembers 15 = .ok (.if_icmp .ge 24, 3) := by decide +kernel
theorem dX11_remembers_18 : decode cX11_remembers 18 = .ok (.aload_n 0, 1) := by decide +kernel
theorem dX11_remembers_19 : decode cX11_remembers 19 = .ok (.getfield 43, 3) := by decide +kernel
theorem dX11_remembers_22 : decode cX11_remembers 22 = .ok (.iload_n 1, 1) := by decide +kernel
theorem dX11_remembers_23 : decode cX11_remembers 23 = .ok (.aload_n 0, 1) := by decide +kernel
theorem dX11_remembers_24 : decode cX11_remembers 24 = .ok (.getfield 43, 3) := by decide +kernel
theorem dX11_remembers_27 : decode cX11_remembers 27 = .ok (.iload_n 1, 1) := by decide +kernel
theorem dX11_remembers_28 : decode cX11_remembers 28 = .ok (.bipush 88, 2) := by decide +kernel
theorem dX11_remembers_30 : decode cX11_remembers 30 = .ok (.iadd, 1) := by decide +kernel
theorem dX11_remembers_31 : decode cX11_remembers 31 = .ok (.iaload, 1) := by decide +kernel
theorem dX11_remembers_32 : decode cX11_remembers 32 = .ok (.iastore, 1) := by decide +kernel
theorem dX11_remembers_33 : decode cX11_remembers 33 = .ok (.iinc 1 1, 3) := by decide +kernel
theorem dX11_remembers_36 : decode cX11_remembers 36 = .ok (.goto (-25), 3) := by decide +kernel
theorem dX11_remembers_39 : decode cX11_remembers 39 = .ok (.aload_n 0, 1) := by decide +kernel
theorem dX11_remembers_40 : decode cX11_remembers 40 = .ok (.dup, 1) := by decide +kernel
theorem dX11_remembers_41 : decode cX11_remembers 41 = .ok (.getfield 261, 3) := by decide +kernel
theorem dX11_remembers_44 : decode cX11_remembers 44 = .ok (.iconst 1, 1) := by decide +kernel
theorem dX11_remembers_45 : decode cX11_remembers 45 = .ok (.isub, 1) := by decide +kernel
theorem dX11_remembers_46 : decode cX11_remembers 46 = .ok (.putfield 261, 3) := by decide +kernel
theorem dX11_remembers_49 : decode cX11_remembers 49 = .ok (.iconst 0, 1) := by decide +kernel
theorem dX11_remembers_50 : decode cX11_remembers 50 = .ok (.istore_n 1, 1) := by decide +kernel
theorem dX11_remembers_51 : decode cX11_remembers 51 = .ok (.iload_n 1, 1) := by decide +kernel
theorem dX11_remembers_52 : decode cX11_remembers 52 = .ok (.bipush 88, 2) := by decide +kernel
theorem dX11_remembers_54 : decode cX11_remembers 54 = .ok (.if_icmp .ge 29, 3) := by decide +kernel
theorem dX11_remembers_57 : decode cX11_remembers 57 = .ok (.aload_n 0, 1) := by decide +kernel
theorem dX11_remembers_58 : decode cX11_remembers 58 = .ok (.getfield 43, 3) := by decide +kernel
theorem dX11_remembers_61 : decode cX11_remembers 61 = .ok (.bipush 88, 2) := by decide +kernel
theorem dX11_remembers_63 : decode cX11_remembers 63 = .ok (.aload_n 0, 1) := by decide +kernel
theorem dX11_remembers_64 : decode cX11_remembers 64 = .ok (.getfield 261, 3) := by decide +kernel
theorem dX11_remembers_67 : decode cX11_remembers 67 = .ok (.imul, 1) := by decide +kernel
theorem dX11_remembers_68 : decode cX11_remembers 68 = .ok (.iload_n 1, 1) := by decide +kernel
theorem dX11_remembers_69 : decode cX11_remembers 69 = .ok (.iadd, 1) := by decide +kernel
theorem dX11_remembers_70 : decode cX11_remembers 70 = .ok (.aload_n 0, 1) := by decide +kernel
theorem dX11_remembers_71 : decode cX11_remembers 71 = .ok (.getfield 31, 3) := by decide +kernel
theorem dX11_remembers_74 : decode cX11_remembers 74 = .ok (.iload_n 1, 1) := by decide +kernel
theorem dX11_remembers_75 : decode cX11_remembers 75 = .ok (.iaload, 1) := by decide +kernel
theorem dX11_remembers_76 : decode cX11_remembers 76 = .ok (.iastore, 1) := by decide +kernel
theorem dX11_remembers_77 : decode cX11_remembers 77 = .ok (.iinc 1 1, 3) := by decide +kernel
theorem dX11_remembers_80 : decode cX11_remembers 80 = .ok (.goto (-29), 3) := by decide +kernel
theorem dX11_remembers_83 : decode cX11_remembers 83 = .ok (.aload_n 0, 1) := by decide +kernel
theorem dX11_remembers_84 : decode cX11_remembers 84 = .ok (.dup, 1) := by decide +kernel
theorem dX11_remembers_85 : decode cX11_remembers 85 = .ok (.getfield 261, 3) := by decide +kernel
theorem dX11_remembers_88 : decode cX11_remembers 88 = .ok (.iconst 1, 1) := by decide +kernel
theorem dX11_remembers_89 : decode cX11_remembers 89 = .ok (.iadd, 1) := by decide +kernel
theorem dX11_remembers_90 : decode cX11_remembers 90 = .ok (.putfield 261, 3) := by decide +kernel
theorem dX11_remembers_93 : decode cX11_remembers 93 = .ok (.return_, 1) := by decide +kernel
theorem dX11_done_0 : decode cX11_done 0 = .ok (.aload_n 0, 1) := by decide +kernel
theorem dX11_done_1 : decode cX11_done 1 = .ok (.invokevirtual 264, 3) := by decide +kernel
theorem dX11_done_4 : decode cX11_done 4 = .ok (.aload_n 0, 1) := by decide +kernel
theorem dX11_done_5 : decode cX11_done 5 = .ok (.iload_n 1, 1) := by decide +kernel
theorem dX11_done_6 : decode cX11_done 6 = .ok (.invokevirtual 267, 3) := by decide +kernel
theorem dX11_done_9 : decode cX11_done 9 = .ok (.ireturn, 1) := by decide +kernel
theorem dX11_recode_0 : decode cX11_recode 0 = .ok (.aload_n 0, 1) := by decide +kernel
theorem dX11_recode_1 : decode cX11_recode 1 = .ok (.iconst 0, 1) := by decide +kernel
theorem dX11_recode_2 : decode cX11_recode 2 = .ok (.putfield 3, 3) := by decide +kernel
theorem dX11_recode_5 : decode cX11_recode 5 = .ok (.aload_n 0, 1) := by decide +kernel
theorem dX11_recode_6 : decode cX11_recode 6 = .ok (.iload_n 1, 1) := by decide +kernel
theorem dX11_recode_7 : decode cX11_recode 7 = .ok (.invokevirtual 335, 3) := by decide +kernel
theorem dX11_recode_10 : decode cX11_recode 10 = .ok (.ifCond .ne 9, 3) := by decide +kernel
theorem dX11_recode_13 : decode cX11_recode 13 = .ok (.aload_n 0, 1) := by decide +kernel
theorem dX11_recode_14 : decode cX11_recode 14 = .ok (.iconst 1, 1) := by decide +kernel
theorem dX11_recode_15 : decode cX11_recode 15 = .ok (.invokevirtual 251, 3) := by decide +kernel
theorem dX11_recode_18 : decode cX11_recode 18 = .ok (.ireturn, 1) := by decide +kernel
theorem dX11_recode_19 : decode cX11_recode 19 = .ok (.iload_n 2, 1) := by decide +kernel
theorem dX11_recode_20 : decode cX11_recode 20 = .ok (.iconst 0, 1) := by decide +kernel
theorem dX11_recode_21 : decode cX11_recode 21 = .ok (.iconst 3, 1) := by decide +kernel
theorem dX11_recode_22 : decode cX11_recode 22 = .ok (.invokestatic 138, 3) := by decide +kernel
theorem dX11_recode_25 : decode cX11_recode 25 = .ok (.ifCond .ne 9, 3) := by decide +kernel
theorem dX11_recode_28 : decode cX11_recode 28 = .ok (.aload_n 0, 1) := by decide +kernel
theorem dX11_recode_29 : decode cX11_recode 29 = .ok (.iconst 2, 1) := by decide +kernel
theorem dX11_recode_30 : decode cX11_recode 30 = .ok (.invokevirtual 251, 3) := by decide +kernel
theorem dX11_recode_33 : decode cX11_recode 33 = .ok (.ireturn, 1) := by decide +kernel
theorem dX11_recode_34 : decode cX11_recode 34 = .ok (.aload_n 0, 1) := by decide +kernel
theorem dX11_recode_35 : decode cX11_recode 35 = .ok (.invokevirtual 502, 3) := by decide +kernel
theorem dX11_recode_38 : decode cX11_recode 38 = .ok (.aload_n 0, 1) := by decide +kernel
theorem dX11_recode_39 : decode cX11_recode 39 = .ok (.getfield 31, 3) := by decide +kernel
theorem dX11_recode_42 : decode cX11_recode 42 = .ok (.iload_n 1, 1) := by decide +kernel
theorem dX11_recode_43 : decode cX11_recode 43 = .ok (.iaload, 1) := by decide +kernel
theorem dX11_recode_44 : decode cX11_recode 44 = .ok (.istore_n 3, 1) := by decide +kernel
theorem dX11_recode_45 : decode cX11_recode 45 = .ok (.aload_n 0, 1) := by decide +kernel
theorem dX11_recode_46 : decode cX11_recode 46 = .ok (.getfield 31, 3) := by decide +kernel
theorem dX11_recode_49 : decode cX11_recode 49 = .ok (.iload_n 1, 1) := by decide +kernel
theorem dX11_recode_50 : decode cX11_recode 50 = .ok (.iload_n 2, 1) := by decide +kernel
theorem dX11_recode_51 : decode cX11_recode 51 = .ok (.iastore, 1) := by decide +kernel
theorem dX11_recode_52 : decode cX11_recode 52 = .ok (.aload_n 0, 1) := by decide +kernel
theorem dX11_recode_53 : decode cX11_recode 53 = .ok (.iload_n 3, 1) := by decide +kernel
theorem dX11_recode_54 : decode cX11_recode 54 = .ok (.invokevirtual 505, 3) := by decide +kernel
theorem dX11_recode_57 : decode cX11_recode 57 = .ok (.ireturn, 1) := by decide +kernel
theorem dX11_strike_0 : decode cX11_strike 0 = .ok (.aload_n 0, 1) := by decide +kernel
theorem dX11_strike_1 : decode cX11_strike 1 = .ok (.iconst 0, 1) := by decide +kernel
theorem dX11_strike_2 : decode cX11_strike 2 = .ok (.putfield 3, 3) := by decide +kernel
theorem dX11_strike_5 : decode cX11_strike 5 = .ok (.aload_n 0, 1) := by decide +kernel
theorem dX11_strike_6 : decode cX11_strike 6 = .ok (.iload_n 1, 1) := by decide +kernel
theorem dX11_strike_7 : decode cX11_strike 7 = .ok (.invokevirtual 338, 3) := by decide +kernel
theorem dX11_strike_10 : decode cX11_strike 10 = .ok (.ifCond .ne 9, 3) := by decide +kernel
theorem dX11_strike_13 : decode cX11_strike 13 = .ok (.aload_n 0, 1) := by decide +kernel
theorem dX11_strike_14 : decode cX11_strike 14 = .ok (.iconst 1, 1) := by decide +kernel
theorem dX11_strike_15 : decode cX11_strike 15 = .ok (.invokevirtual 251, 3) := by decide +kernel
theorem dX11_strike_18 : decode cX11_strike 18 = .ok (.ireturn, 1) := by decide +kernel
theorem dX11_strike_19 : decode cX11_strike 19 = .ok (.aload_n 0, 1) := by decide +kernel
theorem dX11_strike_20 : decode cX11_strike 20 = .ok (.invokevirtual 502, 3) := by decide +kernel
theorem dX11_strike_23 : decode cX11_strike 23 = .ok (.bipush 7, 2) := by decide +kernel
theorem dX11_strike_25 : decode cX11_strike 25 = .ok (.bipush 6, 2) := by decide +kernel
theorem dX11_strike_27 : decode cX11_strike 27 = .ok (.iload_n 1, 1) := by decide +kernel
theorem dX11_strike_28 : decode cX11_strike 28 = .ok (.imul, 1) := by decide +kernel
theorem dX11_strike_29 : decode cX11_strike 29 = .ok (.iadd, 1) := by decide +kernel
theorem dX11_strike_30 : decode cX11_strike 30 = .ok (.istore_n 2, 1) := by decide +kernel
theorem dX11_strike_31 : decode cX11_strike 31 = .ok (.iload_n 2, 1) := by decide +kernel
theorem dX11_strike_32 : decode cX11_strike 32 = .ok (.bipush 49, 2) := by decide +kernel
theorem dX11_strike_34 : decode cX11_strike 34 = .ok (.if_icmp .ge 24, 3) := by decide +kernel
theorem dX11_strike_37 : decode cX11_strike 37 = .ok (.aload_n 0, 1) := by decide +kernel
theorem dX11_strike_38 : decode cX11_strike 38 = .ok (.getfield 31, 3) := by decide +kernel
theorem dX11_strike_41 : decode cX11_strike 41 = .ok (.iload_n 2, 1) := by decide +kernel
theorem dX11_strike_42 : decode cX11_strike 42 = .ok (.aload_n 0, 1) := by decide +kernel
theorem dX11_strike_43 : decode cX11_strike 43 = .ok (.getfield 31, 3) := by decide +kernel
theorem dX11_strike_46 : decode cX11_strike 46 = .ok (.iload_n 2, 1) := by decide +kernel
theorem dX11_strike_47 : decode cX11_strike 47 = .ok (.bipush 6, 2) := by decide +kernel
theorem dX11_strike_49 : decode cX11_strike 49 = .ok (.iadd, 1) := by decide +kernel
theorem dX11_strike_50 : decode cX11_strike 50 = .ok (.iaload, 1) := by decide +kernel
theorem dX11_strike_51 : decode cX11_strike 51 = .ok (.iastore, 1) := by decide +kernel
theorem dX11_strike_52 : decode cX11_strike 52 = .ok (.iinc 2 1, 3) := by decide +kernel
theorem dX11_strike_55 : decode cX11_strike 55 = .ok (.goto (-24), 3) := by decide +kernel
theorem dX11_strike_58 : decode cX11_strike 58 = .ok (.aload_n 0, 1) := by decide +kernel
theorem dX11_strike_59 : decode cX11_strike 59 = .ok (.getfield 31, 3) := by decide +kernel
theorem dX11_strike_62 : decode cX11_strike 62 = .ok (.bipush 6, 2) := by decide +kernel
theorem dX11_strike_64 : decode cX11_strike 64 = .ok (.dup2, 1) := by decide +kernel
theorem dX11_strike_65 : decode cX11_strike 65 = .ok (.iaload, 1) := by decide +kernel
theorem dX11_strike_66 : decode cX11_strike 66 = .ok (.iconst 1, 1) := by decide +kernel
theorem dX11_strike_67 : decode cX11_strike 67 = .ok (.isub, 1) := by decide +kernel
theorem dX11_strike_68 : decode cX11_strike 68 = .ok (.iastore, 1) := by decide +kernel
theorem dX11_strike_69 : decode cX11_strike 69 = .ok (.aload_n 0, 1) := by decide +kernel
theorem dX11_strike_70 : decode cX11_strike 70 = .ok (.aload_n 0, 1) := by decide +kernel
theorem dX11_strike_71 : decode cX11_strike 71 = .ok (.getfield 31, 3) := by decide +kernel
theorem dX11_strike_74 : decode cX11_strike 74 = .ok (.bipush 6, 2) := by decide +kernel
theorem dX11_strike_76 : decode cX11_strike 76 = .ok (.iaload, 1) := by decide +kernel
theorem dX11_strike_77 : decode cX11_strike 77 = .ok (.invokevirtual 505, 3) := by decide +kernel
theorem dX11_strike_80 : decode cX11_strike 80 = .ok (.ireturn, 1) := by decide +kernel
theorem dX11_add_0 : decode cX11_add 0 = .ok (.aload_n 0, 1) := by decide +kernel
theorem dX11_add_1 : decode cX11_add 1 = .ok (.iconst 0, 1) := by decide +kernel
theorem dX11_add_2 : decode cX11_add 2 = .ok (.putfield 3, 3) := by decide +kernel
theorem dX11_add_5 : decode cX11_add 5 = .ok (.aload_n 0, 1) := by decide +kernel
theorem dX11_add_6 : decode cX11_add 6 = .ok (.iload_n 1, 1) := by decide +kernel
theorem dX11_add_7 : decode cX11_add 7 = .ok (.invokevirtual 341, 3) := by decide +kernel
theorem dX11_add_10 : decode cX11_add 10 = .ok (.ifCond .ne 9, 3) := by decide +kernel
theorem dX11_add_13 : decode cX11_add 13 = .ok (.aload_n 0, 1) := by decide +kernel
theorem dX11_add_14 : decode cX11_add 14 = .ok (.iconst 1, 1) := by decide +kernel
theorem dX11_add_15 : decode cX11_add 15 = .ok (.invokevirtual 251, 3) := by decide +kernel
theorem dX11_add_18 : decode cX11_add 18 = .ok (.ireturn, 1) := by decide +kernel
theorem dX11_add_19 : decode cX11_add 19 = .ok (.iload_n 2, 1) := by decide +kernel
theorem dX11_add_20 : decode cX11_add 20 = .ok (.iconst 0, 1) := by decide +kernel
theorem dX11_add_21 : decode cX11_add 21 = .ok (.sipush 728, 3) := by decide +kernel
theorem dX11_add_24 : decode cX11_add 24 = .ok (.invokestatic 138, 3) := by decide +kernel
theorem dX11_add_27 : decode cX11_add 27 = .ok (.ifCond .ne 9, 3) := by decide +kernel
theorem dX11_add_30 : decode cX11_add 30 = .ok (.aload_n 0, 1) := by decide +kernel
theorem dX11_add_31 : decode cX11_add 31 = .ok (.iconst 2, 1) := by decide +kernel
theorem dX11_add_32 : decode cX11_add 32 = .ok (.invokevirtual 251, 3) := by decide +kernel
theorem dX11_add_35 : decode cX11_add 35 = .ok (.ireturn, 1) := by decide +kernel
theorem dX11_add_36 : decode cX11_add 36 = .ok (.aload_n 0, 1) := by decide +kernel
theorem dX11_add_37 : decode cX11_add 37 = .ok (.getfield 31, 3) := by decide +kernel
theorem dX11_add_40 : decode cX11_add 40 = .ok (.bipush 55, 2) := by decide +kernel
theorem dX11_add_42 : decode cX11_add 42 = .ok (.iaload, 1) := by decide +kernel
theorem dX11_add_43 : decode cX11_add 43 = .ok (.bipush 16, 2) := by decide +kernel
theorem dX11_add_45 : decode cX11_add 45 = .ok (.if_icmp .ne 9, 3) := by decide +kernel
theorem dX11_add_48 : decode cX11_add 48 = .ok (.aload_n 0, 1) := by decide +kernel
theorem dX11_add_49 : decode cX11_add 49 = .ok (.iconst 3, 1) := by decide +kernel
theorem dX11_add_50 : decode cX11_add 50 = .ok (.invokevirtual 251, 3) := by decide +kernel
theorem dX11_add_53 : decode cX11_add 53 = .ok (.ireturn, 1) := by decide +kernel
theorem dX11_add_54 : decode cX11_add 54 = .ok (.aload_n 0, 1) := by decide +kernel
theorem dX11_add_55 : decode cX11_add 55 = .ok (.invokevirtual 502, 3) := by decide +kernel
theorem dX11_add_58 : decode cX11_add 58 = .ok (.aload_n 0, 1) := by decide +kernel
theorem dX11_add_59 : decode cX11_add 59 = .ok (.getfield 31, 3) := by decide +kernel
theorem dX11_add_62 : decode cX11_add 62 = .ok (.bipush 56, 2) := by decide +kernel
theorem dX11_add_64 : decode cX11_add 64 = .ok (.iconst 2, 1) := by decide +kernel
theorem dX11_add_65 : decode cX11_add 65 = .ok (.aload_n 0, 1) := by decide +kernel
theorem dX11_add_66 : decode cX11_add 66 = .ok (.getfield 31, 3) := by decide +kernel
theorem dX11_add_69 : decode cX11_add 69 = .ok (.bipush 55, 2) := by decide +kernel
theorem dX11_add_71 : decode cX11_add 71 = .ok (.iaload, 1) := by decide +kernel
theorem dX11_add_72 : decode cX11_add 72 = .ok (.imul, 1) := by decide +kernel
theorem dX11_add_73 : decode cX11_add 73 = .ok (.iadd, 1) := by decide +kernel
theorem dX11_add_74 : decode cX11_add 74 = .ok (.iload_n 1, 1) := by decide +kernel
theorem dX11_add_75 : decode cX11_add 75 = .ok (.iastore, 1) := by decide +kernel
theorem dX11_add_76 : decode cX11_add 76 = .ok (.aload_n 0, 1) := by decide +kernel
theorem dX11_add_77 : decode cX11_add 77 = .ok (.getfield 31, 3) := by decide +kernel
theorem dX11_add_80 : decode cX11_add 80 = .ok (.bipush 56, 2) := by decide +kernel
theorem dX11_add_82 : decode cX11_add 82 = .ok (.iconst 2, 1) := by decide +kernel
theorem dX11_add_83 : decode cX11_add 83 = .ok (.aload_n 0, 1) := by decide +kernel
theorem dX11_add_84 : decode cX11_add 84 = .ok (.getfield 31, 3) := by decide +kernel
theorem dX11_add_87 : decode cX11_add 87 = .ok (.bipush 55, 2) := by decide +kernel
theorem dX11_add_89 : decode cX11_add 89 = .ok (.iaload, 1) := by decide +kernel
theorem dX11_add_90 : decode cX11_add 90 = .ok (.imul, 1) := by decide +kernel
theorem dX11_add_91 : decode cX11_add 91 = .ok (.iadd, 1) := by decide +kernel
theorem dX11_add_92 : decode cX11_add 92 = .ok (.iconst 1, 1) := by decide +kernel
theorem dX11_add_93 : decode cX11_add 93 = .ok (.iadd, 1) := by decide +kernel
theorem dX11_add_94 : decode cX11_add 94 = .ok (.iload_n 2, 1) := by decide +kernel
theorem dX11_add_95 : decode cX11_add 95 = .ok (.iastore, 1) := by decide +kernel
theorem dX11_add_96 : decode cX11_add 96 = .ok (.aload_n 0, 1) := by decide +kernel
theorem dX11_add_97 : decode cX11_add 97 = .ok (.getfield 31, 3) := by decide +kernel
theorem dX11_add_100 : decode cX11_add 100 = .ok (.bipush 55, 2) := by decide +kernel
theorem dX11_add_102 : decode cX11_add 102 = .ok (.dup2, 1) := by decide +kernel
theorem dX11_add_103 : decode cX11_add 103 = .ok (.iaload, 1) := by decide +kernel
theorem dX11_add_104 : decode cX11_add 104 = .ok (.iconst 1, 1) := by decide +kernel
theorem dX11_add_105 : decode cX11_add 105 = .ok (.iadd, 1) := by decide +kernel
theorem dX11_add_106 : decode cX11_add 106 = .ok (.iastore, 1) := by decide +kernel
theorem dX11_add_107 : decode cX11_add 107 = .ok (.aload_n 0, 1) := by decide +kernel
theorem dX11_add_108 : decode cX11_add 108 = .ok (.aload_n 0, 1) := by decide +kernel
theorem dX11_add_109 : decode cX11_add 109 = .ok (.getfield 31, 3) := by decide +kernel
theorem dX11_add_112 : decode cX11_add 112 = .ok (.bipush 55, 2) := by decide +kernel
theorem dX11_add_114 : decode cX11_add 114 = .ok (.iaload, 1) := by decide +kernel
theorem dX11_add_115 : decode cX11_add 115 = .ok (.invokevirtual 505, 3) := by decide +kernel
theorem dX11_add_118 : decode cX11_add 118 = .ok (.ireturn, 1) := by decide +kernel
theorem dX11_undo_0 : decode cX11_undo 0 = .ok (.aload_n 0, 1) := by decide +kernel
theorem dX11_undo_1 : decode cX11_undo 1 = .ok (.iconst 0, 1) := by decide +kernel
theorem dX11_undo_2 : decode cX11_undo 2 = .ok (.putfield 3, 3) := by decide +kernel
theorem dX11_undo_5 : decode cX11_undo 5 = .ok (.aload_n 0, 1) := by decide +kernel
theorem dX11_undo_6 : decode cX11_undo 6 = .ok (.getfield 257, 3) := by decide +kernel
theorem dX11_undo_9 : decode cX11_undo 9 = .ok (.ifCond .eq 10, 3) := by decide +kernel
theorem dX11_undo_12 : decode cX11_undo 12 = .ok (.aload_n 0, 1) := by decide +kernel
theorem dX11_undo_13 : decode cX11_undo 13 = .ok (.getfield 261, 3) := by decide +kernel
theorem dX11_undo_16 : decode cX11_undo 16 = .ok (.ifCond .ne 11, 3) := by decide +kernel
theorem dX11_undo_19 : decode cX11_undo 19 = .ok (.aload_n 0, 1) := by decide +kernel
theorem dX11_undo_20 : decode cX11_undo 20 = .ok (.iconst 1, 1) := by decide +kernel
theorem dX11_undo_21 : decode cX11_undo 21 = .ok (.invokevirtual 251, 3) := by decide +kernel
theorem dX11_undo_24 : decode cX11_undo 24 = .ok (.pop, 1) := by decide +kernel
theorem dX11_undo_25 : decode cX11_undo 25 = .ok (.iconst 0, 1) := by decide +kernel
theorem dX11_undo_26 : decode cX11_undo 26 = .ok (.ireturn, 1) := by decide +kernel
theorem dX11_undo_27 : decode cX11_undo 27 = .ok (.aload_n 0, 1) := by decide +kernel
theorem dX11_undo_28 : decode cX11_undo 28 = .ok (.dup, 1) := by decide +kernel
theorem dX11_undo_29 : decode cX11_undo 29 = .ok (.getfield 261, 3) := by decide +kernel
theorem dX11_undo_32 : decode cX11_undo 32 = .ok (.iconst 1, 1) := by decide +kernel
theorem dX11_undo_33 : decode cX11_undo 33 = .ok (.isub, 1) := by decide +kernel
theorem dX11_undo_34 : decode cX11_undo 34 = .ok (.putfield 261, 3) := by decide +kernel
theorem dX11_undo_37 : decode cX11_undo 37 = .ok (.iconst 0, 1) := by decide +kernel
theorem dX11_undo_38 : decode cX11_undo 38 = .ok (.istore_n 1, 1) := by decide +kernel
theorem dX11_undo_39 : decode cX11_undo 39 = .ok (.iload_n 1, 1) := by decide +kernel
theorem dX11_undo_40 : decode cX11_undo 40 = .ok (.bipush 88, 2) := by decide +kernel
theorem dX11_undo_42 : decode cX11_undo 42 = .ok (.if_icmp .ge 29, 3) := by decide +kernel
theorem dX11_undo_45 : decode cX11_undo 45 = .ok (.aload_n 0, 1) := by decide +kernel
theorem dX11_undo_46 : decode cX11_undo 46 = .ok (.getfield 31, 3) := by decide +kernel
theorem dX11_undo_49 : decode cX11_undo 49 = .ok (.iload_n 1, 1) := by decide +kernel
theorem dX11_undo_50 : decode cX11_undo 50 = .ok (.aload_n 0, 1) := by decide +kernel
theorem dX11_undo_51 : decode cX11_undo 51 = .ok (.getfield 43, 3) := by decide +kernel
theorem dX11_undo_54 : decode cX11_undo 54 = .ok (.bipush 88, 2) := by decide +kernel
theorem dX11_undo_56 : decode cX11_undo 56 = .ok (.aload_n 0, 1) := by decide +kernel
theorem dX11_undo_57 : decode cX11_undo 57 = .ok (.getfield 261, 3) := by decide +kernel
theorem dX11_undo_60 : decode cX11_undo 60 = .ok (.imul, 1) := by decide +kernel
theorem dX11_undo_61 : decode cX11_undo 61 = .ok (.iload_n 1, 1) := by decide +kernel
theorem dX11_undo_62 : decode cX11_undo 62 = .ok (.iadd, 1) := by decide +kernel
theorem dX11_undo_63 : decode cX11_undo 63 = .ok (.iaload, 1) := by decide +kernel
theorem dX11_undo_64 : decode cX11_undo 64 = .ok (.iastore, 1) := by decide +kernel
theorem dX11_undo_65 : decode cX11_undo 65 = .ok (.iinc 1 1, 3) := by decide +kernel
theorem dX11_undo_68 : decode cX11_undo 68 = .ok (.goto (-29), 3) := by decide +kernel
theorem dX11_undo_71 : decode cX11_undo 71 = .ok (.aload_n 0, 1) := by decide +kernel
theorem dX11_undo_72 : decode cX11_undo 72 = .ok (.iconst 0, 1) := by decide +kernel
theorem dX11_undo_73 : decode cX11_undo 73 = .ok (.invokevirtual 505, 3) := by decide +kernel
theorem dX11_undo_76 : decode cX11_undo 76 = .ok (.pop, 1) := by decide +kernel
theorem dX11_undo_77 : decode cX11_undo 77 = .ok (.iconst 1, 1) := by decide +kernel
theorem dX11_undo_78 : decode cX11_undo 78 = .ok (.ireturn, 1) := by decide +kernel
theorem dX11_isLast_0 : decode cX11_isLast 0 = .ok (.iconst 0, 1) := by decide +kernel
theorem dX11_isLast_1 : decode cX11_isLast 1 = .ok (.istore_n 2, 1) := by decide +kernel
theorem dX11_isLast_2 : decode cX11_isLast 2 = .ok (.iload_n 2, 1) := by decide +kernel
theorem dX11_isLast_3 : decode cX11_isLast 3 = .ok (.aload_n 0, 1) := by decide +kernel
theorem dX11_isLast_4 : decode cX11_isLast 4 = .ok (.getfield 31, 3) := by decide +kernel
theorem dX11_isLast_7 : decode cX11_isLast 7 = .ok (.bipush 6, 2) := by decide +kernel
theorem dX11_isLast_9 : decode cX11_isLast 9 = .ok (.iaload, 1) := by decide +kernel
theorem dX11_isLast_10 : decode cX11_isLast 10 = .ok (.if_icmp .ge 21, 3) := by decide +kernel
theorem dX11_isLast_13 : decode cX11_isLast 13 = .ok (.aload_n 0, 1) := by decide +kernel
theorem dX11_isLast_14 : decode cX11_isLast 14 = .ok (.iload_n 2, 1) := by decide +kernel
theorem dX11_isLast_15 : decode cX11_isLast 15 = .ok (.iconst 0, 1) := by decide +kernel
theorem dX11_isLast_16 : decode cX11_isLast 16 = .ok (.invokevirtual 270, 3) := by decide +kernel
theorem dX11_isLast_19 : decode cX11_isLast 19 = .ok (.iload_n 1, 1) := by decide +kernel
theorem dX11_isLast_20 : decode cX11_isLast 20 = .ok (.if_icmp .ne 5, 3) := by decide +kernel
theorem dX11_isLast_23 : decode cX11_isLast 23 = .ok (.iconst 0, 1) := by decide +kernel
theorem dX11_isLast_24 : decode cX11_isLast 24 = .ok (.ireturn, 1) := by decide +kernel
theorem dX11_isLast_25 : decode cX11_isLast 25 = .ok (.iinc 2 1, 3) := by decide +kernel
theorem dX11_isLast_28 : decode cX11_isLast 28 = .ok (.goto (-26), 3) := by decide +kernel
theorem dX11_isLast_31 : decode cX11_isLast 31 = .ok (.iconst 1, 1) := by decide +kernel
theorem dX11_isLast_32 : decode cX11_isLast 32 = .ok (.ireturn, 1) := by decide +kernel
theorem dX11_last_0 : decode cX11_last 0 = .ok (.aload_n 0, 1) := by decide +kernel
theorem dX11_last_1 : decode cX11_last 1 = .ok (.iconst 0, 1) := by decide +kernel
theorem dX11_last_2 : decode cX11_last 2 = .ok (.putfield 3, 3) := by decide +kernel
theorem dX11_last_5 : decode cX11_last 5 = .ok (.iconst 0, 1) := by decide +kernel
theorem dX11_last_6 : decode cX11_last 6 = .ok (.istore_n 2, 1) := by decide +kernel
theorem dX11_last_7 : decode cX11_last 7 = .ok (.iconst 0, 1) := by decide +kernel
theorem dX11_last_8 : decode cX11_last 8 = .ok (.istore_n 3, 1) := by decide +kernel
theorem dX11_last_9 : decode cX11_last 9 = .ok (.iload_n 3, 1) := by decide +kernel
theorem dX11_last_10 : decode cX11_last 10 = .ok (.aload_n 0, 1) := by decide +kernel
theorem dX11_last_11 : decode cX11_last 11 = .ok (.getfield 37, 3) := by decide +kernel
theorem dX11_last_14 : decode cX11_last 14 = .ok (.iconst 0, 1) := by decide +kernel
theorem dX11_last_15 : decode cX11_last 15 = .ok (.iaload, 1) := by decide +kernel
theorem dX11_last_16 : decode cX11_last 16 = .ok (.if_icmp .ge 30, 3) := by decide +kernel
theorem dX11_last_19 : decode cX11_last 19 = .ok (.aload_n 0, 1) := by decide +kernel
theorem dX11_last_20 : decode cX11_last 20 = .ok (.iload_n 3, 1) := by decide +kernel
theorem dX11_last_21 : decode cX11_last 21 = .ok (.invokevirtual 508, 3) := by decide +kernel
theorem dX11_last_24 : decode cX11_last 24 = .ok (.ifCond .ne 6, 3) := by decide +kernel
theorem dX11_last_27 : decode cX11_last 27 = .ok (.goto 13, 3) := by decide +kernel
theorem dX11_last_30 : decode cX11_last 30 = .ok (.iload_n 2, 1) := by decide +kernel
theorem dX11_last_31 : decode cX11_last 31 = .ok (.iload_n 1, 1) := by decide +kernel
theorem dX11_last_32 : decode cX11_last 32 = .ok (.if_icmp .ne 5, 3) := by decide +kernel
theorem dX11_last_35 : decode cX11_last 35 = .ok (.iload_n 3, 1) := by decide +kernel
theorem dX11_last_36 : decode cX11_last 36 = .ok (.ireturn, 1) := by decide +kernel
theorem dX11_last_37 : decode cX11_last 37 = .ok (.iinc 2 1, 3) := by decide +kernel
theorem dX11_last_40 : decode cX11_last 40 = .ok (.iinc 3 1, 3) := by decide +kernel
theorem dX11_last_43 : decode cX11_last 43 = .ok (.goto (-34), 3) := by decide +kernel
theorem dX11_last_46 : decode cX11_last 46 = .ok (.aload_n 0, 1) := by decide +kernel
theorem dX11_last_47 : decode cX11_last 47 = .ok (.iconst 1, 1) := by decide +kernel
theorem dX11_last_48 : decode cX11_last 48 = .ok (.putfield 3, 3) := by decide +kernel
theorem dX11_last_51 : decode cX11_last 51 = .ok (.iconst 0, 1) := by decide +kernel
theorem dX11_last_52 : decode cX11_last 52 = .ok (.ireturn, 1) := by decide +kernel
theorem dX11_size_0 : decode cX11_size 0 = .ok (.aload_n 0, 1) := by decide +kernel
theorem dX11_size_1 : decode cX11_size 1 = .ok (.iconst 0, 1) := by decide +kernel
theorem dX11_size_2 : decode cX11_size 2 = .ok (.putfield 3, 3) := by decide +kernel
theorem dX11_size_5 : decode cX11_size 5 = .ok (.iload_n 1, 1) := by decide +kernel
theorem dX11_size_6 : decode cX11_size 6 = .ok (.iconst 4, 1) := by decide +kernel
theorem dX11_size_7 : decode cX11_size 7 = .ok (.if_icmp .ne 8, 3) := by decide +kernel
theorem dX11_size_10 : decode cX11_size 10 = .ok (.aload_n 0, 1) := by decide +kernel
theorem dX11_size_11 : decode cX11_size 11 = .ok (.getfield 248, 3) := by decide +kernel
theorem dX11_size_14 : decode cX11_size 14 = .ok (.ireturn, 1) := by decide +kernel
theorem dX11_size_15 : decode cX11_size 15 = .ok (.iload_n 1, 1) := by decide +kernel
theorem dX11_size_16 : decode cX11_size 16 = .ok (.iconst 0, 1) := by decide +kernel
theorem dX11_size_17 : decode cX11_size 17 = .ok (.iconst 5, 1) := by decide +kernel
theorem dX11_size_18 : decode cX11_size 18 = .ok (.invokestatic 138, 3) := by decide +kernel
theorem dX11_size_21 : decode cX11_size 21 = .ok (.ifCond .ne 5, 3) := by decide +kernel
theorem dX11_size_24 : decode cX11_size 24 = .ok (.iconst (-1), 1) := by decide +kernel
theorem dX11_size_25 : decode cX11_size 25 = .ok (.ireturn, 1) := by decide +kernel
theorem dX11_size_26 : decode cX11_size 26 = .ok (.aload_n 0, 1) := by decide +kernel
theorem dX11_size_27 : decode cX11_size 27 = .ok (.getfield 257, 3) := by decide +kernel
theorem dX11_size_30 : decode cX11_size 30 = .ok (.ifCond .ne 5, 3) := by decide +kernel
theorem dX11_size_33 : decode cX11_size 33 = .ok (.iconst 0, 1) := by decide +kernel
theorem dX11_size_34 : decode cX11_size 34 = .ok (.ireturn, 1) := by decide +kernel
theorem dX11_size_35 : decode cX11_size 35 = .ok (.iload_n 1, 1) := by decide +kernel
theorem dX11_size_36 : decode cX11_size 36 = .ok (.tableswitch 60 0 3 #[32, 39, 47, 55], 32) := by decide +kernel
theorem dX11_size_68 : decode cX11_size 68 = .ok (.aload_n 0, 1) := by decide +kernel
theorem dX11_size_69 : decode cX11_size 69 = .ok (.getfield 37, 3) := by decide +kernel
theorem dX11_size_72 : decode cX11_size 72 = .ok (.iconst 0, 1) := by decide +kernel
theorem dX11_size_73 : decode cX11_size 73 = .ok (.iaload, 1) := by decide +kernel
theorem dX11_size_74 : decode cX11_size 74 = .ok (.ireturn, 1) := by decide +kernel
theorem dX11_size_75 : decode cX11_size 75 = .ok (.aload_n 0, 1) := by decide +kernel
theorem dX11_size_76 : decode cX11_size 76 = .ok (.getfield 31, 3) := by decide +kernel
theorem dX11_size_79 : decode cX11_size 79 = .ok (.bipush 6, 2) := by decide +kernel
theorem dX11_size_81 : decode cX11_size 81 = .ok (.iaload, 1) := by decide +kernel
theorem dX11_size_82 : decode cX11_size 82 = .ok (.ireturn, 1) := by decide +kernel
theorem dX11_size_83 : decode cX11_size 83 = .ok (.aload_n 0, 1) := by decide +kernel
theorem dX11_size_84 : decode cX11_size 84 = .ok (.getfield 31, 3) := by decide +kernel
theorem dX11_size_87 : decode cX11_size 87 = .ok (.bipush 55, 2) := by decide +kernel
theorem dX11_size_89 : decode cX11_size 89 = .ok (.iaload, 1) := by decide +kernel
theorem dX11_size_90 : decode cX11_size 90 = .ok (.ireturn, 1) := by decide +kernel
theorem dX11_size_91 : decode cX11_size 91 = .ok (.aload_n 0, 1) := by decide +kernel
theorem dX11_size_92 : decode cX11_size 92 = .ok (.getfield 261, 3) := by decide +kernel
theorem dX11_size_95 : decode cX11_size 95 = .ok (.ireturn, 1) := by decide +kernel
theorem dX11_size_96 : decode cX11_size 96 = .ok (.aload_n 0, 1) := by decide +kernel
theorem dX11_size_97 : decode cX11_size 97 = .ok (.getfield 37, 3) := by decide +kernel
theorem dX11_size_100 : decode cX11_size 100 = .ok (.iconst 1, 1) := by decide +kernel
theorem dX11_size_101 : decode cX11_size 101 = .ok (.iaload, 1) := by decide +kernel
theorem dX11_size_102 : decode cX11_size 102 = .ok (.ireturn, 1) := by decide +kernel
theorem dX11_trouble_0 : decode cX11_trouble 0 = .ok (.aload_n 0, 1) := by decide +kernel
theorem dX11_trouble_1 : decode cX11_trouble 1 = .ok (.iconst 0, 1) := by decide +kernel
theorem dX11_trouble_2 : decode cX11_trouble 2 = .ok (.putfield 3, 3) := by decide +kernel
theorem dX11_trouble_5 : decode cX11_trouble 5 = .ok (.aload_n 0, 1) := by decide +kernel
theorem dX11_trouble_6 : decode cX11_trouble 6 = .ok (.getfield 7, 3) := by decide +kernel
theorem dX11_trouble_9 : decode cX11_trouble 9 = .ok (.ireturn, 1) := by decide +kernel
