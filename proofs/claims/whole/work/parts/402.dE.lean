theorem dX6_digit_0 : decode cX6_digit 0 = .ok (.aload_n 0, 1) := by decide +kernel
theorem dX6_digit_1 : decode cX6_digit 1 = .ok (.getfield 27, 3) := by decide +kernel
theorem dX6_digit_4 : decode cX6_digit 4 = .ok (.iload_n 1, 1) := by decide +kernel
theorem dX6_digit_5 : decode cX6_digit 5 = .ok (.iload_n 2, 1) := by decide +kernel
theorem dX6_digit_6 : decode cX6_digit 6 = .ok (.iadd, 1) := by decide +kernel
theorem dX6_digit_7 : decode cX6_digit 7 = .ok (.iaload, 1) := by decide +kernel
theorem dX6_digit_8 : decode cX6_digit 8 = .ok (.i2l, 1) := by decide +kernel
theorem dX6_digit_9 : decode cX6_digit 9 = .ok (.bipush 31, 2) := by decide +kernel
theorem dX6_digit_11 : decode cX6_digit 11 = .ok (.lshl, 1) := by decide +kernel
theorem dX6_digit_12 : decode cX6_digit 12 = .ok (.aload_n 0, 1) := by decide +kernel
theorem dX6_digit_13 : decode cX6_digit 13 = .ok (.getfield 27, 3) := by decide +kernel
theorem dX6_digit_16 : decode cX6_digit 16 = .ok (.iload_n 1, 1) := by decide +kernel
theorem dX6_digit_17 : decode cX6_digit 17 = .ok (.iload_n 2, 1) := by decide +kernel
theorem dX6_digit_18 : decode cX6_digit 18 = .ok (.iadd, 1) := by decide +kernel
theorem dX6_digit_19 : decode cX6_digit 19 = .ok (.iconst 1, 1) := by decide +kernel
theorem dX6_digit_20 : decode cX6_digit 20 = .ok (.isub, 1) := by decide +kernel
theorem dX6_digit_21 : decode cX6_digit 21 = .ok (.iaload, 1) := by decide +kernel
theorem dX6_digit_22 : decode cX6_digit 22 = .ok (.i2l, 1) := by decide +kernel
theorem dX6_digit_23 : decode cX6_digit 23 = .ok (.ladd, 1) := by decide +kernel
theorem dX6_digit_24 : decode cX6_digit 24 = .ok (.lstore_n 3, 1) := by decide +kernel
theorem dX6_digit_25 : decode cX6_digit 25 = .ok (.lload_n 3, 1) := by decide +kernel
theorem dX6_digit_26 : decode cX6_digit 26 = .ok (.aload_n 0, 1) := by decide +kernel
theorem dX6_digit_27 : decode cX6_digit 27 = .ok (.getfield 30, 3) := by decide +kernel
theorem dX6_digit_30 : decode cX6_digit 30 = .ok (.iload_n 2, 1) := by decide +kernel
theorem dX6_digit_31 : decode cX6_digit 31 = .ok (.iconst 1, 1) := by decide +kernel
theorem dX6_digit_32 : decode cX6_digit 32 = .ok (.isub, 1) := by decide +kernel
theorem dX6_digit_33 : decode cX6_digit 33 = .ok (.iaload, 1) := by decide +kernel
theorem dX6_digit_34 : decode cX6_digit 34 = .ok (.i2l, 1) := by decide +kernel
theorem dX6_digit_35 : decode cX6_digit 35 = .ok (.ldiv, 1) := by decide +kernel
theorem dX6_digit_36 : decode cX6_digit 36 = .ok (.lstore 5, 2) := by decide +kernel
theorem dX6_digit_38 : decode cX6_digit 38 = .ok (.lload_n 3, 1) := by decide +kernel
theorem dX6_digit_39 : decode cX6_digit 39 = .ok (.aload_n 0, 1) := by decide +kernel
theorem dX6_digit_40 : decode cX6_digit 40 = .ok (.getfield 30, 3) := by decide +kernel
theorem dX6_digit_43 : decode cX6_digit 43 = .ok (.iload_n 2, 1) := by decide +kernel
theorem dX6_digit_44 : decode cX6_digit 44 = .ok (.iconst 1, 1) := by decide +kernel
theorem dX6_digit_45 : decode cX6_digit 45 = .ok (.isub, 1) := by decide +kernel
theorem dX6_digit_46 : decode cX6_digit 46 = .ok (.iaload, 1) := by decide +kernel
theorem dX6_digit_47 : decode cX6_digit 47 = .ok (.i2l, 1) := by decide +kernel
theorem dX6_digit_48 : decode cX6_digit 48 = .ok (.lrem, 1) := by decide +kernel
theorem dX6_digit_49 : decode cX6_digit 49 = .ok (.lstore 7, 2) := by decide +kernel
theorem dX6_digit_51 : decode cX6_digit 51 = .ok (.iconst 1, 1) := by decide +kernel
theorem dX6_digit_52 : decode cX6_digit 52 = .ok (.istore 9, 2) := by decide +kernel
theorem dX6_digit_54 : decode cX6_digit 54 = .ok (.iload 9, 2) := by decide +kernel
theorem dX6_digit_56 : decode cX6_digit 56 = .ok (.ifCond .eq 94, 3) := by decide +kernel
theorem dX6_digit_59 : decode cX6_digit 59 = .ok (.lload 7, 2) := by decide +kernel
theorem dX6_digit_61 : decode cX6_digit 61 = .ok (.ldc2_w 77, 3) := by decide +kernel
theorem dX6_digit_64 : decode cX6_digit 64 = .ok (.lcmp, 1) := by decide +kernel
theorem dX6_digit_65 : decode cX6_digit 65 = .ok (.ifCond .ge 85, 3) := by decide +kernel
theorem dX6_digit_68 : decode cX6_digit 68 = .ok (.lload 5, 2) := by decide +kernel
theorem dX6_digit_70 : decode cX6_digit 70 = .ok (.ldc2_w 77, 3) := by decide +kernel
theorem dX6_digit_73 : decode cX6_digit 73 = .ok (.lcmp, 1) := by decide +kernel
theorem dX6_digit_74 : decode cX6_digit 74 = .ok (.ifCond .ge 41, 3) := by decide +kernel
theorem dX6_digit_77 : decode cX6_digit 77 = .ok (.iload_n 2, 1) := by decide +kernel
theorem dX6_digit_78 : decode cX6_digit 78 = .ok (.iconst 1, 1) := by decide +kernel
theorem dX6_digit_79 : decode cX6_digit 79 = .ok (.if_icmp .le 40, 3) := by decide +kernel
theorem dX6_digit_82 : decode cX6_digit 82 = .ok (.lload 5, 2) := by decide +kernel
theorem dX6_digit_84 : decode cX6_digit 84 = .ok (.aload_n 0, 1) := by decide +kernel
theorem dX6_digit_85 : decode cX6_digit 85 = .ok (.getfield 30, 3) := by decide +kernel
theorem dX6_digit_88 : decode cX6_digit 88 = .ok (.iload_n 2, 1) := by decide +kernel
theorem dX6_digit_89 : decode cX6_digit 89 = .ok (.iconst 2, 1) := by decide +kernel
theorem dX6_digit_90 : decode cX6_digit 90 = .ok (.isub, 1) := by decide +kernel
theorem dX6_digit_91 : decode cX6_digit 91 = .ok (.iaload, 1) := by decide +kernel
theorem dX6_digit_92 : decode cX6_digit 92 = .ok (.i2l, 1) := by decide +kernel
theorem dX6_digit_93 : decode cX6_digit 93 = .ok (.lmul, 1) := by decide +kernel
theorem dX6_digit_94 : decode cX6_digit 94 = .ok (.lload 7, 2) := by decide +kernel
theorem dX6_digit_96 : decode cX6_digit 96 = .ok (.bipush 31, 2) := by decide +kernel
theorem dX6_digit_98 : decode cX6_digit 98 = .ok (.lshl, 1) := by decide +kernel
theorem dX6_digit_99 : decode cX6_digit 99 = .ok (.aload_n 0, 1) := by decide +kernel
theorem dX6_digit_100 : decode cX6_digit 100 = .ok (.getfield 27, 3) := by decide +kernel
theorem dX6_digit_103 : decode cX6_digit 103 = .ok (.iload_n 1, 1) := by decide +kernel
theorem dX6_digit_104 : decode cX6_digit 104 = .ok (.iload_n 2, 1) := by decide +kernel
theorem dX6_digit_105 : decode cX6_digit 105 = .ok (.iadd, 1) := by decide +kernel
theorem dX6_digit_106 : decode cX6_digit 106 = .ok (.iconst 2, 1) := by decide +kernel
theorem dX6_digit_107 : decode cX6_digit 107 = .ok (.isub, 1) := by decide +kernel
theorem dX6_digit_108 : decode cX6_digit 108 = .ok (.iaload, 1) := by decide +kernel
theorem dX6_digit_109 : decode cX6_digit 109 = .ok (.i2l, 1) := by decide +kernel
theorem dX6_digit_110 : decode cX6_digit 110 = .ok (.ladd, 1) := by decide +kernel
theorem dX6_digit_111 : decode cX6_digit 111 = .ok (.lcmp, 1) := by decide +kernel
theorem dX6_digit_112 : decode cX6_digit 112 = .ok (.ifCond .le 7, 3) := by decide +kernel
theorem dX6_digit_115 : decode cX6_digit 115 = .ok (.iconst 1, 1) := by decide +kernel
theorem dX6_digit_116 : decode cX6_digit 116 = .ok (.goto 4, 3) := by decide +kernel
theorem dX6_digit_119 : decode cX6_digit 119 = .ok (.iconst 0, 1) := by decide +kernel
theorem dX6_digit_120 : decode cX6_digit 120 = .ok (.istore 9, 2) := by decide +kernel
theorem dX6_digit_122 : decode cX6_digit 122 = .ok (.iload 9, 2) := by decide +kernel
theorem dX6_digit_124 : decode cX6_digit 124 = .ok (.ifCond .eq (-70), 3) := by decide +kernel
theorem dX6_digit_127 : decode cX6_digit 127 = .ok (.lload 5, 2) := by decide +kernel
theorem dX6_digit_129 : decode cX6_digit 129 = .ok (.lconst 1, 1) := by decide +kernel
theorem dX6_digit_130 : decode cX6_digit 130 = .ok (.lsub, 1) := by decide +kernel
theorem dX6_digit_131 : decode cX6_digit 131 = .ok (.lstore 5, 2) := by decide +kernel
theorem dX6_digit_133 : decode cX6_digit 133 = .ok (.lload 7, 2) := by decide +kernel
theorem dX6_digit_135 : decode cX6_digit 135 = .ok (.aload_n 0, 1) := by decide +kernel
theorem dX6_digit_136 : decode cX6_digit 136 = .ok (.getfield 30, 3) := by decide +kernel
theorem dX6_digit_139 : decode cX6_digit 139 = .ok (.iload_n 2, 1) := by decide +kernel
theorem dX6_digit_140 : decode cX6_digit 140 = .ok (.iconst 1, 1) := by decide +kernel
theorem dX6_digit_141 : decode cX6_digit 141 = .ok (.isub, 1) := by decide +kernel
theorem dX6_digit_142 : decode cX6_digit 142 = .ok (.iaload, 1) := by decide +kernel
theorem dX6_digit_143 : decode cX6_digit 143 = .ok (.i2l, 1) := by decide +kernel
theorem dX6_digit_144 : decode cX6_digit 144 = .ok (.ladd, 1) := by decide +kernel
theorem dX6_digit_145 : decode cX6_digit 145 = .ok (.lstore 7, 2) := by decide +kernel
theorem dX6_digit_147 : decode cX6_digit 147 = .ok (.goto (-93), 3) := by decide +kernel
theorem dX6_digit_150 : decode cX6_digit 150 = .ok (.lconst 0, 1) := by decide +kernel
theorem dX6_digit_151 : decode cX6_digit 151 = .ok (.lstore 10, 2) := by decide +kernel
theorem dX6_digit_153 : decode cX6_digit 153 = .ok (.lconst 0, 1) := by decide +kernel
theorem dX6_digit_154 : decode cX6_digit 154 = .ok (.lstore 12, 2) := by decide +kernel
theorem dX6_digit_156 : decode cX6_digit 156 = .ok (.iconst 0, 1) := by decide +kernel
theorem dX6_digit_157 : decode cX6_digit 157 = .ok (.istore 14, 2) := by decide +kernel
theorem dX6_digit_159 : decode cX6_digit 159 = .ok (.iload 14, 2) := by decide +kernel
theorem dX6_digit_161 : decode cX6_digit 161 = .ok (.iload_n 2, 1) := by decide +kernel
theorem dX6_digit_162 : decode cX6_digit 162 = .ok (.if_icmp .ge 96, 3) := by decide +kernel
theorem dX6_digit_165 : decode cX6_digit 165 = .ok (.lload 5, 2) := by decide +kernel
theorem dX6_digit_167 : decode cX6_digit 167 = .ok (.aload_n 0, 1) := by decide +kernel
theorem dX6_digit_168 : decode cX6_digit 168 = .ok (.getfield 30, 3) := by decide +kernel
theorem dX6_digit_171 : decode cX6_digit 171 = .ok (.iload 14, 2) := by decide +kernel
theorem dX6_digit_173 : decode cX6_digit 173 = .ok (.iaload, 1) := by decide +kernel
theorem dX6_digit_174 : decode cX6_digit 174 = .ok (.i2l, 1) := by decide +kernel
theorem dX6_digit_175 : decode cX6_digit 175 = .ok (.lmul, 1) := by decide +kernel
theorem dX6_digit_176 : decode cX6_digit 176 = .ok (.lload 10, 2) := by decide +kernel
theorem dX6_digit_178 : decode cX6_digit 178 = .ok (.ladd, 1) := by decide +kernel
theorem dX6_digit_179 : decode cX6_digit 179 = .ok (.lstore 15, 2) := by decide +kernel
theorem dX6_digit_181 : decode cX6_digit 181 = .ok (.lload 15, 2) := by decide +kernel
theorem dX6_digit_183 : decode cX6_digit 183 = .ok (.bipush 31, 2) := by decide +kernel
theorem dX6_digit_185 : decode cX6_digit 185 = .ok (.lshr, 1) := by decide +kernel
theorem dX6_digit_186 : decode cX6_digit 186 = .ok (.lstore 10, 2) := by decide +kernel
theorem dX6_digit_188 : decode cX6_digit 188 = .ok (.aload_n 0, 1) := by decide +kernel
theorem dX6_digit_189 : decode cX6_digit 189 = .ok (.getfield 27, 3) := by decide +kernel
theorem dX6_digit_192 : decode cX6_digit 192 = .ok (.iload 14, 2) := by decide +kernel
theorem dX6_digit_194 : decode cX6_digit 194 = .ok (.iload_n 1, 1) := by decide +kernel
theorem dX6_digit_195 : decode cX6_digit 195 = .ok (.iadd, 1) := by decide +kernel
theorem dX6_digit_196 : decode cX6_digit 196 = .ok (.iaload, 1) := by decide +kernel
theorem dX6_digit_197 : decode cX6_digit 197 = .ok (.i2l, 1) := by decide +kernel
theorem dX6_digit_198 : decode cX6_digit 198 = .ok (.lload 15, 2) := by decide +kernel
theorem dX6_digit_200 : decode cX6_digit 200 = .ok (.ldc2_w 75, 3) := by decide +kernel
theorem dX6_digit_203 : decode cX6_digit 203 = .ok (.land, 1) := by decide +kernel
theorem dX6_digit_204 : decode cX6_digit 204 = .ok (.lsub, 1) := by decide +kernel
theorem dX6_digit_205 : decode cX6_digit 205 = .ok (.lload 12, 2) := by decide +kernel
theorem dX6_digit_207 : decode cX6_digit 207 = .ok (.lsub, 1) := by decide +kernel
theorem dX6_digit_208 : decode cX6_digit 208 = .ok (.lstore 17, 2) := by decide +kernel
theorem dX6_digit_210 : decode cX6_digit 210 = .ok (.lload 17, 2) := by decide +kernel
theorem dX6_digit_212 : decode cX6_digit 212 = .ok (.lconst 0, 1) := by decide +kernel
theorem dX6_digit_213 : decode cX6_digit 213 = .ok (.lcmp, 1) := by decide +kernel
theorem dX6_digit_214 : decode cX6_digit 214 = .ok (.ifCond .ge 7, 3) := by decide +kernel
theorem dX6_digit_217 : decode cX6_digit 217 = .ok (.lconst 1, 1) := by decide +kernel
theorem dX6_digit_218 : decode cX6_digit 218 = .ok (.goto 4, 3) := by decide +kernel
theorem dX6_digit_221 : decode cX6_digit 221 = .ok (.lconst 0, 1) := by decide +kernel
theorem dX6_digit_222 : decode cX6_digit 222 = .ok (.lstore 12, 2) := by decide +kernel
theorem dX6_digit_224 : decode cX6_digit 224 = .ok (.aload_n 0, 1) := by decide +kernel
theorem dX6_digit_225 : decode cX6_digit 225 = .ok (.getfield 27, 3) := by decide +kernel
theorem dX6_digit_228 : decode cX6_digit 228 = .ok (.iload 14, 2) := by decide +kernel
theorem dX6_digit_230 : decode cX6_digit 230 = .ok (.iload_n 1, 1) := by decide +kernel
theorem dX6_digit_231 : decode cX6_digit 231 = .ok (.iadd, 1) := by decide +kernel
theorem dX6_digit_232 : decode cX6_digit 232 = .ok (.lload 17, 2) := by decide +kernel
theorem dX6_digit_234 : decode cX6_digit 234 = .ok (.lconst 0, 1) := by decide +kernel
theorem dX6_digit_235 : decode cX6_digit 235 = .ok (.lcmp, 1) := by decide +kernel
theorem dX6_digit_236 : decode cX6_digit 236 = .ok (.ifCond .ge 12, 3) := by decide +kernel
theorem dX6_digit_239 : decode cX6_digit 239 = .ok (.lload 17, 2) := by decide +kernel
theorem dX6_digit_241 : decode cX6_digit 241 = .ok (.ldc2_w 77, 3) := by decide +kernel
theorem dX6_digit_244 : decode cX6_digit 244 = .ok (.ladd, 1) := by decide +kernel
theorem dX6_digit_245 : decode cX6_digit 245 = .ok (.goto 5, 3) := by decide +kernel
theorem dX6_digit_248 : decode cX6_digit 248 = .ok (.lload 17, 2) := by decide +kernel
theorem dX6_digit_250 : decode cX6_digit 250 = .ok (.l2i, 1) := by decide +kernel
theorem dX6_digit_251 : decode cX6_digit 251 = .ok (.iastore, 1) := by decide +kernel
theorem dX6_digit_252 : decode cX6_digit 252 = .ok (.iinc 14 1, 3) := by decide +kernel
theorem dX6_digit_255 : decode cX6_digit 255 = .ok (.goto (-96), 3) := by decide +kernel
theorem dX6_digit_258 : decode cX6_digit 258 = .ok (.aload_n 0, 1) := by decide +kernel
theorem dX6_digit_259 : decode cX6_digit 259 = .ok (.getfield 27, 3) := by decide +kernel
theorem dX6_digit_262 : decode cX6_digit 262 = .ok (.iload_n 1, 1) := by decide +kernel
theorem dX6_digit_263 : decode cX6_digit 263 = .ok (.iload_n 2, 1) := by decide +kernel
theorem dX6_digit_264 : decode cX6_digit 264 = .ok (.iadd, 1) := by decide +kernel
theorem dX6_digit_265 : decode cX6_digit 265 = .ok (.iaload, 1) := by decide +kernel
theorem dX6_digit_266 : decode cX6_digit 266 = .ok (.i2l, 1) := by decide +kernel
theorem dX6_digit_267 : decode cX6_digit 267 = .ok (.lload 10, 2) := by decide +kernel
theorem dX6_digit_269 : decode cX6_digit 269 = .ok (.lsub, 1) := by decide +kernel
theorem dX6_digit_270 : decode cX6_digit 270 = .ok (.lload 12, 2) := by decide +kernel
theorem dX6_digit_272 : decode cX6_digit 272 = .ok (.lsub, 1) := by decide +kernel
theorem dX6_digit_273 : decode cX6_digit 273 = .ok (.lstore 14, 2) := by decide +kernel
theorem dX6_digit_275 : decode cX6_digit 275 = .ok (.lload 14, 2) := by decide +kernel
theorem dX6_digit_277 : decode cX6_digit 277 = .ok (.lconst 0, 1) := by decide +kernel
theorem dX6_digit_278 : decode cX6_digit 278 = .ok (.lcmp, 1) := by decide +kernel
theorem dX6_digit_279 : decode cX6_digit 279 = .ok (.ifCond .ge 81, 3) := by decide +kernel
theorem dX6_digit_282 : decode cX6_digit 282 = .ok (.lload 5, 2) := by decide +kernel
theorem dX6_digit_284 : decode cX6_digit 284 = .ok (.lconst 1, 1) := by decide +kernel
theorem dX6_digit_285 : decode cX6_digit 285 = .ok (.lsub, 1) := by decide +kernel
theorem dX6_digit_286 : decode cX6_digit 286 = .ok (.lstore 5, 2) := by decide +kernel
theorem dX6_digit_288 : decode cX6_digit 288 = .ok (.lconst 0, 1) := by decide +kernel
theorem dX6_digit_289 : decode cX6_digit 289 = .ok (.lstore 16, 2) := by decide +kernel
theorem dX6_digit_291 : decode cX6_digit 291 = .ok (.iconst 0, 1) := by decide +kernel
theorem dX6_digit_292 : decode cX6_digit 292 = .ok (.istore 18, 2) := by decide +kernel
theorem dX6_digit_294 : decode cX6_digit 294 = .ok (.iload 18, 2) := by decide +kernel
theorem dX6_digit_296 : decode cX6_digit 296 = .ok (.iload_n 2, 1) := by decide +kernel
theorem dX6_digit_297 : decode cX6_digit 297 = .ok (.if_icmp .ge 56, 3) := by decide +kernel
theorem dX6_digit_300 : decode cX6_digit 300 = .ok (.aload_n 0, 1) := by decide +kernel
theorem dX6_digit_301 : decode cX6_digit 301 = .ok (.getfield 27, 3) := by decide +kernel
theorem dX6_digit_304 : decode cX6_digit 304 = .ok (.iload 18, 2) := by decide +kernel
theorem dX6_digit_306 : decode cX6_digit 306 = .ok (.iload_n 1, 1) := by decide +kernel
theorem dX6_digit_307 : decode cX6_digit 307 = .ok (.iadd, 1) := by decide +kernel
theorem dX6_digit_308 : decode cX6_digit 308 = .ok (.iaload, 1) := by decide +kernel
theorem dX6_digit_309 : decode cX6_digit 309 = .ok (.i2l, 1) := by decide +kernel
theorem dX6_digit_310 : decode cX6_digit 310 = .ok (.aload_n 0, 1) := by decide +kernel
theorem dX6_digit_311 : decode cX6_digit 311 = .ok (.getfield 30, 3) := by decide +kernel
theorem dX6_digit_314 : decode cX6_digit 314 = .ok (.iload 18, 2) := by decide +kernel
theorem dX6_digit_316 : decode cX6_digit 316 = .ok (.iaload, 1) := by decide +kernel
theorem dX6_digit_317 : decode cX6_digit 317 = .ok (.i2l, 1) := by decide +kernel
theorem dX6_digit_318 : decode cX6_digit 318 = .ok (.ladd, 1) := by decide +kernel
theorem dX6_digit_319 : decode cX6_digit 319 = .ok (.lload 16, 2) := by decide +kernel
theorem dX6_digit_321 : decode cX6_digit 321 = .ok (.ladd, 1) := by decide +kernel
theorem dX6_digit_322 : decode cX6_digit 322 = .ok (.lstore 19, 2) := by decide +kernel
theorem dX6_digit_324 : decode cX6_digit 324 = .ok (.lload 19, 2) := by decide +kernel
theorem dX6_digit_326 : decode cX6_digit 326 = .ok (.bipush 31, 2) := by decide +kernel
theorem dX6_digit_328 : decode cX6_digit 328 = .ok (.lshr, 1) := by decide +kernel
theorem dX6_digit_329 : decode cX6_digit 329 = .ok (.lstore 16, 2) := by decide +kernel
theorem dX6_digit_331 : decode cX6_digit 331 = .ok (.aload_n 0, 1) := by decide +kernel
theorem dX6_digit_332 : decode cX6_digit 332 = .ok (.getfield 27, 3) := by decide +kernel
theorem dX6_digit_335 : decode cX6_digit 335 = .ok (.iload 18, 2) := by decide +kernel
theorem dX6_digit_337 : decode cX6_digit 337 = .ok (.iload_n 1, 1) := by decide +kernel
theorem dX6_digit_338 : decode cX6_digit 338 = .ok (.iadd, 1) := by decide +kernel
theorem dX6_digit_339 : decode cX6_digit 339 = .ok (.lload 19, 2) := by decide +kernel
theorem dX6_digit_341 : decode cX6_digit 341 = .ok (.ldc2_w 75, 3) := by decide +kernel
theorem dX6_digit_344 : decode cX6_digit 344 = .ok (.land, 1) := by decide +kernel
theorem dX6_digit_345 : decode cX6_digit 345 = .ok (.l2i, 1) := by decide +kernel
theorem dX6_digit_346 : decode cX6_digit 346 = .ok (.iastore, 1) := by decide +kernel
theorem dX6_digit_347 : decode cX6_digit 347 = .ok (.iinc 18 1, 3) := by decide +kernel
theorem dX6_digit_350 : decode cX6_digit 350 = .ok (.goto (-56), 3) := by decide +kernel
theorem dX6_digit_353 : decode cX6_digit 353 = .ok (.lload 14, 2) := by decide +kernel
theorem dX6_digit_355 : decode cX6_digit 355 = .ok (.lload 16, 2) := by decide +kernel
theorem dX6_digit_357 : decode cX6_digit 357 = .ok (.ladd, 1) := by decide +kernel
theorem dX6_digit_358 : decode cX6_digit 358 = .ok (.lstore 14, 2) := by decide +kernel
theorem dX6_digit_360 : decode cX6_digit 360 = .ok (.aload_n 0, 1) := by decide +kernel
theorem dX6_digit_361 : decode cX6_digit 361 = .ok (.getfield 27, 3) := by decide +kernel
theorem dX6_digit_364 : decode cX6_digit 364 = .ok (.iload_n 1, 1) := by decide +kernel
theorem dX6_digit_365 : decode cX6_digit 365 = .ok (.iload_n 2, 1) := by decide +kernel
theorem dX6_digit_366 : decode cX6_digit 366 = .ok (.iadd, 1) := by decide +kernel
theorem dX6_digit_367 : decode cX6_digit 367 = .ok (.lload 14, 2) := by decide +kernel
theorem dX6_digit_369 : decode cX6_digit 369 = .ok (.l2i, 1) := by decide +kernel
theorem dX6_digit_370 : decode cX6_digit 370 = .ok (.iastore, 1) := by decide +kernel
theorem dX6_digit_371 : decode cX6_digit 371 = .ok (.lload 5, 2) := by decide +kernel
theorem dX6_digit_373 : decode cX6_digit 373 = .ok (.lreturn, 1) := by decide +kernel
theorem dX6_rest_0 : decode cX6_rest 0 = .ok (.aload_n 0, 1) := by decide +kernel
theorem dX6_rest_1 : decode cX6_rest 1 = .ok (.iload_n 2, 1) := by decide +kernel
theorem dX6_rest_2 : decode cX6_rest 2 = .ok (.invokevirtual 90, 3) := by decide +kernel
theorem dX6_rest_5 : decode cX6_rest 5 = .ok (.aload_n 0, 1) := by decide +kernel
theorem dX6_rest_6 : decode cX6_rest 6 = .ok (.iload_n 3, 1) := by decide +kernel
theorem dX6_rest_7 : decode cX6_rest 7 = .ok (.iload_n 1, 1) := by decide +kernel
theorem dX6_rest_8 : decode cX6_rest 8 = .ok (.invokevirtual 94, 3) := by decide +kernel
theorem dX6_rest_11 : decode cX6_rest 11 = .ok (.return_, 1) := by decide +kernel
theorem dX6_times_0 : decode cX6_times 0 = .ok (.aload_n 0, 1) := by decide +kernel
theorem dX6_times_1 : decode cX6_times 1 = .ok (.iload_n 2, 1) := by decide +kernel
theorem dX6_times_2 : decode cX6_times 2 = .ok (.iload_n 3, 1) := by decide +kernel
theorem dX6_times_3 : decode cX6_times 3 = .ok (.invokevirtual 97, 3) := by decide +kernel
theorem dX6_times_6 : decode cX6_times 6 = .ok (.aload_n 0, 1) := by decide +kernel
theorem dX6_times_7 : decode cX6_times 7 = .ok (.iload 4, 2) := by decide +kernel
theorem dX6_times_9 : decode cX6_times 9 = .ok (.iload_n 1, 1) := by decide +kernel
theorem dX6_times_10 : decode cX6_times 10 = .ok (.invokevirtual 94, 3) := by decide +kernel
theorem dX6_times_13 : decode cX6_times 13 = .ok (.return_, 1) := by decide +kernel
theorem dX6_sum_0 : decode cX6_sum 0 = .ok (.aload_n 0, 1) := by decide +kernel
theorem dX6_sum_1 : decode cX6_sum 1 = .ok (.iload_n 1, 1) := by decide +kernel
theorem dX6_sum_2 : decode cX6_sum 2 = .ok (.iload_n 2, 1) := by decide +kernel
theorem dX6_sum_3 : decode cX6_sum 3 = .ok (.iload_n 3, 1) := by decide +kernel
theorem dX6_sum_4 : decode cX6_sum 4 = .ok (.invokevirtual 100, 3) := by decide +kernel
theorem dX6_sum_7 : decode cX6_sum 7 = .ok (.aload_n 0, 1) := by decide +kernel
theorem dX6_sum_8 : decode cX6_sum 8 = .ok (.iload_n 1, 1) := by decide +kernel
theorem dX6_sum_9 : decode cX6_sum 9 = .ok (.iload 4, 2) := by decide +kernel
theorem dX6_sum_11 : decode cX6_sum 11 = .ok (.invokevirtual 72, 3) := by decide +kernel
theorem dX6_sum_14 : decode cX6_sum 14 = .ok (.ifCond .lt 11, 3) := by decide +kernel
theorem dX6_sum_17 : decode cX6_sum 17 = .ok (.aload_n 0, 1) := by decide +kernel
theorem dX6_sum_18 : decode cX6_sum 18 = .ok (.iload_n 1, 1) := by decide +kernel
theorem dX6_sum_19 : decode cX6_sum 19 = .ok (.iload_n 1, 1) := by decide +kernel
theorem dX6_sum_20 : decode cX6_sum 20 = .ok (.iload 4, 2) := by decide +kernel
theorem dX6_sum_22 : decode cX6_sum 22 = .ok (.invokevirtual 103, 3) := by decide +kernel
theorem dX6_sum_25 : decode cX6_sum 25 = .ok (.return_, 1) := by decide +kernel
theorem dX6_difference_0 : decode cX6_difference 0 = .ok (.aload_n 0, 1) := by decide +kernel
theorem dX6_difference_1 : decode cX6_difference 1 = .ok (.iload_n 2, 1) := by decide +kernel
theorem dX6_difference_2 : decode cX6_difference 2 = .ok (.iload_n 3, 1) := by decide +kernel
theorem dX6_difference_3 : decode cX6_difference 3 = .ok (.invokevirtual 72, 3) := by decide +kernel
theorem dX6_difference_6 : decode cX6_difference 6 = .ok (.ifCond .lt 13, 3) := by decide +kernel
theorem dX6_difference_9 : decode cX6_difference 9 = .ok (.aload_n 0, 1) := by decide +kernel
theorem dX6_difference_10 : decode cX6_difference 10 = .ok (.iload_n 1, 1) := by decide +kernel
theorem dX6_difference_11 : decode cX6_difference 11 = .ok (.iload_n 2, 1) := by decide +kernel
theorem dX6_difference_12 : decode cX6_difference 12 = .ok (.iload_n 3, 1) := by decide +kernel
theorem dX6_difference_13 : decode cX6_difference 13 = .ok (.invokevirtual 103, 3) := by decide +kernel
theorem dX6_difference_16 : decode cX6_difference 16 = .ok (.goto 20, 3) := by decide +kernel
theorem dX6_difference_19 : decode cX6_difference 19 = .ok (.aload_n 0, 1) := by decide +kernel
theorem dX6_difference_20 : decode cX6_difference 20 = .ok (.bipush 9, 2) := by decide +kernel
theorem dX6_difference_22 : decode cX6_difference 22 = .ok (.iload_n 2, 1) := by decide +kernel
theorem dX6_difference_23 : decode cX6_difference 23 = .ok (.iload 4, 2) := by decide +kernel
theorem dX6_difference_25 : decode cX6_difference 25 = .ok (.invokevirtual 100, 3) := by decide +kernel
theorem dX6_difference_28 : decode cX6_difference 28 = .ok (.aload_n 0, 1) := by decide +kernel
theorem dX6_difference_29 : decode cX6_difference 29 = .ok (.iload_n 1, 1) := by decide +kernel
theorem dX6_difference_30 : decode cX6_difference 30 = .ok (.bipush 9, 2) := by decide +kernel
theorem dX6_difference_32 : decode cX6_difference 32 = .ok (.iload_n 3, 1) := by decide +kernel
theorem dX6_difference_33 : decode cX6_difference 33 = .ok (.invokevirtual 103, 3) := by decide +kernel
theorem dX6_difference_36 : decode cX6_difference 36 = .ok (.return_, 1) := by decide +kernel
theorem dX6_halveModulo_0 : decode cX6_halveModulo 0 = .ok (.aload_n 0, 1) := by decide +kernel
theorem dX6_halveModulo_1 : decode cX6_halveModulo 1 = .ok (.iload_n 1, 1) := by decide +kernel
theorem dX6_halveModulo_2 : decode cX6_halveModulo 2 = .ok (.invokevirtual 106, 3) := by decide +kernel
theorem dX6_halveModulo_5 : decode cX6_halveModulo 5 = .ok (.ifCond .eq 10, 3) := by decide +kernel
theorem dX6_halveModulo_8 : decode cX6_halveModulo 8 = .ok (.aload_n 0, 1) := by decide +kernel
theorem dX6_halveModulo_9 : decode cX6_halveModulo 9 = .ok (.iload_n 1, 1) := by decide +kernel
theorem dX6_halveModulo_10 : decode cX6_halveModulo 10 = .ok (.iload_n 1, 1) := by decide +kernel
theorem dX6_halveModulo_11 : decode cX6_halveModulo 11 = .ok (.iload_n 2, 1) := by decide +kernel
theorem dX6_halveModulo_12 : decode cX6_halveModulo 12 = .ok (.invokevirtual 100, 3) := by decide +kernel
theorem dX6_halveModulo_15 : decode cX6_halveModulo 15 = .ok (.aload_n 0, 1) := by decide +kernel
theorem dX6_halveModulo_16 : decode cX6_halveModulo 16 = .ok (.iload_n 1, 1) := by decide +kernel
theorem dX6_halveModulo_17 : decode cX6_halveModulo 17 = .ok (.invokevirtual 109, 3) := by decide +kernel
theorem dX6_halveModulo_20 : decode cX6_halveModulo 20 = .ok (.return_, 1) := by decide +kernel
theorem dX6_inverseOdd_0 : decode cX6_inverseOdd 0 = .ok (.aload_n 0, 1) := by decide +kernel
theorem dX6_inverseOdd_1 : decode cX6_inverseOdd 1 = .ok (.bipush 10, 2) := by decide +kernel
theorem dX6_inverseOdd_3 : decode cX6_inverseOdd 3 = .ok (.iload_n 2, 1) := by decide +kernel
theorem dX6_inverseOdd_4 : decode cX6_inverseOdd 4 = .ok (.invokevirtual 112, 3) := by decide +kernel
theorem dX6_inverseOdd_7 : decode cX6_inverseOdd 7 = .ok (.aload_n 0, 1) := by decide +kernel
theorem dX6_inverseOdd_8 : decode cX6_inverseOdd 8 = .ok (.bipush 11, 2) := by decide +kernel
theorem dX6_inverseOdd_10 : decode cX6_inverseOdd 10 = .ok (.iload_n 3, 1) := by decide +kernel
theorem dX6_inverseOdd_11 : decode cX6_inverseOdd 11 = .ok (.invokevirtual 112, 3) := by decide +kernel
theorem dX6_inverseOdd_14 : decode cX6_inverseOdd 14 = .ok (.aload_n 0, 1) := by decide +kernel
theorem dX6_inverseOdd_15 : decode cX6_inverseOdd 15 = .ok (.bipush 12, 2) := by decide +kernel
theorem dX6_inverseOdd_17 : decode cX6_inverseOdd 17 = .ok (.iconst 1, 1) := by decide +kernel
theorem dX6_inverseOdd_18 : decode cX6_inverseOdd 18 = .ok (.invokevirtual 64, 3) := by decide +kernel
theorem dX6_inverseOdd_21 : decode cX6_inverseOdd 21 = .ok (.aload_n 0, 1) := by decide +kernel
theorem dX6_inverseOdd_22 : decode cX6_inverseOdd 22 = .ok (.bipush 13, 2) := by decide +kernel
theorem dX6_inverseOdd_24 : decode cX6_inverseOdd 24 = .ok (.iconst 0, 1) := by decide +kernel
theorem dX6_inverseOdd_25 : decode cX6_inverseOdd 25 = .ok (.invokevirtual 64, 3) := by decide +kernel
theorem dX6_inverseOdd_28 : decode cX6_inverseOdd 28 = .ok (.aload_n 0, 1) := by decide +kernel
theorem dX6_inverseOdd_29 : decode cX6_inverseOdd 29 = .ok (.bipush 10, 2) := by decide +kernel
theorem dX6_inverseOdd_31 : decode cX6_inverseOdd 31 = .ok (.invokevirtual 115, 3) := by decide +kernel
theorem dX6_inverseOdd_34 : decode cX6_inverseOdd 34 = .ok (.ifCond .ne 130, 3) := by decide +kernel
theorem dX6_inverseOdd_37 : decode cX6_inverseOdd 37 = .ok (.aload_n 0, 1) := by decide +kernel
theorem dX6_inverseOdd_38 : decode cX6_inverseOdd 38 = .ok (.bipush 10, 2) := by decide +kernel
theorem dX6_inverseOdd_40 : decode cX6_inverseOdd 40 = .ok (.invokevirtual 118, 3) := by decide +kernel
theorem dX6_inverseOdd_43 : decode cX6_inverseOdd 43 = .ok (.ifCond .ne 121, 3) := by decide +kernel
theorem dX6_inverseOdd_46 : decode cX6_inverseOdd 46 = .ok (.aload_n 0, 1) := by decide +kernel
theorem dX6_inverseOdd_47 : decode cX6_inverseOdd 47 = .ok (.bipush 11, 2) := by decide +kernel
theorem dX6_inverseOdd_49 : decode cX6_inverseOdd 49 = .ok (.invokevirtual 118, 3) := by decide +kernel
theorem dX6_inverseOdd_52 : decode cX6_inverseOdd 52 = .ok (.ifCond .ne 112, 3) := by decide +kernel
theorem dX6_inverseOdd_55 : decode cX6_inverseOdd 55 = .ok (.aload_n 0, 1) := by decide +kernel
theorem dX6_inverseOdd_56 : decode cX6_inverseOdd 56 = .ok (.bipush 10, 2) := by decide +kernel
theorem dX6_inverseOdd_58 : decode cX6_inverseOdd 58 = .ok (.invokevirtual 106, 3) := by decide +kernel
theorem dX6_inverseOdd_61 : decode cX6_inverseOdd 61 = .ok (.ifCond .ne 19, 3) := by decide +kernel
theorem dX6_inverseOdd_64 : decode cX6_inverseOdd 64 = .ok (.aload_n 0, 1) := by decide +kernel
theorem dX6_inverseOdd_65 : decode cX6_inverseOdd 65 = .ok (.bipush 10, 2) := by decide +kernel
theorem dX6_inverseOdd_67 : decode cX6_inverseOdd 67 = .ok (.invokevirtual 109, 3) := by decide +kernel
theorem dX6_inverseOdd_70 : decode cX6_inverseOdd 70 = .ok (.aload_n 0, 1) := by decide +kernel
theorem dX6_inverseOdd_71 : decode cX6_inverseOdd 71 = .ok (.bipush 12, 2) := by decide +kernel
theorem dX6_inverseOdd_73 : decode cX6_inverseOdd 73 = .ok (.iload_n 3, 1) := by decide +kernel
theorem dX6_inverseOdd_74 : decode cX6_inverseOdd 74 = .ok (.invokevirtual 121, 3) := by decide +kernel
theorem dX6_inverseOdd_77 : decode cX6_inverseOdd 77 = .ok (.goto (-22), 3) := by decide +kernel
theorem dX6_inverseOdd_80 : decode cX6_inverseOdd 80 = .ok (.aload_n 0, 1) := by decide +kernel
theorem dX6_inverseOdd_81 : decode cX6_inverseOdd 81 = .ok (.bipush 11, 2) := by decide +kernel
theorem dX6_inverseOdd_83 : decode cX6_inverseOdd 83 = .ok (.invokevirtual 106, 3) := by decide +kernel
theorem dX6_inverseOdd_86 : decode cX6_inverseOdd 86 = .ok (.ifCond .ne 19, 3) := by decide +kernel
theorem dX6_inverseOdd_89 : decode cX6_inverseOdd 89 = .ok (.aload_n 0, 1) := by decide +kernel
theorem dX6_inverseOdd_90 : decode cX6_inverseOdd 90 = .ok (.bipush 11, 2) := by decide +kernel
theorem dX6_inverseOdd_92 : decode cX6_inverseOdd 92 = .ok (.invokevirtual 109, 3) := by decide +kernel
theorem dX6_inverseOdd_95 : decode cX6_inverseOdd 95 = .ok (.aload_n 0, 1) := by decide +kernel
theorem dX6_inverseOdd_96 : decode cX6_inverseOdd 96 = .ok (.bipush 13, 2) := by decide +kernel
theorem dX6_inverseOdd_98 : decode cX6_inverseOdd 98 = .ok (.iload_n 3, 1) := by decide +kernel
theorem dX6_inverseOdd_99 : decode cX6_inverseOdd 99 = .ok (.invokevirtual 121, 3) := by decide +kernel
theorem dX6_inverseOdd_102 : decode cX6_inverseOdd 102 = .ok (.goto (-22), 3) := by decide +kernel
theorem dX6_inverseOdd_105 : decode cX6_inverseOdd 105 = .ok (.aload_n 0, 1) := by decide +kernel
theorem dX6_inverseOdd_106 : decode cX6_inverseOdd 106 = .ok (.bipush 10, 2) := by decide +kernel
theorem dX6_inverseOdd_108 : decode cX6_inverseOdd 108 = .ok (.bipush 11, 2) := by decide +kernel
theorem dX6_inverseOdd_110 : decode cX6_inverseOdd 110 = .ok (.invokevirtual 72, 3) := by decide +kernel
theorem dX6_inverseOdd_113 : decode cX6_inverseOdd 113 = .ok (.ifCond .lt 27, 3) := by decide +kernel
theorem dX6_inverseOdd_116 : decode cX6_inverseOdd 116 = .ok (.aload_n 0, 1) := by decide +kernel
theorem dX6_inverseOdd_117 : decode cX6_inverseOdd 117 = .ok (.bipush 10, 2) := by decide +kernel
theorem dX6_inverseOdd_119 : decode cX6_inverseOdd 119 = .ok (.bipush 10, 2) := by decide +kernel
theorem dX6_inverseOdd_121 : decode cX6_inverseOdd 121 = .ok (.bipush 11, 2) := by decide +kernel
theorem dX6_inverseOdd_123 : decode cX6_inverseOdd 123 = .ok (.invokevirtual 103, 3) := by decide +kernel
theorem dX6_inverseOdd_126 : decode cX6_inverseOdd 126 = .ok (.aload_n 0, 1) := by decide +kernel
theorem dX6_inverseOdd_127 : decode cX6_inverseOdd 127 = .ok (.bipush 12, 2) := by decide +kernel
theorem dX6_inverseOdd_129 : decode cX6_inverseOdd 129 = .ok (.bipush 12, 2) := by decide +kernel
theorem dX6_inverseOdd_131 : decode cX6_inverseOdd 131 = .ok (.bipush 13, 2) := by decide +kernel
theorem dX6_inverseOdd_133 : decode cX6_inverseOdd 133 = .ok (.iload_n 3, 1) := by decide +kernel
theorem dX6_inverseOdd_134 : decode cX6_inverseOdd 134 = .ok (.invokevirtual 124, 3) := by decide +kernel
theorem dX6_inverseOdd_137 : decode cX6_inverseOdd 137 = .ok (.goto (-109), 3) := by decide +kernel
theorem dX6_inverseOdd_140 : decode cX6_inverseOdd 140 = .ok (.aload_n 0, 1) := by decide +kernel
theorem dX6_inverseOdd_141 : decode cX6_inverseOdd 141 = .ok (.bipush 11, 2) := by decide +kernel
theorem dX6_inverseOdd_143 : decode cX6_inverseOdd 143 = .ok (.bipush 11, 2) := by decide +kernel
theorem dX6_inverseOdd_145 : decode cX6_inverseOdd 145 = .ok (.bipush 10, 2) := by decide +kernel
theorem dX6_inverseOdd_147 : decode cX6_inverseOdd 147 = .ok (.invokevirtual 103, 3) := by decide +kernel
theorem dX6_inverseOdd_150 : decode cX6_inverseOdd 150 = .ok (.aload_n 0, 1) := by decide +kernel
theorem dX6_inverseOdd_151 : decode cX6_inverseOdd 151 = .ok (.bipush 13, 2) := by decide +kernel
theorem dX6_inverseOdd_153 : decode cX6_inverseOdd 153 = .ok (.bipush 13, 2) := by decide +kernel
theorem dX6_inverseOdd_155 : decode cX6_inverseOdd 155 = .ok (.bipush 12, 2) := by decide +kernel
theorem dX6_inverseOdd_157 : decode cX6_inverseOdd 157 = .ok (.iload_n 3, 1) := by decide +kernel
theorem dX6_inverseOdd_158 : decode cX6_inverseOdd 158 = .ok (.invokevirtual 124, 3) := by decide +kernel
theorem dX6_inverseOdd_161 : decode cX6_inverseOdd 161 = .ok (.goto (-133), 3) := by decide +kernel
theorem dX6_inverseOdd_164 : decode cX6_inverseOdd 164 = .ok (.aload_n 0, 1) := by decide +kernel
theorem dX6_inverseOdd_165 : decode cX6_inverseOdd 165 = .ok (.bipush 10, 2) := by decide +kernel
theorem dX6_inverseOdd_167 : decode cX6_inverseOdd 167 = .ok (.invokevirtual 118, 3) := by decide +kernel
theorem dX6_inverseOdd_170 : decode cX6_inverseOdd 170 = .ok (.ifCond .eq 12, 3) := by decide +kernel
theorem dX6_inverseOdd_173 : decode cX6_inverseOdd 173 = .ok (.aload_n 0, 1) := by decide +kernel
theorem dX6_inverseOdd_174 : decode cX6_inverseOdd 174 = .ok (.iload_n 1, 1) := by decide +kernel
theorem dX6_inverseOdd_175 : decode cX6_inverseOdd 175 = .ok (.bipush 12, 2) := by decide +kernel
theorem dX6_inverseOdd_177 : decode cX6_inverseOdd 177 = .ok (.invokevirtual 112, 3) := by decide +kernel
theorem dX6_inverseOdd_180 : decode cX6_inverseOdd 180 = .ok (.iconst 1, 1) := by decide +kernel
theorem dX6_inverseOdd_181 : decode cX6_inverseOdd 181 = .ok (.ireturn, 1) := by decide +kernel
theorem dX6_inverseOdd_182 : decode cX6_inverseOdd 182 = .ok (.aload_n 0, 1) := by decide +kernel
theorem dX6_inverseOdd_183 : decode cX6_inverseOdd 183 = .ok (.iload_n 1, 1) := by decide +kernel
theorem dX6_inverseOdd_184 : decode cX6_inverseOdd 184 = .ok (.bipush 13, 2) := by decide +kernel
theorem dX6_inverseOdd_186 : decode cX6_inverseOdd 186 = .ok (.invokevirtual 112, 3) := by decide +kernel
theorem dX6_inverseOdd_189 : decode cX6_inverseOdd 189 = .ok (.aload_n 0, 1) := by decide +kernel
theorem dX6_inverseOdd_190 : decode cX6_inverseOdd 190 = .ok (.bipush 11, 2) := by decide +kernel
theorem dX6_inverseOdd_192 : decode cX6_inverseOdd 192 = .ok (.invokevirtual 118, 3) := by decide +kernel
theorem dX6_inverseOdd_195 : decode cX6_inverseOdd 195 = .ok (.ifCond .eq 15, 3) := by decide +kernel
theorem dX6_inverseOdd_198 : decode cX6_inverseOdd 198 = .ok (.aload_n 0, 1) := by decide +kernel
theorem dX6_inverseOdd_199 : decode cX6_inverseOdd 199 = .ok (.iload_n 2, 1) := by decide +kernel
theorem dX6_inverseOdd_200 : decode cX6_inverseOdd 200 = .ok (.invokevirtual 115, 3) := by decide +kernel
theorem dX6_inverseOdd_203 : decode cX6_inverseOdd 203 = .ok (.ifCond .ne 7, 3) := by decide +kernel
theorem dX6_inverseOdd_206 : decode cX6_inverseOdd 206 = .ok (.iconst 1, 1) := by decide +kernel
theorem dX6_inverseOdd_207 : decode cX6_inverseOdd 207 = .ok (.goto 4, 3) := by decide +kernel
theorem dX6_inverseOdd_210 : decode cX6_inverseOdd 210 = .ok (.iconst 0, 1) := by decide +kernel
theorem dX6_inverseOdd_211 : decode cX6_inverseOdd 211 = .ok (.ireturn, 1) := by decide +kernel
theorem dX6_inverse_0 : decode cX6_inverse 0 = .ok (.aload_n 0, 1) := by decide +kernel
theorem dX6_inverse_1 : decode cX6_inverse 1 = .ok (.iload_n 3, 1) := by decide +kernel
theorem dX6_inverse_2 : decode cX6_inverse 2 = .ok (.invokevirtual 118, 3) := by decide +kernel
theorem dX6_inverse_5 : decode cX6_inverse 5 = .ok (.ifCond .eq 11, 3) := by decide +kernel
theorem dX6_inverse_8 : decode cX6_inverse 8 = .ok (.aload_n 0, 1) := by decide +kernel
theorem dX6_inverse_9 : decode cX6_inverse 9 = .ok (.iload_n 1, 1) := by decide +kernel
theorem dX6_inverse_10 : decode cX6_inverse 10 = .ok (.iconst 0, 1) := by decide +kernel
theorem dX6_inverse_11 : decode cX6_inverse 11 = .ok (.invokevirtual 64, 3) := by decide +kernel
theorem dX6_inverse_14 : decode cX6_inverse 14 = .ok (.iconst 1, 1) := by decide +kernel
theorem dX6_inverse_15 : decode cX6_inverse 15 = .ok (.ireturn, 1) := by decide +kernel
theorem dX6_inverse_16 : decode cX6_inverse 16 = .ok (.aload_n 0, 1) := by decide +kernel
theorem dX6_inverse_17 : decode cX6_inverse 17 = .ok (.iload_n 3, 1) := by decide +kernel
theorem dX6_inverse_18 : decode cX6_inverse 18 = .ok (.invokevirtual 106, 3) := by decide +kernel
theorem dX6_inverse_21 : decode cX6_inverse 21 = .ok (.ifCond .eq 11, 3) := by decide +kernel
theorem dX6_inverse_24 : decode cX6_inverse 24 = .ok (.aload_n 0, 1) := by decide +kernel
theorem dX6_inverse_25 : decode cX6_inverse 25 = .ok (.iload_n 1, 1) := by decide +kernel
theorem dX6_inverse_26 : decode cX6_inverse 26 = .ok (.iload_n 2, 1) := by decide +kernel
theorem dX6_inverse_27 : decode cX6_inverse 27 = .ok (.iload_n 3, 1) := by decide +kernel
theorem dX6_inverse_28 : decode cX6_inverse 28 = .ok (.invokevirtual 128, 3) := by decide +kernel
theorem dX6_inverse_31 : decode cX6_inverse 31 = .ok (.ireturn, 1) := by decide +kernel
theorem dX6_inverse_32 : decode cX6_inverse 32 = .ok (.aload_n 0, 1) := by decide +kernel
theorem dX6_inverse_33 : decode cX6_inverse 33 = .ok (.iload_n 2, 1) := by decide +kernel
theorem dX6_inverse_34 : decode cX6_inverse 34 = .ok (.invokevirtual 106, 3) := by decide +kernel
theorem dX6_inverse_37 : decode cX6_inverse 37 = .ok (.ifCond .ne 5, 3) := by decide +kernel
theorem dX6_inverse_40 : decode cX6_inverse 40 = .ok (.iconst 0, 1) := by decide +kernel
theorem dX6_inverse_41 : decode cX6_inverse 41 = .ok (.ireturn, 1) := by decide +kernel
theorem dX6_inverse_42 : decode cX6_inverse 42 = .ok (.aload_n 0, 1) := by decide +kernel
theorem dX6_inverse_43 : decode cX6_inverse 43 = .ok (.iload_n 2, 1) := by decide +kernel
theorem dX6_inverse_44 : decode cX6_inverse 44 = .ok (.invokevirtual 118, 3) := by decide +kernel
theorem dX6_inverse_47 : decode cX6_inverse 47 = .ok (.ifCond .eq 11, 3) := by decide +kernel
theorem dX6_inverse_50 : decode cX6_inverse 50 = .ok (.aload_n 0, 1) := by decide +kernel
theorem dX6_inverse_51 : decode cX6_inverse 51 = .ok (.iload_n 1, 1) := by decide +kernel
theorem dX6_inverse_52 : decode cX6_inverse 52 = .ok (.iconst 1, 1) := by decide +kernel
theorem dX6_inverse_53 : decode cX6_inverse 53 = .ok (.invokevirtual 64, 3) := by decide +kernel
theorem dX6_inverse_56 : decode cX6_inverse 56 = .ok (.iconst 1, 1) := by decide +kernel
theorem dX6_inverse_57 : decode cX6_inverse 57 = .ok (.ireturn, 1) := by decide +kernel
theorem dX6_inverse_58 : decode cX6_inverse 58 = .ok (.aload_n 0, 1) := by decide +kernel
theorem dX6_inverse_59 : decode cX6_inverse 59 = .ok (.bipush 7, 2) := by decide +kernel
theorem dX6_inverse_61 : decode cX6_inverse 61 = .ok (.iload_n 3, 1) := by decide +kernel
theorem dX6_inverse_62 : decode cX6_inverse 62 = .ok (.iload_n 2, 1) := by decide +kernel
theorem dX6_inverse_63 : decode cX6_inverse 63 = .ok (.invokevirtual 132, 3) := by decide +kernel
theorem dX6_inverse_66 : decode cX6_inverse 66 = .ok (.aload_n 0, 1) := by decide +kernel
theorem dX6_inverse_67 : decode cX6_inverse 67 = .ok (.bipush 8, 2) := by decide +kernel
theorem dX6_inverse_69 : decode cX6_inverse 69 = .ok (.bipush 7, 2) := by decide +kernel
theorem dX6_inverse_71 : decode cX6_inverse 71 = .ok (.iload_n 2, 1) := by decide +kernel
theorem dX6_inverse_72 : decode cX6_inverse 72 = .ok (.invokevirtual 128, 3) := by decide +kernel
theorem dX6_inverse_75 : decode cX6_inverse 75 = .ok (.ifCond .ne 5, 3) := by decide +kernel
theorem dX6_inverse_78 : decode cX6_inverse 78 = .ok (.iconst 0, 1) := by decide +kernel
theorem dX6_inverse_79 : decode cX6_inverse 79 = .ok (.ireturn, 1) := by decide +kernel
theorem dX6_inverse_80 : decode cX6_inverse 80 = .ok (.aload_n 0, 1) := by decide +kernel
theorem dX6_inverse_81 : decode cX6_inverse 81 = .ok (.bipush 8, 2) := by decide +kernel
theorem dX6_inverse_83 : decode cX6_inverse 83 = .ok (.iload_n 2, 1) := by decide +kernel
theorem dX6_inverse_84 : decode cX6_inverse 84 = .ok (.bipush 8, 2) := by decide +kernel
theorem dX6_inverse_86 : decode cX6_inverse 86 = .ok (.invokevirtual 103, 3) := by decide +kernel
theorem dX6_inverse_89 : decode cX6_inverse 89 = .ok (.aload_n 0, 1) := by decide +kernel
theorem dX6_inverse_90 : decode cX6_inverse 90 = .ok (.iload_n 3, 1) := by decide +kernel
theorem dX6_inverse_91 : decode cX6_inverse 91 = .ok (.bipush 8, 2) := by decide +kernel
theorem dX6_inverse_93 : decode cX6_inverse 93 = .ok (.invokevirtual 97, 3) := by decide +kernel
theorem dX6_inverse_96 : decode cX6_inverse 96 = .ok (.lconst 1, 1) := by decide +kernel
theorem dX6_inverse_97 : decode cX6_inverse 97 = .ok (.lstore 4, 2) := by decide +kernel
theorem dX6_inverse_99 : decode cX6_inverse 99 = .ok (.iconst 0, 1) := by decide +kernel
theorem dX6_inverse_100 : decode cX6_inverse 100 = .ok (.istore 6, 2) := by decide +kernel
theorem dX6_inverse_102 : decode cX6_inverse 102 = .ok (.iload 6, 2) := by decide +kernel
theorem dX6_inverse_104 : decode cX6_inverse 104 = .ok (.bipush 20, 2) := by decide +kernel
theorem dX6_inverse_106 : decode cX6_inverse 106 = .ok (.if_icmp .ge 43, 3) := by decide +kernel
theorem dX6_inverse_109 : decode cX6_inverse 109 = .ok (.aload_n 0, 1) := by decide +kernel
theorem dX6_inverse_110 : decode cX6_inverse 110 = .ok (.getfield 27, 3) := by decide +kernel
theorem dX6_inverse_113 : decode cX6_inverse 113 = .ok (.iload 6, 2) := by decide +kernel
theorem dX6_inverse_115 : decode cX6_inverse 115 = .ok (.iaload, 1) := by decide +kernel
theorem dX6_inverse_116 : decode cX6_inverse 116 = .ok (.i2l, 1) := by decide +kernel
theorem dX6_inverse_117 : decode cX6_inverse 117 = .ok (.lload 4, 2) := by decide +kernel
theorem dX6_inverse_119 : decode cX6_inverse 119 = .ok (.ladd, 1) := by decide +kernel
theorem dX6_inverse_120 : decode cX6_inverse 120 = .ok (.lstore 7, 2) := by decide +kernel
theorem dX6_inverse_122 : decode cX6_inverse 122 = .ok (.aload_n 0, 1) := by decide +kernel
theorem dX6_inverse_123 : decode cX6_inverse 123 = .ok (.getfield 27, 3) := by decide +kernel
theorem dX6_inverse_126 : decode cX6_inverse 126 = .ok (.iload 6, 2) := by decide +kernel
theorem dX6_inverse_128 : decode cX6_inverse 128 = .ok (.lload 7, 2) := by decide +kernel
theorem dX6_inverse_130 : decode cX6_inverse 130 = .ok (.ldc2_w 75, 3) := by decide +kernel
theorem dX6_inverse_133 : decode cX6_inverse 133 = .ok (.land, 1) := by decide +kernel
theorem dX6_inverse_134 : decode cX6_inverse 134 = .ok (.l2i, 1) := by decide +kernel
theorem dX6_inverse_135 : decode cX6_inverse 135 = .ok (.iastore, 1) := by decide +kernel
theorem dX6_inverse_136 : decode cX6_inverse 136 = .ok (.lload 7, 2) := by decide +kernel
theorem dX6_inverse_138 : decode cX6_inverse 138 = .ok (.bipush 31, 2) := by decide +kernel
theorem dX6_inverse_140 : decode cX6_inverse 140 = .ok (.lshr, 1) := by decide +kernel
theorem dX6_inverse_141 : decode cX6_inverse 141 = .ok (.lstore 4, 2) := by decide +kernel
theorem dX6_inverse_143 : decode cX6_inverse 143 = .ok (.iinc 6 1, 3) := by decide +kernel
theorem dX6_inverse_146 : decode cX6_inverse 146 = .ok (.goto (-44), 3) := by decide +kernel
theorem dX6_inverse_149 : decode cX6_inverse 149 = .ok (.aload_n 0, 1) := by decide +kernel
theorem dX6_inverse_150 : decode cX6_inverse 150 = .ok (.iload_n 2, 1) := by decide +kernel
theorem dX6_inverse_151 : decode cX6_inverse 151 = .ok (.bipush 7, 2) := by decide +kernel
theorem dX6_inverse_153 : decode cX6_inverse 153 = .ok (.invokevirtual 94, 3) := by decide +kernel
theorem dX6_inverse_156 : decode cX6_inverse 156 = .ok (.iconst 0, 1) := by decide +kernel
theorem dX6_inverse_157 : decode cX6_inverse 157 = .ok (.istore 6, 2) := by decide +kernel
theorem dX6_inverse_159 : decode cX6_inverse 159 = .ok (.iload 6, 2) := by decide +kernel
theorem dX6_inverse_161 : decode cX6_inverse 161 = .ok (.bipush 10, 2) := by decide +kernel
theorem dX6_inverse_163 : decode cX6_inverse 163 = .ok (.if_icmp .ge 23, 3) := by decide +kernel
theorem dX6_inverse_166 : decode cX6_inverse 166 = .ok (.aload_n 0, 1) := by decide +kernel
theorem dX6_inverse_167 : decode cX6_inverse 167 = .ok (.iload_n 1, 1) := by decide +kernel
theorem dX6_inverse_168 : decode cX6_inverse 168 = .ok (.iload 6, 2) := by decide +kernel
theorem dX6_inverse_170 : decode cX6_inverse 170 = .ok (.aload_n 0, 1) := by decide +kernel
theorem dX6_inverse_171 : decode cX6_inverse 171 = .ok (.getfield 33, 3) := by decide +kernel
theorem dX6_inverse_174 : decode cX6_inverse 174 = .ok (.iload 6, 2) := by decide +kernel
theorem dX6_inverse_176 : decode cX6_inverse 176 = .ok (.iaload, 1) := by decide +kernel
theorem dX6_inverse_177 : decode cX6_inverse 177 = .ok (.invokevirtual 57, 3) := by decide +kernel
theorem dX6_inverse_180 : decode cX6_inverse 180 = .ok (.iinc 6 1, 3) := by decide +kernel
theorem dX6_inverse_183 : decode cX6_inverse 183 = .ok (.goto (-24), 3) := by decide +kernel
theorem dX6_inverse_186 : decode cX6_inverse 186 = .ok (.iconst 1, 1) := by decide +kernel
theorem dX6_inverse_187 : decode cX6_inverse 187 = .ok (.ireturn, 1) := by decide +kernel
theorem dX6_x_0 : decode cX6_x 0 = .ok (.bipush 20, 2) := by decide +kernel
theorem dX6_x_2 : decode cX6_x 2 = .ok (.iconst 2, 1) := by decide +kernel
theorem dX6_x_3 : decode cX6_x 3 = .ok (.iload_n 0, 1) := by decide +kernel
theorem dX6_x_4 : decode cX6_x 4 = .ok (.imul, 1) := by decide +kernel
theorem dX6_x_5 : decode cX6_x 5 = .ok (.iadd, 1) := by decide +kernel
theorem dX6_x_6 : decode cX6_x 6 = .ok (.ireturn, 1) := by decide +kernel
theorem dX6_y_0 : decode cX6_y 0 = .ok (.bipush 20, 2) := by decide +kernel
theorem dX6_y_2 : decode cX6_y 2 = .ok (.iconst 2, 1) := by decide +kernel
theorem dX6_y_3 : decode cX6_y 3 = .ok (.iload_n 0, 1) := by decide +kernel
theorem dX6_y_4 : decode cX6_y 4 = .ok (.imul, 1) := by decide +kernel
theorem dX6_y_5 : decode cX6_y 5 = .ok (.iadd, 1) := by decide +kernel
theorem dX6_y_6 : decode cX6_y 6 = .ok (.iconst 1, 1) := by decide +kernel
theorem dX6_y_7 : decode cX6_y 7 = .ok (.iadd, 1) := by decide +kernel
theorem dX6_y_8 : decode cX6_y 8 = .ok (.ireturn, 1) := by decide +kernel
theorem dX6_loadPoint_0 : decode cX6_loadPoint 0 = .ok (.aload_n 0, 1) := by decide +kernel
theorem dX6_loadPoint_1 : decode cX6_loadPoint 1 = .ok (.getfield 24, 3) := by decide +kernel
theorem dX6_loadPoint_4 : decode cX6_loadPoint 4 = .ok (.iload_n 1, 1) := by decide +kernel
theorem dX6_loadPoint_5 : decode cX6_loadPoint 5 = .ok (.aload_n 0, 1) := by decide +kernel
theorem dX6_loadPoint_6 : decode cX6_loadPoint 6 = .ok (.getfield 13, 3) := by decide +kernel
theorem dX6_loadPoint_9 : decode cX6_loadPoint 9 = .ok (.iload_n 2, 1) := by decide +kernel
theorem dX6_loadPoint_10 : decode cX6_loadPoint 10 = .ok (.baload, 1) := by decide +kernel
theorem dX6_loadPoint_11 : decode cX6_loadPoint 11 = .ok (.ifCond .ne 7, 3) := by decide +kernel
theorem dX6_loadPoint_14 : decode cX6_loadPoint 14 = .ok (.iconst 1, 1) := by decide +kernel
theorem dX6_loadPoint_15 : decode cX6_loadPoint 15 = .ok (.goto 4, 3) := by decide +kernel
theorem dX6_loadPoint_18 : decode cX6_loadPoint 18 = .ok (.iconst 0, 1) := by decide +kernel
theorem dX6_loadPoint_19 : decode cX6_loadPoint 19 = .ok (.bastore, 1) := by decide +kernel
theorem dX6_loadPoint_20 : decode cX6_loadPoint 20 = .ok (.aload_n 0, 1) := by decide +kernel
theorem dX6_loadPoint_21 : decode cX6_loadPoint 21 = .ok (.iload_n 1, 1) := by decide +kernel
theorem dX6_loadPoint_22 : decode cX6_loadPoint 22 = .ok (.invokestatic 135, 3) := by decide +kernel
theorem dX6_loadPoint_25 : decode cX6_loadPoint 25 = .ok (.iload_n 2, 1) := by decide +kernel
theorem dX6_loadPoint_26 : decode cX6_loadPoint 26 = .ok (.iconst 0, 1) := by decide +kernel
theorem dX6_loadPoint_27 : decode cX6_loadPoint 27 = .ok (.invokevirtual 61, 3) := by decide +kernel
theorem dX6_loadPoint_30 : decode cX6_loadPoint 30 = .ok (.aload_n 0, 1) := by decide +kernel
theorem dX6_loadPoint_31 : decode cX6_loadPoint 31 = .ok (.iload_n 1, 1) := by decide +kernel
theorem dX6_loadPoint_32 : decode cX6_loadPoint 32 = .ok (.invokestatic 138, 3) := by decide +kernel
theorem dX6_loadPoint_35 : decode cX6_loadPoint 35 = .ok (.iload_n 2, 1) := by decide +kernel
theorem dX6_loadPoint_36 : decode cX6_loadPoint 36 = .ok (.aload_n 0, 1) := by decide +kernel
theorem dX6_loadPoint_37 : decode cX6_loadPoint 37 = .ok (.getfield 36, 3) := by decide +kernel
theorem dX6_loadPoint_40 : decode cX6_loadPoint 40 = .ok (.invokevirtual 61, 3) := by decide +kernel
theorem dX6_loadPoint_43 : decode cX6_loadPoint 43 = .ok (.return_, 1) := by decide +kernel
theorem dX6_storePoint_0 : decode cX6_storePoint 0 = .ok (.iconst 0, 1) := by decide +kernel
theorem dX6_storePoint_1 : decode cX6_storePoint 1 = .ok (.istore_n 3, 1) := by decide +kernel
theorem dX6_storePoint_2 : decode cX6_storePoint 2 = .ok (.iload_n 3, 1) := by decide +kernel
theorem dX6_storePoint_3 : decode cX6_storePoint 3 = .ok (.bipush 18, 2) := by decide +kernel
theorem dX6_storePoint_5 : decode cX6_storePoint 5 = .ok (.if_icmp .ge 21, 3) := by decide +kernel
theorem dX6_storePoint_8 : decode cX6_storePoint 8 = .ok (.aload_n 0, 1) := by decide +kernel
theorem dX6_storePoint_9 : decode cX6_storePoint 9 = .ok (.getfield 7, 3) := by decide +kernel
theorem dX6_storePoint_12 : decode cX6_storePoint 12 = .ok (.bipush 18, 2) := by decide +kernel
theorem dX6_storePoint_14 : decode cX6_storePoint 14 = .ok (.iload_n 1, 1) := by decide +kernel
theorem dX6_storePoint_15 : decode cX6_storePoint 15 = .ok (.imul, 1) := by decide +kernel
theorem dX6_storePoint_16 : decode cX6_storePoint 16 = .ok (.iload_n 3, 1) := by decide +kernel
theorem dX6_storePoint_17 : decode cX6_storePoint 17 = .ok (.iadd, 1) := by decide +kernel
theorem dX6_storePoint_18 : decode cX6_storePoint 18 = .ok (.iconst 0, 1) := by decide +kernel
theorem dX6_storePoint_19 : decode cX6_storePoint 19 = .ok (.iastore, 1) := by decide +kernel
theorem dX6_storePoint_20 : decode cX6_storePoint 20 = .ok (.iinc 3 1, 3) := by decide +kernel
theorem dX6_storePoint_23 : decode cX6_storePoint 23 = .ok (.goto (-21), 3) := by decide +kernel
theorem dX6_storePoint_26 : decode cX6_storePoint 26 = .ok (.iconst 0, 1) := by decide +kernel
theorem dX6_storePoint_27 : decode cX6_storePoint 27 = .ok (.istore_n 3, 1) := by decide +kernel
theorem dX6_storePoint_28 : decode cX6_storePoint 28 = .ok (.iload_n 3, 1) := by decide +kernel
theorem dX6_storePoint_29 : decode cX6_storePoint 29 = .ok (.aload_n 0, 1) := by decide +kernel
theorem dX6_storePoint_30 : decode cX6_storePoint 30 = .ok (.getfield 36, 3) := by decide +kernel
theorem dX6_storePoint_33 : decode cX6_storePoint 33 = .ok (.if_icmp .ge 63, 3) := by decide +kernel
theorem dX6_storePoint_36 : decode cX6_storePoint 36 = .ok (.aload_n 0, 1) := by decide +kernel
theorem dX6_storePoint_37 : decode cX6_storePoint 37 = .ok (.getfield 24, 3) := by decide +kernel
theorem dX6_storePoint_40 : decode cX6_storePoint 40 = .ok (.iload_n 2, 1) := by decide +kernel
theorem dX6_storePoint_41 : decode cX6_storePoint 41 = .ok (.baload, 1) := by decide +kernel
theorem dX6_storePoint_42 : decode cX6_storePoint 42 = .ok (.ifCond .ne 54, 3) := by decide +kernel
theorem dX6_storePoint_45 : decode cX6_storePoint 45 = .ok (.aload_n 0, 1) := by decide +kernel
theorem dX6_storePoint_46 : decode cX6_storePoint 46 = .ok (.getfield 7, 3) := by decide +kernel
theorem dX6_storePoint_49 : decode cX6_storePoint 49 = .ok (.bipush 18, 2) := by decide +kernel
theorem dX6_storePoint_51 : decode cX6_storePoint 51 = .ok (.iload_n 1, 1) := by decide +kernel
theorem dX6_storePoint_52 : decode cX6_storePoint 52 = .ok (.imul, 1) := by decide +kernel
theorem dX6_storePoint_53 : decode cX6_storePoint 53 = .ok (.iload_n 3, 1) := by decide +kernel
theorem dX6_storePoint_54 : decode cX6_storePoint 54 = .ok (.iadd, 1) := by decide +kernel
theorem dX6_storePoint_55 : decode cX6_storePoint 55 = .ok (.aload_n 0, 1) := by decide +kernel
theorem dX6_storePoint_56 : decode cX6_storePoint 56 = .ok (.iload_n 2, 1) := by decide +kernel
theorem dX6_storePoint_57 : decode cX6_storePoint 57 = .ok (.invokestatic 135, 3) := by decide +kernel
theorem dX6_storePoint_60 : decode cX6_storePoint 60 = .ok (.iload_n 3, 1) := by decide +kernel
theorem dX6_storePoint_61 : decode cX6_storePoint 61 = .ok (.invokevirtual 68, 3) := by decide +kernel
theorem dX6_storePoint_64 : decode cX6_storePoint 64 = .ok (.iastore, 1) := by decide +kernel
theorem dX6_storePoint_65 : decode cX6_storePoint 65 = .ok (.aload_n 0, 1) := by decide +kernel
theorem dX6_storePoint_66 : decode cX6_storePoint 66 = .ok (.getfield 7, 3) := by decide +kernel
theorem dX6_storePoint_69 : decode cX6_storePoint 69 = .ok (.bipush 18, 2) := by decide +kernel
theorem dX6_storePoint_71 : decode cX6_storePoint 71 = .ok (.iload_n 1, 1) := by decide +kernel
theorem dX6_storePoint_72 : decode cX6_storePoint 72 = .ok (.imul, 1) := by decide +kernel
theorem dX6_storePoint_73 : decode cX6_storePoint 73 = .ok (.aload_n 0, 1) := by decide +kernel
theorem dX6_storePoint_74 : decode cX6_storePoint 74 = .ok (.getfield 36, 3) := by decide +kernel
theorem dX6_storePoint_77 : decode cX6_storePoint 77 = .ok (.iadd, 1) := by decide +kernel
theorem dX6_storePoint_78 : decode cX6_storePoint 78 = .ok (.iload_n 3, 1) := by decide +kernel
theorem dX6_storePoint_79 : decode cX6_storePoint 79 = .ok (.iadd, 1) := by decide +kernel
theorem dX6_storePoint_80 : decode cX6_storePoint 80 = .ok (.aload_n 0, 1) := by decide +kernel
theorem dX6_storePoint_81 : decode cX6_storePoint 81 = .ok (.iload_n 2, 1) := by decide +kernel
theorem dX6_storePoint_82 : decode cX6_storePoint 82 = .ok (.invokestatic 138, 3) := by decide +kernel
theorem dX6_storePoint_85 : decode cX6_storePoint 85 = .ok (.iload_n 3, 1) := by decide +kernel
theorem dX6_storePoint_86 : decode cX6_storePoint 86 = .ok (.invokevirtual 68, 3) := by decide +kernel
theorem dX6_storePoint_89 : decode cX6_storePoint 89 = .ok (.iastore, 1) := by decide +kernel
theorem dX6_storePoint_90 : decode cX6_storePoint 90 = .ok (.iinc 3 1, 3) := by decide +kernel
theorem dX6_storePoint_93 : decode cX6_storePoint 93 = .ok (.goto (-65), 3) := by decide +kernel
theorem dX6_storePoint_96 : decode cX6_storePoint 96 = .ok (.aload_n 0, 1) := by decide +kernel
theorem dX6_storePoint_97 : decode cX6_storePoint 97 = .ok (.getfield 13, 3) := by decide +kernel
theorem dX6_storePoint_100 : decode cX6_storePoint 100 = .ok (.iload_n 1, 1) := by decide +kernel
theorem dX6_storePoint_101 : decode cX6_storePoint 101 = .ok (.aload_n 0, 1) := by decide +kernel
theorem dX6_storePoint_102 : decode cX6_storePoint 102 = .ok (.getfield 24, 3) := by decide +kernel
theorem dX6_storePoint_105 : decode cX6_storePoint 105 = .ok (.iload_n 2, 1) := by decide +kernel
theorem dX6_storePoint_106 : decode cX6_storePoint 106 = .ok (.baload, 1) := by decide +kernel
theorem dX6_storePoint_107 : decode cX6_storePoint 107 = .ok (.ifCond .ne 7, 3) := by decide +kernel
theorem dX6_storePoint_110 : decode cX6_storePoint 110 = .ok (.iconst 1, 1) := by decide +kernel
theorem dX6_storePoint_111 : decode cX6_storePoint 111 = .ok (.goto 4, 3) := by decide +kernel
theorem dX6_storePoint_114 : decode cX6_storePoint 114 = .ok (.iconst 0, 1) := by decide +kernel
theorem dX6_storePoint_115 : decode cX6_storePoint 115 = .ok (.bastore, 1) := by decide +kernel
theorem dX6_storePoint_116 : decode cX6_storePoint 116 = .ok (.aload_n 0, 1) := by decide +kernel
theorem dX6_storePoint_117 : decode cX6_storePoint 117 = .ok (.iload_n 1, 1) := by decide +kernel
theorem dX6_storePoint_118 : decode cX6_storePoint 118 = .ok (.invokevirtual 141, 3) := by decide +kernel
theorem dX6_storePoint_121 : decode cX6_storePoint 121 = .ok (.return_, 1) := by decide +kernel
theorem dX6_copyPoint_0 : decode cX6_copyPoint 0 = .ok (.aload_n 0, 1) := by decide +kernel
theorem dX6_copyPoint_1 : decode cX6_copyPoint 1 = .ok (.getfield 24, 3) := by decide +kernel
theorem dX6_copyPoint_4 : decode cX6_copyPoint 4 = .ok (.iload_n 1, 1) := by decide +kernel
theorem dX6_copyPoint_5 : decode cX6_copyPoint 5 = .ok (.aload_n 0, 1) := by decide +kernel
theorem dX6_copyPoint_6 : decode cX6_copyPoint 6 = .ok (.getfield 24, 3) := by decide +kernel
theorem dX6_copyPoint_9 : decode cX6_copyPoint 9 = .ok (.iload_n 2, 1) := by decide +kernel
theorem dX6_copyPoint_10 : decode cX6_copyPoint 10 = .ok (.baload, 1) := by decide +kernel
theorem dX6_copyPoint_11 : decode cX6_copyPoint 11 = .ok (.bastore, 1) := by decide +kernel
theorem dX6_copyPoint_12 : decode cX6_copyPoint 12 = .ok (.aload_n 0, 1) := by decide +kernel
theorem dX6_copyPoint_13 : decode cX6_copyPoint 13 = .ok (.iload_n 1, 1) := by decide +kernel
theorem dX6_copyPoint_14 : decode cX6_copyPoint 14 = .ok (.invokestatic 135, 3) := by decide +kernel
theorem dX6_copyPoint_17 : decode cX6_copyPoint 17 = .ok (.iload_n 2, 1) := by decide +kernel
theorem dX6_copyPoint_18 : decode cX6_copyPoint 18 = .ok (.invokestatic 135, 3) := by decide +kernel
theorem dX6_copyPoint_21 : decode cX6_copyPoint 21 = .ok (.invokevirtual 112, 3) := by decide +kernel
theorem dX6_copyPoint_24 : decode cX6_copyPoint 24 = .ok (.aload_n 0, 1) := by decide +kernel
theorem dX6_copyPoint_25 : decode cX6_copyPoint 25 = .ok (.iload_n 1, 1) := by decide +kernel
theorem dX6_copyPoint_26 : decode cX6_copyPoint 26 = .ok (.invokestatic 138, 3) := by decide +kernel
theorem dX6_copyPoint_29 : decode cX6_copyPoint 29 = .ok (.iload_n 2, 1) := by decide +kernel
theorem dX6_copyPoint_30 : decode cX6_copyPoint 30 = .ok (.invokestatic 138, 3) := by decide +kernel
theorem dX6_copyPoint_33 : decode cX6_copyPoint 33 = .ok (.invokevirtual 112, 3) := by decide +kernel
theorem dX6_copyPoint_36 : decode cX6_copyPoint 36 = .ok (.return_, 1) := by decide +kernel
theorem dX6_isOn_0 : decode cX6_isOn 0 = .ok (.aload_n 0, 1) := by decide +kernel
theorem dX6_isOn_1 : decode cX6_isOn 1 = .ok (.getfield 24, 3) := by decide +kernel
theorem dX6_isOn_4 : decode cX6_isOn 4 = .ok (.iload_n 1, 1) := by decide +kernel
theorem dX6_isOn_5 : decode cX6_isOn 5 = .ok (.baload, 1) := by decide +kernel
theorem dX6_isOn_6 : decode cX6_isOn 6 = .ok (.ifCond .eq 5, 3) := by decide +kernel
theorem dX6_isOn_9 : decode cX6_isOn 9 = .ok (.iconst 1, 1) := by decide +kernel
theorem dX6_isOn_10 : decode cX6_isOn 10 = .ok (.ireturn, 1) := by decide +kernel
theorem dX6_isOn_11 : decode cX6_isOn 11 = .ok (.aload_n 0, 1) := by decide +kernel
theorem dX6_isOn_12 : decode cX6_isOn 12 = .ok (.iload_n 1, 1) := by decide +kernel
theorem dX6_isOn_13 : decode cX6_isOn 13 = .ok (.invokestatic 135, 3) := by decide +kernel
theorem dX6_isOn_16 : decode cX6_isOn 16 = .ok (.iconst 0, 1) := by decide +kernel
theorem dX6_isOn_17 : decode cX6_isOn 17 = .ok (.invokevirtual 72, 3) := by decide +kernel
theorem dX6_isOn_20 : decode cX6_isOn 20 = .ok (.ifCond .ge 15, 3) := by decide +kernel
theorem dX6_isOn_23 : decode cX6_isOn 23 = .ok (.aload_n 0, 1) := by decide +kernel
theorem dX6_isOn_24 : decode cX6_isOn 24 = .ok (.iload_n 1, 1) := by decide +kernel
theorem dX6_isOn_25 : decode cX6_isOn 25 = .ok (.invokestatic 138, 3) := by decide +kernel
theorem dX6_isOn_28 : decode cX6_isOn 28 = .ok (.iconst 0, 1) := by decide +kernel
theorem dX6_isOn_29 : decode cX6_isOn 29 = .ok (.invokevirtual 72, 3) := by decide +kernel
theorem dX6_isOn_32 : decode cX6_isOn 32 = .ok (.ifCond .lt 5, 3) := by decide +kernel
theorem dX6_isOn_35 : decode cX6_isOn 35 = .ok (.iconst 0, 1) := by decide +kernel
theorem dX6_isOn_36 : decode cX6_isOn 36 = .ok (.ireturn, 1) := by decide +kernel
theorem dX6_isOn_37 : decode cX6_isOn 37 = .ok (.aload_n 0, 1) := by decide +kernel
theorem dX6_isOn_38 : decode cX6_isOn 38 = .ok (.iconst 5, 1) := by decide +kernel
theorem dX6_isOn_39 : decode cX6_isOn 39 = .ok (.iload_n 1, 1) := by decide +kernel
theorem dX6_isOn_40 : decode cX6_isOn 40 = .ok (.invokestatic 135, 3) := by decide +kernel
theorem dX6_isOn_43 : decode cX6_isOn 43 = .ok (.iload_n 1, 1) := by decide +kernel
theorem dX6_isOn_44 : decode cX6_isOn 44 = .ok (.invokestatic 135, 3) := by decide +kernel
theorem dX6_isOn_47 : decode cX6_isOn 47 = .ok (.iconst 0, 1) := by decide +kernel
theorem dX6_isOn_48 : decode cX6_isOn 48 = .ok (.invokevirtual 144, 3) := by decide +kernel
theorem dX6_isOn_51 : decode cX6_isOn 51 = .ok (.aload_n 0, 1) := by decide +kernel
theorem dX6_isOn_52 : decode cX6_isOn 52 = .ok (.iconst 5, 1) := by decide +kernel
theorem dX6_isOn_53 : decode cX6_isOn 53 = .ok (.iconst 5, 1) := by decide +kernel
theorem dX6_isOn_54 : decode cX6_isOn 54 = .ok (.iconst 1, 1) := by decide +kernel
theorem dX6_isOn_55 : decode cX6_isOn 55 = .ok (.iconst 0, 1) := by decide +kernel
theorem dX6_isOn_56 : decode cX6_isOn 56 = .ok (.invokevirtual 147, 3) := by decide +kernel
theorem dX6_isOn_59 : decode cX6_isOn 59 = .ok (.aload_n 0, 1) := by decide +kernel
theorem dX6_isOn_60 : decode cX6_isOn 60 = .ok (.iconst 5, 1) := by decide +kernel
theorem dX6_isOn_61 : decode cX6_isOn 61 = .ok (.iconst 5, 1) := by decide +kernel
theorem dX6_isOn_62 : decode cX6_isOn 62 = .ok (.iload_n 1, 1) := by decide +kernel
theorem dX6_isOn_63 : decode cX6_isOn 63 = .ok (.invokestatic 135, 3) := by decide +kernel
theorem dX6_isOn_66 : decode cX6_isOn 66 = .ok (.iconst 0, 1) := by decide +kernel
theorem dX6_isOn_67 : decode cX6_isOn 67 = .ok (.invokevirtual 144, 3) := by decide +kernel
theorem dX6_isOn_70 : decode cX6_isOn 70 = .ok (.aload_n 0, 1) := by decide +kernel
theorem dX6_isOn_71 : decode cX6_isOn 71 = .ok (.iconst 5, 1) := by decide +kernel
theorem dX6_isOn_72 : decode cX6_isOn 72 = .ok (.iconst 5, 1) := by decide +kernel
theorem dX6_isOn_73 : decode cX6_isOn 73 = .ok (.iconst 2, 1) := by decide +kernel
theorem dX6_isOn_74 : decode cX6_isOn 74 = .ok (.iconst 0, 1) := by decide +kernel
theorem dX6_isOn_75 : decode cX6_isOn 75 = .ok (.invokevirtual 147, 3) := by decide +kernel
theorem dX6_isOn_78 : decode cX6_isOn 78 = .ok (.aload_n 0, 1) := by decide +kernel
theorem dX6_isOn_79 : decode cX6_isOn 79 = .ok (.bipush 6, 2) := by decide +kernel
theorem dX6_isOn_81 : decode cX6_isOn 81 = .ok (.iload_n 1, 1) := by decide +kernel
theorem dX6_isOn_82 : decode cX6_isOn 82 = .ok (.invokestatic 138, 3) := by decide +kernel
theorem dX6_isOn_85 : decode cX6_isOn 85 = .ok (.iload_n 1, 1) := by decide +kernel
theorem dX6_isOn_86 : decode cX6_isOn 86 = .ok (.invokestatic 138, 3) := by decide +kernel
theorem dX6_isOn_89 : decode cX6_isOn 89 = .ok (.iconst 0, 1) := by decide +kernel
theorem dX6_isOn_90 : decode cX6_isOn 90 = .ok (.invokevirtual 144, 3) := by decide +kernel
theorem dX6_isOn_93 : decode cX6_isOn 93 = .ok (.aload_n 0, 1) := by decide +kernel
theorem dX6_isOn_94 : decode cX6_isOn 94 = .ok (.iconst 5, 1) := by decide +kernel
theorem dX6_isOn_95 : decode cX6_isOn 95 = .ok (.bipush 6, 2) := by decide +kernel
theorem dX6_isOn_97 : decode cX6_isOn 97 = .ok (.invokevirtual 72, 3) := by decide +kernel
theorem dX6_isOn_100 : decode cX6_isOn 100 = .ok (.ifCond .ne 7, 3) := by decide +kernel
theorem dX6_isOn_103 : decode cX6_isOn 103 = .ok (.iconst 1, 1) := by decide +kernel
theorem dX6_isOn_104 : decode cX6_isOn 104 = .ok (.goto 4, 3) := by decide +kernel
theorem dX6_isOn_107 : decode cX6_isOn 107 = .ok (.iconst 0, 1) := by decide +kernel
theorem dX6_isOn_108 : decode cX6_isOn 108 = .ok (.ireturn, 1) := by decide +kernel
theorem dX6_sumPoints_0 : decode cX6_sumPoints 0 = .ok (.aload_n 0, 1) := by decide +kernel
theorem dX6_sumPoints_1 : decode cX6_sumPoints 1 = .ok (.getfield 24, 3) := by decide +kernel
theorem dX6_sumPoints_4 : decode cX6_sumPoints 4 = .ok (.iload_n 2, 1) := by decide +kernel
theorem dX6_sumPoints_5 : decode cX6_sumPoints 5 = .ok (.baload, 1) := by decide +kernel
theorem dX6_sumPoints_6 : decode cX6_sumPoints 6 = .ok (.ifCond .ne 12, 3) := by decide +kernel
theorem dX6_sumPoints_9 : decode cX6_sumPoints 9 = .ok (.aload_n 0, 1) := by decide +kernel
theorem dX6_sumPoints_10 : decode cX6_sumPoints 10 = .ok (.getfield 24, 3) := by decide +kernel
theorem dX6_sumPoints_13 : decode cX6_sumPoints 13 = .ok (.iload_n 3, 1) := by decide +kernel
theorem dX6_sumPoints_14 : decode cX6_sumPoints 14 = .ok (.baload, 1) := by decide +kernel
theorem dX6_sumPoints_15 : decode cX6_sumPoints 15 = .ok (.ifCond .eq 24, 3) := by decide +kernel
theorem dX6_sumPoints_18 : decode cX6_sumPoints 18 = .ok (.aload_n 0, 1) := by decide +kernel
theorem dX6_sumPoints_19 : decode cX6_sumPoints 19 = .ok (.iload_n 1, 1) := by decide +kernel
theorem dX6_sumPoints_20 : decode cX6_sumPoints 20 = .ok (.aload_n 0, 1) := by decide +kernel
theorem dX6_sumPoints_21 : decode cX6_sumPoints 21 = .ok (.getfield 24, 3) := by decide +kernel
theorem dX6_sumPoints_24 : decode cX6_sumPoints 24 = .ok (.iload_n 2, 1) := by decide +kernel
theorem dX6_sumPoints_25 : decode cX6_sumPoints 25 = .ok (.baload, 1) := by decide +kernel
theorem dX6_sumPoints_26 : decode cX6_sumPoints 26 = .ok (.ifCond .eq 7, 3) := by decide +kernel
theorem dX6_sumPoints_29 : decode cX6_sumPoints 29 = .ok (.iload_n 3, 1) := by decide +kernel
theorem dX6_sumPoints_30 : decode cX6_sumPoints 30 = .ok (.goto 4, 3) := by decide +kernel
theorem dX6_sumPoints_33 : decode cX6_sumPoints 33 = .ok (.iload_n 2, 1) := by decide +kernel
theorem dX6_sumPoints_34 : decode cX6_sumPoints 34 = .ok (.invokevirtual 150, 3) := by decide +kernel
theorem dX6_sumPoints_37 : decode cX6_sumPoints 37 = .ok (.iconst 1, 1) := by decide +kernel
theorem dX6_sumPoints_38 : decode cX6_sumPoints 38 = .ok (.ireturn, 1) := by decide +kernel
theorem dX6_sumPoints_39 : decode cX6_sumPoints 39 = .ok (.aload_n 0, 1) := by decide +kernel
theorem dX6_sumPoints_40 : decode cX6_sumPoints 40 = .ok (.iload_n 2, 1) := by decide +kernel
theorem dX6_sumPoints_41 : decode cX6_sumPoints 41 = .ok (.invokestatic 135, 3) := by decide +kernel
theorem dX6_sumPoints_44 : decode cX6_sumPoints 44 = .ok (.iload_n 3, 1) := by decide +kernel
theorem dX6_sumPoints_45 : decode cX6_sumPoints 45 = .ok (.invokestatic 135, 3) := by decide +kernel
theorem dX6_sumPoints_48 : decode cX6_sumPoints 48 = .ok (.invokevirtual 72, 3) := by decide +kernel
theorem dX6_sumPoints_51 : decode cX6_sumPoints 51 = .ok (.ifCond .ne 79, 3) := by decide +kernel
theorem dX6_sumPoints_54 : decode cX6_sumPoints 54 = .ok (.aload_n 0, 1) := by decide +kernel
theorem dX6_sumPoints_55 : decode cX6_sumPoints 55 = .ok (.bipush 6, 2) := by decide +kernel
theorem dX6_sumPoints_57 : decode cX6_sumPoints 57 = .ok (.iload_n 2, 1) := by decide +kernel
theorem dX6_sumPoints_58 : decode cX6_sumPoints 58 = .ok (.invokestatic 138, 3) := by decide +kernel
theorem dX6_sumPoints_61 : decode cX6_sumPoints 61 = .ok (.iload_n 3, 1) := by decide +kernel
theorem dX6_sumPoints_62 : decode cX6_sumPoints 62 = .ok (.invokestatic 138, 3) := by decide +kernel
theorem dX6_sumPoints_65 : decode cX6_sumPoints 65 = .ok (.iconst 0, 1) := by decide +kernel
theorem dX6_sumPoints_66 : decode cX6_sumPoints 66 = .ok (.invokevirtual 147, 3) := by decide +kernel
theorem dX6_sumPoints_69 : decode cX6_sumPoints 69 = .ok (.aload_n 0, 1) := by decide +kernel
theorem dX6_sumPoints_70 : decode cX6_sumPoints 70 = .ok (.bipush 6, 2) := by decide +kernel
theorem dX6_sumPoints_72 : decode cX6_sumPoints 72 = .ok (.invokevirtual 115, 3) := by decide +kernel
theorem dX6_sumPoints_75 : decode cX6_sumPoints 75 = .ok (.ifCond .eq 12, 3) := by decide +kernel
theorem dX6_sumPoints_78 : decode cX6_sumPoints 78 = .ok (.aload_n 0, 1) := by decide +kernel
theorem dX6_sumPoints_79 : decode cX6_sumPoints 79 = .ok (.getfield 24, 3) := by decide +kernel
theorem dX6_sumPoints_82 : decode cX6_sumPoints 82 = .ok (.iload_n 1, 1) := by decide +kernel
theorem dX6_sumPoints_83 : decode cX6_sumPoints 83 = .ok (.iconst 1, 1) := by decide +kernel
theorem dX6_sumPoints_84 : decode cX6_sumPoints 84 = .ok (.bastore, 1) := by decide +kernel
theorem dX6_sumPoints_85 : decode cX6_sumPoints 85 = .ok (.iconst 1, 1) := by decide +kernel
theorem dX6_sumPoints_86 : decode cX6_sumPoints 86 = .ok (.ireturn, 1) := by decide +kernel
theorem dX6_sumPoints_87 : decode cX6_sumPoints 87 = .ok (.aload_n 0, 1) := by decide +kernel
theorem dX6_sumPoints_88 : decode cX6_sumPoints 88 = .ok (.iconst 5, 1) := by decide +kernel
theorem dX6_sumPoints_89 : decode cX6_sumPoints 89 = .ok (.iload_n 2, 1) := by decide +kernel
theorem dX6_sumPoints_90 : decode cX6_sumPoints 90 = .ok (.invokestatic 135, 3) := by decide +kernel
theorem dX6_sumPoints_93 : decode cX6_sumPoints 93 = .ok (.iload_n 2, 1) := by decide +kernel
theorem dX6_sumPoints_94 : decode cX6_sumPoints 94 = .ok (.invokestatic 135, 3) := by decide +kernel
theorem dX6_sumPoints_97 : decode cX6_sumPoints 97 = .ok (.iconst 0, 1) := by decide +kernel
theorem dX6_sumPoints_98 : decode cX6_sumPoints 98 = .ok (.invokevirtual 144, 3) := by decide +kernel
theorem dX6_sumPoints_101 : decode cX6_sumPoints 101 = .ok (.aload_n 0, 1) := by decide +kernel
theorem dX6_sumPoints_102 : decode cX6_sumPoints 102 = .ok (.bipush 7, 2) := by decide +kernel
theorem dX6_sumPoints_104 : decode cX6_sumPoints 104 = .ok (.iconst 5, 1) := by decide +kernel
theorem dX6_sumPoints_105 : decode cX6_sumPoints 105 = .ok (.iconst 5, 1) := by decide +kernel
theorem dX6_sumPoints_106 : decode cX6_sumPoints 106 = .ok (.iconst 0, 1) := by decide +kernel
theorem dX6_sumPoints_107 : decode cX6_sumPoints 107 = .ok (.invokevirtual 147, 3) := by decide +kernel
theorem dX6_sumPoints_110 : decode cX6_sumPoints 110 = .ok (.aload_n 0, 1) := by decide +kernel
theorem dX6_sumPoints_111 : decode cX6_sumPoints 111 = .ok (.iconst 5, 1) := by decide +kernel
theorem dX6_sumPoints_112 : decode cX6_sumPoints 112 = .ok (.bipush 7, 2) := by decide +kernel
theorem dX6_sumPoints_114 : decode cX6_sumPoints 114 = .ok (.iconst 5, 1) := by decide +kernel
theorem dX6_sumPoints_115 : decode cX6_sumPoints 115 = .ok (.iconst 0, 1) := by decide +kernel
theorem dX6_sumPoints_116 : decode cX6_sumPoints 116 = .ok (.invokevirtual 147, 3) := by decide +kernel
theorem dX6_sumPoints_119 : decode cX6_sumPoints 119 = .ok (.aload_n 0, 1) := by decide +kernel
theorem dX6_sumPoints_120 : decode cX6_sumPoints 120 = .ok (.iconst 5, 1) := by decide +kernel
theorem dX6_sumPoints_121 : decode cX6_sumPoints 121 = .ok (.iconst 5, 1) := by decide +kernel
theorem dX6_sumPoints_122 : decode cX6_sumPoints 122 = .ok (.iconst 1, 1) := by decide +kernel
theorem dX6_sumPoints_123 : decode cX6_sumPoints 123 = .ok (.iconst 0, 1) := by decide +kernel
theorem dX6_sumPoints_124 : decode cX6_sumPoints 124 = .ok (.invokevirtual 147, 3) := by decide +kernel
theorem dX6_sumPoints_127 : decode cX6_sumPoints 127 = .ok (.goto 32, 3) := by decide +kernel
theorem dX6_sumPoints_130 : decode cX6_sumPoints 130 = .ok (.aload_n 0, 1) := by decide +kernel
theorem dX6_sumPoints_131 : decode cX6_sumPoints 131 = .ok (.iconst 5, 1) := by decide +kernel
theorem dX6_sumPoints_132 : decode cX6_sumPoints 132 = .ok (.iload_n 3, 1) := by decide +kernel
theorem dX6_sumPoints_133 : decode cX6_sumPoints 133 = .ok (.invokestatic 138, 3) := by decide +kernel
theorem dX6_sumPoints_136 : decode cX6_sumPoints 136 = .ok (.iload_n 2, 1) := by decide +kernel
theorem dX6_sumPoints_137 : decode cX6_sumPoints 137 = .ok (.invokestatic 138, 3) := by decide +kernel
theorem dX6_sumPoints_140 : decode cX6_sumPoints 140 = .ok (.iconst 0, 1) := by decide +kernel
theorem dX6_sumPoints_141 : decode cX6_sumPoints 141 = .ok (.invokevirtual 124, 3) := by decide +kernel
theorem dX6_sumPoints_144 : decode cX6_sumPoints 144 = .ok (.aload_n 0, 1) := by decide +kernel
theorem dX6_sumPoints_145 : decode cX6_sumPoints 145 = .ok (.bipush 6, 2) := by decide +kernel
theorem dX6_sumPoints_147 : decode cX6_sumPoints 147 = .ok (.iload_n 3, 1) := by decide +kernel
theorem dX6_sumPoints_148 : decode cX6_sumPoints 148 = .ok (.invokestatic 135, 3) := by decide +kernel
theorem dX6_sumPoints_151 : decode cX6_sumPoints 151 = .ok (.iload_n 2, 1) := by decide +kernel
theorem dX6_sumPoints_152 : decode cX6_sumPoints 152 = .ok (.invokestatic 135, 3) := by decide +kernel
theorem dX6_sumPoints_155 : decode cX6_sumPoints 155 = .ok (.iconst 0, 1) := by decide +kernel
theorem dX6_sumPoints_156 : decode cX6_sumPoints 156 = .ok (.invokevirtual 124, 3) := by decide +kernel
theorem dX6_sumPoints_159 : decode cX6_sumPoints 159 = .ok (.aload_n 0, 1) := by decide +kernel
theorem dX6_sumPoints_160 : decode cX6_sumPoints 160 = .ok (.bipush 7, 2) := by decide +kernel
theorem dX6_sumPoints_162 : decode cX6_sumPoints 162 = .ok (.bipush 6, 2) := by decide +kernel
theorem dX6_sumPoints_164 : decode cX6_sumPoints 164 = .ok (.iconst 0, 1) := by decide +kernel
theorem dX6_sumPoints_165 : decode cX6_sumPoints 165 = .ok (.invokevirtual 128, 3) := by decide +kernel
theorem dX6_sumPoints_168 : decode cX6_sumPoints 168 = .ok (.ifCond .ne 5, 3) := by decide +kernel
theorem dX6_sumPoints_171 : decode cX6_sumPoints 171 = .ok (.iconst 0, 1) := by decide +kernel
theorem dX6_sumPoints_172 : decode cX6_sumPoints 172 = .ok (.ireturn, 1) := by decide +kernel
theorem dX6_sumPoints_173 : decode cX6_sumPoints 173 = .ok (.aload_n 0, 1) := by decide +kernel
theorem dX6_sumPoints_174 : decode cX6_sumPoints 174 = .ok (.iconst 5, 1) := by decide +kernel
theorem dX6_sumPoints_175 : decode cX6_sumPoints 175 = .ok (.iconst 5, 1) := by decide +kernel
theorem dX6_sumPoints_176 : decode cX6_sumPoints 176 = .ok (.bipush 7, 2) := by decide +kernel
theorem dX6_sumPoints_178 : decode cX6_sumPoints 178 = .ok (.iconst 0, 1) := by decide +kernel
theorem dX6_sumPoints_179 : decode cX6_sumPoints 179 = .ok (.invokevirtual 144, 3) := by decide +kernel
theorem dX6_sumPoints_182 : decode cX6_sumPoints 182 = .ok (.aload_n 0, 1) := by decide +kernel
theorem dX6_sumPoints_183 : decode cX6_sumPoints 183 = .ok (.bipush 7, 2) := by decide +kernel
theorem dX6_sumPoints_185 : decode cX6_sumPoints 185 = .ok (.iconst 5, 1) := by decide +kernel
theorem dX6_sumPoints_186 : decode cX6_sumPoints 186 = .ok (.iconst 5, 1) := by decide +kernel
theorem dX6_sumPoints_187 : decode cX6_sumPoints 187 = .ok (.iconst 0, 1) := by decide +kernel
theorem dX6_sumPoints_188 : decode cX6_sumPoints 188 = .ok (.invokevirtual 144, 3) := by decide +kernel
theorem dX6_sumPoints_191 : decode cX6_sumPoints 191 = .ok (.aload_n 0, 1) := by decide +kernel
theorem dX6_sumPoints_192 : decode cX6_sumPoints 192 = .ok (.bipush 7, 2) := by decide +kernel
theorem dX6_sumPoints_194 : decode cX6_sumPoints 194 = .ok (.bipush 7, 2) := by decide +kernel
theorem dX6_sumPoints_196 : decode cX6_sumPoints 196 = .ok (.iload_n 2, 1) := by decide +kernel
theorem dX6_sumPoints_197 : decode cX6_sumPoints 197 = .ok (.invokestatic 135, 3) := by decide +kernel
theorem dX6_sumPoints_200 : decode cX6_sumPoints 200 = .ok (.iconst 0, 1) := by decide +kernel
theorem dX6_sumPoints_201 : decode cX6_sumPoints 201 = .ok (.invokevirtual 124, 3) := by decide +kernel
theorem dX6_sumPoints_204 : decode cX6_sumPoints 204 = .ok (.aload_n 0, 1) := by decide +kernel
theorem dX6_sumPoints_205 : decode cX6_sumPoints 205 = .ok (.bipush 7, 2) := by decide +kernel
theorem dX6_sumPoints_207 : decode cX6_sumPoints 207 = .ok (.bipush 7, 2) := by decide +kernel
theorem dX6_sumPoints_209 : decode cX6_sumPoints 209 = .ok (.iload_n 3, 1) := by decide +kernel
theorem dX6_sumPoints_210 : decode cX6_sumPoints 210 = .ok (.invokestatic 135, 3) := by decide +kernel
theorem dX6_sumPoints_213 : decode cX6_sumPoints 213 = .ok (.iconst 0, 1) := by decide +kernel
theorem dX6_sumPoints_214 : decode cX6_sumPoints 214 = .ok (.invokevirtual 124, 3) := by decide +kernel
theorem dX6_sumPoints_217 : decode cX6_sumPoints 217 = .ok (.aload_n 0, 1) := by decide +kernel
theorem dX6_sumPoints_218 : decode cX6_sumPoints 218 = .ok (.bipush 6, 2) := by decide +kernel
theorem dX6_sumPoints_220 : decode cX6_sumPoints 220 = .ok (.iload_n 2, 1) := by decide +kernel
theorem dX6_sumPoints_221 : decode cX6_sumPoints 221 = .ok (.invokestatic 135, 3) := by decide +kernel
theorem dX6_sumPoints_224 : decode cX6_sumPoints 224 = .ok (.bipush 7, 2) := by decide +kernel
theorem dX6_sumPoints_226 : decode cX6_sumPoints 226 = .ok (.iconst 0, 1) := by decide +kernel
theorem dX6_sumPoints_227 : decode cX6_sumPoints 227 = .ok (.invokevirtual 124, 3) := by decide +kernel
theorem dX6_sumPoints_230 : decode cX6_sumPoints 230 = .ok (.aload_n 0, 1) := by decide +kernel
theorem dX6_sumPoints_231 : decode cX6_sumPoints 231 = .ok (.bipush 6, 2) := by decide +kernel
theorem dX6_sumPoints_233 : decode cX6_sumPoints 233 = .ok (.bipush 6, 2) := by decide +kernel
theorem dX6_sumPoints_235 : decode cX6_sumPoints 235 = .ok (.iconst 5, 1) := by decide +kernel
theorem dX6_sumPoints_236 : decode cX6_sumPoints 236 = .ok (.iconst 0, 1) := by decide +kernel
theorem dX6_sumPoints_237 : decode cX6_sumPoints 237 = .ok (.invokevirtual 144, 3) := by decide +kernel
theorem dX6_sumPoints_240 : decode cX6_sumPoints 240 = .ok (.aload_n 0, 1) := by decide +kernel
theorem dX6_sumPoints_241 : decode cX6_sumPoints 241 = .ok (.bipush 6, 2) := by decide +kernel
theorem dX6_sumPoints_243 : decode cX6_sumPoints 243 = .ok (.bipush 6, 2) := by decide +kernel
theorem dX6_sumPoints_245 : decode cX6_sumPoints 245 = .ok (.iload_n 2, 1) := by decide +kernel
theorem dX6_sumPoints_246 : decode cX6_sumPoints 246 = .ok (.invokestatic 138, 3) := by decide +kernel
theorem dX6_sumPoints_249 : decode cX6_sumPoints 249 = .ok (.iconst 0, 1) := by decide +kernel
theorem dX6_sumPoints_250 : decode cX6_sumPoints 250 = .ok (.invokevirtual 124, 3) := by decide +kernel
theorem dX6_sumPoints_253 : decode cX6_sumPoints 253 = .ok (.aload_n 0, 1) := by decide +kernel
theorem dX6_sumPoints_254 : decode cX6_sumPoints 254 = .ok (.getfield 24, 3) := by decide +kernel
theorem dX6_sumPoints_257 : decode cX6_sumPoints 257 = .ok (.iload_n 1, 1) := by decide +kernel
theorem dX6_sumPoints_258 : decode cX6_sumPoints 258 = .ok (.iconst 0, 1) := by decide +kernel
theorem dX6_sumPoints_259 : decode cX6_sumPoints 259 = .ok (.bastore, 1) := by decide +kernel
theorem dX6_sumPoints_260 : decode cX6_sumPoints 260 = .ok (.aload_n 0, 1) := by decide +kernel
theorem dX6_sumPoints_261 : decode cX6_sumPoints 261 = .ok (.iload_n 1, 1) := by decide +kernel
theorem dX6_sumPoints_262 : decode cX6_sumPoints 262 = .ok (.invokestatic 135, 3) := by decide +kernel
theorem dX6_sumPoints_265 : decode cX6_sumPoints 265 = .ok (.bipush 7, 2) := by decide +kernel
theorem dX6_sumPoints_267 : decode cX6_sumPoints 267 = .ok (.invokevirtual 112, 3) := by decide +kernel
theorem dX6_sumPoints_270 : decode cX6_sumPoints 270 = .ok (.aload_n 0, 1) := by decide +kernel
theorem dX6_sumPoints_271 : decode cX6_sumPoints 271 = .ok (.iload_n 1, 1) := by decide +kernel
theorem dX6_sumPoints_272 : decode cX6_sumPoints 272 = .ok (.invokestatic 138, 3) := by decide +kernel
theorem dX6_sumPoints_275 : decode cX6_sumPoints 275 = .ok (.bipush 6, 2) := by decide +kernel
theorem dX6_sumPoints_277 : decode cX6_sumPoints 277 = .ok (.invokevirtual 112, 3) := by decide +kernel
theorem dX6_sumPoints_280 : decode cX6_sumPoints 280 = .ok (.iconst 1, 1) := by decide +kernel
theorem dX6_sumPoints_281 : decode cX6_sumPoints 281 = .ok (.ireturn, 1) := by decide +kernel
