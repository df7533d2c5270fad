theorem d_M_black_85 : decode b_M_black 85 = .ok (.iconst 0, 1) := by decide +kernel
theorem d_M_black_86 : decode b_M_black 86 = .ok (.istore_n 3, 1) := by decide +kernel
theorem d_M_black_87 : decode b_M_black 87 = .ok (.iload_n 3, 1) := by decide +kernel
theorem d_M_black_88 : decode b_M_black 88 = .ok (.aload_n 0, 1) := by decide +kernel
theorem d_M_black_89 : decode b_M_black 89 = .ok (.getfield 102, 3) := by decide +kernel
theorem d_M_black_92 : decode b_M_black 92 = .ok (.if_icmp .ge 97, 3) := by decide +kernel
theorem d_M_black_95 : decode b_M_black 95 = .ok (.aload_n 0, 1) := by decide +kernel
theorem d_M_black_96 : decode b_M_black 96 = .ok (.getfield 74, 3) := by decide +kernel
theorem d_M_black_99 : decode b_M_black 99 = .ok (.iload_n 3, 1) := by decide +kernel
theorem d_M_black_100 : decode b_M_black 100 = .ok (.iconst (-1), 1) := by decide +kernel
theorem d_M_black_101 : decode b_M_black 101 = .ok (.iastore, 1) := by decide +kernel
theorem d_M_black_102 : decode b_M_black 102 = .ok (.aload_n 0, 1) := by decide +kernel
theorem d_M_black_103 : decode b_M_black 103 = .ok (.iload_n 3, 1) := by decide +kernel
theorem d_M_black_104 : decode b_M_black 104 = .ok (.invokevirtual 152, 3) := by decide +kernel
theorem d_M_black_107 : decode b_M_black 107 = .ok (.ifCond .eq 76, 3) := by decide +kernel
theorem d_M_black_110 : decode b_M_black 110 = .ok (.iload_n 3, 1) := by decide +kernel
theorem d_M_black_111 : decode b_M_black 111 = .ok (.iconst 1, 1) := by decide +kernel
theorem d_M_black_112 : decode b_M_black 112 = .ok (.isub, 1) := by decide +kernel
theorem d_M_black_113 : decode b_M_black 113 = .ok (.istore 4, 2) := by decide +kernel
theorem d_M_black_115 : decode b_M_black 115 = .ok (.iload 4, 2) := by decide +kernel
theorem d_M_black_117 : decode b_M_black 117 = .ok (.ifCond .lt 41, 3) := by decide +kernel
theorem d_M_black_120 : decode b_M_black 120 = .ok (.aload_n 0, 1) := by decide +kernel
theorem d_M_black_121 : decode b_M_black 121 = .ok (.getfield 74, 3) := by decide +kernel
theorem d_M_black_124 : decode b_M_black 124 = .ok (.iload_n 3, 1) := by decide +kernel
theorem d_M_black_125 : decode b_M_black 125 = .ok (.aload_n 0, 1) := by decide +kernel
theorem d_M_black_126 : decode b_M_black 126 = .ok (.iload_n 3, 1) := by decide +kernel
theorem d_M_black_127 : decode b_M_black 127 = .ok (.iload 4, 2) := by decide +kernel
theorem d_M_black_129 : decode b_M_black 129 = .ok (.invokevirtual 156, 3) := by decide +kernel
theorem d_M_black_132 : decode b_M_black 132 = .ok (.ifCond .eq 13, 3) := by decide +kernel
theorem d_M_black_135 : decode b_M_black 135 = .ok (.aload_n 0, 1) := by decide +kernel
theorem d_M_black_136 : decode b_M_black 136 = .ok (.getfield 74, 3) := by decide +kernel
theorem d_M_black_139 : decode b_M_black 139 = .ok (.iload 4, 2) := by decide +kernel
theorem d_M_black_141 : decode b_M_black 141 = .ok (.iaload, 1) := by decide +kernel
theorem d_M_black_142 : decode b_M_black 142 = .ok (.goto 9, 3) := by decide +kernel
theorem d_M_black_145 : decode b_M_black 145 = .ok (.aload_n 0, 1) := by decide +kernel
theorem d_M_black_146 : decode b_M_black 146 = .ok (.getfield 74, 3) := by decide +kernel
theorem d_M_black_149 : decode b_M_black 149 = .ok (.iload_n 3, 1) := by decide +kernel
theorem d_M_black_150 : decode b_M_black 150 = .ok (.iaload, 1) := by decide +kernel
theorem d_M_black_151 : decode b_M_black 151 = .ok (.iastore, 1) := by decide +kernel
theorem d_M_black_152 : decode b_M_black 152 = .ok (.iinc 4 (-1), 3) := by decide +kernel
theorem d_M_black_155 : decode b_M_black 155 = .ok (.goto (-40), 3) := by decide +kernel
theorem d_M_black_158 : decode b_M_black 158 = .ok (.aload_n 0, 1) := by decide +kernel
theorem d_M_black_159 : decode b_M_black 159 = .ok (.getfield 74, 3) := by decide +kernel
theorem d_M_black_162 : decode b_M_black 162 = .ok (.iload_n 3, 1) := by decide +kernel
theorem d_M_black_163 : decode b_M_black 163 = .ok (.iaload, 1) := by decide +kernel
theorem d_M_black_164 : decode b_M_black 164 = .ok (.iconst (-1), 1) := by decide +kernel
theorem d_M_black_165 : decode b_M_black 165 = .ok (.if_icmp .ne 18, 3) := by decide +kernel
theorem d_M_black_168 : decode b_M_black 168 = .ok (.aload_n 0, 1) := by decide +kernel
theorem d_M_black_169 : decode b_M_black 169 = .ok (.getfield 74, 3) := by decide +kernel
theorem d_M_black_172 : decode b_M_black 172 = .ok (.iload_n 3, 1) := by decide +kernel
theorem d_M_black_173 : decode b_M_black 173 = .ok (.aload_n 0, 1) := by decide +kernel
theorem d_M_black_174 : decode b_M_black 174 = .ok (.getfield 83, 3) := by decide +kernel
theorem d_M_black_177 : decode b_M_black 177 = .ok (.iload_n 2, 1) := by decide +kernel
theorem d_M_black_178 : decode b_M_black 178 = .ok (.iadd, 1) := by decide +kernel
theorem d_M_black_179 : decode b_M_black 179 = .ok (.iastore, 1) := by decide +kernel
theorem d_M_black_180 : decode b_M_black 180 = .ok (.iinc 2 1, 3) := by decide +kernel
theorem d_M_black_183 : decode b_M_black 183 = .ok (.iinc 3 1, 3) := by decide +kernel
theorem d_M_black_186 : decode b_M_black 186 = .ok (.goto (-99), 3) := by decide +kernel
theorem d_M_black_189 : decode b_M_black 189 = .ok (.aload_n 0, 1) := by decide +kernel
theorem d_M_black_190 : decode b_M_black 190 = .ok (.aload_n 0, 1) := by decide +kernel
theorem d_M_black_191 : decode b_M_black 191 = .ok (.getfield 83, 3) := by decide +kernel
theorem d_M_black_194 : decode b_M_black 194 = .ok (.iload_n 2, 1) := by decide +kernel
theorem d_M_black_195 : decode b_M_black 195 = .ok (.iadd, 1) := by decide +kernel
theorem d_M_black_196 : decode b_M_black 196 = .ok (.bipush 20, 2) := by decide +kernel
theorem d_M_black_198 : decode b_M_black 198 = .ok (.if_icmp .le 7, 3) := by decide +kernel
theorem d_M_black_201 : decode b_M_black 201 = .ok (.iconst 1, 1) := by decide +kernel
theorem d_M_black_202 : decode b_M_black 202 = .ok (.goto 4, 3) := by decide +kernel
theorem d_M_black_205 : decode b_M_black 205 = .ok (.iconst 0, 1) := by decide +kernel
theorem d_M_black_206 : decode b_M_black 206 = .ok (.putfield 87, 3) := by decide +kernel
theorem d_M_black_209 : decode b_M_black 209 = .ok (.aload_n 0, 1) := by decide +kernel
theorem d_M_black_210 : decode b_M_black 210 = .ok (.getfield 87, 3) := by decide +kernel
theorem d_M_black_213 : decode b_M_black 213 = .ok (.ifCond .le 5, 3) := by decide +kernel
theorem d_M_black_216 : decode b_M_black 216 = .ok (.iconst 0, 1) := by decide +kernel
theorem d_M_black_217 : decode b_M_black 217 = .ok (.ireturn, 1) := by decide +kernel
theorem d_M_black_218 : decode b_M_black 218 = .ok (.iconst 0, 1) := by decide +kernel
theorem d_M_black_219 : decode b_M_black 219 = .ok (.istore_n 3, 1) := by decide +kernel
theorem d_M_black_220 : decode b_M_black 220 = .ok (.iload_n 3, 1) := by decide +kernel
theorem d_M_black_221 : decode b_M_black 221 = .ok (.iconst 4, 1) := by decide +kernel
theorem d_M_black_222 : decode b_M_black 222 = .ok (.if_icmp .ge 19, 3) := by decide +kernel
theorem d_M_black_225 : decode b_M_black 225 = .ok (.aload_n 0, 1) := by decide +kernel
theorem d_M_black_226 : decode b_M_black 226 = .ok (.iload_n 3, 1) := by decide +kernel
theorem d_M_black_227 : decode b_M_black 227 = .ok (.iload_n 3, 1) := by decide +kernel
theorem d_M_black_228 : decode b_M_black 228 = .ok (.bipush 40, 2) := by decide +kernel
theorem d_M_black_230 : decode b_M_black 230 = .ok (.iload_n 3, 1) := by decide +kernel
theorem d_M_black_231 : decode b_M_black 231 = .ok (.imul, 1) := by decide +kernel
theorem d_M_black_232 : decode b_M_black 232 = .ok (.invokevirtual 159, 3) := by decide +kernel
theorem d_M_black_235 : decode b_M_black 235 = .ok (.iinc 3 1, 3) := by decide +kernel
theorem d_M_black_238 : decode b_M_black 238 = .ok (.goto (-18), 3) := by decide +kernel
theorem d_M_black_241 : decode b_M_black 241 = .ok (.iconst 0, 1) := by decide +kernel
theorem d_M_black_242 : decode b_M_black 242 = .ok (.istore_n 3, 1) := by decide +kernel
theorem d_M_black_243 : decode b_M_black 243 = .ok (.iload_n 3, 1) := by decide +kernel
theorem d_M_black_244 : decode b_M_black 244 = .ok (.aload_n 0, 1) := by decide +kernel
theorem d_M_black_245 : decode b_M_black 245 = .ok (.getfield 102, 3) := by decide +kernel
theorem d_M_black_248 : decode b_M_black 248 = .ok (.if_icmp .ge 43, 3) := by decide +kernel
theorem d_M_black_251 : decode b_M_black 251 = .ok (.aload_n 0, 1) := by decide +kernel
theorem d_M_black_252 : decode b_M_black 252 = .ok (.getfield 74, 3) := by decide +kernel
theorem d_M_black_255 : decode b_M_black 255 = .ok (.iload_n 3, 1) := by decide +kernel
theorem d_M_black_256 : decode b_M_black 256 = .ok (.iaload, 1) := by decide +kernel
theorem d_M_black_257 : decode b_M_black 257 = .ok (.iconst (-1), 1) := by decide +kernel
theorem d_M_black_258 : decode b_M_black 258 = .ok (.if_icmp .eq 27, 3) := by decide +kernel
theorem d_M_black_261 : decode b_M_black 261 = .ok (.aload_n 0, 1) := by decide +kernel
theorem d_M_black_262 : decode b_M_black 262 = .ok (.iconst 4, 1) := by decide +kernel
theorem d_M_black_263 : decode b_M_black 263 = .ok (.aload_n 0, 1) := by decide +kernel
theorem d_M_black_264 : decode b_M_black 264 = .ok (.getfield 28, 3) := by decide +kernel
theorem d_M_black_267 : decode b_M_black 267 = .ok (.iload_n 3, 1) := by decide +kernel
theorem d_M_black_268 : decode b_M_black 268 = .ok (.iaload, 1) := by decide +kernel
theorem d_M_black_269 : decode b_M_black 269 = .ok (.iadd, 1) := by decide +kernel
theorem d_M_black_270 : decode b_M_black 270 = .ok (.iconst 4, 1) := by decide +kernel
theorem d_M_black_271 : decode b_M_black 271 = .ok (.aload_n 0, 1) := by decide +kernel
theorem d_M_black_272 : decode b_M_black 272 = .ok (.getfield 74, 3) := by decide +kernel
theorem d_M_black_275 : decode b_M_black 275 = .ok (.iload_n 3, 1) := by decide +kernel
theorem d_M_black_276 : decode b_M_black 276 = .ok (.iaload, 1) := by decide +kernel
theorem d_M_black_277 : decode b_M_black 277 = .ok (.iadd, 1) := by decide +kernel
theorem d_M_black_278 : decode b_M_black 278 = .ok (.iload_n 3, 1) := by decide +kernel
theorem d_M_black_279 : decode b_M_black 279 = .ok (.invokestatic 136, 3) := by decide +kernel
theorem d_M_black_282 : decode b_M_black 282 = .ok (.invokevirtual 159, 3) := by decide +kernel
theorem d_M_black_285 : decode b_M_black 285 = .ok (.iinc 3 1, 3) := by decide +kernel
theorem d_M_black_288 : decode b_M_black 288 = .ok (.goto (-45), 3) := by decide +kernel
theorem d_M_black_291 : decode b_M_black 291 = .ok (.iconst 0, 1) := by decide +kernel
theorem d_M_black_292 : decode b_M_black 292 = .ok (.istore_n 3, 1) := by decide +kernel
theorem d_M_black_293 : decode b_M_black 293 = .ok (.iload_n 3, 1) := by decide +kernel
theorem d_M_black_294 : decode b_M_black 294 = .ok (.aload_n 0, 1) := by decide +kernel
theorem d_M_black_295 : decode b_M_black 295 = .ok (.getfield 102, 3) := by decide +kernel
theorem d_M_black_298 : decode b_M_black 298 = .ok (.if_icmp .ge 40, 3) := by decide +kernel
theorem d_M_black_301 : decode b_M_black 301 = .ok (.aload_n 0, 1) := by decide +kernel
theorem d_M_black_302 : decode b_M_black 302 = .ok (.getfield 28, 3) := by decide +kernel
theorem d_M_black_305 : decode b_M_black 305 = .ok (.iload_n 3, 1) := by decide +kernel
theorem d_M_black_306 : decode b_M_black 306 = .ok (.aload_n 0, 1) := by decide +kernel
theorem d_M_black_307 : decode b_M_black 307 = .ok (.getfield 74, 3) := by decide +kernel
theorem d_M_black_310 : decode b_M_black 310 = .ok (.iload_n 3, 1) := by decide +kernel
theorem d_M_black_311 : decode b_M_black 311 = .ok (.iaload, 1) := by decide +kernel
theorem d_M_black_312 : decode b_M_black 312 = .ok (.iconst (-1), 1) := by decide +kernel
theorem d_M_black_313 : decode b_M_black 313 = .ok (.if_icmp .eq 12, 3) := by decide +kernel
theorem d_M_black_316 : decode b_M_black 316 = .ok (.aload_n 0, 1) := by decide +kernel
theorem d_M_black_317 : decode b_M_black 317 = .ok (.getfield 74, 3) := by decide +kernel
theorem d_M_black_320 : decode b_M_black 320 = .ok (.iload_n 3, 1) := by decide +kernel
theorem d_M_black_321 : decode b_M_black 321 = .ok (.iaload, 1) := by decide +kernel
theorem d_M_black_322 : decode b_M_black 322 = .ok (.goto 9, 3) := by decide +kernel
theorem d_M_black_325 : decode b_M_black 325 = .ok (.aload_n 0, 1) := by decide +kernel
theorem d_M_black_326 : decode b_M_black 326 = .ok (.getfield 28, 3) := by decide +kernel
theorem d_M_black_329 : decode b_M_black 329 = .ok (.iload_n 3, 1) := by decide +kernel
theorem d_M_black_330 : decode b_M_black 330 = .ok (.iaload, 1) := by decide +kernel
theorem d_M_black_331 : decode b_M_black 331 = .ok (.iastore, 1) := by decide +kernel
theorem d_M_black_332 : decode b_M_black 332 = .ok (.iinc 3 1, 3) := by decide +kernel
theorem d_M_black_335 : decode b_M_black 335 = .ok (.goto (-42), 3) := by decide +kernel
theorem d_M_black_338 : decode b_M_black 338 = .ok (.aload_n 0, 1) := by decide +kernel
theorem d_M_black_339 : decode b_M_black 339 = .ok (.aload_n 0, 1) := by decide +kernel
theorem d_M_black_340 : decode b_M_black 340 = .ok (.getfield 83, 3) := by decide +kernel
theorem d_M_black_343 : decode b_M_black 343 = .ok (.iload_n 2, 1) := by decide +kernel
theorem d_M_black_344 : decode b_M_black 344 = .ok (.iadd, 1) := by decide +kernel
theorem d_M_black_345 : decode b_M_black 345 = .ok (.putfield 83, 3) := by decide +kernel
theorem d_M_black_348 : decode b_M_black 348 = .ok (.iconst 0, 1) := by decide +kernel
theorem d_M_black_349 : decode b_M_black 349 = .ok (.istore_n 3, 1) := by decide +kernel
theorem d_M_black_350 : decode b_M_black 350 = .ok (.iload_n 3, 1) := by decide +kernel
theorem d_M_black_351 : decode b_M_black 351 = .ok (.aload_n 0, 1) := by decide +kernel
theorem d_M_black_352 : decode b_M_black 352 = .ok (.getfield 111, 3) := by decide +kernel
theorem d_M_black_355 : decode b_M_black 355 = .ok (.if_icmp .ge 17, 3) := by decide +kernel
theorem d_M_black_358 : decode b_M_black 358 = .ok (.iload_n 1, 1) := by decide +kernel
theorem d_M_black_359 : decode b_M_black 359 = .ok (.aload_n 0, 1) := by decide +kernel
theorem d_M_black_360 : decode b_M_black 360 = .ok (.iload_n 3, 1) := by decide +kernel
theorem d_M_black_361 : decode b_M_black 361 = .ok (.invokevirtual 163, 3) := by decide +kernel
theorem d_M_black_364 : decode b_M_black 364 = .ok (.iadd, 1) := by decide +kernel
theorem d_M_black_365 : decode b_M_black 365 = .ok (.istore_n 1, 1) := by decide +kernel
theorem d_M_black_366 : decode b_M_black 366 = .ok (.iinc 3 1, 3) := by decide +kernel
theorem d_M_black_369 : decode b_M_black 369 = .ok (.goto (-19), 3) := by decide +kernel
theorem d_M_black_372 : decode b_M_black 372 = .ok (.iload_n 1, 1) := by decide +kernel
theorem d_M_black_373 : decode b_M_black 373 = .ok (.ireturn, 1) := by decide +kernel
abbrev b_M_mark : ByteArray := prog_11_method_21_code
def y_M_mark : MethodName := ⟨"RedactCheckModel", "mark", "(IIIII)I"⟩
theorem d_M_mark_0 : decode b_M_mark 0 = .ok (.aload_n 0, 1) := by decide +kernel
theorem d_M_mark_1 : decode b_M_mark 1 = .ok (.iload_n 1, 1) := by decide +kernel
theorem d_M_mark_2 : decode b_M_mark 2 = .ok (.invokevirtual 125, 3) := by decide +kernel
theorem d_M_mark_5 : decode b_M_mark 5 = .ok (.aload_n 0, 1) := by decide +kernel
theorem d_M_mark_6 : decode b_M_mark 6 = .ok (.invokevirtual 129, 3) := by decide +kernel
theorem d_M_mark_9 : decode b_M_mark 9 = .ok (.iconst 0, 1) := by decide +kernel
theorem d_M_mark_10 : decode b_M_mark 10 = .ok (.istore 6, 2) := by decide +kernel
theorem d_M_mark_12 : decode b_M_mark 12 = .ok (.iconst 0, 1) := by decide +kernel
theorem d_M_mark_13 : decode b_M_mark 13 = .ok (.istore 7, 2) := by decide +kernel
theorem d_M_mark_15 : decode b_M_mark 15 = .ok (.iload 7, 2) := by decide +kernel
theorem d_M_mark_17 : decode b_M_mark 17 = .ok (.bipush 40, 2) := by decide +kernel
theorem d_M_mark_19 : decode b_M_mark 19 = .ok (.if_icmp .ge 95, 3) := by decide +kernel
theorem d_M_mark_22 : decode b_M_mark 22 = .ok (.aload_n 0, 1) := by decide +kernel
theorem d_M_mark_23 : decode b_M_mark 23 = .ok (.getfield 70, 3) := by decide +kernel
theorem d_M_mark_26 : decode b_M_mark 26 = .ok (.iload 5, 2) := by decide +kernel
theorem d_M_mark_28 : decode b_M_mark 28 = .ok (.iload 7, 2) := by decide +kernel
theorem d_M_mark_30 : decode b_M_mark 30 = .ok (.iadd, 1) := by decide +kernel
theorem d_M_mark_31 : decode b_M_mark 31 = .ok (.iload 7, 2) := by decide +kernel
theorem d_M_mark_33 : decode b_M_mark 33 = .ok (.aload_n 0, 1) := by decide +kernel
theorem d_M_mark_34 : decode b_M_mark 34 = .ok (.getfield 114, 3) := by decide +kernel
theorem d_M_mark_37 : decode b_M_mark 37 = .ok (.if_icmp .ge 45, 3) := by decide +kernel
theorem d_M_mark_40 : decode b_M_mark 40 = .ok (.aload_n 0, 1) := by decide +kernel
theorem d_M_mark_41 : decode b_M_mark 41 = .ok (.getfield 77, 3) := by decide +kernel
theorem d_M_mark_44 : decode b_M_mark 44 = .ok (.iload 7, 2) := by decide +kernel
theorem d_M_mark_46 : decode b_M_mark 46 = .ok (.iaload, 1) := by decide +kernel
theorem d_M_mark_47 : decode b_M_mark 47 = .ok (.ifCond .eq 35, 3) := by decide +kernel
theorem d_M_mark_50 : decode b_M_mark 50 = .ok (.aload_n 0, 1) := by decide +kernel
theorem d_M_mark_51 : decode b_M_mark 51 = .ok (.getfield 80, 3) := by decide +kernel
theorem d_M_mark_54 : decode b_M_mark 54 = .ok (.iload 7, 2) := by decide +kernel
theorem d_M_mark_56 : decode b_M_mark 56 = .ok (.baload, 1) := by decide +kernel
theorem d_M_mark_57 : decode b_M_mark 57 = .ok (.ifCond .ne 21, 3) := by decide +kernel
theorem d_M_mark_60 : decode b_M_mark 60 = .ok (.aload_n 0, 1) := by decide +kernel
theorem d_M_mark_61 : decode b_M_mark 61 = .ok (.bipush 40, 2) := by decide +kernel
theorem d_M_mark_63 : decode b_M_mark 63 = .ok (.iload_n 1, 1) := by decide +kernel
theorem d_M_mark_64 : decode b_M_mark 64 = .ok (.imul, 1) := by decide +kernel
theorem d_M_mark_65 : decode b_M_mark 65 = .ok (.iload 7, 2) := by decide +kernel
theorem d_M_mark_67 : decode b_M_mark 67 = .ok (.iadd, 1) := by decide +kernel
theorem d_M_mark_68 : decode b_M_mark 68 = .ok (.iload_n 2, 1) := by decide +kernel
theorem d_M_mark_69 : decode b_M_mark 69 = .ok (.iload_n 3, 1) := by decide +kernel
theorem d_M_mark_70 : decode b_M_mark 70 = .ok (.iload 4, 2) := by decide +kernel
theorem d_M_mark_72 : decode b_M_mark 72 = .ok (.invokevirtual 132, 3) := by decide +kernel
theorem d_M_mark_75 : decode b_M_mark 75 = .ok (.ifCond .eq 7, 3) := by decide +kernel
theorem d_M_mark_78 : decode b_M_mark 78 = .ok (.iconst 1, 1) := by decide +kernel
theorem d_M_mark_79 : decode b_M_mark 79 = .ok (.goto 4, 3) := by decide +kernel
theorem d_M_mark_82 : decode b_M_mark 82 = .ok (.iconst 0, 1) := by decide +kernel
theorem d_M_mark_83 : decode b_M_mark 83 = .ok (.bastore, 1) := by decide +kernel
theorem d_M_mark_84 : decode b_M_mark 84 = .ok (.aload_n 0, 1) := by decide +kernel
theorem d_M_mark_85 : decode b_M_mark 85 = .ok (.getfield 70, 3) := by decide +kernel
theorem d_M_mark_88 : decode b_M_mark 88 = .ok (.iload 5, 2) := by decide +kernel
theorem d_M_mark_90 : decode b_M_mark 90 = .ok (.iload 7, 2) := by decide +kernel
theorem d_M_mark_92 : decode b_M_mark 92 = .ok (.iadd, 1) := by decide +kernel
theorem d_M_mark_93 : decode b_M_mark 93 = .ok (.baload, 1) := by decide +kernel
theorem d_M_mark_94 : decode b_M_mark 94 = .ok (.ifCond .eq 10, 3) := by decide +kernel
theorem d_M_mark_97 : decode b_M_mark 97 = .ok (.iload 6, 2) := by decide +kernel
theorem d_M_mark_99 : decode b_M_mark 99 = .ok (.iconst 1, 1) := by decide +kernel
theorem d_M_mark_100 : decode b_M_mark 100 = .ok (.iadd, 1) := by decide +kernel
theorem d_M_mark_101 : decode b_M_mark 101 = .ok (.goto 5, 3) := by decide +kernel
theorem d_M_mark_104 : decode b_M_mark 104 = .ok (.iload 6, 2) := by decide +kernel
theorem d_M_mark_106 : decode b_M_mark 106 = .ok (.istore 6, 2) := by decide +kernel
theorem d_M_mark_108 : decode b_M_mark 108 = .ok (.iinc 7 1, 3) := by decide +kernel
theorem d_M_mark_111 : decode b_M_mark 111 = .ok (.goto (-96), 3) := by decide +kernel
theorem d_M_mark_114 : decode b_M_mark 114 = .ok (.iload 6, 2) := by decide +kernel
theorem d_M_mark_116 : decode b_M_mark 116 = .ok (.ireturn, 1) := by decide +kernel
abbrev b_M_takeRow : ByteArray := prog_11_method_17_code
def y_M_takeRow : MethodName := ⟨"RedactCheckModel", "takeRow", "(I)V"⟩
theorem d_M_takeRow_0 : decode b_M_takeRow 0 = .ok (.aload_n 0, 1) := by decide +kernel
theorem d_M_takeRow_1 : decode b_M_takeRow 1 = .ok (.aload_n 0, 1) := by decide +kernel
theorem d_M_takeRow_2 : decode b_M_takeRow 2 = .ok (.getfield 7, 3) := by decide +kernel
theorem d_M_takeRow_5 : decode b_M_takeRow 5 = .ok (.iload_n 1, 1) := by decide +kernel
theorem d_M_takeRow_6 : decode b_M_takeRow 6 = .ok (.iaload, 1) := by decide +kernel
theorem d_M_takeRow_7 : decode b_M_takeRow 7 = .ok (.putfield 114, 3) := by decide +kernel
theorem d_M_takeRow_10 : decode b_M_takeRow 10 = .ok (.iconst 0, 1) := by decide +kernel
theorem d_M_takeRow_11 : decode b_M_takeRow 11 = .ok (.istore_n 2, 1) := by decide +kernel
theorem d_M_takeRow_12 : decode b_M_takeRow 12 = .ok (.iload_n 2, 1) := by decide +kernel
theorem d_M_takeRow_13 : decode b_M_takeRow 13 = .ok (.aload_n 0, 1) := by decide +kernel
theorem d_M_takeRow_14 : decode b_M_takeRow 14 = .ok (.getfield 114, 3) := by decide +kernel
theorem d_M_takeRow_17 : decode b_M_takeRow 17 = .ok (.if_icmp .ge 26, 3) := by decide +kernel
theorem d_M_takeRow_20 : decode b_M_takeRow 20 = .ok (.aload_n 0, 1) := by decide +kernel
theorem d_M_takeRow_21 : decode b_M_takeRow 21 = .ok (.getfield 77, 3) := by decide +kernel
theorem d_M_takeRow_24 : decode b_M_takeRow 24 = .ok (.iload_n 2, 1) := by decide +kernel
theorem d_M_takeRow_25 : decode b_M_takeRow 25 = .ok (.aload_n 0, 1) := by decide +kernel
theorem d_M_takeRow_26 : decode b_M_takeRow 26 = .ok (.getfield 13, 3) := by decide +kernel
theorem d_M_takeRow_29 : decode b_M_takeRow 29 = .ok (.bipush 40, 2) := by decide +kernel
theorem d_M_takeRow_31 : decode b_M_takeRow 31 = .ok (.iload_n 1, 1) := by decide +kernel
theorem d_M_takeRow_32 : decode b_M_takeRow 32 = .ok (.imul, 1) := by decide +kernel
theorem d_M_takeRow_33 : decode b_M_takeRow 33 = .ok (.iload_n 2, 1) := by decide +kernel
theorem d_M_takeRow_34 : decode b_M_takeRow 34 = .ok (.iadd, 1) := by decide +kernel
theorem d_M_takeRow_35 : decode b_M_takeRow 35 = .ok (.iaload, 1) := by decide +kernel
theorem d_M_takeRow_36 : decode b_M_takeRow 36 = .ok (.iastore, 1) := by decide +kernel
theorem d_M_takeRow_37 : decode b_M_takeRow 37 = .ok (.iinc 2 1, 3) := by decide +kernel
theorem d_M_takeRow_40 : decode b_M_takeRow 40 = .ok (.goto (-28), 3) := by decide +kernel
theorem d_M_takeRow_43 : decode b_M_takeRow 43 = .ok (.return_, 1) := by decide +kernel
abbrev b_M_findWords : ByteArray := prog_11_method_16_code
def y_M_findWords : MethodName := ⟨"RedactCheckModel", "findWords", "()V"⟩
theorem d_M_findWords_0 : decode b_M_findWords 0 = .ok (.iconst 0, 1) := by decide +kernel
theorem d_M_findWords_1 : decode b_M_findWords 1 = .ok (.istore_n 1, 1) := by decide +kernel
theorem d_M_findWords_2 : decode b_M_findWords 2 = .ok (.iload_n 1, 1) := by decide +kernel
theorem d_M_findWords_3 : decode b_M_findWords 3 = .ok (.aload_n 0, 1) := by decide +kernel
theorem d_M_findWords_4 : decode b_M_findWords 4 = .ok (.getfield 114, 3) := by decide +kernel
theorem d_M_findWords_7 : decode b_M_findWords 7 = .ok (.if_icmp .ge 16, 3) := by decide +kernel
theorem d_M_findWords_10 : decode b_M_findWords 10 = .ok (.aload_n 0, 1) := by decide +kernel
theorem d_M_findWords_11 : decode b_M_findWords 11 = .ok (.getfield 80, 3) := by decide +kernel
theorem d_M_findWords_14 : decode b_M_findWords 14 = .ok (.iload_n 1, 1) := by decide +kernel
theorem d_M_findWords_15 : decode b_M_findWords 15 = .ok (.iconst 0, 1) := by decide +kernel
theorem d_M_findWords_16 : decode b_M_findWords 16 = .ok (.bastore, 1) := by decide +kernel
theorem d_M_findWords_17 : decode b_M_findWords 17 = .ok (.iinc 1 1, 3) := by decide +kernel
theorem d_M_findWords_20 : decode b_M_findWords 20 = .ok (.goto (-18), 3) := by decide +kernel
theorem d_M_findWords_23 : decode b_M_findWords 23 = .ok (.iconst 0, 1) := by decide +kernel
theorem d_M_findWords_24 : decode b_M_findWords 24 = .ok (.istore_n 1, 1) := by decide +kernel
theorem d_M_findWords_25 : decode b_M_findWords 25 = .ok (.iload_n 1, 1) := by decide +kernel
theorem d_M_findWords_26 : decode b_M_findWords 26 = .ok (.aload_n 0, 1) := by decide +kernel
theorem d_M_findWords_27 : decode b_M_findWords 27 = .ok (.getfield 105, 3) := by decide +kernel
theorem d_M_findWords_30 : decode b_M_findWords 30 = .ok (.if_icmp .ge 61, 3) := by decide +kernel
theorem d_M_findWords_33 : decode b_M_findWords 33 = .ok (.iconst 0, 1) := by decide +kernel
theorem d_M_findWords_34 : decode b_M_findWords 34 = .ok (.istore_n 2, 1) := by decide +kernel
theorem d_M_findWords_35 : decode b_M_findWords 35 = .ok (.iload_n 2, 1) := by decide +kernel
theorem d_M_findWords_36 : decode b_M_findWords 36 = .ok (.aload_n 0, 1) := by decide +kernel
theorem d_M_findWords_37 : decode b_M_findWords 37 = .ok (.getfield 114, 3) := by decide +kernel
theorem d_M_findWords_40 : decode b_M_findWords 40 = .ok (.if_icmp .ge 45, 3) := by decide +kernel
theorem d_M_findWords_43 : decode b_M_findWords 43 = .ok (.iconst 0, 1) := by decide +kernel
theorem d_M_findWords_44 : decode b_M_findWords 44 = .ok (.istore_n 3, 1) := by decide +kernel
theorem d_M_findWords_45 : decode b_M_findWords 45 = .ok (.iload_n 3, 1) := by decide +kernel
theorem d_M_findWords_46 : decode b_M_findWords 46 = .ok (.aload_n 0, 1) := by decide +kernel
theorem d_M_findWords_47 : decode b_M_findWords 47 = .ok (.getfield 37, 3) := by decide +kernel
theorem d_M_findWords_50 : decode b_M_findWords 50 = .ok (.iload_n 1, 1) := by decide +kernel
theorem d_M_findWords_51 : decode b_M_findWords 51 = .ok (.iaload, 1) := by decide +kernel
theorem d_M_findWords_52 : decode b_M_findWords 52 = .ok (.if_icmp .ge 27, 3) := by decide +kernel
theorem d_M_findWords_55 : decode b_M_findWords 55 = .ok (.aload_n 0, 1) := by decide +kernel
theorem d_M_findWords_56 : decode b_M_findWords 56 = .ok (.iload_n 1, 1) := by decide +kernel
theorem d_M_findWords_57 : decode b_M_findWords 57 = .ok (.iload_n 2, 1) := by decide +kernel
theorem d_M_findWords_58 : decode b_M_findWords 58 = .ok (.invokevirtual 117, 3) := by decide +kernel
theorem d_M_findWords_61 : decode b_M_findWords 61 = .ok (.ifCond .eq 18, 3) := by decide +kernel
theorem d_M_findWords_64 : decode b_M_findWords 64 = .ok (.aload_n 0, 1) := by decide +kernel
theorem d_M_findWords_65 : decode b_M_findWords 65 = .ok (.getfield 80, 3) := by decide +kernel
theorem d_M_findWords_68 : decode b_M_findWords 68 = .ok (.iload_n 2, 1) := by decide +kernel
theorem d_M_findWords_69 : decode b_M_findWords 69 = .ok (.iload_n 3, 1) := by decide +kernel
theorem d_M_findWords_70 : decode b_M_findWords 70 = .ok (.iadd, 1) := by decide +kernel
theorem d_M_findWords_71 : decode b_M_findWords 71 = .ok (.iconst 1, 1) := by decide +kernel
theorem d_M_findWords_72 : decode b_M_findWords 72 = .ok (.bastore, 1) := by decide +kernel
theorem d_M_findWords_73 : decode b_M_findWords 73 = .ok (.iinc 3 1, 3) := by decide +kernel
theorem d_M_findWords_76 : decode b_M_findWords 76 = .ok (.goto (-31), 3) := by decide +kernel
theorem d_M_findWords_79 : decode b_M_findWords 79 = .ok (.iinc 2 1, 3) := by decide +kernel
theorem d_M_findWords_82 : decode b_M_findWords 82 = .ok (.goto (-47), 3) := by decide +kernel
theorem d_M_findWords_85 : decode b_M_findWords 85 = .ok (.iinc 1 1, 3) := by decide +kernel
theorem d_M_findWords_88 : decode b_M_findWords 88 = .ok (.goto (-63), 3) := by decide +kernel
theorem d_M_findWords_91 : decode b_M_findWords 91 = .ok (.return_, 1) := by decide +kernel
abbrev b_M_stands : ByteArray := prog_11_method_15_code
def y_M_stands : MethodName := ⟨"RedactCheckModel", "stands", "(II)Z"⟩
theorem d_M_stands_0 : decode b_M_stands 0 = .ok (.aload_n 0, 1) := by decide +kernel
theorem d_M_stands_1 : decode b_M_stands 1 = .ok (.getfield 37, 3) := by decide +kernel
theorem d_M_stands_4 : decode b_M_stands 4 = .ok (.iload_n 1, 1) := by decide +kernel
theorem d_M_stands_5 : decode b_M_stands 5 = .ok (.iaload, 1) := by decide +kernel
theorem d_M_stands_6 : decode b_M_stands 6 = .ok (.istore_n 3, 1) := by decide +kernel
theorem d_M_stands_7 : decode b_M_stands 7 = .ok (.iload_n 3, 1) := by decide +kernel
theorem d_M_stands_8 : decode b_M_stands 8 = .ok (.ifCond .le 17, 3) := by decide +kernel
theorem d_M_stands_11 : decode b_M_stands 11 = .ok (.iload_n 2, 1) := by decide +kernel
theorem d_M_stands_12 : decode b_M_stands 12 = .ok (.iload_n 3, 1) := by decide +kernel
theorem d_M_stands_13 : decode b_M_stands 13 = .ok (.iadd, 1) := by decide +kernel
theorem d_M_stands_14 : decode b_M_stands 14 = .ok (.aload_n 0, 1) := by decide +kernel
theorem d_M_stands_15 : decode b_M_stands 15 = .ok (.getfield 114, 3) := by decide +kernel
theorem d_M_stands_18 : decode b_M_stands 18 = .ok (.if_icmp .gt 7, 3) := by decide +kernel
theorem d_M_stands_21 : decode b_M_stands 21 = .ok (.iconst 1, 1) := by decide +kernel
theorem d_M_stands_22 : decode b_M_stands 22 = .ok (.goto 4, 3) := by decide +kernel
theorem d_M_stands_25 : decode b_M_stands 25 = .ok (.iconst 0, 1) := by decide +kernel
theorem d_M_stands_26 : decode b_M_stands 26 = .ok (.istore 4, 2) := by decide +kernel
theorem d_M_stands_28 : decode b_M_stands 28 = .ok (.iconst 0, 1) := by decide +kernel
theorem d_M_stands_29 : decode b_M_stands 29 = .ok (.istore 5, 2) := by decide +kernel
theorem d_M_stands_31 : decode b_M_stands 31 = .ok (.iload 4, 2) := by decide +kernel
theorem d_M_stands_33 : decode b_M_stands 33 = .ok (.ifCond .eq 46, 3) := by decide +kernel
theorem d_M_stands_36 : decode b_M_stands 36 = .ok (.iload 5, 2) := by decide +kernel
theorem d_M_stands_38 : decode b_M_stands 38 = .ok (.iload_n 3, 1) := by decide +kernel
theorem d_M_stands_39 : decode b_M_stands 39 = .ok (.if_icmp .ge 40, 3) := by decide +kernel
theorem d_M_stands_42 : decode b_M_stands 42 = .ok (.aload_n 0, 1) := by decide +kernel
theorem d_M_stands_43 : decode b_M_stands 43 = .ok (.getfield 77, 3) := by decide +kernel
theorem d_M_stands_46 : decode b_M_stands 46 = .ok (.iload_n 2, 1) := by decide +kernel
theorem d_M_stands_47 : decode b_M_stands 47 = .ok (.iload 5, 2) := by decide +kernel
theorem d_M_stands_49 : decode b_M_stands 49 = .ok (.iadd, 1) := by decide +kernel
theorem d_M_stands_50 : decode b_M_stands 50 = .ok (.iaload, 1) := by decide +kernel
theorem d_M_stands_51 : decode b_M_stands 51 = .ok (.aload_n 0, 1) := by decide +kernel
theorem d_M_stands_52 : decode b_M_stands 52 = .ok (.getfield 40, 3) := by decide +kernel
theorem d_M_stands_55 : decode b_M_stands 55 = .ok (.bipush 8, 2) := by decide +kernel
theorem d_M_stands_57 : decode b_M_stands 57 = .ok (.iload_n 1, 1) := by decide +kernel
theorem d_M_stands_58 : decode b_M_stands 58 = .ok (.imul, 1) := by decide +kernel
theorem d_M_stands_59 : decode b_M_stands 59 = .ok (.iload 5, 2) := by decide +kernel
theorem d_M_stands_61 : decode b_M_stands 61 = .ok (.iadd, 1) := by decide +kernel
theorem d_M_stands_62 : decode b_M_stands 62 = .ok (.iaload, 1) := by decide +kernel
theorem d_M_stands_63 : decode b_M_stands 63 = .ok (.if_icmp .ne 7, 3) := by decide +kernel
theorem d_M_stands_66 : decode b_M_stands 66 = .ok (.iconst 1, 1) := by decide +kernel
theorem d_M_stands_67 : decode b_M_stands 67 = .ok (.goto 4, 3) := by decide +kernel
theorem d_M_stands_70 : decode b_M_stands 70 = .ok (.iconst 0, 1) := by decide +kernel
theorem d_M_stands_71 : decode b_M_stands 71 = .ok (.istore 4, 2) := by decide +kernel
theorem d_M_stands_73 : decode b_M_stands 73 = .ok (.iinc 5 1, 3) := by decide +kernel
theorem d_M_stands_76 : decode b_M_stands 76 = .ok (.goto (-45), 3) := by decide +kernel
theorem d_M_stands_79 : decode b_M_stands 79 = .ok (.iload 4, 2) := by decide +kernel
theorem d_M_stands_81 : decode b_M_stands 81 = .ok (.ireturn, 1) := by decide +kernel
abbrev b_M_meets : ByteArray := prog_11_method_20_code
def y_M_meets : MethodName := ⟨"RedactCheckModel", "meets", "(IIII)Z"⟩
theorem d_M_meets_0 : decode b_M_meets 0 = .ok (.aload_n 0, 1) := by decide +kernel
theorem d_M_meets_1 : decode b_M_meets 1 = .ok (.getfield 16, 3) := by decide +kernel
theorem d_M_meets_4 : decode b_M_meets 4 = .ok (.iload_n 1, 1) := by decide +kernel
theorem d_M_meets_5 : decode b_M_meets 5 = .ok (.iaload, 1) := by decide +kernel
theorem d_M_meets_6 : decode b_M_meets 6 = .ok (.iload_n 3, 1) := by decide +kernel
theorem d_M_meets_7 : decode b_M_meets 7 = .ok (.iadd, 1) := by decide +kernel
theorem d_M_meets_8 : decode b_M_meets 8 = .ok (.istore 5, 2) := by decide +kernel
theorem d_M_meets_10 : decode b_M_meets 10 = .ok (.aload_n 0, 1) := by decide +kernel
theorem d_M_meets_11 : decode b_M_meets 11 = .ok (.getfield 19, 3) := by decide +kernel
theorem d_M_meets_14 : decode b_M_meets 14 = .ok (.iload_n 1, 1) := by decide +kernel
theorem d_M_meets_15 : decode b_M_meets 15 = .ok (.iaload, 1) := by decide +kernel
theorem d_M_meets_16 : decode b_M_meets 16 = .ok (.iload 4, 2) := by decide +kernel
theorem d_M_meets_18 : decode b_M_meets 18 = .ok (.iadd, 1) := by decide +kernel
theorem d_M_meets_19 : decode b_M_meets 19 = .ok (.istore 6, 2) := by decide +kernel
theorem d_M_meets_21 : decode b_M_meets 21 = .ok (.iconst 0, 1) := by decide +kernel
theorem d_M_meets_22 : decode b_M_meets 22 = .ok (.istore 7, 2) := by decide +kernel
theorem d_M_meets_24 : decode b_M_meets 24 = .ok (.iconst 0, 1) := by decide +kernel
theorem d_M_meets_25 : decode b_M_meets 25 = .ok (.istore 8, 2) := by decide +kernel
theorem d_M_meets_27 : decode b_M_meets 27 = .ok (.iload 8, 2) := by decide +kernel
theorem d_M_meets_29 : decode b_M_meets 29 = .ok (.aload_n 0, 1) := by decide +kernel
theorem d_M_meets_30 : decode b_M_meets 30 = .ok (.getfield 108, 3) := by decide +kernel
theorem d_M_meets_33 : decode b_M_meets 33 = .ok (.if_icmp .ge 162, 3) := by decide +kernel
theorem d_M_meets_36 : decode b_M_meets 36 = .ok (.aload_n 0, 1) := by decide +kernel
theorem d_M_meets_37 : decode b_M_meets 37 = .ok (.getfield 52, 3) := by decide +kernel
theorem d_M_meets_40 : decode b_M_meets 40 = .ok (.iload 8, 2) := by decide +kernel
theorem d_M_meets_42 : decode b_M_meets 42 = .ok (.iaload, 1) := by decide +kernel
theorem d_M_meets_43 : decode b_M_meets 43 = .ok (.ifCond .le 17, 3) := by decide +kernel
theorem d_M_meets_46 : decode b_M_meets 46 = .ok (.aload_n 0, 1) := by decide +kernel
theorem d_M_meets_47 : decode b_M_meets 47 = .ok (.getfield 55, 3) := by decide +kernel
theorem d_M_meets_50 : decode b_M_meets 50 = .ok (.iload 8, 2) := by decide +kernel
theorem d_M_meets_52 : decode b_M_meets 52 = .ok (.iaload, 1) := by decide +kernel
theorem d_M_meets_53 : decode b_M_meets 53 = .ok (.ifCond .le 7, 3) := by decide +kernel
theorem d_M_meets_56 : decode b_M_meets 56 = .ok (.iconst 1, 1) := by decide +kernel
theorem d_M_meets_57 : decode b_M_meets 57 = .ok (.goto 4, 3) := by decide +kernel
theorem d_M_meets_60 : decode b_M_meets 60 = .ok (.iconst 0, 1) := by decide +kernel
theorem d_M_meets_61 : decode b_M_meets 61 = .ok (.istore 9, 2) := by decide +kernel
theorem d_M_meets_63 : decode b_M_meets 63 = .ok (.iload 5, 2) := by decide +kernel
theorem d_M_meets_65 : decode b_M_meets 65 = .ok (.aload_n 0, 1) := by decide +kernel
theorem d_M_meets_66 : decode b_M_meets 66 = .ok (.getfield 46, 3) := by decide +kernel
theorem d_M_meets_69 : decode b_M_meets 69 = .ok (.iload 8, 2) := by decide +kernel
theorem d_M_meets_71 : decode b_M_meets 71 = .ok (.iaload, 1) := by decide +kernel
theorem d_M_meets_72 : decode b_M_meets 72 = .ok (.aload_n 0, 1) := by decide +kernel
theorem d_M_meets_73 : decode b_M_meets 73 = .ok (.getfield 52, 3) := by decide +kernel
theorem d_M_meets_76 : decode b_M_meets 76 = .ok (.iload 8, 2) := by decide +kernel
theorem d_M_meets_78 : decode b_M_meets 78 = .ok (.iaload, 1) := by decide +kernel
theorem d_M_meets_79 : decode b_M_meets 79 = .ok (.iadd, 1) := by decide +kernel
theorem d_M_meets_80 : decode b_M_meets 80 = .ok (.if_icmp .ge 26, 3) := by decide +kernel
theorem d_M_meets_83 : decode b_M_meets 83 = .ok (.aload_n 0, 1) := by decide +kernel
theorem d_M_meets_84 : decode b_M_meets 84 = .ok (.getfield 46, 3) := by decide +kernel
theorem d_M_meets_87 : decode b_M_meets 87 = .ok (.iload 8, 2) := by decide +kernel
theorem d_M_meets_89 : decode b_M_meets 89 = .ok (.iaload, 1) := by decide +kernel
theorem d_M_meets_90 : decode b_M_meets 90 = .ok (.iload 5, 2) := by decide +kernel
theorem d_M_meets_92 : decode b_M_meets 92 = .ok (.aload_n 0, 1) := by decide +kernel
theorem d_M_meets_93 : decode b_M_meets 93 = .ok (.getfield 22, 3) := by decide +kernel
theorem d_M_meets_96 : decode b_M_meets 96 = .ok (.iload_n 1, 1) := by decide +kernel
theorem d_M_meets_97 : decode b_M_meets 97 = .ok (.iaload, 1) := by decide +kernel
theorem d_M_meets_98 : decode b_M_meets 98 = .ok (.iadd, 1) := by decide +kernel
theorem d_M_meets_99 : decode b_M_meets 99 = .ok (.if_icmp .ge 7, 3) := by decide +kernel
theorem d_M_meets_102 : decode b_M_meets 102 = .ok (.iconst 1, 1) := by decide +kernel
theorem d_M_meets_103 : decode b_M_meets 103 = .ok (.goto 4, 3) := by decide +kernel
theorem d_M_meets_106 : decode b_M_meets 106 = .ok (.iconst 0, 1) := by decide +kernel
theorem d_M_meets_107 : decode b_M_meets 107 = .ok (.istore 10, 2) := by decide +kernel
theorem d_M_meets_109 : decode b_M_meets 109 = .ok (.iload 6, 2) := by decide +kernel
theorem d_M_meets_111 : decode b_M_meets 111 = .ok (.aload_n 0, 1) := by decide +kernel
theorem d_M_meets_112 : decode b_M_meets 112 = .ok (.getfield 49, 3) := by decide +kernel
theorem d_M_meets_115 : decode b_M_meets 115 = .ok (.iload 8, 2) := by decide +kernel
theorem d_M_meets_117 : decode b_M_meets 117 = .ok (.iaload, 1) := by decide +kernel
theorem d_M_meets_118 : decode b_M_meets 118 = .ok (.aload_n 0, 1) := by decide +kernel
theorem d_M_meets_119 : decode b_M_meets 119 = .ok (.getfield 55, 3) := by decide +kernel
theorem d_M_meets_122 : decode b_M_meets 122 = .ok (.iload 8, 2) := by decide +kernel
theorem d_M_meets_124 : decode b_M_meets 124 = .ok (.iaload, 1) := by decide +kernel
theorem d_M_meets_125 : decode b_M_meets 125 = .ok (.iadd, 1) := by decide +kernel
theorem d_M_meets_126 : decode b_M_meets 126 = .ok (.if_icmp .ge 22, 3) := by decide +kernel
theorem d_M_meets_129 : decode b_M_meets 129 = .ok (.aload_n 0, 1) := by decide +kernel
theorem d_M_meets_130 : decode b_M_meets 130 = .ok (.getfield 49, 3) := by decide +kernel
theorem d_M_meets_133 : decode b_M_meets 133 = .ok (.iload 8, 2) := by decide +kernel
theorem d_M_meets_135 : decode b_M_meets 135 = .ok (.iaload, 1) := by decide +kernel
theorem d_M_meets_136 : decode b_M_meets 136 = .ok (.iload 6, 2) := by decide +kernel
theorem d_M_meets_138 : decode b_M_meets 138 = .ok (.bipush 10, 2) := by decide +kernel
theorem d_M_meets_140 : decode b_M_meets 140 = .ok (.iadd, 1) := by decide +kernel
theorem d_M_meets_141 : decode b_M_meets 141 = .ok (.if_icmp .ge 7, 3) := by decide +kernel
theorem d_M_meets_144 : decode b_M_meets 144 = .ok (.iconst 1, 1) := by decide +kernel
theorem d_M_meets_145 : decode b_M_meets 145 = .ok (.goto 4, 3) := by decide +kernel
theorem d_M_meets_148 : decode b_M_meets 148 = .ok (.iconst 0, 1) := by decide +kernel
theorem d_M_meets_149 : decode b_M_meets 149 = .ok (.istore 11, 2) := by decide +kernel
theorem d_M_meets_151 : decode b_M_meets 151 = .ok (.iload 7, 2) := by decide +kernel
theorem d_M_meets_153 : decode b_M_meets 153 = .ok (.ifCond .ne 29, 3) := by decide +kernel
theorem d_M_meets_156 : decode b_M_meets 156 = .ok (.aload_n 0, 1) := by decide +kernel
theorem d_M_meets_157 : decode b_M_meets 157 = .ok (.getfield 43, 3) := by decide +kernel
theorem d_M_meets_160 : decode b_M_meets 160 = .ok (.iload 8, 2) := by decide +kernel
theorem d_M_meets_162 : decode b_M_meets 162 = .ok (.iaload, 1) := by decide +kernel
theorem d_M_meets_163 : decode b_M_meets 163 = .ok (.iload_n 2, 1) := by decide +kernel
theorem d_M_meets_164 : decode b_M_meets 164 = .ok (.if_icmp .ne 22, 3) := by decide +kernel
theorem d_M_meets_167 : decode b_M_meets 167 = .ok (.iload 9, 2) := by decide +kernel
theorem d_M_meets_169 : decode b_M_meets 169 = .ok (.ifCond .eq 17, 3) := by decide +kernel
theorem d_M_meets_172 : decode b_M_meets 172 = .ok (.iload 10, 2) := by decide +kernel
theorem d_M_meets_174 : decode b_M_meets 174 = .ok (.ifCond .eq 12, 3) := by decide +kernel
theorem d_M_meets_177 : decode b_M_meets 177 = .ok (.iload 11, 2) := by decide +kernel
theorem d_M_meets_179 : decode b_M_meets 179 = .ok (.ifCond .eq 7, 3) := by decide +kernel
theorem d_M_meets_182 : decode b_M_meets 182 = .ok (.iconst 1, 1) := by decide +kernel
theorem d_M_meets_183 : decode b_M_meets 183 = .ok (.goto 4, 3) := by decide +kernel
theorem d_M_meets_186 : decode b_M_meets 186 = .ok (.iconst 0, 1) := by decide +kernel
theorem d_M_meets_187 : decode b_M_meets 187 = .ok (.istore 7, 2) := by decide +kernel
theorem d_M_meets_189 : decode b_M_meets 189 = .ok (.iinc 8 1, 3) := by decide +kernel
theorem d_M_meets_192 : decode b_M_meets 192 = .ok (.goto (-165), 3) := by decide +kernel
theorem d_M_meets_195 : decode b_M_meets 195 = .ok (.iload 7, 2) := by decide +kernel
theorem d_M_meets_197 : decode b_M_meets 197 = .ok (.ireturn, 1) := by decide +kernel
abbrev b_M_markPlace : ByteArray := prog_11_method_23_code
def y_M_markPlace : MethodName := ⟨"RedactCheckModel", "markPlace", "(I)I"⟩
theorem d_M_markPlace_0 : decode b_M_markPlace 0 = .ok (.sipush 160, 3) := by decide +kernel
theorem d_M_markPlace_3 : decode b_M_markPlace 3 = .ok (.bipush 40, 2) := by decide +kernel
theorem d_M_markPlace_5 : decode b_M_markPlace 5 = .ok (.iload_n 0, 1) := by decide +kernel
theorem d_M_markPlace_6 : decode b_M_markPlace 6 = .ok (.imul, 1) := by decide +kernel
theorem d_M_markPlace_7 : decode b_M_markPlace 7 = .ok (.iadd, 1) := by decide +kernel
theorem d_M_markPlace_8 : decode b_M_markPlace 8 = .ok (.ireturn, 1) := by decide +kernel
abbrev b_M_hasMark : ByteArray := prog_11_method_25_code
def y_M_hasMark : MethodName := ⟨"RedactCheckModel", "hasMark", "(I)Z"⟩
theorem d_M_hasMark_0 : decode b_M_hasMark 0 = .ok (.iconst 0, 1) := by decide +kernel
theorem d_M_hasMark_1 : decode b_M_hasMark 1 = .ok (.istore_n 2, 1) := by decide +kernel
theorem d_M_hasMark_2 : decode b_M_hasMark 2 = .ok (.iconst 0, 1) := by decide +kernel
theorem d_M_hasMark_3 : decode b_M_hasMark 3 = .ok (.istore_n 3, 1) := by decide +kernel
theorem d_M_hasMark_4 : decode b_M_hasMark 4 = .ok (.iload_n 3, 1) := by decide +kernel
theorem d_M_hasMark_5 : decode b_M_hasMark 5 = .ok (.bipush 40, 2) := by decide +kernel
theorem d_M_hasMark_7 : decode b_M_hasMark 7 = .ok (.if_icmp .ge 33, 3) := by decide +kernel
theorem d_M_hasMark_10 : decode b_M_hasMark 10 = .ok (.iload_n 2, 1) := by decide +kernel
theorem d_M_hasMark_11 : decode b_M_hasMark 11 = .ok (.ifCond .ne 17, 3) := by decide +kernel
theorem d_M_hasMark_14 : decode b_M_hasMark 14 = .ok (.aload_n 0, 1) := by decide +kernel
theorem d_M_hasMark_15 : decode b_M_hasMark 15 = .ok (.getfield 70, 3) := by decide +kernel
theorem d_M_hasMark_18 : decode b_M_hasMark 18 = .ok (.iload_n 1, 1) := by decide +kernel
theorem d_M_hasMark_19 : decode b_M_hasMark 19 = .ok (.invokestatic 136, 3) := by decide +kernel
theorem d_M_hasMark_22 : decode b_M_hasMark 22 = .ok (.iload_n 3, 1) := by decide +kernel
theorem d_M_hasMark_23 : decode b_M_hasMark 23 = .ok (.iadd, 1) := by decide +kernel
theorem d_M_hasMark_24 : decode b_M_hasMark 24 = .ok (.baload, 1) := by decide +kernel
theorem d_M_hasMark_25 : decode b_M_hasMark 25 = .ok (.ifCond .eq 7, 3) := by decide +kernel
theorem d_M_hasMark_28 : decode b_M_hasMark 28 = .ok (.iconst 1, 1) := by decide +kernel
theorem d_M_hasMark_29 : decode b_M_hasMark 29 = .ok (.goto 4, 3) := by decide +kernel
theorem d_M_hasMark_32 : decode b_M_hasMark 32 = .ok (.iconst 0, 1) := by decide +kernel
theorem d_M_hasMark_33 : decode b_M_hasMark 33 = .ok (.istore_n 2, 1) := by decide +kernel
theorem d_M_hasMark_34 : decode b_M_hasMark 34 = .ok (.iinc 3 1, 3) := by decide +kernel
theorem d_M_hasMark_37 : decode b_M_hasMark 37 = .ok (.goto (-33), 3) := by decide +kernel
theorem d_M_hasMark_40 : decode b_M_hasMark 40 = .ok (.iload_n 2, 1) := by decide +kernel
theorem d_M_hasMark_41 : decode b_M_hasMark 41 = .ok (.ireturn, 1) := by decide +kernel
abbrev b_M_areAlike : ByteArray := prog_11_method_24_code
def y_M_areAlike : MethodName := ⟨"RedactCheckModel", "areAlike", "(II)Z"⟩
theorem d_M_areAlike_0 : decode b_M_areAlike 0 = .ok (.aload_n 0, 1) := by decide +kernel
theorem d_M_areAlike_1 : decode b_M_areAlike 1 = .ok (.getfield 28, 3) := by decide +kernel
theorem d_M_areAlike_4 : decode b_M_areAlike 4 = .ok (.iload_n 1, 1) := by decide +kernel
theorem d_M_areAlike_5 : decode b_M_areAlike 5 = .ok (.iaload, 1) := by decide +kernel
theorem d_M_areAlike_6 : decode b_M_areAlike 6 = .ok (.aload_n 0, 1) := by decide +kernel
theorem d_M_areAlike_7 : decode b_M_areAlike 7 = .ok (.getfield 28, 3) := by decide +kernel
theorem d_M_areAlike_10 : decode b_M_areAlike 10 = .ok (.iload_n 2, 1) := by decide +kernel
theorem d_M_areAlike_11 : decode b_M_areAlike 11 = .ok (.iaload, 1) := by decide +kernel
theorem d_M_areAlike_12 : decode b_M_areAlike 12 = .ok (.if_icmp .ne 7, 3) := by decide +kernel
theorem d_M_areAlike_15 : decode b_M_areAlike 15 = .ok (.iconst 1, 1) := by decide +kernel
theorem d_M_areAlike_16 : decode b_M_areAlike 16 = .ok (.goto 4, 3) := by decide +kernel
theorem d_M_areAlike_19 : decode b_M_areAlike 19 = .ok (.iconst 0, 1) := by decide +kernel
theorem d_M_areAlike_20 : decode b_M_areAlike 20 = .ok (.istore_n 3, 1) := by decide +kernel
theorem d_M_areAlike_21 : decode b_M_areAlike 21 = .ok (.iconst 0, 1) := by decide +kernel
theorem d_M_areAlike_22 : decode b_M_areAlike 22 = .ok (.istore 4, 2) := by decide +kernel
theorem d_M_areAlike_24 : decode b_M_areAlike 24 = .ok (.iload 4, 2) := by decide +kernel
theorem d_M_areAlike_26 : decode b_M_areAlike 26 = .ok (.bipush 40, 2) := by decide +kernel
theorem d_M_areAlike_28 : decode b_M_areAlike 28 = .ok (.if_icmp .ge 46, 3) := by decide +kernel
theorem d_M_areAlike_31 : decode b_M_areAlike 31 = .ok (.iload_n 3, 1) := by decide +kernel
theorem d_M_areAlike_32 : decode b_M_areAlike 32 = .ok (.ifCond .eq 34, 3) := by decide +kernel
theorem d_M_areAlike_35 : decode b_M_areAlike 35 = .ok (.aload_n 0, 1) := by decide +kernel
theorem d_M_areAlike_36 : decode b_M_areAlike 36 = .ok (.getfield 70, 3) := by decide +kernel
theorem d_M_areAlike_39 : decode b_M_areAlike 39 = .ok (.iload_n 1, 1) := by decide +kernel
theorem d_M_areAlike_40 : decode b_M_areAlike 40 = .ok (.invokestatic 136, 3) := by decide +kernel
theorem d_M_areAlike_43 : decode b_M_areAlike 43 = .ok (.iload 4, 2) := by decide +kernel
theorem d_M_areAlike_45 : decode b_M_areAlike 45 = .ok (.iadd, 1) := by decide +kernel
theorem d_M_areAlike_46 : decode b_M_areAlike 46 = .ok (.baload, 1) := by decide +kernel
theorem d_M_areAlike_47 : decode b_M_areAlike 47 = .ok (.aload_n 0, 1) := by decide +kernel
theorem d_M_areAlike_48 : decode b_M_areAlike 48 = .ok (.getfield 70, 3) := by decide +kernel
theorem d_M_areAlike_51 : decode b_M_areAlike 51 = .ok (.iload_n 2, 1) := by decide +kernel
theorem d_M_areAlike_52 : decode b_M_areAlike 52 = .ok (.invokestatic 136, 3) := by decide +kernel
theorem d_M_areAlike_55 : decode b_M_areAlike 55 = .ok (.iload 4, 2) := by decide +kernel
theorem d_M_areAlike_57 : decode b_M_areAlike 57 = .ok (.iadd, 1) := by decide +kernel
theorem d_M_areAlike_58 : decode b_M_areAlike 58 = .ok (.baload, 1) := by decide +kernel
theorem d_M_areAlike_59 : decode b_M_areAlike 59 = .ok (.if_icmp .ne 7, 3) := by decide +kernel
theorem d_M_areAlike_62 : decode b_M_areAlike 62 = .ok (.iconst 1, 1) := by decide +kernel
theorem d_M_areAlike_63 : decode b_M_areAlike 63 = .ok (.goto 4, 3) := by decide +kernel
theorem d_M_areAlike_66 : decode b_M_areAlike 66 = .ok (.iconst 0, 1) := by decide +kernel
theorem d_M_areAlike_67 : decode b_M_areAlike 67 = .ok (.istore_n 3, 1) := by decide +kernel
theorem d_M_areAlike_68 : decode b_M_areAlike 68 = .ok (.iinc 4 1, 3) := by decide +kernel
theorem d_M_areAlike_71 : decode b_M_areAlike 71 = .ok (.goto (-47), 3) := by decide +kernel
theorem d_M_areAlike_74 : decode b_M_areAlike 74 = .ok (.iload_n 3, 1) := by decide +kernel
theorem d_M_areAlike_75 : decode b_M_areAlike 75 = .ok (.ireturn, 1) := by decide +kernel
abbrev b_M_cut : ByteArray := prog_11_method_22_code
def y_M_cut : MethodName := ⟨"RedactCheckModel", "cut", "(III)V"⟩
theorem d_M_cut_0 : decode b_M_cut 0 = .ok (.aload_n 0, 1) := by decide +kernel
theorem d_M_cut_1 : decode b_M_cut 1 = .ok (.getfield 7, 3) := by decide +kernel
theorem d_M_cut_4 : decode b_M_cut 4 = .ok (.iload_n 1, 1) := by decide +kernel
theorem d_M_cut_5 : decode b_M_cut 5 = .ok (.iaload, 1) := by decide +kernel
theorem d_M_cut_6 : decode b_M_cut 6 = .ok (.istore 4, 2) := by decide +kernel
theorem d_M_cut_8 : decode b_M_cut 8 = .ok (.aload_n 0, 1) := by decide +kernel
theorem d_M_cut_9 : decode b_M_cut 9 = .ok (.getfield 7, 3) := by decide +kernel
theorem d_M_cut_12 : decode b_M_cut 12 = .ok (.iload_n 2, 1) := by decide +kernel
theorem d_M_cut_13 : decode b_M_cut 13 = .ok (.iconst 0, 1) := by decide +kernel
theorem d_M_cut_14 : decode b_M_cut 14 = .ok (.iastore, 1) := by decide +kernel
theorem d_M_cut_15 : decode b_M_cut 15 = .ok (.iconst 0, 1) := by decide +kernel
theorem d_M_cut_16 : decode b_M_cut 16 = .ok (.istore 5, 2) := by decide +kernel
theorem d_M_cut_18 : decode b_M_cut 18 = .ok (.iload 5, 2) := by decide +kernel
theorem d_M_cut_20 : decode b_M_cut 20 = .ok (.iload 4, 2) := by decide +kernel
theorem d_M_cut_22 : decode b_M_cut 22 = .ok (.if_icmp .ge 111, 3) := by decide +kernel
theorem d_M_cut_25 : decode b_M_cut 25 = .ok (.bipush 40, 2) := by decide +kernel
theorem d_M_cut_27 : decode b_M_cut 27 = .ok (.iload_n 1, 1) := by decide +kernel
theorem d_M_cut_28 : decode b_M_cut 28 = .ok (.imul, 1) := by decide +kernel
theorem d_M_cut_29 : decode b_M_cut 29 = .ok (.iload 5, 2) := by decide +kernel
theorem d_M_cut_31 : decode b_M_cut 31 = .ok (.iadd, 1) := by decide +kernel
theorem d_M_cut_32 : decode b_M_cut 32 = .ok (.istore 6, 2) := by decide +kernel
theorem d_M_cut_34 : decode b_M_cut 34 = .ok (.aload_n 0, 1) := by decide +kernel
theorem d_M_cut_35 : decode b_M_cut 35 = .ok (.getfield 70, 3) := by decide +kernel
theorem d_M_cut_38 : decode b_M_cut 38 = .ok (.iload_n 3, 1) := by decide +kernel
theorem d_M_cut_39 : decode b_M_cut 39 = .ok (.iload 5, 2) := by decide +kernel
theorem d_M_cut_41 : decode b_M_cut 41 = .ok (.iadd, 1) := by decide +kernel
theorem d_M_cut_42 : decode b_M_cut 42 = .ok (.baload, 1) := by decide +kernel
theorem d_M_cut_43 : decode b_M_cut 43 = .ok (.istore 7, 2) := by decide +kernel
theorem d_M_cut_45 : decode b_M_cut 45 = .ok (.iload 7, 2) := by decide +kernel
theorem d_M_cut_47 : decode b_M_cut 47 = .ok (.ifCond .ne 39, 3) := by decide +kernel
theorem d_M_cut_50 : decode b_M_cut 50 = .ok (.aload_n 0, 1) := by decide +kernel
theorem d_M_cut_51 : decode b_M_cut 51 = .ok (.iload_n 2, 1) := by decide +kernel
theorem d_M_cut_52 : decode b_M_cut 52 = .ok (.aload_n 0, 1) := by decide +kernel
theorem d_M_cut_53 : decode b_M_cut 53 = .ok (.getfield 13, 3) := by decide +kernel
theorem d_M_cut_56 : decode b_M_cut 56 = .ok (.iload 6, 2) := by decide +kernel
theorem d_M_cut_58 : decode b_M_cut 58 = .ok (.iaload, 1) := by decide +kernel
theorem d_M_cut_59 : decode b_M_cut 59 = .ok (.aload_n 0, 1) := by decide +kernel
theorem d_M_cut_60 : decode b_M_cut 60 = .ok (.getfield 16, 3) := by decide +kernel
theorem d_M_cut_63 : decode b_M_cut 63 = .ok (.iload 6, 2) := by decide +kernel
theorem d_M_cut_65 : decode b_M_cut 65 = .ok (.iaload, 1) := by decide +kernel
theorem d_M_cut_66 : decode b_M_cut 66 = .ok (.aload_n 0, 1) := by decide +kernel
theorem d_M_cut_67 : decode b_M_cut 67 = .ok (.getfield 19, 3) := by decide +kernel
theorem d_M_cut_70 : decode b_M_cut 70 = .ok (.iload 6, 2) := by decide +kernel
theorem d_M_cut_72 : decode b_M_cut 72 = .ok (.iaload, 1) := by decide +kernel
theorem d_M_cut_73 : decode b_M_cut 73 = .ok (.aload_n 0, 1) := by decide +kernel
theorem d_M_cut_74 : decode b_M_cut 74 = .ok (.getfield 22, 3) := by decide +kernel
theorem d_M_cut_77 : decode b_M_cut 77 = .ok (.iload 6, 2) := by decide +kernel
theorem d_M_cut_79 : decode b_M_cut 79 = .ok (.iaload, 1) := by decide +kernel
theorem d_M_cut_80 : decode b_M_cut 80 = .ok (.invokevirtual 94, 3) := by decide +kernel
theorem d_M_cut_83 : decode b_M_cut 83 = .ok (.goto 44, 3) := by decide +kernel
theorem d_M_cut_86 : decode b_M_cut 86 = .ok (.iload 5, 2) := by decide +kernel
theorem d_M_cut_88 : decode b_M_cut 88 = .ok (.ifCond .eq 17, 3) := by decide +kernel
theorem d_M_cut_91 : decode b_M_cut 91 = .ok (.aload_n 0, 1) := by decide +kernel
theorem d_M_cut_92 : decode b_M_cut 92 = .ok (.getfield 70, 3) := by decide +kernel
theorem d_M_cut_95 : decode b_M_cut 95 = .ok (.iload_n 3, 1) := by decide +kernel
theorem d_M_cut_96 : decode b_M_cut 96 = .ok (.iload 5, 2) := by decide +kernel
theorem d_M_cut_98 : decode b_M_cut 98 = .ok (.iadd, 1) := by decide +kernel
theorem d_M_cut_99 : decode b_M_cut 99 = .ok (.iconst 1, 1) := by decide +kernel
theorem d_M_cut_100 : decode b_M_cut 100 = .ok (.isub, 1) := by decide +kernel
theorem d_M_cut_101 : decode b_M_cut 101 = .ok (.baload, 1) := by decide +kernel
theorem d_M_cut_102 : decode b_M_cut 102 = .ok (.ifCond .ne 25, 3) := by decide +kernel
theorem d_M_cut_105 : decode b_M_cut 105 = .ok (.aload_n 0, 1) := by decide +kernel
theorem d_M_cut_106 : decode b_M_cut 106 = .ok (.iload_n 2, 1) := by decide +kernel
theorem d_M_cut_107 : decode b_M_cut 107 = .ok (.iconst 0, 1) := by decide +kernel
theorem d_M_cut_108 : decode b_M_cut 108 = .ok (.aload_n 0, 1) := by decide +kernel
theorem d_M_cut_109 : decode b_M_cut 109 = .ok (.getfield 16, 3) := by decide +kernel
theorem d_M_cut_112 : decode b_M_cut 112 = .ok (.iload 6, 2) := by decide +kernel
theorem d_M_cut_114 : decode b_M_cut 114 = .ok (.iaload, 1) := by decide +kernel
theorem d_M_cut_115 : decode b_M_cut 115 = .ok (.aload_n 0, 1) := by decide +kernel
theorem d_M_cut_116 : decode b_M_cut 116 = .ok (.getfield 19, 3) := by decide +kernel
theorem d_M_cut_119 : decode b_M_cut 119 = .ok (.iload 6, 2) := by decide +kernel
theorem d_M_cut_121 : decode b_M_cut 121 = .ok (.iaload, 1) := by decide +kernel
theorem d_M_cut_122 : decode b_M_cut 122 = .ok (.bipush 100, 2) := by decide +kernel
theorem d_M_cut_124 : decode b_M_cut 124 = .ok (.invokevirtual 94, 3) := by decide +kernel
theorem d_M_cut_127 : decode b_M_cut 127 = .ok (.iinc 5 1, 3) := by decide +kernel
theorem d_M_cut_130 : decode b_M_cut 130 = .ok (.goto (-112), 3) := by decide +kernel
theorem d_M_cut_133 : decode b_M_cut 133 = .ok (.return_, 1) := by decide +kernel
abbrev b_M_cutStore : ByteArray := prog_11_method_28_code
def y_M_cutStore : MethodName := ⟨"RedactCheckModel", "cutStore", "(I)I"⟩
theorem d_M_cutStore_0 : decode b_M_cutStore 0 = .ok (.aload_n 0, 1) := by decide +kernel
theorem d_M_cutStore_1 : decode b_M_cutStore 1 = .ok (.iload_n 1, 1) := by decide +kernel
theorem d_M_cutStore_2 : decode b_M_cutStore 2 = .ok (.aload_n 0, 1) := by decide +kernel
theorem d_M_cutStore_3 : decode b_M_cutStore 3 = .ok (.getfield 58, 3) := by decide +kernel
theorem d_M_cutStore_6 : decode b_M_cutStore 6 = .ok (.iload_n 1, 1) := by decide +kernel
theorem d_M_cutStore_7 : decode b_M_cutStore 7 = .ok (.iaload, 1) := by decide +kernel
theorem d_M_cutStore_8 : decode b_M_cutStore 8 = .ok (.invokevirtual 142, 3) := by decide +kernel
theorem d_M_cutStore_11 : decode b_M_cutStore 11 = .ok (.istore_n 2, 1) := by decide +kernel
theorem d_M_cutStore_12 : decode b_M_cutStore 12 = .ok (.aload_n 0, 1) := by decide +kernel
theorem d_M_cutStore_13 : decode b_M_cutStore 13 = .ok (.getfield 61, 3) := by decide +kernel
theorem d_M_cutStore_16 : decode b_M_cutStore 16 = .ok (.iload_n 1, 1) := by decide +kernel
theorem d_M_cutStore_17 : decode b_M_cutStore 17 = .ok (.iconst 0, 1) := by decide +kernel
theorem d_M_cutStore_18 : decode b_M_cutStore 18 = .ok (.iastore, 1) := by decide +kernel
theorem d_M_cutStore_19 : decode b_M_cutStore 19 = .ok (.iload_n 2, 1) := by decide +kernel
theorem d_M_cutStore_20 : decode b_M_cutStore 20 = .ok (.ifCond .ne 5, 3) := by decide +kernel
theorem d_M_cutStore_23 : decode b_M_cutStore 23 = .ok (.iconst 0, 1) := by decide +kernel
theorem d_M_cutStore_24 : decode b_M_cutStore 24 = .ok (.ireturn, 1) := by decide +kernel
theorem d_M_cutStore_25 : decode b_M_cutStore 25 = .ok (.aload_n 0, 1) := by decide +kernel
theorem d_M_cutStore_26 : decode b_M_cutStore 26 = .ok (.invokevirtual 129, 3) := by decide +kernel
theorem d_M_cutStore_29 : decode b_M_cutStore 29 = .ok (.iconst 0, 1) := by decide +kernel
theorem d_M_cutStore_30 : decode b_M_cutStore 30 = .ok (.istore_n 3, 1) := by decide +kernel
theorem d_M_cutStore_31 : decode b_M_cutStore 31 = .ok (.iconst 0, 1) := by decide +kernel
theorem d_M_cutStore_32 : decode b_M_cutStore 32 = .ok (.istore 4, 2) := by decide +kernel
theorem d_M_cutStore_34 : decode b_M_cutStore 34 = .ok (.iload 4, 2) := by decide +kernel
theorem d_M_cutStore_36 : decode b_M_cutStore 36 = .ok (.aload_n 0, 1) := by decide +kernel
theorem d_M_cutStore_37 : decode b_M_cutStore 37 = .ok (.getfield 114, 3) := by decide +kernel
theorem d_M_cutStore_40 : decode b_M_cutStore 40 = .ok (.if_icmp .ge 76, 3) := by decide +kernel
theorem d_M_cutStore_43 : decode b_M_cutStore 43 = .ok (.aload_n 0, 1) := by decide +kernel
theorem d_M_cutStore_44 : decode b_M_cutStore 44 = .ok (.getfield 80, 3) := by decide +kernel
theorem d_M_cutStore_47 : decode b_M_cutStore 47 = .ok (.iload 4, 2) := by decide +kernel
theorem d_M_cutStore_49 : decode b_M_cutStore 49 = .ok (.baload, 1) := by decide +kernel
theorem d_M_cutStore_50 : decode b_M_cutStore 50 = .ok (.ifCond .ne 18, 3) := by decide +kernel
theorem d_M_cutStore_53 : decode b_M_cutStore 53 = .ok (.aload_n 0, 1) := by decide +kernel
theorem d_M_cutStore_54 : decode b_M_cutStore 54 = .ok (.iload_n 1, 1) := by decide +kernel
theorem d_M_cutStore_55 : decode b_M_cutStore 55 = .ok (.aload_n 0, 1) := by decide +kernel
theorem d_M_cutStore_56 : decode b_M_cutStore 56 = .ok (.getfield 77, 3) := by decide +kernel
theorem d_M_cutStore_59 : decode b_M_cutStore 59 = .ok (.iload 4, 2) := by decide +kernel
theorem d_M_cutStore_61 : decode b_M_cutStore 61 = .ok (.iaload, 1) := by decide +kernel
theorem d_M_cutStore_62 : decode b_M_cutStore 62 = .ok (.invokevirtual 145, 3) := by decide +kernel
theorem d_M_cutStore_65 : decode b_M_cutStore 65 = .ok (.goto 27, 3) := by decide +kernel
theorem d_M_cutStore_68 : decode b_M_cutStore 68 = .ok (.iload 4, 2) := by decide +kernel
theorem d_M_cutStore_70 : decode b_M_cutStore 70 = .ok (.ifCond .eq 15, 3) := by decide +kernel
theorem d_M_cutStore_73 : decode b_M_cutStore 73 = .ok (.aload_n 0, 1) := by decide +kernel
theorem d_M_cutStore_74 : decode b_M_cutStore 74 = .ok (.getfield 80, 3) := by decide +kernel
theorem d_M_cutStore_77 : decode b_M_cutStore 77 = .ok (.iload 4, 2) := by decide +kernel
theorem d_M_cutStore_79 : decode b_M_cutStore 79 = .ok (.iconst 1, 1) := by decide +kernel
theorem d_M_cutStore_80 : decode b_M_cutStore 80 = .ok (.isub, 1) := by decide +kernel
theorem d_M_cutStore_81 : decode b_M_cutStore 81 = .ok (.baload, 1) := by decide +kernel
theorem d_M_cutStore_82 : decode b_M_cutStore 82 = .ok (.ifCond .ne 10, 3) := by decide +kernel
theorem d_M_cutStore_85 : decode b_M_cutStore 85 = .ok (.aload_n 0, 1) := by decide +kernel
theorem d_M_cutStore_86 : decode b_M_cutStore 86 = .ok (.iload_n 1, 1) := by decide +kernel
theorem d_M_cutStore_87 : decode b_M_cutStore 87 = .ok (.bipush 42, 2) := by decide +kernel
theorem d_M_cutStore_89 : decode b_M_cutStore 89 = .ok (.invokevirtual 145, 3) := by decide +kernel
theorem d_M_cutStore_92 : decode b_M_cutStore 92 = .ok (.aload_n 0, 1) := by decide +kernel
theorem d_M_cutStore_93 : decode b_M_cutStore 93 = .ok (.getfield 80, 3) := by decide +kernel
theorem d_M_cutStore_96 : decode b_M_cutStore 96 = .ok (.iload 4, 2) := by decide +kernel
theorem d_M_cutStore_98 : decode b_M_cutStore 98 = .ok (.baload, 1) := by decide +kernel
theorem d_M_cutStore_99 : decode b_M_cutStore 99 = .ok (.ifCond .eq 9, 3) := by decide +kernel
theorem d_M_cutStore_102 : decode b_M_cutStore 102 = .ok (.iload_n 3, 1) := by decide +kernel
theorem d_M_cutStore_103 : decode b_M_cutStore 103 = .ok (.iconst 1, 1) := by decide +kernel
theorem d_M_cutStore_104 : decode b_M_cutStore 104 = .ok (.iadd, 1) := by decide +kernel
theorem d_M_cutStore_105 : decode b_M_cutStore 105 = .ok (.goto 4, 3) := by decide +kernel
theorem d_M_cutStore_108 : decode b_M_cutStore 108 = .ok (.iload_n 3, 1) := by decide +kernel
theorem d_M_cutStore_109 : decode b_M_cutStore 109 = .ok (.istore_n 3, 1) := by decide +kernel
theorem d_M_cutStore_110 : decode b_M_cutStore 110 = .ok (.iinc 4 1, 3) := by decide +kernel
theorem d_M_cutStore_113 : decode b_M_cutStore 113 = .ok (.goto (-79), 3) := by decide +kernel
