theorem d_Mo_holds_0 : decode prog_14_method_24_code 0 = .ok (.iload_n 0, 1) := by decide +kernel
theorem d_Mo_holds_1 : decode prog_14_method_24_code 1 = .ok (.bipush (-15), 2) := by decide +kernel
theorem d_Mo_holds_3 : decode prog_14_method_24_code 3 = .ok (.if_icmp .ne 17, 3) := by decide +kernel
theorem d_Mo_holds_20 : decode prog_14_method_24_code 20 = .ok (.iload_n 0, 1) := by decide +kernel
theorem d_Mo_holds_21 : decode prog_14_method_24_code 21 = .ok (.bipush (-16), 2) := by decide +kernel
theorem d_Mo_holds_23 : decode prog_14_method_24_code 23 = .ok (.if_icmp .ne 17, 3) := by decide +kernel
theorem d_Mo_holds_40 : decode prog_14_method_24_code 40 = .ok (.iload_n 0, 1) := by decide +kernel
theorem d_Mo_holds_41 : decode prog_14_method_24_code 41 = .ok (.bipush (-17), 2) := by decide +kernel
theorem d_Mo_holds_43 : decode prog_14_method_24_code 43 = .ok (.if_icmp .ne 17, 3) := by decide +kernel
theorem d_Mo_holds_60 : decode prog_14_method_24_code 60 = .ok (.lload_n 1, 1) := by decide +kernel
theorem d_Mo_holds_61 : decode prog_14_method_24_code 61 = .ok (.lload_n 3, 1) := by decide +kernel
theorem d_Mo_holds_62 : decode prog_14_method_24_code 62 = .ok (.lcmp, 1) := by decide +kernel
theorem d_Mo_holds_63 : decode prog_14_method_24_code 63 = .ok (.ifCond .eq 7, 3) := by decide +kernel
theorem d_Mo_holds_70 : decode prog_14_method_24_code 70 = .ok (.iconst 0, 1) := by decide +kernel
theorem d_Mo_holds_71 : decode prog_14_method_24_code 71 = .ok (.ireturn, 1) := by decide +kernel
theorem d_Mo_holds_66 : decode prog_14_method_24_code 66 = .ok (.iconst 1, 1) := by decide +kernel
theorem d_Mo_holds_67 : decode prog_14_method_24_code 67 = .ok (.goto 4, 3) := by decide +kernel
theorem d_Mo_holds_46 : decode prog_14_method_24_code 46 = .ok (.lload_n 1, 1) := by decide +kernel
theorem d_Mo_holds_47 : decode prog_14_method_24_code 47 = .ok (.lload_n 3, 1) := by decide +kernel
theorem d_Mo_holds_48 : decode prog_14_method_24_code 48 = .ok (.lcmp, 1) := by decide +kernel
theorem d_Mo_holds_49 : decode prog_14_method_24_code 49 = .ok (.ifCond .ne 7, 3) := by decide +kernel
theorem d_Mo_holds_56 : decode prog_14_method_24_code 56 = .ok (.iconst 0, 1) := by decide +kernel
theorem d_Mo_holds_57 : decode prog_14_method_24_code 57 = .ok (.goto 14, 3) := by decide +kernel
theorem d_Mo_holds_52 : decode prog_14_method_24_code 52 = .ok (.iconst 1, 1) := by decide +kernel
theorem d_Mo_holds_53 : decode prog_14_method_24_code 53 = .ok (.goto 18, 3) := by decide +kernel
theorem d_Mo_holds_26 : decode prog_14_method_24_code 26 = .ok (.lload_n 1, 1) := by decide +kernel
theorem d_Mo_holds_27 : decode prog_14_method_24_code 27 = .ok (.lload_n 3, 1) := by decide +kernel
theorem d_Mo_holds_28 : decode prog_14_method_24_code 28 = .ok (.lcmp, 1) := by decide +kernel
theorem d_Mo_holds_29 : decode prog_14_method_24_code 29 = .ok (.ifCond .gt 7, 3) := by decide +kernel
theorem d_Mo_holds_36 : decode prog_14_method_24_code 36 = .ok (.iconst 0, 1) := by decide +kernel
theorem d_Mo_holds_37 : decode prog_14_method_24_code 37 = .ok (.goto 34, 3) := by decide +kernel
theorem d_Mo_holds_32 : decode prog_14_method_24_code 32 = .ok (.iconst 1, 1) := by decide +kernel
theorem d_Mo_holds_33 : decode prog_14_method_24_code 33 = .ok (.goto 38, 3) := by decide +kernel
theorem d_Mo_holds_6 : decode prog_14_method_24_code 6 = .ok (.lload_n 1, 1) := by decide +kernel
theorem d_Mo_holds_7 : decode prog_14_method_24_code 7 = .ok (.lload_n 3, 1) := by decide +kernel
theorem d_Mo_holds_8 : decode prog_14_method_24_code 8 = .ok (.lcmp, 1) := by decide +kernel
theorem d_Mo_holds_9 : decode prog_14_method_24_code 9 = .ok (.ifCond .ge 7, 3) := by decide +kernel
theorem d_Mo_holds_16 : decode prog_14_method_24_code 16 = .ok (.iconst 0, 1) := by decide +kernel
theorem d_Mo_holds_17 : decode prog_14_method_24_code 17 = .ok (.goto 54, 3) := by decide +kernel
theorem d_Mo_holds_12 : decode prog_14_method_24_code 12 = .ok (.iconst 1, 1) := by decide +kernel
theorem d_Mo_holds_13 : decode prog_14_method_24_code 13 = .ok (.goto 58, 3) := by decide +kernel
theorem d_Mo_reckon_0 : decode prog_14_method_25_code 0 = .ok (.iload_n 0, 1) := by decide +kernel
theorem d_Mo_reckon_1 : decode prog_14_method_25_code 1 = .ok (.bipush (-10), 2) := by decide +kernel
theorem d_Mo_reckon_3 : decode prog_14_method_25_code 3 = .ok (.if_icmp .ne 9, 3) := by decide +kernel
theorem d_Mo_reckon_12 : decode prog_14_method_25_code 12 = .ok (.iload_n 0, 1) := by decide +kernel
theorem d_Mo_reckon_13 : decode prog_14_method_25_code 13 = .ok (.bipush (-11), 2) := by decide +kernel
theorem d_Mo_reckon_15 : decode prog_14_method_25_code 15 = .ok (.if_icmp .ne 9, 3) := by decide +kernel
theorem d_Mo_reckon_24 : decode prog_14_method_25_code 24 = .ok (.iload_n 0, 1) := by decide +kernel
theorem d_Mo_reckon_25 : decode prog_14_method_25_code 25 = .ok (.bipush (-12), 2) := by decide +kernel
theorem d_Mo_reckon_27 : decode prog_14_method_25_code 27 = .ok (.if_icmp .ne 9, 3) := by decide +kernel
theorem d_Mo_reckon_36 : decode prog_14_method_25_code 36 = .ok (.iload_n 0, 1) := by decide +kernel
theorem d_Mo_reckon_37 : decode prog_14_method_25_code 37 = .ok (.bipush (-13), 2) := by decide +kernel
theorem d_Mo_reckon_39 : decode prog_14_method_25_code 39 = .ok (.if_icmp .ne 9, 3) := by decide +kernel
theorem d_Mo_reckon_48 : decode prog_14_method_25_code 48 = .ok (.lload_n 1, 1) := by decide +kernel
theorem d_Mo_reckon_49 : decode prog_14_method_25_code 49 = .ok (.lload_n 3, 1) := by decide +kernel
theorem d_Mo_reckon_50 : decode prog_14_method_25_code 50 = .ok (.lrem, 1) := by decide +kernel
theorem d_Mo_reckon_51 : decode prog_14_method_25_code 51 = .ok (.lreturn, 1) := by decide +kernel
theorem d_Mo_reckon_42 : decode prog_14_method_25_code 42 = .ok (.lload_n 1, 1) := by decide +kernel
theorem d_Mo_reckon_43 : decode prog_14_method_25_code 43 = .ok (.lload_n 3, 1) := by decide +kernel
theorem d_Mo_reckon_44 : decode prog_14_method_25_code 44 = .ok (.ldiv, 1) := by decide +kernel
theorem d_Mo_reckon_45 : decode prog_14_method_25_code 45 = .ok (.goto 6, 3) := by decide +kernel
theorem d_Mo_reckon_30 : decode prog_14_method_25_code 30 = .ok (.lload_n 1, 1) := by decide +kernel
theorem d_Mo_reckon_31 : decode prog_14_method_25_code 31 = .ok (.lload_n 3, 1) := by decide +kernel
theorem d_Mo_reckon_32 : decode prog_14_method_25_code 32 = .ok (.lmul, 1) := by decide +kernel
theorem d_Mo_reckon_33 : decode prog_14_method_25_code 33 = .ok (.goto 18, 3) := by decide +kernel
theorem d_Mo_reckon_18 : decode prog_14_method_25_code 18 = .ok (.lload_n 1, 1) := by decide +kernel
theorem d_Mo_reckon_19 : decode prog_14_method_25_code 19 = .ok (.lload_n 3, 1) := by decide +kernel
theorem d_Mo_reckon_20 : decode prog_14_method_25_code 20 = .ok (.lsub, 1) := by decide +kernel
theorem d_Mo_reckon_21 : decode prog_14_method_25_code 21 = .ok (.goto 30, 3) := by decide +kernel
theorem d_Mo_reckon_6 : decode prog_14_method_25_code 6 = .ok (.lload_n 1, 1) := by decide +kernel
theorem d_Mo_reckon_7 : decode prog_14_method_25_code 7 = .ok (.lload_n 3, 1) := by decide +kernel
theorem d_Mo_reckon_8 : decode prog_14_method_25_code 8 = .ok (.ladd, 1) := by decide +kernel
theorem d_Mo_reckon_9 : decode prog_14_method_25_code 9 = .ok (.goto 42, 3) := by decide +kernel
theorem d_Mo_look_336 : decode prog_14_method_26_code 336 = .ok (.iinc 5 1, 3) := by decide +kernel
theorem d_Mo_look_339 : decode prog_14_method_26_code 339 = .ok (.goto (-321), 3) := by decide +kernel
theorem d_Mo_look_256 : decode prog_14_method_26_code 256 = .ok (.iinc 4 (-1), 3) := by decide +kernel
theorem d_Mo_look_259 : decode prog_14_method_26_code 259 = .ok (.aload_n 0, 1) := by decide +kernel
theorem d_Mo_look_260 : decode prog_14_method_26_code 260 = .ok (.getfield 92, 3) := by decide +kernel
theorem d_Mo_look_263 : decode prog_14_method_26_code 263 = .ok (.iload 4, 2) := by decide +kernel
theorem d_Mo_look_265 : decode prog_14_method_26_code 265 = .ok (.iconst 1, 1) := by decide +kernel
theorem d_Mo_look_266 : decode prog_14_method_26_code 266 = .ok (.isub, 1) := by decide +kernel
theorem d_Mo_look_267 : decode prog_14_method_26_code 267 = .ok (.iload 6, 2) := by decide +kernel
theorem d_Mo_look_269 : decode prog_14_method_26_code 269 = .ok (.aload_n 0, 1) := by decide +kernel
theorem d_Mo_look_270 : decode prog_14_method_26_code 270 = .ok (.getfield 92, 3) := by decide +kernel
theorem d_Mo_look_273 : decode prog_14_method_26_code 273 = .ok (.iload 4, 2) := by decide +kernel
theorem d_Mo_look_275 : decode prog_14_method_26_code 275 = .ok (.iconst 1, 1) := by decide +kernel
theorem d_Mo_look_276 : decode prog_14_method_26_code 276 = .ok (.isub, 1) := by decide +kernel
theorem d_Mo_look_277 : decode prog_14_method_26_code 277 = .ok (.laload, 1) := by decide +kernel
theorem d_Mo_look_278 : decode prog_14_method_26_code 278 = .ok (.aload_n 0, 1) := by decide +kernel
theorem d_Mo_look_279 : decode prog_14_method_26_code 279 = .ok (.getfield 92, 3) := by decide +kernel
theorem d_Mo_look_282 : decode prog_14_method_26_code 282 = .ok (.iload 4, 2) := by decide +kernel
theorem d_Mo_look_284 : decode prog_14_method_26_code 284 = .ok (.laload, 1) := by decide +kernel
theorem d_Mo_look_285 : decode prog_14_method_26_code 285 = .ok (.invokestatic 184, 3) := by decide +kernel
theorem d_Mo_look_288 : decode prog_14_method_26_code 288 = .ok (.lastore, 1) := by decide +kernel
theorem d_Mo_look_289 : decode prog_14_method_26_code 289 = .ok (.goto 47, 3) := by decide +kernel
theorem d_Mo_look_18 : decode prog_14_method_26_code 18 = .ok (.iload 5, 2) := by decide +kernel
theorem d_Mo_look_20 : decode prog_14_method_26_code 20 = .ok (.aload_n 0, 1) := by decide +kernel
theorem d_Mo_look_21 : decode prog_14_method_26_code 21 = .ok (.getfield 50, 3) := by decide +kernel
theorem d_Mo_look_24 : decode prog_14_method_26_code 24 = .ok (.iload_n 3, 1) := by decide +kernel
theorem d_Mo_look_25 : decode prog_14_method_26_code 25 = .ok (.iaload, 1) := by decide +kernel
theorem d_Mo_look_26 : decode prog_14_method_26_code 26 = .ok (.if_icmp .ge 316, 3) := by decide +kernel
theorem d_Mo_look_342 : decode prog_14_method_26_code 342 = .ok (.iconst 0, 1) := by decide +kernel
theorem d_Mo_look_343 : decode prog_14_method_26_code 343 = .ok (.ireturn, 1) := by decide +kernel
theorem d_Mo_look_29 : decode prog_14_method_26_code 29 = .ok (.aload_n 0, 1) := by decide +kernel
theorem d_Mo_look_30 : decode prog_14_method_26_code 30 = .ok (.getfield 59, 3) := by decide +kernel
theorem d_Mo_look_33 : decode prog_14_method_26_code 33 = .ok (.sipush 400, 3) := by decide +kernel
theorem d_Mo_look_36 : decode prog_14_method_26_code 36 = .ok (.iload_n 1, 1) := by decide +kernel
theorem d_Mo_look_37 : decode prog_14_method_26_code 37 = .ok (.imul, 1) := by decide +kernel
theorem d_Mo_look_38 : decode prog_14_method_26_code 38 = .ok (.iload 5, 2) := by decide +kernel
theorem d_Mo_look_40 : decode prog_14_method_26_code 40 = .ok (.iadd, 1) := by decide +kernel
theorem d_Mo_look_41 : decode prog_14_method_26_code 41 = .ok (.iaload, 1) := by decide +kernel
theorem d_Mo_look_42 : decode prog_14_method_26_code 42 = .ok (.istore 6, 2) := by decide +kernel
theorem d_Mo_look_44 : decode prog_14_method_26_code 44 = .ok (.aload_n 0, 1) := by decide +kernel
theorem d_Mo_look_45 : decode prog_14_method_26_code 45 = .ok (.getfield 62, 3) := by decide +kernel
theorem d_Mo_look_48 : decode prog_14_method_26_code 48 = .ok (.sipush 400, 3) := by decide +kernel
theorem d_Mo_look_51 : decode prog_14_method_26_code 51 = .ok (.iload_n 1, 1) := by decide +kernel
theorem d_Mo_look_52 : decode prog_14_method_26_code 52 = .ok (.imul, 1) := by decide +kernel
theorem d_Mo_look_53 : decode prog_14_method_26_code 53 = .ok (.iload 5, 2) := by decide +kernel
theorem d_Mo_look_55 : decode prog_14_method_26_code 55 = .ok (.iadd, 1) := by decide +kernel
theorem d_Mo_look_56 : decode prog_14_method_26_code 56 = .ok (.iaload, 1) := by decide +kernel
theorem d_Mo_look_57 : decode prog_14_method_26_code 57 = .ok (.istore 7, 2) := by decide +kernel
theorem d_Mo_look_59 : decode prog_14_method_26_code 59 = .ok (.aload_n 0, 1) := by decide +kernel
theorem d_Mo_look_60 : decode prog_14_method_26_code 60 = .ok (.iconst (-1), 1) := by decide +kernel
theorem d_Mo_look_61 : decode prog_14_method_26_code 61 = .ok (.putfield 178, 3) := by decide +kernel
theorem d_Mo_look_64 : decode prog_14_method_26_code 64 = .ok (.iload 6, 2) := by decide +kernel
theorem d_Mo_look_66 : decode prog_14_method_26_code 66 = .ok (.bipush (-21), 2) := by decide +kernel
theorem d_Mo_look_68 : decode prog_14_method_26_code 68 = .ok (.if_icmp .ne 19, 3) := by decide +kernel
theorem d_Mo_look_87 : decode prog_14_method_26_code 87 = .ok (.iload 6, 2) := by decide +kernel
theorem d_Mo_look_89 : decode prog_14_method_26_code 89 = .ok (.bipush (-6), 2) := by decide +kernel
theorem d_Mo_look_91 : decode prog_14_method_26_code 91 = .ok (.if_icmp .ne 46, 3) := by decide +kernel
theorem d_Mo_look_137 : decode prog_14_method_26_code 137 = .ok (.iload 6, 2) := by decide +kernel
theorem d_Mo_look_139 : decode prog_14_method_26_code 139 = .ok (.bipush (-7), 2) := by decide +kernel
theorem d_Mo_look_141 : decode prog_14_method_26_code 141 = .ok (.if_icmp .ne 79, 3) := by decide +kernel
theorem d_Mo_look_220 : decode prog_14_method_26_code 220 = .ok (.iload 6, 2) := by decide +kernel
theorem d_Mo_look_222 : decode prog_14_method_26_code 222 = .ok (.invokestatic 153, 3) := by decide +kernel
theorem d_Mo_look_225 : decode prog_14_method_26_code 225 = .ok (.ifCond .eq 67, 3) := by decide +kernel
theorem d_Mo_look_292 : decode prog_14_method_26_code 292 = .ok (.iinc 4 (-2), 3) := by decide +kernel
theorem d_Mo_look_295 : decode prog_14_method_26_code 295 = .ok (.iload 6, 2) := by decide +kernel
theorem d_Mo_look_297 : decode prog_14_method_26_code 297 = .ok (.aload_n 0, 1) := by decide +kernel
theorem d_Mo_look_298 : decode prog_14_method_26_code 298 = .ok (.getfield 92, 3) := by decide +kernel
theorem d_Mo_look_301 : decode prog_14_method_26_code 301 = .ok (.iload 4, 2) := by decide +kernel
theorem d_Mo_look_303 : decode prog_14_method_26_code 303 = .ok (.laload, 1) := by decide +kernel
theorem d_Mo_look_304 : decode prog_14_method_26_code 304 = .ok (.aload_n 0, 1) := by decide +kernel
theorem d_Mo_look_305 : decode prog_14_method_26_code 305 = .ok (.getfield 92, 3) := by decide +kernel
theorem d_Mo_look_308 : decode prog_14_method_26_code 308 = .ok (.iload 4, 2) := by decide +kernel
theorem d_Mo_look_310 : decode prog_14_method_26_code 310 = .ok (.iconst 1, 1) := by decide +kernel
theorem d_Mo_look_311 : decode prog_14_method_26_code 311 = .ok (.iadd, 1) := by decide +kernel
theorem d_Mo_look_312 : decode prog_14_method_26_code 312 = .ok (.laload, 1) := by decide +kernel
theorem d_Mo_look_313 : decode prog_14_method_26_code 313 = .ok (.invokestatic 188, 3) := by decide +kernel
theorem d_Mo_look_316 : decode prog_14_method_26_code 316 = .ok (.ifCond .ne 20, 3) := by decide +kernel
theorem d_Mo_look_319 : decode prog_14_method_26_code 319 = .ok (.iload 5, 2) := by decide +kernel
theorem d_Mo_look_321 : decode prog_14_method_26_code 321 = .ok (.aload_n 0, 1) := by decide +kernel
theorem d_Mo_look_322 : decode prog_14_method_26_code 322 = .ok (.getfield 47, 3) := by decide +kernel
theorem d_Mo_look_325 : decode prog_14_method_26_code 325 = .ok (.iload_n 3, 1) := by decide +kernel
theorem d_Mo_look_326 : decode prog_14_method_26_code 326 = .ok (.iaload, 1) := by decide +kernel
theorem d_Mo_look_327 : decode prog_14_method_26_code 327 = .ok (.if_icmp .ge 7, 3) := by decide +kernel
theorem d_Mo_look_334 : decode prog_14_method_26_code 334 = .ok (.iconst 1, 1) := by decide +kernel
theorem d_Mo_look_335 : decode prog_14_method_26_code 335 = .ok (.ireturn, 1) := by decide +kernel
theorem d_Mo_look_330 : decode prog_14_method_26_code 330 = .ok (.iconst 3, 1) := by decide +kernel
theorem d_Mo_look_331 : decode prog_14_method_26_code 331 = .ok (.goto 4, 3) := by decide +kernel
theorem d_Mo_look_228 : decode prog_14_method_26_code 228 = .ok (.iload 6, 2) := by decide +kernel
theorem d_Mo_look_230 : decode prog_14_method_26_code 230 = .ok (.bipush (-12), 2) := by decide +kernel
theorem d_Mo_look_232 : decode prog_14_method_26_code 232 = .ok (.if_icmp .ge 24, 3) := by decide +kernel
theorem d_Mo_look_235 : decode prog_14_method_26_code 235 = .ok (.aload_n 0, 1) := by decide +kernel
theorem d_Mo_look_236 : decode prog_14_method_26_code 236 = .ok (.getfield 92, 3) := by decide +kernel
theorem d_Mo_look_239 : decode prog_14_method_26_code 239 = .ok (.iload 4, 2) := by decide +kernel
theorem d_Mo_look_241 : decode prog_14_method_26_code 241 = .ok (.iconst 1, 1) := by decide +kernel
theorem d_Mo_look_242 : decode prog_14_method_26_code 242 = .ok (.isub, 1) := by decide +kernel
theorem d_Mo_look_243 : decode prog_14_method_26_code 243 = .ok (.laload, 1) := by decide +kernel
theorem d_Mo_look_244 : decode prog_14_method_26_code 244 = .ok (.lconst 0, 1) := by decide +kernel
theorem d_Mo_look_245 : decode prog_14_method_26_code 245 = .ok (.lcmp, 1) := by decide +kernel
theorem d_Mo_look_246 : decode prog_14_method_26_code 246 = .ok (.ifCond .ne 10, 3) := by decide +kernel
theorem d_Mo_look_249 : decode prog_14_method_26_code 249 = .ok (.aload_n 0, 1) := by decide +kernel
theorem d_Mo_look_250 : decode prog_14_method_26_code 250 = .ok (.iconst 1, 1) := by decide +kernel
theorem d_Mo_look_251 : decode prog_14_method_26_code 251 = .ok (.putfield 181, 3) := by decide +kernel
theorem d_Mo_look_254 : decode prog_14_method_26_code 254 = .ok (.iconst 2, 1) := by decide +kernel
theorem d_Mo_look_255 : decode prog_14_method_26_code 255 = .ok (.ireturn, 1) := by decide +kernel
theorem d_Mo_look_144 : decode prog_14_method_26_code 144 = .ok (.aload_n 0, 1) := by decide +kernel
theorem d_Mo_look_145 : decode prog_14_method_26_code 145 = .ok (.getfield 92, 3) := by decide +kernel
theorem d_Mo_look_148 : decode prog_14_method_26_code 148 = .ok (.iload 4, 2) := by decide +kernel
theorem d_Mo_look_150 : decode prog_14_method_26_code 150 = .ok (.iconst 1, 1) := by decide +kernel
theorem d_Mo_look_151 : decode prog_14_method_26_code 151 = .ok (.isub, 1) := by decide +kernel
theorem d_Mo_look_152 : decode prog_14_method_26_code 152 = .ok (.laload, 1) := by decide +kernel
theorem d_Mo_look_153 : decode prog_14_method_26_code 153 = .ok (.lstore 8, 2) := by decide +kernel
theorem d_Mo_look_155 : decode prog_14_method_26_code 155 = .ok (.lload 8, 2) := by decide +kernel
theorem d_Mo_look_157 : decode prog_14_method_26_code 157 = .ok (.lconst 0, 1) := by decide +kernel
theorem d_Mo_look_158 : decode prog_14_method_26_code 158 = .ok (.lcmp, 1) := by decide +kernel
theorem d_Mo_look_159 : decode prog_14_method_26_code 159 = .ok (.ifCond .lt 22, 3) := by decide +kernel
theorem d_Mo_look_181 : decode prog_14_method_26_code 181 = .ok (.aload_n 0, 1) := by decide +kernel
theorem d_Mo_look_182 : decode prog_14_method_26_code 182 = .ok (.iconst 2, 1) := by decide +kernel
theorem d_Mo_look_183 : decode prog_14_method_26_code 183 = .ok (.putfield 181, 3) := by decide +kernel
theorem d_Mo_look_186 : decode prog_14_method_26_code 186 = .ok (.iconst 2, 1) := by decide +kernel
theorem d_Mo_look_187 : decode prog_14_method_26_code 187 = .ok (.ireturn, 1) := by decide +kernel
theorem d_Mo_look_162 : decode prog_14_method_26_code 162 = .ok (.lload 8, 2) := by decide +kernel
theorem d_Mo_look_164 : decode prog_14_method_26_code 164 = .ok (.aload_n 0, 1) := by decide +kernel
theorem d_Mo_look_165 : decode prog_14_method_26_code 165 = .ok (.getfield 35, 3) := by decide +kernel
theorem d_Mo_look_168 : decode prog_14_method_26_code 168 = .ok (.bipush 8, 2) := by decide +kernel
theorem d_Mo_look_170 : decode prog_14_method_26_code 170 = .ok (.iload_n 1, 1) := by decide +kernel
theorem d_Mo_look_171 : decode prog_14_method_26_code 171 = .ok (.imul, 1) := by decide +kernel
theorem d_Mo_look_172 : decode prog_14_method_26_code 172 = .ok (.iload 7, 2) := by decide +kernel
theorem d_Mo_look_174 : decode prog_14_method_26_code 174 = .ok (.iadd, 1) := by decide +kernel
theorem d_Mo_look_175 : decode prog_14_method_26_code 175 = .ok (.iaload, 1) := by decide +kernel
theorem d_Mo_look_176 : decode prog_14_method_26_code 176 = .ok (.i2l, 1) := by decide +kernel
theorem d_Mo_look_177 : decode prog_14_method_26_code 177 = .ok (.lcmp, 1) := by decide +kernel
theorem d_Mo_look_178 : decode prog_14_method_26_code 178 = .ok (.ifCond .lt 10, 3) := by decide +kernel
theorem d_Mo_look_188 : decode prog_14_method_26_code 188 = .ok (.aload_n 0, 1) := by decide +kernel
theorem d_Mo_look_189 : decode prog_14_method_26_code 189 = .ok (.getfield 92, 3) := by decide +kernel
theorem d_Mo_look_192 : decode prog_14_method_26_code 192 = .ok (.iload 4, 2) := by decide +kernel
theorem d_Mo_look_194 : decode prog_14_method_26_code 194 = .ok (.iconst 1, 1) := by decide +kernel
theorem d_Mo_look_195 : decode prog_14_method_26_code 195 = .ok (.isub, 1) := by decide +kernel
theorem d_Mo_look_196 : decode prog_14_method_26_code 196 = .ok (.aload_n 0, 1) := by decide +kernel
theorem d_Mo_look_197 : decode prog_14_method_26_code 197 = .ok (.getfield 38, 3) := by decide +kernel
theorem d_Mo_look_200 : decode prog_14_method_26_code 200 = .ok (.bipush 80, 2) := by decide +kernel
theorem d_Mo_look_202 : decode prog_14_method_26_code 202 = .ok (.iload_n 1, 1) := by decide +kernel
theorem d_Mo_look_203 : decode prog_14_method_26_code 203 = .ok (.imul, 1) := by decide +kernel
theorem d_Mo_look_204 : decode prog_14_method_26_code 204 = .ok (.bipush 10, 2) := by decide +kernel
theorem d_Mo_look_206 : decode prog_14_method_26_code 206 = .ok (.iload 7, 2) := by decide +kernel
theorem d_Mo_look_208 : decode prog_14_method_26_code 208 = .ok (.imul, 1) := by decide +kernel
theorem d_Mo_look_209 : decode prog_14_method_26_code 209 = .ok (.iadd, 1) := by decide +kernel
theorem d_Mo_look_210 : decode prog_14_method_26_code 210 = .ok (.lload 8, 2) := by decide +kernel
theorem d_Mo_look_212 : decode prog_14_method_26_code 212 = .ok (.l2i, 1) := by decide +kernel
theorem d_Mo_look_213 : decode prog_14_method_26_code 213 = .ok (.iadd, 1) := by decide +kernel
theorem d_Mo_look_214 : decode prog_14_method_26_code 214 = .ok (.iaload, 1) := by decide +kernel
theorem d_Mo_look_215 : decode prog_14_method_26_code 215 = .ok (.i2l, 1) := by decide +kernel
theorem d_Mo_look_216 : decode prog_14_method_26_code 216 = .ok (.lastore, 1) := by decide +kernel
theorem d_Mo_look_217 : decode prog_14_method_26_code 217 = .ok (.goto 119, 3) := by decide +kernel
theorem d_Mo_look_94 : decode prog_14_method_26_code 94 = .ok (.aload_n 0, 1) := by decide +kernel
theorem d_Mo_look_95 : decode prog_14_method_26_code 95 = .ok (.getfield 75, 3) := by decide +kernel
theorem d_Mo_look_98 : decode prog_14_method_26_code 98 = .ok (.iload 7, 2) := by decide +kernel
theorem d_Mo_look_100 : decode prog_14_method_26_code 100 = .ok (.baload, 1) := by decide +kernel
theorem d_Mo_look_101 : decode prog_14_method_26_code 101 = .ok (.ifCond .ne 16, 3) := by decide +kernel
theorem d_Mo_look_117 : decode prog_14_method_26_code 117 = .ok (.aload_n 0, 1) := by decide +kernel
theorem d_Mo_look_118 : decode prog_14_method_26_code 118 = .ok (.getfield 92, 3) := by decide +kernel
theorem d_Mo_look_121 : decode prog_14_method_26_code 121 = .ok (.iload 4, 2) := by decide +kernel
theorem d_Mo_look_123 : decode prog_14_method_26_code 123 = .ok (.aload_n 0, 1) := by decide +kernel
theorem d_Mo_look_124 : decode prog_14_method_26_code 124 = .ok (.getfield 71, 3) := by decide +kernel
theorem d_Mo_look_127 : decode prog_14_method_26_code 127 = .ok (.iload 7, 2) := by decide +kernel
theorem d_Mo_look_129 : decode prog_14_method_26_code 129 = .ok (.laload, 1) := by decide +kernel
theorem d_Mo_look_130 : decode prog_14_method_26_code 130 = .ok (.lastore, 1) := by decide +kernel
theorem d_Mo_look_131 : decode prog_14_method_26_code 131 = .ok (.iinc 4 1, 3) := by decide +kernel
theorem d_Mo_look_134 : decode prog_14_method_26_code 134 = .ok (.goto 202, 3) := by decide +kernel
theorem d_Mo_look_104 : decode prog_14_method_26_code 104 = .ok (.aload_n 0, 1) := by decide +kernel
theorem d_Mo_look_105 : decode prog_14_method_26_code 105 = .ok (.iconst 3, 1) := by decide +kernel
theorem d_Mo_look_106 : decode prog_14_method_26_code 106 = .ok (.putfield 181, 3) := by decide +kernel
theorem d_Mo_look_109 : decode prog_14_method_26_code 109 = .ok (.aload_n 0, 1) := by decide +kernel
theorem d_Mo_look_110 : decode prog_14_method_26_code 110 = .ok (.iload 7, 2) := by decide +kernel
theorem d_Mo_look_112 : decode prog_14_method_26_code 112 = .ok (.putfield 178, 3) := by decide +kernel
theorem d_Mo_look_115 : decode prog_14_method_26_code 115 = .ok (.iconst 2, 1) := by decide +kernel
theorem d_Mo_look_116 : decode prog_14_method_26_code 116 = .ok (.ireturn, 1) := by decide +kernel
theorem d_Mo_look_71 : decode prog_14_method_26_code 71 = .ok (.aload_n 0, 1) := by decide +kernel
theorem d_Mo_look_72 : decode prog_14_method_26_code 72 = .ok (.getfield 92, 3) := by decide +kernel
theorem d_Mo_look_75 : decode prog_14_method_26_code 75 = .ok (.iload 4, 2) := by decide +kernel
theorem d_Mo_look_77 : decode prog_14_method_26_code 77 = .ok (.iload 7, 2) := by decide +kernel
theorem d_Mo_look_79 : decode prog_14_method_26_code 79 = .ok (.i2l, 1) := by decide +kernel
theorem d_Mo_look_80 : decode prog_14_method_26_code 80 = .ok (.lastore, 1) := by decide +kernel
theorem d_Mo_look_81 : decode prog_14_method_26_code 81 = .ok (.iinc 4 1, 3) := by decide +kernel
theorem d_Mo_look_84 : decode prog_14_method_26_code 84 = .ok (.goto 252, 3) := by decide +kernel
theorem d_Mo_look_0 : decode prog_14_method_26_code 0 = .ok (.bipush 12, 2) := by decide +kernel
theorem d_Mo_look_2 : decode prog_14_method_26_code 2 = .ok (.iload_n 1, 1) := by decide +kernel
theorem d_Mo_look_3 : decode prog_14_method_26_code 3 = .ok (.imul, 1) := by decide +kernel
theorem d_Mo_look_4 : decode prog_14_method_26_code 4 = .ok (.iload_n 2, 1) := by decide +kernel
theorem d_Mo_look_5 : decode prog_14_method_26_code 5 = .ok (.iadd, 1) := by decide +kernel
theorem d_Mo_look_6 : decode prog_14_method_26_code 6 = .ok (.istore_n 3, 1) := by decide +kernel
theorem d_Mo_look_7 : decode prog_14_method_26_code 7 = .ok (.iconst 0, 1) := by decide +kernel
theorem d_Mo_look_8 : decode prog_14_method_26_code 8 = .ok (.istore 4, 2) := by decide +kernel
theorem d_Mo_look_10 : decode prog_14_method_26_code 10 = .ok (.aload_n 0, 1) := by decide +kernel
theorem d_Mo_look_11 : decode prog_14_method_26_code 11 = .ok (.getfield 44, 3) := by decide +kernel
theorem d_Mo_look_14 : decode prog_14_method_26_code 14 = .ok (.iload_n 3, 1) := by decide +kernel
theorem d_Mo_look_15 : decode prog_14_method_26_code 15 = .ok (.iaload, 1) := by decide +kernel
theorem d_Mo_look_16 : decode prog_14_method_26_code 16 = .ok (.istore 5, 2) := by decide +kernel
theorem d_Mo_answer_112 : decode prog_14_method_27_code 112 = .ok (.iinc 6 1, 3) := by decide +kernel
theorem d_Mo_answer_115 : decode prog_14_method_27_code 115 = .ok (.goto (-91), 3) := by decide +kernel
theorem d_Mo_answer_75 : decode prog_14_method_27_code 75 = .ok (.istore 4, 2) := by decide +kernel
theorem d_Mo_answer_77 : decode prog_14_method_27_code 77 = .ok (.iload_n 2, 1) := by decide +kernel
theorem d_Mo_answer_78 : decode prog_14_method_27_code 78 = .ok (.ifCond .eq 34, 3) := by decide +kernel
theorem d_Mo_answer_81 : decode prog_14_method_27_code 81 = .ok (.aload_n 0, 1) := by decide +kernel
theorem d_Mo_answer_82 : decode prog_14_method_27_code 82 = .ok (.getfield 83, 3) := by decide +kernel
theorem d_Mo_answer_85 : decode prog_14_method_27_code 85 = .ok (.iload 6, 2) := by decide +kernel
theorem d_Mo_answer_87 : decode prog_14_method_27_code 87 = .ok (.iload 7, 2) := by decide +kernel
theorem d_Mo_answer_89 : decode prog_14_method_27_code 89 = .ok (.iastore, 1) := by decide +kernel
theorem d_Mo_answer_90 : decode prog_14_method_27_code 90 = .ok (.aload_n 0, 1) := by decide +kernel
theorem d_Mo_answer_91 : decode prog_14_method_27_code 91 = .ok (.getfield 86, 3) := by decide +kernel
theorem d_Mo_answer_94 : decode prog_14_method_27_code 94 = .ok (.iload 6, 2) := by decide +kernel
theorem d_Mo_answer_96 : decode prog_14_method_27_code 96 = .ok (.aload_n 0, 1) := by decide +kernel
theorem d_Mo_answer_97 : decode prog_14_method_27_code 97 = .ok (.getfield 181, 3) := by decide +kernel
theorem d_Mo_answer_100 : decode prog_14_method_27_code 100 = .ok (.iastore, 1) := by decide +kernel
theorem d_Mo_answer_101 : decode prog_14_method_27_code 101 = .ok (.aload_n 0, 1) := by decide +kernel
theorem d_Mo_answer_102 : decode prog_14_method_27_code 102 = .ok (.getfield 89, 3) := by decide +kernel
theorem d_Mo_answer_105 : decode prog_14_method_27_code 105 = .ok (.iload 6, 2) := by decide +kernel
theorem d_Mo_answer_107 : decode prog_14_method_27_code 107 = .ok (.aload_n 0, 1) := by decide +kernel
theorem d_Mo_answer_108 : decode prog_14_method_27_code 108 = .ok (.getfield 178, 3) := by decide +kernel
theorem d_Mo_answer_111 : decode prog_14_method_27_code 111 = .ok (.iastore, 1) := by decide +kernel
theorem d_Mo_answer_70 : decode prog_14_method_27_code 70 = .ok (.iconst 1, 1) := by decide +kernel
theorem d_Mo_answer_71 : decode prog_14_method_27_code 71 = .ok (.goto 4, 3) := by decide +kernel
theorem d_Mo_answer_58 : decode prog_14_method_27_code 58 = .ok (.istore_n 3, 1) := by decide +kernel
theorem d_Mo_answer_59 : decode prog_14_method_27_code 59 = .ok (.iload 4, 2) := by decide +kernel
theorem d_Mo_answer_61 : decode prog_14_method_27_code 61 = .ok (.ifCond .ne 9, 3) := by decide +kernel
theorem d_Mo_answer_64 : decode prog_14_method_27_code 64 = .ok (.iload 7, 2) := by decide +kernel
theorem d_Mo_answer_66 : decode prog_14_method_27_code 66 = .ok (.iconst 2, 1) := by decide +kernel
theorem d_Mo_answer_67 : decode prog_14_method_27_code 67 = .ok (.if_icmp .ne 7, 3) := by decide +kernel
theorem d_Mo_answer_74 : decode prog_14_method_27_code 74 = .ok (.iconst 0, 1) := by decide +kernel
theorem d_Mo_answer_57 : decode prog_14_method_27_code 57 = .ok (.iload_n 3, 1) := by decide +kernel
theorem d_Mo_answer_24 : decode prog_14_method_27_code 24 = .ok (.iload 6, 2) := by decide +kernel
theorem d_Mo_answer_26 : decode prog_14_method_27_code 26 = .ok (.iload 5, 2) := by decide +kernel
theorem d_Mo_answer_28 : decode prog_14_method_27_code 28 = .ok (.if_icmp .ge 90, 3) := by decide +kernel
theorem d_Mo_answer_118 : decode prog_14_method_27_code 118 = .ok (.iload_n 3, 1) := by decide +kernel
theorem d_Mo_answer_119 : decode prog_14_method_27_code 119 = .ok (.ifCond .le 7, 3) := by decide +kernel
theorem d_Mo_answer_126 : decode prog_14_method_27_code 126 = .ok (.iload 4, 2) := by decide +kernel
theorem d_Mo_answer_128 : decode prog_14_method_27_code 128 = .ok (.ifCond .eq 7, 3) := by decide +kernel
theorem d_Mo_answer_135 : decode prog_14_method_27_code 135 = .ok (.iconst 0, 1) := by decide +kernel
theorem d_Mo_answer_136 : decode prog_14_method_27_code 136 = .ok (.ireturn, 1) := by decide +kernel
theorem d_Mo_answer_131 : decode prog_14_method_27_code 131 = .ok (.iconst (-1), 1) := by decide +kernel
theorem d_Mo_answer_132 : decode prog_14_method_27_code 132 = .ok (.goto 4, 3) := by decide +kernel
theorem d_Mo_answer_122 : decode prog_14_method_27_code 122 = .ok (.iload_n 3, 1) := by decide +kernel
theorem d_Mo_answer_123 : decode prog_14_method_27_code 123 = .ok (.goto 13, 3) := by decide +kernel
theorem d_Mo_answer_31 : decode prog_14_method_27_code 31 = .ok (.aload_n 0, 1) := by decide +kernel
theorem d_Mo_answer_32 : decode prog_14_method_27_code 32 = .ok (.iload_n 1, 1) := by decide +kernel
theorem d_Mo_answer_33 : decode prog_14_method_27_code 33 = .ok (.iload 6, 2) := by decide +kernel
theorem d_Mo_answer_35 : decode prog_14_method_27_code 35 = .ok (.invokevirtual 192, 3) := by decide +kernel
theorem d_Mo_answer_38 : decode prog_14_method_27_code 38 = .ok (.istore 7, 2) := by decide +kernel
theorem d_Mo_answer_40 : decode prog_14_method_27_code 40 = .ok (.iload 7, 2) := by decide +kernel
theorem d_Mo_answer_42 : decode prog_14_method_27_code 42 = .ok (.iconst 1, 1) := by decide +kernel
theorem d_Mo_answer_43 : decode prog_14_method_27_code 43 = .ok (.if_icmp .ne 14, 3) := by decide +kernel
theorem d_Mo_answer_46 : decode prog_14_method_27_code 46 = .ok (.iload_n 3, 1) := by decide +kernel
theorem d_Mo_answer_47 : decode prog_14_method_27_code 47 = .ok (.ifCond .ne 10, 3) := by decide +kernel
theorem d_Mo_answer_50 : decode prog_14_method_27_code 50 = .ok (.iload 6, 2) := by decide +kernel
theorem d_Mo_answer_52 : decode prog_14_method_27_code 52 = .ok (.iconst 1, 1) := by decide +kernel
theorem d_Mo_answer_53 : decode prog_14_method_27_code 53 = .ok (.iadd, 1) := by decide +kernel
theorem d_Mo_answer_54 : decode prog_14_method_27_code 54 = .ok (.goto 4, 3) := by decide +kernel
theorem d_Mo_answer_19 : decode prog_14_method_27_code 19 = .ok (.istore 5, 2) := by decide +kernel
theorem d_Mo_answer_21 : decode prog_14_method_27_code 21 = .ok (.iconst 0, 1) := by decide +kernel
theorem d_Mo_answer_22 : decode prog_14_method_27_code 22 = .ok (.istore 6, 2) := by decide +kernel
theorem d_Mo_answer_0 : decode prog_14_method_27_code 0 = .ok (.iconst 0, 1) := by decide +kernel
theorem d_Mo_answer_1 : decode prog_14_method_27_code 1 = .ok (.istore_n 3, 1) := by decide +kernel
theorem d_Mo_answer_2 : decode prog_14_method_27_code 2 = .ok (.iconst 0, 1) := by decide +kernel
theorem d_Mo_answer_3 : decode prog_14_method_27_code 3 = .ok (.istore 4, 2) := by decide +kernel
theorem d_Mo_answer_5 : decode prog_14_method_27_code 5 = .ok (.iload_n 1, 1) := by decide +kernel
theorem d_Mo_answer_6 : decode prog_14_method_27_code 6 = .ok (.ifCond .ge 7, 3) := by decide +kernel
theorem d_Mo_answer_13 : decode prog_14_method_27_code 13 = .ok (.aload_n 0, 1) := by decide +kernel
theorem d_Mo_answer_14 : decode prog_14_method_27_code 14 = .ok (.getfield 41, 3) := by decide +kernel
theorem d_Mo_answer_17 : decode prog_14_method_27_code 17 = .ok (.iload_n 1, 1) := by decide +kernel
theorem d_Mo_answer_18 : decode prog_14_method_27_code 18 = .ok (.iaload, 1) := by decide +kernel
theorem d_Mo_answer_9 : decode prog_14_method_27_code 9 = .ok (.iconst 0, 1) := by decide +kernel
theorem d_Mo_answer_10 : decode prog_14_method_27_code 10 = .ok (.goto 9, 3) := by decide +kernel
theorem d_Mo_run_0 : decode prog_14_method_28_code 0 = .ok (.aload_n 0, 1) := by decide +kernel
theorem d_Mo_run_1 : decode prog_14_method_28_code 1 = .ok (.iconst 0, 1) := by decide +kernel
theorem d_Mo_run_2 : decode prog_14_method_28_code 2 = .ok (.putfield 101, 3) := by decide +kernel
theorem d_Mo_run_5 : decode prog_14_method_28_code 5 = .ok (.aload_n 0, 1) := by decide +kernel
theorem d_Mo_run_6 : decode prog_14_method_28_code 6 = .ok (.aload_n 0, 1) := by decide +kernel
theorem d_Mo_run_7 : decode prog_14_method_28_code 7 = .ok (.iload_n 1, 1) := by decide +kernel
theorem d_Mo_run_8 : decode prog_14_method_28_code 8 = .ok (.invokevirtual 195, 3) := by decide +kernel
theorem d_Mo_run_11 : decode prog_14_method_28_code 11 = .ok (.putfield 79, 3) := by decide +kernel
theorem d_Mo_run_14 : decode prog_14_method_28_code 14 = .ok (.aload_n 0, 1) := by decide +kernel
theorem d_Mo_run_15 : decode prog_14_method_28_code 15 = .ok (.aload_n 0, 1) := by decide +kernel
theorem d_Mo_run_16 : decode prog_14_method_28_code 16 = .ok (.getfield 79, 3) := by decide +kernel
theorem d_Mo_run_19 : decode prog_14_method_28_code 19 = .ok (.iconst 1, 1) := by decide +kernel
theorem d_Mo_run_20 : decode prog_14_method_28_code 20 = .ok (.invokevirtual 199, 3) := by decide +kernel
theorem d_Mo_run_23 : decode prog_14_method_28_code 23 = .ok (.ireturn, 1) := by decide +kernel
theorem d_Mo_walk_0 : decode prog_14_method_29_code 0 = .ok (.aload_n 0, 1) := by decide +kernel
theorem d_Mo_walk_1 : decode prog_14_method_29_code 1 = .ok (.iconst 0, 1) := by decide +kernel
theorem d_Mo_walk_2 : decode prog_14_method_29_code 2 = .ok (.putfield 101, 3) := by decide +kernel
theorem d_Mo_walk_5 : decode prog_14_method_29_code 5 = .ok (.aload_n 0, 1) := by decide +kernel
theorem d_Mo_walk_6 : decode prog_14_method_29_code 6 = .ok (.aload_n 0, 1) := by decide +kernel
theorem d_Mo_walk_7 : decode prog_14_method_29_code 7 = .ok (.iload_n 1, 1) := by decide +kernel
theorem d_Mo_walk_8 : decode prog_14_method_29_code 8 = .ok (.invokevirtual 195, 3) := by decide +kernel
theorem d_Mo_walk_11 : decode prog_14_method_29_code 11 = .ok (.iconst 0, 1) := by decide +kernel
theorem d_Mo_walk_12 : decode prog_14_method_29_code 12 = .ok (.invokevirtual 199, 3) := by decide +kernel
theorem d_Mo_walk_15 : decode prog_14_method_29_code 15 = .ok (.ireturn, 1) := by decide +kernel
theorem d_Mo_ranRules_0 : decode prog_14_method_30_code 0 = .ok (.aload_n 0, 1) := by decide +kernel
theorem d_Mo_ranRules_1 : decode prog_14_method_30_code 1 = .ok (.getfield 79, 3) := by decide +kernel
theorem d_Mo_ranRules_4 : decode prog_14_method_30_code 4 = .ok (.ifCond .ge 7, 3) := by decide +kernel
theorem d_Mo_ranRules_11 : decode prog_14_method_30_code 11 = .ok (.aload_n 0, 1) := by decide +kernel
theorem d_Mo_ranRules_12 : decode prog_14_method_30_code 12 = .ok (.getfield 41, 3) := by decide +kernel
theorem d_Mo_ranRules_15 : decode prog_14_method_30_code 15 = .ok (.aload_n 0, 1) := by decide +kernel
theorem d_Mo_ranRules_16 : decode prog_14_method_30_code 16 = .ok (.getfield 79, 3) := by decide +kernel
theorem d_Mo_ranRules_19 : decode prog_14_method_30_code 19 = .ok (.iaload, 1) := by decide +kernel
theorem d_Mo_ranRules_20 : decode prog_14_method_30_code 20 = .ok (.ireturn, 1) := by decide +kernel
theorem d_Mo_ranRules_7 : decode prog_14_method_30_code 7 = .ok (.iconst 0, 1) := by decide +kernel
theorem d_Mo_ranRules_8 : decode prog_14_method_30_code 8 = .ok (.goto 12, 3) := by decide +kernel
theorem d_Mo_withState_40 : decode prog_14_method_31_code 40 = .ok (.iinc 4 1, 3) := by decide +kernel
theorem d_Mo_withState_43 : decode prog_14_method_31_code 43 = .ok (.goto (-38), 3) := by decide +kernel
theorem d_Mo_withState_5 : decode prog_14_method_31_code 5 = .ok (.iload 4, 2) := by decide +kernel
theorem d_Mo_withState_7 : decode prog_14_method_31_code 7 = .ok (.aload_n 0, 1) := by decide +kernel
theorem d_Mo_withState_8 : decode prog_14_method_31_code 8 = .ok (.invokevirtual 203, 3) := by decide +kernel
theorem d_Mo_withState_11 : decode prog_14_method_31_code 11 = .ok (.if_icmp .ge 35, 3) := by decide +kernel
theorem d_Mo_withState_46 : decode prog_14_method_31_code 46 = .ok (.iconst (-1), 1) := by decide +kernel
theorem d_Mo_withState_47 : decode prog_14_method_31_code 47 = .ok (.ireturn, 1) := by decide +kernel
theorem d_Mo_withState_14 : decode prog_14_method_31_code 14 = .ok (.iload_n 1, 1) := by decide +kernel
theorem d_Mo_withState_15 : decode prog_14_method_31_code 15 = .ok (.ifCond .lt 31, 3) := by decide +kernel
theorem d_Mo_withState_18 : decode prog_14_method_31_code 18 = .ok (.aload_n 0, 1) := by decide +kernel
theorem d_Mo_withState_19 : decode prog_14_method_31_code 19 = .ok (.getfield 83, 3) := by decide +kernel
theorem d_Mo_withState_22 : decode prog_14_method_31_code 22 = .ok (.iload 4, 2) := by decide +kernel
theorem d_Mo_withState_24 : decode prog_14_method_31_code 24 = .ok (.iaload, 1) := by decide +kernel
theorem d_Mo_withState_25 : decode prog_14_method_31_code 25 = .ok (.iload_n 2, 1) := by decide +kernel
theorem d_Mo_withState_26 : decode prog_14_method_31_code 26 = .ok (.if_icmp .ne 14, 3) := by decide +kernel
theorem d_Mo_withState_29 : decode prog_14_method_31_code 29 = .ok (.iload_n 3, 1) := by decide +kernel
theorem d_Mo_withState_30 : decode prog_14_method_31_code 30 = .ok (.iload_n 1, 1) := by decide +kernel
theorem d_Mo_withState_31 : decode prog_14_method_31_code 31 = .ok (.if_icmp .ne 6, 3) := by decide +kernel
theorem d_Mo_withState_37 : decode prog_14_method_31_code 37 = .ok (.iinc 3 1, 3) := by decide +kernel
theorem d_Mo_withState_34 : decode prog_14_method_31_code 34 = .ok (.iload 4, 2) := by decide +kernel
theorem d_Mo_withState_36 : decode prog_14_method_31_code 36 = .ok (.ireturn, 1) := by decide +kernel
theorem d_Mo_withState_0 : decode prog_14_method_31_code 0 = .ok (.iconst 0, 1) := by decide +kernel
theorem d_Mo_withState_1 : decode prog_14_method_31_code 1 = .ok (.istore_n 3, 1) := by decide +kernel
theorem d_Mo_withState_2 : decode prog_14_method_31_code 2 = .ok (.iconst 0, 1) := by decide +kernel
theorem d_Mo_withState_3 : decode prog_14_method_31_code 3 = .ok (.istore 4, 2) := by decide +kernel
theorem d_Mo_broken_0 : decode prog_14_method_32_code 0 = .ok (.aload_n 0, 1) := by decide +kernel
theorem d_Mo_broken_1 : decode prog_14_method_32_code 1 = .ok (.iconst 0, 1) := by decide +kernel
theorem d_Mo_broken_2 : decode prog_14_method_32_code 2 = .ok (.putfield 101, 3) := by decide +kernel
theorem d_Mo_broken_5 : decode prog_14_method_32_code 5 = .ok (.aload_n 0, 1) := by decide +kernel
theorem d_Mo_broken_6 : decode prog_14_method_32_code 6 = .ok (.iload_n 1, 1) := by decide +kernel
theorem d_Mo_broken_7 : decode prog_14_method_32_code 7 = .ok (.iconst 1, 1) := by decide +kernel
theorem d_Mo_broken_8 : decode prog_14_method_32_code 8 = .ok (.invokevirtual 206, 3) := by decide +kernel
theorem d_Mo_broken_11 : decode prog_14_method_32_code 11 = .ok (.istore_n 3, 1) := by decide +kernel
theorem d_Mo_broken_12 : decode prog_14_method_32_code 12 = .ok (.iload_n 3, 1) := by decide +kernel
theorem d_Mo_broken_13 : decode prog_14_method_32_code 13 = .ok (.ifCond .lt 12, 3) := by decide +kernel
theorem d_Mo_broken_25 : decode prog_14_method_32_code 25 = .ok (.iconst (-1), 1) := by decide +kernel
theorem d_Mo_broken_26 : decode prog_14_method_32_code 26 = .ok (.goto 25, 3) := by decide +kernel
theorem d_Mo_broken_51 : decode prog_14_method_32_code 51 = .ok (.ireturn, 1) := by decide +kernel
theorem d_Mo_broken_16 : decode prog_14_method_32_code 16 = .ok (.iload_n 2, 1) := by decide +kernel
theorem d_Mo_broken_17 : decode prog_14_method_32_code 17 = .ok (.ifCond .lt 8, 3) := by decide +kernel
theorem d_Mo_broken_20 : decode prog_14_method_32_code 20 = .ok (.iload_n 2, 1) := by decide +kernel
theorem d_Mo_broken_21 : decode prog_14_method_32_code 21 = .ok (.iconst 1, 1) := by decide +kernel
theorem d_Mo_broken_22 : decode prog_14_method_32_code 22 = .ok (.if_icmp .le 7, 3) := by decide +kernel
theorem d_Mo_broken_29 : decode prog_14_method_32_code 29 = .ok (.iload_n 2, 1) := by decide +kernel
theorem d_Mo_broken_30 : decode prog_14_method_32_code 30 = .ok (.ifCond .ne 7, 3) := by decide +kernel
theorem d_Mo_broken_37 : decode prog_14_method_32_code 37 = .ok (.aload_n 0, 1) := by decide +kernel
theorem d_Mo_broken_38 : decode prog_14_method_32_code 38 = .ok (.getfield 53, 3) := by decide +kernel
theorem d_Mo_broken_41 : decode prog_14_method_32_code 41 = .ok (.bipush 12, 2) := by decide +kernel
theorem d_Mo_broken_43 : decode prog_14_method_32_code 43 = .ok (.aload_n 0, 1) := by decide +kernel
theorem d_Mo_broken_44 : decode prog_14_method_32_code 44 = .ok (.getfield 79, 3) := by decide +kernel
theorem d_Mo_broken_47 : decode prog_14_method_32_code 47 = .ok (.imul, 1) := by decide +kernel
theorem d_Mo_broken_48 : decode prog_14_method_32_code 48 = .ok (.iload_n 3, 1) := by decide +kernel
theorem d_Mo_broken_49 : decode prog_14_method_32_code 49 = .ok (.iadd, 1) := by decide +kernel
theorem d_Mo_broken_50 : decode prog_14_method_32_code 50 = .ok (.iaload, 1) := by decide +kernel
theorem d_Mo_broken_33 : decode prog_14_method_32_code 33 = .ok (.iload_n 3, 1) := by decide +kernel
theorem d_Mo_broken_34 : decode prog_14_method_32_code 34 = .ok (.goto 17, 3) := by decide +kernel
theorem d_Mo_open_0 : decode prog_14_method_33_code 0 = .ok (.aload_n 0, 1) := by decide +kernel
theorem d_Mo_open_1 : decode prog_14_method_33_code 1 = .ok (.iconst 0, 1) := by decide +kernel
theorem d_Mo_open_2 : decode prog_14_method_33_code 2 = .ok (.putfield 101, 3) := by decide +kernel
theorem d_Mo_open_5 : decode prog_14_method_33_code 5 = .ok (.aload_n 0, 1) := by decide +kernel
theorem d_Mo_open_6 : decode prog_14_method_33_code 6 = .ok (.iload_n 1, 1) := by decide +kernel
theorem d_Mo_open_7 : decode prog_14_method_33_code 7 = .ok (.iconst 2, 1) := by decide +kernel
theorem d_Mo_open_8 : decode prog_14_method_33_code 8 = .ok (.invokevirtual 206, 3) := by decide +kernel
theorem d_Mo_open_11 : decode prog_14_method_33_code 11 = .ok (.istore_n 3, 1) := by decide +kernel
theorem d_Mo_open_12 : decode prog_14_method_33_code 12 = .ok (.iload_n 3, 1) := by decide +kernel
theorem d_Mo_open_13 : decode prog_14_method_33_code 13 = .ok (.ifCond .lt 12, 3) := by decide +kernel
theorem d_Mo_open_25 : decode prog_14_method_33_code 25 = .ok (.iconst (-1), 1) := by decide +kernel
theorem d_Mo_open_26 : decode prog_14_method_33_code 26 = .ok (.goto 31, 3) := by decide +kernel
theorem d_Mo_open_57 : decode prog_14_method_33_code 57 = .ok (.ireturn, 1) := by decide +kernel
theorem d_Mo_open_16 : decode prog_14_method_33_code 16 = .ok (.iload_n 2, 1) := by decide +kernel
theorem d_Mo_open_17 : decode prog_14_method_33_code 17 = .ok (.ifCond .lt 8, 3) := by decide +kernel
theorem d_Mo_open_20 : decode prog_14_method_33_code 20 = .ok (.iload_n 2, 1) := by decide +kernel
theorem d_Mo_open_21 : decode prog_14_method_33_code 21 = .ok (.iconst 2, 1) := by decide +kernel
theorem d_Mo_open_22 : decode prog_14_method_33_code 22 = .ok (.if_icmp .le 7, 3) := by decide +kernel
theorem d_Mo_open_29 : decode prog_14_method_33_code 29 = .ok (.iload_n 2, 1) := by decide +kernel
theorem d_Mo_open_30 : decode prog_14_method_33_code 30 = .ok (.ifCond .ne 7, 3) := by decide +kernel
theorem d_Mo_open_37 : decode prog_14_method_33_code 37 = .ok (.iload_n 2, 1) := by decide +kernel
theorem d_Mo_open_38 : decode prog_14_method_33_code 38 = .ok (.iconst 1, 1) := by decide +kernel
theorem d_Mo_open_39 : decode prog_14_method_33_code 39 = .ok (.if_icmp .ne 12, 3) := by decide +kernel
theorem d_Mo_open_51 : decode prog_14_method_33_code 51 = .ok (.aload_n 0, 1) := by decide +kernel
theorem d_Mo_open_52 : decode prog_14_method_33_code 52 = .ok (.getfield 89, 3) := by decide +kernel
theorem d_Mo_open_55 : decode prog_14_method_33_code 55 = .ok (.iload_n 3, 1) := by decide +kernel
theorem d_Mo_open_56 : decode prog_14_method_33_code 56 = .ok (.iaload, 1) := by decide +kernel
theorem d_Mo_open_42 : decode prog_14_method_33_code 42 = .ok (.aload_n 0, 1) := by decide +kernel
theorem d_Mo_open_43 : decode prog_14_method_33_code 43 = .ok (.getfield 86, 3) := by decide +kernel
theorem d_Mo_open_46 : decode prog_14_method_33_code 46 = .ok (.iload_n 3, 1) := by decide +kernel
theorem d_Mo_open_47 : decode prog_14_method_33_code 47 = .ok (.iaload, 1) := by decide +kernel
theorem d_Mo_open_48 : decode prog_14_method_33_code 48 = .ok (.goto 9, 3) := by decide +kernel
theorem d_Mo_open_33 : decode prog_14_method_33_code 33 = .ok (.iload_n 3, 1) := by decide +kernel
theorem d_Mo_open_34 : decode prog_14_method_33_code 34 = .ok (.goto 23, 3) := by decide +kernel
theorem d_Mo_explain_0 : decode prog_14_method_34_code 0 = .ok (.aload_n 0, 1) := by decide +kernel
theorem d_Mo_explain_1 : decode prog_14_method_34_code 1 = .ok (.iconst 0, 1) := by decide +kernel
theorem d_Mo_explain_2 : decode prog_14_method_34_code 2 = .ok (.putfield 101, 3) := by decide +kernel
theorem d_Mo_explain_5 : decode prog_14_method_34_code 5 = .ok (.iload_n 1, 1) := by decide +kernel
theorem d_Mo_explain_6 : decode prog_14_method_34_code 6 = .ok (.ifCond .lt 11, 3) := by decide +kernel
theorem d_Mo_explain_17 : decode prog_14_method_34_code 17 = .ok (.iconst (-1), 1) := by decide +kernel
theorem d_Mo_explain_18 : decode prog_14_method_34_code 18 = .ok (.goto 9, 3) := by decide +kernel
theorem d_Mo_explain_27 : decode prog_14_method_34_code 27 = .ok (.ireturn, 1) := by decide +kernel
theorem d_Mo_explain_9 : decode prog_14_method_34_code 9 = .ok (.iload_n 1, 1) := by decide +kernel
theorem d_Mo_explain_10 : decode prog_14_method_34_code 10 = .ok (.aload_n 0, 1) := by decide +kernel
theorem d_Mo_explain_11 : decode prog_14_method_34_code 11 = .ok (.invokevirtual 203, 3) := by decide +kernel
theorem d_Mo_explain_14 : decode prog_14_method_34_code 14 = .ok (.if_icmp .lt 7, 3) := by decide +kernel
theorem d_Mo_explain_21 : decode prog_14_method_34_code 21 = .ok (.aload_n 0, 1) := by decide +kernel
theorem d_Mo_explain_22 : decode prog_14_method_34_code 22 = .ok (.getfield 83, 3) := by decide +kernel
theorem d_Mo_explain_25 : decode prog_14_method_34_code 25 = .ok (.iload_n 1, 1) := by decide +kernel
theorem d_Mo_explain_26 : decode prog_14_method_34_code 26 = .ok (.iaload, 1) := by decide +kernel
def M_Mo_holds (F : Nat) (h : hH) (x0 : Int32) (x1 : Int64) (x3 : Int64) : Option (Int32 × hH) :=
  if x0 = (-15) then (
    if 0 ≤ (lg_cmp x1 x3) then (
      some (0, h)
    ) else (
      some (1, h)
    )
  ) else (
    if x0 = (-16) then (
      if 0 < (lg_cmp x1 x3) then (
        some (0, h)
      ) else (
        some (1, h)
      )
    ) else (
      if x0 = (-17) then (
        if (lg_cmp x1 x3) = 0 then (
          some (1, h)
        ) else (
          some (0, h)
        )
      ) else (
        if (lg_cmp x1 x3) = 0 then (
          some (0, h)
        ) else (
          some (1, h)
        )
      )
    )
  )
def M_Mo_reckon (F : Nat) (h : hH) (x0 : Int32) (x1 : Int64) (x3 : Int64) : Option (Int64 × hH) :=
  if x0 = (-10) then (
    some ((x1 + x3), h)
  ) else (
    if x0 = (-11) then (
      some ((x1 - x3), h)
    ) else (
      if x0 = (-12) then (
        some ((x1 * x3), h)
      ) else (
        if x0 = (-13) then (
          if x3 = 0 then none else
          some ((x1 / x3), h)
        ) else (
          if x3 = 0 then none else
          some ((x1 - x1 / x3 * x3), h)
        )
      )
    )
  )
def M_Mo_look_336 (F : Nat) (r18 : hH → Nat → Int32 → Int32 → Int32 → Int32 → Option (Int32 × hH)) (h : hH) (x0 : Nat) (x1 : Int32) (x3 : Int32) (x4 : Int32) (x5 : Int32) : Option (Int32 × hH) :=
  r18 h x0 x1 x3 x4 (x5 + 1)
def M_Mo_look_256 (F : Nat) (r18 : hH → Nat → Int32 → Int32 → Int32 → Int32 → Option (Int32 × hH)) (h : hH) (x0 : Nat) (x1 : Int32) (x3 : Int32) (x4 : Int32) (x5 : Int32) (x6 : Int32) : Option (Int32 × hH) :=
  (hGetA h x0 12 35).bind fun v1 =>
  (hGetA h x0 12 35).bind fun v2 =>
  (hLdL h v2 ((x4 + (-1)) - 1)).bind fun v3 =>
  (hGetA h x0 12 35).bind fun v4 =>
  (hLdL h v4 (x4 + (-1))).bind fun v5 =>
  (M_Mo_reckon F h x6 v3 v5).bind fun q6 =>
  (hStL q6.2 v1 ((x4 + (-1)) - 1) q6.1).bind fun h7 =>
  M_Mo_look_336 F r18 h7 x0 x1 x3 (x4 + (-1)) x5
def B_Mo_look_18 (F : Nat) (r18 : hH → Nat → Int32 → Int32 → Int32 → Int32 → Option (Int32 × hH)) (h : hH) (x0 : Nat) (x1 : Int32) (x3 : Int32) (x4 : Int32) (x5 : Int32) : Option (Int32 × hH) :=
  (hGetA h x0 12 16).bind fun v1 =>
  (hLdI h v1 .int x3).bind fun v2 =>
  if v2 ≤ x5 then (
    some (0, h)
  ) else (
    (hGetA h x0 12 19).bind fun v4 =>
    (hLdI h v4 .int ((400 * x1) + x5)).bind fun v5 =>
    (hGetA h x0 12 20).bind fun v6 =>
    (hLdI h v6 .int ((400 * x1) + x5)).bind fun v7 =>
    (hPut h x0 12 34 (.int (-1))).bind fun h8 =>
    if v5 = (-21) then (
      (hGetA h8 x0 12 35).bind fun v49 =>
      (hStL h8 v49 x4 v7.toInt64).bind fun h50 =>
      M_Mo_look_336 F r18 h50 x0 x1 x3 (x4 + 1) x5
    ) else (
      if v5 = (-6) then (
        (hGetA h8 x0 12 28).bind fun v40 =>
        (hLdI h8 v40 .boolean v7).bind fun v41 =>
        if v41 = 0 then (
          (hPut h8 x0 12 33 (.int 3)).bind fun h47 =>
          (hPut h47 x0 12 34 (.int v7)).bind fun h48 =>
          some (2, h48)
        ) else (
          (hGetA h8 x0 12 35).bind fun v43 =>
          (hGetA h8 x0 12 27).bind fun v44 =>
          (hLdL h8 v44 v7).bind fun v45 =>
          (hStL h8 v43 x4 v45).bind fun h46 =>
          M_Mo_look_336 F r18 h46 x0 x1 x3 (x4 + 1) x5
        )
      ) else (
        if v5 = (-7) then (
          (hGetA h8 x0 12 35).bind fun v28 =>
          (hLdL h8 v28 (x4 - 1)).bind fun v29 =>
          if (lg_cmp v29 0) < 0 then (
            (hPut h8 x0 12 33 (.int 2)).bind fun h31 =>
            some (2, h31)
          ) else (
            (hGetA h8 x0 12 11).bind fun v32 =>
            (hLdI h8 v32 .int ((8 * x1) + v7)).bind fun v33 =>
            if (lg_cmp v29 v33.toInt64) < 0 then (
              (hGetA h8 x0 12 35).bind fun v35 =>
              (hGetA h8 x0 12 12).bind fun v36 =>
              (hLdI h8 v36 .int (((80 * x1) + (10 * v7)) + v29.toInt32)).bind fun v37 =>
              (hStL h8 v35 (x4 - 1) v37.toInt64).bind fun h38 =>
              M_Mo_look_336 F r18 h38 x0 x1 x3 x4 x5
            ) else (
              (hPut h8 x0 12 33 (.int 2)).bind fun h39 =>
              some (2, h39)
            )
          )
        ) else (
          (M_Mo_isOperator F h8 v5).bind fun q12 =>
          if q12.1 = 0 then (
            (hGetA q12.2 x0 12 35).bind fun v14 =>
            (hLdL q12.2 v14 (x4 + (-2))).bind fun v15 =>
            (hGetA q12.2 x0 12 35).bind fun v16 =>
            (hLdL q12.2 v16 ((x4 + (-2)) + 1)).bind fun v17 =>
            (M_Mo_holds F q12.2 v5 v15 v17).bind fun q18 =>
            if q18.1 = 0 then (
              (hGetA q18.2 x0 12 15).bind fun v20 =>
              (hLdI q18.2 v20 .int x3).bind fun v21 =>
              if v21 ≤ x5 then (
                some (1, q18.2)
              ) else (
                some (3, q18.2)
              )
            ) else (
              M_Mo_look_336 F r18 q18.2 x0 x1 x3 (x4 + (-2)) x5
            )
          ) else (
            if (-12) ≤ v5 then (
              M_Mo_look_256 F r18 q12.2 x0 x1 x3 x4 x5 v5
            ) else (
              (hGetA q12.2 x0 12 35).bind fun v24 =>
              (hLdL q12.2 v24 (x4 - 1)).bind fun v25 =>
              if (lg_cmp v25 0) = 0 then (
                (hPut q12.2 x0 12 33 (.int 1)).bind fun h27 =>
                some (2, h27)
              ) else (
                M_Mo_look_256 F r18 q12.2 x0 x1 x3 x4 x5 v5
              )
            )
          )
        )
      )
    )
  )
def M_Mo_look_18 (F : Nat) : Nat → hH → Nat → Int32 → Int32 → Int32 → Int32 → Option (Int32 × hH)
  | 0 => fun _ _ _ _ _ _ => none
  | z + 1 => B_Mo_look_18 F (M_Mo_look_18 F z)
def M_Mo_look (F : Nat) (h : hH) (x0 : Nat) (x1 : Int32) (x2 : Int32) : Option (Int32 × hH) :=
  (hGetA h x0 12 14).bind fun v1 =>
  (hLdI h v1 .int ((12 * x1) + x2)).bind fun v2 =>
  M_Mo_look_18 F F h x0 x1 ((12 * x1) + x2) 0 v2
def M_Mo_answer_112 (F : Nat) (r24 : hH → Nat → Int32 → Int32 → Int32 → Int32 → Int32 → Int32 → Option (Int32 × hH)) (h : hH) (x0 : Nat) (x1 : Int32) (x2 : Int32) (x3 : Int32) (x4 : Int32) (x5 : Int32) (x6 : Int32) : Option (Int32 × hH) :=
  r24 h x0 x1 x2 x3 x4 x5 (x6 + 1)
def M_Mo_answer_75 (F : Nat) (r24 : hH → Nat → Int32 → Int32 → Int32 → Int32 → Int32 → Int32 → Option (Int32 × hH)) (h : hH) (x0 : Nat) (x1 : Int32) (x2 : Int32) (x3 : Int32) (x5 : Int32) (x6 : Int32) (x7 : Int32) (s0 : Int32) : Option (Int32 × hH) :=
  if x2 = 0 then (
    M_Mo_answer_112 F r24 h x0 x1 x2 x3 s0 x5 x6
  ) else (
    (hGetA h x0 12 30).bind fun v2 =>
    (hStI h v2 x6 x7).bind fun h3 =>
    (hGetA h3 x0 12 31).bind fun v4 =>
    (hGetI h3 x0 12 33).bind fun v5 =>
    (hStI h3 v4 x6 v5).bind fun h6 =>
    (hGetA h6 x0 12 32).bind fun v7 =>
    (hGetI h6 x0 12 34).bind fun v8 =>
    (hStI h6 v7 x6 v8).bind fun h9 =>
    M_Mo_answer_112 F r24 h9 x0 x1 x2 x3 s0 x5 x6
  )
def M_Mo_answer_70 (F : Nat) (r24 : hH → Nat → Int32 → Int32 → Int32 → Int32 → Int32 → Int32 → Option (Int32 × hH)) (h : hH) (x0 : Nat) (x1 : Int32) (x2 : Int32) (x3 : Int32) (x5 : Int32) (x6 : Int32) (x7 : Int32) : Option (Int32 × hH) :=
  M_Mo_answer_75 F r24 h x0 x1 x2 x3 x5 x6 x7 1
def M_Mo_answer_58 (F : Nat) (r24 : hH → Nat → Int32 → Int32 → Int32 → Int32 → Int32 → Int32 → Option (Int32 × hH)) (h : hH) (x0 : Nat) (x1 : Int32) (x2 : Int32) (x4 : Int32) (x5 : Int32) (x6 : Int32) (x7 : Int32) (s0 : Int32) : Option (Int32 × hH) :=
  if x4 = 0 then (
    if x7 = 2 then (
      M_Mo_answer_70 F r24 h x0 x1 x2 s0 x5 x6 x7
    ) else (
      M_Mo_answer_75 F r24 h x0 x1 x2 s0 x5 x6 x7 0
    )
  ) else (
    M_Mo_answer_70 F r24 h x0 x1 x2 s0 x5 x6 x7
  )
def M_Mo_answer_57 (F : Nat) (r24 : hH → Nat → Int32 → Int32 → Int32 → Int32 → Int32 → Int32 → Option (Int32 × hH)) (h : hH) (x0 : Nat) (x1 : Int32) (x2 : Int32) (x3 : Int32) (x4 : Int32) (x5 : Int32) (x6 : Int32) (x7 : Int32) : Option (Int32 × hH) :=
  M_Mo_answer_58 F r24 h x0 x1 x2 x4 x5 x6 x7 x3
def B_Mo_answer_24 (F : Nat) (r24 : hH → Nat → Int32 → Int32 → Int32 → Int32 → Int32 → Int32 → Option (Int32 × hH)) (h : hH) (x0 : Nat) (x1 : Int32) (x2 : Int32) (x3 : Int32) (x4 : Int32) (x5 : Int32) (x6 : Int32) : Option (Int32 × hH) :=
  if x5 ≤ x6 then (
    if x3 ≤ 0 then (
      if x4 = 0 then (
        some (0, h)
      ) else (
        some ((-1), h)
      )
    ) else (
      some (x3, h)
    )
  ) else (
    (hIs h x0 12).bind fun u4 =>
    (M_Mo_look F h x0 x1 x6).bind fun q5 =>
    if q5.1 = 1 then (
      if x3 = 0 then (
        M_Mo_answer_58 F r24 q5.2 x0 x1 x2 x4 x5 x6 q5.1 (x6 + 1)
      ) else (
        M_Mo_answer_57 F r24 q5.2 x0 x1 x2 x3 x4 x5 x6 q5.1
      )
    ) else (
      M_Mo_answer_57 F r24 q5.2 x0 x1 x2 x3 x4 x5 x6 q5.1
    )
  )
def M_Mo_answer_24 (F : Nat) : Nat → hH → Nat → Int32 → Int32 → Int32 → Int32 → Int32 → Int32 → Option (Int32 × hH)
  | 0 => fun _ _ _ _ _ _ _ _ => none
  | z + 1 => B_Mo_answer_24 F (M_Mo_answer_24 F z)
def M_Mo_answer_19 (F : Nat) (h : hH) (x0 : Nat) (x1 : Int32) (x2 : Int32) (x3 : Int32) (x4 : Int32) (s0 : Int32) : Option (Int32 × hH) :=
  M_Mo_answer_24 F F h x0 x1 x2 x3 x4 s0 0
def M_Mo_answer (F : Nat) (h : hH) (x0 : Nat) (x1 : Int32) (x2 : Int32) : Option (Int32 × hH) :=
  if 0 ≤ x1 then (
    (hGetA h x0 12 13).bind fun v2 =>
    (hLdI h v2 .int x1).bind fun v3 =>
    M_Mo_answer_19 F h x0 x1 x2 0 0 v3
  ) else (
    M_Mo_answer_19 F h x0 x1 x2 0 0 0
  )
def M_Mo_run (F : Nat) (h : hH) (x0 : Nat) (x1 : Int32) : Option (Int32 × hH) :=
  (hPut h x0 12 0 (.int 0)).bind fun h1 =>
  (hIs h1 x0 12).bind fun u2 =>
  (M_Mo_editionOf F h1 x0 x1).bind fun q3 =>
  (hPut q3.2 x0 12 29 (.int q3.1)).bind fun h4 =>
  (hGetI h4 x0 12 29).bind fun v5 =>
  (hIs h4 x0 12).bind fun u6 =>
  (M_Mo_answer F h4 x0 v5 1).bind fun q7 =>
  some (q7.1, q7.2)
def M_Mo_walk (F : Nat) (h : hH) (x0 : Nat) (x1 : Int32) : Option (Int32 × hH) :=
  (hPut h x0 12 0 (.int 0)).bind fun h1 =>
  (hIs h1 x0 12).bind fun u2 =>
  (M_Mo_editionOf F h1 x0 x1).bind fun q3 =>
  (hIs q3.2 x0 12).bind fun u4 =>
  (M_Mo_answer F q3.2 x0 q3.1 0).bind fun q5 =>
  some (q5.1, q5.2)
def M_Mo_ranRules (F : Nat) (h : hH) (x0 : Nat) : Option (Int32 × hH) :=
  (hGetI h x0 12 29).bind fun v1 =>
  if 0 ≤ v1 then (
    (hGetA h x0 12 13).bind fun v3 =>
    (hGetI h x0 12 29).bind fun v4 =>
    (hLdI h v3 .int v4).bind fun v5 =>
    some (v5, h)
  ) else (
    some (0, h)
  )
def M_Mo_withState_40 (F : Nat) (r5 : hH → Nat → Int32 → Int32 → Int32 → Int32 → Option (Int32 × hH)) (h : hH) (x0 : Nat) (x1 : Int32) (x2 : Int32) (x3 : Int32) (x4 : Int32) : Option (Int32 × hH) :=
  r5 h x0 x1 x2 x3 (x4 + 1)
def B_Mo_withState_5 (F : Nat) (r5 : hH → Nat → Int32 → Int32 → Int32 → Int32 → Option (Int32 × hH)) (h : hH) (x0 : Nat) (x1 : Int32) (x2 : Int32) (x3 : Int32) (x4 : Int32) : Option (Int32 × hH) :=
  (hIs h x0 12).bind fun u1 =>
  (M_Mo_ranRules F h x0).bind fun q2 =>
  if q2.1 ≤ x4 then (
    some ((-1), q2.2)
  ) else (
    if x1 < 0 then (
      some ((-1), q2.2)
    ) else (
      (hGetA q2.2 x0 12 30).bind fun v5 =>
      (hLdI q2.2 v5 .int x4).bind fun v6 =>
      if v6 = x2 then (
        if x3 = x1 then (
          some (x4, q2.2)
        ) else (
          M_Mo_withState_40 F r5 q2.2 x0 x1 x2 (x3 + 1) x4
        )
      ) else (
        M_Mo_withState_40 F r5 q2.2 x0 x1 x2 x3 x4
      )
    )
  )
def M_Mo_withState_5 (F : Nat) : Nat → hH → Nat → Int32 → Int32 → Int32 → Int32 → Option (Int32 × hH)
  | 0 => fun _ _ _ _ _ _ => none
  | z + 1 => B_Mo_withState_5 F (M_Mo_withState_5 F z)
def M_Mo_withState (F : Nat) (h : hH) (x0 : Nat) (x1 : Int32) (x2 : Int32) : Option (Int32 × hH) :=
  M_Mo_withState_5 F F h x0 x1 x2 0 0
def M_Mo_broken (F : Nat) (h : hH) (x0 : Nat) (x1 : Int32) (x2 : Int32) : Option (Int32 × hH) :=
  (hPut h x0 12 0 (.int 0)).bind fun h1 =>
  (hIs h1 x0 12).bind fun u2 =>
  (M_Mo_withState F h1 x0 x1 1).bind fun q3 =>
  if q3.1 < 0 then (
    some ((-1), q3.2)
  ) else (
    if x2 < 0 then (
      some ((-1), q3.2)
    ) else (
      if x2 ≤ 1 then (
        if x2 = 0 then (
          some (q3.1, q3.2)
        ) else (
          (hGetA q3.2 x0 12 17).bind fun v8 =>
          (hGetI q3.2 x0 12 29).bind fun v9 =>
          (hLdI q3.2 v8 .int ((12 * v9) + q3.1)).bind fun v10 =>
          some (v10, q3.2)
        )
      ) else (
        some ((-1), q3.2)
      )
    )
  )
def M_Mo_open (F : Nat) (h : hH) (x0 : Nat) (x1 : Int32) (x2 : Int32) : Option (Int32 × hH) :=
  (hPut h x0 12 0 (.int 0)).bind fun h1 =>
  (hIs h1 x0 12).bind fun u2 =>
  (M_Mo_withState F h1 x0 x1 2).bind fun q3 =>
  if q3.1 < 0 then (
    some ((-1), q3.2)
  ) else (
    if x2 < 0 then (
      some ((-1), q3.2)
    ) else (
      if x2 ≤ 2 then (
        if x2 = 0 then (
          some (q3.1, q3.2)
        ) else (
          if x2 = 1 then (
            (hGetA q3.2 x0 12 31).bind fun v11 =>
            (hLdI q3.2 v11 .int q3.1).bind fun v12 =>
            some (v12, q3.2)
          ) else (
            (hGetA q3.2 x0 12 32).bind fun v9 =>
            (hLdI q3.2 v9 .int q3.1).bind fun v10 =>
            some (v10, q3.2)
          )
        )
      ) else (
        some ((-1), q3.2)
      )
    )
  )
def M_Mo_explain (F : Nat) (h : hH) (x0 : Nat) (x1 : Int32) : Option (Int32 × hH) :=
  (hPut h x0 12 0 (.int 0)).bind fun h1 =>
  if x1 < 0 then (
    some ((-1), h1)
  ) else (
    (hIs h1 x0 12).bind fun u3 =>
    (M_Mo_ranRules F h1 x0).bind fun q4 =>
    if x1 < q4.1 then (
      (hGetA q4.2 x0 12 30).bind fun v6 =>
      (hLdI q4.2 v6 .int x1).bind fun v7 =>
      some (v7, q4.2)
    ) else (
      some ((-1), q4.2)
    )
  )
abbrev rm_Mo_holds : Room := { frames := 0, cells := 0, slots := 0, locals := 0 }
set_option maxHeartbeats 4000000 in
set_option maxRecDepth 100000 in
theorem c_Mo_holds (l : Launch) (D : va_G) (K : (Nat → Nat) × (Nat → Nat)) (F : Nat) {h : hH} {x0 : Int32} {x1 : Int64} {x3 : Int64} {q : (Int32 × hH)} (hM : M_Mo_holds F h x0 x1 x3 = some q) : Met l y_Mo_holds (.code y_Mo_holds prog_14_method_24_code 5 (some .boolean) :: T0) rm_Mo_holds (hPc hG D cls0 K [.int x0, .long x1, .long x3] h) (hQ D cls0 h (some (.int q.1)) q.2) 0 0 (hF h) := by
  refine J_met (lv := [(0, .int x0), (1, .long x1), (3, .long x3)]) (by decide) (Nat.le_of_ble_eq_true rfl) rfl ?_
  intro p e s m below meth c X hr hlk hnm
  have Y : HX p s m _ meth c prog_14_method_24_code 5 "LicenceTextsModel" D K "holds" (some .boolean) h := ⟨X, hr, hlk, hnm⟩
  unfold M_Mo_holds at hM
  refine J_iload_n (pc := 0) X 0 d_Mo_holds_0 rfl ?_
  refine J_bipush (pc := 1) (v := (-15)) X d_Mo_holds_1 (by decide) ?_
  refine J_icmp_ne (pc := 3) (tgt := 20) X d_Mo_holds_3 (by decide) (fun c1 => ?_) (fun c1 => ?_)
  · have hM := hif_f hM c1
    refine J_iload_n (pc := 20) X 0 d_Mo_holds_20 rfl ?_
    refine J_bipush (pc := 21) (v := (-16)) X d_Mo_holds_21 (by decide) ?_
    refine J_icmp_ne (pc := 23) (tgt := 40) X d_Mo_holds_23 (by decide) (fun c2 => ?_) (fun c2 => ?_)
    · have hM := hif_f hM c2
      refine J_iload_n (pc := 40) X 0 d_Mo_holds_40 rfl ?_
      refine J_bipush (pc := 41) (v := (-17)) X d_Mo_holds_41 (by decide) ?_
      refine J_icmp_ne (pc := 43) (tgt := 60) X d_Mo_holds_43 (by decide) (fun c3 => ?_) (fun c3 => ?_)
      · have hM := hif_f hM c3
        refine J_lload_n (pc := 60) X 1 d_Mo_holds_60 rfl ?_
        refine J_lload_n (pc := 61) X 2 d_Mo_holds_61 rfl ?_
        refine J_lcmp (pc := 62) X d_Mo_holds_62 ?_
        refine J_if_eq (pc := 63) (tgt := 70) X d_Mo_holds_63 (by decide) (fun c4 => ?_) (fun c4 => ?_)
        · have hM := hif_t hM c4
          refine J_iconst (pc := 70) (v := (0)) X d_Mo_holds_70 (by decide) ?_
          obtain rfl := Option.some.inj hM
          exact J_zret (pc := 71) X hr hz0 hlk (Nat.le_of_ble_eq_true rfl) (Nat.le_of_ble_eq_true rfl) d_Mo_holds_71
        · have hM := hif_f hM c4
          refine J_iconst (pc := 66) (v := (1)) X d_Mo_holds_66 (by decide) ?_
          refine J_goto (pc := 67) (tgt := 71) X d_Mo_holds_67 (by decide) ?_
          obtain rfl := Option.some.inj hM
          exact J_zret (pc := 71) X hr hz1 hlk (Nat.le_of_ble_eq_true rfl) (Nat.le_of_ble_eq_true rfl) d_Mo_holds_71
      · have hM := hif_t hM c3
        refine J_lload_n (pc := 46) X 1 d_Mo_holds_46 rfl ?_
        refine J_lload_n (pc := 47) X 2 d_Mo_holds_47 rfl ?_
        refine J_lcmp (pc := 48) X d_Mo_holds_48 ?_
        refine J_if_ne (pc := 49) (tgt := 56) X d_Mo_holds_49 (by decide) (fun c5 => ?_) (fun c5 => ?_)
        · have hM := hif_f hM c5
          refine J_iconst (pc := 56) (v := (0)) X d_Mo_holds_56 (by decide) ?_
          refine J_goto (pc := 57) (tgt := 71) X d_Mo_holds_57 (by decide) ?_
          obtain rfl := Option.some.inj hM
          exact J_zret (pc := 71) X hr hz0 hlk (Nat.le_of_ble_eq_true rfl) (Nat.le_of_ble_eq_true rfl) d_Mo_holds_71
        · have hM := hif_t hM c5
          refine J_iconst (pc := 52) (v := (1)) X d_Mo_holds_52 (by decide) ?_
          refine J_goto (pc := 53) (tgt := 71) X d_Mo_holds_53 (by decide) ?_
          obtain rfl := Option.some.inj hM
          exact J_zret (pc := 71) X hr hz1 hlk (Nat.le_of_ble_eq_true rfl) (Nat.le_of_ble_eq_true rfl) d_Mo_holds_71
    · have hM := hif_t hM c2
      refine J_lload_n (pc := 26) X 1 d_Mo_holds_26 rfl ?_
      refine J_lload_n (pc := 27) X 2 d_Mo_holds_27 rfl ?_
      refine J_lcmp (pc := 28) X d_Mo_holds_28 ?_
      refine J_if_gt (pc := 29) (tgt := 36) X d_Mo_holds_29 (by decide) (fun c6 => ?_) (fun c6 => ?_)
      · have hM := hif_t hM c6
        refine J_iconst (pc := 36) (v := (0)) X d_Mo_holds_36 (by decide) ?_
        refine J_goto (pc := 37) (tgt := 71) X d_Mo_holds_37 (by decide) ?_
        obtain rfl := Option.some.inj hM
        exact J_zret (pc := 71) X hr hz0 hlk (Nat.le_of_ble_eq_true rfl) (Nat.le_of_ble_eq_true rfl) d_Mo_holds_71
      · have hM := hif_f hM c6
        refine J_iconst (pc := 32) (v := (1)) X d_Mo_holds_32 (by decide) ?_
        refine J_goto (pc := 33) (tgt := 71) X d_Mo_holds_33 (by decide) ?_
        obtain rfl := Option.some.inj hM
        exact J_zret (pc := 71) X hr hz1 hlk (Nat.le_of_ble_eq_true rfl) (Nat.le_of_ble_eq_true rfl) d_Mo_holds_71
  · have hM := hif_t hM c1
    refine J_lload_n (pc := 6) X 1 d_Mo_holds_6 rfl ?_
    refine J_lload_n (pc := 7) X 2 d_Mo_holds_7 rfl ?_
    refine J_lcmp (pc := 8) X d_Mo_holds_8 ?_
    refine J_if_ge (pc := 9) (tgt := 16) X d_Mo_holds_9 (by decide) (fun c7 => ?_) (fun c7 => ?_)
    · have hM := hif_t hM c7
      refine J_iconst (pc := 16) (v := (0)) X d_Mo_holds_16 (by decide) ?_
      refine J_goto (pc := 17) (tgt := 71) X d_Mo_holds_17 (by decide) ?_
      obtain rfl := Option.some.inj hM
      exact J_zret (pc := 71) X hr hz0 hlk (Nat.le_of_ble_eq_true rfl) (Nat.le_of_ble_eq_true rfl) d_Mo_holds_71
    · have hM := hif_f hM c7
      refine J_iconst (pc := 12) (v := (1)) X d_Mo_holds_12 (by decide) ?_
      refine J_goto (pc := 13) (tgt := 71) X d_Mo_holds_13 (by decide) ?_
      obtain rfl := Option.some.inj hM
      exact J_zret (pc := 71) X hr hz1 hlk (Nat.le_of_ble_eq_true rfl) (Nat.le_of_ble_eq_true rfl) d_Mo_holds_71
abbrev rm_Mo_reckon : Room := { frames := 0, cells := 0, slots := 0, locals := 0 }
set_option maxHeartbeats 4000000 in
set_option maxRecDepth 100000 in
theorem c_Mo_reckon (l : Launch) (D : va_G) (K : (Nat → Nat) × (Nat → Nat)) (F : Nat) {h : hH} {x0 : Int32} {x1 : Int64} {x3 : Int64} {q : (Int64 × hH)} (hM : M_Mo_reckon F h x0 x1 x3 = some q) : Met l y_Mo_reckon (.code y_Mo_reckon prog_14_method_25_code 5 (some .long) :: T0) rm_Mo_reckon (hPc hG D cls0 K [.int x0, .long x1, .long x3] h) (hQ D cls0 h (some (.long q.1)) q.2) 0 0 (hF h) := by
  refine J_met (lv := [(0, .int x0), (1, .long x1), (3, .long x3)]) (by decide) (Nat.le_of_ble_eq_true rfl) rfl ?_
  intro p e s m below meth c X hr hlk hnm
  have Y : HX p s m _ meth c prog_14_method_25_code 5 "LicenceTextsModel" D K "reckon" (some .long) h := ⟨X, hr, hlk, hnm⟩
  unfold M_Mo_reckon at hM
  refine J_iload_n (pc := 0) X 0 d_Mo_reckon_0 rfl ?_
  refine J_bipush (pc := 1) (v := (-10)) X d_Mo_reckon_1 (by decide) ?_
  refine J_icmp_ne (pc := 3) (tgt := 12) X d_Mo_reckon_3 (by decide) (fun c1 => ?_) (fun c1 => ?_)
  · have hM := hif_f hM c1
    refine J_iload_n (pc := 12) X 0 d_Mo_reckon_12 rfl ?_
    refine J_bipush (pc := 13) (v := (-11)) X d_Mo_reckon_13 (by decide) ?_
    refine J_icmp_ne (pc := 15) (tgt := 24) X d_Mo_reckon_15 (by decide) (fun c2 => ?_) (fun c2 => ?_)
    · have hM := hif_f hM c2
      refine J_iload_n (pc := 24) X 0 d_Mo_reckon_24 rfl ?_
      refine J_bipush (pc := 25) (v := (-12)) X d_Mo_reckon_25 (by decide) ?_
      refine J_icmp_ne (pc := 27) (tgt := 36) X d_Mo_reckon_27 (by decide) (fun c3 => ?_) (fun c3 => ?_)
      · have hM := hif_f hM c3
        refine J_iload_n (pc := 36) X 0 d_Mo_reckon_36 rfl ?_
        refine J_bipush (pc := 37) (v := (-13)) X d_Mo_reckon_37 (by decide) ?_
        refine J_icmp_ne (pc := 39) (tgt := 48) X d_Mo_reckon_39 (by decide) (fun c4 => ?_) (fun c4 => ?_)
        · have hM := hif_f hM c4
          refine J_lload_n (pc := 48) X 1 d_Mo_reckon_48 rfl ?_
          refine J_lload_n (pc := 49) X 2 d_Mo_reckon_49 rfl ?_
          obtain ⟨c5, hM⟩ := hnz hM
          refine J_lrem (pc := 50) X d_Mo_reckon_50 c5 ?_
          obtain rfl := Option.some.inj hM
          exact J_lret (pc := 51) X hr hlk (Nat.le_of_ble_eq_true rfl) (Nat.le_of_ble_eq_true rfl) d_Mo_reckon_51
        · have hM := hif_t hM c4
          refine J_lload_n (pc := 42) X 1 d_Mo_reckon_42 rfl ?_
          refine J_lload_n (pc := 43) X 2 d_Mo_reckon_43 rfl ?_
          obtain ⟨c6, hM⟩ := hnz hM
          refine J_ldiv (pc := 44) X d_Mo_reckon_44 c6 ?_
          refine J_goto (pc := 45) (tgt := 51) X d_Mo_reckon_45 (by decide) ?_
          obtain rfl := Option.some.inj hM
          exact J_lret (pc := 51) X hr hlk (Nat.le_of_ble_eq_true rfl) (Nat.le_of_ble_eq_true rfl) d_Mo_reckon_51
      · have hM := hif_t hM c3
        refine J_lload_n (pc := 30) X 1 d_Mo_reckon_30 rfl ?_
        refine J_lload_n (pc := 31) X 2 d_Mo_reckon_31 rfl ?_
        refine J_lmul (pc := 32) X d_Mo_reckon_32 ?_
        refine J_goto (pc := 33) (tgt := 51) X d_Mo_reckon_33 (by decide) ?_
        obtain rfl := Option.some.inj hM
        exact J_lret (pc := 51) X hr hlk (Nat.le_of_ble_eq_true rfl) (Nat.le_of_ble_eq_true rfl) d_Mo_reckon_51
    · have hM := hif_t hM c2
      refine J_lload_n (pc := 18) X 1 d_Mo_reckon_18 rfl ?_
      refine J_lload_n (pc := 19) X 2 d_Mo_reckon_19 rfl ?_
      refine J_lsub (pc := 20) X d_Mo_reckon_20 ?_
      refine J_goto (pc := 21) (tgt := 51) X d_Mo_reckon_21 (by decide) ?_
      obtain rfl := Option.some.inj hM
      exact J_lret (pc := 51) X hr hlk (Nat.le_of_ble_eq_true rfl) (Nat.le_of_ble_eq_true rfl) d_Mo_reckon_51
  · have hM := hif_t hM c1
    refine J_lload_n (pc := 6) X 1 d_Mo_reckon_6 rfl ?_
    refine J_lload_n (pc := 7) X 2 d_Mo_reckon_7 rfl ?_
    refine J_ladd (pc := 8) X d_Mo_reckon_8 ?_
    refine J_goto (pc := 9) (tgt := 51) X d_Mo_reckon_9 (by decide) ?_
    obtain rfl := Option.some.inj hM
    exact J_lret (pc := 51) X hr hlk (Nat.le_of_ble_eq_true rfl) (Nat.le_of_ble_eq_true rfl) d_Mo_reckon_51
abbrev rm_Mo_look : Room := { frames := 1, cells := 0, slots := 0, locals := 24 }
set_option maxHeartbeats 4000000 in
set_option maxRecDepth 100000 in
theorem w_Mo_look_336 {p : Program} {l : Launch} {e : Env} {s : State} {m : MethodId} {args : Array Value} {below : List Frame} {meth : Method} {c : Code} {D : va_G} {K : (Nat → Nat) × (Nat → Nat)} {h0 : hH} (Y : HX p s m args meth c prog_14_method_26_code 10 "LicenceTextsModel" D K "look" (some .int) h0) {F : Nat} {r18 : hH → Nat → Int32 → Int32 → Int32 → Int32 → Option (Int32 × hH)} (R18 : ∀ (h : hH) (x0 : Nat) (x1 : Int32) (x3 : Int32) (x4 : Int32) (x5 : Int32) (q : (Int32 × hH)), r18 h x0 x1 x3 x4 x5 = some q → J p l e rm_Mo_look s m args below meth c 10 D cls0 (hF h0) h [(0, .ref x0), (1, .int x1), (3, .int x3), (4, .int x4), (5, .int x5)] 0 0 (MQ below (hQ D cls0 h0 (some (.int q.1)) q.2) args s 0 0 (hF h0)) 18 []) (h : hH) (x0 : Nat) (x1 : Int32) (x3 : Int32) (x4 : Int32) (x5 : Int32) (q : (Int32 × hH)) (hM : M_Mo_look_336 F r18 h x0 x1 x3 x4 x5 = some q) : J p l e rm_Mo_look s m args below meth c 10 D cls0 (hF h0) h [(0, .ref x0), (1, .int x1), (3, .int x3), (4, .int x4), (5, .int x5)] 0 0 (MQ below (hQ D cls0 h0 (some (.int q.1)) q.2) args s 0 0 (hF h0)) 336 [] := by
  obtain ⟨X, hr, hlk, hnm⟩ := id Y
  unfold M_Mo_look_336 at hM
  refine J_iinc (pc := 336) (v := x5 + 1) (lv' := [(5, .int (x5 + 1)), (0, .ref x0), (1, .int x1), (3, .int x3), (4, .int x4)]) X 4 d_Mo_look_336 rfl rfl (by decide) rfl ?_
  refine J_goto (pc := 339) (tgt := 18) X d_Mo_look_339 (by decide) ?_
  refine J_sub [1, 2, 3, 4, 0] rfl ?_
  exact R18 _ _ _ _ _ _ _ hM
set_option maxHeartbeats 4000000 in
set_option maxRecDepth 100000 in
theorem w_Mo_look_256 {p : Program} {l : Launch} {e : Env} {s : State} {m : MethodId} {args : Array Value} {below : List Frame} {meth : Method} {c : Code} {D : va_G} {K : (Nat → Nat) × (Nat → Nat)} {h0 : hH} (Y : HX p s m args meth c prog_14_method_26_code 10 "LicenceTextsModel" D K "look" (some .int) h0) {F : Nat} {r18 : hH → Nat → Int32 → Int32 → Int32 → Int32 → Option (Int32 × hH)} (R18 : ∀ (h : hH) (x0 : Nat) (x1 : Int32) (x3 : Int32) (x4 : Int32) (x5 : Int32) (q : (Int32 × hH)), r18 h x0 x1 x3 x4 x5 = some q → J p l e rm_Mo_look s m args below meth c 10 D cls0 (hF h0) h [(0, .ref x0), (1, .int x1), (3, .int x3), (4, .int x4), (5, .int x5)] 0 0 (MQ below (hQ D cls0 h0 (some (.int q.1)) q.2) args s 0 0 (hF h0)) 18 []) (h : hH) (x0 : Nat) (x1 : Int32) (x3 : Int32) (x4 : Int32) (x5 : Int32) (x6 : Int32) (q : (Int32 × hH)) (hM : M_Mo_look_256 F r18 h x0 x1 x3 x4 x5 x6 = some q) : J p l e rm_Mo_look s m args below meth c 10 D cls0 (hF h0) h [(0, .ref x0), (1, .int x1), (3, .int x3), (4, .int x4), (5, .int x5), (6, .int x6)] 0 0 (MQ below (hQ D cls0 h0 (some (.int q.1)) q.2) args s 0 0 (hF h0)) 256 [] := by
  obtain ⟨X, hr, hlk, hnm⟩ := id Y
  unfold M_Mo_look_256 at hM
  refine J_iinc (pc := 256) (v := x4 + (-1)) (lv' := [(4, .int (x4 + (-1))), (0, .ref x0), (1, .int x1), (3, .int x3), (5, .int x5), (6, .int x6)]) X 3 d_Mo_look_256 rfl rfl (by decide) rfl ?_
  refine J_aload_n (pc := 259) X 1 d_Mo_look_259 rfl ?_
  obtain ⟨v1, ev1, hM⟩ := hb_some hM
  refine J_getA (pc := 260) X hc_Mo in_Mo 35 k_507 (by decide) rfl d_Mo_look_260 rfl ev1 ?_
  refine J_iload (pc := 263) X 0 d_Mo_look_263 rfl ?_
  refine J_iconst (pc := 265) (v := (1)) X d_Mo_look_265 (by decide) ?_
  refine J_isub (pc := 266) X d_Mo_look_266 ?_
  refine J_iload (pc := 267) X 5 d_Mo_look_267 rfl ?_
  refine J_aload_n (pc := 269) X 1 d_Mo_look_269 rfl ?_
  obtain ⟨v2, ev2, hM⟩ := hb_some hM
  refine J_getA (pc := 270) X hc_Mo in_Mo 35 k_507 (by decide) rfl d_Mo_look_270 rfl ev2 ?_
  refine J_iload (pc := 273) X 0 d_Mo_look_273 rfl ?_
  refine J_iconst (pc := 275) (v := (1)) X d_Mo_look_275 (by decide) ?_
  refine J_isub (pc := 276) X d_Mo_look_276 ?_
  obtain ⟨v3, ev3, hM⟩ := hb_some hM
  refine J_lald (pc := 277) X d_Mo_look_277 rfl ev3 ?_
  refine J_aload_n (pc := 278) X 1 d_Mo_look_278 rfl ?_
  obtain ⟨v4, ev4, hM⟩ := hb_some hM
  refine J_getA (pc := 279) X hc_Mo in_Mo 35 k_507 (by decide) rfl d_Mo_look_279 rfl ev4 ?_
  refine J_iload (pc := 282) X 0 d_Mo_look_282 rfl ?_
  obtain ⟨v5, ev5, hM⟩ := hb_some hM
  refine J_lald (pc := 284) X d_Mo_look_284 rfl ev5 ?_
  obtain ⟨q6, eq6, hM⟩ := hb_some hM
  refine J_callS (pc := 285) (As := [.int x6, .long v3, .long v5]) (rest := [.int ((x4 + (-1)) - 1), .ref v1]) (o := (some (.long q6.1))) (h2 := q6.2) X (c_Mo_reckon l D K F eq6) (cwS_of (nA := 3) X.fix k_577 k_579 k_515 k_578 ⟨rfl, rfl⟩ (by decide +kernel) ⟨Nat.le_of_ble_eq_true rfl, Nat.le_of_ble_eq_true rfl⟩) d_Mo_look_285 rfl rfl (Nat.le_of_ble_eq_true rfl) (Nat.le_of_ble_eq_true rfl) (Nat.le_of_ble_eq_true rfl) ?_
  obtain ⟨h7, eh7, hM⟩ := hb_some hM
  refine J_last (pc := 288) X d_Mo_look_288 rfl eh7 ?_
  refine J_goto (pc := 289) (tgt := 336) X d_Mo_look_289 (by decide) ?_
  refine J_sub [1, 2, 3, 0, 4] rfl ?_
  exact w_Mo_look_336 Y R18 _ _ _ _ _ _ _ hM
set_option maxHeartbeats 4000000 in
set_option maxRecDepth 100000 in
theorem b_Mo_look_18 {p : Program} {l : Launch} {e : Env} {s : State} {m : MethodId} {args : Array Value} {below : List Frame} {meth : Method} {c : Code} {D : va_G} {K : (Nat → Nat) × (Nat → Nat)} {h0 : hH} (Y : HX p s m args meth c prog_14_method_26_code 10 "LicenceTextsModel" D K "look" (some .int) h0) {F : Nat}   {r18 : hH → Nat → Int32 → Int32 → Int32 → Int32 → Option (Int32 × hH)} (R18 : ∀ (h : hH) (x0 : Nat) (x1 : Int32) (x3 : Int32) (x4 : Int32) (x5 : Int32) (q : (Int32 × hH)), r18 h x0 x1 x3 x4 x5 = some q → J p l e rm_Mo_look s m args below meth c 10 D cls0 (hF h0) h [(0, .ref x0), (1, .int x1), (3, .int x3), (4, .int x4), (5, .int x5)] 0 0 (MQ below (hQ D cls0 h0 (some (.int q.1)) q.2) args s 0 0 (hF h0)) 18 []) : ∀ (h : hH) (x0 : Nat) (x1 : Int32) (x3 : Int32) (x4 : Int32) (x5 : Int32) (q : (Int32 × hH)), B_Mo_look_18 F r18 h x0 x1 x3 x4 x5 = some q → J p l e rm_Mo_look s m args below meth c 10 D cls0 (hF h0) h [(0, .ref x0), (1, .int x1), (3, .int x3), (4, .int x4), (5, .int x5)] 0 0 (MQ below (hQ D cls0 h0 (some (.int q.1)) q.2) args s 0 0 (hF h0)) 18 [] := by
  intro h x0 x1 x3 x4 x5 q hM
  obtain ⟨X, hr, hlk, hnm⟩ := id Y
  unfold B_Mo_look_18 at hM
  refine J_iload (pc := 18) X 4 d_Mo_look_18 rfl ?_
  refine J_aload_n (pc := 20) X 0 d_Mo_look_20 rfl ?_
  obtain ⟨v1, ev1, hM⟩ := hb_some hM
  refine J_getA (pc := 21) X hc_Mo in_Mo 16 k_494 (by decide) rfl d_Mo_look_21 rfl ev1 ?_
  refine J_iload_n (pc := 24) X 2 d_Mo_look_24 rfl ?_
  obtain ⟨v2, ev2, hM⟩ := hb_some hM
  refine J_iald (pc := 25) X d_Mo_look_25 rfl ev2 ?_
  refine J_icmp_ge (pc := 26) (tgt := 342) X d_Mo_look_26 (by decide) (fun c3 => ?_) (fun c3 => ?_)
  · have hM := hif_t hM c3
    refine J_iconst (pc := 342) (v := (0)) X d_Mo_look_342 (by decide) ?_
    obtain rfl := Option.some.inj hM
    exact J_iret (pc := 343) X hr hlk (Nat.le_of_ble_eq_true rfl) (Nat.le_of_ble_eq_true rfl) d_Mo_look_343
  · have hM := hif_f hM c3
    refine J_aload_n (pc := 29) X 0 d_Mo_look_29 rfl ?_
    obtain ⟨v4, ev4, hM⟩ := hb_some hM
    refine J_getA (pc := 30) X hc_Mo in_Mo 19 k_497 (by decide) rfl d_Mo_look_30 rfl ev4 ?_
    refine J_sipush (pc := 33) (v := (400)) X d_Mo_look_33 (by decide) ?_
    refine J_iload_n (pc := 36) X 1 d_Mo_look_36 rfl ?_
    refine J_imul (pc := 37) X d_Mo_look_37 ?_
    refine J_iload (pc := 38) X 4 d_Mo_look_38 rfl ?_
    refine J_iadd (pc := 40) X d_Mo_look_40 ?_
    obtain ⟨v5, ev5, hM⟩ := hb_some hM
    refine J_iald (pc := 41) X d_Mo_look_41 rfl ev5 ?_
    refine J_istore (pc := 42) (lv' := [(6, .int v5), (0, .ref x0), (1, .int x1), (3, .int x3), (4, .int x4), (5, .int x5)]) X d_Mo_look_42 (by decide) rfl ?_
    refine J_aload_n (pc := 44) X 1 d_Mo_look_44 rfl ?_
    obtain ⟨v6, ev6, hM⟩ := hb_some hM
    refine J_getA (pc := 45) X hc_Mo in_Mo 20 k_498 (by decide) rfl d_Mo_look_45 rfl ev6 ?_
    refine J_sipush (pc := 48) (v := (400)) X d_Mo_look_48 (by decide) ?_
    refine J_iload_n (pc := 51) X 2 d_Mo_look_51 rfl ?_
    refine J_imul (pc := 52) X d_Mo_look_52 ?_
    refine J_iload (pc := 53) X 5 d_Mo_look_53 rfl ?_
    refine J_iadd (pc := 55) X d_Mo_look_55 ?_
    obtain ⟨v7, ev7, hM⟩ := hb_some hM
    refine J_iald (pc := 56) X d_Mo_look_56 rfl ev7 ?_
    refine J_istore (pc := 57) (lv' := [(7, .int v7), (6, .int v5), (0, .ref x0), (1, .int x1), (3, .int x3), (4, .int x4), (5, .int x5)]) X d_Mo_look_57 (by decide) rfl ?_
    refine J_aload_n (pc := 59) X 2 d_Mo_look_59 rfl ?_
    refine J_iconst (pc := 60) (v := (-1)) X d_Mo_look_60 (by decide) ?_
    obtain ⟨h8, eh8, hM⟩ := hb_some hM
    refine J_put (pc := 61) X hc_Mo in_Mo t_Mo tk_Mo nk_Mo 34 k_580 (by decide) rfl rfl d_Mo_look_61 rfl rfl rfl eh8 ?_
    refine J_iload (pc := 64) X 1 d_Mo_look_64 rfl ?_
    refine J_bipush (pc := 66) (v := (-21)) X d_Mo_look_66 (by decide) ?_
    refine J_icmp_ne (pc := 68) (tgt := 87) X d_Mo_look_68 (by decide) (fun c9 => ?_) (fun c9 => ?_)
    · have hM := hif_f hM c9
      refine J_iload (pc := 87) X 1 d_Mo_look_87 rfl ?_
      refine J_bipush (pc := 89) (v := (-6)) X d_Mo_look_89 (by decide) ?_
      refine J_icmp_ne (pc := 91) (tgt := 137) X d_Mo_look_91 (by decide) (fun c10 => ?_) (fun c10 => ?_)
      · have hM := hif_f hM c10
        refine J_iload (pc := 137) X 1 d_Mo_look_137 rfl ?_
        refine J_bipush (pc := 139) (v := (-7)) X d_Mo_look_139 (by decide) ?_
        refine J_icmp_ne (pc := 141) (tgt := 220) X d_Mo_look_141 (by decide) (fun c11 => ?_) (fun c11 => ?_)
        · have hM := hif_f hM c11
          refine J_iload (pc := 220) X 1 d_Mo_look_220 rfl ?_
          obtain ⟨q12, eq12, hM⟩ := hb_some hM
          refine J_callS (pc := 222) (As := [.int v5]) (rest := []) (o := (some (.int q12.1))) (h2 := q12.2) X (c_Mo_isOperator l D K F eq12) (cwS_of (nA := 1) X.fix k_549 k_551 k_515 k_550 ⟨rfl, rfl⟩ (by decide +kernel) ⟨Nat.le_of_ble_eq_true rfl, Nat.le_of_ble_eq_true rfl⟩) d_Mo_look_222 rfl rfl (Nat.le_of_ble_eq_true rfl) (Nat.le_of_ble_eq_true rfl) (Nat.le_of_ble_eq_true rfl) ?_
          refine J_if_eq (pc := 225) (tgt := 292) X d_Mo_look_225 (by decide) (fun c13 => ?_) (fun c13 => ?_)
          · have hM := hif_t hM c13
            refine J_iinc (pc := 292) (v := x4 + (-2)) (lv' := [(4, .int (x4 + (-2))), (7, .int v7), (6, .int v5), (0, .ref x0), (1, .int x1), (3, .int x3), (5, .int x5)]) X 5 d_Mo_look_292 rfl rfl (by decide) rfl ?_
            refine J_iload (pc := 295) X 2 d_Mo_look_295 rfl ?_
            refine J_aload_n (pc := 297) X 3 d_Mo_look_297 rfl ?_
            obtain ⟨v14, ev14, hM⟩ := hb_some hM
            refine J_getA (pc := 298) X hc_Mo in_Mo 35 k_507 (by decide) rfl d_Mo_look_298 rfl ev14 ?_
            refine J_iload (pc := 301) X 0 d_Mo_look_301 rfl ?_
            obtain ⟨v15, ev15, hM⟩ := hb_some hM
            refine J_lald (pc := 303) X d_Mo_look_303 rfl ev15 ?_
            refine J_aload_n (pc := 304) X 3 d_Mo_look_304 rfl ?_
            obtain ⟨v16, ev16, hM⟩ := hb_some hM
            refine J_getA (pc := 305) X hc_Mo in_Mo 35 k_507 (by decide) rfl d_Mo_look_305 rfl ev16 ?_
            refine J_iload (pc := 308) X 0 d_Mo_look_308 rfl ?_
            refine J_iconst (pc := 310) (v := (1)) X d_Mo_look_310 (by decide) ?_
            refine J_iadd (pc := 311) X d_Mo_look_311 ?_
            obtain ⟨v17, ev17, hM⟩ := hb_some hM
            refine J_lald (pc := 312) X d_Mo_look_312 rfl ev17 ?_
            obtain ⟨q18, eq18, hM⟩ := hb_some hM
            refine J_callS (pc := 313) (As := [.int v5, .long v15, .long v17]) (rest := []) (o := (some (.int q18.1))) (h2 := q18.2) X (c_Mo_holds l D K F eq18) (cwS_of (nA := 3) X.fix k_581 k_583 k_515 k_582 ⟨rfl, rfl⟩ (by decide +kernel) ⟨Nat.le_of_ble_eq_true rfl, Nat.le_of_ble_eq_true rfl⟩) d_Mo_look_313 rfl rfl (Nat.le_of_ble_eq_true rfl) (Nat.le_of_ble_eq_true rfl) (Nat.le_of_ble_eq_true rfl) ?_
            refine J_if_ne (pc := 316) (tgt := 336) X d_Mo_look_316 (by decide) (fun c19 => ?_) (fun c19 => ?_)
            · have hM := hif_f hM c19
              refine J_sub [3, 4, 5, 0, 6] rfl ?_
              exact w_Mo_look_336 Y R18 _ _ _ _ _ _ _ hM
            · have hM := hif_t hM c19
              refine J_iload (pc := 319) X 6 d_Mo_look_319 rfl ?_
              refine J_aload_n (pc := 321) X 3 d_Mo_look_321 rfl ?_
              obtain ⟨v20, ev20, hM⟩ := hb_some hM
              refine J_getA (pc := 322) X hc_Mo in_Mo 15 k_493 (by decide) rfl d_Mo_look_322 rfl ev20 ?_
              refine J_iload_n (pc := 325) X 5 d_Mo_look_325 rfl ?_
              obtain ⟨v21, ev21, hM⟩ := hb_some hM
              refine J_iald (pc := 326) X d_Mo_look_326 rfl ev21 ?_
              refine J_icmp_ge (pc := 327) (tgt := 334) X d_Mo_look_327 (by decide) (fun c22 => ?_) (fun c22 => ?_)
              · have hM := hif_t hM c22
                refine J_iconst (pc := 334) (v := (1)) X d_Mo_look_334 (by decide) ?_
                obtain rfl := Option.some.inj hM
                exact J_iret (pc := 335) X hr hlk (Nat.le_of_ble_eq_true rfl) (Nat.le_of_ble_eq_true rfl) d_Mo_look_335
              · have hM := hif_f hM c22
                refine J_iconst (pc := 330) (v := (3)) X d_Mo_look_330 (by decide) ?_
                refine J_goto (pc := 331) (tgt := 335) X d_Mo_look_331 (by decide) ?_
                obtain rfl := Option.some.inj hM
                exact J_iret (pc := 335) X hr hlk (Nat.le_of_ble_eq_true rfl) (Nat.le_of_ble_eq_true rfl) d_Mo_look_335
          · have hM := hif_f hM c13
            refine J_iload (pc := 228) X 1 d_Mo_look_228 rfl ?_
            refine J_bipush (pc := 230) (v := (-12)) X d_Mo_look_230 (by decide) ?_
            refine J_icmp_ge (pc := 232) (tgt := 256) X d_Mo_look_232 (by decide) (fun c23 => ?_) (fun c23 => ?_)
            · have hM := hif_t hM c23
              refine J_sub [2, 3, 4, 5, 6, 1] rfl ?_
              exact w_Mo_look_256 Y R18 _ _ _ _ _ _ _ _ hM
            · have hM := hif_f hM c23
              refine J_aload_n (pc := 235) X 2 d_Mo_look_235 rfl ?_
              obtain ⟨v24, ev24, hM⟩ := hb_some hM
              refine J_getA (pc := 236) X hc_Mo in_Mo 35 k_507 (by decide) rfl d_Mo_look_236 rfl ev24 ?_
              refine J_iload (pc := 239) X 5 d_Mo_look_239 rfl ?_
              refine J_iconst (pc := 241) (v := (1)) X d_Mo_look_241 (by decide) ?_
              refine J_isub (pc := 242) X d_Mo_look_242 ?_
              obtain ⟨v25, ev25, hM⟩ := hb_some hM
              refine J_lald (pc := 243) X d_Mo_look_243 rfl ev25 ?_
              refine J_lconst (pc := 244) (v := (0)) X d_Mo_look_244 (by decide) ?_
              refine J_lcmp (pc := 245) X d_Mo_look_245 ?_
              refine J_if_ne (pc := 246) (tgt := 256) X d_Mo_look_246 (by decide) (fun c26 => ?_) (fun c26 => ?_)
              · have hM := hif_f hM c26
                refine J_sub [2, 3, 4, 5, 6, 1] rfl ?_
                exact w_Mo_look_256 Y R18 _ _ _ _ _ _ _ _ hM
              · have hM := hif_t hM c26
                refine J_aload_n (pc := 249) X 2 d_Mo_look_249 rfl ?_
                refine J_iconst (pc := 250) (v := (1)) X d_Mo_look_250 (by decide) ?_
                obtain ⟨h27, eh27, hM⟩ := hb_some hM
                refine J_put (pc := 251) X hc_Mo in_Mo t_Mo tk_Mo nk_Mo 33 k_584 (by decide) rfl rfl d_Mo_look_251 rfl rfl rfl eh27 ?_
                refine J_iconst (pc := 254) (v := (2)) X d_Mo_look_254 (by decide) ?_
                obtain rfl := Option.some.inj hM
                exact J_iret (pc := 255) X hr hlk (Nat.le_of_ble_eq_true rfl) (Nat.le_of_ble_eq_true rfl) d_Mo_look_255
        · have hM := hif_t hM c11
          refine J_aload_n (pc := 144) X 2 d_Mo_look_144 rfl ?_
          obtain ⟨v28, ev28, hM⟩ := hb_some hM
          refine J_getA (pc := 145) X hc_Mo in_Mo 35 k_507 (by decide) rfl d_Mo_look_145 rfl ev28 ?_
          refine J_iload (pc := 148) X 5 d_Mo_look_148 rfl ?_
          refine J_iconst (pc := 150) (v := (1)) X d_Mo_look_150 (by decide) ?_
          refine J_isub (pc := 151) X d_Mo_look_151 ?_
          obtain ⟨v29, ev29, hM⟩ := hb_some hM
          refine J_lald (pc := 152) X d_Mo_look_152 rfl ev29 ?_
          refine J_lstore (pc := 153) (lv' := [(8, .long v29), (7, .int v7), (6, .int v5), (0, .ref x0), (1, .int x1), (3, .int x3), (4, .int x4), (5, .int x5)]) X d_Mo_look_153 (by decide) rfl ?_
          refine J_lload (pc := 155) X 0 d_Mo_look_155 rfl ?_
          refine J_lconst (pc := 157) (v := (0)) X d_Mo_look_157 (by decide) ?_
          refine J_lcmp (pc := 158) X d_Mo_look_158 ?_
          refine J_if_lt (pc := 159) (tgt := 181) X d_Mo_look_159 (by decide) (fun c30 => ?_) (fun c30 => ?_)
          · have hM := hif_t hM c30
            refine J_aload_n (pc := 181) X 3 d_Mo_look_181 rfl ?_
            refine J_iconst (pc := 182) (v := (2)) X d_Mo_look_182 (by decide) ?_
            obtain ⟨h31, eh31, hM⟩ := hb_some hM
            refine J_put (pc := 183) X hc_Mo in_Mo t_Mo tk_Mo nk_Mo 33 k_584 (by decide) rfl rfl d_Mo_look_183 rfl rfl rfl eh31 ?_
            refine J_iconst (pc := 186) (v := (2)) X d_Mo_look_186 (by decide) ?_
            obtain rfl := Option.some.inj hM
            exact J_iret (pc := 187) X hr hlk (Nat.le_of_ble_eq_true rfl) (Nat.le_of_ble_eq_true rfl) d_Mo_look_187
          · have hM := hif_f hM c30
            refine J_lload (pc := 162) X 0 d_Mo_look_162 rfl ?_
            refine J_aload_n (pc := 164) X 3 d_Mo_look_164 rfl ?_
            obtain ⟨v32, ev32, hM⟩ := hb_some hM
            refine J_getA (pc := 165) X hc_Mo in_Mo 11 k_489 (by decide) rfl d_Mo_look_165 rfl ev32 ?_
            refine J_bipush (pc := 168) (v := (8)) X d_Mo_look_168 (by decide) ?_
            refine J_iload_n (pc := 170) X 4 d_Mo_look_170 rfl ?_
            refine J_imul (pc := 171) X d_Mo_look_171 ?_
            refine J_iload (pc := 172) X 1 d_Mo_look_172 rfl ?_
            refine J_iadd (pc := 174) X d_Mo_look_174 ?_
            obtain ⟨v33, ev33, hM⟩ := hb_some hM
            refine J_iald (pc := 175) X d_Mo_look_175 rfl ev33 ?_
            refine J_i2l (pc := 176) X d_Mo_look_176 ?_
            refine J_lcmp (pc := 177) X d_Mo_look_177 ?_
            refine J_if_lt (pc := 178) (tgt := 188) X d_Mo_look_178 (by decide) (fun c34 => ?_) (fun c34 => ?_)
            · have hM := hif_t hM c34
              refine J_aload_n (pc := 188) X 3 d_Mo_look_188 rfl ?_
              obtain ⟨v35, ev35, hM⟩ := hb_some hM
              refine J_getA (pc := 189) X hc_Mo in_Mo 35 k_507 (by decide) rfl d_Mo_look_189 rfl ev35 ?_
              refine J_iload (pc := 192) X 6 d_Mo_look_192 rfl ?_
              refine J_iconst (pc := 194) (v := (1)) X d_Mo_look_194 (by decide) ?_
              refine J_isub (pc := 195) X d_Mo_look_195 ?_
              refine J_aload_n (pc := 196) X 3 d_Mo_look_196 rfl ?_
              obtain ⟨v36, ev36, hM⟩ := hb_some hM
              refine J_getA (pc := 197) X hc_Mo in_Mo 12 k_490 (by decide) rfl d_Mo_look_197 rfl ev36 ?_
              refine J_bipush (pc := 200) (v := (80)) X d_Mo_look_200 (by decide) ?_
              refine J_iload_n (pc := 202) X 4 d_Mo_look_202 rfl ?_
              refine J_imul (pc := 203) X d_Mo_look_203 ?_
              refine J_bipush (pc := 204) (v := (10)) X d_Mo_look_204 (by decide) ?_
              refine J_iload (pc := 206) X 1 d_Mo_look_206 rfl ?_
              refine J_imul (pc := 208) X d_Mo_look_208 ?_
              refine J_iadd (pc := 209) X d_Mo_look_209 ?_
              refine J_lload (pc := 210) X 0 d_Mo_look_210 rfl ?_
              refine J_l2i (pc := 212) X d_Mo_look_212 ?_
              refine J_iadd (pc := 213) X d_Mo_look_213 ?_
              obtain ⟨v37, ev37, hM⟩ := hb_some hM
              refine J_iald (pc := 214) X d_Mo_look_214 rfl ev37 ?_
              refine J_i2l (pc := 215) X d_Mo_look_215 ?_
              obtain ⟨h38, eh38, hM⟩ := hb_some hM
              refine J_last (pc := 216) X d_Mo_look_216 rfl eh38 ?_
              refine J_goto (pc := 217) (tgt := 336) X d_Mo_look_217 (by decide) ?_
              refine J_sub [3, 4, 5, 6, 7] rfl ?_
              exact w_Mo_look_336 Y R18 _ _ _ _ _ _ _ hM
            · have hM := hif_f hM c34
              refine J_aload_n (pc := 181) X 3 d_Mo_look_181 rfl ?_
              refine J_iconst (pc := 182) (v := (2)) X d_Mo_look_182 (by decide) ?_
              obtain ⟨h39, eh39, hM⟩ := hb_some hM
              refine J_put (pc := 183) X hc_Mo in_Mo t_Mo tk_Mo nk_Mo 33 k_584 (by decide) rfl rfl d_Mo_look_183 rfl rfl rfl eh39 ?_
              refine J_iconst (pc := 186) (v := (2)) X d_Mo_look_186 (by decide) ?_
              obtain rfl := Option.some.inj hM
              exact J_iret (pc := 187) X hr hlk (Nat.le_of_ble_eq_true rfl) (Nat.le_of_ble_eq_true rfl) d_Mo_look_187
      · have hM := hif_t hM c10
        refine J_aload_n (pc := 94) X 2 d_Mo_look_94 rfl ?_
        obtain ⟨v40, ev40, hM⟩ := hb_some hM
        refine J_getA (pc := 95) X hc_Mo in_Mo 28 k_502 (by decide) rfl d_Mo_look_95 rfl ev40 ?_
        refine J_iload (pc := 98) X 0 d_Mo_look_98 rfl ?_
        obtain ⟨v41, ev41, hM⟩ := hb_some hM
        refine J_zald (pc := 100) X d_Mo_look_100 rfl ev41 ?_
        refine J_if_ne (pc := 101) (tgt := 117) X d_Mo_look_101 (by decide) (fun c42 => ?_) (fun c42 => ?_)
        · have hM := hif_f hM c42
          refine J_aload_n (pc := 117) X 2 d_Mo_look_117 rfl ?_
          obtain ⟨v43, ev43, hM⟩ := hb_some hM
          refine J_getA (pc := 118) X hc_Mo in_Mo 35 k_507 (by decide) rfl d_Mo_look_118 rfl ev43 ?_
          refine J_iload (pc := 121) X 5 d_Mo_look_121 rfl ?_
          refine J_aload_n (pc := 123) X 2 d_Mo_look_123 rfl ?_
          obtain ⟨v44, ev44, hM⟩ := hb_some hM
          refine J_getA (pc := 124) X hc_Mo in_Mo 27 k_501 (by decide) rfl d_Mo_look_124 rfl ev44 ?_
          refine J_iload (pc := 127) X 0 d_Mo_look_127 rfl ?_
          obtain ⟨v45, ev45, hM⟩ := hb_some hM
          refine J_lald (pc := 129) X d_Mo_look_129 rfl ev45 ?_
          obtain ⟨h46, eh46, hM⟩ := hb_some hM
          refine J_last (pc := 130) X d_Mo_look_130 rfl eh46 ?_
          refine J_iinc (pc := 131) (v := x4 + 1) (lv' := [(4, .int (x4 + 1)), (7, .int v7), (6, .int v5), (0, .ref x0), (1, .int x1), (3, .int x3), (5, .int x5)]) X 5 d_Mo_look_131 rfl rfl (by decide) rfl ?_
          refine J_goto (pc := 134) (tgt := 336) X d_Mo_look_134 (by decide) ?_
          refine J_sub [3, 4, 5, 0, 6] rfl ?_
          exact w_Mo_look_336 Y R18 _ _ _ _ _ _ _ hM
        · have hM := hif_t hM c42
          refine J_aload_n (pc := 104) X 2 d_Mo_look_104 rfl ?_
          refine J_iconst (pc := 105) (v := (3)) X d_Mo_look_105 (by decide) ?_
          obtain ⟨h47, eh47, hM⟩ := hb_some hM
          refine J_put (pc := 106) X hc_Mo in_Mo t_Mo tk_Mo nk_Mo 33 k_584 (by decide) rfl rfl d_Mo_look_106 rfl rfl rfl eh47 ?_
          refine J_aload_n (pc := 109) X 2 d_Mo_look_109 rfl ?_
          refine J_iload (pc := 110) X 0 d_Mo_look_110 rfl ?_
          obtain ⟨h48, eh48, hM⟩ := hb_some hM
          refine J_put (pc := 112) X hc_Mo in_Mo t_Mo tk_Mo nk_Mo 34 k_580 (by decide) rfl rfl d_Mo_look_112 rfl rfl rfl eh48 ?_
          refine J_iconst (pc := 115) (v := (2)) X d_Mo_look_115 (by decide) ?_
          obtain rfl := Option.some.inj hM
          exact J_iret (pc := 116) X hr hlk (Nat.le_of_ble_eq_true rfl) (Nat.le_of_ble_eq_true rfl) d_Mo_look_116
    · have hM := hif_t hM c9
      refine J_aload_n (pc := 71) X 2 d_Mo_look_71 rfl ?_
      obtain ⟨v49, ev49, hM⟩ := hb_some hM
      refine J_getA (pc := 72) X hc_Mo in_Mo 35 k_507 (by decide) rfl d_Mo_look_72 rfl ev49 ?_
      refine J_iload (pc := 75) X 5 d_Mo_look_75 rfl ?_
      refine J_iload (pc := 77) X 0 d_Mo_look_77 rfl ?_
      refine J_i2l (pc := 79) X d_Mo_look_79 ?_
      obtain ⟨h50, eh50, hM⟩ := hb_some hM
      refine J_last (pc := 80) X d_Mo_look_80 rfl eh50 ?_
      refine J_iinc (pc := 81) (v := x4 + 1) (lv' := [(4, .int (x4 + 1)), (7, .int v7), (6, .int v5), (0, .ref x0), (1, .int x1), (3, .int x3), (5, .int x5)]) X 5 d_Mo_look_81 rfl rfl (by decide) rfl ?_
      refine J_goto (pc := 84) (tgt := 336) X d_Mo_look_84 (by decide) ?_
      refine J_sub [3, 4, 5, 0, 6] rfl ?_
      exact w_Mo_look_336 Y R18 _ _ _ _ _ _ _ hM
theorem w_Mo_look_18 {p : Program} {l : Launch} {e : Env} {s : State} {m : MethodId} {args : Array Value} {below : List Frame} {meth : Method} {c : Code} {D : va_G} {K : (Nat → Nat) × (Nat → Nat)} {h0 : hH} (Y : HX p s m args meth c prog_14_method_26_code 10 "LicenceTextsModel" D K "look" (some .int) h0) {F : Nat} : ∀ z : Nat, ∀ (h : hH) (x0 : Nat) (x1 : Int32) (x3 : Int32) (x4 : Int32) (x5 : Int32) (q : (Int32 × hH)), M_Mo_look_18 F z h x0 x1 x3 x4 x5 = some q → J p l e rm_Mo_look s m args below meth c 10 D cls0 (hF h0) h [(0, .ref x0), (1, .int x1), (3, .int x3), (4, .int x4), (5, .int x5)] 0 0 (MQ below (hQ D cls0 h0 (some (.int q.1)) q.2) args s 0 0 (hF h0)) 18 [] := by
  intro z
  induction z with
  | zero => intro h x0 x1 x3 x4 x5 q hM; exact absurd (show (none : Option _) = some q from hM) (fun t => by cases t)
  | succ z ih => exact b_Mo_look_18 Y ih
set_option maxHeartbeats 4000000 in
set_option maxRecDepth 100000 in
theorem c_Mo_look (l : Launch) (D : va_G) (K : (Nat → Nat) × (Nat → Nat)) (F : Nat) {h : hH} {x0 : Nat} {x1 : Int32} {x2 : Int32} {q : (Int32 × hH)} (hM : M_Mo_look F h x0 x1 x2 = some q) : Met l y_Mo_look (.code y_Mo_look prog_14_method_26_code 10 (some .int) :: T0) rm_Mo_look (hPc hG D cls0 K [.ref x0, .int x1, .int x2] h) (hQ D cls0 h (some (.int q.1)) q.2) 0 0 (hF h) := by
  refine J_met (lv := [(0, .ref x0), (1, .int x1), (2, .int x2)]) (by decide) (Nat.le_of_ble_eq_true rfl) rfl ?_
  intro p e s m below meth c X hr hlk hnm
  have Y : HX p s m _ meth c prog_14_method_26_code 10 "LicenceTextsModel" D K "look" (some .int) h := ⟨X, hr, hlk, hnm⟩
  unfold M_Mo_look at hM
  refine J_bipush (pc := 0) (v := (12)) X d_Mo_look_0 (by decide) ?_
  refine J_iload_n (pc := 2) X 1 d_Mo_look_2 rfl ?_
  refine J_imul (pc := 3) X d_Mo_look_3 ?_
  refine J_iload_n (pc := 4) X 2 d_Mo_look_4 rfl ?_
  refine J_iadd (pc := 5) X d_Mo_look_5 ?_
  refine J_istore_n (pc := 6) (lv' := [(3, .int ((12 * x1) + x2)), (0, .ref x0), (1, .int x1), (2, .int x2)]) X d_Mo_look_6 rfl (by decide) rfl ?_
  refine J_iconst (pc := 7) (v := (0)) X d_Mo_look_7 (by decide) ?_
  refine J_istore (pc := 8) (lv' := [(4, .int 0), (3, .int ((12 * x1) + x2)), (0, .ref x0), (1, .int x1), (2, .int x2)]) X d_Mo_look_8 (by decide) rfl ?_
  refine J_aload_n (pc := 10) X 2 d_Mo_look_10 rfl ?_
  obtain ⟨v1, ev1, hM⟩ := hb_some hM
  refine J_getA (pc := 11) X hc_Mo in_Mo 14 k_492 (by decide) rfl d_Mo_look_11 rfl ev1 ?_
  refine J_iload_n (pc := 14) X 1 d_Mo_look_14 rfl ?_
  obtain ⟨v2, ev2, hM⟩ := hb_some hM
  refine J_iald (pc := 15) X d_Mo_look_15 rfl ev2 ?_
  refine J_istore (pc := 16) (lv' := [(5, .int v2), (4, .int 0), (3, .int ((12 * x1) + x2)), (0, .ref x0), (1, .int x1), (2, .int x2)]) X d_Mo_look_16 (by decide) rfl ?_
  refine J_sub [3, 4, 2, 1, 0] rfl ?_
  exact w_Mo_look_18 Y F _ _ _ _ _ _ _ hM
abbrev rm_Mo_answer : Room := { frames := 2, cells := 0, slots := 0, locals := 53 }
set_option maxHeartbeats 4000000 in
set_option maxRecDepth 100000 in
theorem w_Mo_answer_112 {p : Program} {l : Launch} {e : Env} {s : State} {m : MethodId} {args : Array Value} {below : List Frame} {meth : Method} {c : Code} {D : va_G} {K : (Nat → Nat) × (Nat → Nat)} {h0 : hH} (Y : HX p s m args meth c prog_14_method_27_code 8 "LicenceTextsModel" D K "answer" (some .int) h0) {F : Nat} {r24 : hH → Nat → Int32 → Int32 → Int32 → Int32 → Int32 → Int32 → Option (Int32 × hH)} (R24 : ∀ (h : hH) (x0 : Nat) (x1 : Int32) (x2 : Int32) (x3 : Int32) (x4 : Int32) (x5 : Int32) (x6 : Int32) (q : (Int32 × hH)), r24 h x0 x1 x2 x3 x4 x5 x6 = some q → J p l e rm_Mo_answer s m args below meth c 8 D cls0 (hF h0) h [(0, .ref x0), (1, .int x1), (2, .int x2), (3, .int x3), (4, .int x4), (5, .int x5), (6, .int x6)] 0 0 (MQ below (hQ D cls0 h0 (some (.int q.1)) q.2) args s 0 0 (hF h0)) 24 []) (h : hH) (x0 : Nat) (x1 : Int32) (x2 : Int32) (x3 : Int32) (x4 : Int32) (x5 : Int32) (x6 : Int32) (q : (Int32 × hH)) (hM : M_Mo_answer_112 F r24 h x0 x1 x2 x3 x4 x5 x6 = some q) : J p l e rm_Mo_answer s m args below meth c 8 D cls0 (hF h0) h [(0, .ref x0), (1, .int x1), (2, .int x2), (3, .int x3), (4, .int x4), (5, .int x5), (6, .int x6)] 0 0 (MQ below (hQ D cls0 h0 (some (.int q.1)) q.2) args s 0 0 (hF h0)) 112 [] := by
  obtain ⟨X, hr, hlk, hnm⟩ := id Y
  unfold M_Mo_answer_112 at hM
  refine J_iinc (pc := 112) (v := x6 + 1) (lv' := [(6, .int (x6 + 1)), (0, .ref x0), (1, .int x1), (2, .int x2), (3, .int x3), (4, .int x4), (5, .int x5)]) X 6 d_Mo_answer_112 rfl rfl (by decide) rfl ?_
  refine J_goto (pc := 115) (tgt := 24) X d_Mo_answer_115 (by decide) ?_
  refine J_sub [1, 2, 3, 4, 5, 6, 0] rfl ?_
  exact R24 _ _ _ _ _ _ _ _ _ hM
set_option maxHeartbeats 4000000 in
set_option maxRecDepth 100000 in
theorem w_Mo_answer_75 {p : Program} {l : Launch} {e : Env} {s : State} {m : MethodId} {args : Array Value} {below : List Frame} {meth : Method} {c : Code} {D : va_G} {K : (Nat → Nat) × (Nat → Nat)} {h0 : hH} (Y : HX p s m args meth c prog_14_method_27_code 8 "LicenceTextsModel" D K "answer" (some .int) h0) {F : Nat} {r24 : hH → Nat → Int32 → Int32 → Int32 → Int32 → Int32 → Int32 → Option (Int32 × hH)} (R24 : ∀ (h : hH) (x0 : Nat) (x1 : Int32) (x2 : Int32) (x3 : Int32) (x4 : Int32) (x5 : Int32) (x6 : Int32) (q : (Int32 × hH)), r24 h x0 x1 x2 x3 x4 x5 x6 = some q → J p l e rm_Mo_answer s m args below meth c 8 D cls0 (hF h0) h [(0, .ref x0), (1, .int x1), (2, .int x2), (3, .int x3), (4, .int x4), (5, .int x5), (6, .int x6)] 0 0 (MQ below (hQ D cls0 h0 (some (.int q.1)) q.2) args s 0 0 (hF h0)) 24 []) (h : hH) (x0 : Nat) (x1 : Int32) (x2 : Int32) (x3 : Int32) (x5 : Int32) (x6 : Int32) (x7 : Int32) (s0 : Int32) (q : (Int32 × hH)) (hM : M_Mo_answer_75 F r24 h x0 x1 x2 x3 x5 x6 x7 s0 = some q) : J p l e rm_Mo_answer s m args below meth c 8 D cls0 (hF h0) h [(0, .ref x0), (1, .int x1), (2, .int x2), (3, .int x3), (5, .int x5), (6, .int x6), (7, .int x7)] 0 0 (MQ below (hQ D cls0 h0 (some (.int q.1)) q.2) args s 0 0 (hF h0)) 75 [.int s0] := by
  obtain ⟨X, hr, hlk, hnm⟩ := id Y
  unfold M_Mo_answer_75 at hM
  refine J_istore (pc := 75) (lv' := [(4, .int s0), (0, .ref x0), (1, .int x1), (2, .int x2), (3, .int x3), (5, .int x5), (6, .int x6), (7, .int x7)]) X d_Mo_answer_75 (by decide) rfl ?_
  refine J_iload_n (pc := 77) X 3 d_Mo_answer_77 rfl ?_
  refine J_if_eq (pc := 78) (tgt := 112) X d_Mo_answer_78 (by decide) (fun c1 => ?_) (fun c1 => ?_)
  · have hM := hif_t hM c1
    refine J_sub [1, 2, 3, 4, 0, 5, 6] rfl ?_
    exact w_Mo_answer_112 Y R24 _ _ _ _ _ _ _ _ _ hM
  · have hM := hif_f hM c1
    refine J_aload_n (pc := 81) X 1 d_Mo_answer_81 rfl ?_
    obtain ⟨v2, ev2, hM⟩ := hb_some hM
    refine J_getA (pc := 82) X hc_Mo in_Mo 30 k_504 (by decide) rfl d_Mo_answer_82 rfl ev2 ?_
    refine J_iload (pc := 85) X 6 d_Mo_answer_85 rfl ?_
    refine J_iload (pc := 87) X 7 d_Mo_answer_87 rfl ?_
    obtain ⟨h3, eh3, hM⟩ := hb_some hM
    refine J_iast (pc := 89) X d_Mo_answer_89 rfl eh3 ?_
    refine J_aload_n (pc := 90) X 1 d_Mo_answer_90 rfl ?_
    obtain ⟨v4, ev4, hM⟩ := hb_some hM
    refine J_getA (pc := 91) X hc_Mo in_Mo 31 k_505 (by decide) rfl d_Mo_answer_91 rfl ev4 ?_
    refine J_iload (pc := 94) X 6 d_Mo_answer_94 rfl ?_
    refine J_aload_n (pc := 96) X 1 d_Mo_answer_96 rfl ?_
    obtain ⟨v5, ev5, hM⟩ := hb_some hM
    refine J_getI (pc := 97) X hc_Mo in_Mo 33 k_584 (by decide) rfl d_Mo_answer_97 rfl ev5 ?_
    obtain ⟨h6, eh6, hM⟩ := hb_some hM
    refine J_iast (pc := 100) X d_Mo_answer_100 rfl eh6 ?_
    refine J_aload_n (pc := 101) X 1 d_Mo_answer_101 rfl ?_
    obtain ⟨v7, ev7, hM⟩ := hb_some hM
    refine J_getA (pc := 102) X hc_Mo in_Mo 32 k_506 (by decide) rfl d_Mo_answer_102 rfl ev7 ?_
    refine J_iload (pc := 105) X 6 d_Mo_answer_105 rfl ?_
    refine J_aload_n (pc := 107) X 1 d_Mo_answer_107 rfl ?_
    obtain ⟨v8, ev8, hM⟩ := hb_some hM
    refine J_getI (pc := 108) X hc_Mo in_Mo 34 k_580 (by decide) rfl d_Mo_answer_108 rfl ev8 ?_
    obtain ⟨h9, eh9, hM⟩ := hb_some hM
    refine J_iast (pc := 111) X d_Mo_answer_111 rfl eh9 ?_
    refine J_sub [1, 2, 3, 4, 0, 5, 6] rfl ?_
    exact w_Mo_answer_112 Y R24 _ _ _ _ _ _ _ _ _ hM
set_option maxHeartbeats 4000000 in
set_option maxRecDepth 100000 in
theorem w_Mo_answer_70 {p : Program} {l : Launch} {e : Env} {s : State} {m : MethodId} {args : Array Value} {below : List Frame} {meth : Method} {c : Code} {D : va_G} {K : (Nat → Nat) × (Nat → Nat)} {h0 : hH} (Y : HX p s m args meth c prog_14_method_27_code 8 "LicenceTextsModel" D K "answer" (some .int) h0) {F : Nat} {r24 : hH → Nat → Int32 → Int32 → Int32 → Int32 → Int32 → Int32 → Option (Int32 × hH)} (R24 : ∀ (h : hH) (x0 : Nat) (x1 : Int32) (x2 : Int32) (x3 : Int32) (x4 : Int32) (x5 : Int32) (x6 : Int32) (q : (Int32 × hH)), r24 h x0 x1 x2 x3 x4 x5 x6 = some q → J p l e rm_Mo_answer s m args below meth c 8 D cls0 (hF h0) h [(0, .ref x0), (1, .int x1), (2, .int x2), (3, .int x3), (4, .int x4), (5, .int x5), (6, .int x6)] 0 0 (MQ below (hQ D cls0 h0 (some (.int q.1)) q.2) args s 0 0 (hF h0)) 24 []) (h : hH) (x0 : Nat) (x1 : Int32) (x2 : Int32) (x3 : Int32) (x5 : Int32) (x6 : Int32) (x7 : Int32) (q : (Int32 × hH)) (hM : M_Mo_answer_70 F r24 h x0 x1 x2 x3 x5 x6 x7 = some q) : J p l e rm_Mo_answer s m args below meth c 8 D cls0 (hF h0) h [(0, .ref x0), (1, .int x1), (2, .int x2), (3, .int x3), (5, .int x5), (6, .int x6), (7, .int x7)] 0 0 (MQ below (hQ D cls0 h0 (some (.int q.1)) q.2) args s 0 0 (hF h0)) 70 [] := by
  obtain ⟨X, hr, hlk, hnm⟩ := id Y
  unfold M_Mo_answer_70 at hM
  refine J_iconst (pc := 70) (v := (1)) X d_Mo_answer_70 (by decide) ?_
  refine J_goto (pc := 71) (tgt := 75) X d_Mo_answer_71 (by decide) ?_
  exact w_Mo_answer_75 Y R24 _ _ _ _ _ _ _ _ _ _ hM
set_option maxHeartbeats 4000000 in
set_option maxRecDepth 100000 in
theorem w_Mo_answer_58 {p : Program} {l : Launch} {e : Env} {s : State} {m : MethodId} {args : Array Value} {below : List Frame} {meth : Method} {c : Code} {D : va_G} {K : (Nat → Nat) × (Nat → Nat)} {h0 : hH} (Y : HX p s m args meth c prog_14_method_27_code 8 "LicenceTextsModel" D K "answer" (some .int) h0) {F : Nat} {r24 : hH → Nat → Int32 → Int32 → Int32 → Int32 → Int32 → Int32 → Option (Int32 × hH)} (R24 : ∀ (h : hH) (x0 : Nat) (x1 : Int32) (x2 : Int32) (x3 : Int32) (x4 : Int32) (x5 : Int32) (x6 : Int32) (q : (Int32 × hH)), r24 h x0 x1 x2 x3 x4 x5 x6 = some q → J p l e rm_Mo_answer s m args below meth c 8 D cls0 (hF h0) h [(0, .ref x0), (1, .int x1), (2, .int x2), (3, .int x3), (4, .int x4), (5, .int x5), (6, .int x6)] 0 0 (MQ below (hQ D cls0 h0 (some (.int q.1)) q.2) args s 0 0 (hF h0)) 24 []) (h : hH) (x0 : Nat) (x1 : Int32) (x2 : Int32) (x4 : Int32) (x5 : Int32) (x6 : Int32) (x7 : Int32) (s0 : Int32) (q : (Int32 × hH)) (hM : M_Mo_answer_58 F r24 h x0 x1 x2 x4 x5 x6 x7 s0 = some q) : J p l e rm_Mo_answer s m args below meth c 8 D cls0 (hF h0) h [(0, .ref x0), (1, .int x1), (2, .int x2), (4, .int x4), (5, .int x5), (6, .int x6), (7, .int x7)] 0 0 (MQ below (hQ D cls0 h0 (some (.int q.1)) q.2) args s 0 0 (hF h0)) 58 [.int s0] := by
  obtain ⟨X, hr, hlk, hnm⟩ := id Y
  unfold M_Mo_answer_58 at hM
  refine J_istore_n (pc := 58) (lv' := [(3, .int s0), (0, .ref x0), (1, .int x1), (2, .int x2), (4, .int x4), (5, .int x5), (6, .int x6), (7, .int x7)]) X d_Mo_answer_58 rfl (by decide) rfl ?_
  refine J_iload (pc := 59) X 4 d_Mo_answer_59 rfl ?_
  refine J_if_ne (pc := 61) (tgt := 70) X d_Mo_answer_61 (by decide) (fun c1 => ?_) (fun c1 => ?_)
  · have hM := hif_f hM c1
    refine J_sub [1, 2, 3, 0, 5, 6, 7] rfl ?_
    exact w_Mo_answer_70 Y R24 _ _ _ _ _ _ _ _ _ hM
  · have hM := hif_t hM c1
    refine J_iload (pc := 64) X 7 d_Mo_answer_64 rfl ?_
    refine J_iconst (pc := 66) (v := (2)) X d_Mo_answer_66 (by decide) ?_
    refine J_icmp_ne (pc := 67) (tgt := 74) X d_Mo_answer_67 (by decide) (fun c2 => ?_) (fun c2 => ?_)
    · have hM := hif_f hM c2
      refine J_iconst (pc := 74) (v := (0)) X d_Mo_answer_74 (by decide) ?_
      refine J_sub [1, 2, 3, 0, 5, 6, 7] rfl ?_
      exact w_Mo_answer_75 Y R24 _ _ _ _ _ _ _ _ _ _ hM
    · have hM := hif_t hM c2
      refine J_sub [1, 2, 3, 0, 5, 6, 7] rfl ?_
      exact w_Mo_answer_70 Y R24 _ _ _ _ _ _ _ _ _ hM
set_option maxHeartbeats 4000000 in
set_option maxRecDepth 100000 in
theorem w_Mo_answer_57 {p : Program} {l : Launch} {e : Env} {s : State} {m : MethodId} {args : Array Value} {below : List Frame} {meth : Method} {c : Code} {D : va_G} {K : (Nat → Nat) × (Nat → Nat)} {h0 : hH} (Y : HX p s m args meth c prog_14_method_27_code 8 "LicenceTextsModel" D K "answer" (some .int) h0) {F : Nat} {r24 : hH → Nat → Int32 → Int32 → Int32 → Int32 → Int32 → Int32 → Option (Int32 × hH)} (R24 : ∀ (h : hH) (x0 : Nat) (x1 : Int32) (x2 : Int32) (x3 : Int32) (x4 : Int32) (x5 : Int32) (x6 : Int32) (q : (Int32 × hH)), r24 h x0 x1 x2 x3 x4 x5 x6 = some q → J p l e rm_Mo_answer s m args below meth c 8 D cls0 (hF h0) h [(0, .ref x0), (1, .int x1), (2, .int x2), (3, .int x3), (4, .int x4), (5, .int x5), (6, .int x6)] 0 0 (MQ below (hQ D cls0 h0 (some (.int q.1)) q.2) args s 0 0 (hF h0)) 24 []) (h : hH) (x0 : Nat) (x1 : Int32) (x2 : Int32) (x3 : Int32) (x4 : Int32) (x5 : Int32) (x6 : Int32) (x7 : Int32) (q : (Int32 × hH)) (hM : M_Mo_answer_57 F r24 h x0 x1 x2 x3 x4 x5 x6 x7 = some q) : J p l e rm_Mo_answer s m args below meth c 8 D cls0 (hF h0) h [(0, .ref x0), (1, .int x1), (2, .int x2), (3, .int x3), (4, .int x4), (5, .int x5), (6, .int x6), (7, .int x7)] 0 0 (MQ below (hQ D cls0 h0 (some (.int q.1)) q.2) args s 0 0 (hF h0)) 57 [] := by
  obtain ⟨X, hr, hlk, hnm⟩ := id Y
  unfold M_Mo_answer_57 at hM
  refine J_iload_n (pc := 57) X 3 d_Mo_answer_57 rfl ?_
  refine J_sub [0, 1, 2, 4, 5, 6, 7] rfl ?_
  exact w_Mo_answer_58 Y R24 _ _ _ _ _ _ _ _ _ _ hM
set_option maxHeartbeats 4000000 in
set_option maxRecDepth 100000 in
theorem b_Mo_answer_24 {p : Program} {l : Launch} {e : Env} {s : State} {m : MethodId} {args : Array Value} {below : List Frame} {meth : Method} {c : Code} {D : va_G} {K : (Nat → Nat) × (Nat → Nat)} {h0 : hH} (Y : HX p s m args meth c prog_14_method_27_code 8 "LicenceTextsModel" D K "answer" (some .int) h0) {F : Nat}   {r24 : hH → Nat → Int32 → Int32 → Int32 → Int32 → Int32 → Int32 → Option (Int32 × hH)} (R24 : ∀ (h : hH) (x0 : Nat) (x1 : Int32) (x2 : Int32) (x3 : Int32) (x4 : Int32) (x5 : Int32) (x6 : Int32) (q : (Int32 × hH)), r24 h x0 x1 x2 x3 x4 x5 x6 = some q → J p l e rm_Mo_answer s m args below meth c 8 D cls0 (hF h0) h [(0, .ref x0), (1, .int x1), (2, .int x2), (3, .int x3), (4, .int x4), (5, .int x5), (6, .int x6)] 0 0 (MQ below (hQ D cls0 h0 (some (.int q.1)) q.2) args s 0 0 (hF h0)) 24 []) : ∀ (h : hH) (x0 : Nat) (x1 : Int32) (x2 : Int32) (x3 : Int32) (x4 : Int32) (x5 : Int32) (x6 : Int32) (q : (Int32 × hH)), B_Mo_answer_24 F r24 h x0 x1 x2 x3 x4 x5 x6 = some q → J p l e rm_Mo_answer s m args below meth c 8 D cls0 (hF h0) h [(0, .ref x0), (1, .int x1), (2, .int x2), (3, .int x3), (4, .int x4), (5, .int x5), (6, .int x6)] 0 0 (MQ below (hQ D cls0 h0 (some (.int q.1)) q.2) args s 0 0 (hF h0)) 24 [] := by
  intro h x0 x1 x2 x3 x4 x5 x6 q hM
  obtain ⟨X, hr, hlk, hnm⟩ := id Y
  unfold B_Mo_answer_24 at hM
  refine J_iload (pc := 24) X 6 d_Mo_answer_24 rfl ?_
  refine J_iload (pc := 26) X 5 d_Mo_answer_26 rfl ?_
  refine J_icmp_ge (pc := 28) (tgt := 118) X d_Mo_answer_28 (by decide) (fun c1 => ?_) (fun c1 => ?_)
  · have hM := hif_t hM c1
    refine J_iload_n (pc := 118) X 3 d_Mo_answer_118 rfl ?_
    refine J_if_le (pc := 119) (tgt := 126) X d_Mo_answer_119 (by decide) (fun c2 => ?_) (fun c2 => ?_)
    · have hM := hif_t hM c2
      refine J_iload (pc := 126) X 4 d_Mo_answer_126 rfl ?_
      refine J_if_eq (pc := 128) (tgt := 135) X d_Mo_answer_128 (by decide) (fun c3 => ?_) (fun c3 => ?_)
      · have hM := hif_t hM c3
        refine J_iconst (pc := 135) (v := (0)) X d_Mo_answer_135 (by decide) ?_
        obtain rfl := Option.some.inj hM
        exact J_iret (pc := 136) X hr hlk (Nat.le_of_ble_eq_true rfl) (Nat.le_of_ble_eq_true rfl) d_Mo_answer_136
      · have hM := hif_f hM c3
        refine J_iconst (pc := 131) (v := (-1)) X d_Mo_answer_131 (by decide) ?_
        refine J_goto (pc := 132) (tgt := 136) X d_Mo_answer_132 (by decide) ?_
        obtain rfl := Option.some.inj hM
        exact J_iret (pc := 136) X hr hlk (Nat.le_of_ble_eq_true rfl) (Nat.le_of_ble_eq_true rfl) d_Mo_answer_136
    · have hM := hif_f hM c2
      refine J_iload_n (pc := 122) X 3 d_Mo_answer_122 rfl ?_
      refine J_goto (pc := 123) (tgt := 136) X d_Mo_answer_123 (by decide) ?_
      obtain rfl := Option.some.inj hM
      exact J_iret (pc := 136) X hr hlk (Nat.le_of_ble_eq_true rfl) (Nat.le_of_ble_eq_true rfl) d_Mo_answer_136
  · have hM := hif_f hM c1
    refine J_aload_n (pc := 31) X 0 d_Mo_answer_31 rfl ?_
    refine J_iload_n (pc := 32) X 1 d_Mo_answer_32 rfl ?_
    refine J_iload (pc := 33) X 6 d_Mo_answer_33 rfl ?_
    obtain ⟨u4, eu4, hM⟩ := hb_some hM
    obtain ⟨q5, eq5, hM⟩ := hb_some hM
    refine J_callV (pc := 35) (As := [.int x1, .int x6]) (rest := []) (o := (some (.int q5.1))) (h2 := q5.2) X rfl hc_Mo eu4 (c_Mo_look l D K F eq5) (cwV_of (nA := 2) X.fix k_585 k_587 k_588 k_515 k_586 ⟨rfl, rfl, rfl⟩ (by decide +kernel) ⟨Nat.le_of_ble_eq_true rfl, Nat.le_of_ble_eq_true rfl⟩) d_Mo_answer_35 rfl rfl (Nat.le_of_ble_eq_true rfl) (Nat.le_of_ble_eq_true rfl) (Nat.le_of_ble_eq_true rfl) ?_
    refine J_istore (pc := 38) (lv' := [(7, .int q5.1), (0, .ref x0), (1, .int x1), (2, .int x2), (3, .int x3), (4, .int x4), (5, .int x5), (6, .int x6)]) X d_Mo_answer_38 (by decide) rfl ?_
    refine J_iload (pc := 40) X 0 d_Mo_answer_40 rfl ?_
    refine J_iconst (pc := 42) (v := (1)) X d_Mo_answer_42 (by decide) ?_
    refine J_icmp_ne (pc := 43) (tgt := 57) X d_Mo_answer_43 (by decide) (fun c6 => ?_) (fun c6 => ?_)
    · have hM := hif_f hM c6
      refine J_sub [1, 2, 3, 4, 5, 6, 7, 0] rfl ?_
      exact w_Mo_answer_57 Y R24 _ _ _ _ _ _ _ _ _ _ hM
    · have hM := hif_t hM c6
      refine J_iload_n (pc := 46) X 4 d_Mo_answer_46 rfl ?_
      refine J_if_ne (pc := 47) (tgt := 57) X d_Mo_answer_47 (by decide) (fun c7 => ?_) (fun c7 => ?_)
      · have hM := hif_f hM c7
        refine J_sub [1, 2, 3, 4, 5, 6, 7, 0] rfl ?_
        exact w_Mo_answer_57 Y R24 _ _ _ _ _ _ _ _ _ _ hM
      · have hM := hif_t hM c7
        refine J_iload (pc := 50) X 7 d_Mo_answer_50 rfl ?_
        refine J_iconst (pc := 52) (v := (1)) X d_Mo_answer_52 (by decide) ?_
        refine J_iadd (pc := 53) X d_Mo_answer_53 ?_
        refine J_goto (pc := 54) (tgt := 58) X d_Mo_answer_54 (by decide) ?_
        refine J_sub [1, 2, 3, 5, 6, 7, 0] rfl ?_
        exact w_Mo_answer_58 Y R24 _ _ _ _ _ _ _ _ _ _ hM
theorem w_Mo_answer_24 {p : Program} {l : Launch} {e : Env} {s : State} {m : MethodId} {args : Array Value} {below : List Frame} {meth : Method} {c : Code} {D : va_G} {K : (Nat → Nat) × (Nat → Nat)} {h0 : hH} (Y : HX p s m args meth c prog_14_method_27_code 8 "LicenceTextsModel" D K "answer" (some .int) h0) {F : Nat} : ∀ z : Nat, ∀ (h : hH) (x0 : Nat) (x1 : Int32) (x2 : Int32) (x3 : Int32) (x4 : Int32) (x5 : Int32) (x6 : Int32) (q : (Int32 × hH)), M_Mo_answer_24 F z h x0 x1 x2 x3 x4 x5 x6 = some q → J p l e rm_Mo_answer s m args below meth c 8 D cls0 (hF h0) h [(0, .ref x0), (1, .int x1), (2, .int x2), (3, .int x3), (4, .int x4), (5, .int x5), (6, .int x6)] 0 0 (MQ below (hQ D cls0 h0 (some (.int q.1)) q.2) args s 0 0 (hF h0)) 24 [] := by
  intro z
  induction z with
  | zero => intro h x0 x1 x2 x3 x4 x5 x6 q hM; exact absurd (show (none : Option _) = some q from hM) (fun t => by cases t)
  | succ z ih => exact b_Mo_answer_24 Y ih
set_option maxHeartbeats 4000000 in
set_option maxRecDepth 100000 in
theorem w_Mo_answer_19 {p : Program} {l : Launch} {e : Env} {s : State} {m : MethodId} {args : Array Value} {below : List Frame} {meth : Method} {c : Code} {D : va_G} {K : (Nat → Nat) × (Nat → Nat)} {h0 : hH} (Y : HX p s m args meth c prog_14_method_27_code 8 "LicenceTextsModel" D K "answer" (some .int) h0) {F : Nat} (h : hH) (x0 : Nat) (x1 : Int32) (x2 : Int32) (x3 : Int32) (x4 : Int32) (s0 : Int32) (q : (Int32 × hH)) (hM : M_Mo_answer_19 F h x0 x1 x2 x3 x4 s0 = some q) : J p l e rm_Mo_answer s m args below meth c 8 D cls0 (hF h0) h [(0, .ref x0), (1, .int x1), (2, .int x2), (3, .int x3), (4, .int x4)] 0 0 (MQ below (hQ D cls0 h0 (some (.int q.1)) q.2) args s 0 0 (hF h0)) 19 [.int s0] := by
  obtain ⟨X, hr, hlk, hnm⟩ := id Y
  unfold M_Mo_answer_19 at hM
  refine J_istore (pc := 19) (lv' := [(5, .int s0), (0, .ref x0), (1, .int x1), (2, .int x2), (3, .int x3), (4, .int x4)]) X d_Mo_answer_19 (by decide) rfl ?_
  refine J_iconst (pc := 21) (v := (0)) X d_Mo_answer_21 (by decide) ?_
  refine J_istore (pc := 22) (lv' := [(6, .int 0), (5, .int s0), (0, .ref x0), (1, .int x1), (2, .int x2), (3, .int x3), (4, .int x4)]) X d_Mo_answer_22 (by decide) rfl ?_
  refine J_sub [2, 3, 4, 5, 6, 1, 0] rfl ?_
  exact w_Mo_answer_24 Y F _ _ _ _ _ _ _ _ _ hM
set_option maxHeartbeats 4000000 in
set_option maxRecDepth 100000 in
theorem c_Mo_answer (l : Launch) (D : va_G) (K : (Nat → Nat) × (Nat → Nat)) (F : Nat) {h : hH} {x0 : Nat} {x1 : Int32} {x2 : Int32} {q : (Int32 × hH)} (hM : M_Mo_answer F h x0 x1 x2 = some q) : Met l y_Mo_answer (.code y_Mo_answer prog_14_method_27_code 8 (some .int) :: T0) rm_Mo_answer (hPc hG D cls0 K [.ref x0, .int x1, .int x2] h) (hQ D cls0 h (some (.int q.1)) q.2) 0 0 (hF h) := by
  refine J_met (lv := [(0, .ref x0), (1, .int x1), (2, .int x2)]) (by decide) (Nat.le_of_ble_eq_true rfl) rfl ?_
  intro p e s m below meth c X hr hlk hnm
  have Y : HX p s m _ meth c prog_14_method_27_code 8 "LicenceTextsModel" D K "answer" (some .int) h := ⟨X, hr, hlk, hnm⟩
  unfold M_Mo_answer at hM
  refine J_iconst (pc := 0) (v := (0)) X d_Mo_answer_0 (by decide) ?_
  refine J_istore_n (pc := 1) (lv' := [(3, .int 0), (0, .ref x0), (1, .int x1), (2, .int x2)]) X d_Mo_answer_1 rfl (by decide) rfl ?_
  refine J_iconst (pc := 2) (v := (0)) X d_Mo_answer_2 (by decide) ?_
  refine J_istore (pc := 3) (lv' := [(4, .int 0), (3, .int 0), (0, .ref x0), (1, .int x1), (2, .int x2)]) X d_Mo_answer_3 (by decide) rfl ?_
  refine J_iload_n (pc := 5) X 3 d_Mo_answer_5 rfl ?_
  refine J_if_ge (pc := 6) (tgt := 13) X d_Mo_answer_6 (by decide) (fun c1 => ?_) (fun c1 => ?_)
  · have hM := hif_t hM c1
    refine J_aload_n (pc := 13) X 2 d_Mo_answer_13 rfl ?_
    obtain ⟨v2, ev2, hM⟩ := hb_some hM
    refine J_getA (pc := 14) X hc_Mo in_Mo 13 k_491 (by decide) rfl d_Mo_answer_14 rfl ev2 ?_
    refine J_iload_n (pc := 17) X 3 d_Mo_answer_17 rfl ?_
    obtain ⟨v3, ev3, hM⟩ := hb_some hM
    refine J_iald (pc := 18) X d_Mo_answer_18 rfl ev3 ?_
    refine J_sub [2, 3, 4, 1, 0] rfl ?_
    exact w_Mo_answer_19 Y _ _ _ _ _ _ _ _ hM
  · have hM := hif_f hM c1
    refine J_iconst (pc := 9) (v := (0)) X d_Mo_answer_9 (by decide) ?_
    refine J_goto (pc := 10) (tgt := 19) X d_Mo_answer_10 (by decide) ?_
    refine J_sub [2, 3, 4, 1, 0] rfl ?_
    exact w_Mo_answer_19 Y _ _ _ _ _ _ _ _ hM
abbrev rm_Mo_run : Room := { frames := 3, cells := 0, slots := 0, locals := 80 }
set_option maxHeartbeats 4000000 in
set_option maxRecDepth 100000 in
theorem c_Mo_run (l : Launch) (D : va_G) (K : (Nat → Nat) × (Nat → Nat)) (F : Nat) {h : hH} {x0 : Nat} {x1 : Int32} {q : (Int32 × hH)} (hM : M_Mo_run F h x0 x1 = some q) : Met l y_Mo_run (.code y_Mo_run prog_14_method_28_code 2 (some .int) :: T0) rm_Mo_run (hPc hG D cls0 K [.ref x0, .int x1] h) (hQ D cls0 h (some (.int q.1)) q.2) 0 0 (hF h) := by
  refine J_met (lv := [(0, .ref x0), (1, .int x1)]) (by decide) (Nat.le_of_ble_eq_true rfl) rfl ?_
  intro p e s m below meth c X hr hlk hnm
  have Y : HX p s m _ meth c prog_14_method_28_code 2 "LicenceTextsModel" D K "run" (some .int) h := ⟨X, hr, hlk, hnm⟩
  unfold M_Mo_run at hM
  refine J_aload_n (pc := 0) X 0 d_Mo_run_0 rfl ?_
  refine J_iconst (pc := 1) (v := (0)) X d_Mo_run_1 (by decide) ?_
  obtain ⟨h1, eh1, hM⟩ := hb_some hM
  refine J_put (pc := 2) X hc_Mo in_Mo t_Mo tk_Mo nk_Mo 0 k_510 (by decide) rfl rfl d_Mo_run_2 rfl rfl rfl eh1 ?_
  refine J_aload_n (pc := 5) X 0 d_Mo_run_5 rfl ?_
  refine J_aload_n (pc := 6) X 0 d_Mo_run_6 rfl ?_
  refine J_iload_n (pc := 7) X 1 d_Mo_run_7 rfl ?_
  obtain ⟨u2, eu2, hM⟩ := hb_some hM
  obtain ⟨q3, eq3, hM⟩ := hb_some hM
  refine J_callV (pc := 8) (As := [.int x1]) (rest := [.ref x0]) (o := (some (.int q3.1))) (h2 := q3.2) X rfl hc_Mo eu2 (c_Mo_editionOf l D K F eq3) (cwV_of (nA := 1) X.fix k_589 k_591 k_592 k_515 k_590 ⟨rfl, rfl, rfl⟩ (by decide +kernel) ⟨Nat.le_of_ble_eq_true rfl, Nat.le_of_ble_eq_true rfl⟩) d_Mo_run_8 rfl rfl (Nat.le_of_ble_eq_true rfl) (Nat.le_of_ble_eq_true rfl) (Nat.le_of_ble_eq_true rfl) ?_
  obtain ⟨h4, eh4, hM⟩ := hb_some hM
  refine J_put (pc := 11) X hc_Mo in_Mo t_Mo tk_Mo nk_Mo 29 k_503 (by decide) rfl rfl d_Mo_run_11 rfl rfl rfl eh4 ?_
  refine J_aload_n (pc := 14) X 0 d_Mo_run_14 rfl ?_
  refine J_aload_n (pc := 15) X 0 d_Mo_run_15 rfl ?_
  obtain ⟨v5, ev5, hM⟩ := hb_some hM
  refine J_getI (pc := 16) X hc_Mo in_Mo 29 k_503 (by decide) rfl d_Mo_run_16 rfl ev5 ?_
  refine J_iconst (pc := 19) (v := (1)) X d_Mo_run_19 (by decide) ?_
  obtain ⟨u6, eu6, hM⟩ := hb_some hM
  obtain ⟨q7, eq7, hM⟩ := hb_some hM
  refine J_callV (pc := 20) (As := [.int v5, .int 1]) (rest := []) (o := (some (.int q7.1))) (h2 := q7.2) X rfl hc_Mo eu6 (c_Mo_answer l D K F eq7) (cwV_of (nA := 2) X.fix k_593 k_595 k_596 k_515 k_594 ⟨rfl, rfl, rfl⟩ (by decide +kernel) ⟨Nat.le_of_ble_eq_true rfl, Nat.le_of_ble_eq_true rfl⟩) d_Mo_run_20 rfl rfl (Nat.le_of_ble_eq_true rfl) (Nat.le_of_ble_eq_true rfl) (Nat.le_of_ble_eq_true rfl) ?_
  obtain rfl := Option.some.inj hM
  exact J_iret (pc := 23) X hr hlk (Nat.le_of_ble_eq_true rfl) (Nat.le_of_ble_eq_true rfl) d_Mo_run_23
abbrev rm_Mo_walk : Room := { frames := 3, cells := 0, slots := 0, locals := 80 }
set_option maxHeartbeats 4000000 in
set_option maxRecDepth 100000 in
theorem c_Mo_walk (l : Launch) (D : va_G) (K : (Nat → Nat) × (Nat → Nat)) (F : Nat) {h : hH} {x0 : Nat} {x1 : Int32} {q : (Int32 × hH)} (hM : M_Mo_walk F h x0 x1 = some q) : Met l y_Mo_walk (.code y_Mo_walk prog_14_method_29_code 2 (some .int) :: T0) rm_Mo_walk (hPc hG D cls0 K [.ref x0, .int x1] h) (hQ D cls0 h (some (.int q.1)) q.2) 0 0 (hF h) := by
  refine J_met (lv := [(0, .ref x0), (1, .int x1)]) (by decide) (Nat.le_of_ble_eq_true rfl) rfl ?_
  intro p e s m below meth c X hr hlk hnm
  have Y : HX p s m _ meth c prog_14_method_29_code 2 "LicenceTextsModel" D K "walk" (some .int) h := ⟨X, hr, hlk, hnm⟩
  unfold M_Mo_walk at hM
  refine J_aload_n (pc := 0) X 0 d_Mo_walk_0 rfl ?_
  refine J_iconst (pc := 1) (v := (0)) X d_Mo_walk_1 (by decide) ?_
  obtain ⟨h1, eh1, hM⟩ := hb_some hM
  refine J_put (pc := 2) X hc_Mo in_Mo t_Mo tk_Mo nk_Mo 0 k_510 (by decide) rfl rfl d_Mo_walk_2 rfl rfl rfl eh1 ?_
  refine J_aload_n (pc := 5) X 0 d_Mo_walk_5 rfl ?_
  refine J_aload_n (pc := 6) X 0 d_Mo_walk_6 rfl ?_
  refine J_iload_n (pc := 7) X 1 d_Mo_walk_7 rfl ?_
  obtain ⟨u2, eu2, hM⟩ := hb_some hM
  obtain ⟨q3, eq3, hM⟩ := hb_some hM
  refine J_callV (pc := 8) (As := [.int x1]) (rest := [.ref x0]) (o := (some (.int q3.1))) (h2 := q3.2) X rfl hc_Mo eu2 (c_Mo_editionOf l D K F eq3) (cwV_of (nA := 1) X.fix k_589 k_591 k_592 k_515 k_590 ⟨rfl, rfl, rfl⟩ (by decide +kernel) ⟨Nat.le_of_ble_eq_true rfl, Nat.le_of_ble_eq_true rfl⟩) d_Mo_walk_8 rfl rfl (Nat.le_of_ble_eq_true rfl) (Nat.le_of_ble_eq_true rfl) (Nat.le_of_ble_eq_true rfl) ?_
  refine J_iconst (pc := 11) (v := (0)) X d_Mo_walk_11 (by decide) ?_
  obtain ⟨u4, eu4, hM⟩ := hb_some hM
  obtain ⟨q5, eq5, hM⟩ := hb_some hM
  refine J_callV (pc := 12) (As := [.int q3.1, .int 0]) (rest := []) (o := (some (.int q5.1))) (h2 := q5.2) X rfl hc_Mo eu4 (c_Mo_answer l D K F eq5) (cwV_of (nA := 2) X.fix k_593 k_595 k_596 k_515 k_594 ⟨rfl, rfl, rfl⟩ (by decide +kernel) ⟨Nat.le_of_ble_eq_true rfl, Nat.le_of_ble_eq_true rfl⟩) d_Mo_walk_12 rfl rfl (Nat.le_of_ble_eq_true rfl) (Nat.le_of_ble_eq_true rfl) (Nat.le_of_ble_eq_true rfl) ?_
  obtain rfl := Option.some.inj hM
  exact J_iret (pc := 15) X hr hlk (Nat.le_of_ble_eq_true rfl) (Nat.le_of_ble_eq_true rfl) d_Mo_walk_15
abbrev rm_Mo_ranRules : Room := { frames := 0, cells := 0, slots := 0, locals := 0 }
set_option maxHeartbeats 4000000 in
set_option maxRecDepth 100000 in
theorem c_Mo_ranRules (l : Launch) (D : va_G) (K : (Nat → Nat) × (Nat → Nat)) (F : Nat) {h : hH} {x0 : Nat} {q : (Int32 × hH)} (hM : M_Mo_ranRules F h x0 = some q) : Met l y_Mo_ranRules (.code y_Mo_ranRules prog_14_method_30_code 1 (some .int) :: T0) rm_Mo_ranRules (hPc hG D cls0 K [.ref x0] h) (hQ D cls0 h (some (.int q.1)) q.2) 0 0 (hF h) := by
  refine J_met (lv := [(0, .ref x0)]) (by decide) (Nat.le_of_ble_eq_true rfl) rfl ?_
  intro p e s m below meth c X hr hlk hnm
  have Y : HX p s m _ meth c prog_14_method_30_code 1 "LicenceTextsModel" D K "ranRules" (some .int) h := ⟨X, hr, hlk, hnm⟩
  unfold M_Mo_ranRules at hM
  refine J_aload_n (pc := 0) X 0 d_Mo_ranRules_0 rfl ?_
  obtain ⟨v1, ev1, hM⟩ := hb_some hM
  refine J_getI (pc := 1) X hc_Mo in_Mo 29 k_503 (by decide) rfl d_Mo_ranRules_1 rfl ev1 ?_
  refine J_if_ge (pc := 4) (tgt := 11) X d_Mo_ranRules_4 (by decide) (fun c2 => ?_) (fun c2 => ?_)
  · have hM := hif_t hM c2
    refine J_aload_n (pc := 11) X 0 d_Mo_ranRules_11 rfl ?_
    obtain ⟨v3, ev3, hM⟩ := hb_some hM
    refine J_getA (pc := 12) X hc_Mo in_Mo 13 k_491 (by decide) rfl d_Mo_ranRules_12 rfl ev3 ?_
    refine J_aload_n (pc := 15) X 0 d_Mo_ranRules_15 rfl ?_
    obtain ⟨v4, ev4, hM⟩ := hb_some hM
    refine J_getI (pc := 16) X hc_Mo in_Mo 29 k_503 (by decide) rfl d_Mo_ranRules_16 rfl ev4 ?_
    obtain ⟨v5, ev5, hM⟩ := hb_some hM
    refine J_iald (pc := 19) X d_Mo_ranRules_19 rfl ev5 ?_
    obtain rfl := Option.some.inj hM
    exact J_iret (pc := 20) X hr hlk (Nat.le_of_ble_eq_true rfl) (Nat.le_of_ble_eq_true rfl) d_Mo_ranRules_20
  · have hM := hif_f hM c2
    refine J_iconst (pc := 7) (v := (0)) X d_Mo_ranRules_7 (by decide) ?_
    refine J_goto (pc := 8) (tgt := 20) X d_Mo_ranRules_8 (by decide) ?_
    obtain rfl := Option.some.inj hM
    exact J_iret (pc := 20) X hr hlk (Nat.le_of_ble_eq_true rfl) (Nat.le_of_ble_eq_true rfl) d_Mo_ranRules_20
abbrev rm_Mo_withState : Room := { frames := 1, cells := 0, slots := 0, locals := 20 }
set_option maxHeartbeats 4000000 in
set_option maxRecDepth 100000 in
theorem w_Mo_withState_40 {p : Program} {l : Launch} {e : Env} {s : State} {m : MethodId} {args : Array Value} {below : List Frame} {meth : Method} {c : Code} {D : va_G} {K : (Nat → Nat) × (Nat → Nat)} {h0 : hH} (Y : HX p s m args meth c prog_14_method_31_code 5 "LicenceTextsModel" D K "withState" (some .int) h0) {F : Nat} {r5 : hH → Nat → Int32 → Int32 → Int32 → Int32 → Option (Int32 × hH)} (R5 : ∀ (h : hH) (x0 : Nat) (x1 : Int32) (x2 : Int32) (x3 : Int32) (x4 : Int32) (q : (Int32 × hH)), r5 h x0 x1 x2 x3 x4 = some q → J p l e rm_Mo_withState s m args below meth c 5 D cls0 (hF h0) h [(0, .ref x0), (1, .int x1), (2, .int x2), (3, .int x3), (4, .int x4)] 0 0 (MQ below (hQ D cls0 h0 (some (.int q.1)) q.2) args s 0 0 (hF h0)) 5 []) (h : hH) (x0 : Nat) (x1 : Int32) (x2 : Int32) (x3 : Int32) (x4 : Int32) (q : (Int32 × hH)) (hM : M_Mo_withState_40 F r5 h x0 x1 x2 x3 x4 = some q) : J p l e rm_Mo_withState s m args below meth c 5 D cls0 (hF h0) h [(0, .ref x0), (1, .int x1), (2, .int x2), (3, .int x3), (4, .int x4)] 0 0 (MQ below (hQ D cls0 h0 (some (.int q.1)) q.2) args s 0 0 (hF h0)) 40 [] := by
  obtain ⟨X, hr, hlk, hnm⟩ := id Y
  unfold M_Mo_withState_40 at hM
  refine J_iinc (pc := 40) (v := x4 + 1) (lv' := [(4, .int (x4 + 1)), (0, .ref x0), (1, .int x1), (2, .int x2), (3, .int x3)]) X 4 d_Mo_withState_40 rfl rfl (by decide) rfl ?_
  refine J_goto (pc := 43) (tgt := 5) X d_Mo_withState_43 (by decide) ?_
  refine J_sub [1, 2, 3, 4, 0] rfl ?_
  exact R5 _ _ _ _ _ _ _ hM
set_option maxHeartbeats 4000000 in
set_option maxRecDepth 100000 in
theorem b_Mo_withState_5 {p : Program} {l : Launch} {e : Env} {s : State} {m : MethodId} {args : Array Value} {below : List Frame} {meth : Method} {c : Code} {D : va_G} {K : (Nat → Nat) × (Nat → Nat)} {h0 : hH} (Y : HX p s m args meth c prog_14_method_31_code 5 "LicenceTextsModel" D K "withState" (some .int) h0) {F : Nat}   {r5 : hH → Nat → Int32 → Int32 → Int32 → Int32 → Option (Int32 × hH)} (R5 : ∀ (h : hH) (x0 : Nat) (x1 : Int32) (x2 : Int32) (x3 : Int32) (x4 : Int32) (q : (Int32 × hH)), r5 h x0 x1 x2 x3 x4 = some q → J p l e rm_Mo_withState s m args below meth c 5 D cls0 (hF h0) h [(0, .ref x0), (1, .int x1), (2, .int x2), (3, .int x3), (4, .int x4)] 0 0 (MQ below (hQ D cls0 h0 (some (.int q.1)) q.2) args s 0 0 (hF h0)) 5 []) : ∀ (h : hH) (x0 : Nat) (x1 : Int32) (x2 : Int32) (x3 : Int32) (x4 : Int32) (q : (Int32 × hH)), B_Mo_withState_5 F r5 h x0 x1 x2 x3 x4 = some q → J p l e rm_Mo_withState s m args below meth c 5 D cls0 (hF h0) h [(0, .ref x0), (1, .int x1), (2, .int x2), (3, .int x3), (4, .int x4)] 0 0 (MQ below (hQ D cls0 h0 (some (.int q.1)) q.2) args s 0 0 (hF h0)) 5 [] := by
  intro h x0 x1 x2 x3 x4 q hM
  obtain ⟨X, hr, hlk, hnm⟩ := id Y
  unfold B_Mo_withState_5 at hM
  refine J_iload (pc := 5) X 4 d_Mo_withState_5 rfl ?_
  refine J_aload_n (pc := 7) X 0 d_Mo_withState_7 rfl ?_
  obtain ⟨u1, eu1, hM⟩ := hb_some hM
  obtain ⟨q2, eq2, hM⟩ := hb_some hM
  refine J_callV (pc := 8) (As := []) (rest := [.int x4]) (o := (some (.int q2.1))) (h2 := q2.2) X rfl hc_Mo eu1 (c_Mo_ranRules l D K F eq2) (cwV_of (nA := 0) X.fix k_597 k_599 k_600 k_515 k_598 ⟨rfl, rfl, rfl⟩ (by decide +kernel) ⟨Nat.le_of_ble_eq_true rfl, Nat.le_of_ble_eq_true rfl⟩) d_Mo_withState_8 rfl rfl (Nat.le_of_ble_eq_true rfl) (Nat.le_of_ble_eq_true rfl) (Nat.le_of_ble_eq_true rfl) ?_
  refine J_icmp_ge (pc := 11) (tgt := 46) X d_Mo_withState_11 (by decide) (fun c3 => ?_) (fun c3 => ?_)
  · have hM := hif_t hM c3
    refine J_iconst (pc := 46) (v := (-1)) X d_Mo_withState_46 (by decide) ?_
    obtain rfl := Option.some.inj hM
    exact J_iret (pc := 47) X hr hlk (Nat.le_of_ble_eq_true rfl) (Nat.le_of_ble_eq_true rfl) d_Mo_withState_47
  · have hM := hif_f hM c3
    refine J_iload_n (pc := 14) X 1 d_Mo_withState_14 rfl ?_
    refine J_if_lt (pc := 15) (tgt := 46) X d_Mo_withState_15 (by decide) (fun c4 => ?_) (fun c4 => ?_)
    · have hM := hif_t hM c4
      refine J_iconst (pc := 46) (v := (-1)) X d_Mo_withState_46 (by decide) ?_
      obtain rfl := Option.some.inj hM
      exact J_iret (pc := 47) X hr hlk (Nat.le_of_ble_eq_true rfl) (Nat.le_of_ble_eq_true rfl) d_Mo_withState_47
    · have hM := hif_f hM c4
      refine J_aload_n (pc := 18) X 0 d_Mo_withState_18 rfl ?_
      obtain ⟨v5, ev5, hM⟩ := hb_some hM
      refine J_getA (pc := 19) X hc_Mo in_Mo 30 k_504 (by decide) rfl d_Mo_withState_19 rfl ev5 ?_
      refine J_iload (pc := 22) X 4 d_Mo_withState_22 rfl ?_
      obtain ⟨v6, ev6, hM⟩ := hb_some hM
      refine J_iald (pc := 24) X d_Mo_withState_24 rfl ev6 ?_
      refine J_iload_n (pc := 25) X 2 d_Mo_withState_25 rfl ?_
      refine J_icmp_ne (pc := 26) (tgt := 40) X d_Mo_withState_26 (by decide) (fun c7 => ?_) (fun c7 => ?_)
      · have hM := hif_f hM c7
        exact w_Mo_withState_40 Y R5 _ _ _ _ _ _ _ hM
      · have hM := hif_t hM c7
        refine J_iload_n (pc := 29) X 3 d_Mo_withState_29 rfl ?_
        refine J_iload_n (pc := 30) X 1 d_Mo_withState_30 rfl ?_
        refine J_icmp_ne (pc := 31) (tgt := 37) X d_Mo_withState_31 (by decide) (fun c8 => ?_) (fun c8 => ?_)
        · have hM := hif_f hM c8
          refine J_iinc (pc := 37) (v := x3 + 1) (lv' := [(3, .int (x3 + 1)), (0, .ref x0), (1, .int x1), (2, .int x2), (4, .int x4)]) X 3 d_Mo_withState_37 rfl rfl (by decide) rfl ?_
          refine J_sub [1, 2, 3, 0, 4] rfl ?_
          exact w_Mo_withState_40 Y R5 _ _ _ _ _ _ _ hM
        · have hM := hif_t hM c8
          refine J_iload (pc := 34) X 4 d_Mo_withState_34 rfl ?_
          obtain rfl := Option.some.inj hM
          exact J_iret (pc := 36) X hr hlk (Nat.le_of_ble_eq_true rfl) (Nat.le_of_ble_eq_true rfl) d_Mo_withState_36
theorem w_Mo_withState_5 {p : Program} {l : Launch} {e : Env} {s : State} {m : MethodId} {args : Array Value} {below : List Frame} {meth : Method} {c : Code} {D : va_G} {K : (Nat → Nat) × (Nat → Nat)} {h0 : hH} (Y : HX p s m args meth c prog_14_method_31_code 5 "LicenceTextsModel" D K "withState" (some .int) h0) {F : Nat} : ∀ z : Nat, ∀ (h : hH) (x0 : Nat) (x1 : Int32) (x2 : Int32) (x3 : Int32) (x4 : Int32) (q : (Int32 × hH)), M_Mo_withState_5 F z h x0 x1 x2 x3 x4 = some q → J p l e rm_Mo_withState s m args below meth c 5 D cls0 (hF h0) h [(0, .ref x0), (1, .int x1), (2, .int x2), (3, .int x3), (4, .int x4)] 0 0 (MQ below (hQ D cls0 h0 (some (.int q.1)) q.2) args s 0 0 (hF h0)) 5 [] := by
  intro z
  induction z with
  | zero => intro h x0 x1 x2 x3 x4 q hM; exact absurd (show (none : Option _) = some q from hM) (fun t => by cases t)
  | succ z ih => exact b_Mo_withState_5 Y ih
set_option maxHeartbeats 4000000 in
set_option maxRecDepth 100000 in
theorem c_Mo_withState (l : Launch) (D : va_G) (K : (Nat → Nat) × (Nat → Nat)) (F : Nat) {h : hH} {x0 : Nat} {x1 : Int32} {x2 : Int32} {q : (Int32 × hH)} (hM : M_Mo_withState F h x0 x1 x2 = some q) : Met l y_Mo_withState (.code y_Mo_withState prog_14_method_31_code 5 (some .int) :: T0) rm_Mo_withState (hPc hG D cls0 K [.ref x0, .int x1, .int x2] h) (hQ D cls0 h (some (.int q.1)) q.2) 0 0 (hF h) := by
  refine J_met (lv := [(0, .ref x0), (1, .int x1), (2, .int x2)]) (by decide) (Nat.le_of_ble_eq_true rfl) rfl ?_
  intro p e s m below meth c X hr hlk hnm
  have Y : HX p s m _ meth c prog_14_method_31_code 5 "LicenceTextsModel" D K "withState" (some .int) h := ⟨X, hr, hlk, hnm⟩
  unfold M_Mo_withState at hM
  refine J_iconst (pc := 0) (v := (0)) X d_Mo_withState_0 (by decide) ?_
  refine J_istore_n (pc := 1) (lv' := [(3, .int 0), (0, .ref x0), (1, .int x1), (2, .int x2)]) X d_Mo_withState_1 rfl (by decide) rfl ?_
  refine J_iconst (pc := 2) (v := (0)) X d_Mo_withState_2 (by decide) ?_
  refine J_istore (pc := 3) (lv' := [(4, .int 0), (3, .int 0), (0, .ref x0), (1, .int x1), (2, .int x2)]) X d_Mo_withState_3 (by decide) rfl ?_
  refine J_sub [2, 3, 4, 1, 0] rfl ?_
  exact w_Mo_withState_5 Y F _ _ _ _ _ _ _ hM
abbrev rm_Mo_broken : Room := { frames := 2, cells := 0, slots := 0, locals := 44 }
set_option maxHeartbeats 4000000 in
set_option maxRecDepth 100000 in
theorem c_Mo_broken (l : Launch) (D : va_G) (K : (Nat → Nat) × (Nat → Nat)) (F : Nat) {h : hH} {x0 : Nat} {x1 : Int32} {x2 : Int32} {q : (Int32 × hH)} (hM : M_Mo_broken F h x0 x1 x2 = some q) : Met l y_Mo_broken (.code y_Mo_broken prog_14_method_32_code 4 (some .int) :: T0) rm_Mo_broken (hPc hG D cls0 K [.ref x0, .int x1, .int x2] h) (hQ D cls0 h (some (.int q.1)) q.2) 0 0 (hF h) := by
  refine J_met (lv := [(0, .ref x0), (1, .int x1), (2, .int x2)]) (by decide) (Nat.le_of_ble_eq_true rfl) rfl ?_
  intro p e s m below meth c X hr hlk hnm
  have Y : HX p s m _ meth c prog_14_method_32_code 4 "LicenceTextsModel" D K "broken" (some .int) h := ⟨X, hr, hlk, hnm⟩
  unfold M_Mo_broken at hM
  refine J_aload_n (pc := 0) X 0 d_Mo_broken_0 rfl ?_
  refine J_iconst (pc := 1) (v := (0)) X d_Mo_broken_1 (by decide) ?_
  obtain ⟨h1, eh1, hM⟩ := hb_some hM
  refine J_put (pc := 2) X hc_Mo in_Mo t_Mo tk_Mo nk_Mo 0 k_510 (by decide) rfl rfl d_Mo_broken_2 rfl rfl rfl eh1 ?_
  refine J_aload_n (pc := 5) X 0 d_Mo_broken_5 rfl ?_
  refine J_iload_n (pc := 6) X 1 d_Mo_broken_6 rfl ?_
  refine J_iconst (pc := 7) (v := (1)) X d_Mo_broken_7 (by decide) ?_
  obtain ⟨u2, eu2, hM⟩ := hb_some hM
  obtain ⟨q3, eq3, hM⟩ := hb_some hM
  refine J_callV (pc := 8) (As := [.int x1, .int 1]) (rest := []) (o := (some (.int q3.1))) (h2 := q3.2) X rfl hc_Mo eu2 (c_Mo_withState l D K F eq3) (cwV_of (nA := 2) X.fix k_601 k_603 k_604 k_515 k_602 ⟨rfl, rfl, rfl⟩ (by decide +kernel) ⟨Nat.le_of_ble_eq_true rfl, Nat.le_of_ble_eq_true rfl⟩) d_Mo_broken_8 rfl rfl (Nat.le_of_ble_eq_true rfl) (Nat.le_of_ble_eq_true rfl) (Nat.le_of_ble_eq_true rfl) ?_
  refine J_istore_n (pc := 11) (lv' := [(3, .int q3.1), (0, .ref x0), (1, .int x1), (2, .int x2)]) X d_Mo_broken_11 rfl (by decide) rfl ?_
  refine J_iload_n (pc := 12) X 0 d_Mo_broken_12 rfl ?_
  refine J_if_lt (pc := 13) (tgt := 25) X d_Mo_broken_13 (by decide) (fun c4 => ?_) (fun c4 => ?_)
  · have hM := hif_t hM c4
    refine J_iconst (pc := 25) (v := (-1)) X d_Mo_broken_25 (by decide) ?_
    refine J_goto (pc := 26) (tgt := 51) X d_Mo_broken_26 (by decide) ?_
    obtain rfl := Option.some.inj hM
    exact J_iret (pc := 51) X hr hlk (Nat.le_of_ble_eq_true rfl) (Nat.le_of_ble_eq_true rfl) d_Mo_broken_51
  · have hM := hif_f hM c4
    refine J_iload_n (pc := 16) X 3 d_Mo_broken_16 rfl ?_
    refine J_if_lt (pc := 17) (tgt := 25) X d_Mo_broken_17 (by decide) (fun c5 => ?_) (fun c5 => ?_)
    · have hM := hif_t hM c5
      refine J_iconst (pc := 25) (v := (-1)) X d_Mo_broken_25 (by decide) ?_
      refine J_goto (pc := 26) (tgt := 51) X d_Mo_broken_26 (by decide) ?_
      obtain rfl := Option.some.inj hM
      exact J_iret (pc := 51) X hr hlk (Nat.le_of_ble_eq_true rfl) (Nat.le_of_ble_eq_true rfl) d_Mo_broken_51
    · have hM := hif_f hM c5
      refine J_iload_n (pc := 20) X 3 d_Mo_broken_20 rfl ?_
      refine J_iconst (pc := 21) (v := (1)) X d_Mo_broken_21 (by decide) ?_
      refine J_icmp_le (pc := 22) (tgt := 29) X d_Mo_broken_22 (by decide) (fun c6 => ?_) (fun c6 => ?_)
      · have hM := hif_t hM c6
        refine J_iload_n (pc := 29) X 3 d_Mo_broken_29 rfl ?_
        refine J_if_ne (pc := 30) (tgt := 37) X d_Mo_broken_30 (by decide) (fun c7 => ?_) (fun c7 => ?_)
        · have hM := hif_f hM c7
          refine J_aload_n (pc := 37) X 1 d_Mo_broken_37 rfl ?_
          obtain ⟨v8, ev8, hM⟩ := hb_some hM
          refine J_getA (pc := 38) X hc_Mo in_Mo 17 k_495 (by decide) rfl d_Mo_broken_38 rfl ev8 ?_
          refine J_bipush (pc := 41) (v := (12)) X d_Mo_broken_41 (by decide) ?_
          refine J_aload_n (pc := 43) X 1 d_Mo_broken_43 rfl ?_
          obtain ⟨v9, ev9, hM⟩ := hb_some hM
          refine J_getI (pc := 44) X hc_Mo in_Mo 29 k_503 (by decide) rfl d_Mo_broken_44 rfl ev9 ?_
          refine J_imul (pc := 47) X d_Mo_broken_47 ?_
          refine J_iload_n (pc := 48) X 0 d_Mo_broken_48 rfl ?_
          refine J_iadd (pc := 49) X d_Mo_broken_49 ?_
          obtain ⟨v10, ev10, hM⟩ := hb_some hM
          refine J_iald (pc := 50) X d_Mo_broken_50 rfl ev10 ?_
          obtain rfl := Option.some.inj hM
          exact J_iret (pc := 51) X hr hlk (Nat.le_of_ble_eq_true rfl) (Nat.le_of_ble_eq_true rfl) d_Mo_broken_51
        · have hM := hif_t hM c7
          refine J_iload_n (pc := 33) X 0 d_Mo_broken_33 rfl ?_
          refine J_goto (pc := 34) (tgt := 51) X d_Mo_broken_34 (by decide) ?_
          obtain rfl := Option.some.inj hM
          exact J_iret (pc := 51) X hr hlk (Nat.le_of_ble_eq_true rfl) (Nat.le_of_ble_eq_true rfl) d_Mo_broken_51
      · have hM := hif_f hM c6
        refine J_iconst (pc := 25) (v := (-1)) X d_Mo_broken_25 (by decide) ?_
        refine J_goto (pc := 26) (tgt := 51) X d_Mo_broken_26 (by decide) ?_
        obtain rfl := Option.some.inj hM
        exact J_iret (pc := 51) X hr hlk (Nat.le_of_ble_eq_true rfl) (Nat.le_of_ble_eq_true rfl) d_Mo_broken_51
abbrev rm_Mo_open : Room := { frames := 2, cells := 0, slots := 0, locals := 44 }
set_option maxHeartbeats 4000000 in
set_option maxRecDepth 100000 in
theorem c_Mo_open (l : Launch) (D : va_G) (K : (Nat → Nat) × (Nat → Nat)) (F : Nat) {h : hH} {x0 : Nat} {x1 : Int32} {x2 : Int32} {q : (Int32 × hH)} (hM : M_Mo_open F h x0 x1 x2 = some q) : Met l y_Mo_open (.code y_Mo_open prog_14_method_33_code 4 (some .int) :: T0) rm_Mo_open (hPc hG D cls0 K [.ref x0, .int x1, .int x2] h) (hQ D cls0 h (some (.int q.1)) q.2) 0 0 (hF h) := by
  refine J_met (lv := [(0, .ref x0), (1, .int x1), (2, .int x2)]) (by decide) (Nat.le_of_ble_eq_true rfl) rfl ?_
  intro p e s m below meth c X hr hlk hnm
  have Y : HX p s m _ meth c prog_14_method_33_code 4 "LicenceTextsModel" D K "open" (some .int) h := ⟨X, hr, hlk, hnm⟩
  unfold M_Mo_open at hM
  refine J_aload_n (pc := 0) X 0 d_Mo_open_0 rfl ?_
  refine J_iconst (pc := 1) (v := (0)) X d_Mo_open_1 (by decide) ?_
  obtain ⟨h1, eh1, hM⟩ := hb_some hM
  refine J_put (pc := 2) X hc_Mo in_Mo t_Mo tk_Mo nk_Mo 0 k_510 (by decide) rfl rfl d_Mo_open_2 rfl rfl rfl eh1 ?_
  refine J_aload_n (pc := 5) X 0 d_Mo_open_5 rfl ?_
  refine J_iload_n (pc := 6) X 1 d_Mo_open_6 rfl ?_
  refine J_iconst (pc := 7) (v := (2)) X d_Mo_open_7 (by decide) ?_
  obtain ⟨u2, eu2, hM⟩ := hb_some hM
  obtain ⟨q3, eq3, hM⟩ := hb_some hM
  refine J_callV (pc := 8) (As := [.int x1, .int 2]) (rest := []) (o := (some (.int q3.1))) (h2 := q3.2) X rfl hc_Mo eu2 (c_Mo_withState l D K F eq3) (cwV_of (nA := 2) X.fix k_601 k_603 k_604 k_515 k_602 ⟨rfl, rfl, rfl⟩ (by decide +kernel) ⟨Nat.le_of_ble_eq_true rfl, Nat.le_of_ble_eq_true rfl⟩) d_Mo_open_8 rfl rfl (Nat.le_of_ble_eq_true rfl) (Nat.le_of_ble_eq_true rfl) (Nat.le_of_ble_eq_true rfl) ?_
  refine J_istore_n (pc := 11) (lv' := [(3, .int q3.1), (0, .ref x0), (1, .int x1), (2, .int x2)]) X d_Mo_open_11 rfl (by decide) rfl ?_
  refine J_iload_n (pc := 12) X 0 d_Mo_open_12 rfl ?_
  refine J_if_lt (pc := 13) (tgt := 25) X d_Mo_open_13 (by decide) (fun c4 => ?_) (fun c4 => ?_)
  · have hM := hif_t hM c4
    refine J_iconst (pc := 25) (v := (-1)) X d_Mo_open_25 (by decide) ?_
    refine J_goto (pc := 26) (tgt := 57) X d_Mo_open_26 (by decide) ?_
    obtain rfl := Option.some.inj hM
    exact J_iret (pc := 57) X hr hlk (Nat.le_of_ble_eq_true rfl) (Nat.le_of_ble_eq_true rfl) d_Mo_open_57
  · have hM := hif_f hM c4
    refine J_iload_n (pc := 16) X 3 d_Mo_open_16 rfl ?_
    refine J_if_lt (pc := 17) (tgt := 25) X d_Mo_open_17 (by decide) (fun c5 => ?_) (fun c5 => ?_)
    · have hM := hif_t hM c5
      refine J_iconst (pc := 25) (v := (-1)) X d_Mo_open_25 (by decide) ?_
      refine J_goto (pc := 26) (tgt := 57) X d_Mo_open_26 (by decide) ?_
      obtain rfl := Option.some.inj hM
      exact J_iret (pc := 57) X hr hlk (Nat.le_of_ble_eq_true rfl) (Nat.le_of_ble_eq_true rfl) d_Mo_open_57
    · have hM := hif_f hM c5
      refine J_iload_n (pc := 20) X 3 d_Mo_open_20 rfl ?_
      refine J_iconst (pc := 21) (v := (2)) X d_Mo_open_21 (by decide) ?_
      refine J_icmp_le (pc := 22) (tgt := 29) X d_Mo_open_22 (by decide) (fun c6 => ?_) (fun c6 => ?_)
      · have hM := hif_t hM c6
        refine J_iload_n (pc := 29) X 3 d_Mo_open_29 rfl ?_
        refine J_if_ne (pc := 30) (tgt := 37) X d_Mo_open_30 (by decide) (fun c7 => ?_) (fun c7 => ?_)
        · have hM := hif_f hM c7
          refine J_iload_n (pc := 37) X 3 d_Mo_open_37 rfl ?_
          refine J_iconst (pc := 38) (v := (1)) X d_Mo_open_38 (by decide) ?_
          refine J_icmp_ne (pc := 39) (tgt := 51) X d_Mo_open_39 (by decide) (fun c8 => ?_) (fun c8 => ?_)
          · have hM := hif_f hM c8
            refine J_aload_n (pc := 51) X 1 d_Mo_open_51 rfl ?_
            obtain ⟨v9, ev9, hM⟩ := hb_some hM
            refine J_getA (pc := 52) X hc_Mo in_Mo 32 k_506 (by decide) rfl d_Mo_open_52 rfl ev9 ?_
            refine J_iload_n (pc := 55) X 0 d_Mo_open_55 rfl ?_
            obtain ⟨v10, ev10, hM⟩ := hb_some hM
            refine J_iald (pc := 56) X d_Mo_open_56 rfl ev10 ?_
            obtain rfl := Option.some.inj hM
            exact J_iret (pc := 57) X hr hlk (Nat.le_of_ble_eq_true rfl) (Nat.le_of_ble_eq_true rfl) d_Mo_open_57
          · have hM := hif_t hM c8
            refine J_aload_n (pc := 42) X 1 d_Mo_open_42 rfl ?_
            obtain ⟨v11, ev11, hM⟩ := hb_some hM
            refine J_getA (pc := 43) X hc_Mo in_Mo 31 k_505 (by decide) rfl d_Mo_open_43 rfl ev11 ?_
            refine J_iload_n (pc := 46) X 0 d_Mo_open_46 rfl ?_
            obtain ⟨v12, ev12, hM⟩ := hb_some hM
            refine J_iald (pc := 47) X d_Mo_open_47 rfl ev12 ?_
            refine J_goto (pc := 48) (tgt := 57) X d_Mo_open_48 (by decide) ?_
            obtain rfl := Option.some.inj hM
            exact J_iret (pc := 57) X hr hlk (Nat.le_of_ble_eq_true rfl) (Nat.le_of_ble_eq_true rfl) d_Mo_open_57
        · have hM := hif_t hM c7
          refine J_iload_n (pc := 33) X 0 d_Mo_open_33 rfl ?_
          refine J_goto (pc := 34) (tgt := 57) X d_Mo_open_34 (by decide) ?_
          obtain rfl := Option.some.inj hM
          exact J_iret (pc := 57) X hr hlk (Nat.le_of_ble_eq_true rfl) (Nat.le_of_ble_eq_true rfl) d_Mo_open_57
      · have hM := hif_f hM c6
        refine J_iconst (pc := 25) (v := (-1)) X d_Mo_open_25 (by decide) ?_
        refine J_goto (pc := 26) (tgt := 57) X d_Mo_open_26 (by decide) ?_
        obtain rfl := Option.some.inj hM
        exact J_iret (pc := 57) X hr hlk (Nat.le_of_ble_eq_true rfl) (Nat.le_of_ble_eq_true rfl) d_Mo_open_57
abbrev rm_Mo_explain : Room := { frames := 1, cells := 0, slots := 0, locals := 20 }
set_option maxHeartbeats 4000000 in
set_option maxRecDepth 100000 in
theorem c_Mo_explain (l : Launch) (D : va_G) (K : (Nat → Nat) × (Nat → Nat)) (F : Nat) {h : hH} {x0 : Nat} {x1 : Int32} {q : (Int32 × hH)} (hM : M_Mo_explain F h x0 x1 = some q) : Met l y_Mo_explain (.code y_Mo_explain prog_14_method_34_code 2 (some .int) :: T0) rm_Mo_explain (hPc hG D cls0 K [.ref x0, .int x1] h) (hQ D cls0 h (some (.int q.1)) q.2) 0 0 (hF h) := by
  refine J_met (lv := [(0, .ref x0), (1, .int x1)]) (by decide) (Nat.le_of_ble_eq_true rfl) rfl ?_
  intro p e s m below meth c X hr hlk hnm
  have Y : HX p s m _ meth c prog_14_method_34_code 2 "LicenceTextsModel" D K "explain" (some .int) h := ⟨X, hr, hlk, hnm⟩
  unfold M_Mo_explain at hM
  refine J_aload_n (pc := 0) X 0 d_Mo_explain_0 rfl ?_
  refine J_iconst (pc := 1) (v := (0)) X d_Mo_explain_1 (by decide) ?_
  obtain ⟨h1, eh1, hM⟩ := hb_some hM
  refine J_put (pc := 2) X hc_Mo in_Mo t_Mo tk_Mo nk_Mo 0 k_510 (by decide) rfl rfl d_Mo_explain_2 rfl rfl rfl eh1 ?_
  refine J_iload_n (pc := 5) X 1 d_Mo_explain_5 rfl ?_
  refine J_if_lt (pc := 6) (tgt := 17) X d_Mo_explain_6 (by decide) (fun c2 => ?_) (fun c2 => ?_)
  · have hM := hif_t hM c2
    refine J_iconst (pc := 17) (v := (-1)) X d_Mo_explain_17 (by decide) ?_
    refine J_goto (pc := 18) (tgt := 27) X d_Mo_explain_18 (by decide) ?_
    obtain rfl := Option.some.inj hM
    exact J_iret (pc := 27) X hr hlk (Nat.le_of_ble_eq_true rfl) (Nat.le_of_ble_eq_true rfl) d_Mo_explain_27
  · have hM := hif_f hM c2
    refine J_iload_n (pc := 9) X 1 d_Mo_explain_9 rfl ?_
    refine J_aload_n (pc := 10) X 0 d_Mo_explain_10 rfl ?_
    obtain ⟨u3, eu3, hM⟩ := hb_some hM
    obtain ⟨q4, eq4, hM⟩ := hb_some hM
    refine J_callV (pc := 11) (As := []) (rest := [.int x1]) (o := (some (.int q4.1))) (h2 := q4.2) X rfl hc_Mo eu3 (c_Mo_ranRules l D K F eq4) (cwV_of (nA := 0) X.fix k_597 k_599 k_600 k_515 k_598 ⟨rfl, rfl, rfl⟩ (by decide +kernel) ⟨Nat.le_of_ble_eq_true rfl, Nat.le_of_ble_eq_true rfl⟩) d_Mo_explain_11 rfl rfl (Nat.le_of_ble_eq_true rfl) (Nat.le_of_ble_eq_true rfl) (Nat.le_of_ble_eq_true rfl) ?_
    refine J_icmp_lt (pc := 14) (tgt := 21) X d_Mo_explain_14 (by decide) (fun c5 => ?_) (fun c5 => ?_)
    · have hM := hif_t hM c5
      refine J_aload_n (pc := 21) X 0 d_Mo_explain_21 rfl ?_
      obtain ⟨v6, ev6, hM⟩ := hb_some hM
      refine J_getA (pc := 22) X hc_Mo in_Mo 30 k_504 (by decide) rfl d_Mo_explain_22 rfl ev6 ?_
      refine J_iload_n (pc := 25) X 1 d_Mo_explain_25 rfl ?_
      obtain ⟨v7, ev7, hM⟩ := hb_some hM
      refine J_iald (pc := 26) X d_Mo_explain_26 rfl ev7 ?_
      obtain rfl := Option.some.inj hM
      exact J_iret (pc := 27) X hr hlk (Nat.le_of_ble_eq_true rfl) (Nat.le_of_ble_eq_true rfl) d_Mo_explain_27
    · have hM := hif_f hM c5
      refine J_iconst (pc := 17) (v := (-1)) X d_Mo_explain_17 (by decide) ?_
      refine J_goto (pc := 18) (tgt := 27) X d_Mo_explain_18 (by decide) ?_
      obtain rfl := Option.some.inj hM
      exact J_iret (pc := 27) X hr hlk (Nat.le_of_ble_eq_true rfl) (Nat.le_of_ble_eq_true rfl) d_Mo_explain_27
