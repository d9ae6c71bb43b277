/-! THE CLAIM OUT OF ONE WALK OF THE LAW'S BODY. Your part is whole_start (and what it stands on); all else here is the same for every law, but numbers. -/
def R_law : String := "LicenceTextsLaw"
def lw_P (b : Addr) (xs : List Int32) (args : Array Value) (s : State) : Prop := args = #[.ref b] ∧ s.IntsAt b xs ∧ xs.length ≤ 2560 ∧ (Jvm.Cond.and given_1 narrow_1).before args s = true
def lw_Q (_ : Array Value) (s : State) (o : Outcome) (t : State) : Prop := o = .returned (some (.int 1)) ∧ Framed s o t [] 601024 7293034
def lw_Z (below : List Frame) (a : Array Value) (s : State) : State → Prop := fun t => ∃ o, t.status = .running ∧ Ended t below o ∧ lw_Q a s o t
/-- the law's own end, with 1 on the stack, nothing written that was there before, its room as the claim has it -/
theorem lw_ret {p : Program} {l : Launch} {e : Env} {s : State} {m : MethodId} {below : List Frame} {meth : Method} {c : Code} {b : Nat} (hx : p.tables.exec = Jvm.exec) (hb : c.code = code) (hr : meth.sig.returnType = ret) (hlocks : meth.locks = false) {pc : Nat} {H : Heap} {ls : Array Slot} (hdg : decode code pc = .ok (.ireturn, 1)) : W p l e room_1 s m #[Value.ref b] below meth c H [] 601024 7293034 (lw_Z below #[Value.ref b] s) (F0 m pc ls [.int 1]) := by
  intro T hT X
  obtain ⟨fs, hret, hrun, hended, hW, hframe⟩ := X.leave (v := some (.int 1)) (hlocks := hlocks) (fun h => by rw [hr] at h; cases h)
  have hmeth' : T.vm.method? m = some meth := X.method'
  refine ⟨T.setFrames fs, ?_, .returned (some (.int 1)), hrun, hended, rfl, ⟨_, rfl⟩, hW, hframe⟩
  jvm_step X.here [X.here.top, hx, hb, hdg, hmeth', hr, ret, narrow_b1]
  (try refine ⟨rfl, ?_⟩); (try refine ⟨rfl, ?_⟩)
  first | (intro acts; rw [hret _ acts rfl rfl rfl]) | rw [hret _ _ rfl rfl rfl]
  exact Steps.refl _
/-- what holds at the law's entry: the machine, the code, the tables' words (any of lw_tbl by 'hts w (by decide +kernel)'), the script of L ints xs at the cell b, what the Statement gives of the start (any of its parts by flat_of_before) -/
def lw_At (p : Program) (s : State) (m : MethodId) (meth : Method) (c : Code) (b L : Nat) (xs : Nat → Int32) : Prop :=
  p.tables.exec = Jvm.exec ∧ c.code = code ∧ meth.sig.returnType = ret ∧ c.maxLocals = 7 ∧ s.vm.findClass R_law = some m.cls ∧ (∀ w ∈ lw_tbl, w.before #[Value.ref b] s = true) ∧ va_X b L xs s s.heap ∧ b < s.heap.size ∧ meth.locks = false ∧ (Jvm.Cond.and given_1 narrow_1).before #[Value.ref b] s = true

theorem dw_0 : decode code 0 = .ok (.new 8, 3) := by decide +kernel
theorem dw_3 : decode code 3 = .ok (.dup, 1) := by decide +kernel
theorem dw_4 : decode code 4 = .ok (.invokespecial 15, 3) := by decide +kernel
theorem dw_7 : decode code 7 = .ok (.astore_n 1, 1) := by decide +kernel
theorem dw_8 : decode code 8 = .ok (.new 16, 3) := by decide +kernel
theorem dw_11 : decode code 11 = .ok (.dup, 1) := by decide +kernel
theorem dw_12 : decode code 12 = .ok (.invokespecial 18, 3) := by decide +kernel
theorem dw_15 : decode code 15 = .ok (.astore_n 2, 1) := by decide +kernel
theorem dw_16 : decode code 16 = .ok (.iconst 1, 1) := by decide +kernel
theorem dw_17 : decode code 17 = .ok (.newarray .long, 2) := by decide +kernel
theorem dw_19 : decode code 19 = .ok (.astore_n 3, 1) := by decide +kernel
theorem dw_20 : decode code 20 = .ok (.iconst 0, 1) := by decide +kernel
theorem dw_21 : decode code 21 = .ok (.istore 4, 2) := by decide +kernel
theorem dw_23 : decode code 23 = .ok (.iload 4, 2) := by decide +kernel
theorem dw_25 : decode code 25 = .ok (.aload_n 0, 1) := by decide +kernel
theorem dw_26 : decode code 26 = .ok (.arraylength, 1) := by decide +kernel
theorem dw_27 : decode code 27 = .ok (.iconst 5, 1) := by decide +kernel
theorem dw_28 : decode code 28 = .ok (.isub, 1) := by decide +kernel
theorem dw_29 : decode code 29 = .ok (.if_icmp .gt 709, 3) := by decide +kernel
theorem dw_32 : decode code 32 = .ok (.aload_n 0, 1) := by decide +kernel
theorem dw_33 : decode code 33 = .ok (.iload 4, 2) := by decide +kernel
theorem dw_35 : decode code 35 = .ok (.iaload, 1) := by decide +kernel
theorem dw_36 : decode code 36 = .ok (.bipush 15, 2) := by decide +kernel
theorem dw_38 : decode code 38 = .ok (.iand, 1) := by decide +kernel
theorem dw_39 : decode code 39 = .ok (.tableswitch 693 0 15 #[77, 102, 127, 140, 209, 222, 247, 272, 309, 346, 371, 451, 500, 537, 562, 643], 77) := by decide +kernel
theorem dw_116 : decode code 116 = .ok (.aload_n 1, 1) := by decide +kernel
theorem dw_117 : decode code 117 = .ok (.aload_n 0, 1) := by decide +kernel
theorem dw_118 : decode code 118 = .ok (.iload 4, 2) := by decide +kernel
theorem dw_120 : decode code 120 = .ok (.iconst 1, 1) := by decide +kernel
theorem dw_121 : decode code 121 = .ok (.iadd, 1) := by decide +kernel
theorem dw_122 : decode code 122 = .ok (.iaload, 1) := by decide +kernel
theorem dw_123 : decode code 123 = .ok (.invokevirtual 19, 3) := by decide +kernel
theorem dw_126 : decode code 126 = .ok (.aload_n 2, 1) := by decide +kernel
theorem dw_127 : decode code 127 = .ok (.aload_n 0, 1) := by decide +kernel
theorem dw_128 : decode code 128 = .ok (.iload 4, 2) := by decide +kernel
theorem dw_130 : decode code 130 = .ok (.iconst 1, 1) := by decide +kernel
theorem dw_131 : decode code 131 = .ok (.iadd, 1) := by decide +kernel
theorem dw_132 : decode code 132 = .ok (.iaload, 1) := by decide +kernel
theorem dw_133 : decode code 133 = .ok (.invokevirtual 23, 3) := by decide +kernel
theorem dw_136 : decode code 136 = .ok (.if_icmp .eq 596, 3) := by decide +kernel
theorem dw_139 : decode code 139 = .ok (.iconst 0, 1) := by decide +kernel
theorem dw_140 : decode code 140 = .ok (.ireturn, 1) := by decide +kernel
theorem dw_141 : decode code 141 = .ok (.aload_n 1, 1) := by decide +kernel
theorem dw_142 : decode code 142 = .ok (.aload_n 0, 1) := by decide +kernel
theorem dw_143 : decode code 143 = .ok (.iload 4, 2) := by decide +kernel
theorem dw_145 : decode code 145 = .ok (.iconst 1, 1) := by decide +kernel
theorem dw_146 : decode code 146 = .ok (.iadd, 1) := by decide +kernel
theorem dw_147 : decode code 147 = .ok (.iaload, 1) := by decide +kernel
theorem dw_148 : decode code 148 = .ok (.invokevirtual 24, 3) := by decide +kernel
theorem dw_151 : decode code 151 = .ok (.aload_n 2, 1) := by decide +kernel
theorem dw_152 : decode code 152 = .ok (.aload_n 0, 1) := by decide +kernel
theorem dw_153 : decode code 153 = .ok (.iload 4, 2) := by decide +kernel
theorem dw_155 : decode code 155 = .ok (.iconst 1, 1) := by decide +kernel
theorem dw_156 : decode code 156 = .ok (.iadd, 1) := by decide +kernel
theorem dw_157 : decode code 157 = .ok (.iaload, 1) := by decide +kernel
theorem dw_158 : decode code 158 = .ok (.invokevirtual 28, 3) := by decide +kernel
theorem dw_161 : decode code 161 = .ok (.if_icmp .eq 571, 3) := by decide +kernel
theorem dw_164 : decode code 164 = .ok (.iconst 0, 1) := by decide +kernel
theorem dw_165 : decode code 165 = .ok (.ireturn, 1) := by decide +kernel
theorem dw_166 : decode code 166 = .ok (.aload_n 1, 1) := by decide +kernel
theorem dw_167 : decode code 167 = .ok (.invokevirtual 29, 3) := by decide +kernel
theorem dw_170 : decode code 170 = .ok (.aload_n 2, 1) := by decide +kernel
theorem dw_171 : decode code 171 = .ok (.invokevirtual 33, 3) := by decide +kernel
theorem dw_174 : decode code 174 = .ok (.if_icmp .eq 558, 3) := by decide +kernel
theorem dw_177 : decode code 177 = .ok (.iconst 0, 1) := by decide +kernel
theorem dw_178 : decode code 178 = .ok (.ireturn, 1) := by decide +kernel
theorem dw_179 : decode code 179 = .ok (.aload_n 1, 1) := by decide +kernel
theorem dw_180 : decode code 180 = .ok (.aload_n 0, 1) := by decide +kernel
theorem dw_181 : decode code 181 = .ok (.iload 4, 2) := by decide +kernel
theorem dw_183 : decode code 183 = .ok (.iconst 1, 1) := by decide +kernel
theorem dw_184 : decode code 184 = .ok (.iadd, 1) := by decide +kernel
theorem dw_185 : decode code 185 = .ok (.iaload, 1) := by decide +kernel
theorem dw_186 : decode code 186 = .ok (.aload_n 0, 1) := by decide +kernel
theorem dw_187 : decode code 187 = .ok (.iload 4, 2) := by decide +kernel
theorem dw_189 : decode code 189 = .ok (.iconst 2, 1) := by decide +kernel
theorem dw_190 : decode code 190 = .ok (.iadd, 1) := by decide +kernel
theorem dw_191 : decode code 191 = .ok (.iaload, 1) := by decide +kernel
theorem dw_192 : decode code 192 = .ok (.i2l, 1) := by decide +kernel
theorem dw_193 : decode code 193 = .ok (.bipush 32, 2) := by decide +kernel
theorem dw_195 : decode code 195 = .ok (.lshl, 1) := by decide +kernel
theorem dw_196 : decode code 196 = .ok (.aload_n 0, 1) := by decide +kernel
theorem dw_197 : decode code 197 = .ok (.iload 4, 2) := by decide +kernel
theorem dw_199 : decode code 199 = .ok (.iconst 3, 1) := by decide +kernel
theorem dw_200 : decode code 200 = .ok (.iadd, 1) := by decide +kernel
theorem dw_201 : decode code 201 = .ok (.iaload, 1) := by decide +kernel
theorem dw_202 : decode code 202 = .ok (.i2l, 1) := by decide +kernel
theorem dw_203 : decode code 203 = .ok (.ldc2_w 34, 3) := by decide +kernel
theorem dw_206 : decode code 206 = .ok (.land, 1) := by decide +kernel
theorem dw_207 : decode code 207 = .ok (.lor, 1) := by decide +kernel
theorem dw_208 : decode code 208 = .ok (.invokevirtual 36, 3) := by decide +kernel
theorem dw_211 : decode code 211 = .ok (.aload_n 2, 1) := by decide +kernel
theorem dw_212 : decode code 212 = .ok (.aload_n 0, 1) := by decide +kernel
theorem dw_213 : decode code 213 = .ok (.iload 4, 2) := by decide +kernel
theorem dw_215 : decode code 215 = .ok (.iconst 1, 1) := by decide +kernel
theorem dw_216 : decode code 216 = .ok (.iadd, 1) := by decide +kernel
theorem dw_217 : decode code 217 = .ok (.iaload, 1) := by decide +kernel
theorem dw_218 : decode code 218 = .ok (.aload_n 0, 1) := by decide +kernel
theorem dw_219 : decode code 219 = .ok (.iload 4, 2) := by decide +kernel
theorem dw_221 : decode code 221 = .ok (.iconst 2, 1) := by decide +kernel
theorem dw_222 : decode code 222 = .ok (.iadd, 1) := by decide +kernel
theorem dw_223 : decode code 223 = .ok (.iaload, 1) := by decide +kernel
theorem dw_224 : decode code 224 = .ok (.i2l, 1) := by decide +kernel
theorem dw_225 : decode code 225 = .ok (.bipush 32, 2) := by decide +kernel
theorem dw_227 : decode code 227 = .ok (.lshl, 1) := by decide +kernel
theorem dw_228 : decode code 228 = .ok (.aload_n 0, 1) := by decide +kernel
theorem dw_229 : decode code 229 = .ok (.iload 4, 2) := by decide +kernel
theorem dw_231 : decode code 231 = .ok (.iconst 3, 1) := by decide +kernel
theorem dw_232 : decode code 232 = .ok (.iadd, 1) := by decide +kernel
theorem dw_233 : decode code 233 = .ok (.iaload, 1) := by decide +kernel
theorem dw_234 : decode code 234 = .ok (.i2l, 1) := by decide +kernel
theorem dw_235 : decode code 235 = .ok (.ldc2_w 34, 3) := by decide +kernel
theorem dw_238 : decode code 238 = .ok (.land, 1) := by decide +kernel
theorem dw_239 : decode code 239 = .ok (.lor, 1) := by decide +kernel
theorem dw_240 : decode code 240 = .ok (.invokevirtual 40, 3) := by decide +kernel
theorem dw_243 : decode code 243 = .ok (.if_icmp .eq 489, 3) := by decide +kernel
theorem dw_246 : decode code 246 = .ok (.iconst 0, 1) := by decide +kernel
theorem dw_247 : decode code 247 = .ok (.ireturn, 1) := by decide +kernel
theorem dw_248 : decode code 248 = .ok (.aload_n 1, 1) := by decide +kernel
theorem dw_249 : decode code 249 = .ok (.invokevirtual 41, 3) := by decide +kernel
theorem dw_252 : decode code 252 = .ok (.aload_n 2, 1) := by decide +kernel
theorem dw_253 : decode code 253 = .ok (.invokevirtual 44, 3) := by decide +kernel
theorem dw_256 : decode code 256 = .ok (.if_icmp .eq 476, 3) := by decide +kernel
theorem dw_259 : decode code 259 = .ok (.iconst 0, 1) := by decide +kernel
theorem dw_260 : decode code 260 = .ok (.ireturn, 1) := by decide +kernel
theorem dw_261 : decode code 261 = .ok (.aload_n 1, 1) := by decide +kernel
theorem dw_262 : decode code 262 = .ok (.aload_n 0, 1) := by decide +kernel
theorem dw_263 : decode code 263 = .ok (.iload 4, 2) := by decide +kernel
theorem dw_265 : decode code 265 = .ok (.iconst 1, 1) := by decide +kernel
theorem dw_266 : decode code 266 = .ok (.iadd, 1) := by decide +kernel
theorem dw_267 : decode code 267 = .ok (.iaload, 1) := by decide +kernel
theorem dw_268 : decode code 268 = .ok (.invokevirtual 45, 3) := by decide +kernel
theorem dw_271 : decode code 271 = .ok (.aload_n 2, 1) := by decide +kernel
theorem dw_272 : decode code 272 = .ok (.aload_n 0, 1) := by decide +kernel
theorem dw_273 : decode code 273 = .ok (.iload 4, 2) := by decide +kernel
theorem dw_275 : decode code 275 = .ok (.iconst 1, 1) := by decide +kernel
theorem dw_276 : decode code 276 = .ok (.iadd, 1) := by decide +kernel
theorem dw_277 : decode code 277 = .ok (.iaload, 1) := by decide +kernel
theorem dw_278 : decode code 278 = .ok (.invokevirtual 48, 3) := by decide +kernel
theorem dw_281 : decode code 281 = .ok (.if_icmp .eq 451, 3) := by decide +kernel
theorem dw_284 : decode code 284 = .ok (.iconst 0, 1) := by decide +kernel
theorem dw_285 : decode code 285 = .ok (.ireturn, 1) := by decide +kernel
theorem dw_286 : decode code 286 = .ok (.aload_n 1, 1) := by decide +kernel
theorem dw_287 : decode code 287 = .ok (.aload_n 0, 1) := by decide +kernel
theorem dw_288 : decode code 288 = .ok (.iload 4, 2) := by decide +kernel
theorem dw_290 : decode code 290 = .ok (.iconst 1, 1) := by decide +kernel
theorem dw_291 : decode code 291 = .ok (.iadd, 1) := by decide +kernel
theorem dw_292 : decode code 292 = .ok (.iaload, 1) := by decide +kernel
theorem dw_293 : decode code 293 = .ok (.invokevirtual 49, 3) := by decide +kernel
theorem dw_296 : decode code 296 = .ok (.aload_n 2, 1) := by decide +kernel
theorem dw_297 : decode code 297 = .ok (.aload_n 0, 1) := by decide +kernel
theorem dw_298 : decode code 298 = .ok (.iload 4, 2) := by decide +kernel
theorem dw_300 : decode code 300 = .ok (.iconst 1, 1) := by decide +kernel
theorem dw_301 : decode code 301 = .ok (.iadd, 1) := by decide +kernel
theorem dw_302 : decode code 302 = .ok (.iaload, 1) := by decide +kernel
theorem dw_303 : decode code 303 = .ok (.invokevirtual 52, 3) := by decide +kernel
theorem dw_306 : decode code 306 = .ok (.if_icmp .eq 426, 3) := by decide +kernel
theorem dw_309 : decode code 309 = .ok (.iconst 0, 1) := by decide +kernel
theorem dw_310 : decode code 310 = .ok (.ireturn, 1) := by decide +kernel
theorem dw_311 : decode code 311 = .ok (.aload_n 1, 1) := by decide +kernel
theorem dw_312 : decode code 312 = .ok (.aload_n 0, 1) := by decide +kernel
theorem dw_313 : decode code 313 = .ok (.iload 4, 2) := by decide +kernel
theorem dw_315 : decode code 315 = .ok (.iconst 1, 1) := by decide +kernel
theorem dw_316 : decode code 316 = .ok (.iadd, 1) := by decide +kernel
theorem dw_317 : decode code 317 = .ok (.iaload, 1) := by decide +kernel
theorem dw_318 : decode code 318 = .ok (.aload_n 0, 1) := by decide +kernel
theorem dw_319 : decode code 319 = .ok (.iload 4, 2) := by decide +kernel
theorem dw_321 : decode code 321 = .ok (.iconst 2, 1) := by decide +kernel
theorem dw_322 : decode code 322 = .ok (.iadd, 1) := by decide +kernel
theorem dw_323 : decode code 323 = .ok (.iaload, 1) := by decide +kernel
theorem dw_324 : decode code 324 = .ok (.invokevirtual 53, 3) := by decide +kernel
theorem dw_327 : decode code 327 = .ok (.aload_n 2, 1) := by decide +kernel
theorem dw_328 : decode code 328 = .ok (.aload_n 0, 1) := by decide +kernel
theorem dw_329 : decode code 329 = .ok (.iload 4, 2) := by decide +kernel
theorem dw_331 : decode code 331 = .ok (.iconst 1, 1) := by decide +kernel
theorem dw_332 : decode code 332 = .ok (.iadd, 1) := by decide +kernel
theorem dw_333 : decode code 333 = .ok (.iaload, 1) := by decide +kernel
theorem dw_334 : decode code 334 = .ok (.aload_n 0, 1) := by decide +kernel
theorem dw_335 : decode code 335 = .ok (.iload 4, 2) := by decide +kernel
theorem dw_337 : decode code 337 = .ok (.iconst 2, 1) := by decide +kernel
theorem dw_338 : decode code 338 = .ok (.iadd, 1) := by decide +kernel
theorem dw_339 : decode code 339 = .ok (.iaload, 1) := by decide +kernel
theorem dw_340 : decode code 340 = .ok (.invokevirtual 57, 3) := by decide +kernel
theorem dw_343 : decode code 343 = .ok (.if_icmp .eq 389, 3) := by decide +kernel
theorem dw_346 : decode code 346 = .ok (.iconst 0, 1) := by decide +kernel
theorem dw_347 : decode code 347 = .ok (.ireturn, 1) := by decide +kernel
theorem dw_348 : decode code 348 = .ok (.aload_n 1, 1) := by decide +kernel
theorem dw_349 : decode code 349 = .ok (.aload_n 0, 1) := by decide +kernel
theorem dw_350 : decode code 350 = .ok (.iload 4, 2) := by decide +kernel
theorem dw_352 : decode code 352 = .ok (.iconst 1, 1) := by decide +kernel
theorem dw_353 : decode code 353 = .ok (.iadd, 1) := by decide +kernel
theorem dw_354 : decode code 354 = .ok (.iaload, 1) := by decide +kernel
theorem dw_355 : decode code 355 = .ok (.aload_n 0, 1) := by decide +kernel
theorem dw_356 : decode code 356 = .ok (.iload 4, 2) := by decide +kernel
theorem dw_358 : decode code 358 = .ok (.iconst 2, 1) := by decide +kernel
theorem dw_359 : decode code 359 = .ok (.iadd, 1) := by decide +kernel
theorem dw_360 : decode code 360 = .ok (.iaload, 1) := by decide +kernel
theorem dw_361 : decode code 361 = .ok (.invokevirtual 58, 3) := by decide +kernel
theorem dw_364 : decode code 364 = .ok (.aload_n 2, 1) := by decide +kernel
theorem dw_365 : decode code 365 = .ok (.aload_n 0, 1) := by decide +kernel
theorem dw_366 : decode code 366 = .ok (.iload 4, 2) := by decide +kernel
theorem dw_368 : decode code 368 = .ok (.iconst 1, 1) := by decide +kernel
theorem dw_369 : decode code 369 = .ok (.iadd, 1) := by decide +kernel
theorem dw_370 : decode code 370 = .ok (.iaload, 1) := by decide +kernel
theorem dw_371 : decode code 371 = .ok (.aload_n 0, 1) := by decide +kernel
theorem dw_372 : decode code 372 = .ok (.iload 4, 2) := by decide +kernel
theorem dw_374 : decode code 374 = .ok (.iconst 2, 1) := by decide +kernel
theorem dw_375 : decode code 375 = .ok (.iadd, 1) := by decide +kernel
theorem dw_376 : decode code 376 = .ok (.iaload, 1) := by decide +kernel
theorem dw_377 : decode code 377 = .ok (.invokevirtual 61, 3) := by decide +kernel
theorem dw_380 : decode code 380 = .ok (.if_icmp .eq 352, 3) := by decide +kernel
theorem dw_383 : decode code 383 = .ok (.iconst 0, 1) := by decide +kernel
theorem dw_384 : decode code 384 = .ok (.ireturn, 1) := by decide +kernel
theorem dw_385 : decode code 385 = .ok (.aload_n 1, 1) := by decide +kernel
theorem dw_386 : decode code 386 = .ok (.aload_n 0, 1) := by decide +kernel
theorem dw_387 : decode code 387 = .ok (.iload 4, 2) := by decide +kernel
theorem dw_389 : decode code 389 = .ok (.iconst 1, 1) := by decide +kernel
theorem dw_390 : decode code 390 = .ok (.iadd, 1) := by decide +kernel
theorem dw_391 : decode code 391 = .ok (.iaload, 1) := by decide +kernel
theorem dw_392 : decode code 392 = .ok (.invokevirtual 62, 3) := by decide +kernel
theorem dw_395 : decode code 395 = .ok (.aload_n 2, 1) := by decide +kernel
theorem dw_396 : decode code 396 = .ok (.aload_n 0, 1) := by decide +kernel
theorem dw_397 : decode code 397 = .ok (.iload 4, 2) := by decide +kernel
theorem dw_399 : decode code 399 = .ok (.iconst 1, 1) := by decide +kernel
theorem dw_400 : decode code 400 = .ok (.iadd, 1) := by decide +kernel
theorem dw_401 : decode code 401 = .ok (.iaload, 1) := by decide +kernel
theorem dw_402 : decode code 402 = .ok (.invokevirtual 65, 3) := by decide +kernel
theorem dw_405 : decode code 405 = .ok (.if_icmp .eq 327, 3) := by decide +kernel
theorem dw_408 : decode code 408 = .ok (.iconst 0, 1) := by decide +kernel
theorem dw_409 : decode code 409 = .ok (.ireturn, 1) := by decide +kernel
theorem dw_410 : decode code 410 = .ok (.aload_n 1, 1) := by decide +kernel
theorem dw_411 : decode code 411 = .ok (.aload_n 0, 1) := by decide +kernel
theorem dw_412 : decode code 412 = .ok (.iload 4, 2) := by decide +kernel
theorem dw_414 : decode code 414 = .ok (.iconst 1, 1) := by decide +kernel
theorem dw_415 : decode code 415 = .ok (.iadd, 1) := by decide +kernel
theorem dw_416 : decode code 416 = .ok (.iaload, 1) := by decide +kernel
theorem dw_417 : decode code 417 = .ok (.aload_n 0, 1) := by decide +kernel
theorem dw_418 : decode code 418 = .ok (.iload 4, 2) := by decide +kernel
theorem dw_420 : decode code 420 = .ok (.iconst 2, 1) := by decide +kernel
theorem dw_421 : decode code 421 = .ok (.iadd, 1) := by decide +kernel
theorem dw_422 : decode code 422 = .ok (.iaload, 1) := by decide +kernel
theorem dw_423 : decode code 423 = .ok (.aload_n 0, 1) := by decide +kernel
theorem dw_424 : decode code 424 = .ok (.iload 4, 2) := by decide +kernel
theorem dw_426 : decode code 426 = .ok (.iconst 3, 1) := by decide +kernel
theorem dw_427 : decode code 427 = .ok (.iadd, 1) := by decide +kernel
theorem dw_428 : decode code 428 = .ok (.iaload, 1) := by decide +kernel
theorem dw_429 : decode code 429 = .ok (.aload_n 3, 1) := by decide +kernel
theorem dw_430 : decode code 430 = .ok (.invokestatic 66, 3) := by decide +kernel
theorem dw_433 : decode code 433 = .ok (.istore 5, 2) := by decide +kernel
theorem dw_435 : decode code 435 = .ok (.aload_n 2, 1) := by decide +kernel
theorem dw_436 : decode code 436 = .ok (.aload_n 0, 1) := by decide +kernel
theorem dw_437 : decode code 437 = .ok (.iload 4, 2) := by decide +kernel
theorem dw_439 : decode code 439 = .ok (.iconst 1, 1) := by decide +kernel
theorem dw_440 : decode code 440 = .ok (.iadd, 1) := by decide +kernel
theorem dw_441 : decode code 441 = .ok (.iaload, 1) := by decide +kernel
theorem dw_442 : decode code 442 = .ok (.aload_n 0, 1) := by decide +kernel
theorem dw_443 : decode code 443 = .ok (.iload 4, 2) := by decide +kernel
theorem dw_445 : decode code 445 = .ok (.iconst 2, 1) := by decide +kernel
theorem dw_446 : decode code 446 = .ok (.iadd, 1) := by decide +kernel
theorem dw_447 : decode code 447 = .ok (.iaload, 1) := by decide +kernel
theorem dw_448 : decode code 448 = .ok (.aload_n 0, 1) := by decide +kernel
theorem dw_449 : decode code 449 = .ok (.iload 4, 2) := by decide +kernel
theorem dw_451 : decode code 451 = .ok (.iconst 3, 1) := by decide +kernel
theorem dw_452 : decode code 452 = .ok (.iadd, 1) := by decide +kernel
theorem dw_453 : decode code 453 = .ok (.iaload, 1) := by decide +kernel
theorem dw_454 : decode code 454 = .ok (.invokevirtual 71, 3) := by decide +kernel
theorem dw_457 : decode code 457 = .ok (.istore 6, 2) := by decide +kernel
theorem dw_459 : decode code 459 = .ok (.aload_n 2, 1) := by decide +kernel
theorem dw_460 : decode code 460 = .ok (.invokevirtual 72, 3) := by decide +kernel
theorem dw_463 : decode code 463 = .ok (.iload 5, 2) := by decide +kernel
theorem dw_465 : decode code 465 = .ok (.if_icmp .eq 5, 3) := by decide +kernel
theorem dw_468 : decode code 468 = .ok (.iconst 0, 1) := by decide +kernel
theorem dw_469 : decode code 469 = .ok (.ireturn, 1) := by decide +kernel
theorem dw_470 : decode code 470 = .ok (.iload 5, 2) := by decide +kernel
theorem dw_472 : decode code 472 = .ok (.ifCond .ne 15, 3) := by decide +kernel
theorem dw_475 : decode code 475 = .ok (.aload_n 3, 1) := by decide +kernel
theorem dw_476 : decode code 476 = .ok (.iconst 0, 1) := by decide +kernel
theorem dw_477 : decode code 477 = .ok (.laload, 1) := by decide +kernel
theorem dw_478 : decode code 478 = .ok (.iload 6, 2) := by decide +kernel
theorem dw_480 : decode code 480 = .ok (.i2l, 1) := by decide +kernel
theorem dw_481 : decode code 481 = .ok (.lcmp, 1) := by decide +kernel
theorem dw_482 : decode code 482 = .ok (.ifCond .eq 5, 3) := by decide +kernel
theorem dw_485 : decode code 485 = .ok (.iconst 0, 1) := by decide +kernel
theorem dw_486 : decode code 486 = .ok (.ireturn, 1) := by decide +kernel
theorem dw_487 : decode code 487 = .ok (.goto 245, 3) := by decide +kernel
theorem dw_490 : decode code 490 = .ok (.aload_n 1, 1) := by decide +kernel
theorem dw_491 : decode code 491 = .ok (.aload_n 0, 1) := by decide +kernel
theorem dw_492 : decode code 492 = .ok (.iload 4, 2) := by decide +kernel
theorem dw_494 : decode code 494 = .ok (.iconst 1, 1) := by decide +kernel
theorem dw_495 : decode code 495 = .ok (.iadd, 1) := by decide +kernel
theorem dw_496 : decode code 496 = .ok (.iaload, 1) := by decide +kernel
theorem dw_497 : decode code 497 = .ok (.aload_n 0, 1) := by decide +kernel
theorem dw_498 : decode code 498 = .ok (.iload 4, 2) := by decide +kernel
theorem dw_500 : decode code 500 = .ok (.iconst 2, 1) := by decide +kernel
theorem dw_501 : decode code 501 = .ok (.iadd, 1) := by decide +kernel
theorem dw_502 : decode code 502 = .ok (.iaload, 1) := by decide +kernel
theorem dw_503 : decode code 503 = .ok (.aload_n 0, 1) := by decide +kernel
theorem dw_504 : decode code 504 = .ok (.iload 4, 2) := by decide +kernel
theorem dw_506 : decode code 506 = .ok (.iconst 3, 1) := by decide +kernel
theorem dw_507 : decode code 507 = .ok (.iadd, 1) := by decide +kernel
theorem dw_508 : decode code 508 = .ok (.iaload, 1) := by decide +kernel
theorem dw_509 : decode code 509 = .ok (.invokevirtual 75, 3) := by decide +kernel
theorem dw_512 : decode code 512 = .ok (.aload_n 2, 1) := by decide +kernel
theorem dw_513 : decode code 513 = .ok (.aload_n 0, 1) := by decide +kernel
theorem dw_514 : decode code 514 = .ok (.iload 4, 2) := by decide +kernel
theorem dw_516 : decode code 516 = .ok (.iconst 1, 1) := by decide +kernel
theorem dw_517 : decode code 517 = .ok (.iadd, 1) := by decide +kernel
theorem dw_518 : decode code 518 = .ok (.iaload, 1) := by decide +kernel
theorem dw_519 : decode code 519 = .ok (.aload_n 0, 1) := by decide +kernel
theorem dw_520 : decode code 520 = .ok (.iload 4, 2) := by decide +kernel
theorem dw_522 : decode code 522 = .ok (.iconst 2, 1) := by decide +kernel
theorem dw_523 : decode code 523 = .ok (.iadd, 1) := by decide +kernel
theorem dw_524 : decode code 524 = .ok (.iaload, 1) := by decide +kernel
theorem dw_525 : decode code 525 = .ok (.aload_n 0, 1) := by decide +kernel
theorem dw_526 : decode code 526 = .ok (.iload 4, 2) := by decide +kernel
theorem dw_528 : decode code 528 = .ok (.iconst 3, 1) := by decide +kernel
theorem dw_529 : decode code 529 = .ok (.iadd, 1) := by decide +kernel
theorem dw_530 : decode code 530 = .ok (.iaload, 1) := by decide +kernel
theorem dw_531 : decode code 531 = .ok (.invokevirtual 78, 3) := by decide +kernel
theorem dw_534 : decode code 534 = .ok (.if_icmp .eq 198, 3) := by decide +kernel
theorem dw_537 : decode code 537 = .ok (.iconst 0, 1) := by decide +kernel
theorem dw_538 : decode code 538 = .ok (.ireturn, 1) := by decide +kernel
theorem dw_539 : decode code 539 = .ok (.aload_n 1, 1) := by decide +kernel
theorem dw_540 : decode code 540 = .ok (.aload_n 0, 1) := by decide +kernel
theorem dw_541 : decode code 541 = .ok (.iload 4, 2) := by decide +kernel
theorem dw_543 : decode code 543 = .ok (.iconst 1, 1) := by decide +kernel
theorem dw_544 : decode code 544 = .ok (.iadd, 1) := by decide +kernel
theorem dw_545 : decode code 545 = .ok (.iaload, 1) := by decide +kernel
theorem dw_546 : decode code 546 = .ok (.aload_n 0, 1) := by decide +kernel
theorem dw_547 : decode code 547 = .ok (.iload 4, 2) := by decide +kernel
theorem dw_549 : decode code 549 = .ok (.iconst 2, 1) := by decide +kernel
theorem dw_550 : decode code 550 = .ok (.iadd, 1) := by decide +kernel
theorem dw_551 : decode code 551 = .ok (.iaload, 1) := by decide +kernel
theorem dw_552 : decode code 552 = .ok (.invokevirtual 79, 3) := by decide +kernel
theorem dw_555 : decode code 555 = .ok (.aload_n 2, 1) := by decide +kernel
theorem dw_556 : decode code 556 = .ok (.aload_n 0, 1) := by decide +kernel
theorem dw_557 : decode code 557 = .ok (.iload 4, 2) := by decide +kernel
theorem dw_559 : decode code 559 = .ok (.iconst 1, 1) := by decide +kernel
theorem dw_560 : decode code 560 = .ok (.iadd, 1) := by decide +kernel
theorem dw_561 : decode code 561 = .ok (.iaload, 1) := by decide +kernel
theorem dw_562 : decode code 562 = .ok (.aload_n 0, 1) := by decide +kernel
theorem dw_563 : decode code 563 = .ok (.iload 4, 2) := by decide +kernel
theorem dw_565 : decode code 565 = .ok (.iconst 2, 1) := by decide +kernel
theorem dw_566 : decode code 566 = .ok (.iadd, 1) := by decide +kernel
theorem dw_567 : decode code 567 = .ok (.iaload, 1) := by decide +kernel
theorem dw_568 : decode code 568 = .ok (.invokevirtual 82, 3) := by decide +kernel
theorem dw_571 : decode code 571 = .ok (.if_icmp .eq 161, 3) := by decide +kernel
theorem dw_574 : decode code 574 = .ok (.iconst 0, 1) := by decide +kernel
theorem dw_575 : decode code 575 = .ok (.ireturn, 1) := by decide +kernel
theorem dw_576 : decode code 576 = .ok (.aload_n 1, 1) := by decide +kernel
theorem dw_577 : decode code 577 = .ok (.aload_n 0, 1) := by decide +kernel
theorem dw_578 : decode code 578 = .ok (.iload 4, 2) := by decide +kernel
theorem dw_580 : decode code 580 = .ok (.iconst 1, 1) := by decide +kernel
theorem dw_581 : decode code 581 = .ok (.iadd, 1) := by decide +kernel
theorem dw_582 : decode code 582 = .ok (.iaload, 1) := by decide +kernel
theorem dw_583 : decode code 583 = .ok (.invokevirtual 83, 3) := by decide +kernel
theorem dw_586 : decode code 586 = .ok (.aload_n 2, 1) := by decide +kernel
theorem dw_587 : decode code 587 = .ok (.aload_n 0, 1) := by decide +kernel
theorem dw_588 : decode code 588 = .ok (.iload 4, 2) := by decide +kernel
theorem dw_590 : decode code 590 = .ok (.iconst 1, 1) := by decide +kernel
theorem dw_591 : decode code 591 = .ok (.iadd, 1) := by decide +kernel
theorem dw_592 : decode code 592 = .ok (.iaload, 1) := by decide +kernel
theorem dw_593 : decode code 593 = .ok (.invokevirtual 86, 3) := by decide +kernel
theorem dw_596 : decode code 596 = .ok (.if_icmp .eq 136, 3) := by decide +kernel
theorem dw_599 : decode code 599 = .ok (.iconst 0, 1) := by decide +kernel
theorem dw_600 : decode code 600 = .ok (.ireturn, 1) := by decide +kernel
theorem dw_601 : decode code 601 = .ok (.aload_n 1, 1) := by decide +kernel
theorem dw_602 : decode code 602 = .ok (.aload_n 0, 1) := by decide +kernel
theorem dw_603 : decode code 603 = .ok (.iload 4, 2) := by decide +kernel
theorem dw_605 : decode code 605 = .ok (.iconst 1, 1) := by decide +kernel
theorem dw_606 : decode code 606 = .ok (.iadd, 1) := by decide +kernel
theorem dw_607 : decode code 607 = .ok (.iaload, 1) := by decide +kernel
theorem dw_608 : decode code 608 = .ok (.aload_n 0, 1) := by decide +kernel
theorem dw_609 : decode code 609 = .ok (.iload 4, 2) := by decide +kernel
theorem dw_611 : decode code 611 = .ok (.iconst 2, 1) := by decide +kernel
theorem dw_612 : decode code 612 = .ok (.iadd, 1) := by decide +kernel
theorem dw_613 : decode code 613 = .ok (.iaload, 1) := by decide +kernel
theorem dw_614 : decode code 614 = .ok (.aload_n 0, 1) := by decide +kernel
theorem dw_615 : decode code 615 = .ok (.iload 4, 2) := by decide +kernel
theorem dw_617 : decode code 617 = .ok (.iconst 3, 1) := by decide +kernel
theorem dw_618 : decode code 618 = .ok (.iadd, 1) := by decide +kernel
theorem dw_619 : decode code 619 = .ok (.iaload, 1) := by decide +kernel
theorem dw_620 : decode code 620 = .ok (.i2l, 1) := by decide +kernel
theorem dw_621 : decode code 621 = .ok (.bipush 32, 2) := by decide +kernel
theorem dw_623 : decode code 623 = .ok (.lshl, 1) := by decide +kernel
theorem dw_624 : decode code 624 = .ok (.aload_n 0, 1) := by decide +kernel
theorem dw_625 : decode code 625 = .ok (.iload 4, 2) := by decide +kernel
theorem dw_627 : decode code 627 = .ok (.iconst 4, 1) := by decide +kernel
theorem dw_628 : decode code 628 = .ok (.iadd, 1) := by decide +kernel
theorem dw_629 : decode code 629 = .ok (.iaload, 1) := by decide +kernel
theorem dw_630 : decode code 630 = .ok (.i2l, 1) := by decide +kernel
theorem dw_631 : decode code 631 = .ok (.ldc2_w 34, 3) := by decide +kernel
theorem dw_634 : decode code 634 = .ok (.land, 1) := by decide +kernel
theorem dw_635 : decode code 635 = .ok (.lor, 1) := by decide +kernel
theorem dw_636 : decode code 636 = .ok (.invokevirtual 87, 3) := by decide +kernel
theorem dw_639 : decode code 639 = .ok (.aload_n 2, 1) := by decide +kernel
theorem dw_640 : decode code 640 = .ok (.aload_n 0, 1) := by decide +kernel
theorem dw_641 : decode code 641 = .ok (.iload 4, 2) := by decide +kernel
theorem dw_643 : decode code 643 = .ok (.iconst 1, 1) := by decide +kernel
theorem dw_644 : decode code 644 = .ok (.iadd, 1) := by decide +kernel
theorem dw_645 : decode code 645 = .ok (.iaload, 1) := by decide +kernel
theorem dw_646 : decode code 646 = .ok (.aload_n 0, 1) := by decide +kernel
theorem dw_647 : decode code 647 = .ok (.iload 4, 2) := by decide +kernel
theorem dw_649 : decode code 649 = .ok (.iconst 2, 1) := by decide +kernel
theorem dw_650 : decode code 650 = .ok (.iadd, 1) := by decide +kernel
theorem dw_651 : decode code 651 = .ok (.iaload, 1) := by decide +kernel
theorem dw_652 : decode code 652 = .ok (.aload_n 0, 1) := by decide +kernel
theorem dw_653 : decode code 653 = .ok (.iload 4, 2) := by decide +kernel
theorem dw_655 : decode code 655 = .ok (.iconst 3, 1) := by decide +kernel
theorem dw_656 : decode code 656 = .ok (.iadd, 1) := by decide +kernel
theorem dw_657 : decode code 657 = .ok (.iaload, 1) := by decide +kernel
theorem dw_658 : decode code 658 = .ok (.i2l, 1) := by decide +kernel
theorem dw_659 : decode code 659 = .ok (.bipush 32, 2) := by decide +kernel
theorem dw_661 : decode code 661 = .ok (.lshl, 1) := by decide +kernel
theorem dw_662 : decode code 662 = .ok (.aload_n 0, 1) := by decide +kernel
theorem dw_663 : decode code 663 = .ok (.iload 4, 2) := by decide +kernel
theorem dw_665 : decode code 665 = .ok (.iconst 4, 1) := by decide +kernel
theorem dw_666 : decode code 666 = .ok (.iadd, 1) := by decide +kernel
theorem dw_667 : decode code 667 = .ok (.iaload, 1) := by decide +kernel
theorem dw_668 : decode code 668 = .ok (.i2l, 1) := by decide +kernel
theorem dw_669 : decode code 669 = .ok (.ldc2_w 34, 3) := by decide +kernel
theorem dw_672 : decode code 672 = .ok (.land, 1) := by decide +kernel
theorem dw_673 : decode code 673 = .ok (.lor, 1) := by decide +kernel
theorem dw_674 : decode code 674 = .ok (.invokevirtual 91, 3) := by decide +kernel
theorem dw_677 : decode code 677 = .ok (.if_icmp .eq 55, 3) := by decide +kernel
theorem dw_680 : decode code 680 = .ok (.iconst 0, 1) := by decide +kernel
theorem dw_681 : decode code 681 = .ok (.ireturn, 1) := by decide +kernel
theorem dw_682 : decode code 682 = .ok (.aload_n 1, 1) := by decide +kernel
theorem dw_683 : decode code 683 = .ok (.aload_n 0, 1) := by decide +kernel
theorem dw_684 : decode code 684 = .ok (.iload 4, 2) := by decide +kernel
theorem dw_686 : decode code 686 = .ok (.iconst 1, 1) := by decide +kernel
theorem dw_687 : decode code 687 = .ok (.iadd, 1) := by decide +kernel
theorem dw_688 : decode code 688 = .ok (.iaload, 1) := by decide +kernel
theorem dw_689 : decode code 689 = .ok (.aload_n 0, 1) := by decide +kernel
theorem dw_690 : decode code 690 = .ok (.iload 4, 2) := by decide +kernel
theorem dw_692 : decode code 692 = .ok (.iconst 2, 1) := by decide +kernel
theorem dw_693 : decode code 693 = .ok (.iadd, 1) := by decide +kernel
theorem dw_694 : decode code 694 = .ok (.iaload, 1) := by decide +kernel
theorem dw_695 : decode code 695 = .ok (.aload_n 0, 1) := by decide +kernel
theorem dw_696 : decode code 696 = .ok (.iload 4, 2) := by decide +kernel
theorem dw_698 : decode code 698 = .ok (.iconst 3, 1) := by decide +kernel
theorem dw_699 : decode code 699 = .ok (.iadd, 1) := by decide +kernel
theorem dw_700 : decode code 700 = .ok (.iaload, 1) := by decide +kernel
theorem dw_701 : decode code 701 = .ok (.invokevirtual 92, 3) := by decide +kernel
theorem dw_704 : decode code 704 = .ok (.aload_n 2, 1) := by decide +kernel
theorem dw_705 : decode code 705 = .ok (.aload_n 0, 1) := by decide +kernel
theorem dw_706 : decode code 706 = .ok (.iload 4, 2) := by decide +kernel
theorem dw_708 : decode code 708 = .ok (.iconst 1, 1) := by decide +kernel
theorem dw_709 : decode code 709 = .ok (.iadd, 1) := by decide +kernel
theorem dw_710 : decode code 710 = .ok (.iaload, 1) := by decide +kernel
theorem dw_711 : decode code 711 = .ok (.aload_n 0, 1) := by decide +kernel
theorem dw_712 : decode code 712 = .ok (.iload 4, 2) := by decide +kernel
theorem dw_714 : decode code 714 = .ok (.iconst 2, 1) := by decide +kernel
theorem dw_715 : decode code 715 = .ok (.iadd, 1) := by decide +kernel
theorem dw_716 : decode code 716 = .ok (.iaload, 1) := by decide +kernel
theorem dw_717 : decode code 717 = .ok (.aload_n 0, 1) := by decide +kernel
theorem dw_718 : decode code 718 = .ok (.iload 4, 2) := by decide +kernel
theorem dw_720 : decode code 720 = .ok (.iconst 3, 1) := by decide +kernel
theorem dw_721 : decode code 721 = .ok (.iadd, 1) := by decide +kernel
theorem dw_722 : decode code 722 = .ok (.iaload, 1) := by decide +kernel
theorem dw_723 : decode code 723 = .ok (.invokevirtual 96, 3) := by decide +kernel
theorem dw_726 : decode code 726 = .ok (.lcmp, 1) := by decide +kernel
theorem dw_727 : decode code 727 = .ok (.ifCond .eq 5, 3) := by decide +kernel
theorem dw_730 : decode code 730 = .ok (.iconst 0, 1) := by decide +kernel
theorem dw_731 : decode code 731 = .ok (.ireturn, 1) := by decide +kernel
theorem dw_732 : decode code 732 = .ok (.iinc 4 5, 3) := by decide +kernel
theorem dw_735 : decode code 735 = .ok (.goto (-712), 3) := by decide +kernel
theorem dw_738 : decode code 738 = .ok (.iconst 1, 1) := by decide +kernel
theorem dw_739 : decode code 739 = .ok (.ireturn, 1) := by decide +kernel
