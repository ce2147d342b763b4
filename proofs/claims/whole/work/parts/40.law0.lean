/-! LAW: the loop over the script -/
def R_law : String := "BodyRows2Law"
def lw_P (b : Addr) (xs : List Int32) (args : Array Value) (s : State) : Prop := args = #[.ref b] ∧ s.IntsAt b xs ∧ xs.length ≤ 2048 ∧ (Jvm.Cond.and given_1 narrow_1).before args s = true
def lw_Q (_ : Array Value) (s : State) (o : Outcome) (t : State) : Prop := o = .returned (some (.int 1)) ∧ Framed s o t [] 674747 7071862
def lw_Z (below : List Frame) (a : Array Value) (s : State) : State → Prop := fun t => ∃ o, t.status = .running ∧ Ended t below o ∧ lw_Q a s o t
/-- the law's own end, with 1 on the stack, nothing written that was there before, its room as the claim has it -/
theorem lw_ret {p : Program} {l : Launch} {e : Env} {s : State} {m : MethodId} {below : List Frame} {meth : Method} {c : Code} {b : Nat} (hx : p.tables.exec = Jvm.exec) (hb : c.code = code) (hr : meth.sig.returnType = ret) (hlocks : meth.locks = false) {pc : Nat} {H : Heap} {ls : Array Slot} (hdg : decode code pc = .ok (.ireturn, 1)) : W p l e room_1 s m #[Value.ref b] below meth c H [] 674747 7071862 (lw_Z below #[Value.ref b] s) (F0 m pc ls [.int 1]) := by
  intro T hT X
  obtain ⟨fs, hret, hrun, hended, hW, hframe⟩ := X.leave (v := some (.int 1)) (hlocks := hlocks) (fun h => by rw [hr] at h; cases h)
  have hmeth' : T.vm.method? m = some meth := X.method'
  refine ⟨T.setFrames fs, ?_, .returned (some (.int 1)), hrun, hended, rfl, ⟨_, rfl⟩, hW, hframe⟩
  jvm_step X.here [X.here.top, hx, hb, hdg, hmeth', hr, ret, narrow_b1]
  (try refine ⟨rfl, ?_⟩); (try refine ⟨rfl, ?_⟩)
  first | (intro acts; rw [hret _ acts rfl rfl rfl]) | rw [hret _ _ rfl rfl rfl]
  exact Steps.refl _
/-- what holds at the law's entry: the machine, the code, the tables' words (any of lw_tbl by 'hts w (by decide +kernel)'), the script of L ints xs at the cell b, what the Statement gives of the start (any of its parts by flat_of_before) -/
def lw_At (p : Program) (s : State) (m : MethodId) (meth : Method) (c : Code) (b L : Nat) (xs : Nat → Int32) : Prop :=
  p.tables.exec = Jvm.exec ∧ c.code = code ∧ meth.sig.returnType = ret ∧ c.maxLocals = 7 ∧ s.vm.findClass R_law = some m.cls ∧ (∀ w ∈ lw_tbl, w.before #[Value.ref b] s = true) ∧ va_X b L xs s s.heap ∧ b < s.heap.size ∧ meth.locks = false ∧ (Jvm.Cond.and given_1 narrow_1).before #[Value.ref b] s = true
theorem d_law_0 : decode code 0 = .ok (.new 8, 3) := by decide +kernel
theorem d_law_3 : decode code 3 = .ok (.dup, 1) := by decide +kernel
theorem d_law_4 : decode code 4 = .ok (.invokespecial 15, 3) := by decide +kernel
theorem d_law_7 : decode code 7 = .ok (.astore_n 1, 1) := by decide +kernel
theorem d_law_8 : decode code 8 = .ok (.new 16, 3) := by decide +kernel
theorem d_law_11 : decode code 11 = .ok (.dup, 1) := by decide +kernel
theorem d_law_12 : decode code 12 = .ok (.invokespecial 18, 3) := by decide +kernel
theorem d_law_15 : decode code 15 = .ok (.astore_n 2, 1) := by decide +kernel
theorem d_law_16 : decode code 16 = .ok (.iconst 1, 1) := by decide +kernel
theorem d_law_17 : decode code 17 = .ok (.newarray .long, 2) := by decide +kernel
theorem d_law_19 : decode code 19 = .ok (.astore_n 3, 1) := by decide +kernel
theorem d_law_20 : decode code 20 = .ok (.iconst 0, 1) := by decide +kernel
theorem d_law_21 : decode code 21 = .ok (.istore 4, 2) := by decide +kernel
theorem d_law_23 : decode code 23 = .ok (.iload 4, 2) := by decide +kernel
theorem d_law_25 : decode code 25 = .ok (.aload_n 0, 1) := by decide +kernel
theorem d_law_26 : decode code 26 = .ok (.arraylength, 1) := by decide +kernel
theorem d_law_27 : decode code 27 = .ok (.iconst 4, 1) := by decide +kernel
theorem d_law_28 : decode code 28 = .ok (.isub, 1) := by decide +kernel
theorem d_law_29 : decode code 29 = .ok (.if_icmp .gt 615, 3) := by decide +kernel
theorem d_law_32 : decode code 32 = .ok (.aload_n 0, 1) := by decide +kernel
theorem d_law_33 : decode code 33 = .ok (.iload 4, 2) := by decide +kernel
theorem d_law_35 : decode code 35 = .ok (.iaload, 1) := by decide +kernel
theorem d_law_36 : decode code 36 = .ok (.bipush 15, 2) := by decide +kernel
theorem d_law_38 : decode code 38 = .ok (.iand, 1) := by decide +kernel
theorem d_law_39 : decode code 39 = .ok (.tableswitch 599 0 14 #[73, 110, 166, 191, 228, 253, 278, 331, 356, 409, 434, 471, 484, 533, 574], 73) := by decide +kernel
theorem d_law_112 : decode code 112 = .ok (.aload_n 1, 1) := by decide +kernel
theorem d_law_113 : decode code 113 = .ok (.aload_n 0, 1) := by decide +kernel
theorem d_law_114 : decode code 114 = .ok (.iload 4, 2) := by decide +kernel
theorem d_law_116 : decode code 116 = .ok (.iconst 1, 1) := by decide +kernel
theorem d_law_117 : decode code 117 = .ok (.iadd, 1) := by decide +kernel
theorem d_law_118 : decode code 118 = .ok (.iaload, 1) := by decide +kernel
theorem d_law_119 : decode code 119 = .ok (.aload_n 0, 1) := by decide +kernel
theorem d_law_120 : decode code 120 = .ok (.iload 4, 2) := by decide +kernel
theorem d_law_122 : decode code 122 = .ok (.iconst 2, 1) := by decide +kernel
theorem d_law_123 : decode code 123 = .ok (.iadd, 1) := by decide +kernel
theorem d_law_124 : decode code 124 = .ok (.iaload, 1) := by decide +kernel
theorem d_law_125 : decode code 125 = .ok (.invokevirtual 19, 3) := by decide +kernel
theorem d_law_128 : decode code 128 = .ok (.aload_n 2, 1) := by decide +kernel
theorem d_law_129 : decode code 129 = .ok (.aload_n 0, 1) := by decide +kernel
theorem d_law_130 : decode code 130 = .ok (.iload 4, 2) := by decide +kernel
theorem d_law_132 : decode code 132 = .ok (.iconst 1, 1) := by decide +kernel
theorem d_law_133 : decode code 133 = .ok (.iadd, 1) := by decide +kernel
theorem d_law_134 : decode code 134 = .ok (.iaload, 1) := by decide +kernel
theorem d_law_135 : decode code 135 = .ok (.aload_n 0, 1) := by decide +kernel
theorem d_law_136 : decode code 136 = .ok (.iload 4, 2) := by decide +kernel
theorem d_law_138 : decode code 138 = .ok (.iconst 2, 1) := by decide +kernel
theorem d_law_139 : decode code 139 = .ok (.iadd, 1) := by decide +kernel
theorem d_law_140 : decode code 140 = .ok (.iaload, 1) := by decide +kernel
theorem d_law_141 : decode code 141 = .ok (.invokevirtual 23, 3) := by decide +kernel
theorem d_law_144 : decode code 144 = .ok (.if_icmp .eq 494, 3) := by decide +kernel
theorem d_law_147 : decode code 147 = .ok (.iconst 0, 1) := by decide +kernel
theorem d_law_148 : decode code 148 = .ok (.ireturn, 1) := by decide +kernel
theorem d_law_149 : decode code 149 = .ok (.aload_n 1, 1) := by decide +kernel
theorem d_law_150 : decode code 150 = .ok (.aload_n 0, 1) := by decide +kernel
theorem d_law_151 : decode code 151 = .ok (.iload 4, 2) := by decide +kernel
theorem d_law_153 : decode code 153 = .ok (.iconst 1, 1) := by decide +kernel
theorem d_law_154 : decode code 154 = .ok (.iadd, 1) := by decide +kernel
theorem d_law_155 : decode code 155 = .ok (.iaload, 1) := by decide +kernel
theorem d_law_156 : decode code 156 = .ok (.aload_n 3, 1) := by decide +kernel
theorem d_law_157 : decode code 157 = .ok (.invokestatic 24, 3) := by decide +kernel
theorem d_law_160 : decode code 160 = .ok (.istore 5, 2) := by decide +kernel
theorem d_law_162 : decode code 162 = .ok (.aload_n 2, 1) := by decide +kernel
theorem d_law_163 : decode code 163 = .ok (.aload_n 0, 1) := by decide +kernel
theorem d_law_164 : decode code 164 = .ok (.iload 4, 2) := by decide +kernel
theorem d_law_166 : decode code 166 = .ok (.iconst 1, 1) := by decide +kernel
theorem d_law_167 : decode code 167 = .ok (.iadd, 1) := by decide +kernel
theorem d_law_168 : decode code 168 = .ok (.iaload, 1) := by decide +kernel
theorem d_law_169 : decode code 169 = .ok (.invokevirtual 29, 3) := by decide +kernel
theorem d_law_172 : decode code 172 = .ok (.istore 6, 2) := by decide +kernel
theorem d_law_174 : decode code 174 = .ok (.aload_n 2, 1) := by decide +kernel
theorem d_law_175 : decode code 175 = .ok (.invokevirtual 30, 3) := by decide +kernel
theorem d_law_178 : decode code 178 = .ok (.iload 5, 2) := by decide +kernel
theorem d_law_180 : decode code 180 = .ok (.if_icmp .eq 5, 3) := by decide +kernel
theorem d_law_183 : decode code 183 = .ok (.iconst 0, 1) := by decide +kernel
theorem d_law_184 : decode code 184 = .ok (.ireturn, 1) := by decide +kernel
theorem d_law_185 : decode code 185 = .ok (.iload 5, 2) := by decide +kernel
theorem d_law_187 : decode code 187 = .ok (.ifCond .ne 15, 3) := by decide +kernel
theorem d_law_190 : decode code 190 = .ok (.aload_n 3, 1) := by decide +kernel
theorem d_law_191 : decode code 191 = .ok (.iconst 0, 1) := by decide +kernel
theorem d_law_192 : decode code 192 = .ok (.laload, 1) := by decide +kernel
theorem d_law_193 : decode code 193 = .ok (.iload 6, 2) := by decide +kernel
theorem d_law_195 : decode code 195 = .ok (.i2l, 1) := by decide +kernel
theorem d_law_196 : decode code 196 = .ok (.lcmp, 1) := by decide +kernel
theorem d_law_197 : decode code 197 = .ok (.ifCond .eq 5, 3) := by decide +kernel
theorem d_law_200 : decode code 200 = .ok (.iconst 0, 1) := by decide +kernel
theorem d_law_201 : decode code 201 = .ok (.ireturn, 1) := by decide +kernel
theorem d_law_202 : decode code 202 = .ok (.goto 436, 3) := by decide +kernel
theorem d_law_205 : decode code 205 = .ok (.aload_n 1, 1) := by decide +kernel
theorem d_law_206 : decode code 206 = .ok (.aload_n 0, 1) := by decide +kernel
theorem d_law_207 : decode code 207 = .ok (.iload 4, 2) := by decide +kernel
theorem d_law_209 : decode code 209 = .ok (.iconst 1, 1) := by decide +kernel
theorem d_law_210 : decode code 210 = .ok (.iadd, 1) := by decide +kernel
theorem d_law_211 : decode code 211 = .ok (.iaload, 1) := by decide +kernel
theorem d_law_212 : decode code 212 = .ok (.invokevirtual 34, 3) := by decide +kernel
theorem d_law_215 : decode code 215 = .ok (.aload_n 2, 1) := by decide +kernel
theorem d_law_216 : decode code 216 = .ok (.aload_n 0, 1) := by decide +kernel
theorem d_law_217 : decode code 217 = .ok (.iload 4, 2) := by decide +kernel
theorem d_law_219 : decode code 219 = .ok (.iconst 1, 1) := by decide +kernel
theorem d_law_220 : decode code 220 = .ok (.iadd, 1) := by decide +kernel
theorem d_law_221 : decode code 221 = .ok (.iaload, 1) := by decide +kernel
theorem d_law_222 : decode code 222 = .ok (.invokevirtual 37, 3) := by decide +kernel
theorem d_law_225 : decode code 225 = .ok (.if_icmp .eq 413, 3) := by decide +kernel
theorem d_law_228 : decode code 228 = .ok (.iconst 0, 1) := by decide +kernel
theorem d_law_229 : decode code 229 = .ok (.ireturn, 1) := by decide +kernel
theorem d_law_230 : decode code 230 = .ok (.aload_n 1, 1) := by decide +kernel
theorem d_law_231 : decode code 231 = .ok (.aload_n 0, 1) := by decide +kernel
theorem d_law_232 : decode code 232 = .ok (.iload 4, 2) := by decide +kernel
theorem d_law_234 : decode code 234 = .ok (.iconst 1, 1) := by decide +kernel
theorem d_law_235 : decode code 235 = .ok (.iadd, 1) := by decide +kernel
theorem d_law_236 : decode code 236 = .ok (.iaload, 1) := by decide +kernel
theorem d_law_237 : decode code 237 = .ok (.aload_n 0, 1) := by decide +kernel
theorem d_law_238 : decode code 238 = .ok (.iload 4, 2) := by decide +kernel
theorem d_law_240 : decode code 240 = .ok (.iconst 2, 1) := by decide +kernel
theorem d_law_241 : decode code 241 = .ok (.iadd, 1) := by decide +kernel
theorem d_law_242 : decode code 242 = .ok (.iaload, 1) := by decide +kernel
theorem d_law_243 : decode code 243 = .ok (.invokevirtual 38, 3) := by decide +kernel
theorem d_law_246 : decode code 246 = .ok (.aload_n 2, 1) := by decide +kernel
theorem d_law_247 : decode code 247 = .ok (.aload_n 0, 1) := by decide +kernel
theorem d_law_248 : decode code 248 = .ok (.iload 4, 2) := by decide +kernel
theorem d_law_250 : decode code 250 = .ok (.iconst 1, 1) := by decide +kernel
theorem d_law_251 : decode code 251 = .ok (.iadd, 1) := by decide +kernel
theorem d_law_252 : decode code 252 = .ok (.iaload, 1) := by decide +kernel
theorem d_law_253 : decode code 253 = .ok (.aload_n 0, 1) := by decide +kernel
theorem d_law_254 : decode code 254 = .ok (.iload 4, 2) := by decide +kernel
theorem d_law_256 : decode code 256 = .ok (.iconst 2, 1) := by decide +kernel
theorem d_law_257 : decode code 257 = .ok (.iadd, 1) := by decide +kernel
theorem d_law_258 : decode code 258 = .ok (.iaload, 1) := by decide +kernel
theorem d_law_259 : decode code 259 = .ok (.invokevirtual 41, 3) := by decide +kernel
theorem d_law_262 : decode code 262 = .ok (.if_icmp .eq 376, 3) := by decide +kernel
theorem d_law_265 : decode code 265 = .ok (.iconst 0, 1) := by decide +kernel
theorem d_law_266 : decode code 266 = .ok (.ireturn, 1) := by decide +kernel
theorem d_law_267 : decode code 267 = .ok (.aload_n 1, 1) := by decide +kernel
theorem d_law_268 : decode code 268 = .ok (.aload_n 0, 1) := by decide +kernel
theorem d_law_269 : decode code 269 = .ok (.iload 4, 2) := by decide +kernel
theorem d_law_271 : decode code 271 = .ok (.iconst 1, 1) := by decide +kernel
theorem d_law_272 : decode code 272 = .ok (.iadd, 1) := by decide +kernel
theorem d_law_273 : decode code 273 = .ok (.iaload, 1) := by decide +kernel
theorem d_law_274 : decode code 274 = .ok (.invokevirtual 42, 3) := by decide +kernel
theorem d_law_277 : decode code 277 = .ok (.aload_n 2, 1) := by decide +kernel
theorem d_law_278 : decode code 278 = .ok (.aload_n 0, 1) := by decide +kernel
theorem d_law_279 : decode code 279 = .ok (.iload 4, 2) := by decide +kernel
theorem d_law_281 : decode code 281 = .ok (.iconst 1, 1) := by decide +kernel
theorem d_law_282 : decode code 282 = .ok (.iadd, 1) := by decide +kernel
theorem d_law_283 : decode code 283 = .ok (.iaload, 1) := by decide +kernel
theorem d_law_284 : decode code 284 = .ok (.invokevirtual 45, 3) := by decide +kernel
theorem d_law_287 : decode code 287 = .ok (.if_icmp .eq 351, 3) := by decide +kernel
theorem d_law_290 : decode code 290 = .ok (.iconst 0, 1) := by decide +kernel
theorem d_law_291 : decode code 291 = .ok (.ireturn, 1) := by decide +kernel
theorem d_law_292 : decode code 292 = .ok (.aload_n 1, 1) := by decide +kernel
theorem d_law_293 : decode code 293 = .ok (.aload_n 0, 1) := by decide +kernel
theorem d_law_294 : decode code 294 = .ok (.iload 4, 2) := by decide +kernel
theorem d_law_296 : decode code 296 = .ok (.iconst 1, 1) := by decide +kernel
theorem d_law_297 : decode code 297 = .ok (.iadd, 1) := by decide +kernel
theorem d_law_298 : decode code 298 = .ok (.iaload, 1) := by decide +kernel
theorem d_law_299 : decode code 299 = .ok (.invokevirtual 46, 3) := by decide +kernel
theorem d_law_302 : decode code 302 = .ok (.aload_n 2, 1) := by decide +kernel
theorem d_law_303 : decode code 303 = .ok (.aload_n 0, 1) := by decide +kernel
theorem d_law_304 : decode code 304 = .ok (.iload 4, 2) := by decide +kernel
theorem d_law_306 : decode code 306 = .ok (.iconst 1, 1) := by decide +kernel
theorem d_law_307 : decode code 307 = .ok (.iadd, 1) := by decide +kernel
theorem d_law_308 : decode code 308 = .ok (.iaload, 1) := by decide +kernel
theorem d_law_309 : decode code 309 = .ok (.invokevirtual 49, 3) := by decide +kernel
theorem d_law_312 : decode code 312 = .ok (.if_icmp .eq 326, 3) := by decide +kernel
theorem d_law_315 : decode code 315 = .ok (.iconst 0, 1) := by decide +kernel
theorem d_law_316 : decode code 316 = .ok (.ireturn, 1) := by decide +kernel
theorem d_law_317 : decode code 317 = .ok (.aload_n 1, 1) := by decide +kernel
theorem d_law_318 : decode code 318 = .ok (.aload_n 0, 1) := by decide +kernel
theorem d_law_319 : decode code 319 = .ok (.iload 4, 2) := by decide +kernel
theorem d_law_321 : decode code 321 = .ok (.iconst 1, 1) := by decide +kernel
theorem d_law_322 : decode code 322 = .ok (.iadd, 1) := by decide +kernel
theorem d_law_323 : decode code 323 = .ok (.iaload, 1) := by decide +kernel
theorem d_law_324 : decode code 324 = .ok (.aload_n 0, 1) := by decide +kernel
theorem d_law_325 : decode code 325 = .ok (.iload 4, 2) := by decide +kernel
theorem d_law_327 : decode code 327 = .ok (.iconst 2, 1) := by decide +kernel
theorem d_law_328 : decode code 328 = .ok (.iadd, 1) := by decide +kernel
theorem d_law_329 : decode code 329 = .ok (.iaload, 1) := by decide +kernel
theorem d_law_330 : decode code 330 = .ok (.ifCond .eq 7, 3) := by decide +kernel
theorem d_law_333 : decode code 333 = .ok (.iconst 1, 1) := by decide +kernel
theorem d_law_334 : decode code 334 = .ok (.goto 4, 3) := by decide +kernel
theorem d_law_337 : decode code 337 = .ok (.iconst 0, 1) := by decide +kernel
theorem d_law_338 : decode code 338 = .ok (.invokevirtual 50, 3) := by decide +kernel
theorem d_law_341 : decode code 341 = .ok (.aload_n 2, 1) := by decide +kernel
theorem d_law_342 : decode code 342 = .ok (.aload_n 0, 1) := by decide +kernel
theorem d_law_343 : decode code 343 = .ok (.iload 4, 2) := by decide +kernel
theorem d_law_345 : decode code 345 = .ok (.iconst 1, 1) := by decide +kernel
theorem d_law_346 : decode code 346 = .ok (.iadd, 1) := by decide +kernel
theorem d_law_347 : decode code 347 = .ok (.iaload, 1) := by decide +kernel
theorem d_law_348 : decode code 348 = .ok (.aload_n 0, 1) := by decide +kernel
theorem d_law_349 : decode code 349 = .ok (.iload 4, 2) := by decide +kernel
theorem d_law_351 : decode code 351 = .ok (.iconst 2, 1) := by decide +kernel
theorem d_law_352 : decode code 352 = .ok (.iadd, 1) := by decide +kernel
theorem d_law_353 : decode code 353 = .ok (.iaload, 1) := by decide +kernel
theorem d_law_354 : decode code 354 = .ok (.ifCond .eq 7, 3) := by decide +kernel
theorem d_law_357 : decode code 357 = .ok (.iconst 1, 1) := by decide +kernel
theorem d_law_358 : decode code 358 = .ok (.goto 4, 3) := by decide +kernel
theorem d_law_361 : decode code 361 = .ok (.iconst 0, 1) := by decide +kernel
theorem d_law_362 : decode code 362 = .ok (.invokevirtual 54, 3) := by decide +kernel
theorem d_law_365 : decode code 365 = .ok (.if_icmp .eq 273, 3) := by decide +kernel
theorem d_law_368 : decode code 368 = .ok (.iconst 0, 1) := by decide +kernel
theorem d_law_369 : decode code 369 = .ok (.ireturn, 1) := by decide +kernel
theorem d_law_370 : decode code 370 = .ok (.aload_n 1, 1) := by decide +kernel
theorem d_law_371 : decode code 371 = .ok (.aload_n 0, 1) := by decide +kernel
theorem d_law_372 : decode code 372 = .ok (.iload 4, 2) := by decide +kernel
theorem d_law_374 : decode code 374 = .ok (.iconst 1, 1) := by decide +kernel
theorem d_law_375 : decode code 375 = .ok (.iadd, 1) := by decide +kernel
theorem d_law_376 : decode code 376 = .ok (.iaload, 1) := by decide +kernel
theorem d_law_377 : decode code 377 = .ok (.invokevirtual 55, 3) := by decide +kernel
theorem d_law_380 : decode code 380 = .ok (.aload_n 2, 1) := by decide +kernel
theorem d_law_381 : decode code 381 = .ok (.aload_n 0, 1) := by decide +kernel
theorem d_law_382 : decode code 382 = .ok (.iload 4, 2) := by decide +kernel
theorem d_law_384 : decode code 384 = .ok (.iconst 1, 1) := by decide +kernel
theorem d_law_385 : decode code 385 = .ok (.iadd, 1) := by decide +kernel
theorem d_law_386 : decode code 386 = .ok (.iaload, 1) := by decide +kernel
theorem d_law_387 : decode code 387 = .ok (.invokevirtual 58, 3) := by decide +kernel
theorem d_law_390 : decode code 390 = .ok (.if_icmp .eq 248, 3) := by decide +kernel
theorem d_law_393 : decode code 393 = .ok (.iconst 0, 1) := by decide +kernel
theorem d_law_394 : decode code 394 = .ok (.ireturn, 1) := by decide +kernel
theorem d_law_395 : decode code 395 = .ok (.aload_n 1, 1) := by decide +kernel
theorem d_law_396 : decode code 396 = .ok (.aload_n 0, 1) := by decide +kernel
theorem d_law_397 : decode code 397 = .ok (.iload 4, 2) := by decide +kernel
theorem d_law_399 : decode code 399 = .ok (.iconst 1, 1) := by decide +kernel
theorem d_law_400 : decode code 400 = .ok (.iadd, 1) := by decide +kernel
theorem d_law_401 : decode code 401 = .ok (.iaload, 1) := by decide +kernel
theorem d_law_402 : decode code 402 = .ok (.aload_n 0, 1) := by decide +kernel
theorem d_law_403 : decode code 403 = .ok (.iload 4, 2) := by decide +kernel
theorem d_law_405 : decode code 405 = .ok (.iconst 2, 1) := by decide +kernel
theorem d_law_406 : decode code 406 = .ok (.iadd, 1) := by decide +kernel
theorem d_law_407 : decode code 407 = .ok (.iaload, 1) := by decide +kernel
theorem d_law_408 : decode code 408 = .ok (.ifCond .eq 7, 3) := by decide +kernel
theorem d_law_411 : decode code 411 = .ok (.iconst 1, 1) := by decide +kernel
theorem d_law_412 : decode code 412 = .ok (.goto 4, 3) := by decide +kernel
theorem d_law_415 : decode code 415 = .ok (.iconst 0, 1) := by decide +kernel
theorem d_law_416 : decode code 416 = .ok (.invokevirtual 59, 3) := by decide +kernel
theorem d_law_419 : decode code 419 = .ok (.aload_n 2, 1) := by decide +kernel
theorem d_law_420 : decode code 420 = .ok (.aload_n 0, 1) := by decide +kernel
theorem d_law_421 : decode code 421 = .ok (.iload 4, 2) := by decide +kernel
theorem d_law_423 : decode code 423 = .ok (.iconst 1, 1) := by decide +kernel
theorem d_law_424 : decode code 424 = .ok (.iadd, 1) := by decide +kernel
theorem d_law_425 : decode code 425 = .ok (.iaload, 1) := by decide +kernel
theorem d_law_426 : decode code 426 = .ok (.aload_n 0, 1) := by decide +kernel
theorem d_law_427 : decode code 427 = .ok (.iload 4, 2) := by decide +kernel
theorem d_law_429 : decode code 429 = .ok (.iconst 2, 1) := by decide +kernel
theorem d_law_430 : decode code 430 = .ok (.iadd, 1) := by decide +kernel
theorem d_law_431 : decode code 431 = .ok (.iaload, 1) := by decide +kernel
theorem d_law_432 : decode code 432 = .ok (.ifCond .eq 7, 3) := by decide +kernel
theorem d_law_435 : decode code 435 = .ok (.iconst 1, 1) := by decide +kernel
theorem d_law_436 : decode code 436 = .ok (.goto 4, 3) := by decide +kernel
theorem d_law_439 : decode code 439 = .ok (.iconst 0, 1) := by decide +kernel
theorem d_law_440 : decode code 440 = .ok (.invokevirtual 62, 3) := by decide +kernel
theorem d_law_443 : decode code 443 = .ok (.if_icmp .eq 195, 3) := by decide +kernel
theorem d_law_446 : decode code 446 = .ok (.iconst 0, 1) := by decide +kernel
theorem d_law_447 : decode code 447 = .ok (.ireturn, 1) := by decide +kernel
theorem d_law_448 : decode code 448 = .ok (.aload_n 1, 1) := by decide +kernel
theorem d_law_449 : decode code 449 = .ok (.aload_n 0, 1) := by decide +kernel
theorem d_law_450 : decode code 450 = .ok (.iload 4, 2) := by decide +kernel
theorem d_law_452 : decode code 452 = .ok (.iconst 1, 1) := by decide +kernel
theorem d_law_453 : decode code 453 = .ok (.iadd, 1) := by decide +kernel
theorem d_law_454 : decode code 454 = .ok (.iaload, 1) := by decide +kernel
theorem d_law_455 : decode code 455 = .ok (.invokevirtual 63, 3) := by decide +kernel
theorem d_law_458 : decode code 458 = .ok (.aload_n 2, 1) := by decide +kernel
theorem d_law_459 : decode code 459 = .ok (.aload_n 0, 1) := by decide +kernel
theorem d_law_460 : decode code 460 = .ok (.iload 4, 2) := by decide +kernel
theorem d_law_462 : decode code 462 = .ok (.iconst 1, 1) := by decide +kernel
theorem d_law_463 : decode code 463 = .ok (.iadd, 1) := by decide +kernel
theorem d_law_464 : decode code 464 = .ok (.iaload, 1) := by decide +kernel
theorem d_law_465 : decode code 465 = .ok (.invokevirtual 66, 3) := by decide +kernel
theorem d_law_468 : decode code 468 = .ok (.if_icmp .eq 170, 3) := by decide +kernel
theorem d_law_471 : decode code 471 = .ok (.iconst 0, 1) := by decide +kernel
theorem d_law_472 : decode code 472 = .ok (.ireturn, 1) := by decide +kernel
theorem d_law_473 : decode code 473 = .ok (.aload_n 1, 1) := by decide +kernel
theorem d_law_474 : decode code 474 = .ok (.aload_n 0, 1) := by decide +kernel
theorem d_law_475 : decode code 475 = .ok (.iload 4, 2) := by decide +kernel
theorem d_law_477 : decode code 477 = .ok (.iconst 1, 1) := by decide +kernel
theorem d_law_478 : decode code 478 = .ok (.iadd, 1) := by decide +kernel
theorem d_law_479 : decode code 479 = .ok (.iaload, 1) := by decide +kernel
theorem d_law_480 : decode code 480 = .ok (.aload_n 0, 1) := by decide +kernel
theorem d_law_481 : decode code 481 = .ok (.iload 4, 2) := by decide +kernel
theorem d_law_483 : decode code 483 = .ok (.iconst 2, 1) := by decide +kernel
theorem d_law_484 : decode code 484 = .ok (.iadd, 1) := by decide +kernel
theorem d_law_485 : decode code 485 = .ok (.iaload, 1) := by decide +kernel
theorem d_law_486 : decode code 486 = .ok (.invokevirtual 67, 3) := by decide +kernel
theorem d_law_489 : decode code 489 = .ok (.aload_n 2, 1) := by decide +kernel
theorem d_law_490 : decode code 490 = .ok (.aload_n 0, 1) := by decide +kernel
theorem d_law_491 : decode code 491 = .ok (.iload 4, 2) := by decide +kernel
theorem d_law_493 : decode code 493 = .ok (.iconst 1, 1) := by decide +kernel
theorem d_law_494 : decode code 494 = .ok (.iadd, 1) := by decide +kernel
theorem d_law_495 : decode code 495 = .ok (.iaload, 1) := by decide +kernel
theorem d_law_496 : decode code 496 = .ok (.aload_n 0, 1) := by decide +kernel
theorem d_law_497 : decode code 497 = .ok (.iload 4, 2) := by decide +kernel
theorem d_law_499 : decode code 499 = .ok (.iconst 2, 1) := by decide +kernel
theorem d_law_500 : decode code 500 = .ok (.iadd, 1) := by decide +kernel
theorem d_law_501 : decode code 501 = .ok (.iaload, 1) := by decide +kernel
theorem d_law_502 : decode code 502 = .ok (.invokevirtual 70, 3) := by decide +kernel
theorem d_law_505 : decode code 505 = .ok (.if_icmp .eq 133, 3) := by decide +kernel
theorem d_law_508 : decode code 508 = .ok (.iconst 0, 1) := by decide +kernel
theorem d_law_509 : decode code 509 = .ok (.ireturn, 1) := by decide +kernel
theorem d_law_510 : decode code 510 = .ok (.aload_n 1, 1) := by decide +kernel
theorem d_law_511 : decode code 511 = .ok (.invokevirtual 71, 3) := by decide +kernel
theorem d_law_514 : decode code 514 = .ok (.aload_n 2, 1) := by decide +kernel
theorem d_law_515 : decode code 515 = .ok (.invokevirtual 74, 3) := by decide +kernel
theorem d_law_518 : decode code 518 = .ok (.if_icmp .eq 120, 3) := by decide +kernel
theorem d_law_521 : decode code 521 = .ok (.iconst 0, 1) := by decide +kernel
theorem d_law_522 : decode code 522 = .ok (.ireturn, 1) := by decide +kernel
theorem d_law_523 : decode code 523 = .ok (.aload_n 1, 1) := by decide +kernel
theorem d_law_524 : decode code 524 = .ok (.aload_n 0, 1) := by decide +kernel
theorem d_law_525 : decode code 525 = .ok (.iload 4, 2) := by decide +kernel
theorem d_law_527 : decode code 527 = .ok (.iconst 1, 1) := by decide +kernel
theorem d_law_528 : decode code 528 = .ok (.iadd, 1) := by decide +kernel
theorem d_law_529 : decode code 529 = .ok (.iaload, 1) := by decide +kernel
theorem d_law_530 : decode code 530 = .ok (.aload_n 0, 1) := by decide +kernel
theorem d_law_531 : decode code 531 = .ok (.iload 4, 2) := by decide +kernel
theorem d_law_533 : decode code 533 = .ok (.iconst 2, 1) := by decide +kernel
theorem d_law_534 : decode code 534 = .ok (.iadd, 1) := by decide +kernel
theorem d_law_535 : decode code 535 = .ok (.iaload, 1) := by decide +kernel
theorem d_law_536 : decode code 536 = .ok (.aload_n 0, 1) := by decide +kernel
theorem d_law_537 : decode code 537 = .ok (.iload 4, 2) := by decide +kernel
theorem d_law_539 : decode code 539 = .ok (.iconst 3, 1) := by decide +kernel
theorem d_law_540 : decode code 540 = .ok (.iadd, 1) := by decide +kernel
theorem d_law_541 : decode code 541 = .ok (.iaload, 1) := by decide +kernel
theorem d_law_542 : decode code 542 = .ok (.invokevirtual 75, 3) := by decide +kernel
theorem d_law_545 : decode code 545 = .ok (.aload_n 2, 1) := by decide +kernel
theorem d_law_546 : decode code 546 = .ok (.aload_n 0, 1) := by decide +kernel
theorem d_law_547 : decode code 547 = .ok (.iload 4, 2) := by decide +kernel
theorem d_law_549 : decode code 549 = .ok (.iconst 1, 1) := by decide +kernel
theorem d_law_550 : decode code 550 = .ok (.iadd, 1) := by decide +kernel
theorem d_law_551 : decode code 551 = .ok (.iaload, 1) := by decide +kernel
theorem d_law_552 : decode code 552 = .ok (.aload_n 0, 1) := by decide +kernel
theorem d_law_553 : decode code 553 = .ok (.iload 4, 2) := by decide +kernel
theorem d_law_555 : decode code 555 = .ok (.iconst 2, 1) := by decide +kernel
theorem d_law_556 : decode code 556 = .ok (.iadd, 1) := by decide +kernel
theorem d_law_557 : decode code 557 = .ok (.iaload, 1) := by decide +kernel
theorem d_law_558 : decode code 558 = .ok (.aload_n 0, 1) := by decide +kernel
theorem d_law_559 : decode code 559 = .ok (.iload 4, 2) := by decide +kernel
theorem d_law_561 : decode code 561 = .ok (.iconst 3, 1) := by decide +kernel
theorem d_law_562 : decode code 562 = .ok (.iadd, 1) := by decide +kernel
theorem d_law_563 : decode code 563 = .ok (.iaload, 1) := by decide +kernel
theorem d_law_564 : decode code 564 = .ok (.invokevirtual 79, 3) := by decide +kernel
theorem d_law_567 : decode code 567 = .ok (.if_icmp .eq 71, 3) := by decide +kernel
theorem d_law_570 : decode code 570 = .ok (.iconst 0, 1) := by decide +kernel
theorem d_law_571 : decode code 571 = .ok (.ireturn, 1) := by decide +kernel
theorem d_law_572 : decode code 572 = .ok (.aload_n 1, 1) := by decide +kernel
theorem d_law_573 : decode code 573 = .ok (.aload_n 0, 1) := by decide +kernel
theorem d_law_574 : decode code 574 = .ok (.iload 4, 2) := by decide +kernel
theorem d_law_576 : decode code 576 = .ok (.iconst 1, 1) := by decide +kernel
theorem d_law_577 : decode code 577 = .ok (.iadd, 1) := by decide +kernel
theorem d_law_578 : decode code 578 = .ok (.iaload, 1) := by decide +kernel
theorem d_law_579 : decode code 579 = .ok (.ifCond .eq 7, 3) := by decide +kernel
theorem d_law_582 : decode code 582 = .ok (.iconst 1, 1) := by decide +kernel
theorem d_law_583 : decode code 583 = .ok (.goto 4, 3) := by decide +kernel
theorem d_law_586 : decode code 586 = .ok (.iconst 0, 1) := by decide +kernel
theorem d_law_587 : decode code 587 = .ok (.invokevirtual 80, 3) := by decide +kernel
theorem d_law_590 : decode code 590 = .ok (.aload_n 2, 1) := by decide +kernel
theorem d_law_591 : decode code 591 = .ok (.aload_n 0, 1) := by decide +kernel
theorem d_law_592 : decode code 592 = .ok (.iload 4, 2) := by decide +kernel
theorem d_law_594 : decode code 594 = .ok (.iconst 1, 1) := by decide +kernel
theorem d_law_595 : decode code 595 = .ok (.iadd, 1) := by decide +kernel
theorem d_law_596 : decode code 596 = .ok (.iaload, 1) := by decide +kernel
theorem d_law_597 : decode code 597 = .ok (.ifCond .eq 7, 3) := by decide +kernel
theorem d_law_600 : decode code 600 = .ok (.iconst 1, 1) := by decide +kernel
theorem d_law_601 : decode code 601 = .ok (.goto 4, 3) := by decide +kernel
theorem d_law_604 : decode code 604 = .ok (.iconst 0, 1) := by decide +kernel
theorem d_law_605 : decode code 605 = .ok (.invokevirtual 84, 3) := by decide +kernel
theorem d_law_608 : decode code 608 = .ok (.if_icmp .eq 30, 3) := by decide +kernel
theorem d_law_611 : decode code 611 = .ok (.iconst 0, 1) := by decide +kernel
theorem d_law_612 : decode code 612 = .ok (.ireturn, 1) := by decide +kernel
theorem d_law_613 : decode code 613 = .ok (.aload_n 1, 1) := by decide +kernel
theorem d_law_614 : decode code 614 = .ok (.aload_n 0, 1) := by decide +kernel
theorem d_law_615 : decode code 615 = .ok (.iload 4, 2) := by decide +kernel
theorem d_law_617 : decode code 617 = .ok (.iconst 1, 1) := by decide +kernel
theorem d_law_618 : decode code 618 = .ok (.iadd, 1) := by decide +kernel
theorem d_law_619 : decode code 619 = .ok (.iaload, 1) := by decide +kernel
theorem d_law_620 : decode code 620 = .ok (.invokevirtual 85, 3) := by decide +kernel
theorem d_law_623 : decode code 623 = .ok (.aload_n 2, 1) := by decide +kernel
theorem d_law_624 : decode code 624 = .ok (.aload_n 0, 1) := by decide +kernel
theorem d_law_625 : decode code 625 = .ok (.iload 4, 2) := by decide +kernel
theorem d_law_627 : decode code 627 = .ok (.iconst 1, 1) := by decide +kernel
theorem d_law_628 : decode code 628 = .ok (.iadd, 1) := by decide +kernel
theorem d_law_629 : decode code 629 = .ok (.iaload, 1) := by decide +kernel
theorem d_law_630 : decode code 630 = .ok (.invokevirtual 88, 3) := by decide +kernel
theorem d_law_633 : decode code 633 = .ok (.if_icmp .eq 5, 3) := by decide +kernel
theorem d_law_636 : decode code 636 = .ok (.iconst 0, 1) := by decide +kernel
theorem d_law_637 : decode code 637 = .ok (.ireturn, 1) := by decide +kernel
theorem d_law_638 : decode code 638 = .ok (.iinc 4 4, 3) := by decide +kernel
theorem d_law_641 : decode code 641 = .ok (.goto (-618), 3) := by decide +kernel
theorem d_law_644 : decode code 644 = .ok (.iconst 1, 1) := by decide +kernel
theorem d_law_645 : decode code 645 = .ok (.ireturn, 1) := by decide +kernel
def lw_A (s : State) : Nat → Prop := fun x => s.heap.size ≤ x
def wW (G : hk_G) (ab am : Nat → Nat) (q : Nat) (u : cB) (v : cM) (lo : Nat → Int64) : va_W := wB G ab u ++ (wM G am v ++ [(q, .inl (G.2.2 5, 1, .inr (.inl lo)))])
def lw_lv (b q am ab i : Nat) : List (Nat × Value) := [(4, .int (nI i)), (3, .ref q), (2, .ref am), (1, .ref ab), (0, .ref b)]
/-- what the law's walk keeps: its entry, the words for calls, the tables, the words for the throw -/
def lw_C (p : Program) (l : Launch) (s : State) (m : MethodId) (meth : Method) (c : Code) (b L : Nat) (xs : Nat → Int32) (G : hk_G) (tz1 tz2 : Nat) : Prop :=
  lw_At p s m meth c b L xs ∧ hk_C p s m meth c R_LW code 7 ret #[Value.ref b] G ∧ l.flags = flags0 ∧ hk_T s ∧ hk_Z1 tz1 (lw_A s) s s.heap ∧ hk_Z2 tz2 (lw_A s) s s.heap
/-- how the loop goes on behind a call -/
def lw_K (p : Program) (l : Launch) (e : Env) (s : State) (m : MethodId) (below : List Frame) (meth : Method) (c : Code) (b : Nat) (G : hk_G) (ab am : Nat → Nat) (q i cells slots : Nat) : Prop :=
  ∀ (u : cB) (v : cM) (lo : Nat → Int64) (H : Heap) (locs : List Loc) (ls : Array Slot), RV u v → va_P (hk_D G) classes (wW G ab am q u v lo) H → va_D (lw_A s) (wW G ab am q u v lo) → va_S (lw_A s) s.heap H locs → lv_has ls 7 (lw_lv b q (am 0) (ab 0) i) → W p l e room_1 s m #[Value.ref b] below meth c H locs (cells + 1) (slots + 6) (lw_Z below #[Value.ref b] s) (F0 m 638 ls [])
section LWG
variable {p : Program} {l : Launch} {e : Env} {R : Room} {s : State} {m : MethodId} {args : Array Value} {below : List Frame} {meth : Method} {c : Code} {H : Heap} {locs : List Loc} {cells slots : Nat} {Q : State → Prop}
variable {own : String} {cc : ByteArray} {nL : Nat} {ret0 : Option FieldType} {G : hk_G} {A : Nat → Prop} {pc : Nat} {ls : Array Slot} {rest st : List Value} {H0 : Heap} {ws wc w2 : va_W}
variable {y : MethodName} {yb : ByteArray} {yn k idx : Nat} {rret : Option FieldType} {rm : Room} {Pc : Array Value → State → Prop} {Qc : Array Value → State → Outcome → State → Prop} {free : Addr → Prop} {a : Nat} {As : List Value} {mc ms : Nat}
variable {ab am : Nat → Nat} {q : Nat} {u u1 : cB} {v v1 : cM} {lo lo1 : Nat → Int64}
/-- hk_kV over any precondition -/
theorem hk_kVg (C : hk_C p s m meth c own cc nL ret0 args G) (hM : Met l y (Cond.code y yb yn rret :: hk_w) rm Pc Qc mc ms free) (hY : hk_Y y yb yn rret k) (hl : Cond.methodLink own idx y ∈ hk_w)
    (hrc : rm.cells = mc) (hrs : rm.slots = ms) (hR : rm.frames + 1 ≤ R.frames ∧ 8 + (yn + 11) + rm.locals ≤ R.locals)
    (hrv : ∃ cell : Cell, H[a]? = some cell ∧ cell.vm.isStatics = false ∧ s.vm.findClass y.cls = some cell.cls) (hp : PreS s H Pc (.ref a :: As))
    (hk : As.length = k) (hls : ls.size = nL) (hst : st = As.reverse ++ .ref a :: rest) (hrm : (rest.map fun v => v.category).sum ≤ 8) (hdg : decode cc pc = .ok (.invokevirtual idx, 3)) (hcs : cells + mc ≤ R.cells ∧ slots + ms ≤ R.slots) :
    va_Run p l e R s m args below meth c H locs cells slots mc ms (F0 m pc ls st) rest (Qc (Value.ref a :: As).toArray) free := by
  obtain ⟨h1, h2, h3, h4, h5⟩ := hY
  have hT : GoodIn hk_w (wsV own idx y.cls y (Cond.code y yb yn rret :: hk_w)) := hk_all (by
    intro w hw
    unfold wsV at hw
    rcases List.mem_append.mp hw with h | h
    · simp only [List.mem_cons, List.not_mem_nil, or_false] at h
      rcases h with rfl | rfl | rfl | rfl <;> assumption
    · rcases List.mem_cons.mp h with rfl | h
      · exact h4
      · exact h)
  exact va_runV ⟨C.1, C.2.1, C.2.2.2.1, C.2.2.2.2.1, C.2.2.2.2.2.1⟩ hM (cwV k C.2.2.2.2.2.1 hT rfl hrc hrs ⟨rfl, h5⟩ hR) ⟨hp.1, hrv, hp.2⟩ rfl hk hls hst (lv_room hrm) hdg hcs
theorem lw_goB {r : Int32} {av : Array Value} (hr : va_Run p l e R s m args below meth c H locs cells slots 0 0 (F0 m pc ls st) rest (va_Qi (fun (x : Int32) (_ : Unit) => x = r) (hk_B G (wB G ab u) (wB G ab u1) H.size) (va_A (wB G ab u) H.size) av) (va_A (wB G ab u) H.size)) (hP : va_P (hk_D G) classes (wW G ab am q u v lo) H) (hD : va_D A (wW G ab am q u v lo)) (hS : va_S A H0 H locs) (hA : ∀ q, H0.size ≤ q → A q)
    (kk : ∀ (H1 : Heap) (locs1 : List Loc), va_P (hk_D G) classes (wW G ab am q u1 v lo) H1 → va_D A (wW G ab am q u1 v lo) → va_S A H0 H1 locs1 → W p l e R s m args below meth c H1 locs1 cells slots Q (F0 m (pc + 3) ls (.int r :: rest))) : W p l e R s m args below meth c H locs cells slots Q (F0 m pc ls st) :=
  hk_goIc (w2 := wW G ab am q u1 v lo) hr hP hD hS hA [0, 1, 2, 3, 4, 5, 6, 7, 8, 9, 10, 11, 12, 13, 14, 15, 16, 17, 18, 19, 20, 21] [22, 23, 24, 25, 26, 27, 28, 29, 30, 31, 32, 33, 34, 35, 36] [15, 16, 17, 18, 19, 20, 21, 22, 23, 24, 25, 26, 27, 28, 29, 30, 31, 32, 33, 34, 35, 36, 0, 1, 2, 3, 4, 5, 6, 7, 8, 9, 10, 11, 12, 13, 14] rfl rfl (by decide) (by decide) rfl (by decide) kk
theorem lw_goM {r : Int32} {av : Array Value} (hr : va_Run p l e R s m args below meth c H locs cells slots 0 0 (F0 m pc ls st) rest (va_Qi (fun (x : Int32) (_ : Unit) => x = r) (hk_B G (wM G am v) (wM G am v1) H.size) (va_A (wM G am v) H.size) av) (va_A (wM G am v) H.size)) (hP : va_P (hk_D G) classes (wW G ab am q u v lo) H) (hD : va_D A (wW G ab am q u v lo)) (hS : va_S A H0 H locs) (hA : ∀ q, H0.size ≤ q → A q)
    (kk : ∀ (H1 : Heap) (locs1 : List Loc), va_P (hk_D G) classes (wW G ab am q u v1 lo) H1 → va_D A (wW G ab am q u v1 lo) → va_S A H0 H1 locs1 → W p l e R s m args below meth c H1 locs1 cells slots Q (F0 m (pc + 3) ls (.int r :: rest))) : W p l e R s m args below meth c H locs cells slots Q (F0 m pc ls st) :=
  hk_goIc (w2 := wW G ab am q u v1 lo) hr hP hD hS hA [22, 23, 24, 25, 26, 27, 28, 29, 30, 31, 32, 33, 34, 35] [0, 1, 2, 3, 4, 5, 6, 7, 8, 9, 10, 11, 12, 13, 14, 15, 16, 17, 18, 19, 20, 21, 36] [0, 1, 2, 3, 4, 5, 6, 7, 8, 9, 10, 11, 12, 13, 14, 15, 16, 17, 18, 19, 20, 21, 23, 24, 25, 26, 27, 28, 29, 30, 31, 32, 33, 34, 35, 36, 22] rfl rfl (by decide) (by decide) rfl (by decide) kk
theorem hk_goIm {r : Int32} {av : Array Value} {wc1 : va_W} (hr : va_Run p l e R s m args below meth c H locs cells slots mc ms (F0 m pc ls st) rest (va_Qi (fun (x : Int32) (_ : Unit) => x = r) (hk_B G wc wc1 H.size) (va_A wc H.size) av) (va_A wc H.size)) (hP : va_P (hk_D G) classes ws H) (hD : va_D A ws) (hS : va_S A H0 H locs) (hA : ∀ q, H0.size ≤ q → A q)
    (isC isR isN : List Nat) (hC : isC.map (fun i => ws[i]?) = wc.map some) (hRs : isR.map (fun i => ws[i]?) = (isR.filterMap (fun i => ws[i]?)).map some) (hn : va_nd isR = true) (hdis : ∀ i ∈ isR, i ∉ isC) (hN : isN.map (fun i => (isR.filterMap (fun i => ws[i]?) ++ wc1)[i]?) = w2.map some) (hnN : va_nd isN = true)
    (kk : ∀ (H1 : Heap) (locs1 : List Loc), va_P (hk_D G) classes w2 H1 → va_D A w2 → va_S A H0 H1 locs1 → W p l e R s m args below meth c H1 locs1 (cells + mc) (slots + ms) Q (F0 m (pc + 3) ls (.int r :: rest))) : W p l e R s m args below meth c H locs cells slots Q (F0 m pc ls st) := by
  have hF := hk_fr hD hS hA isC hC
  refine va_calli hr hS (fun q _ h => hF q h) hF (fun r' u t H1 locs1 ht hvm hp hB hz hk hS1 => ?_)
  have hp : r' = r := hp
  subst hp
  obtain ⟨hP1, hD1⟩ := hB
  rw [ht] at hP1
  obtain ⟨hP2, hD2⟩ := va_join hP hD isC isR hC hRs hn hdis hk hF hP1 hD1
  exact kk H1 locs1 (hP2.sub isN (hk_fm hN)) (hD2.sub isN hnN hN) hS1
theorem lw_goO {r : Int32} {av : Array Value} (hr : va_Run p l e R s m args below meth c H locs cells slots 1 6 (F0 m pc ls st) rest (va_Qi (fun (x : Int32) (_ : Unit) => x = r) (hk_B G (wO G ab q u lo) (wO G ab q u lo1) H.size) (va_A (wO G ab q u lo) H.size) av) (va_A (wO G ab q u lo) H.size)) (hP : va_P (hk_D G) classes (wW G ab am q u v lo) H) (hD : va_D A (wW G ab am q u v lo)) (hS : va_S A H0 H locs) (hA : ∀ q, H0.size ≤ q → A q)
    (kk : ∀ (H1 : Heap) (locs1 : List Loc), va_P (hk_D G) classes (wW G ab am q u v lo1) H1 → va_D A (wW G ab am q u v lo1) → va_S A H0 H1 locs1 → W p l e R s m args below meth c H1 locs1 (cells + 1) (slots + 6) Q (F0 m (pc + 3) ls (.int r :: rest))) : W p l e R s m args below meth c H locs cells slots Q (F0 m pc ls st) :=
  hk_goIm (w2 := wW G ab am q u v lo1) hr hP hD hS hA [0, 1, 2, 3, 4, 5, 6, 7, 8, 9, 10, 11, 12, 13, 14, 15, 16, 17, 18, 19, 20, 21, 36] [22, 23, 24, 25, 26, 27, 28, 29, 30, 31, 32, 33, 34, 35] [14, 15, 16, 17, 18, 19, 20, 21, 22, 23, 24, 25, 26, 27, 28, 29, 30, 31, 32, 33, 34, 35, 0, 1, 2, 3, 4, 5, 6, 7, 8, 9, 10, 11, 12, 13, 36] rfl rfl (by decide) (by decide) rfl (by decide) kk
end LWG
section LWH
variable {p : Program} {l : Launch} {e : Env} {s : State} {m : MethodId} {below : List Frame} {meth : Method} {c : Code} {b L : Nat} {xs : Nat → Int32} {G : hk_G} {tz1 tz2 : Nat} {H : Heap} {locs : List Loc} {cells slots : Nat} {Q : State → Prop}
variable {ab am : Nat → Nat} {q : Nat} {u : cB} {v : cM} {lo : Nat → Int64}
theorem lw_fB (hD : va_D (lw_A s) (wW G ab am q u v lo)) (hS : va_S (lw_A s) s.heap H locs) : ∀ x, va_A (wB G ab u) H.size x → lw_A s x := hk_fr hD hS (fun _ h => h) [0, 1, 2, 3, 4, 5, 6, 7, 8, 9, 10, 11, 12, 13, 14, 15, 16, 17, 18, 19, 20, 21] rfl
theorem hk_Z1.go {tz : Nat} {A B : Nat → Prop} {U : State} {H : Heap} (hZ : hk_Z1 tz A s s.heap) (hW : s.WarmedH U.vm) (hk : ∀ x : Nat, x < s.heap.size → ¬ A x → H[x]? = s.heap[x]?) (hB : ∀ x, B x → A x) : hk_Z1 tz B U H := ⟨((hZ.1.moved hW.alike).kept hk).narrow hB, ((hZ.2.moved hW.alike).kept hk).narrow hB⟩
theorem hk_Z2.go {tz : Nat} {A B : Nat → Prop} {U : State} {H : Heap} (hZ : hk_Z2 tz A s s.heap) (hW : s.WarmedH U.vm) (hk : ∀ x : Nat, x < s.heap.size → ¬ A x → H[x]? = s.heap[x]?) (hB : ∀ x, B x → A x) : hk_Z2 tz B U H := ⟨((hZ.1.moved hW.alike).kept hk).narrow hB, ((hZ.2.moved hW.alike).kept hk).narrow hB⟩
theorem lw_pz1 (K : lw_C p l s m meth c b L xs G tz1 tz2) (hP : va_P (hk_D G) classes (wW G ab am q u v lo) H) (hD : va_D (lw_A s) (wW G ab am q u v lo)) (hS : va_S (lw_A s) s.heap H locs) {av : List Value} : PreS s H (va_Pc av (hk_PZ G (wB G ab u) (hk_Z1 tz1) H.size)) av := by
  have hp := hk_pre (av := av) K.2.1 (hP.sub (ws' := wB G ab u) [0, 1, 2, 3, 4, 5, 6, 7, 8, 9, 10, 11, 12, 13, 14, 15, 16, 17, 18, 19, 20, 21] rfl) (hD.sub (ws' := wB G ab u) [0, 1, 2, 3, 4, 5, 6, 7, 8, 9, 10, 11, 12, 13, 14, 15, 16, 17, 18, 19, 20, 21] (by decide) rfl)
  refine ⟨fun a U g mk h => ?_, fun U hU hW => ?_⟩
  · obtain ⟨h1, h2, h3⟩ := h
    exact ⟨h1, (hp.1 a U g mk ⟨h1, h2⟩).2, ⟨h3.1.moved (u := U) (U := U.calling g mk a) (Vm.Alike.refl U.vm), h3.2.moved (u := U) (U := U.calling g mk a) (Vm.Alike.refl U.vm)⟩⟩
  · refine ⟨(hp.2 U hU hW).1, (hp.2 U hU hW).2, ?_⟩
    rw [hU]
    exact K.2.2.2.2.1.go hW hS.2.1 (lw_fB hD hS)
theorem lw_pz2 (K : lw_C p l s m meth c b L xs G tz1 tz2) (hP : va_P (hk_D G) classes (wW G ab am q u v lo) H) (hD : va_D (lw_A s) (wW G ab am q u v lo)) (hS : va_S (lw_A s) s.heap H locs) {av : List Value} : PreS s H (va_Pc av (hk_PZ G (wB G ab u) (hk_Z2 tz2) H.size)) av := by
  have hp := hk_pre (av := av) K.2.1 (hP.sub (ws' := wB G ab u) [0, 1, 2, 3, 4, 5, 6, 7, 8, 9, 10, 11, 12, 13, 14, 15, 16, 17, 18, 19, 20, 21] rfl) (hD.sub (ws' := wB G ab u) [0, 1, 2, 3, 4, 5, 6, 7, 8, 9, 10, 11, 12, 13, 14, 15, 16, 17, 18, 19, 20, 21] (by decide) rfl)
  refine ⟨fun a U g mk h => ?_, fun U hU hW => ?_⟩
  · obtain ⟨h1, h2, h3⟩ := h
    exact ⟨h1, (hp.1 a U g mk ⟨h1, h2⟩).2, ⟨h3.1.moved (u := U) (U := U.calling g mk a) (Vm.Alike.refl U.vm), h3.2.moved (u := U) (U := U.calling g mk a) (Vm.Alike.refl U.vm)⟩⟩
  · refine ⟨(hp.2 U hU hW).1, (hp.2 U hU hW).2, ?_⟩
    rw [hU]
    exact K.2.2.2.2.2.go hW hS.2.1 (lw_fB hD hS)
theorem lw_kept {U : State} (hS : va_S (lw_A s) s.heap H locs) (hU : U.heap = H) : Jvm.Free.StaticsKept s U := by
  intro x cx hx _
  have hlt : x < s.heap.size := (Array.getElem?_eq_some_iff.mp hx).1
  rw [hU, hS.2.1 x hlt (Nat.not_le.mpr hlt)]
  exact hx
/-- the call of the law's own output -/
theorem lw_runO (K : lw_C p l s m meth c b L xs G tz1 tz2) (hP : va_P (hk_D G) classes (wW G ab am q u v lo) H) (hD : va_D (lw_A s) (wW G ab am q u v lo)) (hS : va_S (lw_A s) s.heap H locs) (hI : Iv u) {p1 : Int32} {pc : Nat} {ls : Array Slot} (hls : ls.size = 7) (hdg : decode code pc = .ok (.invokestatic 24, 3)) (hcs : cells + 1 ≤ room_1.cells ∧ slots + 6 ≤ room_1.slots) :
    va_Run p l e room_1 s m #[Value.ref b] below meth c H locs cells slots 1 6 (F0 m pc ls [.ref q, .int p1, .ref (ab 0)]) [] (va_Qi (fun (x : Int32) (_ : Unit) => x = rO p1) (hk_B G (wO G ab q u lo) (wO G ab q u (lO p1 u lo)) H.size) (va_A (wO G ab q u lo) H.size) ([.ref (ab 0), .int p1, .ref q] : List Value).toArray) (va_A (wO G ab q u lo) H.size) := by
  have C := K.2.1
  have hts := C.2.2.2.2.2.1
  have hM := c_LO l K.2.2.1 G ab q u hI lo p1 H.size
  have hcw : Cond.codeWith y_LO b_LO 4 (some .int) hLO ∈ hk_w := hk_in (List.mem_of_getElem? (i := 431) rfl) rfl
  have hws : ∀ w ∈ (Cond.codeWith y_LO b_LO 4 (some .int) hLO :: hk_w), ∀ (a' : Array Value) (U : State), s.WarmedH U.vm → w.before a' U = true := by
    intro w hw a' U hW
    have hin : w ∈ hk_w := by
      rcases List.mem_cons.mp hw with rfl | h
      · exact hcw
      · exact h
    exact word_at hW (good_of_word (List.mem_filter.mp hin).2) (hts w hin)
  have hK : Back l room_1 p e below s #[Value.ref b] y_LO 3 8 (PreOf room_1 1 6 (PcO G [.ref (ab 0), .int p1, .ref q] (wO G ab q u lo) H.size)) (PostOf (va_Qi (fun (x : Int32) (_ : Unit) => x = rO p1) (hk_B G (wO G ab q u lo) (wO G ab q u (lO p1 u lo)) H.size) (va_A (wO G ab q u lo) H.size)) 1 6 (va_A (wO G ab q u lo) H.size)) :=
    va_backW (hh := hLO) (bytes := b_LO) (maxL := 4) (ret := some .int) hM PcO.blind rfl rfl (by decide) (by decide) hws List.mem_cons_self (fun a' U hW => word_at hW (Or.inl rfl) (hts (.initialized R_LW) (hk_in (by decide +kernel) rfl)))
  have hPo := hP.sub (ws' := wO G ab q u lo) [0, 1, 2, 3, 4, 5, 6, 7, 8, 9, 10, 11, 12, 13, 14, 15, 16, 17, 18, 19, 20, 21, 36] rfl
  have hDo := hD.sub (ws' := wO G ab q u lo) [0, 1, 2, 3, 4, 5, 6, 7, 8, 9, 10, 11, 12, 13, 14, 15, 16, 17, 18, 19, 20, 21, 36] (by decide) rfl
  intro T hT X
  obtain ⟨vv, vm₁, ⟨U', l2, c2, s2⟩, hW₁, X', ⟨g', mk, t, L', e1, e2, hq, h1, hL, h2, h3⟩, st⟩ := callSW X C.1 (own := R_LW) (index := 24) (y := y_LO) (bytes := b_LO) (maxL := 4) (ret := some .int) (hh := hLO) C.2.2.2.2.1 (hts _ (hk_in (by decide +kernel) rfl)) (hts _ (hk_in (by decide +kernel) rfl)) (hts _ (hk_in (by decide +kernel) rfl)) (hts _ hcw) ⟨by decide, by decide⟩ hK
    (g := F0 m pc ls [.ref q, .int p1, .ref (ab 0)]) rfl (hls.trans C.2.2.2.1.symm) (argsL := [.ref (ab 0), .int p1, .ref q]) (rest := []) (fun sig hs => by
      have h6 : (parseMethodDescriptor y_LO.desc).map (fun d => d.parameters.length) = some 3 := by decide +kernel
      rw [hs] at h6
      exact (Option.some.inj h6).symm) rfl (lv_room (Nat.le_of_ble_eq_true rfl)) (by rw [C.2.1]; exact hdg)
    (fun vm₁ hW₁ => ⟨hcs.1, hcs.2, rfl, ⟨by rw [← hT]; rfl, by rw [show (T.setVm vm₁).heap = H from hT]; exact hPo, hk_E.warm C.2.2.2.2.2.2.2 hW₁, hDo.weaken (fun _ _ _ _ => trivial)⟩, hk_T.ride (U := T.setVm vm₁) hW₁ (lw_kept hS hT) K.2.2.2.1⟩)
  dsimp only [Pt.U, Pt.locs, Pt.cells, Pt.slots] at X' e1 e2 h1 h2 h3 st
  subst h1; subst h2; subst h3
  exact ⟨vv, (T.setVm vm₁).calling g' mk ([.ref (ab 0), .int p1, .ref q] : List Value).toArray, t, U', L', hT, X', hL, e1, e2, hq, st⟩
end LWH
theorem lo_read {p1 : Int32} {u : cB} {lo : Nat → Int64} {x : Int32} (hp : ¬ m_B_isBelow p1 10 = 0) (h : m_B_outputNow p1 u = x) : lO p1 u lo (0 : Int32).toNatClampNeg = x.toInt64 := by
  have e : lO p1 u lo = vp_updL lo 0 (m_B_outputNow p1 u).toInt64 := if_neg hp
  rw [e, h]
  rfl
theorem lg_cmp_self (x : Int64) : lg_cmp x x = 0 := by
  unfold lg_cmp
  simp
theorem lw_out15 {x : Int32} (h0 : ¬ (x &&& 15) = 0) (h1 : ¬ (x &&& 15) = 1) (h2 : ¬ (x &&& 15) = 2) (h3 : ¬ (x &&& 15) = 3) (h4 : ¬ (x &&& 15) = 4) (h5 : ¬ (x &&& 15) = 5) (h6 : ¬ (x &&& 15) = 6) (h7 : ¬ (x &&& 15) = 7) (h8 : ¬ (x &&& 15) = 8) (h9 : ¬ (x &&& 15) = 9) (h10 : ¬ (x &&& 15) = 10) (h11 : ¬ (x &&& 15) = 11) (h12 : ¬ (x &&& 15) = 12) (h13 : ¬ (x &&& 15) = 13) (h14 : ¬ (x &&& 15) = 14) : 14 < (x &&& 15).toInt := by
  obtain ⟨m0, m1⟩ := hi_mask x
  have key : ∀ k : Int32, ¬ (x &&& 15) = k → ¬ (x &&& 15).toInt = k.toInt := fun k h z => h (Int32.toInt_inj.mp z)
  have g0 := key 0 h0
  have g1 := key 1 h1
  have g2 := key 2 h2
  have g3 := key 3 h3
  have g4 := key 4 h4
  have g5 := key 5 h5
  have g6 := key 6 h6
  have g7 := key 7 h7
  have g8 := key 8 h8
  have g9 := key 9 h9
  have g10 := key 10 h10
  have g11 := key 11 h11
  have g12 := key 12 h12
  have g13 := key 13 h13
  have g14 := key 14 h14
  rw [show (0 : Int32).toInt = 0 from rfl] at g0
  rw [show (1 : Int32).toInt = 1 from rfl] at g1
  rw [show (2 : Int32).toInt = 2 from rfl] at g2
  rw [show (3 : Int32).toInt = 3 from rfl] at g3
  rw [show (4 : Int32).toInt = 4 from rfl] at g4
  rw [show (5 : Int32).toInt = 5 from rfl] at g5
  rw [show (6 : Int32).toInt = 6 from rfl] at g6
  rw [show (7 : Int32).toInt = 7 from rfl] at g7
  rw [show (8 : Int32).toInt = 8 from rfl] at g8
  rw [show (9 : Int32).toInt = 9 from rfl] at g9
  rw [show (10 : Int32).toInt = 10 from rfl] at g10
  rw [show (11 : Int32).toInt = 11 from rfl] at g11
  rw [show (12 : Int32).toInt = 12 from rfl] at g12
  rw [show (13 : Int32).toInt = 13 from rfl] at g13
  rw [show (14 : Int32).toInt = 14 from rfl] at g14
  omega
