/-! THE LAW: what comes ahead of the walk is the skeleton's -/
def R_law : String := "TwoTrueLaw"
def lw_P (b : Addr) (xs : List Int32) (args : Array Value) (s : State) : Prop := args = #[.ref b] ∧ s.IntsAt b xs ∧ xs.length ≤ 3072 ∧ (Jvm.Cond.and given_1 narrow_1).before args s = true
def lw_Q (_ : Array Value) (s : State) (o : Outcome) (t : State) : Prop := o = .returned (some (.int 1)) ∧ Framed s o t [] 600000 7302250
def lw_Z (below : List Frame) (a : Array Value) (s : State) : State → Prop := fun t => ∃ o, t.status = .running ∧ Ended t below o ∧ lw_Q a s o t
/-- the law's own end, with 1 on the stack, nothing written that was there before, its room as the claim has it -/
theorem lw_ret {p : Program} {l : Launch} {e : Env} {s : State} {m : MethodId} {below : List Frame} {meth : Method} {c : Code} {b : Nat} (hx : p.tables.exec = Jvm.exec) (hb : c.code = code) (hr : meth.sig.returnType = ret) (hlocks : meth.locks = false) {pc : Nat} {H : Heap} {ls : Array Slot} (hdg : decode code pc = .ok (.ireturn, 1)) : W p l e room_1 s m #[Value.ref b] below meth c H [] 600000 7302250 (lw_Z below #[Value.ref b] s) (F0 m pc ls [.int 1]) := by
  intro T hT X
  obtain ⟨fs, hret, hrun, hended, hW, hframe⟩ := X.leave (v := some (.int 1)) (hlocks := hlocks) (fun h => by rw [hr] at h; cases h)
  have hmeth' : T.vm.method? m = some meth := X.method'
  refine ⟨T.setFrames fs, ?_, .returned (some (.int 1)), hrun, hended, rfl, ⟨_, rfl⟩, hW, hframe⟩
  jvm_step X.here [X.here.top, hx, hb, hdg, hmeth', hr, ret, narrow_b1]
  (try refine ⟨rfl, ?_⟩); (try refine ⟨rfl, ?_⟩)
  first | (intro acts; rw [hret _ acts rfl rfl rfl]) | rw [hret _ _ rfl rfl rfl]
  exact Steps.refl _
/-- what holds at the law's entry: the machine, the code, the tables' words (any of lw_tbl by 'hts w (by decide +kernel)'), the script of L ints xs at the cell b, what the Statement gives of the start (any of its parts by flat_of_before) -/
def lw_At (p : Program) (s : State) (m : MethodId) (meth : Method) (c : Code) (b L : Nat) (xs : Nat → Int32) : Prop :=
  p.tables.exec = Jvm.exec ∧ c.code = code ∧ meth.sig.returnType = ret ∧ c.maxLocals = 4 ∧ s.vm.findClass R_law = some m.cls ∧ (∀ w ∈ lw_tbl, w.before #[Value.ref b] s = true) ∧ va_X b L xs s s.heap ∧ b < s.heap.size ∧ meth.locks = false ∧ (Jvm.Cond.and given_1 narrow_1).before #[Value.ref b] s = true

theorem dw_0 : decode code 0 = .ok (.new 7, 3) := by decide +kernel
theorem dw_3 : decode code 3 = .ok (.dup, 1) := by decide +kernel
theorem dw_4 : decode code 4 = .ok (.invokespecial 9, 3) := by decide +kernel
theorem dw_7 : decode code 7 = .ok (.astore_n 1, 1) := by decide +kernel
theorem dw_8 : decode code 8 = .ok (.new 10, 3) := by decide +kernel
theorem dw_11 : decode code 11 = .ok (.dup, 1) := by decide +kernel
theorem dw_12 : decode code 12 = .ok (.invokespecial 12, 3) := by decide +kernel
theorem dw_15 : decode code 15 = .ok (.astore_n 2, 1) := by decide +kernel
theorem dw_16 : decode code 16 = .ok (.iconst 0, 1) := by decide +kernel
theorem dw_17 : decode code 17 = .ok (.istore_n 3, 1) := by decide +kernel
theorem dw_18 : decode code 18 = .ok (.iload_n 3, 1) := by decide +kernel
theorem dw_19 : decode code 19 = .ok (.aload_n 0, 1) := by decide +kernel
theorem dw_20 : decode code 20 = .ok (.arraylength, 1) := by decide +kernel
theorem dw_21 : decode code 21 = .ok (.bipush 6, 2) := by decide +kernel
theorem dw_23 : decode code 23 = .ok (.isub, 1) := by decide +kernel
theorem dw_24 : decode code 24 = .ok (.if_icmp .gt 1412, 3) := by decide +kernel
theorem dw_27 : decode code 27 = .ok (.aload_n 0, 1) := by decide +kernel
theorem dw_28 : decode code 28 = .ok (.iload_n 3, 1) := by decide +kernel
theorem dw_29 : decode code 29 = .ok (.iaload, 1) := by decide +kernel
theorem dw_30 : decode code 30 = .ok (.bipush 63, 2) := by decide +kernel
theorem dw_32 : decode code 32 = .ok (.iand, 1) := by decide +kernel
theorem dw_33 : decode code 33 = .ok (.tableswitch 1397 0 36 #[163, 196, 249, 282, 325, 358, 401, 424, 437, 460, 503, 526, 559, 592, 625, 658, 691, 734, 767, 790, 823, 846, 889, 923, 947, 990, 1003, 1036, 1049, 1062, 1105, 1128, 1161, 1184, 1227, 1300, 1334], 163) := by decide +kernel
theorem dw_196 : decode code 196 = .ok (.aload_n 1, 1) := by decide +kernel
theorem dw_197 : decode code 197 = .ok (.aload_n 0, 1) := by decide +kernel
theorem dw_198 : decode code 198 = .ok (.iload_n 3, 1) := by decide +kernel
theorem dw_199 : decode code 199 = .ok (.iconst 1, 1) := by decide +kernel
theorem dw_200 : decode code 200 = .ok (.iadd, 1) := by decide +kernel
theorem dw_201 : decode code 201 = .ok (.iaload, 1) := by decide +kernel
theorem dw_202 : decode code 202 = .ok (.aload_n 0, 1) := by decide +kernel
theorem dw_203 : decode code 203 = .ok (.iload_n 3, 1) := by decide +kernel
theorem dw_204 : decode code 204 = .ok (.iconst 2, 1) := by decide +kernel
theorem dw_205 : decode code 205 = .ok (.iadd, 1) := by decide +kernel
theorem dw_206 : decode code 206 = .ok (.iaload, 1) := by decide +kernel
theorem dw_207 : decode code 207 = .ok (.invokevirtual 13, 3) := by decide +kernel
theorem dw_210 : decode code 210 = .ok (.aload_n 2, 1) := by decide +kernel
theorem dw_211 : decode code 211 = .ok (.aload_n 0, 1) := by decide +kernel
theorem dw_212 : decode code 212 = .ok (.iload_n 3, 1) := by decide +kernel
theorem dw_213 : decode code 213 = .ok (.iconst 1, 1) := by decide +kernel
theorem dw_214 : decode code 214 = .ok (.iadd, 1) := by decide +kernel
theorem dw_215 : decode code 215 = .ok (.iaload, 1) := by decide +kernel
theorem dw_216 : decode code 216 = .ok (.aload_n 0, 1) := by decide +kernel
theorem dw_217 : decode code 217 = .ok (.iload_n 3, 1) := by decide +kernel
theorem dw_218 : decode code 218 = .ok (.iconst 2, 1) := by decide +kernel
theorem dw_219 : decode code 219 = .ok (.iadd, 1) := by decide +kernel
theorem dw_220 : decode code 220 = .ok (.iaload, 1) := by decide +kernel
theorem dw_221 : decode code 221 = .ok (.invokevirtual 17, 3) := by decide +kernel
theorem dw_224 : decode code 224 = .ok (.if_icmp .eq 1206, 3) := by decide +kernel
theorem dw_227 : decode code 227 = .ok (.iconst 0, 1) := by decide +kernel
theorem dw_228 : decode code 228 = .ok (.ireturn, 1) := by decide +kernel
theorem dw_229 : decode code 229 = .ok (.aload_n 1, 1) := by decide +kernel
theorem dw_230 : decode code 230 = .ok (.aload_n 0, 1) := by decide +kernel
theorem dw_231 : decode code 231 = .ok (.iload_n 3, 1) := by decide +kernel
theorem dw_232 : decode code 232 = .ok (.iconst 1, 1) := by decide +kernel
theorem dw_233 : decode code 233 = .ok (.iadd, 1) := by decide +kernel
theorem dw_234 : decode code 234 = .ok (.iaload, 1) := by decide +kernel
theorem dw_235 : decode code 235 = .ok (.aload_n 0, 1) := by decide +kernel
theorem dw_236 : decode code 236 = .ok (.iload_n 3, 1) := by decide +kernel
theorem dw_237 : decode code 237 = .ok (.iconst 2, 1) := by decide +kernel
theorem dw_238 : decode code 238 = .ok (.iadd, 1) := by decide +kernel
theorem dw_239 : decode code 239 = .ok (.iaload, 1) := by decide +kernel
theorem dw_240 : decode code 240 = .ok (.aload_n 0, 1) := by decide +kernel
theorem dw_241 : decode code 241 = .ok (.iload_n 3, 1) := by decide +kernel
theorem dw_242 : decode code 242 = .ok (.iconst 3, 1) := by decide +kernel
theorem dw_243 : decode code 243 = .ok (.iadd, 1) := by decide +kernel
theorem dw_244 : decode code 244 = .ok (.iaload, 1) := by decide +kernel
theorem dw_245 : decode code 245 = .ok (.aload_n 0, 1) := by decide +kernel
theorem dw_246 : decode code 246 = .ok (.iload_n 3, 1) := by decide +kernel
theorem dw_247 : decode code 247 = .ok (.iconst 4, 1) := by decide +kernel
theorem dw_248 : decode code 248 = .ok (.iadd, 1) := by decide +kernel
theorem dw_249 : decode code 249 = .ok (.iaload, 1) := by decide +kernel
theorem dw_250 : decode code 250 = .ok (.invokevirtual 18, 3) := by decide +kernel
theorem dw_253 : decode code 253 = .ok (.aload_n 2, 1) := by decide +kernel
theorem dw_254 : decode code 254 = .ok (.aload_n 0, 1) := by decide +kernel
theorem dw_255 : decode code 255 = .ok (.iload_n 3, 1) := by decide +kernel
theorem dw_256 : decode code 256 = .ok (.iconst 1, 1) := by decide +kernel
theorem dw_257 : decode code 257 = .ok (.iadd, 1) := by decide +kernel
theorem dw_258 : decode code 258 = .ok (.iaload, 1) := by decide +kernel
theorem dw_259 : decode code 259 = .ok (.aload_n 0, 1) := by decide +kernel
theorem dw_260 : decode code 260 = .ok (.iload_n 3, 1) := by decide +kernel
theorem dw_261 : decode code 261 = .ok (.iconst 2, 1) := by decide +kernel
theorem dw_262 : decode code 262 = .ok (.iadd, 1) := by decide +kernel
theorem dw_263 : decode code 263 = .ok (.iaload, 1) := by decide +kernel
theorem dw_264 : decode code 264 = .ok (.aload_n 0, 1) := by decide +kernel
theorem dw_265 : decode code 265 = .ok (.iload_n 3, 1) := by decide +kernel
theorem dw_266 : decode code 266 = .ok (.iconst 3, 1) := by decide +kernel
theorem dw_267 : decode code 267 = .ok (.iadd, 1) := by decide +kernel
theorem dw_268 : decode code 268 = .ok (.iaload, 1) := by decide +kernel
theorem dw_269 : decode code 269 = .ok (.aload_n 0, 1) := by decide +kernel
theorem dw_270 : decode code 270 = .ok (.iload_n 3, 1) := by decide +kernel
theorem dw_271 : decode code 271 = .ok (.iconst 4, 1) := by decide +kernel
theorem dw_272 : decode code 272 = .ok (.iadd, 1) := by decide +kernel
theorem dw_273 : decode code 273 = .ok (.iaload, 1) := by decide +kernel
theorem dw_274 : decode code 274 = .ok (.invokevirtual 22, 3) := by decide +kernel
theorem dw_277 : decode code 277 = .ok (.if_icmp .eq 1153, 3) := by decide +kernel
theorem dw_280 : decode code 280 = .ok (.iconst 0, 1) := by decide +kernel
theorem dw_281 : decode code 281 = .ok (.ireturn, 1) := by decide +kernel
theorem dw_282 : decode code 282 = .ok (.aload_n 1, 1) := by decide +kernel
theorem dw_283 : decode code 283 = .ok (.aload_n 0, 1) := by decide +kernel
theorem dw_284 : decode code 284 = .ok (.iload_n 3, 1) := by decide +kernel
theorem dw_285 : decode code 285 = .ok (.iconst 1, 1) := by decide +kernel
theorem dw_286 : decode code 286 = .ok (.iadd, 1) := by decide +kernel
theorem dw_287 : decode code 287 = .ok (.iaload, 1) := by decide +kernel
theorem dw_288 : decode code 288 = .ok (.aload_n 0, 1) := by decide +kernel
theorem dw_289 : decode code 289 = .ok (.iload_n 3, 1) := by decide +kernel
theorem dw_290 : decode code 290 = .ok (.iconst 2, 1) := by decide +kernel
theorem dw_291 : decode code 291 = .ok (.iadd, 1) := by decide +kernel
theorem dw_292 : decode code 292 = .ok (.iaload, 1) := by decide +kernel
theorem dw_293 : decode code 293 = .ok (.invokevirtual 23, 3) := by decide +kernel
theorem dw_296 : decode code 296 = .ok (.aload_n 2, 1) := by decide +kernel
theorem dw_297 : decode code 297 = .ok (.aload_n 0, 1) := by decide +kernel
theorem dw_298 : decode code 298 = .ok (.iload_n 3, 1) := by decide +kernel
theorem dw_299 : decode code 299 = .ok (.iconst 1, 1) := by decide +kernel
theorem dw_300 : decode code 300 = .ok (.iadd, 1) := by decide +kernel
theorem dw_301 : decode code 301 = .ok (.iaload, 1) := by decide +kernel
theorem dw_302 : decode code 302 = .ok (.aload_n 0, 1) := by decide +kernel
theorem dw_303 : decode code 303 = .ok (.iload_n 3, 1) := by decide +kernel
theorem dw_304 : decode code 304 = .ok (.iconst 2, 1) := by decide +kernel
theorem dw_305 : decode code 305 = .ok (.iadd, 1) := by decide +kernel
theorem dw_306 : decode code 306 = .ok (.iaload, 1) := by decide +kernel
theorem dw_307 : decode code 307 = .ok (.invokevirtual 26, 3) := by decide +kernel
theorem dw_310 : decode code 310 = .ok (.if_icmp .eq 1120, 3) := by decide +kernel
theorem dw_313 : decode code 313 = .ok (.iconst 0, 1) := by decide +kernel
theorem dw_314 : decode code 314 = .ok (.ireturn, 1) := by decide +kernel
theorem dw_315 : decode code 315 = .ok (.aload_n 1, 1) := by decide +kernel
theorem dw_316 : decode code 316 = .ok (.aload_n 0, 1) := by decide +kernel
theorem dw_317 : decode code 317 = .ok (.iload_n 3, 1) := by decide +kernel
theorem dw_318 : decode code 318 = .ok (.iconst 1, 1) := by decide +kernel
theorem dw_319 : decode code 319 = .ok (.iadd, 1) := by decide +kernel
theorem dw_320 : decode code 320 = .ok (.iaload, 1) := by decide +kernel
theorem dw_321 : decode code 321 = .ok (.aload_n 0, 1) := by decide +kernel
theorem dw_322 : decode code 322 = .ok (.iload_n 3, 1) := by decide +kernel
theorem dw_323 : decode code 323 = .ok (.iconst 2, 1) := by decide +kernel
theorem dw_324 : decode code 324 = .ok (.iadd, 1) := by decide +kernel
theorem dw_325 : decode code 325 = .ok (.iaload, 1) := by decide +kernel
theorem dw_326 : decode code 326 = .ok (.aload_n 0, 1) := by decide +kernel
theorem dw_327 : decode code 327 = .ok (.iload_n 3, 1) := by decide +kernel
theorem dw_328 : decode code 328 = .ok (.iconst 3, 1) := by decide +kernel
theorem dw_329 : decode code 329 = .ok (.iadd, 1) := by decide +kernel
theorem dw_330 : decode code 330 = .ok (.iaload, 1) := by decide +kernel
theorem dw_331 : decode code 331 = .ok (.invokevirtual 27, 3) := by decide +kernel
theorem dw_334 : decode code 334 = .ok (.aload_n 2, 1) := by decide +kernel
theorem dw_335 : decode code 335 = .ok (.aload_n 0, 1) := by decide +kernel
theorem dw_336 : decode code 336 = .ok (.iload_n 3, 1) := by decide +kernel
theorem dw_337 : decode code 337 = .ok (.iconst 1, 1) := by decide +kernel
theorem dw_338 : decode code 338 = .ok (.iadd, 1) := by decide +kernel
theorem dw_339 : decode code 339 = .ok (.iaload, 1) := by decide +kernel
theorem dw_340 : decode code 340 = .ok (.aload_n 0, 1) := by decide +kernel
theorem dw_341 : decode code 341 = .ok (.iload_n 3, 1) := by decide +kernel
theorem dw_342 : decode code 342 = .ok (.iconst 2, 1) := by decide +kernel
theorem dw_343 : decode code 343 = .ok (.iadd, 1) := by decide +kernel
theorem dw_344 : decode code 344 = .ok (.iaload, 1) := by decide +kernel
theorem dw_345 : decode code 345 = .ok (.aload_n 0, 1) := by decide +kernel
theorem dw_346 : decode code 346 = .ok (.iload_n 3, 1) := by decide +kernel
theorem dw_347 : decode code 347 = .ok (.iconst 3, 1) := by decide +kernel
theorem dw_348 : decode code 348 = .ok (.iadd, 1) := by decide +kernel
theorem dw_349 : decode code 349 = .ok (.iaload, 1) := by decide +kernel
theorem dw_350 : decode code 350 = .ok (.invokevirtual 31, 3) := by decide +kernel
theorem dw_353 : decode code 353 = .ok (.if_icmp .eq 1077, 3) := by decide +kernel
theorem dw_356 : decode code 356 = .ok (.iconst 0, 1) := by decide +kernel
theorem dw_357 : decode code 357 = .ok (.ireturn, 1) := by decide +kernel
theorem dw_358 : decode code 358 = .ok (.aload_n 1, 1) := by decide +kernel
theorem dw_359 : decode code 359 = .ok (.aload_n 0, 1) := by decide +kernel
theorem dw_360 : decode code 360 = .ok (.iload_n 3, 1) := by decide +kernel
theorem dw_361 : decode code 361 = .ok (.iconst 1, 1) := by decide +kernel
theorem dw_362 : decode code 362 = .ok (.iadd, 1) := by decide +kernel
theorem dw_363 : decode code 363 = .ok (.iaload, 1) := by decide +kernel
theorem dw_364 : decode code 364 = .ok (.aload_n 0, 1) := by decide +kernel
theorem dw_365 : decode code 365 = .ok (.iload_n 3, 1) := by decide +kernel
theorem dw_366 : decode code 366 = .ok (.iconst 2, 1) := by decide +kernel
theorem dw_367 : decode code 367 = .ok (.iadd, 1) := by decide +kernel
theorem dw_368 : decode code 368 = .ok (.iaload, 1) := by decide +kernel
theorem dw_369 : decode code 369 = .ok (.invokevirtual 32, 3) := by decide +kernel
theorem dw_372 : decode code 372 = .ok (.aload_n 2, 1) := by decide +kernel
theorem dw_373 : decode code 373 = .ok (.aload_n 0, 1) := by decide +kernel
theorem dw_374 : decode code 374 = .ok (.iload_n 3, 1) := by decide +kernel
theorem dw_375 : decode code 375 = .ok (.iconst 1, 1) := by decide +kernel
theorem dw_376 : decode code 376 = .ok (.iadd, 1) := by decide +kernel
theorem dw_377 : decode code 377 = .ok (.iaload, 1) := by decide +kernel
theorem dw_378 : decode code 378 = .ok (.aload_n 0, 1) := by decide +kernel
theorem dw_379 : decode code 379 = .ok (.iload_n 3, 1) := by decide +kernel
theorem dw_380 : decode code 380 = .ok (.iconst 2, 1) := by decide +kernel
theorem dw_381 : decode code 381 = .ok (.iadd, 1) := by decide +kernel
theorem dw_382 : decode code 382 = .ok (.iaload, 1) := by decide +kernel
theorem dw_383 : decode code 383 = .ok (.invokevirtual 35, 3) := by decide +kernel
theorem dw_386 : decode code 386 = .ok (.if_icmp .eq 1044, 3) := by decide +kernel
theorem dw_389 : decode code 389 = .ok (.iconst 0, 1) := by decide +kernel
theorem dw_390 : decode code 390 = .ok (.ireturn, 1) := by decide +kernel
theorem dw_391 : decode code 391 = .ok (.aload_n 1, 1) := by decide +kernel
theorem dw_392 : decode code 392 = .ok (.aload_n 0, 1) := by decide +kernel
theorem dw_393 : decode code 393 = .ok (.iload_n 3, 1) := by decide +kernel
theorem dw_394 : decode code 394 = .ok (.iconst 1, 1) := by decide +kernel
theorem dw_395 : decode code 395 = .ok (.iadd, 1) := by decide +kernel
theorem dw_396 : decode code 396 = .ok (.iaload, 1) := by decide +kernel
theorem dw_397 : decode code 397 = .ok (.aload_n 0, 1) := by decide +kernel
theorem dw_398 : decode code 398 = .ok (.iload_n 3, 1) := by decide +kernel
theorem dw_399 : decode code 399 = .ok (.iconst 2, 1) := by decide +kernel
theorem dw_400 : decode code 400 = .ok (.iadd, 1) := by decide +kernel
theorem dw_401 : decode code 401 = .ok (.iaload, 1) := by decide +kernel
theorem dw_402 : decode code 402 = .ok (.aload_n 0, 1) := by decide +kernel
theorem dw_403 : decode code 403 = .ok (.iload_n 3, 1) := by decide +kernel
theorem dw_404 : decode code 404 = .ok (.iconst 3, 1) := by decide +kernel
theorem dw_405 : decode code 405 = .ok (.iadd, 1) := by decide +kernel
theorem dw_406 : decode code 406 = .ok (.iaload, 1) := by decide +kernel
theorem dw_407 : decode code 407 = .ok (.invokevirtual 36, 3) := by decide +kernel
theorem dw_410 : decode code 410 = .ok (.aload_n 2, 1) := by decide +kernel
theorem dw_411 : decode code 411 = .ok (.aload_n 0, 1) := by decide +kernel
theorem dw_412 : decode code 412 = .ok (.iload_n 3, 1) := by decide +kernel
theorem dw_413 : decode code 413 = .ok (.iconst 1, 1) := by decide +kernel
theorem dw_414 : decode code 414 = .ok (.iadd, 1) := by decide +kernel
theorem dw_415 : decode code 415 = .ok (.iaload, 1) := by decide +kernel
theorem dw_416 : decode code 416 = .ok (.aload_n 0, 1) := by decide +kernel
theorem dw_417 : decode code 417 = .ok (.iload_n 3, 1) := by decide +kernel
theorem dw_418 : decode code 418 = .ok (.iconst 2, 1) := by decide +kernel
theorem dw_419 : decode code 419 = .ok (.iadd, 1) := by decide +kernel
theorem dw_420 : decode code 420 = .ok (.iaload, 1) := by decide +kernel
theorem dw_421 : decode code 421 = .ok (.aload_n 0, 1) := by decide +kernel
theorem dw_422 : decode code 422 = .ok (.iload_n 3, 1) := by decide +kernel
theorem dw_423 : decode code 423 = .ok (.iconst 3, 1) := by decide +kernel
theorem dw_424 : decode code 424 = .ok (.iadd, 1) := by decide +kernel
theorem dw_425 : decode code 425 = .ok (.iaload, 1) := by decide +kernel
theorem dw_426 : decode code 426 = .ok (.invokevirtual 39, 3) := by decide +kernel
theorem dw_429 : decode code 429 = .ok (.if_icmp .eq 1001, 3) := by decide +kernel
theorem dw_432 : decode code 432 = .ok (.iconst 0, 1) := by decide +kernel
theorem dw_433 : decode code 433 = .ok (.ireturn, 1) := by decide +kernel
theorem dw_434 : decode code 434 = .ok (.aload_n 1, 1) := by decide +kernel
theorem dw_435 : decode code 435 = .ok (.aload_n 0, 1) := by decide +kernel
theorem dw_436 : decode code 436 = .ok (.iload_n 3, 1) := by decide +kernel
theorem dw_437 : decode code 437 = .ok (.iconst 1, 1) := by decide +kernel
theorem dw_438 : decode code 438 = .ok (.iadd, 1) := by decide +kernel
theorem dw_439 : decode code 439 = .ok (.iaload, 1) := by decide +kernel
theorem dw_440 : decode code 440 = .ok (.invokevirtual 40, 3) := by decide +kernel
theorem dw_443 : decode code 443 = .ok (.aload_n 2, 1) := by decide +kernel
theorem dw_444 : decode code 444 = .ok (.aload_n 0, 1) := by decide +kernel
theorem dw_445 : decode code 445 = .ok (.iload_n 3, 1) := by decide +kernel
theorem dw_446 : decode code 446 = .ok (.iconst 1, 1) := by decide +kernel
theorem dw_447 : decode code 447 = .ok (.iadd, 1) := by decide +kernel
theorem dw_448 : decode code 448 = .ok (.iaload, 1) := by decide +kernel
theorem dw_449 : decode code 449 = .ok (.invokevirtual 44, 3) := by decide +kernel
theorem dw_452 : decode code 452 = .ok (.if_icmp .eq 978, 3) := by decide +kernel
theorem dw_455 : decode code 455 = .ok (.iconst 0, 1) := by decide +kernel
theorem dw_456 : decode code 456 = .ok (.ireturn, 1) := by decide +kernel
theorem dw_457 : decode code 457 = .ok (.aload_n 1, 1) := by decide +kernel
theorem dw_458 : decode code 458 = .ok (.invokevirtual 45, 3) := by decide +kernel
theorem dw_461 : decode code 461 = .ok (.aload_n 2, 1) := by decide +kernel
theorem dw_462 : decode code 462 = .ok (.invokevirtual 49, 3) := by decide +kernel
theorem dw_465 : decode code 465 = .ok (.if_icmp .eq 965, 3) := by decide +kernel
theorem dw_468 : decode code 468 = .ok (.iconst 0, 1) := by decide +kernel
theorem dw_469 : decode code 469 = .ok (.ireturn, 1) := by decide +kernel
theorem dw_470 : decode code 470 = .ok (.aload_n 1, 1) := by decide +kernel
theorem dw_471 : decode code 471 = .ok (.aload_n 0, 1) := by decide +kernel
theorem dw_472 : decode code 472 = .ok (.iload_n 3, 1) := by decide +kernel
theorem dw_473 : decode code 473 = .ok (.iconst 1, 1) := by decide +kernel
theorem dw_474 : decode code 474 = .ok (.iadd, 1) := by decide +kernel
theorem dw_475 : decode code 475 = .ok (.iaload, 1) := by decide +kernel
theorem dw_476 : decode code 476 = .ok (.invokevirtual 50, 3) := by decide +kernel
theorem dw_479 : decode code 479 = .ok (.aload_n 2, 1) := by decide +kernel
theorem dw_480 : decode code 480 = .ok (.aload_n 0, 1) := by decide +kernel
theorem dw_481 : decode code 481 = .ok (.iload_n 3, 1) := by decide +kernel
theorem dw_482 : decode code 482 = .ok (.iconst 1, 1) := by decide +kernel
theorem dw_483 : decode code 483 = .ok (.iadd, 1) := by decide +kernel
theorem dw_484 : decode code 484 = .ok (.iaload, 1) := by decide +kernel
theorem dw_485 : decode code 485 = .ok (.invokevirtual 53, 3) := by decide +kernel
theorem dw_488 : decode code 488 = .ok (.if_icmp .eq 942, 3) := by decide +kernel
theorem dw_491 : decode code 491 = .ok (.iconst 0, 1) := by decide +kernel
theorem dw_492 : decode code 492 = .ok (.ireturn, 1) := by decide +kernel
theorem dw_493 : decode code 493 = .ok (.aload_n 1, 1) := by decide +kernel
theorem dw_494 : decode code 494 = .ok (.aload_n 0, 1) := by decide +kernel
theorem dw_495 : decode code 495 = .ok (.iload_n 3, 1) := by decide +kernel
theorem dw_496 : decode code 496 = .ok (.iconst 1, 1) := by decide +kernel
theorem dw_497 : decode code 497 = .ok (.iadd, 1) := by decide +kernel
theorem dw_498 : decode code 498 = .ok (.iaload, 1) := by decide +kernel
theorem dw_499 : decode code 499 = .ok (.aload_n 0, 1) := by decide +kernel
theorem dw_500 : decode code 500 = .ok (.iload_n 3, 1) := by decide +kernel
theorem dw_501 : decode code 501 = .ok (.iconst 2, 1) := by decide +kernel
theorem dw_502 : decode code 502 = .ok (.iadd, 1) := by decide +kernel
theorem dw_503 : decode code 503 = .ok (.iaload, 1) := by decide +kernel
theorem dw_504 : decode code 504 = .ok (.aload_n 0, 1) := by decide +kernel
theorem dw_505 : decode code 505 = .ok (.iload_n 3, 1) := by decide +kernel
theorem dw_506 : decode code 506 = .ok (.iconst 3, 1) := by decide +kernel
theorem dw_507 : decode code 507 = .ok (.iadd, 1) := by decide +kernel
theorem dw_508 : decode code 508 = .ok (.iaload, 1) := by decide +kernel
theorem dw_509 : decode code 509 = .ok (.invokevirtual 54, 3) := by decide +kernel
theorem dw_512 : decode code 512 = .ok (.aload_n 2, 1) := by decide +kernel
theorem dw_513 : decode code 513 = .ok (.aload_n 0, 1) := by decide +kernel
theorem dw_514 : decode code 514 = .ok (.iload_n 3, 1) := by decide +kernel
theorem dw_515 : decode code 515 = .ok (.iconst 1, 1) := by decide +kernel
theorem dw_516 : decode code 516 = .ok (.iadd, 1) := by decide +kernel
theorem dw_517 : decode code 517 = .ok (.iaload, 1) := by decide +kernel
theorem dw_518 : decode code 518 = .ok (.aload_n 0, 1) := by decide +kernel
theorem dw_519 : decode code 519 = .ok (.iload_n 3, 1) := by decide +kernel
theorem dw_520 : decode code 520 = .ok (.iconst 2, 1) := by decide +kernel
theorem dw_521 : decode code 521 = .ok (.iadd, 1) := by decide +kernel
theorem dw_522 : decode code 522 = .ok (.iaload, 1) := by decide +kernel
theorem dw_523 : decode code 523 = .ok (.aload_n 0, 1) := by decide +kernel
theorem dw_524 : decode code 524 = .ok (.iload_n 3, 1) := by decide +kernel
theorem dw_525 : decode code 525 = .ok (.iconst 3, 1) := by decide +kernel
theorem dw_526 : decode code 526 = .ok (.iadd, 1) := by decide +kernel
theorem dw_527 : decode code 527 = .ok (.iaload, 1) := by decide +kernel
theorem dw_528 : decode code 528 = .ok (.invokevirtual 57, 3) := by decide +kernel
theorem dw_531 : decode code 531 = .ok (.if_icmp .eq 899, 3) := by decide +kernel
theorem dw_534 : decode code 534 = .ok (.iconst 0, 1) := by decide +kernel
theorem dw_535 : decode code 535 = .ok (.ireturn, 1) := by decide +kernel
theorem dw_536 : decode code 536 = .ok (.aload_n 1, 1) := by decide +kernel
theorem dw_537 : decode code 537 = .ok (.aload_n 0, 1) := by decide +kernel
theorem dw_538 : decode code 538 = .ok (.iload_n 3, 1) := by decide +kernel
theorem dw_539 : decode code 539 = .ok (.iconst 1, 1) := by decide +kernel
theorem dw_540 : decode code 540 = .ok (.iadd, 1) := by decide +kernel
theorem dw_541 : decode code 541 = .ok (.iaload, 1) := by decide +kernel
theorem dw_542 : decode code 542 = .ok (.invokevirtual 58, 3) := by decide +kernel
theorem dw_545 : decode code 545 = .ok (.aload_n 2, 1) := by decide +kernel
theorem dw_546 : decode code 546 = .ok (.aload_n 0, 1) := by decide +kernel
theorem dw_547 : decode code 547 = .ok (.iload_n 3, 1) := by decide +kernel
theorem dw_548 : decode code 548 = .ok (.iconst 1, 1) := by decide +kernel
theorem dw_549 : decode code 549 = .ok (.iadd, 1) := by decide +kernel
theorem dw_550 : decode code 550 = .ok (.iaload, 1) := by decide +kernel
theorem dw_551 : decode code 551 = .ok (.invokevirtual 61, 3) := by decide +kernel
theorem dw_554 : decode code 554 = .ok (.if_icmp .eq 876, 3) := by decide +kernel
theorem dw_557 : decode code 557 = .ok (.iconst 0, 1) := by decide +kernel
theorem dw_558 : decode code 558 = .ok (.ireturn, 1) := by decide +kernel
theorem dw_559 : decode code 559 = .ok (.aload_n 1, 1) := by decide +kernel
theorem dw_560 : decode code 560 = .ok (.aload_n 0, 1) := by decide +kernel
theorem dw_561 : decode code 561 = .ok (.iload_n 3, 1) := by decide +kernel
theorem dw_562 : decode code 562 = .ok (.iconst 1, 1) := by decide +kernel
theorem dw_563 : decode code 563 = .ok (.iadd, 1) := by decide +kernel
theorem dw_564 : decode code 564 = .ok (.iaload, 1) := by decide +kernel
theorem dw_565 : decode code 565 = .ok (.aload_n 0, 1) := by decide +kernel
theorem dw_566 : decode code 566 = .ok (.iload_n 3, 1) := by decide +kernel
theorem dw_567 : decode code 567 = .ok (.iconst 2, 1) := by decide +kernel
theorem dw_568 : decode code 568 = .ok (.iadd, 1) := by decide +kernel
theorem dw_569 : decode code 569 = .ok (.iaload, 1) := by decide +kernel
theorem dw_570 : decode code 570 = .ok (.invokevirtual 62, 3) := by decide +kernel
theorem dw_573 : decode code 573 = .ok (.aload_n 2, 1) := by decide +kernel
theorem dw_574 : decode code 574 = .ok (.aload_n 0, 1) := by decide +kernel
theorem dw_575 : decode code 575 = .ok (.iload_n 3, 1) := by decide +kernel
theorem dw_576 : decode code 576 = .ok (.iconst 1, 1) := by decide +kernel
theorem dw_577 : decode code 577 = .ok (.iadd, 1) := by decide +kernel
theorem dw_578 : decode code 578 = .ok (.iaload, 1) := by decide +kernel
theorem dw_579 : decode code 579 = .ok (.aload_n 0, 1) := by decide +kernel
theorem dw_580 : decode code 580 = .ok (.iload_n 3, 1) := by decide +kernel
theorem dw_581 : decode code 581 = .ok (.iconst 2, 1) := by decide +kernel
theorem dw_582 : decode code 582 = .ok (.iadd, 1) := by decide +kernel
theorem dw_583 : decode code 583 = .ok (.iaload, 1) := by decide +kernel
theorem dw_584 : decode code 584 = .ok (.invokevirtual 65, 3) := by decide +kernel
theorem dw_587 : decode code 587 = .ok (.if_icmp .eq 843, 3) := by decide +kernel
theorem dw_590 : decode code 590 = .ok (.iconst 0, 1) := by decide +kernel
theorem dw_591 : decode code 591 = .ok (.ireturn, 1) := by decide +kernel
theorem dw_592 : decode code 592 = .ok (.aload_n 1, 1) := by decide +kernel
theorem dw_593 : decode code 593 = .ok (.aload_n 0, 1) := by decide +kernel
theorem dw_594 : decode code 594 = .ok (.iload_n 3, 1) := by decide +kernel
theorem dw_595 : decode code 595 = .ok (.iconst 1, 1) := by decide +kernel
theorem dw_596 : decode code 596 = .ok (.iadd, 1) := by decide +kernel
theorem dw_597 : decode code 597 = .ok (.iaload, 1) := by decide +kernel
theorem dw_598 : decode code 598 = .ok (.aload_n 0, 1) := by decide +kernel
theorem dw_599 : decode code 599 = .ok (.iload_n 3, 1) := by decide +kernel
theorem dw_600 : decode code 600 = .ok (.iconst 2, 1) := by decide +kernel
theorem dw_601 : decode code 601 = .ok (.iadd, 1) := by decide +kernel
theorem dw_602 : decode code 602 = .ok (.iaload, 1) := by decide +kernel
theorem dw_603 : decode code 603 = .ok (.invokevirtual 66, 3) := by decide +kernel
theorem dw_606 : decode code 606 = .ok (.aload_n 2, 1) := by decide +kernel
theorem dw_607 : decode code 607 = .ok (.aload_n 0, 1) := by decide +kernel
theorem dw_608 : decode code 608 = .ok (.iload_n 3, 1) := by decide +kernel
theorem dw_609 : decode code 609 = .ok (.iconst 1, 1) := by decide +kernel
theorem dw_610 : decode code 610 = .ok (.iadd, 1) := by decide +kernel
theorem dw_611 : decode code 611 = .ok (.iaload, 1) := by decide +kernel
theorem dw_612 : decode code 612 = .ok (.aload_n 0, 1) := by decide +kernel
theorem dw_613 : decode code 613 = .ok (.iload_n 3, 1) := by decide +kernel
theorem dw_614 : decode code 614 = .ok (.iconst 2, 1) := by decide +kernel
theorem dw_615 : decode code 615 = .ok (.iadd, 1) := by decide +kernel
theorem dw_616 : decode code 616 = .ok (.iaload, 1) := by decide +kernel
theorem dw_617 : decode code 617 = .ok (.invokevirtual 69, 3) := by decide +kernel
theorem dw_620 : decode code 620 = .ok (.if_icmp .eq 810, 3) := by decide +kernel
theorem dw_623 : decode code 623 = .ok (.iconst 0, 1) := by decide +kernel
theorem dw_624 : decode code 624 = .ok (.ireturn, 1) := by decide +kernel
theorem dw_625 : decode code 625 = .ok (.aload_n 1, 1) := by decide +kernel
theorem dw_626 : decode code 626 = .ok (.aload_n 0, 1) := by decide +kernel
theorem dw_627 : decode code 627 = .ok (.iload_n 3, 1) := by decide +kernel
theorem dw_628 : decode code 628 = .ok (.iconst 1, 1) := by decide +kernel
theorem dw_629 : decode code 629 = .ok (.iadd, 1) := by decide +kernel
theorem dw_630 : decode code 630 = .ok (.iaload, 1) := by decide +kernel
theorem dw_631 : decode code 631 = .ok (.aload_n 0, 1) := by decide +kernel
theorem dw_632 : decode code 632 = .ok (.iload_n 3, 1) := by decide +kernel
theorem dw_633 : decode code 633 = .ok (.iconst 2, 1) := by decide +kernel
theorem dw_634 : decode code 634 = .ok (.iadd, 1) := by decide +kernel
theorem dw_635 : decode code 635 = .ok (.iaload, 1) := by decide +kernel
theorem dw_636 : decode code 636 = .ok (.invokevirtual 70, 3) := by decide +kernel
theorem dw_639 : decode code 639 = .ok (.aload_n 2, 1) := by decide +kernel
theorem dw_640 : decode code 640 = .ok (.aload_n 0, 1) := by decide +kernel
theorem dw_641 : decode code 641 = .ok (.iload_n 3, 1) := by decide +kernel
theorem dw_642 : decode code 642 = .ok (.iconst 1, 1) := by decide +kernel
theorem dw_643 : decode code 643 = .ok (.iadd, 1) := by decide +kernel
theorem dw_644 : decode code 644 = .ok (.iaload, 1) := by decide +kernel
theorem dw_645 : decode code 645 = .ok (.aload_n 0, 1) := by decide +kernel
theorem dw_646 : decode code 646 = .ok (.iload_n 3, 1) := by decide +kernel
theorem dw_647 : decode code 647 = .ok (.iconst 2, 1) := by decide +kernel
theorem dw_648 : decode code 648 = .ok (.iadd, 1) := by decide +kernel
theorem dw_649 : decode code 649 = .ok (.iaload, 1) := by decide +kernel
theorem dw_650 : decode code 650 = .ok (.invokevirtual 73, 3) := by decide +kernel
theorem dw_653 : decode code 653 = .ok (.if_icmp .eq 777, 3) := by decide +kernel
theorem dw_656 : decode code 656 = .ok (.iconst 0, 1) := by decide +kernel
theorem dw_657 : decode code 657 = .ok (.ireturn, 1) := by decide +kernel
theorem dw_658 : decode code 658 = .ok (.aload_n 1, 1) := by decide +kernel
theorem dw_659 : decode code 659 = .ok (.aload_n 0, 1) := by decide +kernel
theorem dw_660 : decode code 660 = .ok (.iload_n 3, 1) := by decide +kernel
theorem dw_661 : decode code 661 = .ok (.iconst 1, 1) := by decide +kernel
theorem dw_662 : decode code 662 = .ok (.iadd, 1) := by decide +kernel
theorem dw_663 : decode code 663 = .ok (.iaload, 1) := by decide +kernel
theorem dw_664 : decode code 664 = .ok (.aload_n 0, 1) := by decide +kernel
theorem dw_665 : decode code 665 = .ok (.iload_n 3, 1) := by decide +kernel
theorem dw_666 : decode code 666 = .ok (.iconst 2, 1) := by decide +kernel
theorem dw_667 : decode code 667 = .ok (.iadd, 1) := by decide +kernel
theorem dw_668 : decode code 668 = .ok (.iaload, 1) := by decide +kernel
theorem dw_669 : decode code 669 = .ok (.invokevirtual 74, 3) := by decide +kernel
theorem dw_672 : decode code 672 = .ok (.aload_n 2, 1) := by decide +kernel
theorem dw_673 : decode code 673 = .ok (.aload_n 0, 1) := by decide +kernel
theorem dw_674 : decode code 674 = .ok (.iload_n 3, 1) := by decide +kernel
theorem dw_675 : decode code 675 = .ok (.iconst 1, 1) := by decide +kernel
theorem dw_676 : decode code 676 = .ok (.iadd, 1) := by decide +kernel
theorem dw_677 : decode code 677 = .ok (.iaload, 1) := by decide +kernel
theorem dw_678 : decode code 678 = .ok (.aload_n 0, 1) := by decide +kernel
theorem dw_679 : decode code 679 = .ok (.iload_n 3, 1) := by decide +kernel
theorem dw_680 : decode code 680 = .ok (.iconst 2, 1) := by decide +kernel
theorem dw_681 : decode code 681 = .ok (.iadd, 1) := by decide +kernel
theorem dw_682 : decode code 682 = .ok (.iaload, 1) := by decide +kernel
theorem dw_683 : decode code 683 = .ok (.invokevirtual 77, 3) := by decide +kernel
theorem dw_686 : decode code 686 = .ok (.if_icmp .eq 744, 3) := by decide +kernel
theorem dw_689 : decode code 689 = .ok (.iconst 0, 1) := by decide +kernel
theorem dw_690 : decode code 690 = .ok (.ireturn, 1) := by decide +kernel
theorem dw_691 : decode code 691 = .ok (.aload_n 1, 1) := by decide +kernel
theorem dw_692 : decode code 692 = .ok (.aload_n 0, 1) := by decide +kernel
theorem dw_693 : decode code 693 = .ok (.iload_n 3, 1) := by decide +kernel
theorem dw_694 : decode code 694 = .ok (.iconst 1, 1) := by decide +kernel
theorem dw_695 : decode code 695 = .ok (.iadd, 1) := by decide +kernel
theorem dw_696 : decode code 696 = .ok (.iaload, 1) := by decide +kernel
theorem dw_697 : decode code 697 = .ok (.aload_n 0, 1) := by decide +kernel
theorem dw_698 : decode code 698 = .ok (.iload_n 3, 1) := by decide +kernel
theorem dw_699 : decode code 699 = .ok (.iconst 2, 1) := by decide +kernel
theorem dw_700 : decode code 700 = .ok (.iadd, 1) := by decide +kernel
theorem dw_701 : decode code 701 = .ok (.iaload, 1) := by decide +kernel
theorem dw_702 : decode code 702 = .ok (.invokevirtual 78, 3) := by decide +kernel
theorem dw_705 : decode code 705 = .ok (.aload_n 2, 1) := by decide +kernel
theorem dw_706 : decode code 706 = .ok (.aload_n 0, 1) := by decide +kernel
theorem dw_707 : decode code 707 = .ok (.iload_n 3, 1) := by decide +kernel
theorem dw_708 : decode code 708 = .ok (.iconst 1, 1) := by decide +kernel
theorem dw_709 : decode code 709 = .ok (.iadd, 1) := by decide +kernel
theorem dw_710 : decode code 710 = .ok (.iaload, 1) := by decide +kernel
theorem dw_711 : decode code 711 = .ok (.aload_n 0, 1) := by decide +kernel
theorem dw_712 : decode code 712 = .ok (.iload_n 3, 1) := by decide +kernel
theorem dw_713 : decode code 713 = .ok (.iconst 2, 1) := by decide +kernel
theorem dw_714 : decode code 714 = .ok (.iadd, 1) := by decide +kernel
theorem dw_715 : decode code 715 = .ok (.iaload, 1) := by decide +kernel
theorem dw_716 : decode code 716 = .ok (.invokevirtual 81, 3) := by decide +kernel
theorem dw_719 : decode code 719 = .ok (.if_icmp .eq 711, 3) := by decide +kernel
theorem dw_722 : decode code 722 = .ok (.iconst 0, 1) := by decide +kernel
theorem dw_723 : decode code 723 = .ok (.ireturn, 1) := by decide +kernel
theorem dw_724 : decode code 724 = .ok (.aload_n 1, 1) := by decide +kernel
theorem dw_725 : decode code 725 = .ok (.aload_n 0, 1) := by decide +kernel
theorem dw_726 : decode code 726 = .ok (.iload_n 3, 1) := by decide +kernel
theorem dw_727 : decode code 727 = .ok (.iconst 1, 1) := by decide +kernel
theorem dw_728 : decode code 728 = .ok (.iadd, 1) := by decide +kernel
theorem dw_729 : decode code 729 = .ok (.iaload, 1) := by decide +kernel
theorem dw_730 : decode code 730 = .ok (.aload_n 0, 1) := by decide +kernel
theorem dw_731 : decode code 731 = .ok (.iload_n 3, 1) := by decide +kernel
theorem dw_732 : decode code 732 = .ok (.iconst 2, 1) := by decide +kernel
theorem dw_733 : decode code 733 = .ok (.iadd, 1) := by decide +kernel
theorem dw_734 : decode code 734 = .ok (.iaload, 1) := by decide +kernel
theorem dw_735 : decode code 735 = .ok (.aload_n 0, 1) := by decide +kernel
theorem dw_736 : decode code 736 = .ok (.iload_n 3, 1) := by decide +kernel
theorem dw_737 : decode code 737 = .ok (.iconst 3, 1) := by decide +kernel
theorem dw_738 : decode code 738 = .ok (.iadd, 1) := by decide +kernel
theorem dw_739 : decode code 739 = .ok (.iaload, 1) := by decide +kernel
theorem dw_740 : decode code 740 = .ok (.invokevirtual 82, 3) := by decide +kernel
theorem dw_743 : decode code 743 = .ok (.aload_n 2, 1) := by decide +kernel
theorem dw_744 : decode code 744 = .ok (.aload_n 0, 1) := by decide +kernel
theorem dw_745 : decode code 745 = .ok (.iload_n 3, 1) := by decide +kernel
theorem dw_746 : decode code 746 = .ok (.iconst 1, 1) := by decide +kernel
theorem dw_747 : decode code 747 = .ok (.iadd, 1) := by decide +kernel
theorem dw_748 : decode code 748 = .ok (.iaload, 1) := by decide +kernel
theorem dw_749 : decode code 749 = .ok (.aload_n 0, 1) := by decide +kernel
theorem dw_750 : decode code 750 = .ok (.iload_n 3, 1) := by decide +kernel
theorem dw_751 : decode code 751 = .ok (.iconst 2, 1) := by decide +kernel
theorem dw_752 : decode code 752 = .ok (.iadd, 1) := by decide +kernel
theorem dw_753 : decode code 753 = .ok (.iaload, 1) := by decide +kernel
theorem dw_754 : decode code 754 = .ok (.aload_n 0, 1) := by decide +kernel
theorem dw_755 : decode code 755 = .ok (.iload_n 3, 1) := by decide +kernel
theorem dw_756 : decode code 756 = .ok (.iconst 3, 1) := by decide +kernel
theorem dw_757 : decode code 757 = .ok (.iadd, 1) := by decide +kernel
theorem dw_758 : decode code 758 = .ok (.iaload, 1) := by decide +kernel
theorem dw_759 : decode code 759 = .ok (.invokevirtual 85, 3) := by decide +kernel
theorem dw_762 : decode code 762 = .ok (.if_icmp .eq 668, 3) := by decide +kernel
theorem dw_765 : decode code 765 = .ok (.iconst 0, 1) := by decide +kernel
theorem dw_766 : decode code 766 = .ok (.ireturn, 1) := by decide +kernel
theorem dw_767 : decode code 767 = .ok (.aload_n 1, 1) := by decide +kernel
theorem dw_768 : decode code 768 = .ok (.aload_n 0, 1) := by decide +kernel
theorem dw_769 : decode code 769 = .ok (.iload_n 3, 1) := by decide +kernel
theorem dw_770 : decode code 770 = .ok (.iconst 1, 1) := by decide +kernel
theorem dw_771 : decode code 771 = .ok (.iadd, 1) := by decide +kernel
theorem dw_772 : decode code 772 = .ok (.iaload, 1) := by decide +kernel
theorem dw_773 : decode code 773 = .ok (.aload_n 0, 1) := by decide +kernel
theorem dw_774 : decode code 774 = .ok (.iload_n 3, 1) := by decide +kernel
theorem dw_775 : decode code 775 = .ok (.iconst 2, 1) := by decide +kernel
theorem dw_776 : decode code 776 = .ok (.iadd, 1) := by decide +kernel
theorem dw_777 : decode code 777 = .ok (.iaload, 1) := by decide +kernel
theorem dw_778 : decode code 778 = .ok (.invokevirtual 86, 3) := by decide +kernel
theorem dw_781 : decode code 781 = .ok (.aload_n 2, 1) := by decide +kernel
theorem dw_782 : decode code 782 = .ok (.aload_n 0, 1) := by decide +kernel
theorem dw_783 : decode code 783 = .ok (.iload_n 3, 1) := by decide +kernel
theorem dw_784 : decode code 784 = .ok (.iconst 1, 1) := by decide +kernel
theorem dw_785 : decode code 785 = .ok (.iadd, 1) := by decide +kernel
theorem dw_786 : decode code 786 = .ok (.iaload, 1) := by decide +kernel
theorem dw_787 : decode code 787 = .ok (.aload_n 0, 1) := by decide +kernel
theorem dw_788 : decode code 788 = .ok (.iload_n 3, 1) := by decide +kernel
theorem dw_789 : decode code 789 = .ok (.iconst 2, 1) := by decide +kernel
theorem dw_790 : decode code 790 = .ok (.iadd, 1) := by decide +kernel
theorem dw_791 : decode code 791 = .ok (.iaload, 1) := by decide +kernel
theorem dw_792 : decode code 792 = .ok (.invokevirtual 89, 3) := by decide +kernel
theorem dw_795 : decode code 795 = .ok (.if_icmp .eq 635, 3) := by decide +kernel
theorem dw_798 : decode code 798 = .ok (.iconst 0, 1) := by decide +kernel
theorem dw_799 : decode code 799 = .ok (.ireturn, 1) := by decide +kernel
theorem dw_800 : decode code 800 = .ok (.aload_n 1, 1) := by decide +kernel
theorem dw_801 : decode code 801 = .ok (.aload_n 0, 1) := by decide +kernel
theorem dw_802 : decode code 802 = .ok (.iload_n 3, 1) := by decide +kernel
theorem dw_803 : decode code 803 = .ok (.iconst 1, 1) := by decide +kernel
theorem dw_804 : decode code 804 = .ok (.iadd, 1) := by decide +kernel
theorem dw_805 : decode code 805 = .ok (.iaload, 1) := by decide +kernel
theorem dw_806 : decode code 806 = .ok (.invokevirtual 90, 3) := by decide +kernel
theorem dw_809 : decode code 809 = .ok (.aload_n 2, 1) := by decide +kernel
theorem dw_810 : decode code 810 = .ok (.aload_n 0, 1) := by decide +kernel
theorem dw_811 : decode code 811 = .ok (.iload_n 3, 1) := by decide +kernel
theorem dw_812 : decode code 812 = .ok (.iconst 1, 1) := by decide +kernel
theorem dw_813 : decode code 813 = .ok (.iadd, 1) := by decide +kernel
theorem dw_814 : decode code 814 = .ok (.iaload, 1) := by decide +kernel
theorem dw_815 : decode code 815 = .ok (.invokevirtual 93, 3) := by decide +kernel
theorem dw_818 : decode code 818 = .ok (.if_icmp .eq 612, 3) := by decide +kernel
theorem dw_821 : decode code 821 = .ok (.iconst 0, 1) := by decide +kernel
theorem dw_822 : decode code 822 = .ok (.ireturn, 1) := by decide +kernel
theorem dw_823 : decode code 823 = .ok (.aload_n 1, 1) := by decide +kernel
theorem dw_824 : decode code 824 = .ok (.aload_n 0, 1) := by decide +kernel
theorem dw_825 : decode code 825 = .ok (.iload_n 3, 1) := by decide +kernel
theorem dw_826 : decode code 826 = .ok (.iconst 1, 1) := by decide +kernel
theorem dw_827 : decode code 827 = .ok (.iadd, 1) := by decide +kernel
theorem dw_828 : decode code 828 = .ok (.iaload, 1) := by decide +kernel
theorem dw_829 : decode code 829 = .ok (.aload_n 0, 1) := by decide +kernel
theorem dw_830 : decode code 830 = .ok (.iload_n 3, 1) := by decide +kernel
theorem dw_831 : decode code 831 = .ok (.iconst 2, 1) := by decide +kernel
theorem dw_832 : decode code 832 = .ok (.iadd, 1) := by decide +kernel
theorem dw_833 : decode code 833 = .ok (.iaload, 1) := by decide +kernel
theorem dw_834 : decode code 834 = .ok (.invokevirtual 94, 3) := by decide +kernel
theorem dw_837 : decode code 837 = .ok (.aload_n 2, 1) := by decide +kernel
theorem dw_838 : decode code 838 = .ok (.aload_n 0, 1) := by decide +kernel
theorem dw_839 : decode code 839 = .ok (.iload_n 3, 1) := by decide +kernel
theorem dw_840 : decode code 840 = .ok (.iconst 1, 1) := by decide +kernel
theorem dw_841 : decode code 841 = .ok (.iadd, 1) := by decide +kernel
theorem dw_842 : decode code 842 = .ok (.iaload, 1) := by decide +kernel
theorem dw_843 : decode code 843 = .ok (.aload_n 0, 1) := by decide +kernel
theorem dw_844 : decode code 844 = .ok (.iload_n 3, 1) := by decide +kernel
theorem dw_845 : decode code 845 = .ok (.iconst 2, 1) := by decide +kernel
theorem dw_846 : decode code 846 = .ok (.iadd, 1) := by decide +kernel
theorem dw_847 : decode code 847 = .ok (.iaload, 1) := by decide +kernel
theorem dw_848 : decode code 848 = .ok (.invokevirtual 97, 3) := by decide +kernel
theorem dw_851 : decode code 851 = .ok (.if_icmp .eq 579, 3) := by decide +kernel
theorem dw_854 : decode code 854 = .ok (.iconst 0, 1) := by decide +kernel
theorem dw_855 : decode code 855 = .ok (.ireturn, 1) := by decide +kernel
theorem dw_856 : decode code 856 = .ok (.aload_n 1, 1) := by decide +kernel
theorem dw_857 : decode code 857 = .ok (.aload_n 0, 1) := by decide +kernel
theorem dw_858 : decode code 858 = .ok (.iload_n 3, 1) := by decide +kernel
theorem dw_859 : decode code 859 = .ok (.iconst 1, 1) := by decide +kernel
theorem dw_860 : decode code 860 = .ok (.iadd, 1) := by decide +kernel
theorem dw_861 : decode code 861 = .ok (.iaload, 1) := by decide +kernel
theorem dw_862 : decode code 862 = .ok (.invokevirtual 98, 3) := by decide +kernel
theorem dw_865 : decode code 865 = .ok (.aload_n 2, 1) := by decide +kernel
theorem dw_866 : decode code 866 = .ok (.aload_n 0, 1) := by decide +kernel
theorem dw_867 : decode code 867 = .ok (.iload_n 3, 1) := by decide +kernel
theorem dw_868 : decode code 868 = .ok (.iconst 1, 1) := by decide +kernel
theorem dw_869 : decode code 869 = .ok (.iadd, 1) := by decide +kernel
theorem dw_870 : decode code 870 = .ok (.iaload, 1) := by decide +kernel
theorem dw_871 : decode code 871 = .ok (.invokevirtual 101, 3) := by decide +kernel
theorem dw_874 : decode code 874 = .ok (.if_icmp .eq 556, 3) := by decide +kernel
theorem dw_877 : decode code 877 = .ok (.iconst 0, 1) := by decide +kernel
theorem dw_878 : decode code 878 = .ok (.ireturn, 1) := by decide +kernel
theorem dw_879 : decode code 879 = .ok (.aload_n 1, 1) := by decide +kernel
theorem dw_880 : decode code 880 = .ok (.aload_n 0, 1) := by decide +kernel
theorem dw_881 : decode code 881 = .ok (.iload_n 3, 1) := by decide +kernel
theorem dw_882 : decode code 882 = .ok (.iconst 1, 1) := by decide +kernel
theorem dw_883 : decode code 883 = .ok (.iadd, 1) := by decide +kernel
theorem dw_884 : decode code 884 = .ok (.iaload, 1) := by decide +kernel
theorem dw_885 : decode code 885 = .ok (.aload_n 0, 1) := by decide +kernel
theorem dw_886 : decode code 886 = .ok (.iload_n 3, 1) := by decide +kernel
theorem dw_887 : decode code 887 = .ok (.iconst 2, 1) := by decide +kernel
theorem dw_888 : decode code 888 = .ok (.iadd, 1) := by decide +kernel
theorem dw_889 : decode code 889 = .ok (.iaload, 1) := by decide +kernel
theorem dw_890 : decode code 890 = .ok (.aload_n 0, 1) := by decide +kernel
theorem dw_891 : decode code 891 = .ok (.iload_n 3, 1) := by decide +kernel
theorem dw_892 : decode code 892 = .ok (.iconst 3, 1) := by decide +kernel
theorem dw_893 : decode code 893 = .ok (.iadd, 1) := by decide +kernel
theorem dw_894 : decode code 894 = .ok (.iaload, 1) := by decide +kernel
theorem dw_895 : decode code 895 = .ok (.invokevirtual 102, 3) := by decide +kernel
theorem dw_898 : decode code 898 = .ok (.aload_n 2, 1) := by decide +kernel
theorem dw_899 : decode code 899 = .ok (.aload_n 0, 1) := by decide +kernel
theorem dw_900 : decode code 900 = .ok (.iload_n 3, 1) := by decide +kernel
theorem dw_901 : decode code 901 = .ok (.iconst 1, 1) := by decide +kernel
theorem dw_902 : decode code 902 = .ok (.iadd, 1) := by decide +kernel
theorem dw_903 : decode code 903 = .ok (.iaload, 1) := by decide +kernel
theorem dw_904 : decode code 904 = .ok (.aload_n 0, 1) := by decide +kernel
theorem dw_905 : decode code 905 = .ok (.iload_n 3, 1) := by decide +kernel
theorem dw_906 : decode code 906 = .ok (.iconst 2, 1) := by decide +kernel
theorem dw_907 : decode code 907 = .ok (.iadd, 1) := by decide +kernel
theorem dw_908 : decode code 908 = .ok (.iaload, 1) := by decide +kernel
theorem dw_909 : decode code 909 = .ok (.aload_n 0, 1) := by decide +kernel
theorem dw_910 : decode code 910 = .ok (.iload_n 3, 1) := by decide +kernel
theorem dw_911 : decode code 911 = .ok (.iconst 3, 1) := by decide +kernel
theorem dw_912 : decode code 912 = .ok (.iadd, 1) := by decide +kernel
theorem dw_913 : decode code 913 = .ok (.iaload, 1) := by decide +kernel
theorem dw_914 : decode code 914 = .ok (.invokevirtual 105, 3) := by decide +kernel
theorem dw_917 : decode code 917 = .ok (.if_icmp .eq 513, 3) := by decide +kernel
theorem dw_920 : decode code 920 = .ok (.iconst 0, 1) := by decide +kernel
theorem dw_921 : decode code 921 = .ok (.ireturn, 1) := by decide +kernel
theorem dw_922 : decode code 922 = .ok (.aload_n 1, 1) := by decide +kernel
theorem dw_923 : decode code 923 = .ok (.aload_n 0, 1) := by decide +kernel
theorem dw_924 : decode code 924 = .ok (.iload_n 3, 1) := by decide +kernel
theorem dw_925 : decode code 925 = .ok (.iconst 1, 1) := by decide +kernel
theorem dw_926 : decode code 926 = .ok (.iadd, 1) := by decide +kernel
theorem dw_927 : decode code 927 = .ok (.iaload, 1) := by decide +kernel
theorem dw_928 : decode code 928 = .ok (.aload_n 0, 1) := by decide +kernel
theorem dw_929 : decode code 929 = .ok (.iload_n 3, 1) := by decide +kernel
theorem dw_930 : decode code 930 = .ok (.iconst 2, 1) := by decide +kernel
theorem dw_931 : decode code 931 = .ok (.iadd, 1) := by decide +kernel
theorem dw_932 : decode code 932 = .ok (.iaload, 1) := by decide +kernel
theorem dw_933 : decode code 933 = .ok (.invokevirtual 106, 3) := by decide +kernel
theorem dw_936 : decode code 936 = .ok (.aload_n 2, 1) := by decide +kernel
theorem dw_937 : decode code 937 = .ok (.aload_n 0, 1) := by decide +kernel
theorem dw_938 : decode code 938 = .ok (.iload_n 3, 1) := by decide +kernel
theorem dw_939 : decode code 939 = .ok (.iconst 1, 1) := by decide +kernel
theorem dw_940 : decode code 940 = .ok (.iadd, 1) := by decide +kernel
theorem dw_941 : decode code 941 = .ok (.iaload, 1) := by decide +kernel
theorem dw_942 : decode code 942 = .ok (.aload_n 0, 1) := by decide +kernel
theorem dw_943 : decode code 943 = .ok (.iload_n 3, 1) := by decide +kernel
theorem dw_944 : decode code 944 = .ok (.iconst 2, 1) := by decide +kernel
theorem dw_945 : decode code 945 = .ok (.iadd, 1) := by decide +kernel
theorem dw_946 : decode code 946 = .ok (.iaload, 1) := by decide +kernel
theorem dw_947 : decode code 947 = .ok (.invokevirtual 110, 3) := by decide +kernel
theorem dw_950 : decode code 950 = .ok (.lcmp, 1) := by decide +kernel
theorem dw_951 : decode code 951 = .ok (.ifCond .eq 479, 3) := by decide +kernel
theorem dw_954 : decode code 954 = .ok (.iconst 0, 1) := by decide +kernel
theorem dw_955 : decode code 955 = .ok (.ireturn, 1) := by decide +kernel
theorem dw_956 : decode code 956 = .ok (.aload_n 1, 1) := by decide +kernel
theorem dw_957 : decode code 957 = .ok (.aload_n 0, 1) := by decide +kernel
theorem dw_958 : decode code 958 = .ok (.iload_n 3, 1) := by decide +kernel
theorem dw_959 : decode code 959 = .ok (.iconst 1, 1) := by decide +kernel
theorem dw_960 : decode code 960 = .ok (.iadd, 1) := by decide +kernel
theorem dw_961 : decode code 961 = .ok (.iaload, 1) := by decide +kernel
theorem dw_962 : decode code 962 = .ok (.invokevirtual 111, 3) := by decide +kernel
theorem dw_965 : decode code 965 = .ok (.aload_n 2, 1) := by decide +kernel
theorem dw_966 : decode code 966 = .ok (.aload_n 0, 1) := by decide +kernel
theorem dw_967 : decode code 967 = .ok (.iload_n 3, 1) := by decide +kernel
theorem dw_968 : decode code 968 = .ok (.iconst 1, 1) := by decide +kernel
theorem dw_969 : decode code 969 = .ok (.iadd, 1) := by decide +kernel
theorem dw_970 : decode code 970 = .ok (.iaload, 1) := by decide +kernel
theorem dw_971 : decode code 971 = .ok (.invokevirtual 115, 3) := by decide +kernel
theorem dw_974 : decode code 974 = .ok (.lcmp, 1) := by decide +kernel
theorem dw_975 : decode code 975 = .ok (.ifCond .eq 455, 3) := by decide +kernel
theorem dw_978 : decode code 978 = .ok (.iconst 0, 1) := by decide +kernel
theorem dw_979 : decode code 979 = .ok (.ireturn, 1) := by decide +kernel
theorem dw_980 : decode code 980 = .ok (.aload_n 1, 1) := by decide +kernel
theorem dw_981 : decode code 981 = .ok (.aload_n 0, 1) := by decide +kernel
theorem dw_982 : decode code 982 = .ok (.iload_n 3, 1) := by decide +kernel
theorem dw_983 : decode code 983 = .ok (.iconst 1, 1) := by decide +kernel
theorem dw_984 : decode code 984 = .ok (.iadd, 1) := by decide +kernel
theorem dw_985 : decode code 985 = .ok (.iaload, 1) := by decide +kernel
theorem dw_986 : decode code 986 = .ok (.aload_n 0, 1) := by decide +kernel
theorem dw_987 : decode code 987 = .ok (.iload_n 3, 1) := by decide +kernel
theorem dw_988 : decode code 988 = .ok (.iconst 2, 1) := by decide +kernel
theorem dw_989 : decode code 989 = .ok (.iadd, 1) := by decide +kernel
theorem dw_990 : decode code 990 = .ok (.iaload, 1) := by decide +kernel
theorem dw_991 : decode code 991 = .ok (.aload_n 0, 1) := by decide +kernel
theorem dw_992 : decode code 992 = .ok (.iload_n 3, 1) := by decide +kernel
theorem dw_993 : decode code 993 = .ok (.iconst 3, 1) := by decide +kernel
theorem dw_994 : decode code 994 = .ok (.iadd, 1) := by decide +kernel
theorem dw_995 : decode code 995 = .ok (.iaload, 1) := by decide +kernel
theorem dw_996 : decode code 996 = .ok (.invokevirtual 116, 3) := by decide +kernel
theorem dw_999 : decode code 999 = .ok (.aload_n 2, 1) := by decide +kernel
theorem dw_1000 : decode code 1000 = .ok (.aload_n 0, 1) := by decide +kernel
theorem dw_1001 : decode code 1001 = .ok (.iload_n 3, 1) := by decide +kernel
theorem dw_1002 : decode code 1002 = .ok (.iconst 1, 1) := by decide +kernel
theorem dw_1003 : decode code 1003 = .ok (.iadd, 1) := by decide +kernel
theorem dw_1004 : decode code 1004 = .ok (.iaload, 1) := by decide +kernel
theorem dw_1005 : decode code 1005 = .ok (.aload_n 0, 1) := by decide +kernel
theorem dw_1006 : decode code 1006 = .ok (.iload_n 3, 1) := by decide +kernel
theorem dw_1007 : decode code 1007 = .ok (.iconst 2, 1) := by decide +kernel
theorem dw_1008 : decode code 1008 = .ok (.iadd, 1) := by decide +kernel
theorem dw_1009 : decode code 1009 = .ok (.iaload, 1) := by decide +kernel
theorem dw_1010 : decode code 1010 = .ok (.aload_n 0, 1) := by decide +kernel
theorem dw_1011 : decode code 1011 = .ok (.iload_n 3, 1) := by decide +kernel
theorem dw_1012 : decode code 1012 = .ok (.iconst 3, 1) := by decide +kernel
theorem dw_1013 : decode code 1013 = .ok (.iadd, 1) := by decide +kernel
theorem dw_1014 : decode code 1014 = .ok (.iaload, 1) := by decide +kernel
theorem dw_1015 : decode code 1015 = .ok (.invokevirtual 119, 3) := by decide +kernel
theorem dw_1018 : decode code 1018 = .ok (.if_icmp .eq 412, 3) := by decide +kernel
theorem dw_1021 : decode code 1021 = .ok (.iconst 0, 1) := by decide +kernel
theorem dw_1022 : decode code 1022 = .ok (.ireturn, 1) := by decide +kernel
theorem dw_1023 : decode code 1023 = .ok (.aload_n 1, 1) := by decide +kernel
theorem dw_1024 : decode code 1024 = .ok (.invokevirtual 120, 3) := by decide +kernel
theorem dw_1027 : decode code 1027 = .ok (.aload_n 2, 1) := by decide +kernel
theorem dw_1028 : decode code 1028 = .ok (.invokevirtual 123, 3) := by decide +kernel
theorem dw_1031 : decode code 1031 = .ok (.if_icmp .eq 399, 3) := by decide +kernel
theorem dw_1034 : decode code 1034 = .ok (.iconst 0, 1) := by decide +kernel
theorem dw_1035 : decode code 1035 = .ok (.ireturn, 1) := by decide +kernel
theorem dw_1036 : decode code 1036 = .ok (.aload_n 1, 1) := by decide +kernel
theorem dw_1037 : decode code 1037 = .ok (.aload_n 0, 1) := by decide +kernel
theorem dw_1038 : decode code 1038 = .ok (.iload_n 3, 1) := by decide +kernel
theorem dw_1039 : decode code 1039 = .ok (.iconst 1, 1) := by decide +kernel
theorem dw_1040 : decode code 1040 = .ok (.iadd, 1) := by decide +kernel
theorem dw_1041 : decode code 1041 = .ok (.iaload, 1) := by decide +kernel
theorem dw_1042 : decode code 1042 = .ok (.aload_n 0, 1) := by decide +kernel
theorem dw_1043 : decode code 1043 = .ok (.iload_n 3, 1) := by decide +kernel
theorem dw_1044 : decode code 1044 = .ok (.iconst 2, 1) := by decide +kernel
theorem dw_1045 : decode code 1045 = .ok (.iadd, 1) := by decide +kernel
theorem dw_1046 : decode code 1046 = .ok (.iaload, 1) := by decide +kernel
theorem dw_1047 : decode code 1047 = .ok (.invokevirtual 124, 3) := by decide +kernel
theorem dw_1050 : decode code 1050 = .ok (.aload_n 2, 1) := by decide +kernel
theorem dw_1051 : decode code 1051 = .ok (.aload_n 0, 1) := by decide +kernel
theorem dw_1052 : decode code 1052 = .ok (.iload_n 3, 1) := by decide +kernel
theorem dw_1053 : decode code 1053 = .ok (.iconst 1, 1) := by decide +kernel
theorem dw_1054 : decode code 1054 = .ok (.iadd, 1) := by decide +kernel
theorem dw_1055 : decode code 1055 = .ok (.iaload, 1) := by decide +kernel
theorem dw_1056 : decode code 1056 = .ok (.aload_n 0, 1) := by decide +kernel
theorem dw_1057 : decode code 1057 = .ok (.iload_n 3, 1) := by decide +kernel
theorem dw_1058 : decode code 1058 = .ok (.iconst 2, 1) := by decide +kernel
theorem dw_1059 : decode code 1059 = .ok (.iadd, 1) := by decide +kernel
theorem dw_1060 : decode code 1060 = .ok (.iaload, 1) := by decide +kernel
theorem dw_1061 : decode code 1061 = .ok (.invokevirtual 127, 3) := by decide +kernel
theorem dw_1064 : decode code 1064 = .ok (.if_icmp .eq 366, 3) := by decide +kernel
theorem dw_1067 : decode code 1067 = .ok (.iconst 0, 1) := by decide +kernel
theorem dw_1068 : decode code 1068 = .ok (.ireturn, 1) := by decide +kernel
theorem dw_1069 : decode code 1069 = .ok (.aload_n 1, 1) := by decide +kernel
theorem dw_1070 : decode code 1070 = .ok (.invokevirtual 128, 3) := by decide +kernel
theorem dw_1073 : decode code 1073 = .ok (.aload_n 2, 1) := by decide +kernel
theorem dw_1074 : decode code 1074 = .ok (.invokevirtual 131, 3) := by decide +kernel
theorem dw_1077 : decode code 1077 = .ok (.if_icmp .eq 353, 3) := by decide +kernel
theorem dw_1080 : decode code 1080 = .ok (.iconst 0, 1) := by decide +kernel
theorem dw_1081 : decode code 1081 = .ok (.ireturn, 1) := by decide +kernel
theorem dw_1082 : decode code 1082 = .ok (.aload_n 1, 1) := by decide +kernel
theorem dw_1083 : decode code 1083 = .ok (.invokevirtual 132, 3) := by decide +kernel
theorem dw_1086 : decode code 1086 = .ok (.aload_n 2, 1) := by decide +kernel
theorem dw_1087 : decode code 1087 = .ok (.invokevirtual 135, 3) := by decide +kernel
theorem dw_1090 : decode code 1090 = .ok (.if_icmp .eq 340, 3) := by decide +kernel
theorem dw_1093 : decode code 1093 = .ok (.iconst 0, 1) := by decide +kernel
theorem dw_1094 : decode code 1094 = .ok (.ireturn, 1) := by decide +kernel
theorem dw_1095 : decode code 1095 = .ok (.aload_n 1, 1) := by decide +kernel
theorem dw_1096 : decode code 1096 = .ok (.aload_n 0, 1) := by decide +kernel
theorem dw_1097 : decode code 1097 = .ok (.iload_n 3, 1) := by decide +kernel
theorem dw_1098 : decode code 1098 = .ok (.iconst 1, 1) := by decide +kernel
theorem dw_1099 : decode code 1099 = .ok (.iadd, 1) := by decide +kernel
theorem dw_1100 : decode code 1100 = .ok (.iaload, 1) := by decide +kernel
theorem dw_1101 : decode code 1101 = .ok (.aload_n 0, 1) := by decide +kernel
theorem dw_1102 : decode code 1102 = .ok (.iload_n 3, 1) := by decide +kernel
theorem dw_1103 : decode code 1103 = .ok (.iconst 2, 1) := by decide +kernel
theorem dw_1104 : decode code 1104 = .ok (.iadd, 1) := by decide +kernel
theorem dw_1105 : decode code 1105 = .ok (.iaload, 1) := by decide +kernel
theorem dw_1106 : decode code 1106 = .ok (.aload_n 0, 1) := by decide +kernel
theorem dw_1107 : decode code 1107 = .ok (.iload_n 3, 1) := by decide +kernel
theorem dw_1108 : decode code 1108 = .ok (.iconst 3, 1) := by decide +kernel
theorem dw_1109 : decode code 1109 = .ok (.iadd, 1) := by decide +kernel
theorem dw_1110 : decode code 1110 = .ok (.iaload, 1) := by decide +kernel
theorem dw_1111 : decode code 1111 = .ok (.invokevirtual 136, 3) := by decide +kernel
theorem dw_1114 : decode code 1114 = .ok (.aload_n 2, 1) := by decide +kernel
theorem dw_1115 : decode code 1115 = .ok (.aload_n 0, 1) := by decide +kernel
theorem dw_1116 : decode code 1116 = .ok (.iload_n 3, 1) := by decide +kernel
theorem dw_1117 : decode code 1117 = .ok (.iconst 1, 1) := by decide +kernel
theorem dw_1118 : decode code 1118 = .ok (.iadd, 1) := by decide +kernel
theorem dw_1119 : decode code 1119 = .ok (.iaload, 1) := by decide +kernel
theorem dw_1120 : decode code 1120 = .ok (.aload_n 0, 1) := by decide +kernel
theorem dw_1121 : decode code 1121 = .ok (.iload_n 3, 1) := by decide +kernel
theorem dw_1122 : decode code 1122 = .ok (.iconst 2, 1) := by decide +kernel
theorem dw_1123 : decode code 1123 = .ok (.iadd, 1) := by decide +kernel
theorem dw_1124 : decode code 1124 = .ok (.iaload, 1) := by decide +kernel
theorem dw_1125 : decode code 1125 = .ok (.aload_n 0, 1) := by decide +kernel
theorem dw_1126 : decode code 1126 = .ok (.iload_n 3, 1) := by decide +kernel
theorem dw_1127 : decode code 1127 = .ok (.iconst 3, 1) := by decide +kernel
theorem dw_1128 : decode code 1128 = .ok (.iadd, 1) := by decide +kernel
theorem dw_1129 : decode code 1129 = .ok (.iaload, 1) := by decide +kernel
theorem dw_1130 : decode code 1130 = .ok (.invokevirtual 139, 3) := by decide +kernel
theorem dw_1133 : decode code 1133 = .ok (.if_icmp .eq 297, 3) := by decide +kernel
theorem dw_1136 : decode code 1136 = .ok (.iconst 0, 1) := by decide +kernel
theorem dw_1137 : decode code 1137 = .ok (.ireturn, 1) := by decide +kernel
theorem dw_1138 : decode code 1138 = .ok (.aload_n 1, 1) := by decide +kernel
theorem dw_1139 : decode code 1139 = .ok (.aload_n 0, 1) := by decide +kernel
theorem dw_1140 : decode code 1140 = .ok (.iload_n 3, 1) := by decide +kernel
theorem dw_1141 : decode code 1141 = .ok (.iconst 1, 1) := by decide +kernel
theorem dw_1142 : decode code 1142 = .ok (.iadd, 1) := by decide +kernel
theorem dw_1143 : decode code 1143 = .ok (.iaload, 1) := by decide +kernel
theorem dw_1144 : decode code 1144 = .ok (.invokevirtual 140, 3) := by decide +kernel
theorem dw_1147 : decode code 1147 = .ok (.aload_n 2, 1) := by decide +kernel
theorem dw_1148 : decode code 1148 = .ok (.aload_n 0, 1) := by decide +kernel
theorem dw_1149 : decode code 1149 = .ok (.iload_n 3, 1) := by decide +kernel
theorem dw_1150 : decode code 1150 = .ok (.iconst 1, 1) := by decide +kernel
theorem dw_1151 : decode code 1151 = .ok (.iadd, 1) := by decide +kernel
theorem dw_1152 : decode code 1152 = .ok (.iaload, 1) := by decide +kernel
theorem dw_1153 : decode code 1153 = .ok (.invokevirtual 143, 3) := by decide +kernel
theorem dw_1156 : decode code 1156 = .ok (.if_icmp .eq 274, 3) := by decide +kernel
theorem dw_1159 : decode code 1159 = .ok (.iconst 0, 1) := by decide +kernel
theorem dw_1160 : decode code 1160 = .ok (.ireturn, 1) := by decide +kernel
theorem dw_1161 : decode code 1161 = .ok (.aload_n 1, 1) := by decide +kernel
theorem dw_1162 : decode code 1162 = .ok (.aload_n 0, 1) := by decide +kernel
theorem dw_1163 : decode code 1163 = .ok (.iload_n 3, 1) := by decide +kernel
theorem dw_1164 : decode code 1164 = .ok (.iconst 1, 1) := by decide +kernel
theorem dw_1165 : decode code 1165 = .ok (.iadd, 1) := by decide +kernel
theorem dw_1166 : decode code 1166 = .ok (.iaload, 1) := by decide +kernel
theorem dw_1167 : decode code 1167 = .ok (.aload_n 0, 1) := by decide +kernel
theorem dw_1168 : decode code 1168 = .ok (.iload_n 3, 1) := by decide +kernel
theorem dw_1169 : decode code 1169 = .ok (.iconst 2, 1) := by decide +kernel
theorem dw_1170 : decode code 1170 = .ok (.iadd, 1) := by decide +kernel
theorem dw_1171 : decode code 1171 = .ok (.iaload, 1) := by decide +kernel
theorem dw_1172 : decode code 1172 = .ok (.invokevirtual 144, 3) := by decide +kernel
theorem dw_1175 : decode code 1175 = .ok (.aload_n 2, 1) := by decide +kernel
theorem dw_1176 : decode code 1176 = .ok (.aload_n 0, 1) := by decide +kernel
theorem dw_1177 : decode code 1177 = .ok (.iload_n 3, 1) := by decide +kernel
theorem dw_1178 : decode code 1178 = .ok (.iconst 1, 1) := by decide +kernel
theorem dw_1179 : decode code 1179 = .ok (.iadd, 1) := by decide +kernel
theorem dw_1180 : decode code 1180 = .ok (.iaload, 1) := by decide +kernel
theorem dw_1181 : decode code 1181 = .ok (.aload_n 0, 1) := by decide +kernel
theorem dw_1182 : decode code 1182 = .ok (.iload_n 3, 1) := by decide +kernel
theorem dw_1183 : decode code 1183 = .ok (.iconst 2, 1) := by decide +kernel
theorem dw_1184 : decode code 1184 = .ok (.iadd, 1) := by decide +kernel
theorem dw_1185 : decode code 1185 = .ok (.iaload, 1) := by decide +kernel
theorem dw_1186 : decode code 1186 = .ok (.invokevirtual 147, 3) := by decide +kernel
theorem dw_1189 : decode code 1189 = .ok (.if_icmp .eq 241, 3) := by decide +kernel
theorem dw_1192 : decode code 1192 = .ok (.iconst 0, 1) := by decide +kernel
theorem dw_1193 : decode code 1193 = .ok (.ireturn, 1) := by decide +kernel
theorem dw_1194 : decode code 1194 = .ok (.aload_n 1, 1) := by decide +kernel
theorem dw_1195 : decode code 1195 = .ok (.aload_n 0, 1) := by decide +kernel
theorem dw_1196 : decode code 1196 = .ok (.iload_n 3, 1) := by decide +kernel
theorem dw_1197 : decode code 1197 = .ok (.iconst 1, 1) := by decide +kernel
theorem dw_1198 : decode code 1198 = .ok (.iadd, 1) := by decide +kernel
theorem dw_1199 : decode code 1199 = .ok (.iaload, 1) := by decide +kernel
theorem dw_1200 : decode code 1200 = .ok (.invokevirtual 148, 3) := by decide +kernel
theorem dw_1203 : decode code 1203 = .ok (.aload_n 2, 1) := by decide +kernel
theorem dw_1204 : decode code 1204 = .ok (.aload_n 0, 1) := by decide +kernel
theorem dw_1205 : decode code 1205 = .ok (.iload_n 3, 1) := by decide +kernel
theorem dw_1206 : decode code 1206 = .ok (.iconst 1, 1) := by decide +kernel
theorem dw_1207 : decode code 1207 = .ok (.iadd, 1) := by decide +kernel
theorem dw_1208 : decode code 1208 = .ok (.iaload, 1) := by decide +kernel
theorem dw_1209 : decode code 1209 = .ok (.invokevirtual 151, 3) := by decide +kernel
theorem dw_1212 : decode code 1212 = .ok (.if_icmp .eq 218, 3) := by decide +kernel
theorem dw_1215 : decode code 1215 = .ok (.iconst 0, 1) := by decide +kernel
theorem dw_1216 : decode code 1216 = .ok (.ireturn, 1) := by decide +kernel
theorem dw_1217 : decode code 1217 = .ok (.aload_n 1, 1) := by decide +kernel
theorem dw_1218 : decode code 1218 = .ok (.aload_n 0, 1) := by decide +kernel
theorem dw_1219 : decode code 1219 = .ok (.iload_n 3, 1) := by decide +kernel
theorem dw_1220 : decode code 1220 = .ok (.iconst 1, 1) := by decide +kernel
theorem dw_1221 : decode code 1221 = .ok (.iadd, 1) := by decide +kernel
theorem dw_1222 : decode code 1222 = .ok (.iaload, 1) := by decide +kernel
theorem dw_1223 : decode code 1223 = .ok (.aload_n 0, 1) := by decide +kernel
theorem dw_1224 : decode code 1224 = .ok (.iload_n 3, 1) := by decide +kernel
theorem dw_1225 : decode code 1225 = .ok (.iconst 2, 1) := by decide +kernel
theorem dw_1226 : decode code 1226 = .ok (.iadd, 1) := by decide +kernel
theorem dw_1227 : decode code 1227 = .ok (.iaload, 1) := by decide +kernel
theorem dw_1228 : decode code 1228 = .ok (.aload_n 0, 1) := by decide +kernel
theorem dw_1229 : decode code 1229 = .ok (.iload_n 3, 1) := by decide +kernel
theorem dw_1230 : decode code 1230 = .ok (.iconst 3, 1) := by decide +kernel
theorem dw_1231 : decode code 1231 = .ok (.iadd, 1) := by decide +kernel
theorem dw_1232 : decode code 1232 = .ok (.iaload, 1) := by decide +kernel
theorem dw_1233 : decode code 1233 = .ok (.invokevirtual 152, 3) := by decide +kernel
theorem dw_1236 : decode code 1236 = .ok (.aload_n 2, 1) := by decide +kernel
theorem dw_1237 : decode code 1237 = .ok (.aload_n 0, 1) := by decide +kernel
theorem dw_1238 : decode code 1238 = .ok (.iload_n 3, 1) := by decide +kernel
theorem dw_1239 : decode code 1239 = .ok (.iconst 1, 1) := by decide +kernel
theorem dw_1240 : decode code 1240 = .ok (.iadd, 1) := by decide +kernel
theorem dw_1241 : decode code 1241 = .ok (.iaload, 1) := by decide +kernel
theorem dw_1242 : decode code 1242 = .ok (.aload_n 0, 1) := by decide +kernel
theorem dw_1243 : decode code 1243 = .ok (.iload_n 3, 1) := by decide +kernel
theorem dw_1244 : decode code 1244 = .ok (.iconst 2, 1) := by decide +kernel
theorem dw_1245 : decode code 1245 = .ok (.iadd, 1) := by decide +kernel
theorem dw_1246 : decode code 1246 = .ok (.iaload, 1) := by decide +kernel
theorem dw_1247 : decode code 1247 = .ok (.aload_n 0, 1) := by decide +kernel
theorem dw_1248 : decode code 1248 = .ok (.iload_n 3, 1) := by decide +kernel
theorem dw_1249 : decode code 1249 = .ok (.iconst 3, 1) := by decide +kernel
theorem dw_1250 : decode code 1250 = .ok (.iadd, 1) := by decide +kernel
theorem dw_1251 : decode code 1251 = .ok (.iaload, 1) := by decide +kernel
theorem dw_1252 : decode code 1252 = .ok (.invokevirtual 155, 3) := by decide +kernel
theorem dw_1255 : decode code 1255 = .ok (.if_icmp .eq 175, 3) := by decide +kernel
theorem dw_1258 : decode code 1258 = .ok (.iconst 0, 1) := by decide +kernel
theorem dw_1259 : decode code 1259 = .ok (.ireturn, 1) := by decide +kernel
theorem dw_1260 : decode code 1260 = .ok (.aload_n 1, 1) := by decide +kernel
theorem dw_1261 : decode code 1261 = .ok (.aload_n 0, 1) := by decide +kernel
theorem dw_1262 : decode code 1262 = .ok (.iload_n 3, 1) := by decide +kernel
theorem dw_1263 : decode code 1263 = .ok (.iconst 1, 1) := by decide +kernel
theorem dw_1264 : decode code 1264 = .ok (.iadd, 1) := by decide +kernel
theorem dw_1265 : decode code 1265 = .ok (.iaload, 1) := by decide +kernel
theorem dw_1266 : decode code 1266 = .ok (.aload_n 0, 1) := by decide +kernel
theorem dw_1267 : decode code 1267 = .ok (.iload_n 3, 1) := by decide +kernel
theorem dw_1268 : decode code 1268 = .ok (.iconst 2, 1) := by decide +kernel
theorem dw_1269 : decode code 1269 = .ok (.iadd, 1) := by decide +kernel
theorem dw_1270 : decode code 1270 = .ok (.iaload, 1) := by decide +kernel
theorem dw_1271 : decode code 1271 = .ok (.aload_n 0, 1) := by decide +kernel
theorem dw_1272 : decode code 1272 = .ok (.iload_n 3, 1) := by decide +kernel
theorem dw_1273 : decode code 1273 = .ok (.iconst 3, 1) := by decide +kernel
theorem dw_1274 : decode code 1274 = .ok (.iadd, 1) := by decide +kernel
theorem dw_1275 : decode code 1275 = .ok (.iaload, 1) := by decide +kernel
theorem dw_1276 : decode code 1276 = .ok (.i2l, 1) := by decide +kernel
theorem dw_1277 : decode code 1277 = .ok (.bipush 32, 2) := by decide +kernel
theorem dw_1279 : decode code 1279 = .ok (.lshl, 1) := by decide +kernel
theorem dw_1280 : decode code 1280 = .ok (.aload_n 0, 1) := by decide +kernel
theorem dw_1281 : decode code 1281 = .ok (.iload_n 3, 1) := by decide +kernel
theorem dw_1282 : decode code 1282 = .ok (.iconst 4, 1) := by decide +kernel
theorem dw_1283 : decode code 1283 = .ok (.iadd, 1) := by decide +kernel
theorem dw_1284 : decode code 1284 = .ok (.iaload, 1) := by decide +kernel
theorem dw_1285 : decode code 1285 = .ok (.i2l, 1) := by decide +kernel
theorem dw_1286 : decode code 1286 = .ok (.ldc2_w 156, 3) := by decide +kernel
theorem dw_1289 : decode code 1289 = .ok (.land, 1) := by decide +kernel
theorem dw_1290 : decode code 1290 = .ok (.lor, 1) := by decide +kernel
theorem dw_1291 : decode code 1291 = .ok (.invokevirtual 158, 3) := by decide +kernel
theorem dw_1294 : decode code 1294 = .ok (.aload_n 2, 1) := by decide +kernel
theorem dw_1295 : decode code 1295 = .ok (.aload_n 0, 1) := by decide +kernel
theorem dw_1296 : decode code 1296 = .ok (.iload_n 3, 1) := by decide +kernel
theorem dw_1297 : decode code 1297 = .ok (.iconst 1, 1) := by decide +kernel
theorem dw_1298 : decode code 1298 = .ok (.iadd, 1) := by decide +kernel
theorem dw_1299 : decode code 1299 = .ok (.iaload, 1) := by decide +kernel
theorem dw_1300 : decode code 1300 = .ok (.aload_n 0, 1) := by decide +kernel
theorem dw_1301 : decode code 1301 = .ok (.iload_n 3, 1) := by decide +kernel
theorem dw_1302 : decode code 1302 = .ok (.iconst 2, 1) := by decide +kernel
theorem dw_1303 : decode code 1303 = .ok (.iadd, 1) := by decide +kernel
theorem dw_1304 : decode code 1304 = .ok (.iaload, 1) := by decide +kernel
theorem dw_1305 : decode code 1305 = .ok (.aload_n 0, 1) := by decide +kernel
theorem dw_1306 : decode code 1306 = .ok (.iload_n 3, 1) := by decide +kernel
theorem dw_1307 : decode code 1307 = .ok (.iconst 3, 1) := by decide +kernel
theorem dw_1308 : decode code 1308 = .ok (.iadd, 1) := by decide +kernel
theorem dw_1309 : decode code 1309 = .ok (.iaload, 1) := by decide +kernel
theorem dw_1310 : decode code 1310 = .ok (.i2l, 1) := by decide +kernel
theorem dw_1311 : decode code 1311 = .ok (.bipush 32, 2) := by decide +kernel
theorem dw_1313 : decode code 1313 = .ok (.lshl, 1) := by decide +kernel
theorem dw_1314 : decode code 1314 = .ok (.aload_n 0, 1) := by decide +kernel
theorem dw_1315 : decode code 1315 = .ok (.iload_n 3, 1) := by decide +kernel
theorem dw_1316 : decode code 1316 = .ok (.iconst 4, 1) := by decide +kernel
theorem dw_1317 : decode code 1317 = .ok (.iadd, 1) := by decide +kernel
theorem dw_1318 : decode code 1318 = .ok (.iaload, 1) := by decide +kernel
theorem dw_1319 : decode code 1319 = .ok (.i2l, 1) := by decide +kernel
theorem dw_1320 : decode code 1320 = .ok (.ldc2_w 156, 3) := by decide +kernel
theorem dw_1323 : decode code 1323 = .ok (.land, 1) := by decide +kernel
theorem dw_1324 : decode code 1324 = .ok (.lor, 1) := by decide +kernel
theorem dw_1325 : decode code 1325 = .ok (.invokevirtual 162, 3) := by decide +kernel
theorem dw_1328 : decode code 1328 = .ok (.if_icmp .eq 102, 3) := by decide +kernel
theorem dw_1331 : decode code 1331 = .ok (.iconst 0, 1) := by decide +kernel
theorem dw_1332 : decode code 1332 = .ok (.ireturn, 1) := by decide +kernel
theorem dw_1333 : decode code 1333 = .ok (.aload_n 1, 1) := by decide +kernel
theorem dw_1334 : decode code 1334 = .ok (.aload_n 0, 1) := by decide +kernel
theorem dw_1335 : decode code 1335 = .ok (.iload_n 3, 1) := by decide +kernel
theorem dw_1336 : decode code 1336 = .ok (.iconst 1, 1) := by decide +kernel
theorem dw_1337 : decode code 1337 = .ok (.iadd, 1) := by decide +kernel
theorem dw_1338 : decode code 1338 = .ok (.iaload, 1) := by decide +kernel
theorem dw_1339 : decode code 1339 = .ok (.aload_n 0, 1) := by decide +kernel
theorem dw_1340 : decode code 1340 = .ok (.iload_n 3, 1) := by decide +kernel
theorem dw_1341 : decode code 1341 = .ok (.iconst 2, 1) := by decide +kernel
theorem dw_1342 : decode code 1342 = .ok (.iadd, 1) := by decide +kernel
theorem dw_1343 : decode code 1343 = .ok (.iaload, 1) := by decide +kernel
theorem dw_1344 : decode code 1344 = .ok (.invokevirtual 163, 3) := by decide +kernel
theorem dw_1347 : decode code 1347 = .ok (.aload_n 2, 1) := by decide +kernel
theorem dw_1348 : decode code 1348 = .ok (.aload_n 0, 1) := by decide +kernel
theorem dw_1349 : decode code 1349 = .ok (.iload_n 3, 1) := by decide +kernel
theorem dw_1350 : decode code 1350 = .ok (.iconst 1, 1) := by decide +kernel
theorem dw_1351 : decode code 1351 = .ok (.iadd, 1) := by decide +kernel
theorem dw_1352 : decode code 1352 = .ok (.iaload, 1) := by decide +kernel
theorem dw_1353 : decode code 1353 = .ok (.aload_n 0, 1) := by decide +kernel
theorem dw_1354 : decode code 1354 = .ok (.iload_n 3, 1) := by decide +kernel
theorem dw_1355 : decode code 1355 = .ok (.iconst 2, 1) := by decide +kernel
theorem dw_1356 : decode code 1356 = .ok (.iadd, 1) := by decide +kernel
theorem dw_1357 : decode code 1357 = .ok (.iaload, 1) := by decide +kernel
theorem dw_1358 : decode code 1358 = .ok (.invokevirtual 166, 3) := by decide +kernel
theorem dw_1361 : decode code 1361 = .ok (.lcmp, 1) := by decide +kernel
theorem dw_1362 : decode code 1362 = .ok (.ifCond .eq 68, 3) := by decide +kernel
theorem dw_1365 : decode code 1365 = .ok (.iconst 0, 1) := by decide +kernel
theorem dw_1366 : decode code 1366 = .ok (.ireturn, 1) := by decide +kernel
theorem dw_1367 : decode code 1367 = .ok (.aload_n 1, 1) := by decide +kernel
theorem dw_1368 : decode code 1368 = .ok (.aload_n 0, 1) := by decide +kernel
theorem dw_1369 : decode code 1369 = .ok (.iload_n 3, 1) := by decide +kernel
theorem dw_1370 : decode code 1370 = .ok (.iconst 1, 1) := by decide +kernel
theorem dw_1371 : decode code 1371 = .ok (.iadd, 1) := by decide +kernel
theorem dw_1372 : decode code 1372 = .ok (.iaload, 1) := by decide +kernel
theorem dw_1373 : decode code 1373 = .ok (.aload_n 0, 1) := by decide +kernel
theorem dw_1374 : decode code 1374 = .ok (.iload_n 3, 1) := by decide +kernel
theorem dw_1375 : decode code 1375 = .ok (.iconst 2, 1) := by decide +kernel
theorem dw_1376 : decode code 1376 = .ok (.iadd, 1) := by decide +kernel
theorem dw_1377 : decode code 1377 = .ok (.iaload, 1) := by decide +kernel
theorem dw_1378 : decode code 1378 = .ok (.aload_n 0, 1) := by decide +kernel
theorem dw_1379 : decode code 1379 = .ok (.iload_n 3, 1) := by decide +kernel
theorem dw_1380 : decode code 1380 = .ok (.iconst 3, 1) := by decide +kernel
theorem dw_1381 : decode code 1381 = .ok (.iadd, 1) := by decide +kernel
theorem dw_1382 : decode code 1382 = .ok (.iaload, 1) := by decide +kernel
theorem dw_1383 : decode code 1383 = .ok (.aload_n 0, 1) := by decide +kernel
theorem dw_1384 : decode code 1384 = .ok (.iload_n 3, 1) := by decide +kernel
theorem dw_1385 : decode code 1385 = .ok (.iconst 4, 1) := by decide +kernel
theorem dw_1386 : decode code 1386 = .ok (.iadd, 1) := by decide +kernel
theorem dw_1387 : decode code 1387 = .ok (.iaload, 1) := by decide +kernel
theorem dw_1388 : decode code 1388 = .ok (.aload_n 0, 1) := by decide +kernel
theorem dw_1389 : decode code 1389 = .ok (.iload_n 3, 1) := by decide +kernel
theorem dw_1390 : decode code 1390 = .ok (.iconst 5, 1) := by decide +kernel
theorem dw_1391 : decode code 1391 = .ok (.iadd, 1) := by decide +kernel
theorem dw_1392 : decode code 1392 = .ok (.iaload, 1) := by decide +kernel
theorem dw_1393 : decode code 1393 = .ok (.invokevirtual 167, 3) := by decide +kernel
theorem dw_1396 : decode code 1396 = .ok (.aload_n 2, 1) := by decide +kernel
theorem dw_1397 : decode code 1397 = .ok (.aload_n 0, 1) := by decide +kernel
theorem dw_1398 : decode code 1398 = .ok (.iload_n 3, 1) := by decide +kernel
theorem dw_1399 : decode code 1399 = .ok (.iconst 1, 1) := by decide +kernel
theorem dw_1400 : decode code 1400 = .ok (.iadd, 1) := by decide +kernel
theorem dw_1401 : decode code 1401 = .ok (.iaload, 1) := by decide +kernel
theorem dw_1402 : decode code 1402 = .ok (.aload_n 0, 1) := by decide +kernel
theorem dw_1403 : decode code 1403 = .ok (.iload_n 3, 1) := by decide +kernel
theorem dw_1404 : decode code 1404 = .ok (.iconst 2, 1) := by decide +kernel
theorem dw_1405 : decode code 1405 = .ok (.iadd, 1) := by decide +kernel
theorem dw_1406 : decode code 1406 = .ok (.iaload, 1) := by decide +kernel
theorem dw_1407 : decode code 1407 = .ok (.aload_n 0, 1) := by decide +kernel
theorem dw_1408 : decode code 1408 = .ok (.iload_n 3, 1) := by decide +kernel
theorem dw_1409 : decode code 1409 = .ok (.iconst 3, 1) := by decide +kernel
theorem dw_1410 : decode code 1410 = .ok (.iadd, 1) := by decide +kernel
theorem dw_1411 : decode code 1411 = .ok (.iaload, 1) := by decide +kernel
theorem dw_1412 : decode code 1412 = .ok (.aload_n 0, 1) := by decide +kernel
theorem dw_1413 : decode code 1413 = .ok (.iload_n 3, 1) := by decide +kernel
theorem dw_1414 : decode code 1414 = .ok (.iconst 4, 1) := by decide +kernel
theorem dw_1415 : decode code 1415 = .ok (.iadd, 1) := by decide +kernel
theorem dw_1416 : decode code 1416 = .ok (.iaload, 1) := by decide +kernel
theorem dw_1417 : decode code 1417 = .ok (.aload_n 0, 1) := by decide +kernel
theorem dw_1418 : decode code 1418 = .ok (.iload_n 3, 1) := by decide +kernel
theorem dw_1419 : decode code 1419 = .ok (.iconst 5, 1) := by decide +kernel
theorem dw_1420 : decode code 1420 = .ok (.iadd, 1) := by decide +kernel
theorem dw_1421 : decode code 1421 = .ok (.iaload, 1) := by decide +kernel
theorem dw_1422 : decode code 1422 = .ok (.invokevirtual 171, 3) := by decide +kernel
theorem dw_1425 : decode code 1425 = .ok (.if_icmp .eq 5, 3) := by decide +kernel
theorem dw_1428 : decode code 1428 = .ok (.iconst 0, 1) := by decide +kernel
theorem dw_1429 : decode code 1429 = .ok (.ireturn, 1) := by decide +kernel
theorem dw_1430 : decode code 1430 = .ok (.iinc 3 6, 3) := by decide +kernel
theorem dw_1433 : decode code 1433 = .ok (.goto (-1415), 3) := by decide +kernel
theorem dw_1436 : decode code 1436 = .ok (.iconst 1, 1) := by decide +kernel
theorem dw_1437 : decode code 1437 = .ok (.ireturn, 1) := by decide +kernel

section zLW
variable {p : Program} {l : Launch} {e : Env} {s : State} {m : MethodId} {below : List Frame} {meth : Method} {c : Code} {b L : Nat} {xs : Nat → Int32} {E : zE} {Q : State → Prop}
variable {pc i : Nat} {la : Array Slot} {st : List Value} {x m2 : zM}
def zLx (p : Program) (s : State) (m : MethodId) (meth : Method) (c : Code) (b L : Nat) (xs : Nat → Int32) (E : zE) : Prop :=
  p.tables.exec = Jvm.exec ∧ c.code = code ∧ c.maxLocals = 4 ∧ s.vm.findClass "TwoTrueLaw" = some m.cls ∧ (∀ w ∈ zgw, w.before #[Value.ref b] s = true) ∧ va_X b L xs s s.heap ∧ b < s.heap.size ∧ va_K E.1 vwCl (zty E) s ∧ zEv E (fun q => s.heap.size ≤ q) s s.heap ∧ (∀ k i, zad E k i = s.heap.size + zpos k i) ∧ L ≤ 3072
def zL (p : Program) (l : Launch) (e : Env) (s : State) (m : MethodId) (below : List Frame) (meth : Method) (c : Code) (b : Nat) (E : zE) (Q : State → Prop) (pc : Nat) (la : Array Slot) (st : List Value) (x m2 : zM) : Prop :=
  ∀ (H : Heap) (locs : List Loc), va_P E.1 vwCl (zw E zNC x) H → va_P E.1 vwCl (zw E zNM m2) H → va_S (fun q => s.heap.size ≤ q) s.heap H locs → W p l e room_1 s m #[Value.ref b] below meth c H locs 188 3892 Q (F0 m pc la st)
def zls (E : zE) (b i : Nat) : List (Nat × Value) := [(0, .ref b), (1, .ref (zad E 0 0)), (2, .ref (zad E 40 0)), (3, .int (nI i))]
theorem zl_al {n : Fin 4} {v : Nat} (C : zLx p s m meth c b L xs E) (hl : lv_has la 4 (zls E b i)) (j q0 : Nat) (hq : pc + 1 = q0) (hd : decode code pc = .ok (.aload_n n, 1)) (hj : (zls E b i)[j]? = some ((n : Nat), .ref v)) (k : zL p l e s m below meth c b E Q q0 la (.ref v :: st) x m2) : zL p l e s m below meth c b E Q pc la st x m2 := by
  subst hq
  exact fun H locs hP hM hS => lv_aload_n C.1 C.2.1 hd rfl (lv_at hl j hj) (k H locs hP hM hS)
/-- the script's place i + k -/
theorem zl_arg (C : zLx p s m meth c b L xs E) (hl : lv_has la 4 (zls E b i)) (k : Nat) {kz : Int} (q0 : Nat) (hq : pc + 5 = q0) (d0 : decode code pc = .ok (.aload_n 0, 1)) (d1 : decode code (pc + 1) = .ok (.iload_n 3, 1)) (d2 : decode code (pc + 2) = .ok (.iconst kz, 1)) (d3 : decode code (pc + 3) = .ok (.iadd, 1)) (d4 : decode code (pc + 4) = .ok (.iaload, 1)) (hk : Int32.ofInt kz = nI k) (hi : i + k < L) (kk : zL p l e s m below meth c b E Q q0 la (.int (xs (i + k)) :: st) x m2) : zL p l e s m below meth c b E Q pc la st x m2 := by
  subst hq
  intro H locs hP hM hS
  obtain ⟨hx, hb, hml, hown, hts, hX, hbl, hK, hE, had, hL⟩ := id C
  have hbA : ¬ (fun q : Nat => s.heap.size ≤ q) b := Nat.not_le.mpr hbl
  refine lv_aload_n hx hb d0 rfl (lv_at hl 0 rfl) ?_
  refine lv_iload_n hx hb d1 rfl (lv_at hl 3 rfl) ?_
  refine lv_iconst hx hb d2 hk ?_
  refine lv_iadd hx hb d3 ?_
  rw [nI_add]
  refine va_sld hx hb hX hbl hbA hS (vp_in_nI hi (by omega)) d4 ?_
  rw [nI_clamp (by omega)]
  exact kk H locs hP hM hS
theorem zl_callC {α2 : Type} {cv2 : α2 → Option Value} {ok2 : α2 → Prop} {y : MethodName} {cc2 : ByteArray} {nL2 ix d2 : Nat} {ret2 : Option FieldType} {o1 : Option (α2 × zM)} {r : α2} {x1 : zM} {stk : List Value} (As : List Value) (C : zLx p s m meth c b L xs E) (hl : lv_has la 4 (zls E b i)) (q0 : Nat) (hq : pc + 3 = q0) (hd : decode code pc = .ok (.invokevirtual ix, 3)) (hM : zCT l y cc2 nL2 ret2 d2 E zNC (zAC s.heap.size) (.ref (zad E 0 0) :: As) x cv2 ok2 o1) (ho : o1 = some (r, x1)) (hs : stk = As.reverse ++ .ref (zad E 0 0) :: st) (hcl : y.cls = "TwoTrue") (hcw : Cond.code y cc2 nL2 ret2 ∈ zgw) (h1 : Cond.methodLink "TwoTrueLaw" ix y ∈ zgw) (h2 : Cond.instanceMethod y ∈ zgw) (h3 : Cond.selects y.cls y y ∈ zgw) (h4 : Cond.initialized y.cls ∈ zgw) (hok : zok y As.length) (hr : d2 < 1000 ∧ nL2 ≤ 45) (hst : (st.map fun v => v.category).sum ≤ 8) (k : zL p l e s m below meth c b E Q q0 la ((cv2 r).toList ++ st) x1 m2) : zL p l e s m below meth c b E Q pc la stk x m2 := by
  subst hq
  intro H locs hP hMm hS
  subst hs
  obtain ⟨hx, hb, hml, hown, hts, hX, hbl, hK, hE, had, hL⟩ := id C
  have hR : (zrm d2).frames + 1 ≤ room_1.frames ∧ 8 + (nL2 + 11) + (zrm d2).locals ≤ room_1.locals := by
    show d2 + 1 ≤ 2048 ∧ 8 + (nL2 + 11) + 64 * d2 ≤ 84000
    omega
  have hsz : s.heap.size ≤ H.size := hS.1
  have hpre : ∀ U : State, U.heap = H → s.WarmedH U.vm → zPre E zNC (zAC s.heap.size) (.ref (zad E 0 0) :: As) x (.ref (zad E 0 0) :: As).toArray U := fun U hU hW => ⟨rfl, by rw [hU]; exact hP, va_K.moved hW.alike hK, by rw [hU]; exact (hE.narrow (fun q h => h.1)).go hW (fun a ha hn => hS.2.1 a ha (by show ¬ s.heap.size ≤ a; omega))⟩
  have cw : CallW room_1 s #[Value.ref b] "TwoTrueLaw" y.cls ix y cc2 nL2 ret2 (.code y cc2 nL2 ret2 :: zgw) (zrm d2) 0 0 As.length := ⟨callB_of As.length hts (zgc hcw) rfl rfl rfl (hts _ h4) (hts _ h1) hok hR, hts _ h2, hts _ h3⟩
  have hrec : ∃ cellB : Cell, H[zad E 0 0]? = some cellB ∧ cellB.vm.isStatics = false ∧ s.vm.findClass y.cls = some cellB.cls := by rw [hcl]; exact zrecv hK hP zn0 rfl rfl
  have hrun := va_runV (l := l) (p := p) (e := e) (below := below) (meth := meth) (H := H) (locs := locs) (cells := 188) (slots := 3892) (g := F0 m pc la (As.reverse ++ .ref (zad E 0 0) :: st)) (Ts := zgw) (As := As) (rest := st) ⟨hx, hb, hml, hown, hts⟩ (hM r x1 ho) cw ⟨zPre.blind, hrec, hpre⟩ rfl rfl hl.1 rfl (lv_room hst) hd ⟨Nat.le_of_ble_eq_true rfl, Nat.le_of_ble_eq_true rfl⟩
  intro T hT X
  obtain ⟨v, st₀, t, T', Lc, h0, X', hLc, e1, e2, ⟨hv, hxx, hP1, hz, hk⟩, stp⟩ := hrun T hT X
  cases hv
  rw [h0] at hz hk
  have hM1 : va_P E.1 vwCl (zw E zNM m2) T'.heap := by
    rw [e1]
    refine hMm.kept (fun j q hj => hk q.1 ((hMm j q hj).lt) (fun hA => ?_))
    have := ((zDM had).D m2).2 j q hj
    have h6 := this.1
    have h7 := hA.2
    omega
  obtain ⟨t2, a1, b1⟩ := k T'.heap (locs ++ Lc) (by rw [e1]; exact hP1) hM1 ⟨Nat.le_trans hsz (by rw [e1]; exact hz), fun q g1 g2 => by rw [e1, hk q (Nat.lt_of_lt_of_le g1 hsz) (fun h => g2 h.1)]; exact hS.2.1 q g1 g2, fun q hq => by
      rcases List.mem_append.mp hq with h | h
      · exact hS.2.2 q h
      · exact (hLc q h).1⟩ T' rfl X'
  exact ⟨t2, stp t2 a1, b1⟩
theorem zl_callM {α2 : Type} {cv2 : α2 → Option Value} {ok2 : α2 → Prop} {y : MethodName} {cc2 : ByteArray} {nL2 ix d2 : Nat} {ret2 : Option FieldType} {o1 : Option (α2 × zM)} {r : α2} {m1 : zM} {stk : List Value} (As : List Value) (C : zLx p s m meth c b L xs E) (hl : lv_has la 4 (zls E b i)) (q0 : Nat) (hq : pc + 3 = q0) (hd : decode code pc = .ok (.invokevirtual ix, 3)) (hM : zCT l y cc2 nL2 ret2 d2 E zNM (zAM s.heap.size) (.ref (zad E 40 0) :: As) m2 cv2 ok2 o1) (ho : o1 = some (r, m1)) (hs : stk = As.reverse ++ .ref (zad E 40 0) :: st) (hcl : y.cls = "TwoTrueModel") (hcw : Cond.code y cc2 nL2 ret2 ∈ zgw) (h1 : Cond.methodLink "TwoTrueLaw" ix y ∈ zgw) (h2 : Cond.instanceMethod y ∈ zgw) (h3 : Cond.selects y.cls y y ∈ zgw) (h4 : Cond.initialized y.cls ∈ zgw) (hok : zok y As.length) (hr : d2 < 1000 ∧ nL2 ≤ 45) (hst : (st.map fun v => v.category).sum ≤ 8) (k : zL p l e s m below meth c b E Q q0 la ((cv2 r).toList ++ st) x m1) : zL p l e s m below meth c b E Q pc la stk x m2 := by
  subst hq
  intro H locs hPc hP hS
  subst hs
  obtain ⟨hx, hb, hml, hown, hts, hX, hbl, hK, hE, had, hL⟩ := id C
  have hR : (zrm d2).frames + 1 ≤ room_1.frames ∧ 8 + (nL2 + 11) + (zrm d2).locals ≤ room_1.locals := by
    show d2 + 1 ≤ 2048 ∧ 8 + (nL2 + 11) + 64 * d2 ≤ 84000
    omega
  have hsz : s.heap.size ≤ H.size := hS.1
  have hpre : ∀ U : State, U.heap = H → s.WarmedH U.vm → zPre E zNM (zAM s.heap.size) (.ref (zad E 40 0) :: As) m2 (.ref (zad E 40 0) :: As).toArray U := fun U hU hW => ⟨rfl, by rw [hU]; exact hP, va_K.moved hW.alike hK, by rw [hU]; exact (hE.narrow (fun q h => Nat.le_trans (Nat.le_add_right _ 142) h.1)).go hW (fun a ha hn => hS.2.1 a ha (by show ¬ s.heap.size ≤ a; omega))⟩
  have cw : CallW room_1 s #[Value.ref b] "TwoTrueLaw" y.cls ix y cc2 nL2 ret2 (.code y cc2 nL2 ret2 :: zgw) (zrm d2) 0 0 As.length := ⟨callB_of As.length hts (zgc hcw) rfl rfl rfl (hts _ h4) (hts _ h1) hok hR, hts _ h2, hts _ h3⟩
  have hrec : ∃ cellB : Cell, H[zad E 40 0]? = some cellB ∧ cellB.vm.isStatics = false ∧ s.vm.findClass y.cls = some cellB.cls := by rw [hcl]; exact zrecv hK hP zn40 rfl rfl
  have hrun := va_runV (l := l) (p := p) (e := e) (below := below) (meth := meth) (H := H) (locs := locs) (cells := 188) (slots := 3892) (g := F0 m pc la (As.reverse ++ .ref (zad E 40 0) :: st)) (Ts := zgw) (As := As) (rest := st) ⟨hx, hb, hml, hown, hts⟩ (hM r m1 ho) cw ⟨zPre.blind, hrec, hpre⟩ rfl rfl hl.1 rfl (lv_room hst) hd ⟨Nat.le_of_ble_eq_true rfl, Nat.le_of_ble_eq_true rfl⟩
  intro T hT X
  obtain ⟨v, st₀, t, T', Lc, h0, X', hLc, e1, e2, ⟨hv, hxx, hP1, hz, hk⟩, stp⟩ := hrun T hT X
  cases hv
  rw [h0] at hz hk
  have hM1 : va_P E.1 vwCl (zw E zNC x) T'.heap := by
    rw [e1]
    refine hPc.kept (fun j q hj => hk q.1 ((hPc j q hj).lt) (fun hA => ?_))
    have := ((zDC had).D x).2 j q hj
    have h6 := this.2
    have h7 := hA.1
    omega
  obtain ⟨t2, a1, b1⟩ := k T'.heap (locs ++ Lc) hM1 (by rw [e1]; exact hP1) ⟨Nat.le_trans hsz (by rw [e1]; exact hz), fun q g1 g2 => by rw [e1, hk q (Nat.lt_of_lt_of_le g1 hsz) (fun h => g2 (Nat.le_trans (Nat.le_add_right _ 142) h.1))]; exact hS.2.1 q g1 g2, fun q hq => by
      rcases List.mem_append.mp hq with h | h
      · exact hS.2.2 q h
      · exact Nat.le_trans (Nat.le_add_right _ 142) (hLc q h).1⟩ T' rfl X'
  exact ⟨t2, stp t2 a1, b1⟩
theorem zl_eqI {off : Int} {r : Int32} (C : zLx p s m meth c b L xs E) (tgt : Nat) (hd : decode code pc = .ok (.if_icmp .eq off, 3)) (ht : (pc : Int) + off = (tgt : Int)) (k : zL p l e s m below meth c b E Q tgt la st x m2) : zL p l e s m below meth c b E Q pc la (.int r :: .int r :: st) x m2 := fun H locs hP hM hS => lv_icmp_eq C.1 C.2.1 hd ht (fun _ => k H locs hP hM hS) (fun h => absurd rfl h)
theorem zl_eqL {off : Int} {r : Int64} (C : zLx p s m meth c b L xs E) (tgt : Nat) (d0 : decode code pc = .ok (.lcmp, 1)) (hd : decode code (pc + 1) = .ok (.ifCond .eq off, 3)) (ht : ((pc + 1 : Nat) : Int) + off = (tgt : Int)) (k : zL p l e s m below meth c b E Q tgt la st x m2) : zL p l e s m below meth c b E Q pc la (.long r :: .long r :: st) x m2 := fun H locs hP hM hS => by
  refine W.lcmp C.1 C.2.1 d0 ?_
  have e : lg_cmp r r = 0 := by simp [lg_cmp]
  rw [e]
  exact lv_if_eq C.1 C.2.1 hd ht (fun _ => k H locs hP hM hS) (fun h => absurd rfl h)
/-- the long of item: two places of the script -/
def zlong (u v : Int32) : Int64 := (u.toInt64 <<< ((32 : Int32).toInt64 &&& 63)) ||| (v.toInt64 &&& 4294967295)
end zLW

theorem zw273 : (Jvm.Cond.methodLink "TwoTrueLaw" (13 : Nat) ({ cls := "TwoTrue", name := "person", desc := "(II)I" } : Jvm.MethodName)) ∈ zgw := zgm 338 (by decide +kernel) rfl
theorem zw274 : (Jvm.Cond.instanceMethod ({ cls := "TwoTrue", name := "person", desc := "(II)I" } : Jvm.MethodName)) ∈ zgw := zgm 339 (by decide +kernel) rfl
theorem zw275 : (Jvm.Cond.selects "TwoTrue" ({ cls := "TwoTrue", name := "person", desc := "(II)I" } : Jvm.MethodName) ({ cls := "TwoTrue", name := "person", desc := "(II)I" } : Jvm.MethodName)) ∈ zgw := zgm 340 (by decide +kernel) rfl
theorem zw276 : (Jvm.Cond.code ({ cls := "TwoTrue", name := "person", desc := "(II)I" } : Jvm.MethodName) prog_1_method_2_code (3 : Nat) (Option.some Jvm.ClassFile.FieldType.int)) ∈ zgw := zgm 341 (by decide +kernel) rfl
theorem zw285 : (Jvm.Cond.methodLink "TwoTrueLaw" (18 : Nat) ({ cls := "TwoTrue", name := "thing", desc := "(IIII)I" } : Jvm.MethodName)) ∈ zgw := zgm 350 (by decide +kernel) rfl
theorem zw286 : (Jvm.Cond.instanceMethod ({ cls := "TwoTrue", name := "thing", desc := "(IIII)I" } : Jvm.MethodName)) ∈ zgw := zgm 351 (by decide +kernel) rfl
theorem zw287 : (Jvm.Cond.selects "TwoTrue" ({ cls := "TwoTrue", name := "thing", desc := "(IIII)I" } : Jvm.MethodName) ({ cls := "TwoTrue", name := "thing", desc := "(IIII)I" } : Jvm.MethodName)) ∈ zgw := zgm 352 (by decide +kernel) rfl
theorem zw288 : (Jvm.Cond.code ({ cls := "TwoTrue", name := "thing", desc := "(IIII)I" } : Jvm.MethodName) prog_1_method_3_code (7 : Nat) (Option.some Jvm.ClassFile.FieldType.int)) ∈ zgw := zgm 353 (by decide +kernel) rfl
theorem zw296 : (Jvm.Cond.methodLink "TwoTrueLaw" (23 : Nat) ({ cls := "TwoTrue", name := "lie", desc := "(II)I" } : Jvm.MethodName)) ∈ zgw := zgm 361 (by decide +kernel) rfl
theorem zw297 : (Jvm.Cond.instanceMethod ({ cls := "TwoTrue", name := "lie", desc := "(II)I" } : Jvm.MethodName)) ∈ zgw := zgm 362 (by decide +kernel) rfl
theorem zw298 : (Jvm.Cond.selects "TwoTrue" ({ cls := "TwoTrue", name := "lie", desc := "(II)I" } : Jvm.MethodName) ({ cls := "TwoTrue", name := "lie", desc := "(II)I" } : Jvm.MethodName)) ∈ zgw := zgm 363 (by decide +kernel) rfl
theorem zw299 : (Jvm.Cond.code ({ cls := "TwoTrue", name := "lie", desc := "(II)I" } : Jvm.MethodName) prog_1_method_4_code (4 : Nat) (Option.some Jvm.ClassFile.FieldType.int)) ∈ zgw := zgm 364 (by decide +kernel) rfl
theorem zw300 : (Jvm.Cond.methodLink "TwoTrueLaw" (27 : Nat) ({ cls := "TwoTrue", name := "tells", desc := "(III)I" } : Jvm.MethodName)) ∈ zgw := zgm 365 (by decide +kernel) rfl
theorem zw301 : (Jvm.Cond.instanceMethod ({ cls := "TwoTrue", name := "tells", desc := "(III)I" } : Jvm.MethodName)) ∈ zgw := zgm 366 (by decide +kernel) rfl
theorem zw302 : (Jvm.Cond.selects "TwoTrue" ({ cls := "TwoTrue", name := "tells", desc := "(III)I" } : Jvm.MethodName) ({ cls := "TwoTrue", name := "tells", desc := "(III)I" } : Jvm.MethodName)) ∈ zgw := zgm 367 (by decide +kernel) rfl
theorem zw303 : (Jvm.Cond.code ({ cls := "TwoTrue", name := "tells", desc := "(III)I" } : Jvm.MethodName) prog_1_method_5_code (4 : Nat) (Option.some Jvm.ClassFile.FieldType.int)) ∈ zgw := zgm 368 (by decide +kernel) rfl
theorem zw308 : (Jvm.Cond.methodLink "TwoTrueLaw" (32 : Nat) ({ cls := "TwoTrue", name := "of", desc := "(II)I" } : Jvm.MethodName)) ∈ zgw := zgm 373 (by decide +kernel) rfl
theorem zw309 : (Jvm.Cond.instanceMethod ({ cls := "TwoTrue", name := "of", desc := "(II)I" } : Jvm.MethodName)) ∈ zgw := zgm 374 (by decide +kernel) rfl
theorem zw310 : (Jvm.Cond.selects "TwoTrue" ({ cls := "TwoTrue", name := "of", desc := "(II)I" } : Jvm.MethodName) ({ cls := "TwoTrue", name := "of", desc := "(II)I" } : Jvm.MethodName)) ∈ zgw := zgm 375 (by decide +kernel) rfl
theorem zw311 : (Jvm.Cond.code ({ cls := "TwoTrue", name := "of", desc := "(II)I" } : Jvm.MethodName) prog_1_method_6_code (3 : Nat) (Option.some Jvm.ClassFile.FieldType.int)) ∈ zgw := zgm 376 (by decide +kernel) rfl
theorem zw317 : (Jvm.Cond.methodLink "TwoTrueLaw" (36 : Nat) ({ cls := "TwoTrue", name := "row", desc := "(III)I" } : Jvm.MethodName)) ∈ zgw := zgm 382 (by decide +kernel) rfl
theorem zw318 : (Jvm.Cond.instanceMethod ({ cls := "TwoTrue", name := "row", desc := "(III)I" } : Jvm.MethodName)) ∈ zgw := zgm 383 (by decide +kernel) rfl
theorem zw319 : (Jvm.Cond.selects "TwoTrue" ({ cls := "TwoTrue", name := "row", desc := "(III)I" } : Jvm.MethodName) ({ cls := "TwoTrue", name := "row", desc := "(III)I" } : Jvm.MethodName)) ∈ zgw := zgm 384 (by decide +kernel) rfl
theorem zw320 : (Jvm.Cond.code ({ cls := "TwoTrue", name := "row", desc := "(III)I" } : Jvm.MethodName) prog_1_method_7_code (6 : Nat) (Option.some Jvm.ClassFile.FieldType.int)) ∈ zgw := zgm 385 (by decide +kernel) rfl
theorem zw321 : (Jvm.Cond.methodLink "TwoTrueLaw" (40 : Nat) ({ cls := "TwoTrue", name := "feed", desc := "(I)I" } : Jvm.MethodName)) ∈ zgw := zgm 386 (by decide +kernel) rfl
theorem zw322 : (Jvm.Cond.instanceMethod ({ cls := "TwoTrue", name := "feed", desc := "(I)I" } : Jvm.MethodName)) ∈ zgw := zgm 387 (by decide +kernel) rfl
theorem zw323 : (Jvm.Cond.selects "TwoTrue" ({ cls := "TwoTrue", name := "feed", desc := "(I)I" } : Jvm.MethodName) ({ cls := "TwoTrue", name := "feed", desc := "(I)I" } : Jvm.MethodName)) ∈ zgw := zgm 388 (by decide +kernel) rfl
theorem zw324 : (Jvm.Cond.code ({ cls := "TwoTrue", name := "feed", desc := "(I)I" } : Jvm.MethodName) prog_1_method_8_code (2 : Nat) (Option.some Jvm.ClassFile.FieldType.int)) ∈ zgw := zgm 389 (by decide +kernel) rfl
theorem zw329 : (Jvm.Cond.methodLink "TwoTrueLaw" (45 : Nat) ({ cls := "TwoTrue", name := "evening", desc := "()I" } : Jvm.MethodName)) ∈ zgw := zgm 394 (by decide +kernel) rfl
theorem zw330 : (Jvm.Cond.instanceMethod ({ cls := "TwoTrue", name := "evening", desc := "()I" } : Jvm.MethodName)) ∈ zgw := zgm 395 (by decide +kernel) rfl
theorem zw331 : (Jvm.Cond.selects "TwoTrue" ({ cls := "TwoTrue", name := "evening", desc := "()I" } : Jvm.MethodName) ({ cls := "TwoTrue", name := "evening", desc := "()I" } : Jvm.MethodName)) ∈ zgw := zgm 396 (by decide +kernel) rfl
theorem zw332 : (Jvm.Cond.code ({ cls := "TwoTrue", name := "evening", desc := "()I" } : Jvm.MethodName) prog_1_method_9_code (2 : Nat) (Option.some Jvm.ClassFile.FieldType.int)) ∈ zgw := zgm 397 (by decide +kernel) rfl
theorem zw493 : (Jvm.Cond.methodLink "TwoTrueLaw" (50 : Nat) ({ cls := "TwoTrue", name := "told", desc := "(I)I" } : Jvm.MethodName)) ∈ zgw := zgm 558 (by decide +kernel) rfl
theorem zw494 : (Jvm.Cond.instanceMethod ({ cls := "TwoTrue", name := "told", desc := "(I)I" } : Jvm.MethodName)) ∈ zgw := zgm 559 (by decide +kernel) rfl
theorem zw495 : (Jvm.Cond.selects "TwoTrue" ({ cls := "TwoTrue", name := "told", desc := "(I)I" } : Jvm.MethodName) ({ cls := "TwoTrue", name := "told", desc := "(I)I" } : Jvm.MethodName)) ∈ zgw := zgm 560 (by decide +kernel) rfl
theorem zw496 : (Jvm.Cond.code ({ cls := "TwoTrue", name := "told", desc := "(I)I" } : Jvm.MethodName) prog_1_method_10_code (2 : Nat) (Option.some Jvm.ClassFile.FieldType.int)) ∈ zgw := zgm 561 (by decide +kernel) rfl
theorem zw501 : (Jvm.Cond.methodLink "TwoTrueLaw" (54 : Nat) ({ cls := "TwoTrue", name := "doubt", desc := "(III)I" } : Jvm.MethodName)) ∈ zgw := zgm 566 (by decide +kernel) rfl
theorem zw502 : (Jvm.Cond.instanceMethod ({ cls := "TwoTrue", name := "doubt", desc := "(III)I" } : Jvm.MethodName)) ∈ zgw := zgm 567 (by decide +kernel) rfl
theorem zw503 : (Jvm.Cond.selects "TwoTrue" ({ cls := "TwoTrue", name := "doubt", desc := "(III)I" } : Jvm.MethodName) ({ cls := "TwoTrue", name := "doubt", desc := "(III)I" } : Jvm.MethodName)) ∈ zgw := zgm 568 (by decide +kernel) rfl
theorem zw504 : (Jvm.Cond.code ({ cls := "TwoTrue", name := "doubt", desc := "(III)I" } : Jvm.MethodName) prog_1_method_11_code (4 : Nat) (Option.some Jvm.ClassFile.FieldType.int)) ∈ zgw := zgm 569 (by decide +kernel) rfl
theorem zw517 : (Jvm.Cond.methodLink "TwoTrueLaw" (58 : Nat) ({ cls := "TwoTrue", name := "round", desc := "(I)I" } : Jvm.MethodName)) ∈ zgw := zgm 582 (by decide +kernel) rfl
theorem zw518 : (Jvm.Cond.instanceMethod ({ cls := "TwoTrue", name := "round", desc := "(I)I" } : Jvm.MethodName)) ∈ zgw := zgm 583 (by decide +kernel) rfl
theorem zw519 : (Jvm.Cond.selects "TwoTrue" ({ cls := "TwoTrue", name := "round", desc := "(I)I" } : Jvm.MethodName) ({ cls := "TwoTrue", name := "round", desc := "(I)I" } : Jvm.MethodName)) ∈ zgw := zgm 584 (by decide +kernel) rfl
theorem zw520 : (Jvm.Cond.code ({ cls := "TwoTrue", name := "round", desc := "(I)I" } : Jvm.MethodName) prog_1_method_12_code (2 : Nat) (Option.some Jvm.ClassFile.FieldType.int)) ∈ zgw := zgm 585 (by decide +kernel) rfl
theorem zw558 : (Jvm.Cond.methodLink "TwoTrueLaw" (62 : Nat) ({ cls := "TwoTrue", name := "guess", desc := "(II)I" } : Jvm.MethodName)) ∈ zgw := zgm 623 (by decide +kernel) rfl
theorem zw559 : (Jvm.Cond.instanceMethod ({ cls := "TwoTrue", name := "guess", desc := "(II)I" } : Jvm.MethodName)) ∈ zgw := zgm 624 (by decide +kernel) rfl
theorem zw560 : (Jvm.Cond.selects "TwoTrue" ({ cls := "TwoTrue", name := "guess", desc := "(II)I" } : Jvm.MethodName) ({ cls := "TwoTrue", name := "guess", desc := "(II)I" } : Jvm.MethodName)) ∈ zgw := zgm 625 (by decide +kernel) rfl
theorem zw561 : (Jvm.Cond.code ({ cls := "TwoTrue", name := "guess", desc := "(II)I" } : Jvm.MethodName) prog_1_method_13_code (3 : Nat) (Option.some Jvm.ClassFile.FieldType.int)) ∈ zgw := zgm 626 (by decide +kernel) rfl
theorem zw562 : (Jvm.Cond.methodLink "TwoTrueLaw" (66 : Nat) ({ cls := "TwoTrue", name := "hands", desc := "(II)I" } : Jvm.MethodName)) ∈ zgw := zgm 627 (by decide +kernel) rfl
theorem zw563 : (Jvm.Cond.instanceMethod ({ cls := "TwoTrue", name := "hands", desc := "(II)I" } : Jvm.MethodName)) ∈ zgw := zgm 628 (by decide +kernel) rfl
theorem zw564 : (Jvm.Cond.selects "TwoTrue" ({ cls := "TwoTrue", name := "hands", desc := "(II)I" } : Jvm.MethodName) ({ cls := "TwoTrue", name := "hands", desc := "(II)I" } : Jvm.MethodName)) ∈ zgw := zgm 629 (by decide +kernel) rfl
theorem zw565 : (Jvm.Cond.code ({ cls := "TwoTrue", name := "hands", desc := "(II)I" } : Jvm.MethodName) prog_1_method_14_code (4 : Nat) (Option.some Jvm.ClassFile.FieldType.int)) ∈ zgw := zgm 630 (by decide +kernel) rfl
theorem zw566 : (Jvm.Cond.methodLink "TwoTrueLaw" (70 : Nat) ({ cls := "TwoTrue", name := "order", desc := "(II)I" } : Jvm.MethodName)) ∈ zgw := zgm 631 (by decide +kernel) rfl
theorem zw567 : (Jvm.Cond.instanceMethod ({ cls := "TwoTrue", name := "order", desc := "(II)I" } : Jvm.MethodName)) ∈ zgw := zgm 632 (by decide +kernel) rfl
theorem zw568 : (Jvm.Cond.selects "TwoTrue" ({ cls := "TwoTrue", name := "order", desc := "(II)I" } : Jvm.MethodName) ({ cls := "TwoTrue", name := "order", desc := "(II)I" } : Jvm.MethodName)) ∈ zgw := zgm 633 (by decide +kernel) rfl
theorem zw569 : (Jvm.Cond.code ({ cls := "TwoTrue", name := "order", desc := "(II)I" } : Jvm.MethodName) prog_1_method_15_code (7 : Nat) (Option.some Jvm.ClassFile.FieldType.int)) ∈ zgw := zgm 634 (by decide +kernel) rfl
theorem zw584 : (Jvm.Cond.methodLink "TwoTrueLaw" (74 : Nat) ({ cls := "TwoTrue", name := "likely", desc := "(II)I" } : Jvm.MethodName)) ∈ zgw := zgm 649 (by decide +kernel) rfl
theorem zw585 : (Jvm.Cond.instanceMethod ({ cls := "TwoTrue", name := "likely", desc := "(II)I" } : Jvm.MethodName)) ∈ zgw := zgm 650 (by decide +kernel) rfl
theorem zw586 : (Jvm.Cond.selects "TwoTrue" ({ cls := "TwoTrue", name := "likely", desc := "(II)I" } : Jvm.MethodName) ({ cls := "TwoTrue", name := "likely", desc := "(II)I" } : Jvm.MethodName)) ∈ zgw := zgm 651 (by decide +kernel) rfl
theorem zw587 : (Jvm.Cond.code ({ cls := "TwoTrue", name := "likely", desc := "(II)I" } : Jvm.MethodName) prog_1_method_16_code (8 : Nat) (Option.some Jvm.ClassFile.FieldType.int)) ∈ zgw := zgm 652 (by decide +kernel) rfl
theorem zw588 : (Jvm.Cond.methodLink "TwoTrueLaw" (78 : Nat) ({ cls := "TwoTrue", name := "best", desc := "(II)I" } : Jvm.MethodName)) ∈ zgw := zgm 653 (by decide +kernel) rfl
theorem zw589 : (Jvm.Cond.instanceMethod ({ cls := "TwoTrue", name := "best", desc := "(II)I" } : Jvm.MethodName)) ∈ zgw := zgm 654 (by decide +kernel) rfl
theorem zw590 : (Jvm.Cond.selects "TwoTrue" ({ cls := "TwoTrue", name := "best", desc := "(II)I" } : Jvm.MethodName) ({ cls := "TwoTrue", name := "best", desc := "(II)I" } : Jvm.MethodName)) ∈ zgw := zgm 655 (by decide +kernel) rfl
theorem zw591 : (Jvm.Cond.code ({ cls := "TwoTrue", name := "best", desc := "(II)I" } : Jvm.MethodName) prog_1_method_17_code (7 : Nat) (Option.some Jvm.ClassFile.FieldType.int)) ∈ zgw := zgm 656 (by decide +kernel) rfl
theorem zw592 : (Jvm.Cond.methodLink "TwoTrueLaw" (82 : Nat) ({ cls := "TwoTrue", name := "first", desc := "(III)I" } : Jvm.MethodName)) ∈ zgw := zgm 657 (by decide +kernel) rfl
theorem zw593 : (Jvm.Cond.instanceMethod ({ cls := "TwoTrue", name := "first", desc := "(III)I" } : Jvm.MethodName)) ∈ zgw := zgm 658 (by decide +kernel) rfl
theorem zw594 : (Jvm.Cond.selects "TwoTrue" ({ cls := "TwoTrue", name := "first", desc := "(III)I" } : Jvm.MethodName) ({ cls := "TwoTrue", name := "first", desc := "(III)I" } : Jvm.MethodName)) ∈ zgw := zgm 659 (by decide +kernel) rfl
theorem zw595 : (Jvm.Cond.code ({ cls := "TwoTrue", name := "first", desc := "(III)I" } : Jvm.MethodName) prog_1_method_18_code (6 : Nat) (Option.some Jvm.ClassFile.FieldType.int)) ∈ zgw := zgm 660 (by decide +kernel) rfl
theorem zw598 : (Jvm.Cond.methodLink "TwoTrueLaw" (86 : Nat) ({ cls := "TwoTrue", name := "line", desc := "(II)I" } : Jvm.MethodName)) ∈ zgw := zgm 663 (by decide +kernel) rfl
theorem zw599 : (Jvm.Cond.instanceMethod ({ cls := "TwoTrue", name := "line", desc := "(II)I" } : Jvm.MethodName)) ∈ zgw := zgm 664 (by decide +kernel) rfl
theorem zw600 : (Jvm.Cond.selects "TwoTrue" ({ cls := "TwoTrue", name := "line", desc := "(II)I" } : Jvm.MethodName) ({ cls := "TwoTrue", name := "line", desc := "(II)I" } : Jvm.MethodName)) ∈ zgw := zgm 665 (by decide +kernel) rfl
theorem zw601 : (Jvm.Cond.code ({ cls := "TwoTrue", name := "line", desc := "(II)I" } : Jvm.MethodName) prog_1_method_19_code (4 : Nat) (Option.some Jvm.ClassFile.FieldType.int)) ∈ zgw := zgm 666 (by decide +kernel) rfl
theorem zw612 : (Jvm.Cond.methodLink "TwoTrueLaw" (90 : Nat) ({ cls := "TwoTrue", name := "worth", desc := "(I)I" } : Jvm.MethodName)) ∈ zgw := zgm 677 (by decide +kernel) rfl
theorem zw613 : (Jvm.Cond.instanceMethod ({ cls := "TwoTrue", name := "worth", desc := "(I)I" } : Jvm.MethodName)) ∈ zgw := zgm 678 (by decide +kernel) rfl
theorem zw614 : (Jvm.Cond.selects "TwoTrue" ({ cls := "TwoTrue", name := "worth", desc := "(I)I" } : Jvm.MethodName) ({ cls := "TwoTrue", name := "worth", desc := "(I)I" } : Jvm.MethodName)) ∈ zgw := zgm 679 (by decide +kernel) rfl
theorem zw615 : (Jvm.Cond.code ({ cls := "TwoTrue", name := "worth", desc := "(I)I" } : Jvm.MethodName) prog_1_method_20_code (5 : Nat) (Option.some Jvm.ClassFile.FieldType.int)) ∈ zgw := zgm 680 (by decide +kernel) rfl
theorem zw621 : (Jvm.Cond.methodLink "TwoTrueLaw" (94 : Nat) ({ cls := "TwoTrue", name := "see", desc := "(II)I" } : Jvm.MethodName)) ∈ zgw := zgm 686 (by decide +kernel) rfl
theorem zw622 : (Jvm.Cond.instanceMethod ({ cls := "TwoTrue", name := "see", desc := "(II)I" } : Jvm.MethodName)) ∈ zgw := zgm 687 (by decide +kernel) rfl
theorem zw623 : (Jvm.Cond.selects "TwoTrue" ({ cls := "TwoTrue", name := "see", desc := "(II)I" } : Jvm.MethodName) ({ cls := "TwoTrue", name := "see", desc := "(II)I" } : Jvm.MethodName)) ∈ zgw := zgm 688 (by decide +kernel) rfl
theorem zw624 : (Jvm.Cond.code ({ cls := "TwoTrue", name := "see", desc := "(II)I" } : Jvm.MethodName) prog_1_method_21_code (4 : Nat) (Option.some Jvm.ClassFile.FieldType.int)) ∈ zgw := zgm 689 (by decide +kernel) rfl
theorem zw625 : (Jvm.Cond.methodLink "TwoTrueLaw" (98 : Nat) ({ cls := "TwoTrue", name := "lies", desc := "(I)I" } : Jvm.MethodName)) ∈ zgw := zgm 690 (by decide +kernel) rfl
theorem zw626 : (Jvm.Cond.instanceMethod ({ cls := "TwoTrue", name := "lies", desc := "(I)I" } : Jvm.MethodName)) ∈ zgw := zgm 691 (by decide +kernel) rfl
theorem zw627 : (Jvm.Cond.selects "TwoTrue" ({ cls := "TwoTrue", name := "lies", desc := "(I)I" } : Jvm.MethodName) ({ cls := "TwoTrue", name := "lies", desc := "(I)I" } : Jvm.MethodName)) ∈ zgw := zgm 692 (by decide +kernel) rfl
theorem zw628 : (Jvm.Cond.code ({ cls := "TwoTrue", name := "lies", desc := "(I)I" } : Jvm.MethodName) prog_1_method_22_code (4 : Nat) (Option.some Jvm.ClassFile.FieldType.int)) ∈ zgw := zgm 693 (by decide +kernel) rfl
theorem zw633 : (Jvm.Cond.methodLink "TwoTrueLaw" (102 : Nat) ({ cls := "TwoTrue", name := "ends", desc := "(III)I" } : Jvm.MethodName)) ∈ zgw := zgm 698 (by decide +kernel) rfl
theorem zw634 : (Jvm.Cond.instanceMethod ({ cls := "TwoTrue", name := "ends", desc := "(III)I" } : Jvm.MethodName)) ∈ zgw := zgm 699 (by decide +kernel) rfl
theorem zw635 : (Jvm.Cond.selects "TwoTrue" ({ cls := "TwoTrue", name := "ends", desc := "(III)I" } : Jvm.MethodName) ({ cls := "TwoTrue", name := "ends", desc := "(III)I" } : Jvm.MethodName)) ∈ zgw := zgm 700 (by decide +kernel) rfl
theorem zw636 : (Jvm.Cond.code ({ cls := "TwoTrue", name := "ends", desc := "(III)I" } : Jvm.MethodName) prog_1_method_23_code (5 : Nat) (Option.some Jvm.ClassFile.FieldType.int)) ∈ zgw := zgm 701 (by decide +kernel) rfl
theorem zw641 : (Jvm.Cond.methodLink "TwoTrueLaw" (106 : Nat) ({ cls := "TwoTrue", name := "odds", desc := "(II)J" } : Jvm.MethodName)) ∈ zgw := zgm 706 (by decide +kernel) rfl
theorem zw642 : (Jvm.Cond.instanceMethod ({ cls := "TwoTrue", name := "odds", desc := "(II)J" } : Jvm.MethodName)) ∈ zgw := zgm 707 (by decide +kernel) rfl
theorem zw643 : (Jvm.Cond.selects "TwoTrue" ({ cls := "TwoTrue", name := "odds", desc := "(II)J" } : Jvm.MethodName) ({ cls := "TwoTrue", name := "odds", desc := "(II)J" } : Jvm.MethodName)) ∈ zgw := zgm 708 (by decide +kernel) rfl
theorem zw644 : (Jvm.Cond.code ({ cls := "TwoTrue", name := "odds", desc := "(II)J" } : Jvm.MethodName) prog_1_method_24_code (6 : Nat) (Option.some Jvm.ClassFile.FieldType.long)) ∈ zgw := zgm 709 (by decide +kernel) rfl
theorem zw649 : (Jvm.Cond.methodLink "TwoTrueLaw" (111 : Nat) ({ cls := "TwoTrue", name := "mean", desc := "(I)J" } : Jvm.MethodName)) ∈ zgw := zgm 714 (by decide +kernel) rfl
theorem zw650 : (Jvm.Cond.instanceMethod ({ cls := "TwoTrue", name := "mean", desc := "(I)J" } : Jvm.MethodName)) ∈ zgw := zgm 715 (by decide +kernel) rfl
theorem zw651 : (Jvm.Cond.selects "TwoTrue" ({ cls := "TwoTrue", name := "mean", desc := "(I)J" } : Jvm.MethodName) ({ cls := "TwoTrue", name := "mean", desc := "(I)J" } : Jvm.MethodName)) ∈ zgw := zgm 716 (by decide +kernel) rfl
theorem zw652 : (Jvm.Cond.code ({ cls := "TwoTrue", name := "mean", desc := "(I)J" } : Jvm.MethodName) prog_1_method_25_code (4 : Nat) (Option.some Jvm.ClassFile.FieldType.long)) ∈ zgw := zgm 717 (by decide +kernel) rfl
theorem zw653 : (Jvm.Cond.methodLink "TwoTrueLaw" (116 : Nat) ({ cls := "TwoTrue", name := "book", desc := "(III)I" } : Jvm.MethodName)) ∈ zgw := zgm 718 (by decide +kernel) rfl
theorem zw654 : (Jvm.Cond.instanceMethod ({ cls := "TwoTrue", name := "book", desc := "(III)I" } : Jvm.MethodName)) ∈ zgw := zgm 719 (by decide +kernel) rfl
theorem zw655 : (Jvm.Cond.selects "TwoTrue" ({ cls := "TwoTrue", name := "book", desc := "(III)I" } : Jvm.MethodName) ({ cls := "TwoTrue", name := "book", desc := "(III)I" } : Jvm.MethodName)) ∈ zgw := zgm 720 (by decide +kernel) rfl
theorem zw656 : (Jvm.Cond.code ({ cls := "TwoTrue", name := "book", desc := "(III)I" } : Jvm.MethodName) prog_1_method_26_code (4 : Nat) (Option.some Jvm.ClassFile.FieldType.int)) ∈ zgw := zgm 721 (by decide +kernel) rfl
theorem zw661 : (Jvm.Cond.methodLink "TwoTrueLaw" (120 : Nat) ({ cls := "TwoTrue", name := "looked", desc := "()I" } : Jvm.MethodName)) ∈ zgw := zgm 726 (by decide +kernel) rfl
theorem zw662 : (Jvm.Cond.instanceMethod ({ cls := "TwoTrue", name := "looked", desc := "()I" } : Jvm.MethodName)) ∈ zgw := zgm 727 (by decide +kernel) rfl
theorem zw663 : (Jvm.Cond.selects "TwoTrue" ({ cls := "TwoTrue", name := "looked", desc := "()I" } : Jvm.MethodName) ({ cls := "TwoTrue", name := "looked", desc := "()I" } : Jvm.MethodName)) ∈ zgw := zgm 728 (by decide +kernel) rfl
theorem zw664 : (Jvm.Cond.code ({ cls := "TwoTrue", name := "looked", desc := "()I" } : Jvm.MethodName) prog_1_method_27_code (2 : Nat) (Option.some Jvm.ClassFile.FieldType.int)) ∈ zgw := zgm 729 (by decide +kernel) rfl
theorem zw665 : (Jvm.Cond.methodLink "TwoTrueLaw" (124 : Nat) ({ cls := "TwoTrue", name := "judge", desc := "(II)I" } : Jvm.MethodName)) ∈ zgw := zgm 730 (by decide +kernel) rfl
theorem zw666 : (Jvm.Cond.instanceMethod ({ cls := "TwoTrue", name := "judge", desc := "(II)I" } : Jvm.MethodName)) ∈ zgw := zgm 731 (by decide +kernel) rfl
theorem zw667 : (Jvm.Cond.selects "TwoTrue" ({ cls := "TwoTrue", name := "judge", desc := "(II)I" } : Jvm.MethodName) ({ cls := "TwoTrue", name := "judge", desc := "(II)I" } : Jvm.MethodName)) ∈ zgw := zgm 732 (by decide +kernel) rfl
theorem zw668 : (Jvm.Cond.code ({ cls := "TwoTrue", name := "judge", desc := "(II)I" } : Jvm.MethodName) prog_1_method_28_code (5 : Nat) (Option.some Jvm.ClassFile.FieldType.int)) ∈ zgw := zgm 733 (by decide +kernel) rfl
theorem zw681 : (Jvm.Cond.methodLink "TwoTrueLaw" (128 : Nat) ({ cls := "TwoTrue", name := "image", desc := "()I" } : Jvm.MethodName)) ∈ zgw := zgm 746 (by decide +kernel) rfl
theorem zw682 : (Jvm.Cond.instanceMethod ({ cls := "TwoTrue", name := "image", desc := "()I" } : Jvm.MethodName)) ∈ zgw := zgm 747 (by decide +kernel) rfl
theorem zw683 : (Jvm.Cond.selects "TwoTrue" ({ cls := "TwoTrue", name := "image", desc := "()I" } : Jvm.MethodName) ({ cls := "TwoTrue", name := "image", desc := "()I" } : Jvm.MethodName)) ∈ zgw := zgm 748 (by decide +kernel) rfl
theorem zw684 : (Jvm.Cond.code ({ cls := "TwoTrue", name := "image", desc := "()I" } : Jvm.MethodName) prog_1_method_29_code (1 : Nat) (Option.some Jvm.ClassFile.FieldType.int)) ∈ zgw := zgm 749 (by decide +kernel) rfl
theorem zw685 : (Jvm.Cond.methodLink "TwoTrueLaw" (132 : Nat) ({ cls := "TwoTrue", name := "undo", desc := "()I" } : Jvm.MethodName)) ∈ zgw := zgm 750 (by decide +kernel) rfl
theorem zw686 : (Jvm.Cond.instanceMethod ({ cls := "TwoTrue", name := "undo", desc := "()I" } : Jvm.MethodName)) ∈ zgw := zgm 751 (by decide +kernel) rfl
theorem zw687 : (Jvm.Cond.selects "TwoTrue" ({ cls := "TwoTrue", name := "undo", desc := "()I" } : Jvm.MethodName) ({ cls := "TwoTrue", name := "undo", desc := "()I" } : Jvm.MethodName)) ∈ zgw := zgm 752 (by decide +kernel) rfl
theorem zw688 : (Jvm.Cond.code ({ cls := "TwoTrue", name := "undo", desc := "()I" } : Jvm.MethodName) prog_1_method_30_code (1 : Nat) (Option.some Jvm.ClassFile.FieldType.int)) ∈ zgw := zgm 753 (by decide +kernel) rfl
theorem zw689 : (Jvm.Cond.methodLink "TwoTrueLaw" (136 : Nat) ({ cls := "TwoTrue", name := "act", desc := "(III)I" } : Jvm.MethodName)) ∈ zgw := zgm 754 (by decide +kernel) rfl
theorem zw690 : (Jvm.Cond.instanceMethod ({ cls := "TwoTrue", name := "act", desc := "(III)I" } : Jvm.MethodName)) ∈ zgw := zgm 755 (by decide +kernel) rfl
theorem zw691 : (Jvm.Cond.selects "TwoTrue" ({ cls := "TwoTrue", name := "act", desc := "(III)I" } : Jvm.MethodName) ({ cls := "TwoTrue", name := "act", desc := "(III)I" } : Jvm.MethodName)) ∈ zgw := zgm 756 (by decide +kernel) rfl
theorem zw692 : (Jvm.Cond.code ({ cls := "TwoTrue", name := "act", desc := "(III)I" } : Jvm.MethodName) prog_1_method_31_code (4 : Nat) (Option.some Jvm.ClassFile.FieldType.int)) ∈ zgw := zgm 757 (by decide +kernel) rfl
theorem zw708 : (Jvm.Cond.methodLink "TwoTrueLaw" (140 : Nat) ({ cls := "TwoTrue", name := "trace", desc := "(I)I" } : Jvm.MethodName)) ∈ zgw := zgm 773 (by decide +kernel) rfl
theorem zw709 : (Jvm.Cond.instanceMethod ({ cls := "TwoTrue", name := "trace", desc := "(I)I" } : Jvm.MethodName)) ∈ zgw := zgm 774 (by decide +kernel) rfl
theorem zw710 : (Jvm.Cond.selects "TwoTrue" ({ cls := "TwoTrue", name := "trace", desc := "(I)I" } : Jvm.MethodName) ({ cls := "TwoTrue", name := "trace", desc := "(I)I" } : Jvm.MethodName)) ∈ zgw := zgm 775 (by decide +kernel) rfl
theorem zw711 : (Jvm.Cond.code ({ cls := "TwoTrue", name := "trace", desc := "(I)I" } : Jvm.MethodName) prog_1_method_32_code (2 : Nat) (Option.some Jvm.ClassFile.FieldType.int)) ∈ zgw := zgm 776 (by decide +kernel) rfl
theorem zw712 : (Jvm.Cond.methodLink "TwoTrueLaw" (144 : Nat) ({ cls := "TwoTrue", name := "taken", desc := "(II)I" } : Jvm.MethodName)) ∈ zgw := zgm 777 (by decide +kernel) rfl
theorem zw713 : (Jvm.Cond.instanceMethod ({ cls := "TwoTrue", name := "taken", desc := "(II)I" } : Jvm.MethodName)) ∈ zgw := zgm 778 (by decide +kernel) rfl
theorem zw714 : (Jvm.Cond.selects "TwoTrue" ({ cls := "TwoTrue", name := "taken", desc := "(II)I" } : Jvm.MethodName) ({ cls := "TwoTrue", name := "taken", desc := "(II)I" } : Jvm.MethodName)) ∈ zgw := zgm 779 (by decide +kernel) rfl
theorem zw715 : (Jvm.Cond.code ({ cls := "TwoTrue", name := "taken", desc := "(II)I" } : Jvm.MethodName) prog_1_method_33_code (4 : Nat) (Option.some Jvm.ClassFile.FieldType.int)) ∈ zgw := zgm 780 (by decide +kernel) rfl
theorem zw716 : (Jvm.Cond.methodLink "TwoTrueLaw" (148 : Nat) ({ cls := "TwoTrue", name := "count", desc := "(I)I" } : Jvm.MethodName)) ∈ zgw := zgm 781 (by decide +kernel) rfl
theorem zw717 : (Jvm.Cond.instanceMethod ({ cls := "TwoTrue", name := "count", desc := "(I)I" } : Jvm.MethodName)) ∈ zgw := zgm 782 (by decide +kernel) rfl
theorem zw718 : (Jvm.Cond.selects "TwoTrue" ({ cls := "TwoTrue", name := "count", desc := "(I)I" } : Jvm.MethodName) ({ cls := "TwoTrue", name := "count", desc := "(I)I" } : Jvm.MethodName)) ∈ zgw := zgm 783 (by decide +kernel) rfl
theorem zw719 : (Jvm.Cond.code ({ cls := "TwoTrue", name := "count", desc := "(I)I" } : Jvm.MethodName) prog_1_method_34_code (2 : Nat) (Option.some Jvm.ClassFile.FieldType.int)) ∈ zgw := zgm 784 (by decide +kernel) rfl
theorem zw720 : (Jvm.Cond.methodLink "TwoTrueLaw" (152 : Nat) ({ cls := "TwoTrue", name := "tape", desc := "(III)I" } : Jvm.MethodName)) ∈ zgw := zgm 785 (by decide +kernel) rfl
theorem zw721 : (Jvm.Cond.instanceMethod ({ cls := "TwoTrue", name := "tape", desc := "(III)I" } : Jvm.MethodName)) ∈ zgw := zgm 786 (by decide +kernel) rfl
theorem zw722 : (Jvm.Cond.selects "TwoTrue" ({ cls := "TwoTrue", name := "tape", desc := "(III)I" } : Jvm.MethodName) ({ cls := "TwoTrue", name := "tape", desc := "(III)I" } : Jvm.MethodName)) ∈ zgw := zgm 787 (by decide +kernel) rfl
theorem zw723 : (Jvm.Cond.code ({ cls := "TwoTrue", name := "tape", desc := "(III)I" } : Jvm.MethodName) prog_1_method_35_code (4 : Nat) (Option.some Jvm.ClassFile.FieldType.int)) ∈ zgw := zgm 788 (by decide +kernel) rfl
theorem zw728 : (Jvm.Cond.methodLink "TwoTrueLaw" (158 : Nat) ({ cls := "TwoTrue", name := "item", desc := "(IIJ)I" } : Jvm.MethodName)) ∈ zgw := zgm 793 (by decide +kernel) rfl
theorem zw729 : (Jvm.Cond.instanceMethod ({ cls := "TwoTrue", name := "item", desc := "(IIJ)I" } : Jvm.MethodName)) ∈ zgw := zgm 794 (by decide +kernel) rfl
theorem zw730 : (Jvm.Cond.selects "TwoTrue" ({ cls := "TwoTrue", name := "item", desc := "(IIJ)I" } : Jvm.MethodName) ({ cls := "TwoTrue", name := "item", desc := "(IIJ)I" } : Jvm.MethodName)) ∈ zgw := zgm 795 (by decide +kernel) rfl
theorem zw731 : (Jvm.Cond.code ({ cls := "TwoTrue", name := "item", desc := "(IIJ)I" } : Jvm.MethodName) prog_1_method_36_code (5 : Nat) (Option.some Jvm.ClassFile.FieldType.int)) ∈ zgw := zgm 796 (by decide +kernel) rfl
theorem zw743 : (Jvm.Cond.methodLink "TwoTrueLaw" (163 : Nat) ({ cls := "TwoTrue", name := "read", desc := "(II)J" } : Jvm.MethodName)) ∈ zgw := zgm 808 (by decide +kernel) rfl
theorem zw744 : (Jvm.Cond.instanceMethod ({ cls := "TwoTrue", name := "read", desc := "(II)J" } : Jvm.MethodName)) ∈ zgw := zgm 809 (by decide +kernel) rfl
theorem zw745 : (Jvm.Cond.selects "TwoTrue" ({ cls := "TwoTrue", name := "read", desc := "(II)J" } : Jvm.MethodName) ({ cls := "TwoTrue", name := "read", desc := "(II)J" } : Jvm.MethodName)) ∈ zgw := zgm 810 (by decide +kernel) rfl
theorem zw746 : (Jvm.Cond.code ({ cls := "TwoTrue", name := "read", desc := "(II)J" } : Jvm.MethodName) prog_1_method_37_code (3 : Nat) (Option.some Jvm.ClassFile.FieldType.long)) ∈ zgw := zgm 811 (by decide +kernel) rfl
theorem zw747 : (Jvm.Cond.methodLink "TwoTrueLaw" (167 : Nat) ({ cls := "TwoTrue", name := "shift", desc := "(IIIII)I" } : Jvm.MethodName)) ∈ zgw := zgm 812 (by decide +kernel) rfl
theorem zw748 : (Jvm.Cond.instanceMethod ({ cls := "TwoTrue", name := "shift", desc := "(IIIII)I" } : Jvm.MethodName)) ∈ zgw := zgm 813 (by decide +kernel) rfl
theorem zw749 : (Jvm.Cond.selects "TwoTrue" ({ cls := "TwoTrue", name := "shift", desc := "(IIIII)I" } : Jvm.MethodName) ({ cls := "TwoTrue", name := "shift", desc := "(IIIII)I" } : Jvm.MethodName)) ∈ zgw := zgm 814 (by decide +kernel) rfl
theorem zw750 : (Jvm.Cond.code ({ cls := "TwoTrue", name := "shift", desc := "(IIIII)I" } : Jvm.MethodName) prog_1_method_38_code (6 : Nat) (Option.some Jvm.ClassFile.FieldType.int)) ∈ zgw := zgm 815 (by decide +kernel) rfl
theorem zw962 : (Jvm.Cond.methodLink "TwoTrueLaw" (17 : Nat) ({ cls := "TwoTrueModel", name := "person", desc := "(II)I" } : Jvm.MethodName)) ∈ zgw := zgm 1027 (by decide +kernel) rfl
theorem zw963 : (Jvm.Cond.instanceMethod ({ cls := "TwoTrueModel", name := "person", desc := "(II)I" } : Jvm.MethodName)) ∈ zgw := zgm 1028 (by decide +kernel) rfl
theorem zw964 : (Jvm.Cond.selects "TwoTrueModel" ({ cls := "TwoTrueModel", name := "person", desc := "(II)I" } : Jvm.MethodName) ({ cls := "TwoTrueModel", name := "person", desc := "(II)I" } : Jvm.MethodName)) ∈ zgw := zgm 1029 (by decide +kernel) rfl
theorem zw965 : (Jvm.Cond.code ({ cls := "TwoTrueModel", name := "person", desc := "(II)I" } : Jvm.MethodName) prog_10_method_5_code (4 : Nat) (Option.some Jvm.ClassFile.FieldType.int)) ∈ zgw := zgm 1030 (by decide +kernel) rfl
theorem zw970 : (Jvm.Cond.methodLink "TwoTrueLaw" (22 : Nat) ({ cls := "TwoTrueModel", name := "thing", desc := "(IIII)I" } : Jvm.MethodName)) ∈ zgw := zgm 1035 (by decide +kernel) rfl
theorem zw971 : (Jvm.Cond.instanceMethod ({ cls := "TwoTrueModel", name := "thing", desc := "(IIII)I" } : Jvm.MethodName)) ∈ zgw := zgm 1036 (by decide +kernel) rfl
theorem zw972 : (Jvm.Cond.selects "TwoTrueModel" ({ cls := "TwoTrueModel", name := "thing", desc := "(IIII)I" } : Jvm.MethodName) ({ cls := "TwoTrueModel", name := "thing", desc := "(IIII)I" } : Jvm.MethodName)) ∈ zgw := zgm 1037 (by decide +kernel) rfl
theorem zw973 : (Jvm.Cond.code ({ cls := "TwoTrueModel", name := "thing", desc := "(IIII)I" } : Jvm.MethodName) prog_10_method_6_code (6 : Nat) (Option.some Jvm.ClassFile.FieldType.int)) ∈ zgw := zgm 1038 (by decide +kernel) rfl
theorem zw978 : (Jvm.Cond.methodLink "TwoTrueLaw" (26 : Nat) ({ cls := "TwoTrueModel", name := "lie", desc := "(II)I" } : Jvm.MethodName)) ∈ zgw := zgm 1043 (by decide +kernel) rfl
theorem zw979 : (Jvm.Cond.instanceMethod ({ cls := "TwoTrueModel", name := "lie", desc := "(II)I" } : Jvm.MethodName)) ∈ zgw := zgm 1044 (by decide +kernel) rfl
theorem zw980 : (Jvm.Cond.selects "TwoTrueModel" ({ cls := "TwoTrueModel", name := "lie", desc := "(II)I" } : Jvm.MethodName) ({ cls := "TwoTrueModel", name := "lie", desc := "(II)I" } : Jvm.MethodName)) ∈ zgw := zgm 1045 (by decide +kernel) rfl
theorem zw981 : (Jvm.Cond.code ({ cls := "TwoTrueModel", name := "lie", desc := "(II)I" } : Jvm.MethodName) prog_10_method_7_code (4 : Nat) (Option.some Jvm.ClassFile.FieldType.int)) ∈ zgw := zgm 1046 (by decide +kernel) rfl
theorem zw982 : (Jvm.Cond.methodLink "TwoTrueLaw" (31 : Nat) ({ cls := "TwoTrueModel", name := "tells", desc := "(III)I" } : Jvm.MethodName)) ∈ zgw := zgm 1047 (by decide +kernel) rfl
theorem zw983 : (Jvm.Cond.instanceMethod ({ cls := "TwoTrueModel", name := "tells", desc := "(III)I" } : Jvm.MethodName)) ∈ zgw := zgm 1048 (by decide +kernel) rfl
theorem zw984 : (Jvm.Cond.selects "TwoTrueModel" ({ cls := "TwoTrueModel", name := "tells", desc := "(III)I" } : Jvm.MethodName) ({ cls := "TwoTrueModel", name := "tells", desc := "(III)I" } : Jvm.MethodName)) ∈ zgw := zgm 1049 (by decide +kernel) rfl
theorem zw985 : (Jvm.Cond.code ({ cls := "TwoTrueModel", name := "tells", desc := "(III)I" } : Jvm.MethodName) prog_10_method_9_code (4 : Nat) (Option.some Jvm.ClassFile.FieldType.int)) ∈ zgw := zgm 1050 (by decide +kernel) rfl
theorem zw990 : (Jvm.Cond.methodLink "TwoTrueLaw" (35 : Nat) ({ cls := "TwoTrueModel", name := "of", desc := "(II)I" } : Jvm.MethodName)) ∈ zgw := zgm 1055 (by decide +kernel) rfl
theorem zw991 : (Jvm.Cond.instanceMethod ({ cls := "TwoTrueModel", name := "of", desc := "(II)I" } : Jvm.MethodName)) ∈ zgw := zgm 1056 (by decide +kernel) rfl
theorem zw992 : (Jvm.Cond.selects "TwoTrueModel" ({ cls := "TwoTrueModel", name := "of", desc := "(II)I" } : Jvm.MethodName) ({ cls := "TwoTrueModel", name := "of", desc := "(II)I" } : Jvm.MethodName)) ∈ zgw := zgm 1057 (by decide +kernel) rfl
theorem zw993 : (Jvm.Cond.code ({ cls := "TwoTrueModel", name := "of", desc := "(II)I" } : Jvm.MethodName) prog_10_method_10_code (3 : Nat) (Option.some Jvm.ClassFile.FieldType.int)) ∈ zgw := zgm 1058 (by decide +kernel) rfl
theorem zw994 : (Jvm.Cond.methodLink "TwoTrueLaw" (39 : Nat) ({ cls := "TwoTrueModel", name := "row", desc := "(III)I" } : Jvm.MethodName)) ∈ zgw := zgm 1059 (by decide +kernel) rfl
theorem zw995 : (Jvm.Cond.instanceMethod ({ cls := "TwoTrueModel", name := "row", desc := "(III)I" } : Jvm.MethodName)) ∈ zgw := zgm 1060 (by decide +kernel) rfl
theorem zw996 : (Jvm.Cond.selects "TwoTrueModel" ({ cls := "TwoTrueModel", name := "row", desc := "(III)I" } : Jvm.MethodName) ({ cls := "TwoTrueModel", name := "row", desc := "(III)I" } : Jvm.MethodName)) ∈ zgw := zgm 1061 (by decide +kernel) rfl
theorem zw997 : (Jvm.Cond.code ({ cls := "TwoTrueModel", name := "row", desc := "(III)I" } : Jvm.MethodName) prog_10_method_11_code (5 : Nat) (Option.some Jvm.ClassFile.FieldType.int)) ∈ zgw := zgm 1062 (by decide +kernel) rfl
theorem zw998 : (Jvm.Cond.methodLink "TwoTrueLaw" (44 : Nat) ({ cls := "TwoTrueModel", name := "feed", desc := "(I)I" } : Jvm.MethodName)) ∈ zgw := zgm 1063 (by decide +kernel) rfl
theorem zw999 : (Jvm.Cond.instanceMethod ({ cls := "TwoTrueModel", name := "feed", desc := "(I)I" } : Jvm.MethodName)) ∈ zgw := zgm 1064 (by decide +kernel) rfl
theorem zw1000 : (Jvm.Cond.selects "TwoTrueModel" ({ cls := "TwoTrueModel", name := "feed", desc := "(I)I" } : Jvm.MethodName) ({ cls := "TwoTrueModel", name := "feed", desc := "(I)I" } : Jvm.MethodName)) ∈ zgw := zgm 1065 (by decide +kernel) rfl
theorem zw1001 : (Jvm.Cond.code ({ cls := "TwoTrueModel", name := "feed", desc := "(I)I" } : Jvm.MethodName) prog_10_method_12_code (2 : Nat) (Option.some Jvm.ClassFile.FieldType.int)) ∈ zgw := zgm 1066 (by decide +kernel) rfl
theorem zw1002 : (Jvm.Cond.methodLink "TwoTrueLaw" (49 : Nat) ({ cls := "TwoTrueModel", name := "evening", desc := "()I" } : Jvm.MethodName)) ∈ zgw := zgm 1067 (by decide +kernel) rfl
theorem zw1003 : (Jvm.Cond.instanceMethod ({ cls := "TwoTrueModel", name := "evening", desc := "()I" } : Jvm.MethodName)) ∈ zgw := zgm 1068 (by decide +kernel) rfl
theorem zw1004 : (Jvm.Cond.selects "TwoTrueModel" ({ cls := "TwoTrueModel", name := "evening", desc := "()I" } : Jvm.MethodName) ({ cls := "TwoTrueModel", name := "evening", desc := "()I" } : Jvm.MethodName)) ∈ zgw := zgm 1069 (by decide +kernel) rfl
theorem zw1005 : (Jvm.Cond.code ({ cls := "TwoTrueModel", name := "evening", desc := "()I" } : Jvm.MethodName) prog_10_method_27_code (2 : Nat) (Option.some Jvm.ClassFile.FieldType.int)) ∈ zgw := zgm 1070 (by decide +kernel) rfl
theorem zw1062 : (Jvm.Cond.methodLink "TwoTrueLaw" (53 : Nat) ({ cls := "TwoTrueModel", name := "told", desc := "(I)I" } : Jvm.MethodName)) ∈ zgw := zgm 1127 (by decide +kernel) rfl
theorem zw1063 : (Jvm.Cond.instanceMethod ({ cls := "TwoTrueModel", name := "told", desc := "(I)I" } : Jvm.MethodName)) ∈ zgw := zgm 1128 (by decide +kernel) rfl
theorem zw1064 : (Jvm.Cond.selects "TwoTrueModel" ({ cls := "TwoTrueModel", name := "told", desc := "(I)I" } : Jvm.MethodName) ({ cls := "TwoTrueModel", name := "told", desc := "(I)I" } : Jvm.MethodName)) ∈ zgw := zgm 1129 (by decide +kernel) rfl
theorem zw1065 : (Jvm.Cond.code ({ cls := "TwoTrueModel", name := "told", desc := "(I)I" } : Jvm.MethodName) prog_10_method_34_code (2 : Nat) (Option.some Jvm.ClassFile.FieldType.int)) ∈ zgw := zgm 1130 (by decide +kernel) rfl
theorem zw1078 : (Jvm.Cond.methodLink "TwoTrueLaw" (57 : Nat) ({ cls := "TwoTrueModel", name := "doubt", desc := "(III)I" } : Jvm.MethodName)) ∈ zgw := zgm 1143 (by decide +kernel) rfl
theorem zw1079 : (Jvm.Cond.instanceMethod ({ cls := "TwoTrueModel", name := "doubt", desc := "(III)I" } : Jvm.MethodName)) ∈ zgw := zgm 1144 (by decide +kernel) rfl
theorem zw1080 : (Jvm.Cond.selects "TwoTrueModel" ({ cls := "TwoTrueModel", name := "doubt", desc := "(III)I" } : Jvm.MethodName) ({ cls := "TwoTrueModel", name := "doubt", desc := "(III)I" } : Jvm.MethodName)) ∈ zgw := zgm 1145 (by decide +kernel) rfl
theorem zw1081 : (Jvm.Cond.code ({ cls := "TwoTrueModel", name := "doubt", desc := "(III)I" } : Jvm.MethodName) prog_10_method_35_code (4 : Nat) (Option.some Jvm.ClassFile.FieldType.int)) ∈ zgw := zgm 1146 (by decide +kernel) rfl
theorem zw1094 : (Jvm.Cond.methodLink "TwoTrueLaw" (61 : Nat) ({ cls := "TwoTrueModel", name := "round", desc := "(I)I" } : Jvm.MethodName)) ∈ zgw := zgm 1159 (by decide +kernel) rfl
theorem zw1095 : (Jvm.Cond.instanceMethod ({ cls := "TwoTrueModel", name := "round", desc := "(I)I" } : Jvm.MethodName)) ∈ zgw := zgm 1160 (by decide +kernel) rfl
theorem zw1096 : (Jvm.Cond.selects "TwoTrueModel" ({ cls := "TwoTrueModel", name := "round", desc := "(I)I" } : Jvm.MethodName) ({ cls := "TwoTrueModel", name := "round", desc := "(I)I" } : Jvm.MethodName)) ∈ zgw := zgm 1161 (by decide +kernel) rfl
theorem zw1097 : (Jvm.Cond.code ({ cls := "TwoTrueModel", name := "round", desc := "(I)I" } : Jvm.MethodName) prog_10_method_44_code (2 : Nat) (Option.some Jvm.ClassFile.FieldType.int)) ∈ zgw := zgm 1162 (by decide +kernel) rfl
theorem zw1130 : (Jvm.Cond.methodLink "TwoTrueLaw" (65 : Nat) ({ cls := "TwoTrueModel", name := "guess", desc := "(II)I" } : Jvm.MethodName)) ∈ zgw := zgm 1195 (by decide +kernel) rfl
theorem zw1131 : (Jvm.Cond.instanceMethod ({ cls := "TwoTrueModel", name := "guess", desc := "(II)I" } : Jvm.MethodName)) ∈ zgw := zgm 1196 (by decide +kernel) rfl
theorem zw1132 : (Jvm.Cond.selects "TwoTrueModel" ({ cls := "TwoTrueModel", name := "guess", desc := "(II)I" } : Jvm.MethodName) ({ cls := "TwoTrueModel", name := "guess", desc := "(II)I" } : Jvm.MethodName)) ∈ zgw := zgm 1197 (by decide +kernel) rfl
theorem zw1133 : (Jvm.Cond.code ({ cls := "TwoTrueModel", name := "guess", desc := "(II)I" } : Jvm.MethodName) prog_10_method_45_code (4 : Nat) (Option.some Jvm.ClassFile.FieldType.int)) ∈ zgw := zgm 1198 (by decide +kernel) rfl
theorem zw1134 : (Jvm.Cond.methodLink "TwoTrueLaw" (69 : Nat) ({ cls := "TwoTrueModel", name := "hands", desc := "(II)I" } : Jvm.MethodName)) ∈ zgw := zgm 1199 (by decide +kernel) rfl
theorem zw1135 : (Jvm.Cond.instanceMethod ({ cls := "TwoTrueModel", name := "hands", desc := "(II)I" } : Jvm.MethodName)) ∈ zgw := zgm 1200 (by decide +kernel) rfl
theorem zw1136 : (Jvm.Cond.selects "TwoTrueModel" ({ cls := "TwoTrueModel", name := "hands", desc := "(II)I" } : Jvm.MethodName) ({ cls := "TwoTrueModel", name := "hands", desc := "(II)I" } : Jvm.MethodName)) ∈ zgw := zgm 1201 (by decide +kernel) rfl
theorem zw1137 : (Jvm.Cond.code ({ cls := "TwoTrueModel", name := "hands", desc := "(II)I" } : Jvm.MethodName) prog_10_method_46_code (4 : Nat) (Option.some Jvm.ClassFile.FieldType.int)) ∈ zgw := zgm 1202 (by decide +kernel) rfl
theorem zw1138 : (Jvm.Cond.methodLink "TwoTrueLaw" (73 : Nat) ({ cls := "TwoTrueModel", name := "order", desc := "(II)I" } : Jvm.MethodName)) ∈ zgw := zgm 1203 (by decide +kernel) rfl
theorem zw1139 : (Jvm.Cond.instanceMethod ({ cls := "TwoTrueModel", name := "order", desc := "(II)I" } : Jvm.MethodName)) ∈ zgw := zgm 1204 (by decide +kernel) rfl
theorem zw1140 : (Jvm.Cond.selects "TwoTrueModel" ({ cls := "TwoTrueModel", name := "order", desc := "(II)I" } : Jvm.MethodName) ({ cls := "TwoTrueModel", name := "order", desc := "(II)I" } : Jvm.MethodName)) ∈ zgw := zgm 1205 (by decide +kernel) rfl
theorem zw1141 : (Jvm.Cond.code ({ cls := "TwoTrueModel", name := "order", desc := "(II)I" } : Jvm.MethodName) prog_10_method_47_code (7 : Nat) (Option.some Jvm.ClassFile.FieldType.int)) ∈ zgw := zgm 1206 (by decide +kernel) rfl
theorem zw1142 : (Jvm.Cond.methodLink "TwoTrueLaw" (77 : Nat) ({ cls := "TwoTrueModel", name := "likely", desc := "(II)I" } : Jvm.MethodName)) ∈ zgw := zgm 1207 (by decide +kernel) rfl
theorem zw1143 : (Jvm.Cond.instanceMethod ({ cls := "TwoTrueModel", name := "likely", desc := "(II)I" } : Jvm.MethodName)) ∈ zgw := zgm 1208 (by decide +kernel) rfl
theorem zw1144 : (Jvm.Cond.selects "TwoTrueModel" ({ cls := "TwoTrueModel", name := "likely", desc := "(II)I" } : Jvm.MethodName) ({ cls := "TwoTrueModel", name := "likely", desc := "(II)I" } : Jvm.MethodName)) ∈ zgw := zgm 1209 (by decide +kernel) rfl
theorem zw1145 : (Jvm.Cond.code ({ cls := "TwoTrueModel", name := "likely", desc := "(II)I" } : Jvm.MethodName) prog_10_method_48_code (7 : Nat) (Option.some Jvm.ClassFile.FieldType.int)) ∈ zgw := zgm 1210 (by decide +kernel) rfl
theorem zw1146 : (Jvm.Cond.methodLink "TwoTrueLaw" (81 : Nat) ({ cls := "TwoTrueModel", name := "best", desc := "(II)I" } : Jvm.MethodName)) ∈ zgw := zgm 1211 (by decide +kernel) rfl
theorem zw1147 : (Jvm.Cond.instanceMethod ({ cls := "TwoTrueModel", name := "best", desc := "(II)I" } : Jvm.MethodName)) ∈ zgw := zgm 1212 (by decide +kernel) rfl
theorem zw1148 : (Jvm.Cond.selects "TwoTrueModel" ({ cls := "TwoTrueModel", name := "best", desc := "(II)I" } : Jvm.MethodName) ({ cls := "TwoTrueModel", name := "best", desc := "(II)I" } : Jvm.MethodName)) ∈ zgw := zgm 1213 (by decide +kernel) rfl
theorem zw1149 : (Jvm.Cond.code ({ cls := "TwoTrueModel", name := "best", desc := "(II)I" } : Jvm.MethodName) prog_10_method_49_code (6 : Nat) (Option.some Jvm.ClassFile.FieldType.int)) ∈ zgw := zgm 1214 (by decide +kernel) rfl
theorem zw1150 : (Jvm.Cond.methodLink "TwoTrueLaw" (85 : Nat) ({ cls := "TwoTrueModel", name := "first", desc := "(III)I" } : Jvm.MethodName)) ∈ zgw := zgm 1215 (by decide +kernel) rfl
theorem zw1151 : (Jvm.Cond.instanceMethod ({ cls := "TwoTrueModel", name := "first", desc := "(III)I" } : Jvm.MethodName)) ∈ zgw := zgm 1216 (by decide +kernel) rfl
theorem zw1152 : (Jvm.Cond.selects "TwoTrueModel" ({ cls := "TwoTrueModel", name := "first", desc := "(III)I" } : Jvm.MethodName) ({ cls := "TwoTrueModel", name := "first", desc := "(III)I" } : Jvm.MethodName)) ∈ zgw := zgm 1217 (by decide +kernel) rfl
theorem zw1153 : (Jvm.Cond.code ({ cls := "TwoTrueModel", name := "first", desc := "(III)I" } : Jvm.MethodName) prog_10_method_50_code (7 : Nat) (Option.some Jvm.ClassFile.FieldType.int)) ∈ zgw := zgm 1218 (by decide +kernel) rfl
theorem zw1154 : (Jvm.Cond.methodLink "TwoTrueLaw" (89 : Nat) ({ cls := "TwoTrueModel", name := "line", desc := "(II)I" } : Jvm.MethodName)) ∈ zgw := zgm 1219 (by decide +kernel) rfl
theorem zw1155 : (Jvm.Cond.instanceMethod ({ cls := "TwoTrueModel", name := "line", desc := "(II)I" } : Jvm.MethodName)) ∈ zgw := zgm 1220 (by decide +kernel) rfl
theorem zw1156 : (Jvm.Cond.selects "TwoTrueModel" ({ cls := "TwoTrueModel", name := "line", desc := "(II)I" } : Jvm.MethodName) ({ cls := "TwoTrueModel", name := "line", desc := "(II)I" } : Jvm.MethodName)) ∈ zgw := zgm 1221 (by decide +kernel) rfl
theorem zw1157 : (Jvm.Cond.code ({ cls := "TwoTrueModel", name := "line", desc := "(II)I" } : Jvm.MethodName) prog_10_method_52_code (9 : Nat) (Option.some Jvm.ClassFile.FieldType.int)) ∈ zgw := zgm 1222 (by decide +kernel) rfl
theorem zw1166 : (Jvm.Cond.methodLink "TwoTrueLaw" (93 : Nat) ({ cls := "TwoTrueModel", name := "worth", desc := "(I)I" } : Jvm.MethodName)) ∈ zgw := zgm 1231 (by decide +kernel) rfl
theorem zw1167 : (Jvm.Cond.instanceMethod ({ cls := "TwoTrueModel", name := "worth", desc := "(I)I" } : Jvm.MethodName)) ∈ zgw := zgm 1232 (by decide +kernel) rfl
theorem zw1168 : (Jvm.Cond.selects "TwoTrueModel" ({ cls := "TwoTrueModel", name := "worth", desc := "(I)I" } : Jvm.MethodName) ({ cls := "TwoTrueModel", name := "worth", desc := "(I)I" } : Jvm.MethodName)) ∈ zgw := zgm 1233 (by decide +kernel) rfl
theorem zw1169 : (Jvm.Cond.code ({ cls := "TwoTrueModel", name := "worth", desc := "(I)I" } : Jvm.MethodName) prog_10_method_54_code (4 : Nat) (Option.some Jvm.ClassFile.FieldType.int)) ∈ zgw := zgm 1234 (by decide +kernel) rfl
theorem zw1174 : (Jvm.Cond.methodLink "TwoTrueLaw" (97 : Nat) ({ cls := "TwoTrueModel", name := "see", desc := "(II)I" } : Jvm.MethodName)) ∈ zgw := zgm 1239 (by decide +kernel) rfl
theorem zw1175 : (Jvm.Cond.instanceMethod ({ cls := "TwoTrueModel", name := "see", desc := "(II)I" } : Jvm.MethodName)) ∈ zgw := zgm 1240 (by decide +kernel) rfl
theorem zw1176 : (Jvm.Cond.selects "TwoTrueModel" ({ cls := "TwoTrueModel", name := "see", desc := "(II)I" } : Jvm.MethodName) ({ cls := "TwoTrueModel", name := "see", desc := "(II)I" } : Jvm.MethodName)) ∈ zgw := zgm 1241 (by decide +kernel) rfl
theorem zw1177 : (Jvm.Cond.code ({ cls := "TwoTrueModel", name := "see", desc := "(II)I" } : Jvm.MethodName) prog_10_method_55_code (4 : Nat) (Option.some Jvm.ClassFile.FieldType.int)) ∈ zgw := zgm 1242 (by decide +kernel) rfl
theorem zw1178 : (Jvm.Cond.methodLink "TwoTrueLaw" (101 : Nat) ({ cls := "TwoTrueModel", name := "lies", desc := "(I)I" } : Jvm.MethodName)) ∈ zgw := zgm 1243 (by decide +kernel) rfl
theorem zw1179 : (Jvm.Cond.instanceMethod ({ cls := "TwoTrueModel", name := "lies", desc := "(I)I" } : Jvm.MethodName)) ∈ zgw := zgm 1244 (by decide +kernel) rfl
theorem zw1180 : (Jvm.Cond.selects "TwoTrueModel" ({ cls := "TwoTrueModel", name := "lies", desc := "(I)I" } : Jvm.MethodName) ({ cls := "TwoTrueModel", name := "lies", desc := "(I)I" } : Jvm.MethodName)) ∈ zgw := zgm 1245 (by decide +kernel) rfl
theorem zw1181 : (Jvm.Cond.code ({ cls := "TwoTrueModel", name := "lies", desc := "(I)I" } : Jvm.MethodName) prog_10_method_56_code (6 : Nat) (Option.some Jvm.ClassFile.FieldType.int)) ∈ zgw := zgm 1246 (by decide +kernel) rfl
theorem zw1182 : (Jvm.Cond.methodLink "TwoTrueLaw" (105 : Nat) ({ cls := "TwoTrueModel", name := "ends", desc := "(III)I" } : Jvm.MethodName)) ∈ zgw := zgm 1247 (by decide +kernel) rfl
theorem zw1183 : (Jvm.Cond.instanceMethod ({ cls := "TwoTrueModel", name := "ends", desc := "(III)I" } : Jvm.MethodName)) ∈ zgw := zgm 1248 (by decide +kernel) rfl
theorem zw1184 : (Jvm.Cond.selects "TwoTrueModel" ({ cls := "TwoTrueModel", name := "ends", desc := "(III)I" } : Jvm.MethodName) ({ cls := "TwoTrueModel", name := "ends", desc := "(III)I" } : Jvm.MethodName)) ∈ zgw := zgm 1249 (by decide +kernel) rfl
theorem zw1185 : (Jvm.Cond.code ({ cls := "TwoTrueModel", name := "ends", desc := "(III)I" } : Jvm.MethodName) prog_10_method_57_code (8 : Nat) (Option.some Jvm.ClassFile.FieldType.int)) ∈ zgw := zgm 1250 (by decide +kernel) rfl
theorem zw1186 : (Jvm.Cond.methodLink "TwoTrueLaw" (110 : Nat) ({ cls := "TwoTrueModel", name := "odds", desc := "(II)J" } : Jvm.MethodName)) ∈ zgw := zgm 1251 (by decide +kernel) rfl
theorem zw1187 : (Jvm.Cond.instanceMethod ({ cls := "TwoTrueModel", name := "odds", desc := "(II)J" } : Jvm.MethodName)) ∈ zgw := zgm 1252 (by decide +kernel) rfl
theorem zw1188 : (Jvm.Cond.selects "TwoTrueModel" ({ cls := "TwoTrueModel", name := "odds", desc := "(II)J" } : Jvm.MethodName) ({ cls := "TwoTrueModel", name := "odds", desc := "(II)J" } : Jvm.MethodName)) ∈ zgw := zgm 1253 (by decide +kernel) rfl
theorem zw1189 : (Jvm.Cond.code ({ cls := "TwoTrueModel", name := "odds", desc := "(II)J" } : Jvm.MethodName) prog_10_method_60_code (6 : Nat) (Option.some Jvm.ClassFile.FieldType.long)) ∈ zgw := zgm 1254 (by decide +kernel) rfl
theorem zw1199 : (Jvm.Cond.methodLink "TwoTrueLaw" (115 : Nat) ({ cls := "TwoTrueModel", name := "mean", desc := "(I)J" } : Jvm.MethodName)) ∈ zgw := zgm 1264 (by decide +kernel) rfl
theorem zw1200 : (Jvm.Cond.instanceMethod ({ cls := "TwoTrueModel", name := "mean", desc := "(I)J" } : Jvm.MethodName)) ∈ zgw := zgm 1265 (by decide +kernel) rfl
theorem zw1201 : (Jvm.Cond.selects "TwoTrueModel" ({ cls := "TwoTrueModel", name := "mean", desc := "(I)J" } : Jvm.MethodName) ({ cls := "TwoTrueModel", name := "mean", desc := "(I)J" } : Jvm.MethodName)) ∈ zgw := zgm 1266 (by decide +kernel) rfl
theorem zw1202 : (Jvm.Cond.code ({ cls := "TwoTrueModel", name := "mean", desc := "(I)J" } : Jvm.MethodName) prog_10_method_61_code (4 : Nat) (Option.some Jvm.ClassFile.FieldType.long)) ∈ zgw := zgm 1267 (by decide +kernel) rfl
theorem zw1203 : (Jvm.Cond.methodLink "TwoTrueLaw" (119 : Nat) ({ cls := "TwoTrueModel", name := "book", desc := "(III)I" } : Jvm.MethodName)) ∈ zgw := zgm 1268 (by decide +kernel) rfl
theorem zw1204 : (Jvm.Cond.instanceMethod ({ cls := "TwoTrueModel", name := "book", desc := "(III)I" } : Jvm.MethodName)) ∈ zgw := zgm 1269 (by decide +kernel) rfl
theorem zw1205 : (Jvm.Cond.selects "TwoTrueModel" ({ cls := "TwoTrueModel", name := "book", desc := "(III)I" } : Jvm.MethodName) ({ cls := "TwoTrueModel", name := "book", desc := "(III)I" } : Jvm.MethodName)) ∈ zgw := zgm 1270 (by decide +kernel) rfl
theorem zw1206 : (Jvm.Cond.code ({ cls := "TwoTrueModel", name := "book", desc := "(III)I" } : Jvm.MethodName) prog_10_method_62_code (4 : Nat) (Option.some Jvm.ClassFile.FieldType.int)) ∈ zgw := zgm 1271 (by decide +kernel) rfl
theorem zw1207 : (Jvm.Cond.methodLink "TwoTrueLaw" (123 : Nat) ({ cls := "TwoTrueModel", name := "looked", desc := "()I" } : Jvm.MethodName)) ∈ zgw := zgm 1272 (by decide +kernel) rfl
theorem zw1208 : (Jvm.Cond.instanceMethod ({ cls := "TwoTrueModel", name := "looked", desc := "()I" } : Jvm.MethodName)) ∈ zgw := zgm 1273 (by decide +kernel) rfl
theorem zw1209 : (Jvm.Cond.selects "TwoTrueModel" ({ cls := "TwoTrueModel", name := "looked", desc := "()I" } : Jvm.MethodName) ({ cls := "TwoTrueModel", name := "looked", desc := "()I" } : Jvm.MethodName)) ∈ zgw := zgm 1274 (by decide +kernel) rfl
theorem zw1210 : (Jvm.Cond.code ({ cls := "TwoTrueModel", name := "looked", desc := "()I" } : Jvm.MethodName) prog_10_method_63_code (3 : Nat) (Option.some Jvm.ClassFile.FieldType.int)) ∈ zgw := zgm 1275 (by decide +kernel) rfl
theorem zw1211 : (Jvm.Cond.methodLink "TwoTrueLaw" (127 : Nat) ({ cls := "TwoTrueModel", name := "judge", desc := "(II)I" } : Jvm.MethodName)) ∈ zgw := zgm 1276 (by decide +kernel) rfl
theorem zw1212 : (Jvm.Cond.instanceMethod ({ cls := "TwoTrueModel", name := "judge", desc := "(II)I" } : Jvm.MethodName)) ∈ zgw := zgm 1277 (by decide +kernel) rfl
theorem zw1213 : (Jvm.Cond.selects "TwoTrueModel" ({ cls := "TwoTrueModel", name := "judge", desc := "(II)I" } : Jvm.MethodName) ({ cls := "TwoTrueModel", name := "judge", desc := "(II)I" } : Jvm.MethodName)) ∈ zgw := zgm 1278 (by decide +kernel) rfl
theorem zw1214 : (Jvm.Cond.code ({ cls := "TwoTrueModel", name := "judge", desc := "(II)I" } : Jvm.MethodName) prog_10_method_64_code (4 : Nat) (Option.some Jvm.ClassFile.FieldType.int)) ∈ zgw := zgm 1279 (by decide +kernel) rfl
theorem zw1219 : (Jvm.Cond.methodLink "TwoTrueLaw" (131 : Nat) ({ cls := "TwoTrueModel", name := "image", desc := "()I" } : Jvm.MethodName)) ∈ zgw := zgm 1284 (by decide +kernel) rfl
theorem zw1220 : (Jvm.Cond.instanceMethod ({ cls := "TwoTrueModel", name := "image", desc := "()I" } : Jvm.MethodName)) ∈ zgw := zgm 1285 (by decide +kernel) rfl
theorem zw1221 : (Jvm.Cond.selects "TwoTrueModel" ({ cls := "TwoTrueModel", name := "image", desc := "()I" } : Jvm.MethodName) ({ cls := "TwoTrueModel", name := "image", desc := "()I" } : Jvm.MethodName)) ∈ zgw := zgm 1286 (by decide +kernel) rfl
theorem zw1222 : (Jvm.Cond.code ({ cls := "TwoTrueModel", name := "image", desc := "()I" } : Jvm.MethodName) prog_10_method_65_code (2 : Nat) (Option.some Jvm.ClassFile.FieldType.int)) ∈ zgw := zgm 1287 (by decide +kernel) rfl
theorem zw1223 : (Jvm.Cond.methodLink "TwoTrueLaw" (135 : Nat) ({ cls := "TwoTrueModel", name := "undo", desc := "()I" } : Jvm.MethodName)) ∈ zgw := zgm 1288 (by decide +kernel) rfl
theorem zw1224 : (Jvm.Cond.instanceMethod ({ cls := "TwoTrueModel", name := "undo", desc := "()I" } : Jvm.MethodName)) ∈ zgw := zgm 1289 (by decide +kernel) rfl
theorem zw1225 : (Jvm.Cond.selects "TwoTrueModel" ({ cls := "TwoTrueModel", name := "undo", desc := "()I" } : Jvm.MethodName) ({ cls := "TwoTrueModel", name := "undo", desc := "()I" } : Jvm.MethodName)) ∈ zgw := zgm 1290 (by decide +kernel) rfl
theorem zw1226 : (Jvm.Cond.code ({ cls := "TwoTrueModel", name := "undo", desc := "()I" } : Jvm.MethodName) prog_10_method_66_code (2 : Nat) (Option.some Jvm.ClassFile.FieldType.int)) ∈ zgw := zgm 1291 (by decide +kernel) rfl
theorem zw1227 : (Jvm.Cond.methodLink "TwoTrueLaw" (139 : Nat) ({ cls := "TwoTrueModel", name := "act", desc := "(III)I" } : Jvm.MethodName)) ∈ zgw := zgm 1292 (by decide +kernel) rfl
theorem zw1228 : (Jvm.Cond.instanceMethod ({ cls := "TwoTrueModel", name := "act", desc := "(III)I" } : Jvm.MethodName)) ∈ zgw := zgm 1293 (by decide +kernel) rfl
theorem zw1229 : (Jvm.Cond.selects "TwoTrueModel" ({ cls := "TwoTrueModel", name := "act", desc := "(III)I" } : Jvm.MethodName) ({ cls := "TwoTrueModel", name := "act", desc := "(III)I" } : Jvm.MethodName)) ∈ zgw := zgm 1294 (by decide +kernel) rfl
theorem zw1230 : (Jvm.Cond.code ({ cls := "TwoTrueModel", name := "act", desc := "(III)I" } : Jvm.MethodName) prog_10_method_75_code (4 : Nat) (Option.some Jvm.ClassFile.FieldType.int)) ∈ zgw := zgm 1295 (by decide +kernel) rfl
theorem zw1263 : (Jvm.Cond.methodLink "TwoTrueLaw" (143 : Nat) ({ cls := "TwoTrueModel", name := "trace", desc := "(I)I" } : Jvm.MethodName)) ∈ zgw := zgm 1328 (by decide +kernel) rfl
theorem zw1264 : (Jvm.Cond.instanceMethod ({ cls := "TwoTrueModel", name := "trace", desc := "(I)I" } : Jvm.MethodName)) ∈ zgw := zgm 1329 (by decide +kernel) rfl
theorem zw1265 : (Jvm.Cond.selects "TwoTrueModel" ({ cls := "TwoTrueModel", name := "trace", desc := "(I)I" } : Jvm.MethodName) ({ cls := "TwoTrueModel", name := "trace", desc := "(I)I" } : Jvm.MethodName)) ∈ zgw := zgm 1330 (by decide +kernel) rfl
theorem zw1266 : (Jvm.Cond.code ({ cls := "TwoTrueModel", name := "trace", desc := "(I)I" } : Jvm.MethodName) prog_10_method_76_code (2 : Nat) (Option.some Jvm.ClassFile.FieldType.int)) ∈ zgw := zgm 1331 (by decide +kernel) rfl
theorem zw1267 : (Jvm.Cond.methodLink "TwoTrueLaw" (147 : Nat) ({ cls := "TwoTrueModel", name := "taken", desc := "(II)I" } : Jvm.MethodName)) ∈ zgw := zgm 1332 (by decide +kernel) rfl
theorem zw1268 : (Jvm.Cond.instanceMethod ({ cls := "TwoTrueModel", name := "taken", desc := "(II)I" } : Jvm.MethodName)) ∈ zgw := zgm 1333 (by decide +kernel) rfl
theorem zw1269 : (Jvm.Cond.selects "TwoTrueModel" ({ cls := "TwoTrueModel", name := "taken", desc := "(II)I" } : Jvm.MethodName) ({ cls := "TwoTrueModel", name := "taken", desc := "(II)I" } : Jvm.MethodName)) ∈ zgw := zgm 1334 (by decide +kernel) rfl
theorem zw1270 : (Jvm.Cond.code ({ cls := "TwoTrueModel", name := "taken", desc := "(II)I" } : Jvm.MethodName) prog_10_method_77_code (4 : Nat) (Option.some Jvm.ClassFile.FieldType.int)) ∈ zgw := zgm 1335 (by decide +kernel) rfl
theorem zw1271 : (Jvm.Cond.methodLink "TwoTrueLaw" (151 : Nat) ({ cls := "TwoTrueModel", name := "count", desc := "(I)I" } : Jvm.MethodName)) ∈ zgw := zgm 1336 (by decide +kernel) rfl
theorem zw1272 : (Jvm.Cond.instanceMethod ({ cls := "TwoTrueModel", name := "count", desc := "(I)I" } : Jvm.MethodName)) ∈ zgw := zgm 1337 (by decide +kernel) rfl
theorem zw1273 : (Jvm.Cond.selects "TwoTrueModel" ({ cls := "TwoTrueModel", name := "count", desc := "(I)I" } : Jvm.MethodName) ({ cls := "TwoTrueModel", name := "count", desc := "(I)I" } : Jvm.MethodName)) ∈ zgw := zgm 1338 (by decide +kernel) rfl
theorem zw1274 : (Jvm.Cond.code ({ cls := "TwoTrueModel", name := "count", desc := "(I)I" } : Jvm.MethodName) prog_10_method_78_code (2 : Nat) (Option.some Jvm.ClassFile.FieldType.int)) ∈ zgw := zgm 1339 (by decide +kernel) rfl
theorem zw1275 : (Jvm.Cond.methodLink "TwoTrueLaw" (155 : Nat) ({ cls := "TwoTrueModel", name := "tape", desc := "(III)I" } : Jvm.MethodName)) ∈ zgw := zgm 1340 (by decide +kernel) rfl
theorem zw1276 : (Jvm.Cond.instanceMethod ({ cls := "TwoTrueModel", name := "tape", desc := "(III)I" } : Jvm.MethodName)) ∈ zgw := zgm 1341 (by decide +kernel) rfl
theorem zw1277 : (Jvm.Cond.selects "TwoTrueModel" ({ cls := "TwoTrueModel", name := "tape", desc := "(III)I" } : Jvm.MethodName) ({ cls := "TwoTrueModel", name := "tape", desc := "(III)I" } : Jvm.MethodName)) ∈ zgw := zgm 1342 (by decide +kernel) rfl
theorem zw1278 : (Jvm.Cond.code ({ cls := "TwoTrueModel", name := "tape", desc := "(III)I" } : Jvm.MethodName) prog_10_method_80_code (5 : Nat) (Option.some Jvm.ClassFile.FieldType.int)) ∈ zgw := zgm 1343 (by decide +kernel) rfl
theorem zw1279 : (Jvm.Cond.methodLink "TwoTrueLaw" (162 : Nat) ({ cls := "TwoTrueModel", name := "item", desc := "(IIJ)I" } : Jvm.MethodName)) ∈ zgw := zgm 1344 (by decide +kernel) rfl
theorem zw1280 : (Jvm.Cond.instanceMethod ({ cls := "TwoTrueModel", name := "item", desc := "(IIJ)I" } : Jvm.MethodName)) ∈ zgw := zgm 1345 (by decide +kernel) rfl
theorem zw1281 : (Jvm.Cond.selects "TwoTrueModel" ({ cls := "TwoTrueModel", name := "item", desc := "(IIJ)I" } : Jvm.MethodName) ({ cls := "TwoTrueModel", name := "item", desc := "(IIJ)I" } : Jvm.MethodName)) ∈ zgw := zgm 1346 (by decide +kernel) rfl
theorem zw1282 : (Jvm.Cond.code ({ cls := "TwoTrueModel", name := "item", desc := "(IIJ)I" } : Jvm.MethodName) prog_10_method_82_code (5 : Nat) (Option.some Jvm.ClassFile.FieldType.int)) ∈ zgw := zgm 1347 (by decide +kernel) rfl
theorem zw1287 : (Jvm.Cond.methodLink "TwoTrueLaw" (166 : Nat) ({ cls := "TwoTrueModel", name := "read", desc := "(II)J" } : Jvm.MethodName)) ∈ zgw := zgm 1352 (by decide +kernel) rfl
theorem zw1288 : (Jvm.Cond.instanceMethod ({ cls := "TwoTrueModel", name := "read", desc := "(II)J" } : Jvm.MethodName)) ∈ zgw := zgm 1353 (by decide +kernel) rfl
theorem zw1289 : (Jvm.Cond.selects "TwoTrueModel" ({ cls := "TwoTrueModel", name := "read", desc := "(II)J" } : Jvm.MethodName) ({ cls := "TwoTrueModel", name := "read", desc := "(II)J" } : Jvm.MethodName)) ∈ zgw := zgm 1354 (by decide +kernel) rfl
theorem zw1290 : (Jvm.Cond.code ({ cls := "TwoTrueModel", name := "read", desc := "(II)J" } : Jvm.MethodName) prog_10_method_83_code (3 : Nat) (Option.some Jvm.ClassFile.FieldType.long)) ∈ zgw := zgm 1355 (by decide +kernel) rfl
theorem zw1291 : (Jvm.Cond.methodLink "TwoTrueLaw" (171 : Nat) ({ cls := "TwoTrueModel", name := "shift", desc := "(IIIII)I" } : Jvm.MethodName)) ∈ zgw := zgm 1356 (by decide +kernel) rfl
theorem zw1292 : (Jvm.Cond.instanceMethod ({ cls := "TwoTrueModel", name := "shift", desc := "(IIIII)I" } : Jvm.MethodName)) ∈ zgw := zgm 1357 (by decide +kernel) rfl
theorem zw1293 : (Jvm.Cond.selects "TwoTrueModel" ({ cls := "TwoTrueModel", name := "shift", desc := "(IIIII)I" } : Jvm.MethodName) ({ cls := "TwoTrueModel", name := "shift", desc := "(IIIII)I" } : Jvm.MethodName)) ∈ zgw := zgm 1358 (by decide +kernel) rfl
theorem zw1294 : (Jvm.Cond.code ({ cls := "TwoTrueModel", name := "shift", desc := "(IIIII)I" } : Jvm.MethodName) prog_10_method_84_code (7 : Nat) (Option.some Jvm.ClassFile.FieldType.int)) ∈ zgw := zgm 1359 (by decide +kernel) rfl
theorem zw1295 : (Jvm.Cond.constantLong "TwoTrueLaw" (156 : Nat) (4294967295 : Int64)) ∈ zgw := zgm 1360 (by decide +kernel) rfl
set_option maxHeartbeats 4000000 in
set_option maxRecDepth 100000 in
theorem law_0 {p : Program} {l : Launch} {e : Env} {s : State} {m : MethodId} {below : List Frame} {meth : Method} {c : Code} {b L i : Nat} {xs : Nat → Int32} {E : zE} {Q : State → Prop} {la : Array Slot} {x m2 x1 m1 : zM} {r : Int32} (C : zLx p s m meth c b L xs E) (hl : lv_has la 4 (zls E b i)) (hi : i + 6 ≤ L) (hx : qG_person x (xs (i + 1)) (xs (i + 2)) = some (r, x1)) (hm : qM_person m2 (xs (i + 1)) (xs (i + 2)) = some (r, m1)) (hk : zL p l e s m below meth c b E Q 1430 la [] x1 m1) : zL p l e s m below meth c b E Q 196 la [] x m2 := by
  refine zl_al C hl 1 197 rfl dw_196 rfl ?_
  refine zl_arg C hl 1 202 rfl dw_197 dw_198 dw_199 dw_200 dw_201 (by decide) (by omega) ?_
  refine zl_arg C hl 2 207 rfl dw_202 dw_203 dw_204 dw_205 dw_206 (by decide) (by omega) ?_
  refine zl_callC [.int (xs (i + 1)), .int (xs (i + 2))] C hl 210 rfl dw_207 (tG_person (zDC C.2.2.2.2.2.2.2.2.2.1) x (xs (i + 1)) (xs (i + 2))) hx rfl rfl zw276 zw273 zw274 zw275 zw1 oG_person (by decide) (Nat.le_of_ble_eq_true rfl) ?_
  refine zl_al C hl 2 211 rfl dw_210 rfl ?_
  refine zl_arg C hl 1 216 rfl dw_211 dw_212 dw_213 dw_214 dw_215 (by decide) (by omega) ?_
  refine zl_arg C hl 2 221 rfl dw_216 dw_217 dw_218 dw_219 dw_220 (by decide) (by omega) ?_
  refine zl_callM [.int (xs (i + 1)), .int (xs (i + 2))] C hl 224 rfl dw_221 (tM_person (zDM C.2.2.2.2.2.2.2.2.2.1) m2 (xs (i + 1)) (xs (i + 2))) hm rfl rfl zw965 zw962 zw963 zw964 zw9 oM_person (by decide) (Nat.le_of_ble_eq_true rfl) ?_
  exact zl_eqI C 1430 dw_224 (by decide) hk
set_option maxHeartbeats 4000000 in
set_option maxRecDepth 100000 in
theorem law_1 {p : Program} {l : Launch} {e : Env} {s : State} {m : MethodId} {below : List Frame} {meth : Method} {c : Code} {b L i : Nat} {xs : Nat → Int32} {E : zE} {Q : State → Prop} {la : Array Slot} {x m2 x1 m1 : zM} {r : Int32} (C : zLx p s m meth c b L xs E) (hl : lv_has la 4 (zls E b i)) (hi : i + 6 ≤ L) (hx : qG_thing x (xs (i + 1)) (xs (i + 2)) (xs (i + 3)) (xs (i + 4)) = some (r, x1)) (hm : qM_thing m2 (xs (i + 1)) (xs (i + 2)) (xs (i + 3)) (xs (i + 4)) = some (r, m1)) (hk : zL p l e s m below meth c b E Q 1430 la [] x1 m1) : zL p l e s m below meth c b E Q 229 la [] x m2 := by
  refine zl_al C hl 1 230 rfl dw_229 rfl ?_
  refine zl_arg C hl 1 235 rfl dw_230 dw_231 dw_232 dw_233 dw_234 (by decide) (by omega) ?_
  refine zl_arg C hl 2 240 rfl dw_235 dw_236 dw_237 dw_238 dw_239 (by decide) (by omega) ?_
  refine zl_arg C hl 3 245 rfl dw_240 dw_241 dw_242 dw_243 dw_244 (by decide) (by omega) ?_
  refine zl_arg C hl 4 250 rfl dw_245 dw_246 dw_247 dw_248 dw_249 (by decide) (by omega) ?_
  refine zl_callC [.int (xs (i + 1)), .int (xs (i + 2)), .int (xs (i + 3)), .int (xs (i + 4))] C hl 253 rfl dw_250 (tG_thing (zDC C.2.2.2.2.2.2.2.2.2.1) x (xs (i + 1)) (xs (i + 2)) (xs (i + 3)) (xs (i + 4))) hx rfl rfl zw288 zw285 zw286 zw287 zw1 oG_thing (by decide) (Nat.le_of_ble_eq_true rfl) ?_
  refine zl_al C hl 2 254 rfl dw_253 rfl ?_
  refine zl_arg C hl 1 259 rfl dw_254 dw_255 dw_256 dw_257 dw_258 (by decide) (by omega) ?_
  refine zl_arg C hl 2 264 rfl dw_259 dw_260 dw_261 dw_262 dw_263 (by decide) (by omega) ?_
  refine zl_arg C hl 3 269 rfl dw_264 dw_265 dw_266 dw_267 dw_268 (by decide) (by omega) ?_
  refine zl_arg C hl 4 274 rfl dw_269 dw_270 dw_271 dw_272 dw_273 (by decide) (by omega) ?_
  refine zl_callM [.int (xs (i + 1)), .int (xs (i + 2)), .int (xs (i + 3)), .int (xs (i + 4))] C hl 277 rfl dw_274 (tM_thing (zDM C.2.2.2.2.2.2.2.2.2.1) m2 (xs (i + 1)) (xs (i + 2)) (xs (i + 3)) (xs (i + 4))) hm rfl rfl zw973 zw970 zw971 zw972 zw9 oM_thing (by decide) (Nat.le_of_ble_eq_true rfl) ?_
  exact zl_eqI C 1430 dw_277 (by decide) hk
set_option maxHeartbeats 4000000 in
set_option maxRecDepth 100000 in
theorem law_2 {p : Program} {l : Launch} {e : Env} {s : State} {m : MethodId} {below : List Frame} {meth : Method} {c : Code} {b L i : Nat} {xs : Nat → Int32} {E : zE} {Q : State → Prop} {la : Array Slot} {x m2 x1 m1 : zM} {r : Int32} (C : zLx p s m meth c b L xs E) (hl : lv_has la 4 (zls E b i)) (hi : i + 6 ≤ L) (hx : qG_lie x (xs (i + 1)) (xs (i + 2)) = some (r, x1)) (hm : qM_lie m2 (xs (i + 1)) (xs (i + 2)) = some (r, m1)) (hk : zL p l e s m below meth c b E Q 1430 la [] x1 m1) : zL p l e s m below meth c b E Q 282 la [] x m2 := by
  refine zl_al C hl 1 283 rfl dw_282 rfl ?_
  refine zl_arg C hl 1 288 rfl dw_283 dw_284 dw_285 dw_286 dw_287 (by decide) (by omega) ?_
  refine zl_arg C hl 2 293 rfl dw_288 dw_289 dw_290 dw_291 dw_292 (by decide) (by omega) ?_
  refine zl_callC [.int (xs (i + 1)), .int (xs (i + 2))] C hl 296 rfl dw_293 (tG_lie (zDC C.2.2.2.2.2.2.2.2.2.1) x (xs (i + 1)) (xs (i + 2))) hx rfl rfl zw299 zw296 zw297 zw298 zw1 oG_lie (by decide) (Nat.le_of_ble_eq_true rfl) ?_
  refine zl_al C hl 2 297 rfl dw_296 rfl ?_
  refine zl_arg C hl 1 302 rfl dw_297 dw_298 dw_299 dw_300 dw_301 (by decide) (by omega) ?_
  refine zl_arg C hl 2 307 rfl dw_302 dw_303 dw_304 dw_305 dw_306 (by decide) (by omega) ?_
  refine zl_callM [.int (xs (i + 1)), .int (xs (i + 2))] C hl 310 rfl dw_307 (tM_lie (zDM C.2.2.2.2.2.2.2.2.2.1) m2 (xs (i + 1)) (xs (i + 2))) hm rfl rfl zw981 zw978 zw979 zw980 zw9 oM_lie (by decide) (Nat.le_of_ble_eq_true rfl) ?_
  exact zl_eqI C 1430 dw_310 (by decide) hk
set_option maxHeartbeats 4000000 in
set_option maxRecDepth 100000 in
theorem law_3 {p : Program} {l : Launch} {e : Env} {s : State} {m : MethodId} {below : List Frame} {meth : Method} {c : Code} {b L i : Nat} {xs : Nat → Int32} {E : zE} {Q : State → Prop} {la : Array Slot} {x m2 x1 m1 : zM} {r : Int32} (C : zLx p s m meth c b L xs E) (hl : lv_has la 4 (zls E b i)) (hi : i + 6 ≤ L) (hx : qG_tells x (xs (i + 1)) (xs (i + 2)) (xs (i + 3)) = some (r, x1)) (hm : qM_tells m2 (xs (i + 1)) (xs (i + 2)) (xs (i + 3)) = some (r, m1)) (hk : zL p l e s m below meth c b E Q 1430 la [] x1 m1) : zL p l e s m below meth c b E Q 315 la [] x m2 := by
  refine zl_al C hl 1 316 rfl dw_315 rfl ?_
  refine zl_arg C hl 1 321 rfl dw_316 dw_317 dw_318 dw_319 dw_320 (by decide) (by omega) ?_
  refine zl_arg C hl 2 326 rfl dw_321 dw_322 dw_323 dw_324 dw_325 (by decide) (by omega) ?_
  refine zl_arg C hl 3 331 rfl dw_326 dw_327 dw_328 dw_329 dw_330 (by decide) (by omega) ?_
  refine zl_callC [.int (xs (i + 1)), .int (xs (i + 2)), .int (xs (i + 3))] C hl 334 rfl dw_331 (tG_tells (zDC C.2.2.2.2.2.2.2.2.2.1) x (xs (i + 1)) (xs (i + 2)) (xs (i + 3))) hx rfl rfl zw303 zw300 zw301 zw302 zw1 oG_tells (by decide) (Nat.le_of_ble_eq_true rfl) ?_
  refine zl_al C hl 2 335 rfl dw_334 rfl ?_
  refine zl_arg C hl 1 340 rfl dw_335 dw_336 dw_337 dw_338 dw_339 (by decide) (by omega) ?_
  refine zl_arg C hl 2 345 rfl dw_340 dw_341 dw_342 dw_343 dw_344 (by decide) (by omega) ?_
  refine zl_arg C hl 3 350 rfl dw_345 dw_346 dw_347 dw_348 dw_349 (by decide) (by omega) ?_
  refine zl_callM [.int (xs (i + 1)), .int (xs (i + 2)), .int (xs (i + 3))] C hl 353 rfl dw_350 (tM_tells (zDM C.2.2.2.2.2.2.2.2.2.1) m2 (xs (i + 1)) (xs (i + 2)) (xs (i + 3))) hm rfl rfl zw985 zw982 zw983 zw984 zw9 oM_tells (by decide) (Nat.le_of_ble_eq_true rfl) ?_
  exact zl_eqI C 1430 dw_353 (by decide) hk
set_option maxHeartbeats 4000000 in
set_option maxRecDepth 100000 in
theorem law_4 {p : Program} {l : Launch} {e : Env} {s : State} {m : MethodId} {below : List Frame} {meth : Method} {c : Code} {b L i : Nat} {xs : Nat → Int32} {E : zE} {Q : State → Prop} {la : Array Slot} {x m2 x1 m1 : zM} {r : Int32} (C : zLx p s m meth c b L xs E) (hl : lv_has la 4 (zls E b i)) (hi : i + 6 ≤ L) (hx : qG_of x (xs (i + 1)) (xs (i + 2)) = some (r, x1)) (hm : qM_of m2 (xs (i + 1)) (xs (i + 2)) = some (r, m1)) (hk : zL p l e s m below meth c b E Q 1430 la [] x1 m1) : zL p l e s m below meth c b E Q 358 la [] x m2 := by
  refine zl_al C hl 1 359 rfl dw_358 rfl ?_
  refine zl_arg C hl 1 364 rfl dw_359 dw_360 dw_361 dw_362 dw_363 (by decide) (by omega) ?_
  refine zl_arg C hl 2 369 rfl dw_364 dw_365 dw_366 dw_367 dw_368 (by decide) (by omega) ?_
  refine zl_callC [.int (xs (i + 1)), .int (xs (i + 2))] C hl 372 rfl dw_369 (tG_of (zDC C.2.2.2.2.2.2.2.2.2.1) x (xs (i + 1)) (xs (i + 2))) hx rfl rfl zw311 zw308 zw309 zw310 zw1 oG_of (by decide) (Nat.le_of_ble_eq_true rfl) ?_
  refine zl_al C hl 2 373 rfl dw_372 rfl ?_
  refine zl_arg C hl 1 378 rfl dw_373 dw_374 dw_375 dw_376 dw_377 (by decide) (by omega) ?_
  refine zl_arg C hl 2 383 rfl dw_378 dw_379 dw_380 dw_381 dw_382 (by decide) (by omega) ?_
  refine zl_callM [.int (xs (i + 1)), .int (xs (i + 2))] C hl 386 rfl dw_383 (tM_of (zDM C.2.2.2.2.2.2.2.2.2.1) m2 (xs (i + 1)) (xs (i + 2))) hm rfl rfl zw993 zw990 zw991 zw992 zw9 oM_of (by decide) (Nat.le_of_ble_eq_true rfl) ?_
  exact zl_eqI C 1430 dw_386 (by decide) hk
set_option maxHeartbeats 4000000 in
set_option maxRecDepth 100000 in
theorem law_5 {p : Program} {l : Launch} {e : Env} {s : State} {m : MethodId} {below : List Frame} {meth : Method} {c : Code} {b L i : Nat} {xs : Nat → Int32} {E : zE} {Q : State → Prop} {la : Array Slot} {x m2 x1 m1 : zM} {r : Int32} (C : zLx p s m meth c b L xs E) (hl : lv_has la 4 (zls E b i)) (hi : i + 6 ≤ L) (hx : qG_row x (xs (i + 1)) (xs (i + 2)) (xs (i + 3)) = some (r, x1)) (hm : qM_row m2 (xs (i + 1)) (xs (i + 2)) (xs (i + 3)) = some (r, m1)) (hk : zL p l e s m below meth c b E Q 1430 la [] x1 m1) : zL p l e s m below meth c b E Q 391 la [] x m2 := by
  refine zl_al C hl 1 392 rfl dw_391 rfl ?_
  refine zl_arg C hl 1 397 rfl dw_392 dw_393 dw_394 dw_395 dw_396 (by decide) (by omega) ?_
  refine zl_arg C hl 2 402 rfl dw_397 dw_398 dw_399 dw_400 dw_401 (by decide) (by omega) ?_
  refine zl_arg C hl 3 407 rfl dw_402 dw_403 dw_404 dw_405 dw_406 (by decide) (by omega) ?_
  refine zl_callC [.int (xs (i + 1)), .int (xs (i + 2)), .int (xs (i + 3))] C hl 410 rfl dw_407 (tG_row (zDC C.2.2.2.2.2.2.2.2.2.1) x (xs (i + 1)) (xs (i + 2)) (xs (i + 3))) hx rfl rfl zw320 zw317 zw318 zw319 zw1 oG_row (by decide) (Nat.le_of_ble_eq_true rfl) ?_
  refine zl_al C hl 2 411 rfl dw_410 rfl ?_
  refine zl_arg C hl 1 416 rfl dw_411 dw_412 dw_413 dw_414 dw_415 (by decide) (by omega) ?_
  refine zl_arg C hl 2 421 rfl dw_416 dw_417 dw_418 dw_419 dw_420 (by decide) (by omega) ?_
  refine zl_arg C hl 3 426 rfl dw_421 dw_422 dw_423 dw_424 dw_425 (by decide) (by omega) ?_
  refine zl_callM [.int (xs (i + 1)), .int (xs (i + 2)), .int (xs (i + 3))] C hl 429 rfl dw_426 (tM_row (zDM C.2.2.2.2.2.2.2.2.2.1) m2 (xs (i + 1)) (xs (i + 2)) (xs (i + 3))) hm rfl rfl zw997 zw994 zw995 zw996 zw9 oM_row (by decide) (Nat.le_of_ble_eq_true rfl) ?_
  exact zl_eqI C 1430 dw_429 (by decide) hk
set_option maxHeartbeats 4000000 in
set_option maxRecDepth 100000 in
theorem law_6 {p : Program} {l : Launch} {e : Env} {s : State} {m : MethodId} {below : List Frame} {meth : Method} {c : Code} {b L i : Nat} {xs : Nat → Int32} {E : zE} {Q : State → Prop} {la : Array Slot} {x m2 x1 m1 : zM} {r : Int32} (C : zLx p s m meth c b L xs E) (hl : lv_has la 4 (zls E b i)) (hi : i + 6 ≤ L) (hx : qG_feed x (xs (i + 1)) = some (r, x1)) (hm : qM_feed m2 (xs (i + 1)) = some (r, m1)) (hk : zL p l e s m below meth c b E Q 1430 la [] x1 m1) : zL p l e s m below meth c b E Q 434 la [] x m2 := by
  refine zl_al C hl 1 435 rfl dw_434 rfl ?_
  refine zl_arg C hl 1 440 rfl dw_435 dw_436 dw_437 dw_438 dw_439 (by decide) (by omega) ?_
  refine zl_callC [.int (xs (i + 1))] C hl 443 rfl dw_440 (tG_feed (zDC C.2.2.2.2.2.2.2.2.2.1) x (xs (i + 1))) hx rfl rfl zw324 zw321 zw322 zw323 zw1 oG_feed (by decide) (Nat.le_of_ble_eq_true rfl) ?_
  refine zl_al C hl 2 444 rfl dw_443 rfl ?_
  refine zl_arg C hl 1 449 rfl dw_444 dw_445 dw_446 dw_447 dw_448 (by decide) (by omega) ?_
  refine zl_callM [.int (xs (i + 1))] C hl 452 rfl dw_449 (tM_feed (zDM C.2.2.2.2.2.2.2.2.2.1) m2 (xs (i + 1))) hm rfl rfl zw1001 zw998 zw999 zw1000 zw9 oM_feed (by decide) (Nat.le_of_ble_eq_true rfl) ?_
  exact zl_eqI C 1430 dw_452 (by decide) hk
set_option maxHeartbeats 4000000 in
set_option maxRecDepth 100000 in
theorem law_7 {p : Program} {l : Launch} {e : Env} {s : State} {m : MethodId} {below : List Frame} {meth : Method} {c : Code} {b L i : Nat} {xs : Nat → Int32} {E : zE} {Q : State → Prop} {la : Array Slot} {x m2 x1 m1 : zM} {r : Int32} (C : zLx p s m meth c b L xs E) (hl : lv_has la 4 (zls E b i)) (hi : i + 6 ≤ L) (hx : qG_evening x  = some (r, x1)) (hm : qM_evening m2  = some (r, m1)) (hk : zL p l e s m below meth c b E Q 1430 la [] x1 m1) : zL p l e s m below meth c b E Q 457 la [] x m2 := by
  refine zl_al C hl 1 458 rfl dw_457 rfl ?_
  refine zl_callC [] C hl 461 rfl dw_458 (tG_evening (zDC C.2.2.2.2.2.2.2.2.2.1) x ) hx rfl rfl zw332 zw329 zw330 zw331 zw1 oG_evening (by decide) (Nat.le_of_ble_eq_true rfl) ?_
  refine zl_al C hl 2 462 rfl dw_461 rfl ?_
  refine zl_callM [] C hl 465 rfl dw_462 (tM_evening (zDM C.2.2.2.2.2.2.2.2.2.1) m2 ) hm rfl rfl zw1005 zw1002 zw1003 zw1004 zw9 oM_evening (by decide) (Nat.le_of_ble_eq_true rfl) ?_
  exact zl_eqI C 1430 dw_465 (by decide) hk
set_option maxHeartbeats 4000000 in
set_option maxRecDepth 100000 in
theorem law_8 {p : Program} {l : Launch} {e : Env} {s : State} {m : MethodId} {below : List Frame} {meth : Method} {c : Code} {b L i : Nat} {xs : Nat → Int32} {E : zE} {Q : State → Prop} {la : Array Slot} {x m2 x1 m1 : zM} {r : Int32} (C : zLx p s m meth c b L xs E) (hl : lv_has la 4 (zls E b i)) (hi : i + 6 ≤ L) (hx : qG_told x (xs (i + 1)) = some (r, x1)) (hm : qM_told m2 (xs (i + 1)) = some (r, m1)) (hk : zL p l e s m below meth c b E Q 1430 la [] x1 m1) : zL p l e s m below meth c b E Q 470 la [] x m2 := by
  refine zl_al C hl 1 471 rfl dw_470 rfl ?_
  refine zl_arg C hl 1 476 rfl dw_471 dw_472 dw_473 dw_474 dw_475 (by decide) (by omega) ?_
  refine zl_callC [.int (xs (i + 1))] C hl 479 rfl dw_476 (tG_told (zDC C.2.2.2.2.2.2.2.2.2.1) x (xs (i + 1))) hx rfl rfl zw496 zw493 zw494 zw495 zw1 oG_told (by decide) (Nat.le_of_ble_eq_true rfl) ?_
  refine zl_al C hl 2 480 rfl dw_479 rfl ?_
  refine zl_arg C hl 1 485 rfl dw_480 dw_481 dw_482 dw_483 dw_484 (by decide) (by omega) ?_
  refine zl_callM [.int (xs (i + 1))] C hl 488 rfl dw_485 (tM_told (zDM C.2.2.2.2.2.2.2.2.2.1) m2 (xs (i + 1))) hm rfl rfl zw1065 zw1062 zw1063 zw1064 zw9 oM_told (by decide) (Nat.le_of_ble_eq_true rfl) ?_
  exact zl_eqI C 1430 dw_488 (by decide) hk
set_option maxHeartbeats 4000000 in
set_option maxRecDepth 100000 in
theorem law_9 {p : Program} {l : Launch} {e : Env} {s : State} {m : MethodId} {below : List Frame} {meth : Method} {c : Code} {b L i : Nat} {xs : Nat → Int32} {E : zE} {Q : State → Prop} {la : Array Slot} {x m2 x1 m1 : zM} {r : Int32} (C : zLx p s m meth c b L xs E) (hl : lv_has la 4 (zls E b i)) (hi : i + 6 ≤ L) (hx : qG_doubt x (xs (i + 1)) (xs (i + 2)) (xs (i + 3)) = some (r, x1)) (hm : qM_doubt m2 (xs (i + 1)) (xs (i + 2)) (xs (i + 3)) = some (r, m1)) (hk : zL p l e s m below meth c b E Q 1430 la [] x1 m1) : zL p l e s m below meth c b E Q 493 la [] x m2 := by
  refine zl_al C hl 1 494 rfl dw_493 rfl ?_
  refine zl_arg C hl 1 499 rfl dw_494 dw_495 dw_496 dw_497 dw_498 (by decide) (by omega) ?_
  refine zl_arg C hl 2 504 rfl dw_499 dw_500 dw_501 dw_502 dw_503 (by decide) (by omega) ?_
  refine zl_arg C hl 3 509 rfl dw_504 dw_505 dw_506 dw_507 dw_508 (by decide) (by omega) ?_
  refine zl_callC [.int (xs (i + 1)), .int (xs (i + 2)), .int (xs (i + 3))] C hl 512 rfl dw_509 (tG_doubt (zDC C.2.2.2.2.2.2.2.2.2.1) x (xs (i + 1)) (xs (i + 2)) (xs (i + 3))) hx rfl rfl zw504 zw501 zw502 zw503 zw1 oG_doubt (by decide) (Nat.le_of_ble_eq_true rfl) ?_
  refine zl_al C hl 2 513 rfl dw_512 rfl ?_
  refine zl_arg C hl 1 518 rfl dw_513 dw_514 dw_515 dw_516 dw_517 (by decide) (by omega) ?_
  refine zl_arg C hl 2 523 rfl dw_518 dw_519 dw_520 dw_521 dw_522 (by decide) (by omega) ?_
  refine zl_arg C hl 3 528 rfl dw_523 dw_524 dw_525 dw_526 dw_527 (by decide) (by omega) ?_
  refine zl_callM [.int (xs (i + 1)), .int (xs (i + 2)), .int (xs (i + 3))] C hl 531 rfl dw_528 (tM_doubt (zDM C.2.2.2.2.2.2.2.2.2.1) m2 (xs (i + 1)) (xs (i + 2)) (xs (i + 3))) hm rfl rfl zw1081 zw1078 zw1079 zw1080 zw9 oM_doubt (by decide) (Nat.le_of_ble_eq_true rfl) ?_
  exact zl_eqI C 1430 dw_531 (by decide) hk
set_option maxHeartbeats 4000000 in
set_option maxRecDepth 100000 in
theorem law_10 {p : Program} {l : Launch} {e : Env} {s : State} {m : MethodId} {below : List Frame} {meth : Method} {c : Code} {b L i : Nat} {xs : Nat → Int32} {E : zE} {Q : State → Prop} {la : Array Slot} {x m2 x1 m1 : zM} {r : Int32} (C : zLx p s m meth c b L xs E) (hl : lv_has la 4 (zls E b i)) (hi : i + 6 ≤ L) (hx : qG_round x (xs (i + 1)) = some (r, x1)) (hm : qM_round m2 (xs (i + 1)) = some (r, m1)) (hk : zL p l e s m below meth c b E Q 1430 la [] x1 m1) : zL p l e s m below meth c b E Q 536 la [] x m2 := by
  refine zl_al C hl 1 537 rfl dw_536 rfl ?_
  refine zl_arg C hl 1 542 rfl dw_537 dw_538 dw_539 dw_540 dw_541 (by decide) (by omega) ?_
  refine zl_callC [.int (xs (i + 1))] C hl 545 rfl dw_542 (tG_round (zDC C.2.2.2.2.2.2.2.2.2.1) x (xs (i + 1))) hx rfl rfl zw520 zw517 zw518 zw519 zw1 oG_round (by decide) (Nat.le_of_ble_eq_true rfl) ?_
  refine zl_al C hl 2 546 rfl dw_545 rfl ?_
  refine zl_arg C hl 1 551 rfl dw_546 dw_547 dw_548 dw_549 dw_550 (by decide) (by omega) ?_
  refine zl_callM [.int (xs (i + 1))] C hl 554 rfl dw_551 (tM_round (zDM C.2.2.2.2.2.2.2.2.2.1) m2 (xs (i + 1))) hm rfl rfl zw1097 zw1094 zw1095 zw1096 zw9 oM_round (by decide) (Nat.le_of_ble_eq_true rfl) ?_
  exact zl_eqI C 1430 dw_554 (by decide) hk
set_option maxHeartbeats 4000000 in
set_option maxRecDepth 100000 in
theorem law_11 {p : Program} {l : Launch} {e : Env} {s : State} {m : MethodId} {below : List Frame} {meth : Method} {c : Code} {b L i : Nat} {xs : Nat → Int32} {E : zE} {Q : State → Prop} {la : Array Slot} {x m2 x1 m1 : zM} {r : Int32} (C : zLx p s m meth c b L xs E) (hl : lv_has la 4 (zls E b i)) (hi : i + 6 ≤ L) (hx : qG_guess x (xs (i + 1)) (xs (i + 2)) = some (r, x1)) (hm : qM_guess m2 (xs (i + 1)) (xs (i + 2)) = some (r, m1)) (hk : zL p l e s m below meth c b E Q 1430 la [] x1 m1) : zL p l e s m below meth c b E Q 559 la [] x m2 := by
  refine zl_al C hl 1 560 rfl dw_559 rfl ?_
  refine zl_arg C hl 1 565 rfl dw_560 dw_561 dw_562 dw_563 dw_564 (by decide) (by omega) ?_
  refine zl_arg C hl 2 570 rfl dw_565 dw_566 dw_567 dw_568 dw_569 (by decide) (by omega) ?_
  refine zl_callC [.int (xs (i + 1)), .int (xs (i + 2))] C hl 573 rfl dw_570 (tG_guess (zDC C.2.2.2.2.2.2.2.2.2.1) x (xs (i + 1)) (xs (i + 2))) hx rfl rfl zw561 zw558 zw559 zw560 zw1 oG_guess (by decide) (Nat.le_of_ble_eq_true rfl) ?_
  refine zl_al C hl 2 574 rfl dw_573 rfl ?_
  refine zl_arg C hl 1 579 rfl dw_574 dw_575 dw_576 dw_577 dw_578 (by decide) (by omega) ?_
  refine zl_arg C hl 2 584 rfl dw_579 dw_580 dw_581 dw_582 dw_583 (by decide) (by omega) ?_
  refine zl_callM [.int (xs (i + 1)), .int (xs (i + 2))] C hl 587 rfl dw_584 (tM_guess (zDM C.2.2.2.2.2.2.2.2.2.1) m2 (xs (i + 1)) (xs (i + 2))) hm rfl rfl zw1133 zw1130 zw1131 zw1132 zw9 oM_guess (by decide) (Nat.le_of_ble_eq_true rfl) ?_
  exact zl_eqI C 1430 dw_587 (by decide) hk
set_option maxHeartbeats 4000000 in
set_option maxRecDepth 100000 in
theorem law_12 {p : Program} {l : Launch} {e : Env} {s : State} {m : MethodId} {below : List Frame} {meth : Method} {c : Code} {b L i : Nat} {xs : Nat → Int32} {E : zE} {Q : State → Prop} {la : Array Slot} {x m2 x1 m1 : zM} {r : Int32} (C : zLx p s m meth c b L xs E) (hl : lv_has la 4 (zls E b i)) (hi : i + 6 ≤ L) (hx : qG_hands x (xs (i + 1)) (xs (i + 2)) = some (r, x1)) (hm : qM_hands m2 (xs (i + 1)) (xs (i + 2)) = some (r, m1)) (hk : zL p l e s m below meth c b E Q 1430 la [] x1 m1) : zL p l e s m below meth c b E Q 592 la [] x m2 := by
  refine zl_al C hl 1 593 rfl dw_592 rfl ?_
  refine zl_arg C hl 1 598 rfl dw_593 dw_594 dw_595 dw_596 dw_597 (by decide) (by omega) ?_
  refine zl_arg C hl 2 603 rfl dw_598 dw_599 dw_600 dw_601 dw_602 (by decide) (by omega) ?_
  refine zl_callC [.int (xs (i + 1)), .int (xs (i + 2))] C hl 606 rfl dw_603 (tG_hands (zDC C.2.2.2.2.2.2.2.2.2.1) x (xs (i + 1)) (xs (i + 2))) hx rfl rfl zw565 zw562 zw563 zw564 zw1 oG_hands (by decide) (Nat.le_of_ble_eq_true rfl) ?_
  refine zl_al C hl 2 607 rfl dw_606 rfl ?_
  refine zl_arg C hl 1 612 rfl dw_607 dw_608 dw_609 dw_610 dw_611 (by decide) (by omega) ?_
  refine zl_arg C hl 2 617 rfl dw_612 dw_613 dw_614 dw_615 dw_616 (by decide) (by omega) ?_
  refine zl_callM [.int (xs (i + 1)), .int (xs (i + 2))] C hl 620 rfl dw_617 (tM_hands (zDM C.2.2.2.2.2.2.2.2.2.1) m2 (xs (i + 1)) (xs (i + 2))) hm rfl rfl zw1137 zw1134 zw1135 zw1136 zw9 oM_hands (by decide) (Nat.le_of_ble_eq_true rfl) ?_
  exact zl_eqI C 1430 dw_620 (by decide) hk
set_option maxHeartbeats 4000000 in
set_option maxRecDepth 100000 in
theorem law_13 {p : Program} {l : Launch} {e : Env} {s : State} {m : MethodId} {below : List Frame} {meth : Method} {c : Code} {b L i : Nat} {xs : Nat → Int32} {E : zE} {Q : State → Prop} {la : Array Slot} {x m2 x1 m1 : zM} {r : Int32} (C : zLx p s m meth c b L xs E) (hl : lv_has la 4 (zls E b i)) (hi : i + 6 ≤ L) (hx : qG_order x (xs (i + 1)) (xs (i + 2)) = some (r, x1)) (hm : qM_order m2 (xs (i + 1)) (xs (i + 2)) = some (r, m1)) (hk : zL p l e s m below meth c b E Q 1430 la [] x1 m1) : zL p l e s m below meth c b E Q 625 la [] x m2 := by
  refine zl_al C hl 1 626 rfl dw_625 rfl ?_
  refine zl_arg C hl 1 631 rfl dw_626 dw_627 dw_628 dw_629 dw_630 (by decide) (by omega) ?_
  refine zl_arg C hl 2 636 rfl dw_631 dw_632 dw_633 dw_634 dw_635 (by decide) (by omega) ?_
  refine zl_callC [.int (xs (i + 1)), .int (xs (i + 2))] C hl 639 rfl dw_636 (tG_order (zDC C.2.2.2.2.2.2.2.2.2.1) x (xs (i + 1)) (xs (i + 2))) hx rfl rfl zw569 zw566 zw567 zw568 zw1 oG_order (by decide) (Nat.le_of_ble_eq_true rfl) ?_
  refine zl_al C hl 2 640 rfl dw_639 rfl ?_
  refine zl_arg C hl 1 645 rfl dw_640 dw_641 dw_642 dw_643 dw_644 (by decide) (by omega) ?_
  refine zl_arg C hl 2 650 rfl dw_645 dw_646 dw_647 dw_648 dw_649 (by decide) (by omega) ?_
  refine zl_callM [.int (xs (i + 1)), .int (xs (i + 2))] C hl 653 rfl dw_650 (tM_order (zDM C.2.2.2.2.2.2.2.2.2.1) m2 (xs (i + 1)) (xs (i + 2))) hm rfl rfl zw1141 zw1138 zw1139 zw1140 zw9 oM_order (by decide) (Nat.le_of_ble_eq_true rfl) ?_
  exact zl_eqI C 1430 dw_653 (by decide) hk
set_option maxHeartbeats 4000000 in
set_option maxRecDepth 100000 in
theorem law_14 {p : Program} {l : Launch} {e : Env} {s : State} {m : MethodId} {below : List Frame} {meth : Method} {c : Code} {b L i : Nat} {xs : Nat → Int32} {E : zE} {Q : State → Prop} {la : Array Slot} {x m2 x1 m1 : zM} {r : Int32} (C : zLx p s m meth c b L xs E) (hl : lv_has la 4 (zls E b i)) (hi : i + 6 ≤ L) (hx : qG_likely x (xs (i + 1)) (xs (i + 2)) = some (r, x1)) (hm : qM_likely m2 (xs (i + 1)) (xs (i + 2)) = some (r, m1)) (hk : zL p l e s m below meth c b E Q 1430 la [] x1 m1) : zL p l e s m below meth c b E Q 658 la [] x m2 := by
  refine zl_al C hl 1 659 rfl dw_658 rfl ?_
  refine zl_arg C hl 1 664 rfl dw_659 dw_660 dw_661 dw_662 dw_663 (by decide) (by omega) ?_
  refine zl_arg C hl 2 669 rfl dw_664 dw_665 dw_666 dw_667 dw_668 (by decide) (by omega) ?_
  refine zl_callC [.int (xs (i + 1)), .int (xs (i + 2))] C hl 672 rfl dw_669 (tG_likely (zDC C.2.2.2.2.2.2.2.2.2.1) x (xs (i + 1)) (xs (i + 2))) hx rfl rfl zw587 zw584 zw585 zw586 zw1 oG_likely (by decide) (Nat.le_of_ble_eq_true rfl) ?_
  refine zl_al C hl 2 673 rfl dw_672 rfl ?_
  refine zl_arg C hl 1 678 rfl dw_673 dw_674 dw_675 dw_676 dw_677 (by decide) (by omega) ?_
  refine zl_arg C hl 2 683 rfl dw_678 dw_679 dw_680 dw_681 dw_682 (by decide) (by omega) ?_
  refine zl_callM [.int (xs (i + 1)), .int (xs (i + 2))] C hl 686 rfl dw_683 (tM_likely (zDM C.2.2.2.2.2.2.2.2.2.1) m2 (xs (i + 1)) (xs (i + 2))) hm rfl rfl zw1145 zw1142 zw1143 zw1144 zw9 oM_likely (by decide) (Nat.le_of_ble_eq_true rfl) ?_
  exact zl_eqI C 1430 dw_686 (by decide) hk
set_option maxHeartbeats 4000000 in
set_option maxRecDepth 100000 in
theorem law_15 {p : Program} {l : Launch} {e : Env} {s : State} {m : MethodId} {below : List Frame} {meth : Method} {c : Code} {b L i : Nat} {xs : Nat → Int32} {E : zE} {Q : State → Prop} {la : Array Slot} {x m2 x1 m1 : zM} {r : Int32} (C : zLx p s m meth c b L xs E) (hl : lv_has la 4 (zls E b i)) (hi : i + 6 ≤ L) (hx : qG_best x (xs (i + 1)) (xs (i + 2)) = some (r, x1)) (hm : qM_best m2 (xs (i + 1)) (xs (i + 2)) = some (r, m1)) (hk : zL p l e s m below meth c b E Q 1430 la [] x1 m1) : zL p l e s m below meth c b E Q 691 la [] x m2 := by
  refine zl_al C hl 1 692 rfl dw_691 rfl ?_
  refine zl_arg C hl 1 697 rfl dw_692 dw_693 dw_694 dw_695 dw_696 (by decide) (by omega) ?_
  refine zl_arg C hl 2 702 rfl dw_697 dw_698 dw_699 dw_700 dw_701 (by decide) (by omega) ?_
  refine zl_callC [.int (xs (i + 1)), .int (xs (i + 2))] C hl 705 rfl dw_702 (tG_best (zDC C.2.2.2.2.2.2.2.2.2.1) x (xs (i + 1)) (xs (i + 2))) hx rfl rfl zw591 zw588 zw589 zw590 zw1 oG_best (by decide) (Nat.le_of_ble_eq_true rfl) ?_
  refine zl_al C hl 2 706 rfl dw_705 rfl ?_
  refine zl_arg C hl 1 711 rfl dw_706 dw_707 dw_708 dw_709 dw_710 (by decide) (by omega) ?_
  refine zl_arg C hl 2 716 rfl dw_711 dw_712 dw_713 dw_714 dw_715 (by decide) (by omega) ?_
  refine zl_callM [.int (xs (i + 1)), .int (xs (i + 2))] C hl 719 rfl dw_716 (tM_best (zDM C.2.2.2.2.2.2.2.2.2.1) m2 (xs (i + 1)) (xs (i + 2))) hm rfl rfl zw1149 zw1146 zw1147 zw1148 zw9 oM_best (by decide) (Nat.le_of_ble_eq_true rfl) ?_
  exact zl_eqI C 1430 dw_719 (by decide) hk
set_option maxHeartbeats 4000000 in
set_option maxRecDepth 100000 in
theorem law_16 {p : Program} {l : Launch} {e : Env} {s : State} {m : MethodId} {below : List Frame} {meth : Method} {c : Code} {b L i : Nat} {xs : Nat → Int32} {E : zE} {Q : State → Prop} {la : Array Slot} {x m2 x1 m1 : zM} {r : Int32} (C : zLx p s m meth c b L xs E) (hl : lv_has la 4 (zls E b i)) (hi : i + 6 ≤ L) (hx : qG_first x (xs (i + 1)) (xs (i + 2)) (xs (i + 3)) = some (r, x1)) (hm : qM_first m2 (xs (i + 1)) (xs (i + 2)) (xs (i + 3)) = some (r, m1)) (hk : zL p l e s m below meth c b E Q 1430 la [] x1 m1) : zL p l e s m below meth c b E Q 724 la [] x m2 := by
  refine zl_al C hl 1 725 rfl dw_724 rfl ?_
  refine zl_arg C hl 1 730 rfl dw_725 dw_726 dw_727 dw_728 dw_729 (by decide) (by omega) ?_
  refine zl_arg C hl 2 735 rfl dw_730 dw_731 dw_732 dw_733 dw_734 (by decide) (by omega) ?_
  refine zl_arg C hl 3 740 rfl dw_735 dw_736 dw_737 dw_738 dw_739 (by decide) (by omega) ?_
  refine zl_callC [.int (xs (i + 1)), .int (xs (i + 2)), .int (xs (i + 3))] C hl 743 rfl dw_740 (tG_first (zDC C.2.2.2.2.2.2.2.2.2.1) x (xs (i + 1)) (xs (i + 2)) (xs (i + 3))) hx rfl rfl zw595 zw592 zw593 zw594 zw1 oG_first (by decide) (Nat.le_of_ble_eq_true rfl) ?_
  refine zl_al C hl 2 744 rfl dw_743 rfl ?_
  refine zl_arg C hl 1 749 rfl dw_744 dw_745 dw_746 dw_747 dw_748 (by decide) (by omega) ?_
  refine zl_arg C hl 2 754 rfl dw_749 dw_750 dw_751 dw_752 dw_753 (by decide) (by omega) ?_
  refine zl_arg C hl 3 759 rfl dw_754 dw_755 dw_756 dw_757 dw_758 (by decide) (by omega) ?_
  refine zl_callM [.int (xs (i + 1)), .int (xs (i + 2)), .int (xs (i + 3))] C hl 762 rfl dw_759 (tM_first (zDM C.2.2.2.2.2.2.2.2.2.1) m2 (xs (i + 1)) (xs (i + 2)) (xs (i + 3))) hm rfl rfl zw1153 zw1150 zw1151 zw1152 zw9 oM_first (by decide) (Nat.le_of_ble_eq_true rfl) ?_
  exact zl_eqI C 1430 dw_762 (by decide) hk
set_option maxHeartbeats 4000000 in
set_option maxRecDepth 100000 in
theorem law_17 {p : Program} {l : Launch} {e : Env} {s : State} {m : MethodId} {below : List Frame} {meth : Method} {c : Code} {b L i : Nat} {xs : Nat → Int32} {E : zE} {Q : State → Prop} {la : Array Slot} {x m2 x1 m1 : zM} {r : Int32} (C : zLx p s m meth c b L xs E) (hl : lv_has la 4 (zls E b i)) (hi : i + 6 ≤ L) (hx : qG_line x (xs (i + 1)) (xs (i + 2)) = some (r, x1)) (hm : qM_line m2 (xs (i + 1)) (xs (i + 2)) = some (r, m1)) (hk : zL p l e s m below meth c b E Q 1430 la [] x1 m1) : zL p l e s m below meth c b E Q 767 la [] x m2 := by
  refine zl_al C hl 1 768 rfl dw_767 rfl ?_
  refine zl_arg C hl 1 773 rfl dw_768 dw_769 dw_770 dw_771 dw_772 (by decide) (by omega) ?_
  refine zl_arg C hl 2 778 rfl dw_773 dw_774 dw_775 dw_776 dw_777 (by decide) (by omega) ?_
  refine zl_callC [.int (xs (i + 1)), .int (xs (i + 2))] C hl 781 rfl dw_778 (tG_line (zDC C.2.2.2.2.2.2.2.2.2.1) x (xs (i + 1)) (xs (i + 2))) hx rfl rfl zw601 zw598 zw599 zw600 zw1 oG_line (by decide) (Nat.le_of_ble_eq_true rfl) ?_
  refine zl_al C hl 2 782 rfl dw_781 rfl ?_
  refine zl_arg C hl 1 787 rfl dw_782 dw_783 dw_784 dw_785 dw_786 (by decide) (by omega) ?_
  refine zl_arg C hl 2 792 rfl dw_787 dw_788 dw_789 dw_790 dw_791 (by decide) (by omega) ?_
  refine zl_callM [.int (xs (i + 1)), .int (xs (i + 2))] C hl 795 rfl dw_792 (tM_line (zDM C.2.2.2.2.2.2.2.2.2.1) m2 (xs (i + 1)) (xs (i + 2))) hm rfl rfl zw1157 zw1154 zw1155 zw1156 zw9 oM_line (by decide) (Nat.le_of_ble_eq_true rfl) ?_
  exact zl_eqI C 1430 dw_795 (by decide) hk
set_option maxHeartbeats 4000000 in
set_option maxRecDepth 100000 in
theorem law_18 {p : Program} {l : Launch} {e : Env} {s : State} {m : MethodId} {below : List Frame} {meth : Method} {c : Code} {b L i : Nat} {xs : Nat → Int32} {E : zE} {Q : State → Prop} {la : Array Slot} {x m2 x1 m1 : zM} {r : Int32} (C : zLx p s m meth c b L xs E) (hl : lv_has la 4 (zls E b i)) (hi : i + 6 ≤ L) (hx : qG_worth x (xs (i + 1)) = some (r, x1)) (hm : qM_worth m2 (xs (i + 1)) = some (r, m1)) (hk : zL p l e s m below meth c b E Q 1430 la [] x1 m1) : zL p l e s m below meth c b E Q 800 la [] x m2 := by
  refine zl_al C hl 1 801 rfl dw_800 rfl ?_
  refine zl_arg C hl 1 806 rfl dw_801 dw_802 dw_803 dw_804 dw_805 (by decide) (by omega) ?_
  refine zl_callC [.int (xs (i + 1))] C hl 809 rfl dw_806 (tG_worth (zDC C.2.2.2.2.2.2.2.2.2.1) x (xs (i + 1))) hx rfl rfl zw615 zw612 zw613 zw614 zw1 oG_worth (by decide) (Nat.le_of_ble_eq_true rfl) ?_
  refine zl_al C hl 2 810 rfl dw_809 rfl ?_
  refine zl_arg C hl 1 815 rfl dw_810 dw_811 dw_812 dw_813 dw_814 (by decide) (by omega) ?_
  refine zl_callM [.int (xs (i + 1))] C hl 818 rfl dw_815 (tM_worth (zDM C.2.2.2.2.2.2.2.2.2.1) m2 (xs (i + 1))) hm rfl rfl zw1169 zw1166 zw1167 zw1168 zw9 oM_worth (by decide) (Nat.le_of_ble_eq_true rfl) ?_
  exact zl_eqI C 1430 dw_818 (by decide) hk
set_option maxHeartbeats 4000000 in
set_option maxRecDepth 100000 in
theorem law_19 {p : Program} {l : Launch} {e : Env} {s : State} {m : MethodId} {below : List Frame} {meth : Method} {c : Code} {b L i : Nat} {xs : Nat → Int32} {E : zE} {Q : State → Prop} {la : Array Slot} {x m2 x1 m1 : zM} {r : Int32} (C : zLx p s m meth c b L xs E) (hl : lv_has la 4 (zls E b i)) (hi : i + 6 ≤ L) (hx : qG_see x (xs (i + 1)) (xs (i + 2)) = some (r, x1)) (hm : qM_see m2 (xs (i + 1)) (xs (i + 2)) = some (r, m1)) (hk : zL p l e s m below meth c b E Q 1430 la [] x1 m1) : zL p l e s m below meth c b E Q 823 la [] x m2 := by
  refine zl_al C hl 1 824 rfl dw_823 rfl ?_
  refine zl_arg C hl 1 829 rfl dw_824 dw_825 dw_826 dw_827 dw_828 (by decide) (by omega) ?_
  refine zl_arg C hl 2 834 rfl dw_829 dw_830 dw_831 dw_832 dw_833 (by decide) (by omega) ?_
  refine zl_callC [.int (xs (i + 1)), .int (xs (i + 2))] C hl 837 rfl dw_834 (tG_see (zDC C.2.2.2.2.2.2.2.2.2.1) x (xs (i + 1)) (xs (i + 2))) hx rfl rfl zw624 zw621 zw622 zw623 zw1 oG_see (by decide) (Nat.le_of_ble_eq_true rfl) ?_
  refine zl_al C hl 2 838 rfl dw_837 rfl ?_
  refine zl_arg C hl 1 843 rfl dw_838 dw_839 dw_840 dw_841 dw_842 (by decide) (by omega) ?_
  refine zl_arg C hl 2 848 rfl dw_843 dw_844 dw_845 dw_846 dw_847 (by decide) (by omega) ?_
  refine zl_callM [.int (xs (i + 1)), .int (xs (i + 2))] C hl 851 rfl dw_848 (tM_see (zDM C.2.2.2.2.2.2.2.2.2.1) m2 (xs (i + 1)) (xs (i + 2))) hm rfl rfl zw1177 zw1174 zw1175 zw1176 zw9 oM_see (by decide) (Nat.le_of_ble_eq_true rfl) ?_
  exact zl_eqI C 1430 dw_851 (by decide) hk
set_option maxHeartbeats 4000000 in
set_option maxRecDepth 100000 in
theorem law_20 {p : Program} {l : Launch} {e : Env} {s : State} {m : MethodId} {below : List Frame} {meth : Method} {c : Code} {b L i : Nat} {xs : Nat → Int32} {E : zE} {Q : State → Prop} {la : Array Slot} {x m2 x1 m1 : zM} {r : Int32} (C : zLx p s m meth c b L xs E) (hl : lv_has la 4 (zls E b i)) (hi : i + 6 ≤ L) (hx : qG_lies x (xs (i + 1)) = some (r, x1)) (hm : qM_lies m2 (xs (i + 1)) = some (r, m1)) (hk : zL p l e s m below meth c b E Q 1430 la [] x1 m1) : zL p l e s m below meth c b E Q 856 la [] x m2 := by
  refine zl_al C hl 1 857 rfl dw_856 rfl ?_
  refine zl_arg C hl 1 862 rfl dw_857 dw_858 dw_859 dw_860 dw_861 (by decide) (by omega) ?_
  refine zl_callC [.int (xs (i + 1))] C hl 865 rfl dw_862 (tG_lies (zDC C.2.2.2.2.2.2.2.2.2.1) x (xs (i + 1))) hx rfl rfl zw628 zw625 zw626 zw627 zw1 oG_lies (by decide) (Nat.le_of_ble_eq_true rfl) ?_
  refine zl_al C hl 2 866 rfl dw_865 rfl ?_
  refine zl_arg C hl 1 871 rfl dw_866 dw_867 dw_868 dw_869 dw_870 (by decide) (by omega) ?_
  refine zl_callM [.int (xs (i + 1))] C hl 874 rfl dw_871 (tM_lies (zDM C.2.2.2.2.2.2.2.2.2.1) m2 (xs (i + 1))) hm rfl rfl zw1181 zw1178 zw1179 zw1180 zw9 oM_lies (by decide) (Nat.le_of_ble_eq_true rfl) ?_
  exact zl_eqI C 1430 dw_874 (by decide) hk
set_option maxHeartbeats 4000000 in
set_option maxRecDepth 100000 in
theorem law_21 {p : Program} {l : Launch} {e : Env} {s : State} {m : MethodId} {below : List Frame} {meth : Method} {c : Code} {b L i : Nat} {xs : Nat → Int32} {E : zE} {Q : State → Prop} {la : Array Slot} {x m2 x1 m1 : zM} {r : Int32} (C : zLx p s m meth c b L xs E) (hl : lv_has la 4 (zls E b i)) (hi : i + 6 ≤ L) (hx : qG_ends x (xs (i + 1)) (xs (i + 2)) (xs (i + 3)) = some (r, x1)) (hm : qM_ends m2 (xs (i + 1)) (xs (i + 2)) (xs (i + 3)) = some (r, m1)) (hk : zL p l e s m below meth c b E Q 1430 la [] x1 m1) : zL p l e s m below meth c b E Q 879 la [] x m2 := by
  refine zl_al C hl 1 880 rfl dw_879 rfl ?_
  refine zl_arg C hl 1 885 rfl dw_880 dw_881 dw_882 dw_883 dw_884 (by decide) (by omega) ?_
  refine zl_arg C hl 2 890 rfl dw_885 dw_886 dw_887 dw_888 dw_889 (by decide) (by omega) ?_
  refine zl_arg C hl 3 895 rfl dw_890 dw_891 dw_892 dw_893 dw_894 (by decide) (by omega) ?_
  refine zl_callC [.int (xs (i + 1)), .int (xs (i + 2)), .int (xs (i + 3))] C hl 898 rfl dw_895 (tG_ends (zDC C.2.2.2.2.2.2.2.2.2.1) x (xs (i + 1)) (xs (i + 2)) (xs (i + 3))) hx rfl rfl zw636 zw633 zw634 zw635 zw1 oG_ends (by decide) (Nat.le_of_ble_eq_true rfl) ?_
  refine zl_al C hl 2 899 rfl dw_898 rfl ?_
  refine zl_arg C hl 1 904 rfl dw_899 dw_900 dw_901 dw_902 dw_903 (by decide) (by omega) ?_
  refine zl_arg C hl 2 909 rfl dw_904 dw_905 dw_906 dw_907 dw_908 (by decide) (by omega) ?_
  refine zl_arg C hl 3 914 rfl dw_909 dw_910 dw_911 dw_912 dw_913 (by decide) (by omega) ?_
  refine zl_callM [.int (xs (i + 1)), .int (xs (i + 2)), .int (xs (i + 3))] C hl 917 rfl dw_914 (tM_ends (zDM C.2.2.2.2.2.2.2.2.2.1) m2 (xs (i + 1)) (xs (i + 2)) (xs (i + 3))) hm rfl rfl zw1185 zw1182 zw1183 zw1184 zw9 oM_ends (by decide) (Nat.le_of_ble_eq_true rfl) ?_
  exact zl_eqI C 1430 dw_917 (by decide) hk
set_option maxHeartbeats 4000000 in
set_option maxRecDepth 100000 in
theorem law_22 {p : Program} {l : Launch} {e : Env} {s : State} {m : MethodId} {below : List Frame} {meth : Method} {c : Code} {b L i : Nat} {xs : Nat → Int32} {E : zE} {Q : State → Prop} {la : Array Slot} {x m2 x1 m1 : zM} {r : Int64} (C : zLx p s m meth c b L xs E) (hl : lv_has la 4 (zls E b i)) (hi : i + 6 ≤ L) (hx : qG_odds x (xs (i + 1)) (xs (i + 2)) = some (r, x1)) (hm : qM_odds m2 (xs (i + 1)) (xs (i + 2)) = some (r, m1)) (hk : zL p l e s m below meth c b E Q 1430 la [] x1 m1) : zL p l e s m below meth c b E Q 922 la [] x m2 := by
  refine zl_al C hl 1 923 rfl dw_922 rfl ?_
  refine zl_arg C hl 1 928 rfl dw_923 dw_924 dw_925 dw_926 dw_927 (by decide) (by omega) ?_
  refine zl_arg C hl 2 933 rfl dw_928 dw_929 dw_930 dw_931 dw_932 (by decide) (by omega) ?_
  refine zl_callC [.int (xs (i + 1)), .int (xs (i + 2))] C hl 936 rfl dw_933 (tG_odds (zDC C.2.2.2.2.2.2.2.2.2.1) x (xs (i + 1)) (xs (i + 2))) hx rfl rfl zw644 zw641 zw642 zw643 zw1 oG_odds (by decide) (Nat.le_of_ble_eq_true rfl) ?_
  refine zl_al C hl 2 937 rfl dw_936 rfl ?_
  refine zl_arg C hl 1 942 rfl dw_937 dw_938 dw_939 dw_940 dw_941 (by decide) (by omega) ?_
  refine zl_arg C hl 2 947 rfl dw_942 dw_943 dw_944 dw_945 dw_946 (by decide) (by omega) ?_
  refine zl_callM [.int (xs (i + 1)), .int (xs (i + 2))] C hl 950 rfl dw_947 (tM_odds (zDM C.2.2.2.2.2.2.2.2.2.1) m2 (xs (i + 1)) (xs (i + 2))) hm rfl rfl zw1189 zw1186 zw1187 zw1188 zw9 oM_odds (by decide) (Nat.le_of_ble_eq_true rfl) ?_
  exact zl_eqL C 1430 dw_950 dw_951 (by decide) hk
set_option maxHeartbeats 4000000 in
set_option maxRecDepth 100000 in
theorem law_23 {p : Program} {l : Launch} {e : Env} {s : State} {m : MethodId} {below : List Frame} {meth : Method} {c : Code} {b L i : Nat} {xs : Nat → Int32} {E : zE} {Q : State → Prop} {la : Array Slot} {x m2 x1 m1 : zM} {r : Int64} (C : zLx p s m meth c b L xs E) (hl : lv_has la 4 (zls E b i)) (hi : i + 6 ≤ L) (hx : qG_mean x (xs (i + 1)) = some (r, x1)) (hm : qM_mean m2 (xs (i + 1)) = some (r, m1)) (hk : zL p l e s m below meth c b E Q 1430 la [] x1 m1) : zL p l e s m below meth c b E Q 956 la [] x m2 := by
  refine zl_al C hl 1 957 rfl dw_956 rfl ?_
  refine zl_arg C hl 1 962 rfl dw_957 dw_958 dw_959 dw_960 dw_961 (by decide) (by omega) ?_
  refine zl_callC [.int (xs (i + 1))] C hl 965 rfl dw_962 (tG_mean (zDC C.2.2.2.2.2.2.2.2.2.1) x (xs (i + 1))) hx rfl rfl zw652 zw649 zw650 zw651 zw1 oG_mean (by decide) (Nat.le_of_ble_eq_true rfl) ?_
  refine zl_al C hl 2 966 rfl dw_965 rfl ?_
  refine zl_arg C hl 1 971 rfl dw_966 dw_967 dw_968 dw_969 dw_970 (by decide) (by omega) ?_
  refine zl_callM [.int (xs (i + 1))] C hl 974 rfl dw_971 (tM_mean (zDM C.2.2.2.2.2.2.2.2.2.1) m2 (xs (i + 1))) hm rfl rfl zw1202 zw1199 zw1200 zw1201 zw9 oM_mean (by decide) (Nat.le_of_ble_eq_true rfl) ?_
  exact zl_eqL C 1430 dw_974 dw_975 (by decide) hk
set_option maxHeartbeats 4000000 in
set_option maxRecDepth 100000 in
theorem law_24 {p : Program} {l : Launch} {e : Env} {s : State} {m : MethodId} {below : List Frame} {meth : Method} {c : Code} {b L i : Nat} {xs : Nat → Int32} {E : zE} {Q : State → Prop} {la : Array Slot} {x m2 x1 m1 : zM} {r : Int32} (C : zLx p s m meth c b L xs E) (hl : lv_has la 4 (zls E b i)) (hi : i + 6 ≤ L) (hx : qG_book x (xs (i + 1)) (xs (i + 2)) (xs (i + 3)) = some (r, x1)) (hm : qM_book m2 (xs (i + 1)) (xs (i + 2)) (xs (i + 3)) = some (r, m1)) (hk : zL p l e s m below meth c b E Q 1430 la [] x1 m1) : zL p l e s m below meth c b E Q 980 la [] x m2 := by
  refine zl_al C hl 1 981 rfl dw_980 rfl ?_
  refine zl_arg C hl 1 986 rfl dw_981 dw_982 dw_983 dw_984 dw_985 (by decide) (by omega) ?_
  refine zl_arg C hl 2 991 rfl dw_986 dw_987 dw_988 dw_989 dw_990 (by decide) (by omega) ?_
  refine zl_arg C hl 3 996 rfl dw_991 dw_992 dw_993 dw_994 dw_995 (by decide) (by omega) ?_
  refine zl_callC [.int (xs (i + 1)), .int (xs (i + 2)), .int (xs (i + 3))] C hl 999 rfl dw_996 (tG_book (zDC C.2.2.2.2.2.2.2.2.2.1) x (xs (i + 1)) (xs (i + 2)) (xs (i + 3))) hx rfl rfl zw656 zw653 zw654 zw655 zw1 oG_book (by decide) (Nat.le_of_ble_eq_true rfl) ?_
  refine zl_al C hl 2 1000 rfl dw_999 rfl ?_
  refine zl_arg C hl 1 1005 rfl dw_1000 dw_1001 dw_1002 dw_1003 dw_1004 (by decide) (by omega) ?_
  refine zl_arg C hl 2 1010 rfl dw_1005 dw_1006 dw_1007 dw_1008 dw_1009 (by decide) (by omega) ?_
  refine zl_arg C hl 3 1015 rfl dw_1010 dw_1011 dw_1012 dw_1013 dw_1014 (by decide) (by omega) ?_
  refine zl_callM [.int (xs (i + 1)), .int (xs (i + 2)), .int (xs (i + 3))] C hl 1018 rfl dw_1015 (tM_book (zDM C.2.2.2.2.2.2.2.2.2.1) m2 (xs (i + 1)) (xs (i + 2)) (xs (i + 3))) hm rfl rfl zw1206 zw1203 zw1204 zw1205 zw9 oM_book (by decide) (Nat.le_of_ble_eq_true rfl) ?_
  exact zl_eqI C 1430 dw_1018 (by decide) hk
set_option maxHeartbeats 4000000 in
set_option maxRecDepth 100000 in
theorem law_25 {p : Program} {l : Launch} {e : Env} {s : State} {m : MethodId} {below : List Frame} {meth : Method} {c : Code} {b L i : Nat} {xs : Nat → Int32} {E : zE} {Q : State → Prop} {la : Array Slot} {x m2 x1 m1 : zM} {r : Int32} (C : zLx p s m meth c b L xs E) (hl : lv_has la 4 (zls E b i)) (hi : i + 6 ≤ L) (hx : qG_looked x  = some (r, x1)) (hm : qM_looked m2  = some (r, m1)) (hk : zL p l e s m below meth c b E Q 1430 la [] x1 m1) : zL p l e s m below meth c b E Q 1023 la [] x m2 := by
  refine zl_al C hl 1 1024 rfl dw_1023 rfl ?_
  refine zl_callC [] C hl 1027 rfl dw_1024 (tG_looked (zDC C.2.2.2.2.2.2.2.2.2.1) x ) hx rfl rfl zw664 zw661 zw662 zw663 zw1 oG_looked (by decide) (Nat.le_of_ble_eq_true rfl) ?_
  refine zl_al C hl 2 1028 rfl dw_1027 rfl ?_
  refine zl_callM [] C hl 1031 rfl dw_1028 (tM_looked (zDM C.2.2.2.2.2.2.2.2.2.1) m2 ) hm rfl rfl zw1210 zw1207 zw1208 zw1209 zw9 oM_looked (by decide) (Nat.le_of_ble_eq_true rfl) ?_
  exact zl_eqI C 1430 dw_1031 (by decide) hk
set_option maxHeartbeats 4000000 in
set_option maxRecDepth 100000 in
theorem law_26 {p : Program} {l : Launch} {e : Env} {s : State} {m : MethodId} {below : List Frame} {meth : Method} {c : Code} {b L i : Nat} {xs : Nat → Int32} {E : zE} {Q : State → Prop} {la : Array Slot} {x m2 x1 m1 : zM} {r : Int32} (C : zLx p s m meth c b L xs E) (hl : lv_has la 4 (zls E b i)) (hi : i + 6 ≤ L) (hx : qG_judge x (xs (i + 1)) (xs (i + 2)) = some (r, x1)) (hm : qM_judge m2 (xs (i + 1)) (xs (i + 2)) = some (r, m1)) (hk : zL p l e s m below meth c b E Q 1430 la [] x1 m1) : zL p l e s m below meth c b E Q 1036 la [] x m2 := by
  refine zl_al C hl 1 1037 rfl dw_1036 rfl ?_
  refine zl_arg C hl 1 1042 rfl dw_1037 dw_1038 dw_1039 dw_1040 dw_1041 (by decide) (by omega) ?_
  refine zl_arg C hl 2 1047 rfl dw_1042 dw_1043 dw_1044 dw_1045 dw_1046 (by decide) (by omega) ?_
  refine zl_callC [.int (xs (i + 1)), .int (xs (i + 2))] C hl 1050 rfl dw_1047 (tG_judge (zDC C.2.2.2.2.2.2.2.2.2.1) x (xs (i + 1)) (xs (i + 2))) hx rfl rfl zw668 zw665 zw666 zw667 zw1 oG_judge (by decide) (Nat.le_of_ble_eq_true rfl) ?_
  refine zl_al C hl 2 1051 rfl dw_1050 rfl ?_
  refine zl_arg C hl 1 1056 rfl dw_1051 dw_1052 dw_1053 dw_1054 dw_1055 (by decide) (by omega) ?_
  refine zl_arg C hl 2 1061 rfl dw_1056 dw_1057 dw_1058 dw_1059 dw_1060 (by decide) (by omega) ?_
  refine zl_callM [.int (xs (i + 1)), .int (xs (i + 2))] C hl 1064 rfl dw_1061 (tM_judge (zDM C.2.2.2.2.2.2.2.2.2.1) m2 (xs (i + 1)) (xs (i + 2))) hm rfl rfl zw1214 zw1211 zw1212 zw1213 zw9 oM_judge (by decide) (Nat.le_of_ble_eq_true rfl) ?_
  exact zl_eqI C 1430 dw_1064 (by decide) hk
set_option maxHeartbeats 4000000 in
set_option maxRecDepth 100000 in
theorem law_27 {p : Program} {l : Launch} {e : Env} {s : State} {m : MethodId} {below : List Frame} {meth : Method} {c : Code} {b L i : Nat} {xs : Nat → Int32} {E : zE} {Q : State → Prop} {la : Array Slot} {x m2 x1 m1 : zM} {r : Int32} (C : zLx p s m meth c b L xs E) (hl : lv_has la 4 (zls E b i)) (hi : i + 6 ≤ L) (hx : qG_image x  = some (r, x1)) (hm : qM_image m2  = some (r, m1)) (hk : zL p l e s m below meth c b E Q 1430 la [] x1 m1) : zL p l e s m below meth c b E Q 1069 la [] x m2 := by
  refine zl_al C hl 1 1070 rfl dw_1069 rfl ?_
  refine zl_callC [] C hl 1073 rfl dw_1070 (tG_image (zDC C.2.2.2.2.2.2.2.2.2.1) x ) hx rfl rfl zw684 zw681 zw682 zw683 zw1 oG_image (by decide) (Nat.le_of_ble_eq_true rfl) ?_
  refine zl_al C hl 2 1074 rfl dw_1073 rfl ?_
  refine zl_callM [] C hl 1077 rfl dw_1074 (tM_image (zDM C.2.2.2.2.2.2.2.2.2.1) m2 ) hm rfl rfl zw1222 zw1219 zw1220 zw1221 zw9 oM_image (by decide) (Nat.le_of_ble_eq_true rfl) ?_
  exact zl_eqI C 1430 dw_1077 (by decide) hk
set_option maxHeartbeats 4000000 in
set_option maxRecDepth 100000 in
theorem law_28 {p : Program} {l : Launch} {e : Env} {s : State} {m : MethodId} {below : List Frame} {meth : Method} {c : Code} {b L i : Nat} {xs : Nat → Int32} {E : zE} {Q : State → Prop} {la : Array Slot} {x m2 x1 m1 : zM} {r : Int32} (C : zLx p s m meth c b L xs E) (hl : lv_has la 4 (zls E b i)) (hi : i + 6 ≤ L) (hx : qG_undo x  = some (r, x1)) (hm : qM_undo m2  = some (r, m1)) (hk : zL p l e s m below meth c b E Q 1430 la [] x1 m1) : zL p l e s m below meth c b E Q 1082 la [] x m2 := by
  refine zl_al C hl 1 1083 rfl dw_1082 rfl ?_
  refine zl_callC [] C hl 1086 rfl dw_1083 (tG_undo (zDC C.2.2.2.2.2.2.2.2.2.1) x ) hx rfl rfl zw688 zw685 zw686 zw687 zw1 oG_undo (by decide) (Nat.le_of_ble_eq_true rfl) ?_
  refine zl_al C hl 2 1087 rfl dw_1086 rfl ?_
  refine zl_callM [] C hl 1090 rfl dw_1087 (tM_undo (zDM C.2.2.2.2.2.2.2.2.2.1) m2 ) hm rfl rfl zw1226 zw1223 zw1224 zw1225 zw9 oM_undo (by decide) (Nat.le_of_ble_eq_true rfl) ?_
  exact zl_eqI C 1430 dw_1090 (by decide) hk
set_option maxHeartbeats 4000000 in
set_option maxRecDepth 100000 in
theorem law_29 {p : Program} {l : Launch} {e : Env} {s : State} {m : MethodId} {below : List Frame} {meth : Method} {c : Code} {b L i : Nat} {xs : Nat → Int32} {E : zE} {Q : State → Prop} {la : Array Slot} {x m2 x1 m1 : zM} {r : Int32} (C : zLx p s m meth c b L xs E) (hl : lv_has la 4 (zls E b i)) (hi : i + 6 ≤ L) (hx : qG_act x (xs (i + 1)) (xs (i + 2)) (xs (i + 3)) = some (r, x1)) (hm : qM_act m2 (xs (i + 1)) (xs (i + 2)) (xs (i + 3)) = some (r, m1)) (hk : zL p l e s m below meth c b E Q 1430 la [] x1 m1) : zL p l e s m below meth c b E Q 1095 la [] x m2 := by
  refine zl_al C hl 1 1096 rfl dw_1095 rfl ?_
  refine zl_arg C hl 1 1101 rfl dw_1096 dw_1097 dw_1098 dw_1099 dw_1100 (by decide) (by omega) ?_
  refine zl_arg C hl 2 1106 rfl dw_1101 dw_1102 dw_1103 dw_1104 dw_1105 (by decide) (by omega) ?_
  refine zl_arg C hl 3 1111 rfl dw_1106 dw_1107 dw_1108 dw_1109 dw_1110 (by decide) (by omega) ?_
  refine zl_callC [.int (xs (i + 1)), .int (xs (i + 2)), .int (xs (i + 3))] C hl 1114 rfl dw_1111 (tG_act (zDC C.2.2.2.2.2.2.2.2.2.1) x (xs (i + 1)) (xs (i + 2)) (xs (i + 3))) hx rfl rfl zw692 zw689 zw690 zw691 zw1 oG_act (by decide) (Nat.le_of_ble_eq_true rfl) ?_
  refine zl_al C hl 2 1115 rfl dw_1114 rfl ?_
  refine zl_arg C hl 1 1120 rfl dw_1115 dw_1116 dw_1117 dw_1118 dw_1119 (by decide) (by omega) ?_
  refine zl_arg C hl 2 1125 rfl dw_1120 dw_1121 dw_1122 dw_1123 dw_1124 (by decide) (by omega) ?_
  refine zl_arg C hl 3 1130 rfl dw_1125 dw_1126 dw_1127 dw_1128 dw_1129 (by decide) (by omega) ?_
  refine zl_callM [.int (xs (i + 1)), .int (xs (i + 2)), .int (xs (i + 3))] C hl 1133 rfl dw_1130 (tM_act (zDM C.2.2.2.2.2.2.2.2.2.1) m2 (xs (i + 1)) (xs (i + 2)) (xs (i + 3))) hm rfl rfl zw1230 zw1227 zw1228 zw1229 zw9 oM_act (by decide) (Nat.le_of_ble_eq_true rfl) ?_
  exact zl_eqI C 1430 dw_1133 (by decide) hk
set_option maxHeartbeats 4000000 in
set_option maxRecDepth 100000 in
theorem law_30 {p : Program} {l : Launch} {e : Env} {s : State} {m : MethodId} {below : List Frame} {meth : Method} {c : Code} {b L i : Nat} {xs : Nat → Int32} {E : zE} {Q : State → Prop} {la : Array Slot} {x m2 x1 m1 : zM} {r : Int32} (C : zLx p s m meth c b L xs E) (hl : lv_has la 4 (zls E b i)) (hi : i + 6 ≤ L) (hx : qG_trace x (xs (i + 1)) = some (r, x1)) (hm : qM_trace m2 (xs (i + 1)) = some (r, m1)) (hk : zL p l e s m below meth c b E Q 1430 la [] x1 m1) : zL p l e s m below meth c b E Q 1138 la [] x m2 := by
  refine zl_al C hl 1 1139 rfl dw_1138 rfl ?_
  refine zl_arg C hl 1 1144 rfl dw_1139 dw_1140 dw_1141 dw_1142 dw_1143 (by decide) (by omega) ?_
  refine zl_callC [.int (xs (i + 1))] C hl 1147 rfl dw_1144 (tG_trace (zDC C.2.2.2.2.2.2.2.2.2.1) x (xs (i + 1))) hx rfl rfl zw711 zw708 zw709 zw710 zw1 oG_trace (by decide) (Nat.le_of_ble_eq_true rfl) ?_
  refine zl_al C hl 2 1148 rfl dw_1147 rfl ?_
  refine zl_arg C hl 1 1153 rfl dw_1148 dw_1149 dw_1150 dw_1151 dw_1152 (by decide) (by omega) ?_
  refine zl_callM [.int (xs (i + 1))] C hl 1156 rfl dw_1153 (tM_trace (zDM C.2.2.2.2.2.2.2.2.2.1) m2 (xs (i + 1))) hm rfl rfl zw1266 zw1263 zw1264 zw1265 zw9 oM_trace (by decide) (Nat.le_of_ble_eq_true rfl) ?_
  exact zl_eqI C 1430 dw_1156 (by decide) hk
set_option maxHeartbeats 4000000 in
set_option maxRecDepth 100000 in
theorem law_31 {p : Program} {l : Launch} {e : Env} {s : State} {m : MethodId} {below : List Frame} {meth : Method} {c : Code} {b L i : Nat} {xs : Nat → Int32} {E : zE} {Q : State → Prop} {la : Array Slot} {x m2 x1 m1 : zM} {r : Int32} (C : zLx p s m meth c b L xs E) (hl : lv_has la 4 (zls E b i)) (hi : i + 6 ≤ L) (hx : qG_taken x (xs (i + 1)) (xs (i + 2)) = some (r, x1)) (hm : qM_taken m2 (xs (i + 1)) (xs (i + 2)) = some (r, m1)) (hk : zL p l e s m below meth c b E Q 1430 la [] x1 m1) : zL p l e s m below meth c b E Q 1161 la [] x m2 := by
  refine zl_al C hl 1 1162 rfl dw_1161 rfl ?_
  refine zl_arg C hl 1 1167 rfl dw_1162 dw_1163 dw_1164 dw_1165 dw_1166 (by decide) (by omega) ?_
  refine zl_arg C hl 2 1172 rfl dw_1167 dw_1168 dw_1169 dw_1170 dw_1171 (by decide) (by omega) ?_
  refine zl_callC [.int (xs (i + 1)), .int (xs (i + 2))] C hl 1175 rfl dw_1172 (tG_taken (zDC C.2.2.2.2.2.2.2.2.2.1) x (xs (i + 1)) (xs (i + 2))) hx rfl rfl zw715 zw712 zw713 zw714 zw1 oG_taken (by decide) (Nat.le_of_ble_eq_true rfl) ?_
  refine zl_al C hl 2 1176 rfl dw_1175 rfl ?_
  refine zl_arg C hl 1 1181 rfl dw_1176 dw_1177 dw_1178 dw_1179 dw_1180 (by decide) (by omega) ?_
  refine zl_arg C hl 2 1186 rfl dw_1181 dw_1182 dw_1183 dw_1184 dw_1185 (by decide) (by omega) ?_
  refine zl_callM [.int (xs (i + 1)), .int (xs (i + 2))] C hl 1189 rfl dw_1186 (tM_taken (zDM C.2.2.2.2.2.2.2.2.2.1) m2 (xs (i + 1)) (xs (i + 2))) hm rfl rfl zw1270 zw1267 zw1268 zw1269 zw9 oM_taken (by decide) (Nat.le_of_ble_eq_true rfl) ?_
  exact zl_eqI C 1430 dw_1189 (by decide) hk
set_option maxHeartbeats 4000000 in
set_option maxRecDepth 100000 in
theorem law_32 {p : Program} {l : Launch} {e : Env} {s : State} {m : MethodId} {below : List Frame} {meth : Method} {c : Code} {b L i : Nat} {xs : Nat → Int32} {E : zE} {Q : State → Prop} {la : Array Slot} {x m2 x1 m1 : zM} {r : Int32} (C : zLx p s m meth c b L xs E) (hl : lv_has la 4 (zls E b i)) (hi : i + 6 ≤ L) (hx : qG_count x (xs (i + 1)) = some (r, x1)) (hm : qM_count m2 (xs (i + 1)) = some (r, m1)) (hk : zL p l e s m below meth c b E Q 1430 la [] x1 m1) : zL p l e s m below meth c b E Q 1194 la [] x m2 := by
  refine zl_al C hl 1 1195 rfl dw_1194 rfl ?_
  refine zl_arg C hl 1 1200 rfl dw_1195 dw_1196 dw_1197 dw_1198 dw_1199 (by decide) (by omega) ?_
  refine zl_callC [.int (xs (i + 1))] C hl 1203 rfl dw_1200 (tG_count (zDC C.2.2.2.2.2.2.2.2.2.1) x (xs (i + 1))) hx rfl rfl zw719 zw716 zw717 zw718 zw1 oG_count (by decide) (Nat.le_of_ble_eq_true rfl) ?_
  refine zl_al C hl 2 1204 rfl dw_1203 rfl ?_
  refine zl_arg C hl 1 1209 rfl dw_1204 dw_1205 dw_1206 dw_1207 dw_1208 (by decide) (by omega) ?_
  refine zl_callM [.int (xs (i + 1))] C hl 1212 rfl dw_1209 (tM_count (zDM C.2.2.2.2.2.2.2.2.2.1) m2 (xs (i + 1))) hm rfl rfl zw1274 zw1271 zw1272 zw1273 zw9 oM_count (by decide) (Nat.le_of_ble_eq_true rfl) ?_
  exact zl_eqI C 1430 dw_1212 (by decide) hk
set_option maxHeartbeats 4000000 in
set_option maxRecDepth 100000 in
theorem law_33 {p : Program} {l : Launch} {e : Env} {s : State} {m : MethodId} {below : List Frame} {meth : Method} {c : Code} {b L i : Nat} {xs : Nat → Int32} {E : zE} {Q : State → Prop} {la : Array Slot} {x m2 x1 m1 : zM} {r : Int32} (C : zLx p s m meth c b L xs E) (hl : lv_has la 4 (zls E b i)) (hi : i + 6 ≤ L) (hx : qG_tape x (xs (i + 1)) (xs (i + 2)) (xs (i + 3)) = some (r, x1)) (hm : qM_tape m2 (xs (i + 1)) (xs (i + 2)) (xs (i + 3)) = some (r, m1)) (hk : zL p l e s m below meth c b E Q 1430 la [] x1 m1) : zL p l e s m below meth c b E Q 1217 la [] x m2 := by
  refine zl_al C hl 1 1218 rfl dw_1217 rfl ?_
  refine zl_arg C hl 1 1223 rfl dw_1218 dw_1219 dw_1220 dw_1221 dw_1222 (by decide) (by omega) ?_
  refine zl_arg C hl 2 1228 rfl dw_1223 dw_1224 dw_1225 dw_1226 dw_1227 (by decide) (by omega) ?_
  refine zl_arg C hl 3 1233 rfl dw_1228 dw_1229 dw_1230 dw_1231 dw_1232 (by decide) (by omega) ?_
  refine zl_callC [.int (xs (i + 1)), .int (xs (i + 2)), .int (xs (i + 3))] C hl 1236 rfl dw_1233 (tG_tape (zDC C.2.2.2.2.2.2.2.2.2.1) x (xs (i + 1)) (xs (i + 2)) (xs (i + 3))) hx rfl rfl zw723 zw720 zw721 zw722 zw1 oG_tape (by decide) (Nat.le_of_ble_eq_true rfl) ?_
  refine zl_al C hl 2 1237 rfl dw_1236 rfl ?_
  refine zl_arg C hl 1 1242 rfl dw_1237 dw_1238 dw_1239 dw_1240 dw_1241 (by decide) (by omega) ?_
  refine zl_arg C hl 2 1247 rfl dw_1242 dw_1243 dw_1244 dw_1245 dw_1246 (by decide) (by omega) ?_
  refine zl_arg C hl 3 1252 rfl dw_1247 dw_1248 dw_1249 dw_1250 dw_1251 (by decide) (by omega) ?_
  refine zl_callM [.int (xs (i + 1)), .int (xs (i + 2)), .int (xs (i + 3))] C hl 1255 rfl dw_1252 (tM_tape (zDM C.2.2.2.2.2.2.2.2.2.1) m2 (xs (i + 1)) (xs (i + 2)) (xs (i + 3))) hm rfl rfl zw1278 zw1275 zw1276 zw1277 zw9 oM_tape (by decide) (Nat.le_of_ble_eq_true rfl) ?_
  exact zl_eqI C 1430 dw_1255 (by decide) hk
set_option maxHeartbeats 4000000 in
set_option maxRecDepth 100000 in
theorem law_34 {p : Program} {l : Launch} {e : Env} {s : State} {m : MethodId} {below : List Frame} {meth : Method} {c : Code} {b L i : Nat} {xs : Nat → Int32} {E : zE} {Q : State → Prop} {la : Array Slot} {x m2 x1 m1 : zM} {r : Int32} (C : zLx p s m meth c b L xs E) (hl : lv_has la 4 (zls E b i)) (hi : i + 6 ≤ L) (hx : qG_item x (xs (i + 1)) (xs (i + 2)) (zlong (xs (i + 3)) (xs (i + 4))) = some (r, x1)) (hm : qM_item m2 (xs (i + 1)) (xs (i + 2)) (zlong (xs (i + 3)) (xs (i + 4))) = some (r, m1)) (hk : zL p l e s m below meth c b E Q 1430 la [] x1 m1) : zL p l e s m below meth c b E Q 1260 la [] x m2 := by
  refine zl_al C hl 1 1261 rfl dw_1260 rfl ?_
  refine zl_arg C hl 1 1266 rfl dw_1261 dw_1262 dw_1263 dw_1264 dw_1265 (by decide) (by omega) ?_
  refine zl_arg C hl 2 1271 rfl dw_1266 dw_1267 dw_1268 dw_1269 dw_1270 (by decide) (by omega) ?_
  refine zl_arg C hl 3 1276 rfl dw_1271 dw_1272 dw_1273 dw_1274 dw_1275 (by decide) (by omega) ?_
  refine fun H locs hP hM hS => lv_i2l C.1 C.2.1 dw_1276 rfl ?_
  refine lv_bipush C.1 C.2.1 dw_1277 (v := 32) (by decide) ?_
  refine lv_lshl C.1 C.2.1 dw_1279 rfl ?_
  refine zl_arg (st := .long ((xs (i + 3)).toInt64 <<< ((32 : Int32).toInt64 &&& 63)) :: _) C hl 4 1285 rfl dw_1280 dw_1281 dw_1282 dw_1283 dw_1284 (by decide) (by omega) ?_ H locs hP hM hS
  refine fun H locs hP hM hS => lv_i2l C.1 C.2.1 dw_1285 rfl ?_
  refine lv_ldc2 C.1 C.2.1 C.2.2.2.1 (C.2.2.2.2.1 _ zw1295) dw_1286 ?_
  refine lv_land C.1 C.2.1 dw_1289 ?_
  refine lv_lor C.1 C.2.1 dw_1290 ?_
  refine zl_callC [.int (xs (i + 1)), .int (xs (i + 2)), .long (zlong (xs (i + 3)) (xs (i + 4)))] C hl 1294 rfl dw_1291 (tG_item (zDC C.2.2.2.2.2.2.2.2.2.1) x (xs (i + 1)) (xs (i + 2)) (zlong (xs (i + 3)) (xs (i + 4)))) hx rfl rfl zw731 zw728 zw729 zw730 zw1 oG_item (by decide) (Nat.le_of_ble_eq_true rfl) ?_ H locs hP hM hS
  refine zl_al C hl 2 1295 rfl dw_1294 rfl ?_
  refine zl_arg C hl 1 1300 rfl dw_1295 dw_1296 dw_1297 dw_1298 dw_1299 (by decide) (by omega) ?_
  refine zl_arg C hl 2 1305 rfl dw_1300 dw_1301 dw_1302 dw_1303 dw_1304 (by decide) (by omega) ?_
  refine zl_arg C hl 3 1310 rfl dw_1305 dw_1306 dw_1307 dw_1308 dw_1309 (by decide) (by omega) ?_
  refine fun H locs hP hM hS => lv_i2l C.1 C.2.1 dw_1310 rfl ?_
  refine lv_bipush C.1 C.2.1 dw_1311 (v := 32) (by decide) ?_
  refine lv_lshl C.1 C.2.1 dw_1313 rfl ?_
  refine zl_arg (st := .long ((xs (i + 3)).toInt64 <<< ((32 : Int32).toInt64 &&& 63)) :: _) C hl 4 1319 rfl dw_1314 dw_1315 dw_1316 dw_1317 dw_1318 (by decide) (by omega) ?_ H locs hP hM hS
  refine fun H locs hP hM hS => lv_i2l C.1 C.2.1 dw_1319 rfl ?_
  refine lv_ldc2 C.1 C.2.1 C.2.2.2.1 (C.2.2.2.2.1 _ zw1295) dw_1320 ?_
  refine lv_land C.1 C.2.1 dw_1323 ?_
  refine lv_lor C.1 C.2.1 dw_1324 ?_
  refine zl_callM [.int (xs (i + 1)), .int (xs (i + 2)), .long (zlong (xs (i + 3)) (xs (i + 4)))] C hl 1328 rfl dw_1325 (tM_item (zDM C.2.2.2.2.2.2.2.2.2.1) m2 (xs (i + 1)) (xs (i + 2)) (zlong (xs (i + 3)) (xs (i + 4)))) hm rfl rfl zw1282 zw1279 zw1280 zw1281 zw9 oM_item (by decide) (Nat.le_of_ble_eq_true rfl) ?_ H locs hP hM hS
  exact zl_eqI C 1430 dw_1328 (by decide) hk
set_option maxHeartbeats 4000000 in
set_option maxRecDepth 100000 in
theorem law_35 {p : Program} {l : Launch} {e : Env} {s : State} {m : MethodId} {below : List Frame} {meth : Method} {c : Code} {b L i : Nat} {xs : Nat → Int32} {E : zE} {Q : State → Prop} {la : Array Slot} {x m2 x1 m1 : zM} {r : Int64} (C : zLx p s m meth c b L xs E) (hl : lv_has la 4 (zls E b i)) (hi : i + 6 ≤ L) (hx : qG_read x (xs (i + 1)) (xs (i + 2)) = some (r, x1)) (hm : qM_read m2 (xs (i + 1)) (xs (i + 2)) = some (r, m1)) (hk : zL p l e s m below meth c b E Q 1430 la [] x1 m1) : zL p l e s m below meth c b E Q 1333 la [] x m2 := by
  refine zl_al C hl 1 1334 rfl dw_1333 rfl ?_
  refine zl_arg C hl 1 1339 rfl dw_1334 dw_1335 dw_1336 dw_1337 dw_1338 (by decide) (by omega) ?_
  refine zl_arg C hl 2 1344 rfl dw_1339 dw_1340 dw_1341 dw_1342 dw_1343 (by decide) (by omega) ?_
  refine zl_callC [.int (xs (i + 1)), .int (xs (i + 2))] C hl 1347 rfl dw_1344 (tG_read (zDC C.2.2.2.2.2.2.2.2.2.1) x (xs (i + 1)) (xs (i + 2))) hx rfl rfl zw746 zw743 zw744 zw745 zw1 oG_read (by decide) (Nat.le_of_ble_eq_true rfl) ?_
  refine zl_al C hl 2 1348 rfl dw_1347 rfl ?_
  refine zl_arg C hl 1 1353 rfl dw_1348 dw_1349 dw_1350 dw_1351 dw_1352 (by decide) (by omega) ?_
  refine zl_arg C hl 2 1358 rfl dw_1353 dw_1354 dw_1355 dw_1356 dw_1357 (by decide) (by omega) ?_
  refine zl_callM [.int (xs (i + 1)), .int (xs (i + 2))] C hl 1361 rfl dw_1358 (tM_read (zDM C.2.2.2.2.2.2.2.2.2.1) m2 (xs (i + 1)) (xs (i + 2))) hm rfl rfl zw1290 zw1287 zw1288 zw1289 zw9 oM_read (by decide) (Nat.le_of_ble_eq_true rfl) ?_
  exact zl_eqL C 1430 dw_1361 dw_1362 (by decide) hk
set_option maxHeartbeats 4000000 in
set_option maxRecDepth 100000 in
theorem law_36 {p : Program} {l : Launch} {e : Env} {s : State} {m : MethodId} {below : List Frame} {meth : Method} {c : Code} {b L i : Nat} {xs : Nat → Int32} {E : zE} {Q : State → Prop} {la : Array Slot} {x m2 x1 m1 : zM} {r : Int32} (C : zLx p s m meth c b L xs E) (hl : lv_has la 4 (zls E b i)) (hi : i + 6 ≤ L) (hx : qG_shift x (xs (i + 1)) (xs (i + 2)) (xs (i + 3)) (xs (i + 4)) (xs (i + 5)) = some (r, x1)) (hm : qM_shift m2 (xs (i + 1)) (xs (i + 2)) (xs (i + 3)) (xs (i + 4)) (xs (i + 5)) = some (r, m1)) (hk : zL p l e s m below meth c b E Q 1430 la [] x1 m1) : zL p l e s m below meth c b E Q 1367 la [] x m2 := by
  refine zl_al C hl 1 1368 rfl dw_1367 rfl ?_
  refine zl_arg C hl 1 1373 rfl dw_1368 dw_1369 dw_1370 dw_1371 dw_1372 (by decide) (by omega) ?_
  refine zl_arg C hl 2 1378 rfl dw_1373 dw_1374 dw_1375 dw_1376 dw_1377 (by decide) (by omega) ?_
  refine zl_arg C hl 3 1383 rfl dw_1378 dw_1379 dw_1380 dw_1381 dw_1382 (by decide) (by omega) ?_
  refine zl_arg C hl 4 1388 rfl dw_1383 dw_1384 dw_1385 dw_1386 dw_1387 (by decide) (by omega) ?_
  refine zl_arg C hl 5 1393 rfl dw_1388 dw_1389 dw_1390 dw_1391 dw_1392 (by decide) (by omega) ?_
  refine zl_callC [.int (xs (i + 1)), .int (xs (i + 2)), .int (xs (i + 3)), .int (xs (i + 4)), .int (xs (i + 5))] C hl 1396 rfl dw_1393 (tG_shift (zDC C.2.2.2.2.2.2.2.2.2.1) x (xs (i + 1)) (xs (i + 2)) (xs (i + 3)) (xs (i + 4)) (xs (i + 5))) hx rfl rfl zw750 zw747 zw748 zw749 zw1 oG_shift (by decide) (Nat.le_of_ble_eq_true rfl) ?_
  refine zl_al C hl 2 1397 rfl dw_1396 rfl ?_
  refine zl_arg C hl 1 1402 rfl dw_1397 dw_1398 dw_1399 dw_1400 dw_1401 (by decide) (by omega) ?_
  refine zl_arg C hl 2 1407 rfl dw_1402 dw_1403 dw_1404 dw_1405 dw_1406 (by decide) (by omega) ?_
  refine zl_arg C hl 3 1412 rfl dw_1407 dw_1408 dw_1409 dw_1410 dw_1411 (by decide) (by omega) ?_
  refine zl_arg C hl 4 1417 rfl dw_1412 dw_1413 dw_1414 dw_1415 dw_1416 (by decide) (by omega) ?_
  refine zl_arg C hl 5 1422 rfl dw_1417 dw_1418 dw_1419 dw_1420 dw_1421 (by decide) (by omega) ?_
  refine zl_callM [.int (xs (i + 1)), .int (xs (i + 2)), .int (xs (i + 3)), .int (xs (i + 4)), .int (xs (i + 5))] C hl 1425 rfl dw_1422 (tM_shift (zDM C.2.2.2.2.2.2.2.2.2.1) m2 (xs (i + 1)) (xs (i + 2)) (xs (i + 3)) (xs (i + 4)) (xs (i + 5))) hm rfl rfl zw1294 zw1291 zw1292 zw1293 zw9 oM_shift (by decide) (Nat.le_of_ble_eq_true rfl) ?_
  exact zl_eqI C 1430 dw_1425 (by decide) hk
