/-! THE CLAIM OUT OF ONE WALK OF THE LAW'S BODY. Your part is whole_start (and what it stands on); all else here is the same for every law, but numbers. -/
def R_law : String := "RightDeskLaw"
def lw_P (b : Addr) (xs : List Int32) (args : Array Value) (s : State) : Prop := args = #[.ref b] ∧ s.IntsAt b xs ∧ xs.length ≤ 3584 ∧ (Jvm.Cond.and given_1 narrow_1).before args s = true
def lw_Q (_ : Array Value) (s : State) (o : Outcome) (t : State) : Prop := o = .returned (some (.int 1)) ∧ Framed s o t [] 600000 7302250
def lw_Z (below : List Frame) (a : Array Value) (s : State) : State → Prop := fun t => ∃ o, t.status = .running ∧ Ended t below o ∧ lw_Q a s o t
/-- the law's own end, with 1 on the stack, nothing written that was there before, its room as the claim has it -/
theorem lw_ret {p : Program} {l : Launch} {e : Env} {s : State} {m : MethodId} {below : List Frame} {meth : Method} {c : Code} {b : Nat} (hx : p.tables.exec = Jvm.exec) (hb : c.code = code) (hr : meth.sig.returnType = ret) (hlocks : meth.locks = false) {pc : Nat} {H : Heap} {ls : Array Slot} (hdg : decode code pc = .ok (.ireturn, 1)) : W p l e room_1 s m #[Value.ref b] below meth c H [] 600000 7302250 (lw_Z below #[Value.ref b] s) (F0 m pc ls [.int 1]) := by
  intro T hT X
  obtain ⟨fs, hret, hrun, hended, hW, hframe⟩ := X.leave (v := some (.int 1)) (hlocks := hlocks) (fun h => by rw [hr] at h; cases h)
  have hmeth' : T.vm.method? m = some meth := X.method'
  refine ⟨T.setFrames fs, ?_, .returned (some (.int 1)), hrun, hended, rfl, ⟨_, rfl⟩, hW, hframe⟩
  jvm_step X.here [X.here.top, hx, hb, hdg, hmeth', hr, ret, narrow_b1]
  (try refine ⟨rfl, ?_⟩); (try refine ⟨rfl, ?_⟩)
  first | (intro acts; rw [hret _ acts rfl rfl rfl]) | rw [hret _ _ rfl rfl rfl]
  exact Steps.refl _
/-- what holds at the law's entry: the machine, the code, the tables' words (any of lw_tbl by 'hts w (by decide +kernel)'), the script of L ints xs at the cell b, what the Statement gives of the start (any of its parts by flat_of_before) -/
def lw_At (p : Program) (s : State) (m : MethodId) (meth : Method) (c : Code) (b L : Nat) (xs : Nat → Int32) : Prop :=
  p.tables.exec = Jvm.exec ∧ c.code = code ∧ meth.sig.returnType = ret ∧ c.maxLocals = 4 ∧ s.vm.findClass R_law = some m.cls ∧ (∀ w ∈ lw_tbl, w.before #[Value.ref b] s = true) ∧ va_X b L xs s s.heap ∧ b < s.heap.size ∧ meth.locks = false ∧ (Jvm.Cond.and given_1 narrow_1).before #[Value.ref b] s = true
theorem kw_246 : (.code y_De_member b_De_member 4 (some .int) : Cond) ∈ AW := aw_t 63 (by decide +kernel) (by decide +kernel)
theorem kw_247 : (.methodLink R_La 13 y_De_member : Cond) ∈ AW := aw_t 60 (by decide +kernel) (by decide +kernel)
theorem kw_248 : (.instanceMethod y_De_member : Cond) ∈ AW := aw_t 61 (by decide +kernel) (by decide +kernel)
theorem kw_249 : (.selects R_De y_De_member y_De_member : Cond) ∈ AW := aw_t 62 (by decide +kernel) (by decide +kernel)
theorem kw_250 : (.code y_Mo_member b_Mo_member 5 (some .int) : Cond) ∈ AW := aw_t 368 (by decide +kernel) (by decide +kernel)
theorem kw_251 : (.methodLink R_La 17 y_Mo_member : Cond) ∈ AW := aw_t 365 (by decide +kernel) (by decide +kernel)
theorem kw_252 : (.instanceMethod y_Mo_member : Cond) ∈ AW := aw_t 366 (by decide +kernel) (by decide +kernel)
theorem kw_253 : (.selects R_Mo y_Mo_member y_Mo_member : Cond) ∈ AW := aw_t 367 (by decide +kernel) (by decide +kernel)
theorem kw_254 : (.code y_De_condition b_De_condition 5 (some .int) : Cond) ∈ AW := aw_t 122 (by decide +kernel) (by decide +kernel)
theorem kw_255 : (.methodLink R_La 18 y_De_condition : Cond) ∈ AW := aw_t 119 (by decide +kernel) (by decide +kernel)
theorem kw_256 : (.instanceMethod y_De_condition : Cond) ∈ AW := aw_t 120 (by decide +kernel) (by decide +kernel)
theorem kw_257 : (.selects R_De y_De_condition y_De_condition : Cond) ∈ AW := aw_t 121 (by decide +kernel) (by decide +kernel)
theorem kw_258 : (.code y_Mo_condition b_Mo_condition 5 (some .int) : Cond) ∈ AW := aw_t 399 (by decide +kernel) (by decide +kernel)
theorem kw_259 : (.methodLink R_La 22 y_Mo_condition : Cond) ∈ AW := aw_t 396 (by decide +kernel) (by decide +kernel)
theorem kw_260 : (.instanceMethod y_Mo_condition : Cond) ∈ AW := aw_t 397 (by decide +kernel) (by decide +kernel)
theorem kw_261 : (.selects R_Mo y_Mo_condition y_Mo_condition : Cond) ∈ AW := aw_t 398 (by decide +kernel) (by decide +kernel)
theorem kw_262 : (.code y_De_rule b_De_rule 5 (some .int) : Cond) ∈ AW := aw_t 159 (by decide +kernel) (by decide +kernel)
theorem kw_263 : (.methodLink R_La 23 y_De_rule : Cond) ∈ AW := aw_t 156 (by decide +kernel) (by decide +kernel)
theorem kw_264 : (.instanceMethod y_De_rule : Cond) ∈ AW := aw_t 157 (by decide +kernel) (by decide +kernel)
theorem kw_265 : (.selects R_De y_De_rule y_De_rule : Cond) ∈ AW := aw_t 158 (by decide +kernel) (by decide +kernel)
theorem kw_266 : (.code y_Mo_rule b_Mo_rule 4 (some .int) : Cond) ∈ AW := aw_t 411 (by decide +kernel) (by decide +kernel)
theorem kw_267 : (.methodLink R_La 27 y_Mo_rule : Cond) ∈ AW := aw_t 408 (by decide +kernel) (by decide +kernel)
theorem kw_268 : (.instanceMethod y_Mo_rule : Cond) ∈ AW := aw_t 409 (by decide +kernel) (by decide +kernel)
theorem kw_269 : (.selects R_Mo y_Mo_rule y_Mo_rule : Cond) ∈ AW := aw_t 410 (by decide +kernel) (by decide +kernel)
theorem kw_270 : (.code y_De_drop b_De_drop 3 (some .int) : Cond) ∈ AW := aw_t 203 (by decide +kernel) (by decide +kernel)
theorem kw_271 : (.methodLink R_La 28 y_De_drop : Cond) ∈ AW := aw_t 200 (by decide +kernel) (by decide +kernel)
theorem kw_272 : (.instanceMethod y_De_drop : Cond) ∈ AW := aw_t 201 (by decide +kernel) (by decide +kernel)
theorem kw_273 : (.selects R_De y_De_drop y_De_drop : Cond) ∈ AW := aw_t 202 (by decide +kernel) (by decide +kernel)
theorem kw_274 : (.code y_Mo_drop b_Mo_drop 3 (some .int) : Cond) ∈ AW := aw_t 415 (by decide +kernel) (by decide +kernel)
theorem kw_275 : (.methodLink R_La 32 y_Mo_drop : Cond) ∈ AW := aw_t 412 (by decide +kernel) (by decide +kernel)
theorem kw_276 : (.instanceMethod y_Mo_drop : Cond) ∈ AW := aw_t 413 (by decide +kernel) (by decide +kernel)
theorem kw_277 : (.selects R_Mo y_Mo_drop y_Mo_drop : Cond) ∈ AW := aw_t 414 (by decide +kernel) (by decide +kernel)
theorem kw_278 : (.code y_De_may b_De_may 9 (some .int) : Cond) ∈ AW := aw_t 215 (by decide +kernel) (by decide +kernel)
theorem kw_279 : (.methodLink R_La 33 y_De_may : Cond) ∈ AW := aw_t 212 (by decide +kernel) (by decide +kernel)
theorem kw_280 : (.instanceMethod y_De_may : Cond) ∈ AW := aw_t 213 (by decide +kernel) (by decide +kernel)
theorem kw_281 : (.selects R_De y_De_may y_De_may : Cond) ∈ AW := aw_t 214 (by decide +kernel) (by decide +kernel)
theorem kw_282 : (.code y_Mo_may b_Mo_may 9 (some .int) : Cond) ∈ AW := aw_t 423 (by decide +kernel) (by decide +kernel)
theorem kw_283 : (.methodLink R_La 37 y_Mo_may : Cond) ∈ AW := aw_t 420 (by decide +kernel) (by decide +kernel)
theorem kw_284 : (.instanceMethod y_Mo_may : Cond) ∈ AW := aw_t 421 (by decide +kernel) (by decide +kernel)
theorem kw_285 : (.selects R_Mo y_Mo_may y_Mo_may : Cond) ∈ AW := aw_t 422 (by decide +kernel) (by decide +kernel)
theorem kw_286 : (.code y_De_asks b_De_asks 5 (some .int) : Cond) ∈ AW := aw_t 228 (by decide +kernel) (by decide +kernel)
theorem kw_287 : (.methodLink R_La 38 y_De_asks : Cond) ∈ AW := aw_t 225 (by decide +kernel) (by decide +kernel)
theorem kw_288 : (.instanceMethod y_De_asks : Cond) ∈ AW := aw_t 226 (by decide +kernel) (by decide +kernel)
theorem kw_289 : (.selects R_De y_De_asks y_De_asks : Cond) ∈ AW := aw_t 227 (by decide +kernel) (by decide +kernel)
theorem kw_290 : (.code y_Mo_asks b_Mo_asks 4 (some .int) : Cond) ∈ AW := aw_t 443 (by decide +kernel) (by decide +kernel)
theorem kw_291 : (.methodLink R_La 41 y_Mo_asks : Cond) ∈ AW := aw_t 440 (by decide +kernel) (by decide +kernel)
theorem kw_292 : (.instanceMethod y_Mo_asks : Cond) ∈ AW := aw_t 441 (by decide +kernel) (by decide +kernel)
theorem kw_293 : (.selects R_Mo y_Mo_asks y_Mo_asks : Cond) ∈ AW := aw_t 442 (by decide +kernel) (by decide +kernel)
theorem kw_294 : (.code y_De_ask b_De_ask 7 (some .int) : Cond) ∈ AW := aw_t 239 (by decide +kernel) (by decide +kernel)
theorem kw_295 : (.methodLink R_La 42 y_De_ask : Cond) ∈ AW := aw_t 236 (by decide +kernel) (by decide +kernel)
theorem kw_296 : (.instanceMethod y_De_ask : Cond) ∈ AW := aw_t 237 (by decide +kernel) (by decide +kernel)
theorem kw_297 : (.selects R_De y_De_ask y_De_ask : Cond) ∈ AW := aw_t 238 (by decide +kernel) (by decide +kernel)
theorem kw_298 : (.code y_Mo_ask b_Mo_ask 5 (some .int) : Cond) ∈ AW := aw_t 447 (by decide +kernel) (by decide +kernel)
theorem kw_299 : (.methodLink R_La 46 y_Mo_ask : Cond) ∈ AW := aw_t 444 (by decide +kernel) (by decide +kernel)
theorem kw_300 : (.instanceMethod y_Mo_ask : Cond) ∈ AW := aw_t 445 (by decide +kernel) (by decide +kernel)
theorem kw_301 : (.selects R_Mo y_Mo_ask y_Mo_ask : Cond) ∈ AW := aw_t 446 (by decide +kernel) (by decide +kernel)
theorem kw_302 : (.code y_De_within b_De_within 6 (some .int) : Cond) ∈ AW := aw_t 246 (by decide +kernel) (by decide +kernel)
theorem kw_303 : (.methodLink R_La 47 y_De_within : Cond) ∈ AW := aw_t 243 (by decide +kernel) (by decide +kernel)
theorem kw_304 : (.instanceMethod y_De_within : Cond) ∈ AW := aw_t 244 (by decide +kernel) (by decide +kernel)
theorem kw_305 : (.selects R_De y_De_within y_De_within : Cond) ∈ AW := aw_t 245 (by decide +kernel) (by decide +kernel)
theorem kw_306 : (.code y_Mo_within b_Mo_within 4 (some .int) : Cond) ∈ AW := aw_t 451 (by decide +kernel) (by decide +kernel)
theorem kw_307 : (.methodLink R_La 50 y_Mo_within : Cond) ∈ AW := aw_t 448 (by decide +kernel) (by decide +kernel)
theorem kw_308 : (.instanceMethod y_Mo_within : Cond) ∈ AW := aw_t 449 (by decide +kernel) (by decide +kernel)
theorem kw_309 : (.selects R_Mo y_Mo_within y_Mo_within : Cond) ∈ AW := aw_t 450 (by decide +kernel) (by decide +kernel)
theorem kw_310 : (.code y_De_decides b_De_decides 5 (some .int) : Cond) ∈ AW := aw_t 251 (by decide +kernel) (by decide +kernel)
theorem kw_311 : (.methodLink R_La 51 y_De_decides : Cond) ∈ AW := aw_t 248 (by decide +kernel) (by decide +kernel)
theorem kw_312 : (.instanceMethod y_De_decides : Cond) ∈ AW := aw_t 249 (by decide +kernel) (by decide +kernel)
theorem kw_313 : (.selects R_De y_De_decides y_De_decides : Cond) ∈ AW := aw_t 250 (by decide +kernel) (by decide +kernel)
theorem kw_314 : (.code y_Mo_decides b_Mo_decides 4 (some .int) : Cond) ∈ AW := aw_t 455 (by decide +kernel) (by decide +kernel)
theorem kw_315 : (.methodLink R_La 54 y_Mo_decides : Cond) ∈ AW := aw_t 452 (by decide +kernel) (by decide +kernel)
theorem kw_316 : (.instanceMethod y_Mo_decides : Cond) ∈ AW := aw_t 453 (by decide +kernel) (by decide +kernel)
theorem kw_317 : (.selects R_Mo y_Mo_decides y_Mo_decides : Cond) ∈ AW := aw_t 454 (by decide +kernel) (by decide +kernel)
theorem kw_318 : (.code y_De_sees b_De_sees 7 (some .int) : Cond) ∈ AW := aw_t 264 (by decide +kernel) (by decide +kernel)
theorem kw_319 : (.methodLink R_La 55 y_De_sees : Cond) ∈ AW := aw_t 261 (by decide +kernel) (by decide +kernel)
theorem kw_320 : (.instanceMethod y_De_sees : Cond) ∈ AW := aw_t 262 (by decide +kernel) (by decide +kernel)
theorem kw_321 : (.selects R_De y_De_sees y_De_sees : Cond) ∈ AW := aw_t 263 (by decide +kernel) (by decide +kernel)
theorem kw_322 : (.code y_Mo_sees b_Mo_sees 5 (some .int) : Cond) ∈ AW := aw_t 459 (by decide +kernel) (by decide +kernel)
theorem kw_323 : (.methodLink R_La 58 y_Mo_sees : Cond) ∈ AW := aw_t 456 (by decide +kernel) (by decide +kernel)
theorem kw_324 : (.instanceMethod y_Mo_sees : Cond) ∈ AW := aw_t 457 (by decide +kernel) (by decide +kernel)
theorem kw_325 : (.selects R_Mo y_Mo_sees y_Mo_sees : Cond) ∈ AW := aw_t 458 (by decide +kernel) (by decide +kernel)
theorem kw_326 : (.code y_De_matters b_De_matters 5 (some .int) : Cond) ∈ AW := aw_t 277 (by decide +kernel) (by decide +kernel)
theorem kw_327 : (.methodLink R_La 59 y_De_matters : Cond) ∈ AW := aw_t 274 (by decide +kernel) (by decide +kernel)
theorem kw_328 : (.instanceMethod y_De_matters : Cond) ∈ AW := aw_t 275 (by decide +kernel) (by decide +kernel)
theorem kw_329 : (.selects R_De y_De_matters y_De_matters : Cond) ∈ AW := aw_t 276 (by decide +kernel) (by decide +kernel)
theorem kw_330 : (.code y_Mo_matters b_Mo_matters 4 (some .int) : Cond) ∈ AW := aw_t 463 (by decide +kernel) (by decide +kernel)
theorem kw_331 : (.methodLink R_La 62 y_Mo_matters : Cond) ∈ AW := aw_t 460 (by decide +kernel) (by decide +kernel)
theorem kw_332 : (.instanceMethod y_Mo_matters : Cond) ∈ AW := aw_t 461 (by decide +kernel) (by decide +kernel)
theorem kw_333 : (.selects R_Mo y_Mo_matters y_Mo_matters : Cond) ∈ AW := aw_t 462 (by decide +kernel) (by decide +kernel)
theorem kw_334 : (.code y_De_idle b_De_idle 6 (some .int) : Cond) ∈ AW := aw_t 287 (by decide +kernel) (by decide +kernel)
theorem kw_335 : (.methodLink R_La 63 y_De_idle : Cond) ∈ AW := aw_t 284 (by decide +kernel) (by decide +kernel)
theorem kw_336 : (.instanceMethod y_De_idle : Cond) ∈ AW := aw_t 285 (by decide +kernel) (by decide +kernel)
theorem kw_337 : (.selects R_De y_De_idle y_De_idle : Cond) ∈ AW := aw_t 286 (by decide +kernel) (by decide +kernel)
theorem kw_338 : (.code y_Mo_idle b_Mo_idle 6 (some .int) : Cond) ∈ AW := aw_t 467 (by decide +kernel) (by decide +kernel)
theorem kw_339 : (.methodLink R_La 67 y_Mo_idle : Cond) ∈ AW := aw_t 464 (by decide +kernel) (by decide +kernel)
theorem kw_340 : (.instanceMethod y_Mo_idle : Cond) ∈ AW := aw_t 465 (by decide +kernel) (by decide +kernel)
theorem kw_341 : (.selects R_Mo y_Mo_idle y_Mo_idle : Cond) ∈ AW := aw_t 466 (by decide +kernel) (by decide +kernel)
theorem kw_342 : (.code y_De_apart b_De_apart 7 (some .int) : Cond) ∈ AW := aw_t 302 (by decide +kernel) (by decide +kernel)
theorem kw_343 : (.methodLink R_La 68 y_De_apart : Cond) ∈ AW := aw_t 299 (by decide +kernel) (by decide +kernel)
theorem kw_344 : (.instanceMethod y_De_apart : Cond) ∈ AW := aw_t 300 (by decide +kernel) (by decide +kernel)
theorem kw_345 : (.selects R_De y_De_apart y_De_apart : Cond) ∈ AW := aw_t 301 (by decide +kernel) (by decide +kernel)
theorem kw_346 : (.code y_Mo_apart b_Mo_apart 4 (some .int) : Cond) ∈ AW := aw_t 475 (by decide +kernel) (by decide +kernel)
theorem kw_347 : (.methodLink R_La 71 y_Mo_apart : Cond) ∈ AW := aw_t 472 (by decide +kernel) (by decide +kernel)
theorem kw_348 : (.instanceMethod y_Mo_apart : Cond) ∈ AW := aw_t 473 (by decide +kernel) (by decide +kernel)
theorem kw_349 : (.selects R_Mo y_Mo_apart y_Mo_apart : Cond) ∈ AW := aw_t 474 (by decide +kernel) (by decide +kernel)
theorem kw_350 : (.code y_De_allowed b_De_allowed 3 (some .int) : Cond) ∈ AW := aw_t 306 (by decide +kernel) (by decide +kernel)
theorem kw_351 : (.methodLink R_La 72 y_De_allowed : Cond) ∈ AW := aw_t 303 (by decide +kernel) (by decide +kernel)
theorem kw_352 : (.instanceMethod y_De_allowed : Cond) ∈ AW := aw_t 304 (by decide +kernel) (by decide +kernel)
theorem kw_353 : (.selects R_De y_De_allowed y_De_allowed : Cond) ∈ AW := aw_t 305 (by decide +kernel) (by decide +kernel)
theorem kw_354 : (.code y_Mo_allowed b_Mo_allowed 3 (some .int) : Cond) ∈ AW := aw_t 479 (by decide +kernel) (by decide +kernel)
theorem kw_355 : (.methodLink R_La 76 y_Mo_allowed : Cond) ∈ AW := aw_t 476 (by decide +kernel) (by decide +kernel)
theorem kw_356 : (.instanceMethod y_Mo_allowed : Cond) ∈ AW := aw_t 477 (by decide +kernel) (by decide +kernel)
theorem kw_357 : (.selects R_Mo y_Mo_allowed y_Mo_allowed : Cond) ∈ AW := aw_t 478 (by decide +kernel) (by decide +kernel)
theorem kw_358 : (.code y_De_conditions b_De_conditions 1 (some .int) : Cond) ∈ AW := aw_t 310 (by decide +kernel) (by decide +kernel)
theorem kw_359 : (.methodLink R_La 77 y_De_conditions : Cond) ∈ AW := aw_t 307 (by decide +kernel) (by decide +kernel)
theorem kw_360 : (.instanceMethod y_De_conditions : Cond) ∈ AW := aw_t 308 (by decide +kernel) (by decide +kernel)
theorem kw_361 : (.selects R_De y_De_conditions y_De_conditions : Cond) ∈ AW := aw_t 309 (by decide +kernel) (by decide +kernel)
theorem kw_362 : (.code y_Mo_conditions b_Mo_conditions 1 (some .int) : Cond) ∈ AW := aw_t 483 (by decide +kernel) (by decide +kernel)
theorem kw_363 : (.methodLink R_La 80 y_Mo_conditions : Cond) ∈ AW := aw_t 480 (by decide +kernel) (by decide +kernel)
theorem kw_364 : (.instanceMethod y_Mo_conditions : Cond) ∈ AW := aw_t 481 (by decide +kernel) (by decide +kernel)
theorem kw_365 : (.selects R_Mo y_Mo_conditions y_Mo_conditions : Cond) ∈ AW := aw_t 482 (by decide +kernel) (by decide +kernel)
theorem kw_366 : (.code y_De_rules b_De_rules 1 (some .int) : Cond) ∈ AW := aw_t 314 (by decide +kernel) (by decide +kernel)
theorem kw_367 : (.methodLink R_La 81 y_De_rules : Cond) ∈ AW := aw_t 311 (by decide +kernel) (by decide +kernel)
theorem kw_368 : (.instanceMethod y_De_rules : Cond) ∈ AW := aw_t 312 (by decide +kernel) (by decide +kernel)
theorem kw_369 : (.selects R_De y_De_rules y_De_rules : Cond) ∈ AW := aw_t 313 (by decide +kernel) (by decide +kernel)
theorem kw_370 : (.code y_Mo_rules b_Mo_rules 1 (some .int) : Cond) ∈ AW := aw_t 487 (by decide +kernel) (by decide +kernel)
theorem kw_371 : (.methodLink R_La 84 y_Mo_rules : Cond) ∈ AW := aw_t 484 (by decide +kernel) (by decide +kernel)
theorem kw_372 : (.instanceMethod y_Mo_rules : Cond) ∈ AW := aw_t 485 (by decide +kernel) (by decide +kernel)
theorem kw_373 : (.selects R_Mo y_Mo_rules y_Mo_rules : Cond) ∈ AW := aw_t 486 (by decide +kernel) (by decide +kernel)
theorem d_law_0 : decode code 0 = .ok (.new 7, 3) := by decide +kernel
theorem d_law_3 : decode code 3 = .ok (.dup, 1) := by decide +kernel
theorem d_law_4 : decode code 4 = .ok (.invokespecial 9, 3) := by decide +kernel
theorem d_law_7 : decode code 7 = .ok (.astore_n 1, 1) := by decide +kernel
theorem d_law_8 : decode code 8 = .ok (.new 10, 3) := by decide +kernel
theorem d_law_11 : decode code 11 = .ok (.dup, 1) := by decide +kernel
theorem d_law_12 : decode code 12 = .ok (.invokespecial 12, 3) := by decide +kernel
theorem d_law_15 : decode code 15 = .ok (.astore_n 2, 1) := by decide +kernel
theorem d_law_16 : decode code 16 = .ok (.iconst 0, 1) := by decide +kernel
theorem d_law_17 : decode code 17 = .ok (.istore_n 3, 1) := by decide +kernel
theorem d_law_18 : decode code 18 = .ok (.iload_n 3, 1) := by decide +kernel
theorem d_law_19 : decode code 19 = .ok (.aload_n 0, 1) := by decide +kernel
theorem d_law_20 : decode code 20 = .ok (.arraylength, 1) := by decide +kernel
theorem d_law_21 : decode code 21 = .ok (.bipush 7, 2) := by decide +kernel
theorem d_law_23 : decode code 23 = .ok (.isub, 1) := by decide +kernel
theorem d_law_24 : decode code 24 = .ok (.if_icmp .gt 652, 3) := by decide +kernel
theorem d_law_27 : decode code 27 = .ok (.aload_n 0, 1) := by decide +kernel
theorem d_law_28 : decode code 28 = .ok (.iload_n 3, 1) := by decide +kernel
theorem d_law_29 : decode code 29 = .ok (.iaload, 1) := by decide +kernel
theorem d_law_30 : decode code 30 = .ok (.bipush 15, 2) := by decide +kernel
theorem d_law_32 : decode code 32 = .ok (.iand, 1) := by decide +kernel
theorem d_law_33 : decode code 33 = .ok (.tableswitch 637 0 15 #[79, 138, 191, 250, 273, 348, 371, 404, 437, 460, 493, 516, 565, 598, 611, 624], 79) := by decide +kernel
theorem d_law_112 : decode code 112 = .ok (.aload_n 1, 1) := by decide +kernel
theorem d_law_113 : decode code 113 = .ok (.aload_n 0, 1) := by decide +kernel
theorem d_law_114 : decode code 114 = .ok (.iload_n 3, 1) := by decide +kernel
theorem d_law_115 : decode code 115 = .ok (.iconst 1, 1) := by decide +kernel
theorem d_law_116 : decode code 116 = .ok (.iadd, 1) := by decide +kernel
theorem d_law_117 : decode code 117 = .ok (.iaload, 1) := by decide +kernel
theorem d_law_118 : decode code 118 = .ok (.aload_n 0, 1) := by decide +kernel
theorem d_law_119 : decode code 119 = .ok (.iload_n 3, 1) := by decide +kernel
theorem d_law_120 : decode code 120 = .ok (.iconst 2, 1) := by decide +kernel
theorem d_law_121 : decode code 121 = .ok (.iadd, 1) := by decide +kernel
theorem d_law_122 : decode code 122 = .ok (.iaload, 1) := by decide +kernel
theorem d_law_123 : decode code 123 = .ok (.aload_n 0, 1) := by decide +kernel
theorem d_law_124 : decode code 124 = .ok (.iload_n 3, 1) := by decide +kernel
theorem d_law_125 : decode code 125 = .ok (.iconst 3, 1) := by decide +kernel
theorem d_law_126 : decode code 126 = .ok (.iadd, 1) := by decide +kernel
theorem d_law_127 : decode code 127 = .ok (.iaload, 1) := by decide +kernel
theorem d_law_128 : decode code 128 = .ok (.ifCond .eq 7, 3) := by decide +kernel
theorem d_law_131 : decode code 131 = .ok (.iconst 1, 1) := by decide +kernel
theorem d_law_132 : decode code 132 = .ok (.goto 4, 3) := by decide +kernel
theorem d_law_135 : decode code 135 = .ok (.iconst 0, 1) := by decide +kernel
theorem d_law_136 : decode code 136 = .ok (.invokevirtual 13, 3) := by decide +kernel
theorem d_law_139 : decode code 139 = .ok (.aload_n 2, 1) := by decide +kernel
theorem d_law_140 : decode code 140 = .ok (.aload_n 0, 1) := by decide +kernel
theorem d_law_141 : decode code 141 = .ok (.iload_n 3, 1) := by decide +kernel
theorem d_law_142 : decode code 142 = .ok (.iconst 1, 1) := by decide +kernel
theorem d_law_143 : decode code 143 = .ok (.iadd, 1) := by decide +kernel
theorem d_law_144 : decode code 144 = .ok (.iaload, 1) := by decide +kernel
theorem d_law_145 : decode code 145 = .ok (.aload_n 0, 1) := by decide +kernel
theorem d_law_146 : decode code 146 = .ok (.iload_n 3, 1) := by decide +kernel
theorem d_law_147 : decode code 147 = .ok (.iconst 2, 1) := by decide +kernel
theorem d_law_148 : decode code 148 = .ok (.iadd, 1) := by decide +kernel
theorem d_law_149 : decode code 149 = .ok (.iaload, 1) := by decide +kernel
theorem d_law_150 : decode code 150 = .ok (.aload_n 0, 1) := by decide +kernel
theorem d_law_151 : decode code 151 = .ok (.iload_n 3, 1) := by decide +kernel
theorem d_law_152 : decode code 152 = .ok (.iconst 3, 1) := by decide +kernel
theorem d_law_153 : decode code 153 = .ok (.iadd, 1) := by decide +kernel
theorem d_law_154 : decode code 154 = .ok (.iaload, 1) := by decide +kernel
theorem d_law_155 : decode code 155 = .ok (.ifCond .eq 7, 3) := by decide +kernel
theorem d_law_158 : decode code 158 = .ok (.iconst 1, 1) := by decide +kernel
theorem d_law_159 : decode code 159 = .ok (.goto 4, 3) := by decide +kernel
theorem d_law_162 : decode code 162 = .ok (.iconst 0, 1) := by decide +kernel
theorem d_law_163 : decode code 163 = .ok (.invokevirtual 17, 3) := by decide +kernel
theorem d_law_166 : decode code 166 = .ok (.if_icmp .eq 504, 3) := by decide +kernel
theorem d_law_169 : decode code 169 = .ok (.iconst 0, 1) := by decide +kernel
theorem d_law_170 : decode code 170 = .ok (.ireturn, 1) := by decide +kernel
theorem d_law_171 : decode code 171 = .ok (.aload_n 1, 1) := by decide +kernel
theorem d_law_172 : decode code 172 = .ok (.aload_n 0, 1) := by decide +kernel
theorem d_law_173 : decode code 173 = .ok (.iload_n 3, 1) := by decide +kernel
theorem d_law_174 : decode code 174 = .ok (.iconst 1, 1) := by decide +kernel
theorem d_law_175 : decode code 175 = .ok (.iadd, 1) := by decide +kernel
theorem d_law_176 : decode code 176 = .ok (.iaload, 1) := by decide +kernel
theorem d_law_177 : decode code 177 = .ok (.aload_n 0, 1) := by decide +kernel
theorem d_law_178 : decode code 178 = .ok (.iload_n 3, 1) := by decide +kernel
theorem d_law_179 : decode code 179 = .ok (.iconst 2, 1) := by decide +kernel
theorem d_law_180 : decode code 180 = .ok (.iadd, 1) := by decide +kernel
theorem d_law_181 : decode code 181 = .ok (.iaload, 1) := by decide +kernel
theorem d_law_182 : decode code 182 = .ok (.aload_n 0, 1) := by decide +kernel
theorem d_law_183 : decode code 183 = .ok (.iload_n 3, 1) := by decide +kernel
theorem d_law_184 : decode code 184 = .ok (.iconst 3, 1) := by decide +kernel
theorem d_law_185 : decode code 185 = .ok (.iadd, 1) := by decide +kernel
theorem d_law_186 : decode code 186 = .ok (.iaload, 1) := by decide +kernel
theorem d_law_187 : decode code 187 = .ok (.aload_n 0, 1) := by decide +kernel
theorem d_law_188 : decode code 188 = .ok (.iload_n 3, 1) := by decide +kernel
theorem d_law_189 : decode code 189 = .ok (.iconst 4, 1) := by decide +kernel
theorem d_law_190 : decode code 190 = .ok (.iadd, 1) := by decide +kernel
theorem d_law_191 : decode code 191 = .ok (.iaload, 1) := by decide +kernel
theorem d_law_192 : decode code 192 = .ok (.invokevirtual 18, 3) := by decide +kernel
theorem d_law_195 : decode code 195 = .ok (.aload_n 2, 1) := by decide +kernel
theorem d_law_196 : decode code 196 = .ok (.aload_n 0, 1) := by decide +kernel
theorem d_law_197 : decode code 197 = .ok (.iload_n 3, 1) := by decide +kernel
theorem d_law_198 : decode code 198 = .ok (.iconst 1, 1) := by decide +kernel
theorem d_law_199 : decode code 199 = .ok (.iadd, 1) := by decide +kernel
theorem d_law_200 : decode code 200 = .ok (.iaload, 1) := by decide +kernel
theorem d_law_201 : decode code 201 = .ok (.aload_n 0, 1) := by decide +kernel
theorem d_law_202 : decode code 202 = .ok (.iload_n 3, 1) := by decide +kernel
theorem d_law_203 : decode code 203 = .ok (.iconst 2, 1) := by decide +kernel
theorem d_law_204 : decode code 204 = .ok (.iadd, 1) := by decide +kernel
theorem d_law_205 : decode code 205 = .ok (.iaload, 1) := by decide +kernel
theorem d_law_206 : decode code 206 = .ok (.aload_n 0, 1) := by decide +kernel
theorem d_law_207 : decode code 207 = .ok (.iload_n 3, 1) := by decide +kernel
theorem d_law_208 : decode code 208 = .ok (.iconst 3, 1) := by decide +kernel
theorem d_law_209 : decode code 209 = .ok (.iadd, 1) := by decide +kernel
theorem d_law_210 : decode code 210 = .ok (.iaload, 1) := by decide +kernel
theorem d_law_211 : decode code 211 = .ok (.aload_n 0, 1) := by decide +kernel
theorem d_law_212 : decode code 212 = .ok (.iload_n 3, 1) := by decide +kernel
theorem d_law_213 : decode code 213 = .ok (.iconst 4, 1) := by decide +kernel
theorem d_law_214 : decode code 214 = .ok (.iadd, 1) := by decide +kernel
theorem d_law_215 : decode code 215 = .ok (.iaload, 1) := by decide +kernel
theorem d_law_216 : decode code 216 = .ok (.invokevirtual 22, 3) := by decide +kernel
theorem d_law_219 : decode code 219 = .ok (.if_icmp .eq 451, 3) := by decide +kernel
theorem d_law_222 : decode code 222 = .ok (.iconst 0, 1) := by decide +kernel
theorem d_law_223 : decode code 223 = .ok (.ireturn, 1) := by decide +kernel
theorem d_law_224 : decode code 224 = .ok (.aload_n 1, 1) := by decide +kernel
theorem d_law_225 : decode code 225 = .ok (.aload_n 0, 1) := by decide +kernel
theorem d_law_226 : decode code 226 = .ok (.iload_n 3, 1) := by decide +kernel
theorem d_law_227 : decode code 227 = .ok (.iconst 1, 1) := by decide +kernel
theorem d_law_228 : decode code 228 = .ok (.iadd, 1) := by decide +kernel
theorem d_law_229 : decode code 229 = .ok (.iaload, 1) := by decide +kernel
theorem d_law_230 : decode code 230 = .ok (.aload_n 0, 1) := by decide +kernel
theorem d_law_231 : decode code 231 = .ok (.iload_n 3, 1) := by decide +kernel
theorem d_law_232 : decode code 232 = .ok (.iconst 2, 1) := by decide +kernel
theorem d_law_233 : decode code 233 = .ok (.iadd, 1) := by decide +kernel
theorem d_law_234 : decode code 234 = .ok (.iaload, 1) := by decide +kernel
theorem d_law_235 : decode code 235 = .ok (.ifCond .eq 7, 3) := by decide +kernel
theorem d_law_238 : decode code 238 = .ok (.iconst 1, 1) := by decide +kernel
theorem d_law_239 : decode code 239 = .ok (.goto 4, 3) := by decide +kernel
theorem d_law_242 : decode code 242 = .ok (.iconst 0, 1) := by decide +kernel
theorem d_law_243 : decode code 243 = .ok (.aload_n 0, 1) := by decide +kernel
theorem d_law_244 : decode code 244 = .ok (.iload_n 3, 1) := by decide +kernel
theorem d_law_245 : decode code 245 = .ok (.iconst 3, 1) := by decide +kernel
theorem d_law_246 : decode code 246 = .ok (.iadd, 1) := by decide +kernel
theorem d_law_247 : decode code 247 = .ok (.iaload, 1) := by decide +kernel
theorem d_law_248 : decode code 248 = .ok (.invokevirtual 23, 3) := by decide +kernel
theorem d_law_251 : decode code 251 = .ok (.aload_n 2, 1) := by decide +kernel
theorem d_law_252 : decode code 252 = .ok (.aload_n 0, 1) := by decide +kernel
theorem d_law_253 : decode code 253 = .ok (.iload_n 3, 1) := by decide +kernel
theorem d_law_254 : decode code 254 = .ok (.iconst 1, 1) := by decide +kernel
theorem d_law_255 : decode code 255 = .ok (.iadd, 1) := by decide +kernel
theorem d_law_256 : decode code 256 = .ok (.iaload, 1) := by decide +kernel
theorem d_law_257 : decode code 257 = .ok (.aload_n 0, 1) := by decide +kernel
theorem d_law_258 : decode code 258 = .ok (.iload_n 3, 1) := by decide +kernel
theorem d_law_259 : decode code 259 = .ok (.iconst 2, 1) := by decide +kernel
theorem d_law_260 : decode code 260 = .ok (.iadd, 1) := by decide +kernel
theorem d_law_261 : decode code 261 = .ok (.iaload, 1) := by decide +kernel
theorem d_law_262 : decode code 262 = .ok (.ifCond .eq 7, 3) := by decide +kernel
theorem d_law_265 : decode code 265 = .ok (.iconst 1, 1) := by decide +kernel
theorem d_law_266 : decode code 266 = .ok (.goto 4, 3) := by decide +kernel
theorem d_law_269 : decode code 269 = .ok (.iconst 0, 1) := by decide +kernel
theorem d_law_270 : decode code 270 = .ok (.aload_n 0, 1) := by decide +kernel
theorem d_law_271 : decode code 271 = .ok (.iload_n 3, 1) := by decide +kernel
theorem d_law_272 : decode code 272 = .ok (.iconst 3, 1) := by decide +kernel
theorem d_law_273 : decode code 273 = .ok (.iadd, 1) := by decide +kernel
theorem d_law_274 : decode code 274 = .ok (.iaload, 1) := by decide +kernel
theorem d_law_275 : decode code 275 = .ok (.invokevirtual 27, 3) := by decide +kernel
theorem d_law_278 : decode code 278 = .ok (.if_icmp .eq 392, 3) := by decide +kernel
theorem d_law_281 : decode code 281 = .ok (.iconst 0, 1) := by decide +kernel
theorem d_law_282 : decode code 282 = .ok (.ireturn, 1) := by decide +kernel
theorem d_law_283 : decode code 283 = .ok (.aload_n 1, 1) := by decide +kernel
theorem d_law_284 : decode code 284 = .ok (.aload_n 0, 1) := by decide +kernel
theorem d_law_285 : decode code 285 = .ok (.iload_n 3, 1) := by decide +kernel
theorem d_law_286 : decode code 286 = .ok (.iconst 1, 1) := by decide +kernel
theorem d_law_287 : decode code 287 = .ok (.iadd, 1) := by decide +kernel
theorem d_law_288 : decode code 288 = .ok (.iaload, 1) := by decide +kernel
theorem d_law_289 : decode code 289 = .ok (.invokevirtual 28, 3) := by decide +kernel
theorem d_law_292 : decode code 292 = .ok (.aload_n 2, 1) := by decide +kernel
theorem d_law_293 : decode code 293 = .ok (.aload_n 0, 1) := by decide +kernel
theorem d_law_294 : decode code 294 = .ok (.iload_n 3, 1) := by decide +kernel
theorem d_law_295 : decode code 295 = .ok (.iconst 1, 1) := by decide +kernel
theorem d_law_296 : decode code 296 = .ok (.iadd, 1) := by decide +kernel
theorem d_law_297 : decode code 297 = .ok (.iaload, 1) := by decide +kernel
theorem d_law_298 : decode code 298 = .ok (.invokevirtual 32, 3) := by decide +kernel
theorem d_law_301 : decode code 301 = .ok (.if_icmp .eq 369, 3) := by decide +kernel
theorem d_law_304 : decode code 304 = .ok (.iconst 0, 1) := by decide +kernel
theorem d_law_305 : decode code 305 = .ok (.ireturn, 1) := by decide +kernel
theorem d_law_306 : decode code 306 = .ok (.aload_n 1, 1) := by decide +kernel
theorem d_law_307 : decode code 307 = .ok (.aload_n 0, 1) := by decide +kernel
theorem d_law_308 : decode code 308 = .ok (.iload_n 3, 1) := by decide +kernel
theorem d_law_309 : decode code 309 = .ok (.iconst 1, 1) := by decide +kernel
theorem d_law_310 : decode code 310 = .ok (.iadd, 1) := by decide +kernel
theorem d_law_311 : decode code 311 = .ok (.iaload, 1) := by decide +kernel
theorem d_law_312 : decode code 312 = .ok (.aload_n 0, 1) := by decide +kernel
theorem d_law_313 : decode code 313 = .ok (.iload_n 3, 1) := by decide +kernel
theorem d_law_314 : decode code 314 = .ok (.iconst 2, 1) := by decide +kernel
theorem d_law_315 : decode code 315 = .ok (.iadd, 1) := by decide +kernel
theorem d_law_316 : decode code 316 = .ok (.iaload, 1) := by decide +kernel
theorem d_law_317 : decode code 317 = .ok (.aload_n 0, 1) := by decide +kernel
theorem d_law_318 : decode code 318 = .ok (.iload_n 3, 1) := by decide +kernel
theorem d_law_319 : decode code 319 = .ok (.iconst 3, 1) := by decide +kernel
theorem d_law_320 : decode code 320 = .ok (.iadd, 1) := by decide +kernel
theorem d_law_321 : decode code 321 = .ok (.iaload, 1) := by decide +kernel
theorem d_law_322 : decode code 322 = .ok (.aload_n 0, 1) := by decide +kernel
theorem d_law_323 : decode code 323 = .ok (.iload_n 3, 1) := by decide +kernel
theorem d_law_324 : decode code 324 = .ok (.iconst 4, 1) := by decide +kernel
theorem d_law_325 : decode code 325 = .ok (.iadd, 1) := by decide +kernel
theorem d_law_326 : decode code 326 = .ok (.iaload, 1) := by decide +kernel
theorem d_law_327 : decode code 327 = .ok (.aload_n 0, 1) := by decide +kernel
theorem d_law_328 : decode code 328 = .ok (.iload_n 3, 1) := by decide +kernel
theorem d_law_329 : decode code 329 = .ok (.iconst 5, 1) := by decide +kernel
theorem d_law_330 : decode code 330 = .ok (.iadd, 1) := by decide +kernel
theorem d_law_331 : decode code 331 = .ok (.iaload, 1) := by decide +kernel
theorem d_law_332 : decode code 332 = .ok (.aload_n 0, 1) := by decide +kernel
theorem d_law_333 : decode code 333 = .ok (.iload_n 3, 1) := by decide +kernel
theorem d_law_334 : decode code 334 = .ok (.bipush 6, 2) := by decide +kernel
theorem d_law_336 : decode code 336 = .ok (.iadd, 1) := by decide +kernel
theorem d_law_337 : decode code 337 = .ok (.iaload, 1) := by decide +kernel
theorem d_law_338 : decode code 338 = .ok (.invokevirtual 33, 3) := by decide +kernel
theorem d_law_341 : decode code 341 = .ok (.aload_n 2, 1) := by decide +kernel
theorem d_law_342 : decode code 342 = .ok (.aload_n 0, 1) := by decide +kernel
theorem d_law_343 : decode code 343 = .ok (.iload_n 3, 1) := by decide +kernel
theorem d_law_344 : decode code 344 = .ok (.iconst 1, 1) := by decide +kernel
theorem d_law_345 : decode code 345 = .ok (.iadd, 1) := by decide +kernel
theorem d_law_346 : decode code 346 = .ok (.iaload, 1) := by decide +kernel
theorem d_law_347 : decode code 347 = .ok (.aload_n 0, 1) := by decide +kernel
theorem d_law_348 : decode code 348 = .ok (.iload_n 3, 1) := by decide +kernel
theorem d_law_349 : decode code 349 = .ok (.iconst 2, 1) := by decide +kernel
theorem d_law_350 : decode code 350 = .ok (.iadd, 1) := by decide +kernel
theorem d_law_351 : decode code 351 = .ok (.iaload, 1) := by decide +kernel
theorem d_law_352 : decode code 352 = .ok (.aload_n 0, 1) := by decide +kernel
theorem d_law_353 : decode code 353 = .ok (.iload_n 3, 1) := by decide +kernel
theorem d_law_354 : decode code 354 = .ok (.iconst 3, 1) := by decide +kernel
theorem d_law_355 : decode code 355 = .ok (.iadd, 1) := by decide +kernel
theorem d_law_356 : decode code 356 = .ok (.iaload, 1) := by decide +kernel
theorem d_law_357 : decode code 357 = .ok (.aload_n 0, 1) := by decide +kernel
theorem d_law_358 : decode code 358 = .ok (.iload_n 3, 1) := by decide +kernel
theorem d_law_359 : decode code 359 = .ok (.iconst 4, 1) := by decide +kernel
theorem d_law_360 : decode code 360 = .ok (.iadd, 1) := by decide +kernel
theorem d_law_361 : decode code 361 = .ok (.iaload, 1) := by decide +kernel
theorem d_law_362 : decode code 362 = .ok (.aload_n 0, 1) := by decide +kernel
theorem d_law_363 : decode code 363 = .ok (.iload_n 3, 1) := by decide +kernel
theorem d_law_364 : decode code 364 = .ok (.iconst 5, 1) := by decide +kernel
theorem d_law_365 : decode code 365 = .ok (.iadd, 1) := by decide +kernel
theorem d_law_366 : decode code 366 = .ok (.iaload, 1) := by decide +kernel
theorem d_law_367 : decode code 367 = .ok (.aload_n 0, 1) := by decide +kernel
theorem d_law_368 : decode code 368 = .ok (.iload_n 3, 1) := by decide +kernel
theorem d_law_369 : decode code 369 = .ok (.bipush 6, 2) := by decide +kernel
theorem d_law_371 : decode code 371 = .ok (.iadd, 1) := by decide +kernel
theorem d_law_372 : decode code 372 = .ok (.iaload, 1) := by decide +kernel
theorem d_law_373 : decode code 373 = .ok (.invokevirtual 37, 3) := by decide +kernel
theorem d_law_376 : decode code 376 = .ok (.if_icmp .eq 294, 3) := by decide +kernel
theorem d_law_379 : decode code 379 = .ok (.iconst 0, 1) := by decide +kernel
theorem d_law_380 : decode code 380 = .ok (.ireturn, 1) := by decide +kernel
theorem d_law_381 : decode code 381 = .ok (.aload_n 1, 1) := by decide +kernel
theorem d_law_382 : decode code 382 = .ok (.aload_n 0, 1) := by decide +kernel
theorem d_law_383 : decode code 383 = .ok (.iload_n 3, 1) := by decide +kernel
theorem d_law_384 : decode code 384 = .ok (.iconst 1, 1) := by decide +kernel
theorem d_law_385 : decode code 385 = .ok (.iadd, 1) := by decide +kernel
theorem d_law_386 : decode code 386 = .ok (.iaload, 1) := by decide +kernel
theorem d_law_387 : decode code 387 = .ok (.invokevirtual 38, 3) := by decide +kernel
theorem d_law_390 : decode code 390 = .ok (.aload_n 2, 1) := by decide +kernel
theorem d_law_391 : decode code 391 = .ok (.aload_n 0, 1) := by decide +kernel
theorem d_law_392 : decode code 392 = .ok (.iload_n 3, 1) := by decide +kernel
theorem d_law_393 : decode code 393 = .ok (.iconst 1, 1) := by decide +kernel
theorem d_law_394 : decode code 394 = .ok (.iadd, 1) := by decide +kernel
theorem d_law_395 : decode code 395 = .ok (.iaload, 1) := by decide +kernel
theorem d_law_396 : decode code 396 = .ok (.invokevirtual 41, 3) := by decide +kernel
theorem d_law_399 : decode code 399 = .ok (.if_icmp .eq 271, 3) := by decide +kernel
theorem d_law_402 : decode code 402 = .ok (.iconst 0, 1) := by decide +kernel
theorem d_law_403 : decode code 403 = .ok (.ireturn, 1) := by decide +kernel
theorem d_law_404 : decode code 404 = .ok (.aload_n 1, 1) := by decide +kernel
theorem d_law_405 : decode code 405 = .ok (.aload_n 0, 1) := by decide +kernel
theorem d_law_406 : decode code 406 = .ok (.iload_n 3, 1) := by decide +kernel
theorem d_law_407 : decode code 407 = .ok (.iconst 1, 1) := by decide +kernel
theorem d_law_408 : decode code 408 = .ok (.iadd, 1) := by decide +kernel
theorem d_law_409 : decode code 409 = .ok (.iaload, 1) := by decide +kernel
theorem d_law_410 : decode code 410 = .ok (.aload_n 0, 1) := by decide +kernel
theorem d_law_411 : decode code 411 = .ok (.iload_n 3, 1) := by decide +kernel
theorem d_law_412 : decode code 412 = .ok (.iconst 2, 1) := by decide +kernel
theorem d_law_413 : decode code 413 = .ok (.iadd, 1) := by decide +kernel
theorem d_law_414 : decode code 414 = .ok (.iaload, 1) := by decide +kernel
theorem d_law_415 : decode code 415 = .ok (.invokevirtual 42, 3) := by decide +kernel
theorem d_law_418 : decode code 418 = .ok (.aload_n 2, 1) := by decide +kernel
theorem d_law_419 : decode code 419 = .ok (.aload_n 0, 1) := by decide +kernel
theorem d_law_420 : decode code 420 = .ok (.iload_n 3, 1) := by decide +kernel
theorem d_law_421 : decode code 421 = .ok (.iconst 1, 1) := by decide +kernel
theorem d_law_422 : decode code 422 = .ok (.iadd, 1) := by decide +kernel
theorem d_law_423 : decode code 423 = .ok (.iaload, 1) := by decide +kernel
theorem d_law_424 : decode code 424 = .ok (.aload_n 0, 1) := by decide +kernel
theorem d_law_425 : decode code 425 = .ok (.iload_n 3, 1) := by decide +kernel
theorem d_law_426 : decode code 426 = .ok (.iconst 2, 1) := by decide +kernel
theorem d_law_427 : decode code 427 = .ok (.iadd, 1) := by decide +kernel
theorem d_law_428 : decode code 428 = .ok (.iaload, 1) := by decide +kernel
theorem d_law_429 : decode code 429 = .ok (.invokevirtual 46, 3) := by decide +kernel
theorem d_law_432 : decode code 432 = .ok (.if_icmp .eq 238, 3) := by decide +kernel
theorem d_law_435 : decode code 435 = .ok (.iconst 0, 1) := by decide +kernel
theorem d_law_436 : decode code 436 = .ok (.ireturn, 1) := by decide +kernel
theorem d_law_437 : decode code 437 = .ok (.aload_n 1, 1) := by decide +kernel
theorem d_law_438 : decode code 438 = .ok (.aload_n 0, 1) := by decide +kernel
theorem d_law_439 : decode code 439 = .ok (.iload_n 3, 1) := by decide +kernel
theorem d_law_440 : decode code 440 = .ok (.iconst 1, 1) := by decide +kernel
theorem d_law_441 : decode code 441 = .ok (.iadd, 1) := by decide +kernel
theorem d_law_442 : decode code 442 = .ok (.iaload, 1) := by decide +kernel
theorem d_law_443 : decode code 443 = .ok (.aload_n 0, 1) := by decide +kernel
theorem d_law_444 : decode code 444 = .ok (.iload_n 3, 1) := by decide +kernel
theorem d_law_445 : decode code 445 = .ok (.iconst 2, 1) := by decide +kernel
theorem d_law_446 : decode code 446 = .ok (.iadd, 1) := by decide +kernel
theorem d_law_447 : decode code 447 = .ok (.iaload, 1) := by decide +kernel
theorem d_law_448 : decode code 448 = .ok (.invokevirtual 47, 3) := by decide +kernel
theorem d_law_451 : decode code 451 = .ok (.aload_n 2, 1) := by decide +kernel
theorem d_law_452 : decode code 452 = .ok (.aload_n 0, 1) := by decide +kernel
theorem d_law_453 : decode code 453 = .ok (.iload_n 3, 1) := by decide +kernel
theorem d_law_454 : decode code 454 = .ok (.iconst 1, 1) := by decide +kernel
theorem d_law_455 : decode code 455 = .ok (.iadd, 1) := by decide +kernel
theorem d_law_456 : decode code 456 = .ok (.iaload, 1) := by decide +kernel
theorem d_law_457 : decode code 457 = .ok (.aload_n 0, 1) := by decide +kernel
theorem d_law_458 : decode code 458 = .ok (.iload_n 3, 1) := by decide +kernel
theorem d_law_459 : decode code 459 = .ok (.iconst 2, 1) := by decide +kernel
theorem d_law_460 : decode code 460 = .ok (.iadd, 1) := by decide +kernel
theorem d_law_461 : decode code 461 = .ok (.iaload, 1) := by decide +kernel
theorem d_law_462 : decode code 462 = .ok (.invokevirtual 50, 3) := by decide +kernel
theorem d_law_465 : decode code 465 = .ok (.if_icmp .eq 205, 3) := by decide +kernel
theorem d_law_468 : decode code 468 = .ok (.iconst 0, 1) := by decide +kernel
theorem d_law_469 : decode code 469 = .ok (.ireturn, 1) := by decide +kernel
theorem d_law_470 : decode code 470 = .ok (.aload_n 1, 1) := by decide +kernel
theorem d_law_471 : decode code 471 = .ok (.aload_n 0, 1) := by decide +kernel
theorem d_law_472 : decode code 472 = .ok (.iload_n 3, 1) := by decide +kernel
theorem d_law_473 : decode code 473 = .ok (.iconst 1, 1) := by decide +kernel
theorem d_law_474 : decode code 474 = .ok (.iadd, 1) := by decide +kernel
theorem d_law_475 : decode code 475 = .ok (.iaload, 1) := by decide +kernel
theorem d_law_476 : decode code 476 = .ok (.invokevirtual 51, 3) := by decide +kernel
theorem d_law_479 : decode code 479 = .ok (.aload_n 2, 1) := by decide +kernel
theorem d_law_480 : decode code 480 = .ok (.aload_n 0, 1) := by decide +kernel
theorem d_law_481 : decode code 481 = .ok (.iload_n 3, 1) := by decide +kernel
theorem d_law_482 : decode code 482 = .ok (.iconst 1, 1) := by decide +kernel
theorem d_law_483 : decode code 483 = .ok (.iadd, 1) := by decide +kernel
theorem d_law_484 : decode code 484 = .ok (.iaload, 1) := by decide +kernel
theorem d_law_485 : decode code 485 = .ok (.invokevirtual 54, 3) := by decide +kernel
theorem d_law_488 : decode code 488 = .ok (.if_icmp .eq 182, 3) := by decide +kernel
theorem d_law_491 : decode code 491 = .ok (.iconst 0, 1) := by decide +kernel
theorem d_law_492 : decode code 492 = .ok (.ireturn, 1) := by decide +kernel
theorem d_law_493 : decode code 493 = .ok (.aload_n 1, 1) := by decide +kernel
theorem d_law_494 : decode code 494 = .ok (.aload_n 0, 1) := by decide +kernel
theorem d_law_495 : decode code 495 = .ok (.iload_n 3, 1) := by decide +kernel
theorem d_law_496 : decode code 496 = .ok (.iconst 1, 1) := by decide +kernel
theorem d_law_497 : decode code 497 = .ok (.iadd, 1) := by decide +kernel
theorem d_law_498 : decode code 498 = .ok (.iaload, 1) := by decide +kernel
theorem d_law_499 : decode code 499 = .ok (.aload_n 0, 1) := by decide +kernel
theorem d_law_500 : decode code 500 = .ok (.iload_n 3, 1) := by decide +kernel
theorem d_law_501 : decode code 501 = .ok (.iconst 2, 1) := by decide +kernel
theorem d_law_502 : decode code 502 = .ok (.iadd, 1) := by decide +kernel
theorem d_law_503 : decode code 503 = .ok (.iaload, 1) := by decide +kernel
theorem d_law_504 : decode code 504 = .ok (.invokevirtual 55, 3) := by decide +kernel
theorem d_law_507 : decode code 507 = .ok (.aload_n 2, 1) := by decide +kernel
theorem d_law_508 : decode code 508 = .ok (.aload_n 0, 1) := by decide +kernel
theorem d_law_509 : decode code 509 = .ok (.iload_n 3, 1) := by decide +kernel
theorem d_law_510 : decode code 510 = .ok (.iconst 1, 1) := by decide +kernel
theorem d_law_511 : decode code 511 = .ok (.iadd, 1) := by decide +kernel
theorem d_law_512 : decode code 512 = .ok (.iaload, 1) := by decide +kernel
theorem d_law_513 : decode code 513 = .ok (.aload_n 0, 1) := by decide +kernel
theorem d_law_514 : decode code 514 = .ok (.iload_n 3, 1) := by decide +kernel
theorem d_law_515 : decode code 515 = .ok (.iconst 2, 1) := by decide +kernel
theorem d_law_516 : decode code 516 = .ok (.iadd, 1) := by decide +kernel
theorem d_law_517 : decode code 517 = .ok (.iaload, 1) := by decide +kernel
theorem d_law_518 : decode code 518 = .ok (.invokevirtual 58, 3) := by decide +kernel
theorem d_law_521 : decode code 521 = .ok (.if_icmp .eq 149, 3) := by decide +kernel
theorem d_law_524 : decode code 524 = .ok (.iconst 0, 1) := by decide +kernel
theorem d_law_525 : decode code 525 = .ok (.ireturn, 1) := by decide +kernel
theorem d_law_526 : decode code 526 = .ok (.aload_n 1, 1) := by decide +kernel
theorem d_law_527 : decode code 527 = .ok (.aload_n 0, 1) := by decide +kernel
theorem d_law_528 : decode code 528 = .ok (.iload_n 3, 1) := by decide +kernel
theorem d_law_529 : decode code 529 = .ok (.iconst 1, 1) := by decide +kernel
theorem d_law_530 : decode code 530 = .ok (.iadd, 1) := by decide +kernel
theorem d_law_531 : decode code 531 = .ok (.iaload, 1) := by decide +kernel
theorem d_law_532 : decode code 532 = .ok (.invokevirtual 59, 3) := by decide +kernel
theorem d_law_535 : decode code 535 = .ok (.aload_n 2, 1) := by decide +kernel
theorem d_law_536 : decode code 536 = .ok (.aload_n 0, 1) := by decide +kernel
theorem d_law_537 : decode code 537 = .ok (.iload_n 3, 1) := by decide +kernel
theorem d_law_538 : decode code 538 = .ok (.iconst 1, 1) := by decide +kernel
theorem d_law_539 : decode code 539 = .ok (.iadd, 1) := by decide +kernel
theorem d_law_540 : decode code 540 = .ok (.iaload, 1) := by decide +kernel
theorem d_law_541 : decode code 541 = .ok (.invokevirtual 62, 3) := by decide +kernel
theorem d_law_544 : decode code 544 = .ok (.if_icmp .eq 126, 3) := by decide +kernel
theorem d_law_547 : decode code 547 = .ok (.iconst 0, 1) := by decide +kernel
theorem d_law_548 : decode code 548 = .ok (.ireturn, 1) := by decide +kernel
theorem d_law_549 : decode code 549 = .ok (.aload_n 1, 1) := by decide +kernel
theorem d_law_550 : decode code 550 = .ok (.aload_n 0, 1) := by decide +kernel
theorem d_law_551 : decode code 551 = .ok (.iload_n 3, 1) := by decide +kernel
theorem d_law_552 : decode code 552 = .ok (.iconst 1, 1) := by decide +kernel
theorem d_law_553 : decode code 553 = .ok (.iadd, 1) := by decide +kernel
theorem d_law_554 : decode code 554 = .ok (.iaload, 1) := by decide +kernel
theorem d_law_555 : decode code 555 = .ok (.ifCond .eq 7, 3) := by decide +kernel
theorem d_law_558 : decode code 558 = .ok (.iconst 1, 1) := by decide +kernel
theorem d_law_559 : decode code 559 = .ok (.goto 4, 3) := by decide +kernel
theorem d_law_562 : decode code 562 = .ok (.iconst 0, 1) := by decide +kernel
theorem d_law_563 : decode code 563 = .ok (.aload_n 0, 1) := by decide +kernel
theorem d_law_564 : decode code 564 = .ok (.iload_n 3, 1) := by decide +kernel
theorem d_law_565 : decode code 565 = .ok (.iconst 2, 1) := by decide +kernel
theorem d_law_566 : decode code 566 = .ok (.iadd, 1) := by decide +kernel
theorem d_law_567 : decode code 567 = .ok (.iaload, 1) := by decide +kernel
theorem d_law_568 : decode code 568 = .ok (.invokevirtual 63, 3) := by decide +kernel
theorem d_law_571 : decode code 571 = .ok (.aload_n 2, 1) := by decide +kernel
theorem d_law_572 : decode code 572 = .ok (.aload_n 0, 1) := by decide +kernel
theorem d_law_573 : decode code 573 = .ok (.iload_n 3, 1) := by decide +kernel
theorem d_law_574 : decode code 574 = .ok (.iconst 1, 1) := by decide +kernel
theorem d_law_575 : decode code 575 = .ok (.iadd, 1) := by decide +kernel
theorem d_law_576 : decode code 576 = .ok (.iaload, 1) := by decide +kernel
theorem d_law_577 : decode code 577 = .ok (.ifCond .eq 7, 3) := by decide +kernel
theorem d_law_580 : decode code 580 = .ok (.iconst 1, 1) := by decide +kernel
theorem d_law_581 : decode code 581 = .ok (.goto 4, 3) := by decide +kernel
theorem d_law_584 : decode code 584 = .ok (.iconst 0, 1) := by decide +kernel
theorem d_law_585 : decode code 585 = .ok (.aload_n 0, 1) := by decide +kernel
theorem d_law_586 : decode code 586 = .ok (.iload_n 3, 1) := by decide +kernel
theorem d_law_587 : decode code 587 = .ok (.iconst 2, 1) := by decide +kernel
theorem d_law_588 : decode code 588 = .ok (.iadd, 1) := by decide +kernel
theorem d_law_589 : decode code 589 = .ok (.iaload, 1) := by decide +kernel
theorem d_law_590 : decode code 590 = .ok (.invokevirtual 67, 3) := by decide +kernel
theorem d_law_593 : decode code 593 = .ok (.if_icmp .eq 77, 3) := by decide +kernel
theorem d_law_596 : decode code 596 = .ok (.iconst 0, 1) := by decide +kernel
theorem d_law_597 : decode code 597 = .ok (.ireturn, 1) := by decide +kernel
theorem d_law_598 : decode code 598 = .ok (.aload_n 1, 1) := by decide +kernel
theorem d_law_599 : decode code 599 = .ok (.aload_n 0, 1) := by decide +kernel
theorem d_law_600 : decode code 600 = .ok (.iload_n 3, 1) := by decide +kernel
theorem d_law_601 : decode code 601 = .ok (.iconst 1, 1) := by decide +kernel
theorem d_law_602 : decode code 602 = .ok (.iadd, 1) := by decide +kernel
theorem d_law_603 : decode code 603 = .ok (.iaload, 1) := by decide +kernel
theorem d_law_604 : decode code 604 = .ok (.aload_n 0, 1) := by decide +kernel
theorem d_law_605 : decode code 605 = .ok (.iload_n 3, 1) := by decide +kernel
theorem d_law_606 : decode code 606 = .ok (.iconst 2, 1) := by decide +kernel
theorem d_law_607 : decode code 607 = .ok (.iadd, 1) := by decide +kernel
theorem d_law_608 : decode code 608 = .ok (.iaload, 1) := by decide +kernel
theorem d_law_609 : decode code 609 = .ok (.invokevirtual 68, 3) := by decide +kernel
theorem d_law_612 : decode code 612 = .ok (.aload_n 2, 1) := by decide +kernel
theorem d_law_613 : decode code 613 = .ok (.aload_n 0, 1) := by decide +kernel
theorem d_law_614 : decode code 614 = .ok (.iload_n 3, 1) := by decide +kernel
theorem d_law_615 : decode code 615 = .ok (.iconst 1, 1) := by decide +kernel
theorem d_law_616 : decode code 616 = .ok (.iadd, 1) := by decide +kernel
theorem d_law_617 : decode code 617 = .ok (.iaload, 1) := by decide +kernel
theorem d_law_618 : decode code 618 = .ok (.aload_n 0, 1) := by decide +kernel
theorem d_law_619 : decode code 619 = .ok (.iload_n 3, 1) := by decide +kernel
theorem d_law_620 : decode code 620 = .ok (.iconst 2, 1) := by decide +kernel
theorem d_law_621 : decode code 621 = .ok (.iadd, 1) := by decide +kernel
theorem d_law_622 : decode code 622 = .ok (.iaload, 1) := by decide +kernel
theorem d_law_623 : decode code 623 = .ok (.invokevirtual 71, 3) := by decide +kernel
theorem d_law_626 : decode code 626 = .ok (.if_icmp .eq 44, 3) := by decide +kernel
theorem d_law_629 : decode code 629 = .ok (.iconst 0, 1) := by decide +kernel
theorem d_law_630 : decode code 630 = .ok (.ireturn, 1) := by decide +kernel
theorem d_law_631 : decode code 631 = .ok (.aload_n 1, 1) := by decide +kernel
theorem d_law_632 : decode code 632 = .ok (.invokevirtual 72, 3) := by decide +kernel
theorem d_law_635 : decode code 635 = .ok (.aload_n 2, 1) := by decide +kernel
theorem d_law_636 : decode code 636 = .ok (.invokevirtual 76, 3) := by decide +kernel
theorem d_law_639 : decode code 639 = .ok (.if_icmp .eq 31, 3) := by decide +kernel
theorem d_law_642 : decode code 642 = .ok (.iconst 0, 1) := by decide +kernel
theorem d_law_643 : decode code 643 = .ok (.ireturn, 1) := by decide +kernel
theorem d_law_644 : decode code 644 = .ok (.aload_n 1, 1) := by decide +kernel
theorem d_law_645 : decode code 645 = .ok (.invokevirtual 77, 3) := by decide +kernel
theorem d_law_648 : decode code 648 = .ok (.aload_n 2, 1) := by decide +kernel
theorem d_law_649 : decode code 649 = .ok (.invokevirtual 80, 3) := by decide +kernel
theorem d_law_652 : decode code 652 = .ok (.if_icmp .eq 18, 3) := by decide +kernel
theorem d_law_655 : decode code 655 = .ok (.iconst 0, 1) := by decide +kernel
theorem d_law_656 : decode code 656 = .ok (.ireturn, 1) := by decide +kernel
theorem d_law_657 : decode code 657 = .ok (.aload_n 1, 1) := by decide +kernel
theorem d_law_658 : decode code 658 = .ok (.invokevirtual 81, 3) := by decide +kernel
theorem d_law_661 : decode code 661 = .ok (.aload_n 2, 1) := by decide +kernel
theorem d_law_662 : decode code 662 = .ok (.invokevirtual 84, 3) := by decide +kernel
theorem d_law_665 : decode code 665 = .ok (.if_icmp .eq 5, 3) := by decide +kernel
theorem d_law_668 : decode code 668 = .ok (.iconst 0, 1) := by decide +kernel
theorem d_law_669 : decode code 669 = .ok (.ireturn, 1) := by decide +kernel
theorem d_law_670 : decode code 670 = .ok (.iinc 3 7, 3) := by decide +kernel
theorem d_law_673 : decode code 673 = .ok (.goto (-655), 3) := by decide +kernel
theorem d_law_676 : decode code 676 = .ok (.iconst 1, 1) := by decide +kernel
theorem d_law_677 : decode code 677 = .ok (.ireturn, 1) := by decide +kernel
