theorem k_308 : (.methodLink "RulePayroll$Nodes" 3 ⟨"java/lang/Object", "<init>", "()V"⟩ : Cond) ∈ mm_GW := mm_in (List.mem_of_getElem? (i := 61) (by decide +kernel)) rfl
theorem k_309 : (.instanceMethod ⟨"java/lang/Object", "<init>", "()V"⟩ : Cond) ∈ mm_GW := mm_in (List.mem_of_getElem? (i := 48) (by decide +kernel)) rfl
theorem k_310 : (.arrayClass .int : Cond) ∈ mm_GW := mm_in (List.mem_of_getElem? (i := 95) (by decide +kernel)) rfl
theorem k_311 : (.methodLink "RulePayroll$Table" 3 ⟨"java/lang/Object", "<init>", "()V"⟩ : Cond) ∈ mm_GW := mm_in (List.mem_of_getElem? (i := 105) (by decide +kernel)) rfl
theorem k_312 : (.methodLink "RulePayroll$Rules" 3 ⟨"java/lang/Object", "<init>", "()V"⟩ : Cond) ∈ mm_GW := mm_in (List.mem_of_getElem? (i := 55) (by decide +kernel)) rfl
theorem k_313 : (.classLink "RulePayroll$Rules" 9 "RulePayroll$Nodes" : Cond) ∈ mm_GW := mm_in (List.mem_of_getElem? (i := 56) (by decide +kernel)) rfl
theorem k_314 : (.instantiable "RulePayroll$Nodes" 8 : Cond) ∈ mm_GW := mm_in (List.mem_of_getElem? (i := 57) (by decide +kernel)) rfl
theorem k_315 : (.instanceMethod ⟨"RulePayroll$Nodes", "<init>", "()V"⟩ : Cond) ∈ mm_GW := mm_in (List.mem_of_getElem? (i := 59) (by decide +kernel)) rfl
theorem k_316 : (.classLink "RulePayroll$Rules" 22 "RulePayroll$Table" : Cond) ∈ mm_GW := mm_in (List.mem_of_getElem? (i := 96) (by decide +kernel)) rfl
theorem k_317 : (.arrayClass .long : Cond) ∈ mm_GW := mm_in (List.mem_of_getElem? (i := 117) (by decide +kernel)) rfl
theorem k_318 : (.methodLink "RulePayroll$Rules" 32 ⟨"java/util/Arrays", "fill", "([II)V"⟩ : Cond) ∈ mm_GW := mm_in (List.mem_of_getElem? (i := 98) (by decide +kernel)) rfl
theorem k_319 : (.static ⟨"java/util/Arrays", "fill", "([II)V"⟩ : Cond) ∈ mm_GW := mm_in (List.mem_of_getElem? (i := 99) (by decide +kernel)) rfl
theorem k_320 : (.initialized "java/util/Arrays" : Cond) ∈ mm_GW := mm_in (List.mem_of_getElem? (i := 35) (by decide +kernel)) rfl
theorem k_321 : (.instantiable "RulePayroll$Table" 3 : Cond) ∈ mm_GW := mm_in (List.mem_of_getElem? (i := 101) (by decide +kernel)) rfl
theorem k_322 : (.instanceMethod ⟨"RulePayroll$Table", "<init>", "()V"⟩ : Cond) ∈ mm_GW := mm_in (List.mem_of_getElem? (i := 103) (by decide +kernel)) rfl
theorem k_323 : (.methodLink "RulePayroll$Person" 3 ⟨"java/lang/Object", "<init>", "()V"⟩ : Cond) ∈ mm_GW := mm_in (List.mem_of_getElem? (i := 141) (by decide +kernel)) rfl
theorem k_324 : (.fieldLink "RulePayroll$Person" 9 "RulePayroll$Person" "inputs" "[I" : Cond) ∈ mm_GW := mm_in (List.mem_of_getElem? (i := 142) (by decide +kernel)) rfl
theorem k_325 : (.methodLink "RulePayroll$Runs" 3 ⟨"java/lang/Object", "<init>", "()V"⟩ : Cond) ∈ mm_GW := mm_in (List.mem_of_getElem? (i := 162) (by decide +kernel)) rfl
theorem k_326 : (.arrayClass .boolean : Cond) ∈ mm_GW := mm_in (List.mem_of_getElem? (i := 179) (by decide +kernel)) rfl
theorem k_327 : (.methodLink "RulePayroll" 3 ⟨"java/lang/Object", "<init>", "()V"⟩ : Cond) ∈ mm_GW := mm_in (List.mem_of_getElem? (i := 47) (by decide +kernel)) rfl
theorem k_328 : (.classLink "RulePayroll" 9 "RulePayroll$Rules" : Cond) ∈ mm_GW := mm_in (List.mem_of_getElem? (i := 50) (by decide +kernel)) rfl
theorem k_329 : (.instantiable "RulePayroll$Rules" 4 : Cond) ∈ mm_GW := mm_in (List.mem_of_getElem? (i := 51) (by decide +kernel)) rfl
theorem k_330 : (.methodLink "RulePayroll" 11 ⟨"RulePayroll$Rules", "<init>", "()V"⟩ : Cond) ∈ mm_GW := mm_in (List.mem_of_getElem? (i := 52) (by decide +kernel)) rfl
theorem k_331 : (.instanceMethod ⟨"RulePayroll$Rules", "<init>", "()V"⟩ : Cond) ∈ mm_GW := mm_in (List.mem_of_getElem? (i := 53) (by decide +kernel)) rfl
theorem k_332 : (.classLink "RulePayroll" 16 "RulePayroll$Person" : Cond) ∈ mm_GW := mm_in (List.mem_of_getElem? (i := 135) (by decide +kernel)) rfl
theorem k_333 : (.instantiable "RulePayroll$Person" 4 : Cond) ∈ mm_GW := mm_in (List.mem_of_getElem? (i := 137) (by decide +kernel)) rfl
theorem k_334 : (.instanceMethod ⟨"RulePayroll$Person", "<init>", "()V"⟩ : Cond) ∈ mm_GW := mm_in (List.mem_of_getElem? (i := 139) (by decide +kernel)) rfl
theorem k_335 : (.classLink "RulePayroll" 23 "RulePayroll$Runs" : Cond) ∈ mm_GW := mm_in (List.mem_of_getElem? (i := 157) (by decide +kernel)) rfl
theorem k_336 : (.instantiable "RulePayroll$Runs" 4 : Cond) ∈ mm_GW := mm_in (List.mem_of_getElem? (i := 158) (by decide +kernel)) rfl
theorem k_337 : (.instanceMethod ⟨"RulePayroll$Runs", "<init>", "()V"⟩ : Cond) ∈ mm_GW := mm_in (List.mem_of_getElem? (i := 160) (by decide +kernel)) rfl
theorem k_338 : (.methodLink "RulePayrollModel" 1 ⟨"java/lang/Object", "<init>", "()V"⟩ : Cond) ∈ mm_GW := mm_in (List.mem_of_getElem? (i := 484) (by decide +kernel)) rfl
theorem k_339 : (.methodLink "RulePayrollLaw" 17 ⟨"RulePayrollModel", "node", "(IIII)I"⟩ : Cond) ∈ mm_GW := mm_in (List.mem_of_getElem? (i := 549) (by decide +kernel)) rfl
theorem k_340 : (.instanceMethod ⟨"RulePayrollModel", "node", "(IIII)I"⟩ : Cond) ∈ mm_GW := mm_in (List.mem_of_getElem? (i := 550) (by decide +kernel)) rfl
theorem k_341 : (.selects "RulePayrollModel" ⟨"RulePayrollModel", "node", "(IIII)I"⟩ ⟨"RulePayrollModel", "node", "(IIII)I"⟩ : Cond) ∈ mm_GW := mm_in (List.mem_of_getElem? (i := 551) (by decide +kernel)) rfl
theorem k_342 : (.methodLink "RulePayrollLaw" 13 ⟨"RulePayroll", "node", "(IIII)I"⟩ : Cond) ∈ mm_GW := mm_in (List.mem_of_getElem? (i := 190) (by decide +kernel)) rfl
theorem k_343 : (.instanceMethod ⟨"RulePayroll", "node", "(IIII)I"⟩ : Cond) ∈ mm_GW := mm_in (List.mem_of_getElem? (i := 191) (by decide +kernel)) rfl
theorem k_344 : (.selects "RulePayroll" ⟨"RulePayroll", "node", "(IIII)I"⟩ ⟨"RulePayroll", "node", "(IIII)I"⟩ : Cond) ∈ mm_GW := mm_in (List.mem_of_getElem? (i := 192) (by decide +kernel)) rfl
theorem k_345 : (.methodLink "RulePayrollLaw" 22 ⟨"RulePayrollModel", "define", "(II)I"⟩ : Cond) ∈ mm_GW := mm_in (List.mem_of_getElem? (i := 573) (by decide +kernel)) rfl
theorem k_346 : (.instanceMethod ⟨"RulePayrollModel", "define", "(II)I"⟩ : Cond) ∈ mm_GW := mm_in (List.mem_of_getElem? (i := 574) (by decide +kernel)) rfl
theorem k_347 : (.selects "RulePayrollModel" ⟨"RulePayrollModel", "define", "(II)I"⟩ ⟨"RulePayrollModel", "define", "(II)I"⟩ : Cond) ∈ mm_GW := mm_in (List.mem_of_getElem? (i := 575) (by decide +kernel)) rfl
theorem k_348 : (.methodLink "RulePayrollLaw" 18 ⟨"RulePayroll", "define", "(II)I"⟩ : Cond) ∈ mm_GW := mm_in (List.mem_of_getElem? (i := 233) (by decide +kernel)) rfl
theorem k_349 : (.instanceMethod ⟨"RulePayroll", "define", "(II)I"⟩ : Cond) ∈ mm_GW := mm_in (List.mem_of_getElem? (i := 234) (by decide +kernel)) rfl
theorem k_350 : (.selects "RulePayroll" ⟨"RulePayroll", "define", "(II)I"⟩ ⟨"RulePayroll", "define", "(II)I"⟩ : Cond) ∈ mm_GW := mm_in (List.mem_of_getElem? (i := 235) (by decide +kernel)) rfl
theorem k_351 : (.methodLink "RulePayrollLaw" 27 ⟨"RulePayrollModel", "undefine", "(I)I"⟩ : Cond) ∈ mm_GW := mm_in (List.mem_of_getElem? (i := 577) (by decide +kernel)) rfl
theorem k_352 : (.instanceMethod ⟨"RulePayrollModel", "undefine", "(I)I"⟩ : Cond) ∈ mm_GW := mm_in (List.mem_of_getElem? (i := 578) (by decide +kernel)) rfl
theorem k_353 : (.selects "RulePayrollModel" ⟨"RulePayrollModel", "undefine", "(I)I"⟩ ⟨"RulePayrollModel", "undefine", "(I)I"⟩ : Cond) ∈ mm_GW := mm_in (List.mem_of_getElem? (i := 579) (by decide +kernel)) rfl
theorem k_354 : (.methodLink "RulePayrollLaw" 23 ⟨"RulePayroll", "undefine", "(I)I"⟩ : Cond) ∈ mm_GW := mm_in (List.mem_of_getElem? (i := 239) (by decide +kernel)) rfl
theorem k_355 : (.instanceMethod ⟨"RulePayroll", "undefine", "(I)I"⟩ : Cond) ∈ mm_GW := mm_in (List.mem_of_getElem? (i := 240) (by decide +kernel)) rfl
theorem k_356 : (.selects "RulePayroll" ⟨"RulePayroll", "undefine", "(I)I"⟩ ⟨"RulePayroll", "undefine", "(I)I"⟩ : Cond) ∈ mm_GW := mm_in (List.mem_of_getElem? (i := 241) (by decide +kernel)) rfl
theorem k_357 : (.methodLink "RulePayrollLaw" 32 ⟨"RulePayrollModel", "step", "(III)I"⟩ : Cond) ∈ mm_GW := mm_in (List.mem_of_getElem? (i := 581) (by decide +kernel)) rfl
theorem k_358 : (.instanceMethod ⟨"RulePayrollModel", "step", "(III)I"⟩ : Cond) ∈ mm_GW := mm_in (List.mem_of_getElem? (i := 582) (by decide +kernel)) rfl
theorem k_359 : (.selects "RulePayrollModel" ⟨"RulePayrollModel", "step", "(III)I"⟩ ⟨"RulePayrollModel", "step", "(III)I"⟩ : Cond) ∈ mm_GW := mm_in (List.mem_of_getElem? (i := 583) (by decide +kernel)) rfl
theorem k_360 : (.methodLink "RulePayrollLaw" 28 ⟨"RulePayroll", "step", "(III)I"⟩ : Cond) ∈ mm_GW := mm_in (List.mem_of_getElem? (i := 243) (by decide +kernel)) rfl
theorem k_361 : (.instanceMethod ⟨"RulePayroll", "step", "(III)I"⟩ : Cond) ∈ mm_GW := mm_in (List.mem_of_getElem? (i := 244) (by decide +kernel)) rfl
theorem k_362 : (.selects "RulePayroll" ⟨"RulePayroll", "step", "(III)I"⟩ ⟨"RulePayroll", "step", "(III)I"⟩ : Cond) ∈ mm_GW := mm_in (List.mem_of_getElem? (i := 245) (by decide +kernel)) rfl
theorem k_363 : (.methodLink "RulePayrollLaw" 36 ⟨"RulePayrollModel", "clear", "(I)I"⟩ : Cond) ∈ mm_GW := mm_in (List.mem_of_getElem? (i := 585) (by decide +kernel)) rfl
theorem k_364 : (.instanceMethod ⟨"RulePayrollModel", "clear", "(I)I"⟩ : Cond) ∈ mm_GW := mm_in (List.mem_of_getElem? (i := 586) (by decide +kernel)) rfl
theorem k_365 : (.selects "RulePayrollModel" ⟨"RulePayrollModel", "clear", "(I)I"⟩ ⟨"RulePayrollModel", "clear", "(I)I"⟩ : Cond) ∈ mm_GW := mm_in (List.mem_of_getElem? (i := 587) (by decide +kernel)) rfl
theorem k_366 : (.methodLink "RulePayrollLaw" 33 ⟨"RulePayroll", "clear", "(I)I"⟩ : Cond) ∈ mm_GW := mm_in (List.mem_of_getElem? (i := 251) (by decide +kernel)) rfl
theorem k_367 : (.instanceMethod ⟨"RulePayroll", "clear", "(I)I"⟩ : Cond) ∈ mm_GW := mm_in (List.mem_of_getElem? (i := 252) (by decide +kernel)) rfl
theorem k_368 : (.selects "RulePayroll" ⟨"RulePayroll", "clear", "(I)I"⟩ ⟨"RulePayroll", "clear", "(I)I"⟩ : Cond) ∈ mm_GW := mm_in (List.mem_of_getElem? (i := 253) (by decide +kernel)) rfl
theorem k_369 : (.methodLink "RulePayrollLaw" 40 ⟨"RulePayrollModel", "input", "(III)I"⟩ : Cond) ∈ mm_GW := mm_in (List.mem_of_getElem? (i := 589) (by decide +kernel)) rfl
theorem k_370 : (.instanceMethod ⟨"RulePayrollModel", "input", "(III)I"⟩ : Cond) ∈ mm_GW := mm_in (List.mem_of_getElem? (i := 590) (by decide +kernel)) rfl
theorem k_371 : (.selects "RulePayrollModel" ⟨"RulePayrollModel", "input", "(III)I"⟩ ⟨"RulePayrollModel", "input", "(III)I"⟩ : Cond) ∈ mm_GW := mm_in (List.mem_of_getElem? (i := 591) (by decide +kernel)) rfl
theorem k_372 : (.methodLink "RulePayrollLaw" 37 ⟨"RulePayroll", "input", "(III)I"⟩ : Cond) ∈ mm_GW := mm_in (List.mem_of_getElem? (i := 259) (by decide +kernel)) rfl
theorem k_373 : (.instanceMethod ⟨"RulePayroll", "input", "(III)I"⟩ : Cond) ∈ mm_GW := mm_in (List.mem_of_getElem? (i := 260) (by decide +kernel)) rfl
theorem k_374 : (.selects "RulePayroll" ⟨"RulePayroll", "input", "(III)I"⟩ ⟨"RulePayroll", "input", "(III)I"⟩ : Cond) ∈ mm_GW := mm_in (List.mem_of_getElem? (i := 261) (by decide +kernel)) rfl
theorem k_375 : (.methodLink "RulePayrollLaw" 45 ⟨"RulePayrollModel", "activate", "(IZ)I"⟩ : Cond) ∈ mm_GW := mm_in (List.mem_of_getElem? (i := 593) (by decide +kernel)) rfl
theorem k_376 : (.instanceMethod ⟨"RulePayrollModel", "activate", "(IZ)I"⟩ : Cond) ∈ mm_GW := mm_in (List.mem_of_getElem? (i := 594) (by decide +kernel)) rfl
theorem k_377 : (.selects "RulePayrollModel" ⟨"RulePayrollModel", "activate", "(IZ)I"⟩ ⟨"RulePayrollModel", "activate", "(IZ)I"⟩ : Cond) ∈ mm_GW := mm_in (List.mem_of_getElem? (i := 595) (by decide +kernel)) rfl
theorem k_378 : (.methodLink "RulePayrollLaw" 41 ⟨"RulePayroll", "activate", "(IZ)I"⟩ : Cond) ∈ mm_GW := mm_in (List.mem_of_getElem? (i := 263) (by decide +kernel)) rfl
theorem k_379 : (.instanceMethod ⟨"RulePayroll", "activate", "(IZ)I"⟩ : Cond) ∈ mm_GW := mm_in (List.mem_of_getElem? (i := 264) (by decide +kernel)) rfl
theorem k_380 : (.selects "RulePayroll" ⟨"RulePayroll", "activate", "(IZ)I"⟩ ⟨"RulePayroll", "activate", "(IZ)I"⟩ : Cond) ∈ mm_GW := mm_in (List.mem_of_getElem? (i := 265) (by decide +kernel)) rfl
theorem k_381 : (.methodLink "RulePayrollLaw" 50 ⟨"RulePayrollModel", "value", "(II)J"⟩ : Cond) ∈ mm_GW := mm_in (List.mem_of_getElem? (i := 597) (by decide +kernel)) rfl
theorem k_382 : (.instanceMethod ⟨"RulePayrollModel", "value", "(II)J"⟩ : Cond) ∈ mm_GW := mm_in (List.mem_of_getElem? (i := 598) (by decide +kernel)) rfl
theorem k_383 : (.selects "RulePayrollModel" ⟨"RulePayrollModel", "value", "(II)J"⟩ ⟨"RulePayrollModel", "value", "(II)J"⟩ : Cond) ∈ mm_GW := mm_in (List.mem_of_getElem? (i := 599) (by decide +kernel)) rfl
theorem k_384 : (.methodLink "RulePayrollLaw" 46 ⟨"RulePayroll", "value", "(II)J"⟩ : Cond) ∈ mm_GW := mm_in (List.mem_of_getElem? (i := 267) (by decide +kernel)) rfl
theorem k_385 : (.instanceMethod ⟨"RulePayroll", "value", "(II)J"⟩ : Cond) ∈ mm_GW := mm_in (List.mem_of_getElem? (i := 268) (by decide +kernel)) rfl
theorem k_386 : (.selects "RulePayroll" ⟨"RulePayroll", "value", "(II)J"⟩ ⟨"RulePayroll", "value", "(II)J"⟩ : Cond) ∈ mm_GW := mm_in (List.mem_of_getElem? (i := 269) (by decide +kernel)) rfl
theorem k_387 : (.methodLink "RulePayrollLaw" 55 ⟨"RulePayrollModel", "pay", "()I"⟩ : Cond) ∈ mm_GW := mm_in (List.mem_of_getElem? (i := 651) (by decide +kernel)) rfl
theorem k_388 : (.instanceMethod ⟨"RulePayrollModel", "pay", "()I"⟩ : Cond) ∈ mm_GW := mm_in (List.mem_of_getElem? (i := 652) (by decide +kernel)) rfl
theorem k_389 : (.selects "RulePayrollModel" ⟨"RulePayrollModel", "pay", "()I"⟩ ⟨"RulePayrollModel", "pay", "()I"⟩ : Cond) ∈ mm_GW := mm_in (List.mem_of_getElem? (i := 653) (by decide +kernel)) rfl
theorem k_390 : (.methodLink "RulePayrollLaw" 51 ⟨"RulePayroll", "pay", "()I"⟩ : Cond) ∈ mm_GW := mm_in (List.mem_of_getElem? (i := 353) (by decide +kernel)) rfl
theorem k_391 : (.instanceMethod ⟨"RulePayroll", "pay", "()I"⟩ : Cond) ∈ mm_GW := mm_in (List.mem_of_getElem? (i := 354) (by decide +kernel)) rfl
theorem k_392 : (.selects "RulePayroll" ⟨"RulePayroll", "pay", "()I"⟩ ⟨"RulePayroll", "pay", "()I"⟩ : Cond) ∈ mm_GW := mm_in (List.mem_of_getElem? (i := 355) (by decide +kernel)) rfl
theorem k_393 : (.methodLink "RulePayrollLaw" 59 ⟨"RulePayrollModel", "back", "(I)I"⟩ : Cond) ∈ mm_GW := mm_in (List.mem_of_getElem? (i := 663) (by decide +kernel)) rfl
theorem k_394 : (.instanceMethod ⟨"RulePayrollModel", "back", "(I)I"⟩ : Cond) ∈ mm_GW := mm_in (List.mem_of_getElem? (i := 664) (by decide +kernel)) rfl
theorem k_395 : (.selects "RulePayrollModel" ⟨"RulePayrollModel", "back", "(I)I"⟩ ⟨"RulePayrollModel", "back", "(I)I"⟩ : Cond) ∈ mm_GW := mm_in (List.mem_of_getElem? (i := 665) (by decide +kernel)) rfl
theorem k_396 : (.methodLink "RulePayrollLaw" 56 ⟨"RulePayroll", "back", "(I)I"⟩ : Cond) ∈ mm_GW := mm_in (List.mem_of_getElem? (i := 397) (by decide +kernel)) rfl
theorem k_397 : (.instanceMethod ⟨"RulePayroll", "back", "(I)I"⟩ : Cond) ∈ mm_GW := mm_in (List.mem_of_getElem? (i := 398) (by decide +kernel)) rfl
theorem k_398 : (.selects "RulePayroll" ⟨"RulePayroll", "back", "(I)I"⟩ ⟨"RulePayroll", "back", "(I)I"⟩ : Cond) ∈ mm_GW := mm_in (List.mem_of_getElem? (i := 399) (by decide +kernel)) rfl
theorem k_399 : (.methodLink "RulePayrollLaw" 63 ⟨"RulePayrollModel", "again", "(I)I"⟩ : Cond) ∈ mm_GW := mm_in (List.mem_of_getElem? (i := 671) (by decide +kernel)) rfl
theorem k_400 : (.instanceMethod ⟨"RulePayrollModel", "again", "(I)I"⟩ : Cond) ∈ mm_GW := mm_in (List.mem_of_getElem? (i := 672) (by decide +kernel)) rfl
theorem k_401 : (.selects "RulePayrollModel" ⟨"RulePayrollModel", "again", "(I)I"⟩ ⟨"RulePayrollModel", "again", "(I)I"⟩ : Cond) ∈ mm_GW := mm_in (List.mem_of_getElem? (i := 673) (by decide +kernel)) rfl
theorem k_402 : (.methodLink "RulePayrollLaw" 60 ⟨"RulePayroll", "again", "(I)I"⟩ : Cond) ∈ mm_GW := mm_in (List.mem_of_getElem? (i := 422) (by decide +kernel)) rfl
theorem k_403 : (.instanceMethod ⟨"RulePayroll", "again", "(I)I"⟩ : Cond) ∈ mm_GW := mm_in (List.mem_of_getElem? (i := 423) (by decide +kernel)) rfl
theorem k_404 : (.selects "RulePayroll" ⟨"RulePayroll", "again", "(I)I"⟩ ⟨"RulePayroll", "again", "(I)I"⟩ : Cond) ∈ mm_GW := mm_in (List.mem_of_getElem? (i := 424) (by decide +kernel)) rfl
theorem k_405 : (.methodLink "RulePayrollLaw" 68 ⟨"RulePayrollModel", "slip", "(III)J"⟩ : Cond) ∈ mm_GW := mm_in (List.mem_of_getElem? (i := 679) (by decide +kernel)) rfl
theorem k_406 : (.instanceMethod ⟨"RulePayrollModel", "slip", "(III)J"⟩ : Cond) ∈ mm_GW := mm_in (List.mem_of_getElem? (i := 680) (by decide +kernel)) rfl
theorem k_407 : (.selects "RulePayrollModel" ⟨"RulePayrollModel", "slip", "(III)J"⟩ ⟨"RulePayrollModel", "slip", "(III)J"⟩ : Cond) ∈ mm_GW := mm_in (List.mem_of_getElem? (i := 681) (by decide +kernel)) rfl
theorem k_408 : (.methodLink "RulePayrollLaw" 64 ⟨"RulePayroll", "slip", "(III)J"⟩ : Cond) ∈ mm_GW := mm_in (List.mem_of_getElem? (i := 431) (by decide +kernel)) rfl
theorem k_409 : (.instanceMethod ⟨"RulePayroll", "slip", "(III)J"⟩ : Cond) ∈ mm_GW := mm_in (List.mem_of_getElem? (i := 432) (by decide +kernel)) rfl
theorem k_410 : (.selects "RulePayroll" ⟨"RulePayroll", "slip", "(III)J"⟩ ⟨"RulePayroll", "slip", "(III)J"⟩ : Cond) ∈ mm_GW := mm_in (List.mem_of_getElem? (i := 433) (by decide +kernel)) rfl
theorem k_411 : (.methodLink "RulePayrollLaw" 72 ⟨"RulePayrollModel", "held", "(II)I"⟩ : Cond) ∈ mm_GW := mm_in (List.mem_of_getElem? (i := 683) (by decide +kernel)) rfl
theorem k_412 : (.instanceMethod ⟨"RulePayrollModel", "held", "(II)I"⟩ : Cond) ∈ mm_GW := mm_in (List.mem_of_getElem? (i := 684) (by decide +kernel)) rfl
theorem k_413 : (.selects "RulePayrollModel" ⟨"RulePayrollModel", "held", "(II)I"⟩ ⟨"RulePayrollModel", "held", "(II)I"⟩ : Cond) ∈ mm_GW := mm_in (List.mem_of_getElem? (i := 685) (by decide +kernel)) rfl
theorem k_414 : (.methodLink "RulePayrollLaw" 69 ⟨"RulePayroll", "held", "(II)I"⟩ : Cond) ∈ mm_GW := mm_in (List.mem_of_getElem? (i := 436) (by decide +kernel)) rfl
theorem k_415 : (.instanceMethod ⟨"RulePayroll", "held", "(II)I"⟩ : Cond) ∈ mm_GW := mm_in (List.mem_of_getElem? (i := 437) (by decide +kernel)) rfl
theorem k_416 : (.selects "RulePayroll" ⟨"RulePayroll", "held", "(II)I"⟩ ⟨"RulePayroll", "held", "(II)I"⟩ : Cond) ∈ mm_GW := mm_in (List.mem_of_getElem? (i := 438) (by decide +kernel)) rfl
theorem k_417 : (.methodLink "RulePayrollLaw" 77 ⟨"RulePayrollModel", "account", "(I)J"⟩ : Cond) ∈ mm_GW := mm_in (List.mem_of_getElem? (i := 687) (by decide +kernel)) rfl
theorem k_418 : (.instanceMethod ⟨"RulePayrollModel", "account", "(I)J"⟩ : Cond) ∈ mm_GW := mm_in (List.mem_of_getElem? (i := 688) (by decide +kernel)) rfl
theorem k_419 : (.selects "RulePayrollModel" ⟨"RulePayrollModel", "account", "(I)J"⟩ ⟨"RulePayrollModel", "account", "(I)J"⟩ : Cond) ∈ mm_GW := mm_in (List.mem_of_getElem? (i := 689) (by decide +kernel)) rfl
theorem k_420 : (.methodLink "RulePayrollLaw" 73 ⟨"RulePayroll", "account", "(I)J"⟩ : Cond) ∈ mm_GW := mm_in (List.mem_of_getElem? (i := 440) (by decide +kernel)) rfl
theorem k_421 : (.instanceMethod ⟨"RulePayroll", "account", "(I)J"⟩ : Cond) ∈ mm_GW := mm_in (List.mem_of_getElem? (i := 441) (by decide +kernel)) rfl
theorem k_422 : (.selects "RulePayroll" ⟨"RulePayroll", "account", "(I)J"⟩ ⟨"RulePayroll", "account", "(I)J"⟩ : Cond) ∈ mm_GW := mm_in (List.mem_of_getElem? (i := 442) (by decide +kernel)) rfl
theorem k_423 : (.methodLink "RulePayrollLaw" 81 ⟨"RulePayrollModel", "paid", "(II)J"⟩ : Cond) ∈ mm_GW := mm_in (List.mem_of_getElem? (i := 691) (by decide +kernel)) rfl
theorem k_424 : (.instanceMethod ⟨"RulePayrollModel", "paid", "(II)J"⟩ : Cond) ∈ mm_GW := mm_in (List.mem_of_getElem? (i := 692) (by decide +kernel)) rfl
theorem k_425 : (.selects "RulePayrollModel" ⟨"RulePayrollModel", "paid", "(II)J"⟩ ⟨"RulePayrollModel", "paid", "(II)J"⟩ : Cond) ∈ mm_GW := mm_in (List.mem_of_getElem? (i := 693) (by decide +kernel)) rfl
theorem k_426 : (.methodLink "RulePayrollLaw" 78 ⟨"RulePayroll", "paid", "(II)J"⟩ : Cond) ∈ mm_GW := mm_in (List.mem_of_getElem? (i := 453) (by decide +kernel)) rfl
theorem k_427 : (.instanceMethod ⟨"RulePayroll", "paid", "(II)J"⟩ : Cond) ∈ mm_GW := mm_in (List.mem_of_getElem? (i := 454) (by decide +kernel)) rfl
theorem k_428 : (.selects "RulePayroll" ⟨"RulePayroll", "paid", "(II)J"⟩ ⟨"RulePayroll", "paid", "(II)J"⟩ : Cond) ∈ mm_GW := mm_in (List.mem_of_getElem? (i := 455) (by decide +kernel)) rfl
theorem k_429 : (.methodLink "RulePayrollLaw" 85 ⟨"RulePayrollModel", "count", "(I)I"⟩ : Cond) ∈ mm_GW := mm_in (List.mem_of_getElem? (i := 695) (by decide +kernel)) rfl
theorem k_430 : (.instanceMethod ⟨"RulePayrollModel", "count", "(I)I"⟩ : Cond) ∈ mm_GW := mm_in (List.mem_of_getElem? (i := 696) (by decide +kernel)) rfl
theorem k_431 : (.selects "RulePayrollModel" ⟨"RulePayrollModel", "count", "(I)I"⟩ ⟨"RulePayrollModel", "count", "(I)I"⟩ : Cond) ∈ mm_GW := mm_in (List.mem_of_getElem? (i := 697) (by decide +kernel)) rfl
theorem k_432 : (.methodLink "RulePayrollLaw" 82 ⟨"RulePayroll", "count", "(I)I"⟩ : Cond) ∈ mm_GW := mm_in (List.mem_of_getElem? (i := 458) (by decide +kernel)) rfl
theorem k_433 : (.instanceMethod ⟨"RulePayroll", "count", "(I)I"⟩ : Cond) ∈ mm_GW := mm_in (List.mem_of_getElem? (i := 459) (by decide +kernel)) rfl
theorem k_434 : (.selects "RulePayroll" ⟨"RulePayroll", "count", "(I)I"⟩ ⟨"RulePayroll", "count", "(I)I"⟩ : Cond) ∈ mm_GW := mm_in (List.mem_of_getElem? (i := 460) (by decide +kernel)) rfl
theorem k_435 : (.classLink "RulePayrollLaw" 7 "RulePayroll" : Cond) ∈ mm_GW := mm_in (List.mem_of_getElem? (i := 42) (by decide +kernel)) rfl
theorem k_436 : (.instantiable "RulePayroll" 3 : Cond) ∈ mm_GW := mm_in (List.mem_of_getElem? (i := 43) (by decide +kernel)) rfl
theorem k_437 : (.methodLink "RulePayrollLaw" 9 ⟨"RulePayroll", "<init>", "()V"⟩ : Cond) ∈ mm_GW := mm_in (List.mem_of_getElem? (i := 44) (by decide +kernel)) rfl
theorem k_438 : (.instanceMethod ⟨"RulePayroll", "<init>", "()V"⟩ : Cond) ∈ mm_GW := mm_in (List.mem_of_getElem? (i := 45) (by decide +kernel)) rfl
theorem k_439 : (.classLink "RulePayrollLaw" 10 "RulePayrollModel" : Cond) ∈ mm_GW := mm_in (List.mem_of_getElem? (i := 479) (by decide +kernel)) rfl
theorem k_440 : (.instantiable "RulePayrollModel" 21 : Cond) ∈ mm_GW := mm_in (List.mem_of_getElem? (i := 480) (by decide +kernel)) rfl
theorem k_441 : (.methodLink "RulePayrollLaw" 12 ⟨"RulePayrollModel", "<init>", "()V"⟩ : Cond) ∈ mm_GW := mm_in (List.mem_of_getElem? (i := 481) (by decide +kernel)) rfl
theorem k_442 : (.instanceMethod ⟨"RulePayrollModel", "<init>", "()V"⟩ : Cond) ∈ mm_GW := mm_in (List.mem_of_getElem? (i := 482) (by decide +kernel)) rfl
set_option maxRecDepth 100000 in
theorem kc_obj : (Cond.code objectInit ⟨#[0xb1]⟩ 1 none) ∈ mm_GW := mm_in (List.mem_of_getElem? (i := 49) rfl) rfl
