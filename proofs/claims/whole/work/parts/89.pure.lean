/-! PURE 89: the law, cases 3.. -/
theorem z_396 : (Jvm.Cond.methodLink "WhoseGlassLaw" (35 : Nat) ({ cls := "WhoseGlass", name := "comes", desc := "(II)I" } : Jvm.MethodName)) ∈ yGW := y_i2 156 rfl rfl
theorem z_397 : (Jvm.Cond.instanceMethod ({ cls := "WhoseGlass", name := "comes", desc := "(II)I" } : Jvm.MethodName)) ∈ yGW := y_i2 157 rfl rfl
theorem z_398 : (Jvm.Cond.selects "WhoseGlass" ({ cls := "WhoseGlass", name := "comes", desc := "(II)I" } : Jvm.MethodName) ({ cls := "WhoseGlass", name := "comes", desc := "(II)I" } : Jvm.MethodName)) ∈ yGW := y_i2 158 rfl rfl
theorem z_399 : (Jvm.Cond.code ({ cls := "WhoseGlass", name := "comes", desc := "(II)I" } : Jvm.MethodName) prog_1_method_5_code (5 : Nat) (Option.some Jvm.ClassFile.FieldType.int)) ∈ yGW := y_i2 159 rfl rfl
theorem d_law_311 : decode code 311 = .ok (.aload_n 1, 1) := by decide +kernel
theorem d_law_312 : decode code 312 = .ok (.aload_n 0, 1) := by decide +kernel
theorem d_law_313 : decode code 313 = .ok (.iload 4, 2) := by decide +kernel
theorem d_law_315 : decode code 315 = .ok (.iconst 1, 1) := by decide +kernel
theorem d_law_316 : decode code 316 = .ok (.iadd, 1) := by decide +kernel
theorem d_law_317 : decode code 317 = .ok (.iaload, 1) := by decide +kernel
theorem d_law_318 : decode code 318 = .ok (.aload_n 0, 1) := by decide +kernel
theorem d_law_319 : decode code 319 = .ok (.iload 4, 2) := by decide +kernel
theorem d_law_321 : decode code 321 = .ok (.iconst 2, 1) := by decide +kernel
theorem d_law_322 : decode code 322 = .ok (.iadd, 1) := by decide +kernel
theorem d_law_323 : decode code 323 = .ok (.iaload, 1) := by decide +kernel
theorem d_law_324 : decode code 324 = .ok (.invokevirtual 35, 3) := by decide +kernel
theorem d_law_327 : decode code 327 = .ok (.aload_n 2, 1) := by decide +kernel
theorem d_law_328 : decode code 328 = .ok (.aload_n 0, 1) := by decide +kernel
theorem d_law_329 : decode code 329 = .ok (.iload 4, 2) := by decide +kernel
theorem d_law_331 : decode code 331 = .ok (.iconst 1, 1) := by decide +kernel
theorem d_law_332 : decode code 332 = .ok (.iadd, 1) := by decide +kernel
theorem d_law_333 : decode code 333 = .ok (.iaload, 1) := by decide +kernel
theorem d_law_334 : decode code 334 = .ok (.aload_n 0, 1) := by decide +kernel
theorem d_law_335 : decode code 335 = .ok (.iload 4, 2) := by decide +kernel
theorem d_law_337 : decode code 337 = .ok (.iconst 2, 1) := by decide +kernel
theorem d_law_338 : decode code 338 = .ok (.iadd, 1) := by decide +kernel
theorem d_law_339 : decode code 339 = .ok (.iaload, 1) := by decide +kernel
theorem z_1080 : (Jvm.Cond.methodLink "WhoseGlassLaw" (38 : Nat) ({ cls := "WhoseGlassModel", name := "comes", desc := "(II)I" } : Jvm.MethodName)) ∈ yGW := y_i5 120 rfl rfl
theorem z_1081 : (Jvm.Cond.instanceMethod ({ cls := "WhoseGlassModel", name := "comes", desc := "(II)I" } : Jvm.MethodName)) ∈ yGW := y_i5 121 rfl rfl
theorem z_1082 : (Jvm.Cond.selects "WhoseGlassModel" ({ cls := "WhoseGlassModel", name := "comes", desc := "(II)I" } : Jvm.MethodName) ({ cls := "WhoseGlassModel", name := "comes", desc := "(II)I" } : Jvm.MethodName)) ∈ yGW := y_i5 122 rfl rfl
theorem z_1083 : (Jvm.Cond.code ({ cls := "WhoseGlassModel", name := "comes", desc := "(II)I" } : Jvm.MethodName) prog_8_method_42_code (4 : Nat) (Option.some Jvm.ClassFile.FieldType.int)) ∈ yGW := y_i5 123 rfl rfl
theorem d_law_340 : decode code 340 = .ok (.invokevirtual 38, 3) := by decide +kernel
theorem d_law_343 : decode code 343 = .ok (.if_icmp .eq 1150, 3) := by decide +kernel
theorem z_403 : (Jvm.Cond.methodLink "WhoseGlassLaw" (39 : Nat) ({ cls := "WhoseGlass", name := "go", desc := "(II)I" } : Jvm.MethodName)) ∈ yGW := y_i2 163 rfl rfl
theorem z_404 : (Jvm.Cond.instanceMethod ({ cls := "WhoseGlass", name := "go", desc := "(II)I" } : Jvm.MethodName)) ∈ yGW := y_i2 164 rfl rfl
theorem z_405 : (Jvm.Cond.selects "WhoseGlass" ({ cls := "WhoseGlass", name := "go", desc := "(II)I" } : Jvm.MethodName) ({ cls := "WhoseGlass", name := "go", desc := "(II)I" } : Jvm.MethodName)) ∈ yGW := y_i2 165 rfl rfl
theorem z_406 : (Jvm.Cond.code ({ cls := "WhoseGlass", name := "go", desc := "(II)I" } : Jvm.MethodName) prog_1_method_6_code (5 : Nat) (Option.some Jvm.ClassFile.FieldType.int)) ∈ yGW := y_i2 166 rfl rfl
theorem d_law_348 : decode code 348 = .ok (.aload_n 1, 1) := by decide +kernel
theorem d_law_349 : decode code 349 = .ok (.aload_n 0, 1) := by decide +kernel
theorem d_law_350 : decode code 350 = .ok (.iload 4, 2) := by decide +kernel
theorem d_law_352 : decode code 352 = .ok (.iconst 1, 1) := by decide +kernel
theorem d_law_353 : decode code 353 = .ok (.iadd, 1) := by decide +kernel
theorem d_law_354 : decode code 354 = .ok (.iaload, 1) := by decide +kernel
theorem d_law_355 : decode code 355 = .ok (.aload_n 0, 1) := by decide +kernel
theorem d_law_356 : decode code 356 = .ok (.iload 4, 2) := by decide +kernel
theorem d_law_358 : decode code 358 = .ok (.iconst 2, 1) := by decide +kernel
theorem d_law_359 : decode code 359 = .ok (.iadd, 1) := by decide +kernel
theorem d_law_360 : decode code 360 = .ok (.iaload, 1) := by decide +kernel
theorem d_law_361 : decode code 361 = .ok (.invokevirtual 39, 3) := by decide +kernel
theorem d_law_364 : decode code 364 = .ok (.aload_n 2, 1) := by decide +kernel
theorem d_law_365 : decode code 365 = .ok (.aload_n 0, 1) := by decide +kernel
theorem d_law_366 : decode code 366 = .ok (.iload 4, 2) := by decide +kernel
theorem d_law_368 : decode code 368 = .ok (.iconst 1, 1) := by decide +kernel
theorem d_law_369 : decode code 369 = .ok (.iadd, 1) := by decide +kernel
theorem d_law_370 : decode code 370 = .ok (.iaload, 1) := by decide +kernel
theorem d_law_371 : decode code 371 = .ok (.aload_n 0, 1) := by decide +kernel
theorem d_law_372 : decode code 372 = .ok (.iload 4, 2) := by decide +kernel
theorem d_law_374 : decode code 374 = .ok (.iconst 2, 1) := by decide +kernel
theorem d_law_375 : decode code 375 = .ok (.iadd, 1) := by decide +kernel
theorem d_law_376 : decode code 376 = .ok (.iaload, 1) := by decide +kernel
theorem z_1092 : (Jvm.Cond.methodLink "WhoseGlassLaw" (42 : Nat) ({ cls := "WhoseGlassModel", name := "go", desc := "(II)I" } : Jvm.MethodName)) ∈ yGW := y_i5 132 rfl rfl
theorem z_1093 : (Jvm.Cond.instanceMethod ({ cls := "WhoseGlassModel", name := "go", desc := "(II)I" } : Jvm.MethodName)) ∈ yGW := y_i5 133 rfl rfl
theorem z_1094 : (Jvm.Cond.selects "WhoseGlassModel" ({ cls := "WhoseGlassModel", name := "go", desc := "(II)I" } : Jvm.MethodName) ({ cls := "WhoseGlassModel", name := "go", desc := "(II)I" } : Jvm.MethodName)) ∈ yGW := y_i5 134 rfl rfl
theorem z_1095 : (Jvm.Cond.code ({ cls := "WhoseGlassModel", name := "go", desc := "(II)I" } : Jvm.MethodName) prog_8_method_43_code (4 : Nat) (Option.some Jvm.ClassFile.FieldType.int)) ∈ yGW := y_i5 135 rfl rfl
theorem d_law_377 : decode code 377 = .ok (.invokevirtual 42, 3) := by decide +kernel
theorem d_law_380 : decode code 380 = .ok (.if_icmp .eq 1113, 3) := by decide +kernel
theorem z_407 : (Jvm.Cond.methodLink "WhoseGlassLaw" (43 : Nat) ({ cls := "WhoseGlass", name := "sip", desc := "(I)I" } : Jvm.MethodName)) ∈ yGW := y_i2 167 rfl rfl
theorem z_408 : (Jvm.Cond.instanceMethod ({ cls := "WhoseGlass", name := "sip", desc := "(I)I" } : Jvm.MethodName)) ∈ yGW := y_i2 168 rfl rfl
theorem z_409 : (Jvm.Cond.selects "WhoseGlass" ({ cls := "WhoseGlass", name := "sip", desc := "(I)I" } : Jvm.MethodName) ({ cls := "WhoseGlass", name := "sip", desc := "(I)I" } : Jvm.MethodName)) ∈ yGW := y_i2 169 rfl rfl
theorem z_410 : (Jvm.Cond.code ({ cls := "WhoseGlass", name := "sip", desc := "(I)I" } : Jvm.MethodName) prog_1_method_7_code (4 : Nat) (Option.some Jvm.ClassFile.FieldType.int)) ∈ yGW := y_i2 170 rfl rfl
theorem d_law_385 : decode code 385 = .ok (.aload_n 1, 1) := by decide +kernel
theorem d_law_386 : decode code 386 = .ok (.aload_n 0, 1) := by decide +kernel
theorem d_law_387 : decode code 387 = .ok (.iload 4, 2) := by decide +kernel
theorem d_law_389 : decode code 389 = .ok (.iconst 1, 1) := by decide +kernel
theorem d_law_390 : decode code 390 = .ok (.iadd, 1) := by decide +kernel
theorem d_law_391 : decode code 391 = .ok (.iaload, 1) := by decide +kernel
theorem d_law_392 : decode code 392 = .ok (.invokevirtual 43, 3) := by decide +kernel
theorem d_law_395 : decode code 395 = .ok (.aload_n 2, 1) := by decide +kernel
theorem d_law_396 : decode code 396 = .ok (.aload_n 0, 1) := by decide +kernel
theorem d_law_397 : decode code 397 = .ok (.iload 4, 2) := by decide +kernel
theorem d_law_399 : decode code 399 = .ok (.iconst 1, 1) := by decide +kernel
theorem d_law_400 : decode code 400 = .ok (.iadd, 1) := by decide +kernel
theorem d_law_401 : decode code 401 = .ok (.iaload, 1) := by decide +kernel
theorem z_1096 : (Jvm.Cond.methodLink "WhoseGlassLaw" (46 : Nat) ({ cls := "WhoseGlassModel", name := "sip", desc := "(I)I" } : Jvm.MethodName)) ∈ yGW := y_i5 136 rfl rfl
theorem z_1097 : (Jvm.Cond.instanceMethod ({ cls := "WhoseGlassModel", name := "sip", desc := "(I)I" } : Jvm.MethodName)) ∈ yGW := y_i5 137 rfl rfl
theorem z_1098 : (Jvm.Cond.selects "WhoseGlassModel" ({ cls := "WhoseGlassModel", name := "sip", desc := "(I)I" } : Jvm.MethodName) ({ cls := "WhoseGlassModel", name := "sip", desc := "(I)I" } : Jvm.MethodName)) ∈ yGW := y_i5 138 rfl rfl
theorem z_1099 : (Jvm.Cond.code ({ cls := "WhoseGlassModel", name := "sip", desc := "(I)I" } : Jvm.MethodName) prog_8_method_44_code (2 : Nat) (Option.some Jvm.ClassFile.FieldType.int)) ∈ yGW := y_i5 139 rfl rfl
theorem d_law_402 : decode code 402 = .ok (.invokevirtual 46, 3) := by decide +kernel
theorem d_law_405 : decode code 405 = .ok (.if_icmp .eq 1088, 3) := by decide +kernel
theorem z_412 : (Jvm.Cond.methodLink "WhoseGlassLaw" (47 : Nat) ({ cls := "WhoseGlass", name := "lay", desc := "(I)I" } : Jvm.MethodName)) ∈ yGW := y_i2 172 rfl rfl
theorem z_413 : (Jvm.Cond.instanceMethod ({ cls := "WhoseGlass", name := "lay", desc := "(I)I" } : Jvm.MethodName)) ∈ yGW := y_i2 173 rfl rfl
theorem z_414 : (Jvm.Cond.selects "WhoseGlass" ({ cls := "WhoseGlass", name := "lay", desc := "(I)I" } : Jvm.MethodName) ({ cls := "WhoseGlass", name := "lay", desc := "(I)I" } : Jvm.MethodName)) ∈ yGW := y_i2 174 rfl rfl
theorem z_415 : (Jvm.Cond.code ({ cls := "WhoseGlass", name := "lay", desc := "(I)I" } : Jvm.MethodName) prog_1_method_8_code (4 : Nat) (Option.some Jvm.ClassFile.FieldType.int)) ∈ yGW := y_i2 175 rfl rfl
theorem d_law_410 : decode code 410 = .ok (.aload_n 1, 1) := by decide +kernel
theorem d_law_411 : decode code 411 = .ok (.aload_n 0, 1) := by decide +kernel
theorem d_law_412 : decode code 412 = .ok (.iload 4, 2) := by decide +kernel
theorem d_law_414 : decode code 414 = .ok (.iconst 1, 1) := by decide +kernel
theorem d_law_415 : decode code 415 = .ok (.iadd, 1) := by decide +kernel
theorem d_law_416 : decode code 416 = .ok (.iaload, 1) := by decide +kernel
theorem d_law_417 : decode code 417 = .ok (.invokevirtual 47, 3) := by decide +kernel
theorem d_law_420 : decode code 420 = .ok (.aload_n 2, 1) := by decide +kernel
theorem d_law_421 : decode code 421 = .ok (.aload_n 0, 1) := by decide +kernel
theorem d_law_422 : decode code 422 = .ok (.iload 4, 2) := by decide +kernel
theorem d_law_424 : decode code 424 = .ok (.iconst 1, 1) := by decide +kernel
theorem d_law_425 : decode code 425 = .ok (.iadd, 1) := by decide +kernel
theorem d_law_426 : decode code 426 = .ok (.iaload, 1) := by decide +kernel
theorem z_1100 : (Jvm.Cond.methodLink "WhoseGlassLaw" (50 : Nat) ({ cls := "WhoseGlassModel", name := "lay", desc := "(I)I" } : Jvm.MethodName)) ∈ yGW := y_i5 140 rfl rfl
theorem z_1101 : (Jvm.Cond.instanceMethod ({ cls := "WhoseGlassModel", name := "lay", desc := "(I)I" } : Jvm.MethodName)) ∈ yGW := y_i5 141 rfl rfl
theorem z_1102 : (Jvm.Cond.selects "WhoseGlassModel" ({ cls := "WhoseGlassModel", name := "lay", desc := "(I)I" } : Jvm.MethodName) ({ cls := "WhoseGlassModel", name := "lay", desc := "(I)I" } : Jvm.MethodName)) ∈ yGW := y_i5 142 rfl rfl
theorem z_1103 : (Jvm.Cond.code ({ cls := "WhoseGlassModel", name := "lay", desc := "(I)I" } : Jvm.MethodName) prog_8_method_45_code (2 : Nat) (Option.some Jvm.ClassFile.FieldType.int)) ∈ yGW := y_i5 143 rfl rfl
theorem d_law_427 : decode code 427 = .ok (.invokevirtual 50, 3) := by decide +kernel
theorem d_law_430 : decode code 430 = .ok (.if_icmp .eq 1063, 3) := by decide +kernel
theorem z_417 : (Jvm.Cond.methodLink "WhoseGlassLaw" (51 : Nat) ({ cls := "WhoseGlass", name := "take", desc := "(I)I" } : Jvm.MethodName)) ∈ yGW := y_i2 177 rfl rfl
theorem z_418 : (Jvm.Cond.instanceMethod ({ cls := "WhoseGlass", name := "take", desc := "(I)I" } : Jvm.MethodName)) ∈ yGW := y_i2 178 rfl rfl
theorem z_419 : (Jvm.Cond.selects "WhoseGlass" ({ cls := "WhoseGlass", name := "take", desc := "(I)I" } : Jvm.MethodName) ({ cls := "WhoseGlass", name := "take", desc := "(I)I" } : Jvm.MethodName)) ∈ yGW := y_i2 179 rfl rfl
theorem z_420 : (Jvm.Cond.code ({ cls := "WhoseGlass", name := "take", desc := "(I)I" } : Jvm.MethodName) prog_1_method_9_code (3 : Nat) (Option.some Jvm.ClassFile.FieldType.int)) ∈ yGW := y_i2 180 rfl rfl
theorem d_law_435 : decode code 435 = .ok (.aload_n 1, 1) := by decide +kernel
theorem d_law_436 : decode code 436 = .ok (.aload_n 0, 1) := by decide +kernel
theorem d_law_437 : decode code 437 = .ok (.iload 4, 2) := by decide +kernel
theorem d_law_439 : decode code 439 = .ok (.iconst 1, 1) := by decide +kernel
theorem d_law_440 : decode code 440 = .ok (.iadd, 1) := by decide +kernel
theorem d_law_441 : decode code 441 = .ok (.iaload, 1) := by decide +kernel
theorem d_law_442 : decode code 442 = .ok (.invokevirtual 51, 3) := by decide +kernel
theorem d_law_445 : decode code 445 = .ok (.aload_n 2, 1) := by decide +kernel
theorem d_law_446 : decode code 446 = .ok (.aload_n 0, 1) := by decide +kernel
theorem d_law_447 : decode code 447 = .ok (.iload 4, 2) := by decide +kernel
theorem d_law_449 : decode code 449 = .ok (.iconst 1, 1) := by decide +kernel
theorem d_law_450 : decode code 450 = .ok (.iadd, 1) := by decide +kernel
theorem d_law_451 : decode code 451 = .ok (.iaload, 1) := by decide +kernel
theorem z_1104 : (Jvm.Cond.methodLink "WhoseGlassLaw" (54 : Nat) ({ cls := "WhoseGlassModel", name := "take", desc := "(I)I" } : Jvm.MethodName)) ∈ yGW := y_i5 144 rfl rfl
theorem z_1105 : (Jvm.Cond.instanceMethod ({ cls := "WhoseGlassModel", name := "take", desc := "(I)I" } : Jvm.MethodName)) ∈ yGW := y_i5 145 rfl rfl
theorem z_1106 : (Jvm.Cond.selects "WhoseGlassModel" ({ cls := "WhoseGlassModel", name := "take", desc := "(I)I" } : Jvm.MethodName) ({ cls := "WhoseGlassModel", name := "take", desc := "(I)I" } : Jvm.MethodName)) ∈ yGW := y_i5 146 rfl rfl
theorem z_1107 : (Jvm.Cond.code ({ cls := "WhoseGlassModel", name := "take", desc := "(I)I" } : Jvm.MethodName) prog_8_method_46_code (2 : Nat) (Option.some Jvm.ClassFile.FieldType.int)) ∈ yGW := y_i5 147 rfl rfl
theorem d_law_452 : decode code 452 = .ok (.invokevirtual 54, 3) := by decide +kernel
theorem d_law_455 : decode code 455 = .ok (.if_icmp .eq 1038, 3) := by decide +kernel
theorem gc_law_35 : GoodIn yGW (wsV "WhoseGlassLaw" 35 yR4 m_X_comes ws_X_comes) := y_gV z_396 z_397 z_398 g_1 z_399
theorem gc_law_38 : GoodIn yGW (wsV "WhoseGlassLaw" 38 yR5 m_M_comes ws_M_comes) := y_gV z_1080 z_1081 z_1082 g_6 z_1083
theorem l_c3 {p : Program} {l : Launch} {e : Env} {s : State} {m : MethodId} {below : List Frame} {meth : Method} {c : Code} {Q : State → Prop} {cells slots b L i : Nat} {xs : Nat → Int32} {w2 : va_G × (Nat → ClassId)} {aX aM : Nat → Nat} {qo : Nat} {σ τ : Mm} {g : Nat → Int64} (C : lC p l s m meth c b L xs w2) (D : lD s.heap.size aX aM qo) (hi : 6 * i + 6 ≤ L) (R : Rel σ τ) (hcs : cells + 1 ≤ room_1.cells ∧ slots + 6 ≤ room_1.slots) (J : ∀ (σ1 τ1 : Mm) (g1 : Nat → Int64), Rel σ1 τ1 → lG p l e s m below meth c b w2 aX aM qo Q (cells + 1) (slots + 6) σ1 τ1 g1 1493 (lvI b aX aM qo i) []) : lG p l e s m below meth c b w2 aX aM qo Q cells slots σ τ g 311 (lvI b aX aM qo i) [] := by
  obtain ⟨N, R⟩ := R
  obtain ⟨p1, hp, q1, hq, e1, R1⟩ := q_comes (F := 3000) (xs (6 * i + 1)) (xs (6 * i + 2)) R
  refine l_aX C d_law_311 ?_
  refine l_arg 1 C hi (by decide) rfl d_law_312 d_law_313 d_law_315 d_law_316 d_law_317 ?_
  refine l_arg 2 C hi (by decide) rfl d_law_318 d_law_319 d_law_321 d_law_322 d_law_323 ?_
  refine l_callX 2 C D (c_X_comes l (aX, w2) 3000 σ 0 _ _ p1 hp) gc_law_35 hd_X_comes ⟨Nat.le_of_ble_eq_true rfl, Nat.le_of_ble_eq_true rfl⟩ rfl rfl ⟨Nat.le_of_succ_le hcs.1, Nat.le_trans (Nat.le_add_right _ _) hcs.2⟩ rfl rfl (Nat.le_of_ble_eq_true rfl) d_law_324 ?_
  refine l_aM C d_law_327 ?_
  refine l_arg 1 C hi (by decide) rfl d_law_328 d_law_329 d_law_331 d_law_332 d_law_333 ?_
  refine l_arg 2 C hi (by decide) rfl d_law_334 d_law_335 d_law_337 d_law_338 d_law_339 ?_
  refine l_callM 2 C D (c_M_comes l (aM, w2) 3000 τ 0 _ _ q1 hq) gc_law_38 hd_M_comes ⟨Nat.le_of_ble_eq_true rfl, Nat.le_of_ble_eq_true rfl⟩ rfl rfl ⟨Nat.le_of_succ_le hcs.1, Nat.le_trans (Nat.le_add_right _ _) hcs.2⟩ rfl rfl (Nat.le_of_ble_eq_true rfl) d_law_340 ?_
  refine l_ceq (tgt := 1493) C e1 d_law_343 (by decide) ?_
  exact l_wide (Nat.le_succ _) (Nat.le_add_right _ _) (J p1.2 q1.2 g R1)
theorem gc_law_39 : GoodIn yGW (wsV "WhoseGlassLaw" 39 yR4 m_X_go ws_X_go) := y_gV z_403 z_404 z_405 g_1 z_406
theorem gc_law_42 : GoodIn yGW (wsV "WhoseGlassLaw" 42 yR5 m_M_go ws_M_go) := y_gV z_1092 z_1093 z_1094 g_6 z_1095
theorem l_c4 {p : Program} {l : Launch} {e : Env} {s : State} {m : MethodId} {below : List Frame} {meth : Method} {c : Code} {Q : State → Prop} {cells slots b L i : Nat} {xs : Nat → Int32} {w2 : va_G × (Nat → ClassId)} {aX aM : Nat → Nat} {qo : Nat} {σ τ : Mm} {g : Nat → Int64} (C : lC p l s m meth c b L xs w2) (D : lD s.heap.size aX aM qo) (hi : 6 * i + 6 ≤ L) (R : Rel σ τ) (hcs : cells + 1 ≤ room_1.cells ∧ slots + 6 ≤ room_1.slots) (J : ∀ (σ1 τ1 : Mm) (g1 : Nat → Int64), Rel σ1 τ1 → lG p l e s m below meth c b w2 aX aM qo Q (cells + 1) (slots + 6) σ1 τ1 g1 1493 (lvI b aX aM qo i) []) : lG p l e s m below meth c b w2 aX aM qo Q cells slots σ τ g 348 (lvI b aX aM qo i) [] := by
  obtain ⟨N, R⟩ := R
  obtain ⟨p1, hp, q1, hq, e1, R1⟩ := q_go (F := 3000) (xs (6 * i + 1)) (xs (6 * i + 2)) R
  refine l_aX C d_law_348 ?_
  refine l_arg 1 C hi (by decide) rfl d_law_349 d_law_350 d_law_352 d_law_353 d_law_354 ?_
  refine l_arg 2 C hi (by decide) rfl d_law_355 d_law_356 d_law_358 d_law_359 d_law_360 ?_
  refine l_callX 2 C D (c_X_go l (aX, w2) 3000 σ 0 _ _ p1 hp) gc_law_39 hd_X_go ⟨Nat.le_of_ble_eq_true rfl, Nat.le_of_ble_eq_true rfl⟩ rfl rfl ⟨Nat.le_of_succ_le hcs.1, Nat.le_trans (Nat.le_add_right _ _) hcs.2⟩ rfl rfl (Nat.le_of_ble_eq_true rfl) d_law_361 ?_
  refine l_aM C d_law_364 ?_
  refine l_arg 1 C hi (by decide) rfl d_law_365 d_law_366 d_law_368 d_law_369 d_law_370 ?_
  refine l_arg 2 C hi (by decide) rfl d_law_371 d_law_372 d_law_374 d_law_375 d_law_376 ?_
  refine l_callM 2 C D (c_M_go l (aM, w2) 3000 τ 0 _ _ q1 hq) gc_law_42 hd_M_go ⟨Nat.le_of_ble_eq_true rfl, Nat.le_of_ble_eq_true rfl⟩ rfl rfl ⟨Nat.le_of_succ_le hcs.1, Nat.le_trans (Nat.le_add_right _ _) hcs.2⟩ rfl rfl (Nat.le_of_ble_eq_true rfl) d_law_377 ?_
  refine l_ceq (tgt := 1493) C e1 d_law_380 (by decide) ?_
  exact l_wide (Nat.le_succ _) (Nat.le_add_right _ _) (J p1.2 q1.2 g R1)
theorem gc_law_43 : GoodIn yGW (wsV "WhoseGlassLaw" 43 yR4 m_X_sip ws_X_sip) := y_gV z_407 z_408 z_409 g_1 z_410
theorem gc_law_46 : GoodIn yGW (wsV "WhoseGlassLaw" 46 yR5 m_M_sip ws_M_sip) := y_gV z_1096 z_1097 z_1098 g_6 z_1099
theorem l_c5 {p : Program} {l : Launch} {e : Env} {s : State} {m : MethodId} {below : List Frame} {meth : Method} {c : Code} {Q : State → Prop} {cells slots b L i : Nat} {xs : Nat → Int32} {w2 : va_G × (Nat → ClassId)} {aX aM : Nat → Nat} {qo : Nat} {σ τ : Mm} {g : Nat → Int64} (C : lC p l s m meth c b L xs w2) (D : lD s.heap.size aX aM qo) (hi : 6 * i + 6 ≤ L) (R : Rel σ τ) (hcs : cells + 1 ≤ room_1.cells ∧ slots + 6 ≤ room_1.slots) (J : ∀ (σ1 τ1 : Mm) (g1 : Nat → Int64), Rel σ1 τ1 → lG p l e s m below meth c b w2 aX aM qo Q (cells + 1) (slots + 6) σ1 τ1 g1 1493 (lvI b aX aM qo i) []) : lG p l e s m below meth c b w2 aX aM qo Q cells slots σ τ g 385 (lvI b aX aM qo i) [] := by
  obtain ⟨N, R⟩ := R
  obtain ⟨p1, hp, q1, hq, e1, R1⟩ := q_sip (F := 3000) (xs (6 * i + 1)) R
  refine l_aX C d_law_385 ?_
  refine l_arg 1 C hi (by decide) rfl d_law_386 d_law_387 d_law_389 d_law_390 d_law_391 ?_
  refine l_callX 1 C D (c_X_sip l (aX, w2) 3000 σ 0 _ p1 hp) gc_law_43 hd_X_sip ⟨Nat.le_of_ble_eq_true rfl, Nat.le_of_ble_eq_true rfl⟩ rfl rfl ⟨Nat.le_of_succ_le hcs.1, Nat.le_trans (Nat.le_add_right _ _) hcs.2⟩ rfl rfl (Nat.le_of_ble_eq_true rfl) d_law_392 ?_
  refine l_aM C d_law_395 ?_
  refine l_arg 1 C hi (by decide) rfl d_law_396 d_law_397 d_law_399 d_law_400 d_law_401 ?_
  refine l_callM 1 C D (c_M_sip l (aM, w2) 3000 τ 0 _ q1 hq) gc_law_46 hd_M_sip ⟨Nat.le_of_ble_eq_true rfl, Nat.le_of_ble_eq_true rfl⟩ rfl rfl ⟨Nat.le_of_succ_le hcs.1, Nat.le_trans (Nat.le_add_right _ _) hcs.2⟩ rfl rfl (Nat.le_of_ble_eq_true rfl) d_law_402 ?_
  refine l_ceq (tgt := 1493) C e1 d_law_405 (by decide) ?_
  exact l_wide (Nat.le_succ _) (Nat.le_add_right _ _) (J p1.2 q1.2 g R1)
theorem gc_law_47 : GoodIn yGW (wsV "WhoseGlassLaw" 47 yR4 m_X_lay ws_X_lay) := y_gV z_412 z_413 z_414 g_1 z_415
theorem gc_law_50 : GoodIn yGW (wsV "WhoseGlassLaw" 50 yR5 m_M_lay ws_M_lay) := y_gV z_1100 z_1101 z_1102 g_6 z_1103
theorem l_c6 {p : Program} {l : Launch} {e : Env} {s : State} {m : MethodId} {below : List Frame} {meth : Method} {c : Code} {Q : State → Prop} {cells slots b L i : Nat} {xs : Nat → Int32} {w2 : va_G × (Nat → ClassId)} {aX aM : Nat → Nat} {qo : Nat} {σ τ : Mm} {g : Nat → Int64} (C : lC p l s m meth c b L xs w2) (D : lD s.heap.size aX aM qo) (hi : 6 * i + 6 ≤ L) (R : Rel σ τ) (hcs : cells + 1 ≤ room_1.cells ∧ slots + 6 ≤ room_1.slots) (J : ∀ (σ1 τ1 : Mm) (g1 : Nat → Int64), Rel σ1 τ1 → lG p l e s m below meth c b w2 aX aM qo Q (cells + 1) (slots + 6) σ1 τ1 g1 1493 (lvI b aX aM qo i) []) : lG p l e s m below meth c b w2 aX aM qo Q cells slots σ τ g 410 (lvI b aX aM qo i) [] := by
  obtain ⟨N, R⟩ := R
  obtain ⟨p1, hp, q1, hq, e1, R1⟩ := q_lay (F := 3000) (xs (6 * i + 1)) R
  refine l_aX C d_law_410 ?_
  refine l_arg 1 C hi (by decide) rfl d_law_411 d_law_412 d_law_414 d_law_415 d_law_416 ?_
  refine l_callX 1 C D (c_X_lay l (aX, w2) 3000 σ 0 _ p1 hp) gc_law_47 hd_X_lay ⟨Nat.le_of_ble_eq_true rfl, Nat.le_of_ble_eq_true rfl⟩ rfl rfl ⟨Nat.le_of_succ_le hcs.1, Nat.le_trans (Nat.le_add_right _ _) hcs.2⟩ rfl rfl (Nat.le_of_ble_eq_true rfl) d_law_417 ?_
  refine l_aM C d_law_420 ?_
  refine l_arg 1 C hi (by decide) rfl d_law_421 d_law_422 d_law_424 d_law_425 d_law_426 ?_
  refine l_callM 1 C D (c_M_lay l (aM, w2) 3000 τ 0 _ q1 hq) gc_law_50 hd_M_lay ⟨Nat.le_of_ble_eq_true rfl, Nat.le_of_ble_eq_true rfl⟩ rfl rfl ⟨Nat.le_of_succ_le hcs.1, Nat.le_trans (Nat.le_add_right _ _) hcs.2⟩ rfl rfl (Nat.le_of_ble_eq_true rfl) d_law_427 ?_
  refine l_ceq (tgt := 1493) C e1 d_law_430 (by decide) ?_
  exact l_wide (Nat.le_succ _) (Nat.le_add_right _ _) (J p1.2 q1.2 g R1)
theorem gc_law_51 : GoodIn yGW (wsV "WhoseGlassLaw" 51 yR4 m_X_take ws_X_take) := y_gV z_417 z_418 z_419 g_1 z_420
theorem gc_law_54 : GoodIn yGW (wsV "WhoseGlassLaw" 54 yR5 m_M_take ws_M_take) := y_gV z_1104 z_1105 z_1106 g_6 z_1107
theorem l_c7 {p : Program} {l : Launch} {e : Env} {s : State} {m : MethodId} {below : List Frame} {meth : Method} {c : Code} {Q : State → Prop} {cells slots b L i : Nat} {xs : Nat → Int32} {w2 : va_G × (Nat → ClassId)} {aX aM : Nat → Nat} {qo : Nat} {σ τ : Mm} {g : Nat → Int64} (C : lC p l s m meth c b L xs w2) (D : lD s.heap.size aX aM qo) (hi : 6 * i + 6 ≤ L) (R : Rel σ τ) (hcs : cells + 1 ≤ room_1.cells ∧ slots + 6 ≤ room_1.slots) (J : ∀ (σ1 τ1 : Mm) (g1 : Nat → Int64), Rel σ1 τ1 → lG p l e s m below meth c b w2 aX aM qo Q (cells + 1) (slots + 6) σ1 τ1 g1 1493 (lvI b aX aM qo i) []) : lG p l e s m below meth c b w2 aX aM qo Q cells slots σ τ g 435 (lvI b aX aM qo i) [] := by
  obtain ⟨N, R⟩ := R
  obtain ⟨p1, hp, q1, hq, e1, R1⟩ := q_take (F := 3000) (xs (6 * i + 1)) R (Nat.le_of_ble_eq_true rfl)
  refine l_aX C d_law_435 ?_
  refine l_arg 1 C hi (by decide) rfl d_law_436 d_law_437 d_law_439 d_law_440 d_law_441 ?_
  refine l_callX 1 C D (c_X_take l (aX, w2) 3000 σ 0 _ p1 hp) gc_law_51 hd_X_take ⟨Nat.le_of_ble_eq_true rfl, Nat.le_of_ble_eq_true rfl⟩ rfl rfl ⟨Nat.le_of_succ_le hcs.1, Nat.le_trans (Nat.le_add_right _ _) hcs.2⟩ rfl rfl (Nat.le_of_ble_eq_true rfl) d_law_442 ?_
  refine l_aM C d_law_445 ?_
  refine l_arg 1 C hi (by decide) rfl d_law_446 d_law_447 d_law_449 d_law_450 d_law_451 ?_
  refine l_callM 1 C D (c_M_take l (aM, w2) 3000 τ 0 _ q1 hq) gc_law_54 hd_M_take ⟨Nat.le_of_ble_eq_true rfl, Nat.le_of_ble_eq_true rfl⟩ rfl rfl ⟨Nat.le_of_succ_le hcs.1, Nat.le_trans (Nat.le_add_right _ _) hcs.2⟩ rfl rfl (Nat.le_of_ble_eq_true rfl) d_law_452 ?_
  refine l_ceq (tgt := 1493) C e1 d_law_455 (by decide) ?_
  exact l_wide (Nat.le_succ _) (Nat.le_add_right _ _) (J p1.2 q1.2 g R1)
