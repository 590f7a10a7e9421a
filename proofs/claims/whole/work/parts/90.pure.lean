/-! PURE 90: the law, cases 8.. -/
theorem z_422 : (Jvm.Cond.methodLink "WhoseGlassLaw" (55 : Nat) ({ cls := "WhoseGlass", name := "fill", desc := "(I)I" } : Jvm.MethodName)) ∈ yGW := y_i2 182 rfl rfl
theorem z_423 : (Jvm.Cond.instanceMethod ({ cls := "WhoseGlass", name := "fill", desc := "(I)I" } : Jvm.MethodName)) ∈ yGW := y_i2 183 rfl rfl
theorem z_424 : (Jvm.Cond.selects "WhoseGlass" ({ cls := "WhoseGlass", name := "fill", desc := "(I)I" } : Jvm.MethodName) ({ cls := "WhoseGlass", name := "fill", desc := "(I)I" } : Jvm.MethodName)) ∈ yGW := y_i2 184 rfl rfl
theorem z_425 : (Jvm.Cond.code ({ cls := "WhoseGlass", name := "fill", desc := "(I)I" } : Jvm.MethodName) prog_1_method_10_code (5 : Nat) (Option.some Jvm.ClassFile.FieldType.int)) ∈ yGW := y_i2 185 rfl rfl
theorem d_law_460 : decode code 460 = .ok (.aload_n 1, 1) := by decide +kernel
theorem d_law_461 : decode code 461 = .ok (.aload_n 0, 1) := by decide +kernel
theorem d_law_462 : decode code 462 = .ok (.iload 4, 2) := by decide +kernel
theorem d_law_464 : decode code 464 = .ok (.iconst 1, 1) := by decide +kernel
theorem d_law_465 : decode code 465 = .ok (.iadd, 1) := by decide +kernel
theorem d_law_466 : decode code 466 = .ok (.iaload, 1) := by decide +kernel
theorem d_law_467 : decode code 467 = .ok (.invokevirtual 55, 3) := by decide +kernel
theorem d_law_470 : decode code 470 = .ok (.aload_n 2, 1) := by decide +kernel
theorem d_law_471 : decode code 471 = .ok (.aload_n 0, 1) := by decide +kernel
theorem d_law_472 : decode code 472 = .ok (.iload 4, 2) := by decide +kernel
theorem d_law_474 : decode code 474 = .ok (.iconst 1, 1) := by decide +kernel
theorem d_law_475 : decode code 475 = .ok (.iadd, 1) := by decide +kernel
theorem d_law_476 : decode code 476 = .ok (.iaload, 1) := by decide +kernel
theorem z_1108 : (Jvm.Cond.methodLink "WhoseGlassLaw" (58 : Nat) ({ cls := "WhoseGlassModel", name := "fill", desc := "(I)I" } : Jvm.MethodName)) ∈ yGW := y_i5 148 rfl rfl
theorem z_1109 : (Jvm.Cond.instanceMethod ({ cls := "WhoseGlassModel", name := "fill", desc := "(I)I" } : Jvm.MethodName)) ∈ yGW := y_i5 149 rfl rfl
theorem z_1110 : (Jvm.Cond.selects "WhoseGlassModel" ({ cls := "WhoseGlassModel", name := "fill", desc := "(I)I" } : Jvm.MethodName) ({ cls := "WhoseGlassModel", name := "fill", desc := "(I)I" } : Jvm.MethodName)) ∈ yGW := y_i5 150 rfl rfl
theorem z_1111 : (Jvm.Cond.code ({ cls := "WhoseGlassModel", name := "fill", desc := "(I)I" } : Jvm.MethodName) prog_8_method_47_code (5 : Nat) (Option.some Jvm.ClassFile.FieldType.int)) ∈ yGW := y_i5 151 rfl rfl
theorem d_law_477 : decode code 477 = .ok (.invokevirtual 58, 3) := by decide +kernel
theorem d_law_480 : decode code 480 = .ok (.if_icmp .eq 1013, 3) := by decide +kernel
theorem z_426 : (Jvm.Cond.methodLink "WhoseGlassLaw" (59 : Nat) ({ cls := "WhoseGlass", name := "clear", desc := "(II)I" } : Jvm.MethodName)) ∈ yGW := y_i2 186 rfl rfl
theorem z_427 : (Jvm.Cond.instanceMethod ({ cls := "WhoseGlass", name := "clear", desc := "(II)I" } : Jvm.MethodName)) ∈ yGW := y_i2 187 rfl rfl
theorem z_428 : (Jvm.Cond.selects "WhoseGlass" ({ cls := "WhoseGlass", name := "clear", desc := "(II)I" } : Jvm.MethodName) ({ cls := "WhoseGlass", name := "clear", desc := "(II)I" } : Jvm.MethodName)) ∈ yGW := y_i2 188 rfl rfl
theorem z_429 : (Jvm.Cond.code ({ cls := "WhoseGlass", name := "clear", desc := "(II)I" } : Jvm.MethodName) prog_1_method_11_code (6 : Nat) (Option.some Jvm.ClassFile.FieldType.int)) ∈ yGW := y_i2 189 rfl rfl
theorem d_law_485 : decode code 485 = .ok (.aload_n 1, 1) := by decide +kernel
theorem d_law_486 : decode code 486 = .ok (.aload_n 0, 1) := by decide +kernel
theorem d_law_487 : decode code 487 = .ok (.iload 4, 2) := by decide +kernel
theorem d_law_489 : decode code 489 = .ok (.iconst 1, 1) := by decide +kernel
theorem d_law_490 : decode code 490 = .ok (.iadd, 1) := by decide +kernel
theorem d_law_491 : decode code 491 = .ok (.iaload, 1) := by decide +kernel
theorem d_law_492 : decode code 492 = .ok (.aload_n 0, 1) := by decide +kernel
theorem d_law_493 : decode code 493 = .ok (.iload 4, 2) := by decide +kernel
theorem d_law_495 : decode code 495 = .ok (.iconst 2, 1) := by decide +kernel
theorem d_law_496 : decode code 496 = .ok (.iadd, 1) := by decide +kernel
theorem d_law_497 : decode code 497 = .ok (.iaload, 1) := by decide +kernel
theorem d_law_498 : decode code 498 = .ok (.invokevirtual 59, 3) := by decide +kernel
theorem d_law_501 : decode code 501 = .ok (.aload_n 2, 1) := by decide +kernel
theorem d_law_502 : decode code 502 = .ok (.aload_n 0, 1) := by decide +kernel
theorem d_law_503 : decode code 503 = .ok (.iload 4, 2) := by decide +kernel
theorem d_law_505 : decode code 505 = .ok (.iconst 1, 1) := by decide +kernel
theorem d_law_506 : decode code 506 = .ok (.iadd, 1) := by decide +kernel
theorem d_law_507 : decode code 507 = .ok (.iaload, 1) := by decide +kernel
theorem d_law_508 : decode code 508 = .ok (.aload_n 0, 1) := by decide +kernel
theorem d_law_509 : decode code 509 = .ok (.iload 4, 2) := by decide +kernel
theorem d_law_511 : decode code 511 = .ok (.iconst 2, 1) := by decide +kernel
theorem d_law_512 : decode code 512 = .ok (.iadd, 1) := by decide +kernel
theorem d_law_513 : decode code 513 = .ok (.iaload, 1) := by decide +kernel
theorem z_1112 : (Jvm.Cond.methodLink "WhoseGlassLaw" (62 : Nat) ({ cls := "WhoseGlassModel", name := "clear", desc := "(II)I" } : Jvm.MethodName)) ∈ yGW := y_i5 152 rfl rfl
theorem z_1113 : (Jvm.Cond.instanceMethod ({ cls := "WhoseGlassModel", name := "clear", desc := "(II)I" } : Jvm.MethodName)) ∈ yGW := y_i5 153 rfl rfl
theorem z_1114 : (Jvm.Cond.selects "WhoseGlassModel" ({ cls := "WhoseGlassModel", name := "clear", desc := "(II)I" } : Jvm.MethodName) ({ cls := "WhoseGlassModel", name := "clear", desc := "(II)I" } : Jvm.MethodName)) ∈ yGW := y_i5 154 rfl rfl
theorem z_1115 : (Jvm.Cond.code ({ cls := "WhoseGlassModel", name := "clear", desc := "(II)I" } : Jvm.MethodName) prog_8_method_49_code (5 : Nat) (Option.some Jvm.ClassFile.FieldType.int)) ∈ yGW := y_i5 155 rfl rfl
theorem d_law_514 : decode code 514 = .ok (.invokevirtual 62, 3) := by decide +kernel
theorem d_law_517 : decode code 517 = .ok (.if_icmp .eq 976, 3) := by decide +kernel
theorem z_434 : (Jvm.Cond.methodLink "WhoseGlassLaw" (63 : Nat) ({ cls := "WhoseGlass", name := "minutes", desc := "(I)I" } : Jvm.MethodName)) ∈ yGW := y_i2 194 rfl rfl
theorem z_435 : (Jvm.Cond.instanceMethod ({ cls := "WhoseGlass", name := "minutes", desc := "(I)I" } : Jvm.MethodName)) ∈ yGW := y_i2 195 rfl rfl
theorem z_436 : (Jvm.Cond.selects "WhoseGlass" ({ cls := "WhoseGlass", name := "minutes", desc := "(I)I" } : Jvm.MethodName) ({ cls := "WhoseGlass", name := "minutes", desc := "(I)I" } : Jvm.MethodName)) ∈ yGW := y_i2 196 rfl rfl
theorem z_437 : (Jvm.Cond.code ({ cls := "WhoseGlass", name := "minutes", desc := "(I)I" } : Jvm.MethodName) prog_1_method_12_code (2 : Nat) (Option.some Jvm.ClassFile.FieldType.int)) ∈ yGW := y_i2 197 rfl rfl
theorem d_law_522 : decode code 522 = .ok (.aload_n 1, 1) := by decide +kernel
theorem d_law_523 : decode code 523 = .ok (.aload_n 0, 1) := by decide +kernel
theorem d_law_524 : decode code 524 = .ok (.iload 4, 2) := by decide +kernel
theorem d_law_526 : decode code 526 = .ok (.iconst 1, 1) := by decide +kernel
theorem d_law_527 : decode code 527 = .ok (.iadd, 1) := by decide +kernel
theorem d_law_528 : decode code 528 = .ok (.iaload, 1) := by decide +kernel
theorem d_law_529 : decode code 529 = .ok (.invokevirtual 63, 3) := by decide +kernel
theorem d_law_532 : decode code 532 = .ok (.aload_n 2, 1) := by decide +kernel
theorem d_law_533 : decode code 533 = .ok (.aload_n 0, 1) := by decide +kernel
theorem d_law_534 : decode code 534 = .ok (.iload 4, 2) := by decide +kernel
theorem d_law_536 : decode code 536 = .ok (.iconst 1, 1) := by decide +kernel
theorem d_law_537 : decode code 537 = .ok (.iadd, 1) := by decide +kernel
theorem d_law_538 : decode code 538 = .ok (.iaload, 1) := by decide +kernel
theorem z_1121 : (Jvm.Cond.methodLink "WhoseGlassLaw" (66 : Nat) ({ cls := "WhoseGlassModel", name := "minutes", desc := "(I)I" } : Jvm.MethodName)) ∈ yGW := y_i5 161 rfl rfl
theorem z_1122 : (Jvm.Cond.instanceMethod ({ cls := "WhoseGlassModel", name := "minutes", desc := "(I)I" } : Jvm.MethodName)) ∈ yGW := y_i5 162 rfl rfl
theorem z_1123 : (Jvm.Cond.selects "WhoseGlassModel" ({ cls := "WhoseGlassModel", name := "minutes", desc := "(I)I" } : Jvm.MethodName) ({ cls := "WhoseGlassModel", name := "minutes", desc := "(I)I" } : Jvm.MethodName)) ∈ yGW := y_i5 163 rfl rfl
theorem z_1124 : (Jvm.Cond.code ({ cls := "WhoseGlassModel", name := "minutes", desc := "(I)I" } : Jvm.MethodName) prog_8_method_50_code (2 : Nat) (Option.some Jvm.ClassFile.FieldType.int)) ∈ yGW := y_i5 164 rfl rfl
theorem d_law_539 : decode code 539 = .ok (.invokevirtual 66, 3) := by decide +kernel
theorem d_law_542 : decode code 542 = .ok (.if_icmp .eq 951, 3) := by decide +kernel
theorem z_439 : (Jvm.Cond.methodLink "WhoseGlassLaw" (67 : Nat) ({ cls := "WhoseGlass", name := "like", desc := "(II)I" } : Jvm.MethodName)) ∈ yGW := y_i2 199 rfl rfl
theorem z_440 : (Jvm.Cond.instanceMethod ({ cls := "WhoseGlass", name := "like", desc := "(II)I" } : Jvm.MethodName)) ∈ yGW := y_i2 200 rfl rfl
theorem z_441 : (Jvm.Cond.selects "WhoseGlass" ({ cls := "WhoseGlass", name := "like", desc := "(II)I" } : Jvm.MethodName) ({ cls := "WhoseGlass", name := "like", desc := "(II)I" } : Jvm.MethodName)) ∈ yGW := y_i2 201 rfl rfl
theorem z_442 : (Jvm.Cond.code ({ cls := "WhoseGlass", name := "like", desc := "(II)I" } : Jvm.MethodName) prog_1_method_13_code (5 : Nat) (Option.some Jvm.ClassFile.FieldType.int)) ∈ yGW := y_i2 202 rfl rfl
theorem d_law_547 : decode code 547 = .ok (.aload_n 1, 1) := by decide +kernel
theorem d_law_548 : decode code 548 = .ok (.aload_n 0, 1) := by decide +kernel
theorem d_law_549 : decode code 549 = .ok (.iload 4, 2) := by decide +kernel
theorem d_law_551 : decode code 551 = .ok (.iconst 1, 1) := by decide +kernel
theorem d_law_552 : decode code 552 = .ok (.iadd, 1) := by decide +kernel
theorem d_law_553 : decode code 553 = .ok (.iaload, 1) := by decide +kernel
theorem d_law_554 : decode code 554 = .ok (.aload_n 0, 1) := by decide +kernel
theorem d_law_555 : decode code 555 = .ok (.iload 4, 2) := by decide +kernel
theorem d_law_557 : decode code 557 = .ok (.iconst 2, 1) := by decide +kernel
theorem d_law_558 : decode code 558 = .ok (.iadd, 1) := by decide +kernel
theorem d_law_559 : decode code 559 = .ok (.iaload, 1) := by decide +kernel
theorem d_law_560 : decode code 560 = .ok (.invokevirtual 67, 3) := by decide +kernel
theorem d_law_563 : decode code 563 = .ok (.aload_n 2, 1) := by decide +kernel
theorem d_law_564 : decode code 564 = .ok (.aload_n 0, 1) := by decide +kernel
theorem d_law_565 : decode code 565 = .ok (.iload 4, 2) := by decide +kernel
theorem d_law_567 : decode code 567 = .ok (.iconst 1, 1) := by decide +kernel
theorem d_law_568 : decode code 568 = .ok (.iadd, 1) := by decide +kernel
theorem d_law_569 : decode code 569 = .ok (.iaload, 1) := by decide +kernel
theorem d_law_570 : decode code 570 = .ok (.aload_n 0, 1) := by decide +kernel
theorem d_law_571 : decode code 571 = .ok (.iload 4, 2) := by decide +kernel
theorem d_law_573 : decode code 573 = .ok (.iconst 2, 1) := by decide +kernel
theorem d_law_574 : decode code 574 = .ok (.iadd, 1) := by decide +kernel
theorem d_law_575 : decode code 575 = .ok (.iaload, 1) := by decide +kernel
theorem z_1129 : (Jvm.Cond.methodLink "WhoseGlassLaw" (70 : Nat) ({ cls := "WhoseGlassModel", name := "like", desc := "(II)I" } : Jvm.MethodName)) ∈ yGW := y_i5 169 rfl rfl
theorem z_1130 : (Jvm.Cond.instanceMethod ({ cls := "WhoseGlassModel", name := "like", desc := "(II)I" } : Jvm.MethodName)) ∈ yGW := y_i5 170 rfl rfl
theorem z_1131 : (Jvm.Cond.selects "WhoseGlassModel" ({ cls := "WhoseGlassModel", name := "like", desc := "(II)I" } : Jvm.MethodName) ({ cls := "WhoseGlassModel", name := "like", desc := "(II)I" } : Jvm.MethodName)) ∈ yGW := y_i5 171 rfl rfl
theorem z_1132 : (Jvm.Cond.code ({ cls := "WhoseGlassModel", name := "like", desc := "(II)I" } : Jvm.MethodName) prog_8_method_51_code (3 : Nat) (Option.some Jvm.ClassFile.FieldType.int)) ∈ yGW := y_i5 172 rfl rfl
theorem d_law_576 : decode code 576 = .ok (.invokevirtual 70, 3) := by decide +kernel
theorem d_law_579 : decode code 579 = .ok (.if_icmp .eq 914, 3) := by decide +kernel
theorem z_444 : (Jvm.Cond.methodLink "WhoseGlassLaw" (71 : Nat) ({ cls := "WhoseGlass", name := "mine", desc := "(I)I" } : Jvm.MethodName)) ∈ yGW := y_i2 204 rfl rfl
theorem z_445 : (Jvm.Cond.instanceMethod ({ cls := "WhoseGlass", name := "mine", desc := "(I)I" } : Jvm.MethodName)) ∈ yGW := y_i2 205 rfl rfl
theorem z_446 : (Jvm.Cond.selects "WhoseGlass" ({ cls := "WhoseGlass", name := "mine", desc := "(I)I" } : Jvm.MethodName) ({ cls := "WhoseGlass", name := "mine", desc := "(I)I" } : Jvm.MethodName)) ∈ yGW := y_i2 206 rfl rfl
theorem z_447 : (Jvm.Cond.code ({ cls := "WhoseGlass", name := "mine", desc := "(I)I" } : Jvm.MethodName) prog_1_method_14_code (3 : Nat) (Option.some Jvm.ClassFile.FieldType.int)) ∈ yGW := y_i2 207 rfl rfl
theorem d_law_584 : decode code 584 = .ok (.aload_n 1, 1) := by decide +kernel
theorem d_law_585 : decode code 585 = .ok (.aload_n 0, 1) := by decide +kernel
theorem d_law_586 : decode code 586 = .ok (.iload 4, 2) := by decide +kernel
theorem d_law_588 : decode code 588 = .ok (.iconst 1, 1) := by decide +kernel
theorem d_law_589 : decode code 589 = .ok (.iadd, 1) := by decide +kernel
theorem d_law_590 : decode code 590 = .ok (.iaload, 1) := by decide +kernel
theorem d_law_591 : decode code 591 = .ok (.invokevirtual 71, 3) := by decide +kernel
theorem d_law_594 : decode code 594 = .ok (.aload_n 2, 1) := by decide +kernel
theorem d_law_595 : decode code 595 = .ok (.aload_n 0, 1) := by decide +kernel
theorem d_law_596 : decode code 596 = .ok (.iload 4, 2) := by decide +kernel
theorem d_law_598 : decode code 598 = .ok (.iconst 1, 1) := by decide +kernel
theorem d_law_599 : decode code 599 = .ok (.iadd, 1) := by decide +kernel
theorem d_law_600 : decode code 600 = .ok (.iaload, 1) := by decide +kernel
theorem z_1133 : (Jvm.Cond.methodLink "WhoseGlassLaw" (74 : Nat) ({ cls := "WhoseGlassModel", name := "mine", desc := "(I)I" } : Jvm.MethodName)) ∈ yGW := y_i5 173 rfl rfl
theorem z_1134 : (Jvm.Cond.instanceMethod ({ cls := "WhoseGlassModel", name := "mine", desc := "(I)I" } : Jvm.MethodName)) ∈ yGW := y_i5 174 rfl rfl
theorem z_1135 : (Jvm.Cond.selects "WhoseGlassModel" ({ cls := "WhoseGlassModel", name := "mine", desc := "(I)I" } : Jvm.MethodName) ({ cls := "WhoseGlassModel", name := "mine", desc := "(I)I" } : Jvm.MethodName)) ∈ yGW := y_i5 175 rfl rfl
theorem z_1136 : (Jvm.Cond.code ({ cls := "WhoseGlassModel", name := "mine", desc := "(I)I" } : Jvm.MethodName) prog_8_method_52_code (2 : Nat) (Option.some Jvm.ClassFile.FieldType.int)) ∈ yGW := y_i5 176 rfl rfl
theorem d_law_601 : decode code 601 = .ok (.invokevirtual 74, 3) := by decide +kernel
theorem d_law_604 : decode code 604 = .ok (.if_icmp .eq 889, 3) := by decide +kernel
theorem gc_law_55 : GoodIn yGW (wsV "WhoseGlassLaw" 55 yR4 m_X_fill ws_X_fill) := y_gV z_422 z_423 z_424 g_1 z_425
theorem gc_law_58 : GoodIn yGW (wsV "WhoseGlassLaw" 58 yR5 m_M_fill ws_M_fill) := y_gV z_1108 z_1109 z_1110 g_6 z_1111
theorem l_c8 {p : Program} {l : Launch} {e : Env} {s : State} {m : MethodId} {below : List Frame} {meth : Method} {c : Code} {Q : State → Prop} {cells slots b L i : Nat} {xs : Nat → Int32} {w2 : va_G × (Nat → ClassId)} {aX aM : Nat → Nat} {qo : Nat} {σ τ : Mm} {g : Nat → Int64} (C : lC p l s m meth c b L xs w2) (D : lD s.heap.size aX aM qo) (hi : 6 * i + 6 ≤ L) (R : Rel σ τ) (hcs : cells + 1 ≤ room_1.cells ∧ slots + 6 ≤ room_1.slots) (J : ∀ (σ1 τ1 : Mm) (g1 : Nat → Int64), Rel σ1 τ1 → lG p l e s m below meth c b w2 aX aM qo Q (cells + 1) (slots + 6) σ1 τ1 g1 1493 (lvI b aX aM qo i) []) : lG p l e s m below meth c b w2 aX aM qo Q cells slots σ τ g 460 (lvI b aX aM qo i) [] := by
  obtain ⟨N, R⟩ := R
  obtain ⟨p1, hp, q1, hq, e1, R1⟩ := q_fill (F := 3000) (xs (6 * i + 1)) R (Nat.le_of_ble_eq_true rfl)
  refine l_aX C d_law_460 ?_
  refine l_arg 1 C hi (by decide) rfl d_law_461 d_law_462 d_law_464 d_law_465 d_law_466 ?_
  refine l_callX 1 C D (c_X_fill l (aX, w2) 3000 σ 0 _ p1 hp) gc_law_55 hd_X_fill ⟨Nat.le_of_ble_eq_true rfl, Nat.le_of_ble_eq_true rfl⟩ rfl rfl ⟨Nat.le_of_succ_le hcs.1, Nat.le_trans (Nat.le_add_right _ _) hcs.2⟩ rfl rfl (Nat.le_of_ble_eq_true rfl) d_law_467 ?_
  refine l_aM C d_law_470 ?_
  refine l_arg 1 C hi (by decide) rfl d_law_471 d_law_472 d_law_474 d_law_475 d_law_476 ?_
  refine l_callM 1 C D (c_M_fill l (aM, w2) 3000 τ 0 _ q1 hq) gc_law_58 hd_M_fill ⟨Nat.le_of_ble_eq_true rfl, Nat.le_of_ble_eq_true rfl⟩ rfl rfl ⟨Nat.le_of_succ_le hcs.1, Nat.le_trans (Nat.le_add_right _ _) hcs.2⟩ rfl rfl (Nat.le_of_ble_eq_true rfl) d_law_477 ?_
  refine l_ceq (tgt := 1493) C e1 d_law_480 (by decide) ?_
  exact l_wide (Nat.le_succ _) (Nat.le_add_right _ _) (J p1.2 q1.2 g R1)
theorem gc_law_59 : GoodIn yGW (wsV "WhoseGlassLaw" 59 yR4 m_X_clear ws_X_clear) := y_gV z_426 z_427 z_428 g_1 z_429
theorem gc_law_62 : GoodIn yGW (wsV "WhoseGlassLaw" 62 yR5 m_M_clear ws_M_clear) := y_gV z_1112 z_1113 z_1114 g_6 z_1115
theorem l_c9 {p : Program} {l : Launch} {e : Env} {s : State} {m : MethodId} {below : List Frame} {meth : Method} {c : Code} {Q : State → Prop} {cells slots b L i : Nat} {xs : Nat → Int32} {w2 : va_G × (Nat → ClassId)} {aX aM : Nat → Nat} {qo : Nat} {σ τ : Mm} {g : Nat → Int64} (C : lC p l s m meth c b L xs w2) (D : lD s.heap.size aX aM qo) (hi : 6 * i + 6 ≤ L) (R : Rel σ τ) (hcs : cells + 1 ≤ room_1.cells ∧ slots + 6 ≤ room_1.slots) (J : ∀ (σ1 τ1 : Mm) (g1 : Nat → Int64), Rel σ1 τ1 → lG p l e s m below meth c b w2 aX aM qo Q (cells + 1) (slots + 6) σ1 τ1 g1 1493 (lvI b aX aM qo i) []) : lG p l e s m below meth c b w2 aX aM qo Q cells slots σ τ g 485 (lvI b aX aM qo i) [] := by
  obtain ⟨N, R⟩ := R
  obtain ⟨p1, hp, q1, hq, e1, R1⟩ := q_clear (F := 3000) (xs (6 * i + 1)) (xs (6 * i + 2)) R (Nat.le_of_ble_eq_true rfl)
  refine l_aX C d_law_485 ?_
  refine l_arg 1 C hi (by decide) rfl d_law_486 d_law_487 d_law_489 d_law_490 d_law_491 ?_
  refine l_arg 2 C hi (by decide) rfl d_law_492 d_law_493 d_law_495 d_law_496 d_law_497 ?_
  refine l_callX 2 C D (c_X_clear l (aX, w2) 3000 σ 0 _ _ p1 hp) gc_law_59 hd_X_clear ⟨Nat.le_of_ble_eq_true rfl, Nat.le_of_ble_eq_true rfl⟩ rfl rfl ⟨Nat.le_of_succ_le hcs.1, Nat.le_trans (Nat.le_add_right _ _) hcs.2⟩ rfl rfl (Nat.le_of_ble_eq_true rfl) d_law_498 ?_
  refine l_aM C d_law_501 ?_
  refine l_arg 1 C hi (by decide) rfl d_law_502 d_law_503 d_law_505 d_law_506 d_law_507 ?_
  refine l_arg 2 C hi (by decide) rfl d_law_508 d_law_509 d_law_511 d_law_512 d_law_513 ?_
  refine l_callM 2 C D (c_M_clear l (aM, w2) 3000 τ 0 _ _ q1 hq) gc_law_62 hd_M_clear ⟨Nat.le_of_ble_eq_true rfl, Nat.le_of_ble_eq_true rfl⟩ rfl rfl ⟨Nat.le_of_succ_le hcs.1, Nat.le_trans (Nat.le_add_right _ _) hcs.2⟩ rfl rfl (Nat.le_of_ble_eq_true rfl) d_law_514 ?_
  refine l_ceq (tgt := 1493) C e1 d_law_517 (by decide) ?_
  exact l_wide (Nat.le_succ _) (Nat.le_add_right _ _) (J p1.2 q1.2 g R1)
theorem gc_law_63 : GoodIn yGW (wsV "WhoseGlassLaw" 63 yR4 m_X_minutes ws_X_minutes) := y_gV z_434 z_435 z_436 g_1 z_437
theorem gc_law_66 : GoodIn yGW (wsV "WhoseGlassLaw" 66 yR5 m_M_minutes ws_M_minutes) := y_gV z_1121 z_1122 z_1123 g_6 z_1124
theorem l_c10 {p : Program} {l : Launch} {e : Env} {s : State} {m : MethodId} {below : List Frame} {meth : Method} {c : Code} {Q : State → Prop} {cells slots b L i : Nat} {xs : Nat → Int32} {w2 : va_G × (Nat → ClassId)} {aX aM : Nat → Nat} {qo : Nat} {σ τ : Mm} {g : Nat → Int64} (C : lC p l s m meth c b L xs w2) (D : lD s.heap.size aX aM qo) (hi : 6 * i + 6 ≤ L) (R : Rel σ τ) (hcs : cells + 1 ≤ room_1.cells ∧ slots + 6 ≤ room_1.slots) (J : ∀ (σ1 τ1 : Mm) (g1 : Nat → Int64), Rel σ1 τ1 → lG p l e s m below meth c b w2 aX aM qo Q (cells + 1) (slots + 6) σ1 τ1 g1 1493 (lvI b aX aM qo i) []) : lG p l e s m below meth c b w2 aX aM qo Q cells slots σ τ g 522 (lvI b aX aM qo i) [] := by
  obtain ⟨N, R⟩ := R
  obtain ⟨p1, hp, q1, hq, e1, R1⟩ := q_minutes (F := 3000) (xs (6 * i + 1)) R (Nat.le_of_ble_eq_true rfl)
  refine l_aX C d_law_522 ?_
  refine l_arg 1 C hi (by decide) rfl d_law_523 d_law_524 d_law_526 d_law_527 d_law_528 ?_
  refine l_callX 1 C D (c_X_minutes l (aX, w2) 3000 σ 0 _ p1 hp) gc_law_63 hd_X_minutes ⟨Nat.le_of_ble_eq_true rfl, Nat.le_of_ble_eq_true rfl⟩ rfl rfl ⟨Nat.le_of_succ_le hcs.1, Nat.le_trans (Nat.le_add_right _ _) hcs.2⟩ rfl rfl (Nat.le_of_ble_eq_true rfl) d_law_529 ?_
  refine l_aM C d_law_532 ?_
  refine l_arg 1 C hi (by decide) rfl d_law_533 d_law_534 d_law_536 d_law_537 d_law_538 ?_
  refine l_callM 1 C D (c_M_minutes l (aM, w2) 3000 τ 0 _ q1 hq) gc_law_66 hd_M_minutes ⟨Nat.le_of_ble_eq_true rfl, Nat.le_of_ble_eq_true rfl⟩ rfl rfl ⟨Nat.le_of_succ_le hcs.1, Nat.le_trans (Nat.le_add_right _ _) hcs.2⟩ rfl rfl (Nat.le_of_ble_eq_true rfl) d_law_539 ?_
  refine l_ceq (tgt := 1493) C e1 d_law_542 (by decide) ?_
  exact l_wide (Nat.le_succ _) (Nat.le_add_right _ _) (J p1.2 q1.2 g R1)
theorem gc_law_67 : GoodIn yGW (wsV "WhoseGlassLaw" 67 yR4 m_X_like ws_X_like) := y_gV z_439 z_440 z_441 g_1 z_442
theorem gc_law_70 : GoodIn yGW (wsV "WhoseGlassLaw" 70 yR5 m_M_like ws_M_like) := y_gV z_1129 z_1130 z_1131 g_6 z_1132
theorem l_c11 {p : Program} {l : Launch} {e : Env} {s : State} {m : MethodId} {below : List Frame} {meth : Method} {c : Code} {Q : State → Prop} {cells slots b L i : Nat} {xs : Nat → Int32} {w2 : va_G × (Nat → ClassId)} {aX aM : Nat → Nat} {qo : Nat} {σ τ : Mm} {g : Nat → Int64} (C : lC p l s m meth c b L xs w2) (D : lD s.heap.size aX aM qo) (hi : 6 * i + 6 ≤ L) (R : Rel σ τ) (hcs : cells + 1 ≤ room_1.cells ∧ slots + 6 ≤ room_1.slots) (J : ∀ (σ1 τ1 : Mm) (g1 : Nat → Int64), Rel σ1 τ1 → lG p l e s m below meth c b w2 aX aM qo Q (cells + 1) (slots + 6) σ1 τ1 g1 1493 (lvI b aX aM qo i) []) : lG p l e s m below meth c b w2 aX aM qo Q cells slots σ τ g 547 (lvI b aX aM qo i) [] := by
  obtain ⟨N, R⟩ := R
  obtain ⟨p1, hp, q1, hq, e1, R1⟩ := q_like (F := 3000) (xs (6 * i + 1)) (xs (6 * i + 2)) R
  refine l_aX C d_law_547 ?_
  refine l_arg 1 C hi (by decide) rfl d_law_548 d_law_549 d_law_551 d_law_552 d_law_553 ?_
  refine l_arg 2 C hi (by decide) rfl d_law_554 d_law_555 d_law_557 d_law_558 d_law_559 ?_
  refine l_callX 2 C D (c_X_like l (aX, w2) 3000 σ 0 _ _ p1 hp) gc_law_67 hd_X_like ⟨Nat.le_of_ble_eq_true rfl, Nat.le_of_ble_eq_true rfl⟩ rfl rfl ⟨Nat.le_of_succ_le hcs.1, Nat.le_trans (Nat.le_add_right _ _) hcs.2⟩ rfl rfl (Nat.le_of_ble_eq_true rfl) d_law_560 ?_
  refine l_aM C d_law_563 ?_
  refine l_arg 1 C hi (by decide) rfl d_law_564 d_law_565 d_law_567 d_law_568 d_law_569 ?_
  refine l_arg 2 C hi (by decide) rfl d_law_570 d_law_571 d_law_573 d_law_574 d_law_575 ?_
  refine l_callM 2 C D (c_M_like l (aM, w2) 3000 τ 0 _ _ q1 hq) gc_law_70 hd_M_like ⟨Nat.le_of_ble_eq_true rfl, Nat.le_of_ble_eq_true rfl⟩ rfl rfl ⟨Nat.le_of_succ_le hcs.1, Nat.le_trans (Nat.le_add_right _ _) hcs.2⟩ rfl rfl (Nat.le_of_ble_eq_true rfl) d_law_576 ?_
  refine l_ceq (tgt := 1493) C e1 d_law_579 (by decide) ?_
  exact l_wide (Nat.le_succ _) (Nat.le_add_right _ _) (J p1.2 q1.2 g R1)
theorem gc_law_71 : GoodIn yGW (wsV "WhoseGlassLaw" 71 yR4 m_X_mine ws_X_mine) := y_gV z_444 z_445 z_446 g_1 z_447
theorem gc_law_74 : GoodIn yGW (wsV "WhoseGlassLaw" 74 yR5 m_M_mine ws_M_mine) := y_gV z_1133 z_1134 z_1135 g_6 z_1136
theorem l_c12 {p : Program} {l : Launch} {e : Env} {s : State} {m : MethodId} {below : List Frame} {meth : Method} {c : Code} {Q : State → Prop} {cells slots b L i : Nat} {xs : Nat → Int32} {w2 : va_G × (Nat → ClassId)} {aX aM : Nat → Nat} {qo : Nat} {σ τ : Mm} {g : Nat → Int64} (C : lC p l s m meth c b L xs w2) (D : lD s.heap.size aX aM qo) (hi : 6 * i + 6 ≤ L) (R : Rel σ τ) (hcs : cells + 1 ≤ room_1.cells ∧ slots + 6 ≤ room_1.slots) (J : ∀ (σ1 τ1 : Mm) (g1 : Nat → Int64), Rel σ1 τ1 → lG p l e s m below meth c b w2 aX aM qo Q (cells + 1) (slots + 6) σ1 τ1 g1 1493 (lvI b aX aM qo i) []) : lG p l e s m below meth c b w2 aX aM qo Q cells slots σ τ g 584 (lvI b aX aM qo i) [] := by
  obtain ⟨N, R⟩ := R
  obtain ⟨p1, hp, q1, hq, e1, R1⟩ := q_mine (F := 3000) (xs (6 * i + 1)) R (Nat.le_of_ble_eq_true rfl)
  refine l_aX C d_law_584 ?_
  refine l_arg 1 C hi (by decide) rfl d_law_585 d_law_586 d_law_588 d_law_589 d_law_590 ?_
  refine l_callX 1 C D (c_X_mine l (aX, w2) 3000 σ 0 _ p1 hp) gc_law_71 hd_X_mine ⟨Nat.le_of_ble_eq_true rfl, Nat.le_of_ble_eq_true rfl⟩ rfl rfl ⟨Nat.le_of_succ_le hcs.1, Nat.le_trans (Nat.le_add_right _ _) hcs.2⟩ rfl rfl (Nat.le_of_ble_eq_true rfl) d_law_591 ?_
  refine l_aM C d_law_594 ?_
  refine l_arg 1 C hi (by decide) rfl d_law_595 d_law_596 d_law_598 d_law_599 d_law_600 ?_
  refine l_callM 1 C D (c_M_mine l (aM, w2) 3000 τ 0 _ q1 hq) gc_law_74 hd_M_mine ⟨Nat.le_of_ble_eq_true rfl, Nat.le_of_ble_eq_true rfl⟩ rfl rfl ⟨Nat.le_of_succ_le hcs.1, Nat.le_trans (Nat.le_add_right _ _) hcs.2⟩ rfl rfl (Nat.le_of_ble_eq_true rfl) d_law_601 ?_
  refine l_ceq (tgt := 1493) C e1 d_law_604 (by decide) ?_
  exact l_wide (Nat.le_succ _) (Nat.le_add_right _ _) (J p1.2 q1.2 g R1)
