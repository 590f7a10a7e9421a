/-! PURE 97: the law, cases 36.. -/
theorem z_635 : (Jvm.Cond.methodLink "WhoseGlassLaw" (175 : Nat) ({ cls := "WhoseGlass", name := "copy", desc := "(IIIII)I" } : Jvm.MethodName)) ∈ yGW := y_i3 155 rfl rfl
theorem z_636 : (Jvm.Cond.instanceMethod ({ cls := "WhoseGlass", name := "copy", desc := "(IIIII)I" } : Jvm.MethodName)) ∈ yGW := y_i3 156 rfl rfl
theorem z_637 : (Jvm.Cond.selects "WhoseGlass" ({ cls := "WhoseGlass", name := "copy", desc := "(IIIII)I" } : Jvm.MethodName) ({ cls := "WhoseGlass", name := "copy", desc := "(IIIII)I" } : Jvm.MethodName)) ∈ yGW := y_i3 157 rfl rfl
theorem z_638 : (Jvm.Cond.code ({ cls := "WhoseGlass", name := "copy", desc := "(IIIII)I" } : Jvm.MethodName) prog_1_method_38_code (8 : Nat) (Option.some Jvm.ClassFile.FieldType.int)) ∈ yGW := y_i3 158 rfl rfl
theorem d_law_1370 : decode code 1370 = .ok (.aload_n 1, 1) := by decide +kernel
theorem d_law_1371 : decode code 1371 = .ok (.aload_n 0, 1) := by decide +kernel
theorem d_law_1372 : decode code 1372 = .ok (.iload 4, 2) := by decide +kernel
theorem d_law_1374 : decode code 1374 = .ok (.iconst 1, 1) := by decide +kernel
theorem d_law_1375 : decode code 1375 = .ok (.iadd, 1) := by decide +kernel
theorem d_law_1376 : decode code 1376 = .ok (.iaload, 1) := by decide +kernel
theorem d_law_1377 : decode code 1377 = .ok (.aload_n 0, 1) := by decide +kernel
theorem d_law_1378 : decode code 1378 = .ok (.iload 4, 2) := by decide +kernel
theorem d_law_1380 : decode code 1380 = .ok (.iconst 2, 1) := by decide +kernel
theorem d_law_1381 : decode code 1381 = .ok (.iadd, 1) := by decide +kernel
theorem d_law_1382 : decode code 1382 = .ok (.iaload, 1) := by decide +kernel
theorem d_law_1383 : decode code 1383 = .ok (.aload_n 0, 1) := by decide +kernel
theorem d_law_1384 : decode code 1384 = .ok (.iload 4, 2) := by decide +kernel
theorem d_law_1386 : decode code 1386 = .ok (.iconst 3, 1) := by decide +kernel
theorem d_law_1387 : decode code 1387 = .ok (.iadd, 1) := by decide +kernel
theorem d_law_1388 : decode code 1388 = .ok (.iaload, 1) := by decide +kernel
theorem d_law_1389 : decode code 1389 = .ok (.aload_n 0, 1) := by decide +kernel
theorem d_law_1390 : decode code 1390 = .ok (.iload 4, 2) := by decide +kernel
theorem d_law_1392 : decode code 1392 = .ok (.iconst 4, 1) := by decide +kernel
theorem d_law_1393 : decode code 1393 = .ok (.iadd, 1) := by decide +kernel
theorem d_law_1394 : decode code 1394 = .ok (.iaload, 1) := by decide +kernel
theorem d_law_1395 : decode code 1395 = .ok (.aload_n 0, 1) := by decide +kernel
theorem d_law_1396 : decode code 1396 = .ok (.iload 4, 2) := by decide +kernel
theorem d_law_1398 : decode code 1398 = .ok (.iconst 5, 1) := by decide +kernel
theorem d_law_1399 : decode code 1399 = .ok (.iadd, 1) := by decide +kernel
theorem d_law_1400 : decode code 1400 = .ok (.iaload, 1) := by decide +kernel
theorem d_law_1401 : decode code 1401 = .ok (.invokevirtual 175, 3) := by decide +kernel
theorem d_law_1404 : decode code 1404 = .ok (.aload_n 2, 1) := by decide +kernel
theorem d_law_1405 : decode code 1405 = .ok (.aload_n 0, 1) := by decide +kernel
theorem d_law_1406 : decode code 1406 = .ok (.iload 4, 2) := by decide +kernel
theorem d_law_1408 : decode code 1408 = .ok (.iconst 1, 1) := by decide +kernel
theorem d_law_1409 : decode code 1409 = .ok (.iadd, 1) := by decide +kernel
theorem d_law_1410 : decode code 1410 = .ok (.iaload, 1) := by decide +kernel
theorem d_law_1411 : decode code 1411 = .ok (.aload_n 0, 1) := by decide +kernel
theorem d_law_1412 : decode code 1412 = .ok (.iload 4, 2) := by decide +kernel
theorem d_law_1414 : decode code 1414 = .ok (.iconst 2, 1) := by decide +kernel
theorem d_law_1415 : decode code 1415 = .ok (.iadd, 1) := by decide +kernel
theorem d_law_1416 : decode code 1416 = .ok (.iaload, 1) := by decide +kernel
theorem d_law_1417 : decode code 1417 = .ok (.aload_n 0, 1) := by decide +kernel
theorem d_law_1418 : decode code 1418 = .ok (.iload 4, 2) := by decide +kernel
theorem d_law_1420 : decode code 1420 = .ok (.iconst 3, 1) := by decide +kernel
theorem d_law_1421 : decode code 1421 = .ok (.iadd, 1) := by decide +kernel
theorem d_law_1422 : decode code 1422 = .ok (.iaload, 1) := by decide +kernel
theorem d_law_1423 : decode code 1423 = .ok (.aload_n 0, 1) := by decide +kernel
theorem d_law_1424 : decode code 1424 = .ok (.iload 4, 2) := by decide +kernel
theorem d_law_1426 : decode code 1426 = .ok (.iconst 4, 1) := by decide +kernel
theorem d_law_1427 : decode code 1427 = .ok (.iadd, 1) := by decide +kernel
theorem d_law_1428 : decode code 1428 = .ok (.iaload, 1) := by decide +kernel
theorem d_law_1429 : decode code 1429 = .ok (.aload_n 0, 1) := by decide +kernel
theorem d_law_1430 : decode code 1430 = .ok (.iload 4, 2) := by decide +kernel
theorem d_law_1432 : decode code 1432 = .ok (.iconst 5, 1) := by decide +kernel
theorem d_law_1433 : decode code 1433 = .ok (.iadd, 1) := by decide +kernel
theorem d_law_1434 : decode code 1434 = .ok (.iaload, 1) := by decide +kernel
theorem z_1260 : (Jvm.Cond.methodLink "WhoseGlassLaw" (179 : Nat) ({ cls := "WhoseGlassModel", name := "copy", desc := "(IIIII)I" } : Jvm.MethodName)) ∈ yGW := y_i6 60 rfl rfl
theorem z_1261 : (Jvm.Cond.instanceMethod ({ cls := "WhoseGlassModel", name := "copy", desc := "(IIIII)I" } : Jvm.MethodName)) ∈ yGW := y_i6 61 rfl rfl
theorem z_1262 : (Jvm.Cond.selects "WhoseGlassModel" ({ cls := "WhoseGlassModel", name := "copy", desc := "(IIIII)I" } : Jvm.MethodName) ({ cls := "WhoseGlassModel", name := "copy", desc := "(IIIII)I" } : Jvm.MethodName)) ∈ yGW := y_i6 62 rfl rfl
theorem z_1263 : (Jvm.Cond.code ({ cls := "WhoseGlassModel", name := "copy", desc := "(IIIII)I" } : Jvm.MethodName) prog_8_method_83_code (7 : Nat) (Option.some Jvm.ClassFile.FieldType.int)) ∈ yGW := y_i6 63 rfl rfl
theorem d_law_1435 : decode code 1435 = .ok (.invokevirtual 179, 3) := by decide +kernel
theorem d_law_1438 : decode code 1438 = .ok (.if_icmp .eq 55, 3) := by decide +kernel
theorem z_646 : (Jvm.Cond.methodLink "WhoseGlassLaw" (180 : Nat) ({ cls := "WhoseGlass", name := "cost", desc := "(I)I" } : Jvm.MethodName)) ∈ yGW := y_i3 166 rfl rfl
theorem z_647 : (Jvm.Cond.instanceMethod ({ cls := "WhoseGlass", name := "cost", desc := "(I)I" } : Jvm.MethodName)) ∈ yGW := y_i3 167 rfl rfl
theorem z_648 : (Jvm.Cond.selects "WhoseGlass" ({ cls := "WhoseGlass", name := "cost", desc := "(I)I" } : Jvm.MethodName) ({ cls := "WhoseGlass", name := "cost", desc := "(I)I" } : Jvm.MethodName)) ∈ yGW := y_i3 168 rfl rfl
theorem z_649 : (Jvm.Cond.code ({ cls := "WhoseGlass", name := "cost", desc := "(I)I" } : Jvm.MethodName) prog_1_method_39_code (3 : Nat) (Option.some Jvm.ClassFile.FieldType.int)) ∈ yGW := y_i3 169 rfl rfl
theorem d_law_1443 : decode code 1443 = .ok (.aload_n 1, 1) := by decide +kernel
theorem d_law_1444 : decode code 1444 = .ok (.aload_n 0, 1) := by decide +kernel
theorem d_law_1445 : decode code 1445 = .ok (.iload 4, 2) := by decide +kernel
theorem d_law_1447 : decode code 1447 = .ok (.iconst 1, 1) := by decide +kernel
theorem d_law_1448 : decode code 1448 = .ok (.iadd, 1) := by decide +kernel
theorem d_law_1449 : decode code 1449 = .ok (.iaload, 1) := by decide +kernel
theorem d_law_1450 : decode code 1450 = .ok (.invokevirtual 180, 3) := by decide +kernel
theorem d_law_1453 : decode code 1453 = .ok (.aload_n 2, 1) := by decide +kernel
theorem d_law_1454 : decode code 1454 = .ok (.aload_n 0, 1) := by decide +kernel
theorem d_law_1455 : decode code 1455 = .ok (.iload 4, 2) := by decide +kernel
theorem d_law_1457 : decode code 1457 = .ok (.iconst 1, 1) := by decide +kernel
theorem d_law_1458 : decode code 1458 = .ok (.iadd, 1) := by decide +kernel
theorem d_law_1459 : decode code 1459 = .ok (.iaload, 1) := by decide +kernel
theorem z_1264 : (Jvm.Cond.methodLink "WhoseGlassLaw" (183 : Nat) ({ cls := "WhoseGlassModel", name := "cost", desc := "(I)I" } : Jvm.MethodName)) ∈ yGW := y_i6 64 rfl rfl
theorem z_1265 : (Jvm.Cond.instanceMethod ({ cls := "WhoseGlassModel", name := "cost", desc := "(I)I" } : Jvm.MethodName)) ∈ yGW := y_i6 65 rfl rfl
theorem z_1266 : (Jvm.Cond.selects "WhoseGlassModel" ({ cls := "WhoseGlassModel", name := "cost", desc := "(I)I" } : Jvm.MethodName) ({ cls := "WhoseGlassModel", name := "cost", desc := "(I)I" } : Jvm.MethodName)) ∈ yGW := y_i6 66 rfl rfl
theorem z_1267 : (Jvm.Cond.code ({ cls := "WhoseGlassModel", name := "cost", desc := "(I)I" } : Jvm.MethodName) prog_8_method_85_code (2 : Nat) (Option.some Jvm.ClassFile.FieldType.int)) ∈ yGW := y_i6 67 rfl rfl
theorem d_law_1460 : decode code 1460 = .ok (.invokevirtual 183, 3) := by decide +kernel
theorem d_law_1463 : decode code 1463 = .ok (.if_icmp .eq 30, 3) := by decide +kernel
theorem z_654 : (Jvm.Cond.methodLink "WhoseGlassLaw" (184 : Nat) ({ cls := "WhoseGlass", name := "toss", desc := "(I)I" } : Jvm.MethodName)) ∈ yGW := y_i3 174 rfl rfl
theorem z_655 : (Jvm.Cond.instanceMethod ({ cls := "WhoseGlass", name := "toss", desc := "(I)I" } : Jvm.MethodName)) ∈ yGW := y_i3 175 rfl rfl
theorem z_656 : (Jvm.Cond.selects "WhoseGlass" ({ cls := "WhoseGlass", name := "toss", desc := "(I)I" } : Jvm.MethodName) ({ cls := "WhoseGlass", name := "toss", desc := "(I)I" } : Jvm.MethodName)) ∈ yGW := y_i3 176 rfl rfl
theorem d_law_1468 : decode code 1468 = .ok (.aload_n 1, 1) := by decide +kernel
theorem d_law_1469 : decode code 1469 = .ok (.aload_n 0, 1) := by decide +kernel
theorem d_law_1470 : decode code 1470 = .ok (.iload 4, 2) := by decide +kernel
theorem d_law_1472 : decode code 1472 = .ok (.iconst 1, 1) := by decide +kernel
theorem d_law_1473 : decode code 1473 = .ok (.iadd, 1) := by decide +kernel
theorem d_law_1474 : decode code 1474 = .ok (.iaload, 1) := by decide +kernel
theorem d_law_1475 : decode code 1475 = .ok (.invokevirtual 184, 3) := by decide +kernel
theorem d_law_1478 : decode code 1478 = .ok (.aload_n 2, 1) := by decide +kernel
theorem d_law_1479 : decode code 1479 = .ok (.aload_n 0, 1) := by decide +kernel
theorem d_law_1480 : decode code 1480 = .ok (.iload 4, 2) := by decide +kernel
theorem d_law_1482 : decode code 1482 = .ok (.iconst 1, 1) := by decide +kernel
theorem d_law_1483 : decode code 1483 = .ok (.iadd, 1) := by decide +kernel
theorem d_law_1484 : decode code 1484 = .ok (.iaload, 1) := by decide +kernel
theorem z_1271 : (Jvm.Cond.methodLink "WhoseGlassLaw" (187 : Nat) ({ cls := "WhoseGlassModel", name := "toss", desc := "(I)I" } : Jvm.MethodName)) ∈ yGW := y_i6 71 rfl rfl
theorem z_1272 : (Jvm.Cond.instanceMethod ({ cls := "WhoseGlassModel", name := "toss", desc := "(I)I" } : Jvm.MethodName)) ∈ yGW := y_i6 72 rfl rfl
theorem z_1273 : (Jvm.Cond.selects "WhoseGlassModel" ({ cls := "WhoseGlassModel", name := "toss", desc := "(I)I" } : Jvm.MethodName) ({ cls := "WhoseGlassModel", name := "toss", desc := "(I)I" } : Jvm.MethodName)) ∈ yGW := y_i6 73 rfl rfl
theorem z_1274 : (Jvm.Cond.code ({ cls := "WhoseGlassModel", name := "toss", desc := "(I)I" } : Jvm.MethodName) prog_8_method_86_code (4 : Nat) (Option.some Jvm.ClassFile.FieldType.int)) ∈ yGW := y_i6 74 rfl rfl
theorem d_law_1485 : decode code 1485 = .ok (.invokevirtual 187, 3) := by decide +kernel
theorem d_law_1488 : decode code 1488 = .ok (.if_icmp .eq 5, 3) := by decide +kernel
theorem gc_law_175 : GoodIn yGW (wsV "WhoseGlassLaw" 175 yR4 m_X_copy ws_X_copy) := y_gV z_635 z_636 z_637 g_1 z_638
theorem gc_law_179 : GoodIn yGW (wsV "WhoseGlassLaw" 179 yR5 m_M_copy ws_M_copy) := y_gV z_1260 z_1261 z_1262 g_6 z_1263
theorem l_c36 {p : Program} {l : Launch} {e : Env} {s : State} {m : MethodId} {below : List Frame} {meth : Method} {c : Code} {Q : State → Prop} {cells slots b L i : Nat} {xs : Nat → Int32} {w2 : va_G × (Nat → ClassId)} {aX aM : Nat → Nat} {qo : Nat} {σ τ : Mm} {g : Nat → Int64} (C : lC p l s m meth c b L xs w2) (D : lD s.heap.size aX aM qo) (hi : 6 * i + 6 ≤ L) (R : Rel σ τ) (hcs : cells + 1 ≤ room_1.cells ∧ slots + 6 ≤ room_1.slots) (J : ∀ (σ1 τ1 : Mm) (g1 : Nat → Int64), Rel σ1 τ1 → lG p l e s m below meth c b w2 aX aM qo Q (cells + 1) (slots + 6) σ1 τ1 g1 1493 (lvI b aX aM qo i) []) : lG p l e s m below meth c b w2 aX aM qo Q cells slots σ τ g 1370 (lvI b aX aM qo i) [] := by
  obtain ⟨N, R⟩ := R
  obtain ⟨p1, hp, q1, hq, e1, R1⟩ := q_copy (F := 3000) (xs (6 * i + 1)) (xs (6 * i + 2)) (xs (6 * i + 3)) (xs (6 * i + 4)) (xs (6 * i + 5)) R (Nat.le_of_ble_eq_true rfl)
  refine l_aX C d_law_1370 ?_
  refine l_arg 1 C hi (by decide) rfl d_law_1371 d_law_1372 d_law_1374 d_law_1375 d_law_1376 ?_
  refine l_arg 2 C hi (by decide) rfl d_law_1377 d_law_1378 d_law_1380 d_law_1381 d_law_1382 ?_
  refine l_arg 3 C hi (by decide) rfl d_law_1383 d_law_1384 d_law_1386 d_law_1387 d_law_1388 ?_
  refine l_arg 4 C hi (by decide) rfl d_law_1389 d_law_1390 d_law_1392 d_law_1393 d_law_1394 ?_
  refine l_arg 5 C hi (by decide) rfl d_law_1395 d_law_1396 d_law_1398 d_law_1399 d_law_1400 ?_
  refine l_callX 5 C D (c_X_copy l (aX, w2) 3000 σ 0 _ _ _ _ _ p1 hp) gc_law_175 hd_X_copy ⟨Nat.le_of_ble_eq_true rfl, Nat.le_of_ble_eq_true rfl⟩ rfl rfl ⟨Nat.le_of_succ_le hcs.1, Nat.le_trans (Nat.le_add_right _ _) hcs.2⟩ rfl rfl (Nat.le_of_ble_eq_true rfl) d_law_1401 ?_
  refine l_aM C d_law_1404 ?_
  refine l_arg 1 C hi (by decide) rfl d_law_1405 d_law_1406 d_law_1408 d_law_1409 d_law_1410 ?_
  refine l_arg 2 C hi (by decide) rfl d_law_1411 d_law_1412 d_law_1414 d_law_1415 d_law_1416 ?_
  refine l_arg 3 C hi (by decide) rfl d_law_1417 d_law_1418 d_law_1420 d_law_1421 d_law_1422 ?_
  refine l_arg 4 C hi (by decide) rfl d_law_1423 d_law_1424 d_law_1426 d_law_1427 d_law_1428 ?_
  refine l_arg 5 C hi (by decide) rfl d_law_1429 d_law_1430 d_law_1432 d_law_1433 d_law_1434 ?_
  refine l_callM 5 C D (c_M_copy l (aM, w2) 3000 τ 0 _ _ _ _ _ q1 hq) gc_law_179 hd_M_copy ⟨Nat.le_of_ble_eq_true rfl, Nat.le_of_ble_eq_true rfl⟩ rfl rfl ⟨Nat.le_of_succ_le hcs.1, Nat.le_trans (Nat.le_add_right _ _) hcs.2⟩ rfl rfl (Nat.le_of_ble_eq_true rfl) d_law_1435 ?_
  refine l_ceq (tgt := 1493) C e1 d_law_1438 (by decide) ?_
  exact l_wide (Nat.le_succ _) (Nat.le_add_right _ _) (J p1.2 q1.2 g R1)
theorem gc_law_180 : GoodIn yGW (wsV "WhoseGlassLaw" 180 yR4 m_X_cost ws_X_cost) := y_gV z_646 z_647 z_648 g_1 z_649
theorem gc_law_183 : GoodIn yGW (wsV "WhoseGlassLaw" 183 yR5 m_M_cost ws_M_cost) := y_gV z_1264 z_1265 z_1266 g_6 z_1267
theorem l_c37 {p : Program} {l : Launch} {e : Env} {s : State} {m : MethodId} {below : List Frame} {meth : Method} {c : Code} {Q : State → Prop} {cells slots b L i : Nat} {xs : Nat → Int32} {w2 : va_G × (Nat → ClassId)} {aX aM : Nat → Nat} {qo : Nat} {σ τ : Mm} {g : Nat → Int64} (C : lC p l s m meth c b L xs w2) (D : lD s.heap.size aX aM qo) (hi : 6 * i + 6 ≤ L) (R : Rel σ τ) (hcs : cells + 1 ≤ room_1.cells ∧ slots + 6 ≤ room_1.slots) (J : ∀ (σ1 τ1 : Mm) (g1 : Nat → Int64), Rel σ1 τ1 → lG p l e s m below meth c b w2 aX aM qo Q (cells + 1) (slots + 6) σ1 τ1 g1 1493 (lvI b aX aM qo i) []) : lG p l e s m below meth c b w2 aX aM qo Q cells slots σ τ g 1443 (lvI b aX aM qo i) [] := by
  obtain ⟨N, R⟩ := R
  obtain ⟨p1, hp, q1, hq, e1, R1⟩ := q_cost (F := 3000) (xs (6 * i + 1)) R
  refine l_aX C d_law_1443 ?_
  refine l_arg 1 C hi (by decide) rfl d_law_1444 d_law_1445 d_law_1447 d_law_1448 d_law_1449 ?_
  refine l_callX 1 C D (c_X_cost l (aX, w2) 3000 σ 0 _ p1 hp) gc_law_180 hd_X_cost ⟨Nat.le_of_ble_eq_true rfl, Nat.le_of_ble_eq_true rfl⟩ rfl rfl ⟨Nat.le_of_succ_le hcs.1, Nat.le_trans (Nat.le_add_right _ _) hcs.2⟩ rfl rfl (Nat.le_of_ble_eq_true rfl) d_law_1450 ?_
  refine l_aM C d_law_1453 ?_
  refine l_arg 1 C hi (by decide) rfl d_law_1454 d_law_1455 d_law_1457 d_law_1458 d_law_1459 ?_
  refine l_callM 1 C D (c_M_cost l (aM, w2) 3000 τ 0 _ q1 hq) gc_law_183 hd_M_cost ⟨Nat.le_of_ble_eq_true rfl, Nat.le_of_ble_eq_true rfl⟩ rfl rfl ⟨Nat.le_of_succ_le hcs.1, Nat.le_trans (Nat.le_add_right _ _) hcs.2⟩ rfl rfl (Nat.le_of_ble_eq_true rfl) d_law_1460 ?_
  refine l_ceq (tgt := 1493) C e1 d_law_1463 (by decide) ?_
  exact l_wide (Nat.le_succ _) (Nat.le_add_right _ _) (J p1.2 q1.2 g R1)
theorem gc_law_184 : GoodIn yGW (wsV "WhoseGlassLaw" 184 yR4 m_X_toss ws_X_toss) := y_gVW z_654 z_655 z_656 g_1 z_657
theorem gc_law_187 : GoodIn yGW (wsV "WhoseGlassLaw" 187 yR5 m_M_toss ws_M_toss) := y_gV z_1271 z_1272 z_1273 g_6 z_1274
theorem l_c38 {p : Program} {l : Launch} {e : Env} {s : State} {m : MethodId} {below : List Frame} {meth : Method} {c : Code} {Q : State → Prop} {cells slots b L i : Nat} {xs : Nat → Int32} {w2 : va_G × (Nat → ClassId)} {aX aM : Nat → Nat} {qo : Nat} {σ τ : Mm} {g : Nat → Int64} (C : lC p l s m meth c b L xs w2) (D : lD s.heap.size aX aM qo) (hi : 6 * i + 6 ≤ L) (R : Rel σ τ) (hcs : cells + 1 ≤ room_1.cells ∧ slots + 6 ≤ room_1.slots) (J : ∀ (σ1 τ1 : Mm) (g1 : Nat → Int64), Rel σ1 τ1 → lG p l e s m below meth c b w2 aX aM qo Q (cells + 1) (slots + 6) σ1 τ1 g1 1493 (lvI b aX aM qo i) []) : lG p l e s m below meth c b w2 aX aM qo Q cells slots σ τ g 1468 (lvI b aX aM qo i) [] := by
  obtain ⟨N, R⟩ := R
  obtain ⟨p1, hp, q1, hq, e1, R1⟩ := q_toss (F := 3000) (xs (6 * i + 1)) R
  refine l_aX C d_law_1468 ?_
  refine l_arg 1 C hi (by decide) rfl d_law_1469 d_law_1470 d_law_1472 d_law_1473 d_law_1474 ?_
  refine l_callT 1 C D (c_X_toss l C.2.2.2.2.2.2.2.2.2.2.2.2.2.1 (aX, w2) 3000 σ 0 _ p1 hp) gc_law_184 hd_X_toss ⟨Nat.le_of_ble_eq_true rfl, Nat.le_of_ble_eq_true rfl⟩ rfl rfl hcs rfl rfl (Nat.le_of_ble_eq_true rfl) d_law_1475 ?_
  refine l_aM C d_law_1478 ?_
  refine l_arg 1 C hi (by decide) rfl d_law_1479 d_law_1480 d_law_1482 d_law_1483 d_law_1484 ?_
  refine l_callM 1 C D (c_M_toss l (aM, w2) 3000 τ 0 _ q1 hq) gc_law_187 hd_M_toss ⟨Nat.le_of_ble_eq_true rfl, Nat.le_of_ble_eq_true rfl⟩ rfl rfl hcs rfl rfl (Nat.le_of_ble_eq_true rfl) d_law_1485 ?_
  refine l_ceq (tgt := 1493) C e1 d_law_1488 (by decide) ?_
  exact J p1.2 q1.2 g R1
