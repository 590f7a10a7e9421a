/-! PURE 96: the law, cases 33.. -/
theorem z_615 : (Jvm.Cond.methodLink "WhoseGlassLaw" (158 : Nat) ({ cls := "WhoseGlass", name := "row", desc := "(III)I" } : Jvm.MethodName)) ∈ yGW := y_i3 135 rfl rfl
theorem z_616 : (Jvm.Cond.instanceMethod ({ cls := "WhoseGlass", name := "row", desc := "(III)I" } : Jvm.MethodName)) ∈ yGW := y_i3 136 rfl rfl
theorem z_617 : (Jvm.Cond.selects "WhoseGlass" ({ cls := "WhoseGlass", name := "row", desc := "(III)I" } : Jvm.MethodName) ({ cls := "WhoseGlass", name := "row", desc := "(III)I" } : Jvm.MethodName)) ∈ yGW := y_i3 137 rfl rfl
theorem z_618 : (Jvm.Cond.code ({ cls := "WhoseGlass", name := "row", desc := "(III)I" } : Jvm.MethodName) prog_1_method_35_code (5 : Nat) (Option.some Jvm.ClassFile.FieldType.int)) ∈ yGW := y_i3 138 rfl rfl
theorem d_law_1205 : decode code 1205 = .ok (.aload_n 1, 1) := by decide +kernel
theorem d_law_1206 : decode code 1206 = .ok (.aload_n 0, 1) := by decide +kernel
theorem d_law_1207 : decode code 1207 = .ok (.iload 4, 2) := by decide +kernel
theorem d_law_1209 : decode code 1209 = .ok (.iconst 1, 1) := by decide +kernel
theorem d_law_1210 : decode code 1210 = .ok (.iadd, 1) := by decide +kernel
theorem d_law_1211 : decode code 1211 = .ok (.iaload, 1) := by decide +kernel
theorem d_law_1212 : decode code 1212 = .ok (.aload_n 0, 1) := by decide +kernel
theorem d_law_1213 : decode code 1213 = .ok (.iload 4, 2) := by decide +kernel
theorem d_law_1215 : decode code 1215 = .ok (.iconst 2, 1) := by decide +kernel
theorem d_law_1216 : decode code 1216 = .ok (.iadd, 1) := by decide +kernel
theorem d_law_1217 : decode code 1217 = .ok (.iaload, 1) := by decide +kernel
theorem d_law_1218 : decode code 1218 = .ok (.aload_n 0, 1) := by decide +kernel
theorem d_law_1219 : decode code 1219 = .ok (.iload 4, 2) := by decide +kernel
theorem d_law_1221 : decode code 1221 = .ok (.iconst 3, 1) := by decide +kernel
theorem d_law_1222 : decode code 1222 = .ok (.iadd, 1) := by decide +kernel
theorem d_law_1223 : decode code 1223 = .ok (.iaload, 1) := by decide +kernel
theorem d_law_1224 : decode code 1224 = .ok (.invokevirtual 158, 3) := by decide +kernel
theorem d_law_1227 : decode code 1227 = .ok (.aload_n 2, 1) := by decide +kernel
theorem d_law_1228 : decode code 1228 = .ok (.aload_n 0, 1) := by decide +kernel
theorem d_law_1229 : decode code 1229 = .ok (.iload 4, 2) := by decide +kernel
theorem d_law_1231 : decode code 1231 = .ok (.iconst 1, 1) := by decide +kernel
theorem d_law_1232 : decode code 1232 = .ok (.iadd, 1) := by decide +kernel
theorem d_law_1233 : decode code 1233 = .ok (.iaload, 1) := by decide +kernel
theorem d_law_1234 : decode code 1234 = .ok (.aload_n 0, 1) := by decide +kernel
theorem d_law_1235 : decode code 1235 = .ok (.iload 4, 2) := by decide +kernel
theorem d_law_1237 : decode code 1237 = .ok (.iconst 2, 1) := by decide +kernel
theorem d_law_1238 : decode code 1238 = .ok (.iadd, 1) := by decide +kernel
theorem d_law_1239 : decode code 1239 = .ok (.iaload, 1) := by decide +kernel
theorem d_law_1240 : decode code 1240 = .ok (.aload_n 0, 1) := by decide +kernel
theorem d_law_1241 : decode code 1241 = .ok (.iload 4, 2) := by decide +kernel
theorem d_law_1243 : decode code 1243 = .ok (.iconst 3, 1) := by decide +kernel
theorem d_law_1244 : decode code 1244 = .ok (.iadd, 1) := by decide +kernel
theorem d_law_1245 : decode code 1245 = .ok (.iaload, 1) := by decide +kernel
theorem z_1244 : (Jvm.Cond.methodLink "WhoseGlassLaw" (161 : Nat) ({ cls := "WhoseGlassModel", name := "row", desc := "(III)I" } : Jvm.MethodName)) ∈ yGW := y_i6 44 rfl rfl
theorem z_1245 : (Jvm.Cond.instanceMethod ({ cls := "WhoseGlassModel", name := "row", desc := "(III)I" } : Jvm.MethodName)) ∈ yGW := y_i6 45 rfl rfl
theorem z_1246 : (Jvm.Cond.selects "WhoseGlassModel" ({ cls := "WhoseGlassModel", name := "row", desc := "(III)I" } : Jvm.MethodName) ({ cls := "WhoseGlassModel", name := "row", desc := "(III)I" } : Jvm.MethodName)) ∈ yGW := y_i6 46 rfl rfl
theorem z_1247 : (Jvm.Cond.code ({ cls := "WhoseGlassModel", name := "row", desc := "(III)I" } : Jvm.MethodName) prog_8_method_80_code (5 : Nat) (Option.some Jvm.ClassFile.FieldType.int)) ∈ yGW := y_i6 47 rfl rfl
theorem d_law_1246 : decode code 1246 = .ok (.invokevirtual 161, 3) := by decide +kernel
theorem d_law_1249 : decode code 1249 = .ok (.if_icmp .eq 244, 3) := by decide +kernel
theorem z_623 : (Jvm.Cond.methodLink "WhoseGlassLaw" (162 : Nat) ({ cls := "WhoseGlass", name := "put", desc := "(III)I" } : Jvm.MethodName)) ∈ yGW := y_i3 143 rfl rfl
theorem z_624 : (Jvm.Cond.instanceMethod ({ cls := "WhoseGlass", name := "put", desc := "(III)I" } : Jvm.MethodName)) ∈ yGW := y_i3 144 rfl rfl
theorem z_625 : (Jvm.Cond.selects "WhoseGlass" ({ cls := "WhoseGlass", name := "put", desc := "(III)I" } : Jvm.MethodName) ({ cls := "WhoseGlass", name := "put", desc := "(III)I" } : Jvm.MethodName)) ∈ yGW := y_i3 145 rfl rfl
theorem z_626 : (Jvm.Cond.code ({ cls := "WhoseGlass", name := "put", desc := "(III)I" } : Jvm.MethodName) prog_1_method_36_code (5 : Nat) (Option.some Jvm.ClassFile.FieldType.int)) ∈ yGW := y_i3 146 rfl rfl
theorem d_law_1254 : decode code 1254 = .ok (.aload_n 1, 1) := by decide +kernel
theorem d_law_1255 : decode code 1255 = .ok (.aload_n 0, 1) := by decide +kernel
theorem d_law_1256 : decode code 1256 = .ok (.iload 4, 2) := by decide +kernel
theorem d_law_1258 : decode code 1258 = .ok (.iconst 1, 1) := by decide +kernel
theorem d_law_1259 : decode code 1259 = .ok (.iadd, 1) := by decide +kernel
theorem d_law_1260 : decode code 1260 = .ok (.iaload, 1) := by decide +kernel
theorem d_law_1261 : decode code 1261 = .ok (.aload_n 0, 1) := by decide +kernel
theorem d_law_1262 : decode code 1262 = .ok (.iload 4, 2) := by decide +kernel
theorem d_law_1264 : decode code 1264 = .ok (.iconst 2, 1) := by decide +kernel
theorem d_law_1265 : decode code 1265 = .ok (.iadd, 1) := by decide +kernel
theorem d_law_1266 : decode code 1266 = .ok (.iaload, 1) := by decide +kernel
theorem d_law_1267 : decode code 1267 = .ok (.aload_n 0, 1) := by decide +kernel
theorem d_law_1268 : decode code 1268 = .ok (.iload 4, 2) := by decide +kernel
theorem d_law_1270 : decode code 1270 = .ok (.iconst 3, 1) := by decide +kernel
theorem d_law_1271 : decode code 1271 = .ok (.iadd, 1) := by decide +kernel
theorem d_law_1272 : decode code 1272 = .ok (.iaload, 1) := by decide +kernel
theorem d_law_1273 : decode code 1273 = .ok (.invokevirtual 162, 3) := by decide +kernel
theorem d_law_1276 : decode code 1276 = .ok (.aload_n 2, 1) := by decide +kernel
theorem d_law_1277 : decode code 1277 = .ok (.aload_n 0, 1) := by decide +kernel
theorem d_law_1278 : decode code 1278 = .ok (.iload 4, 2) := by decide +kernel
theorem d_law_1280 : decode code 1280 = .ok (.iconst 1, 1) := by decide +kernel
theorem d_law_1281 : decode code 1281 = .ok (.iadd, 1) := by decide +kernel
theorem d_law_1282 : decode code 1282 = .ok (.iaload, 1) := by decide +kernel
theorem d_law_1283 : decode code 1283 = .ok (.aload_n 0, 1) := by decide +kernel
theorem d_law_1284 : decode code 1284 = .ok (.iload 4, 2) := by decide +kernel
theorem d_law_1286 : decode code 1286 = .ok (.iconst 2, 1) := by decide +kernel
theorem d_law_1287 : decode code 1287 = .ok (.iadd, 1) := by decide +kernel
theorem d_law_1288 : decode code 1288 = .ok (.iaload, 1) := by decide +kernel
theorem d_law_1289 : decode code 1289 = .ok (.aload_n 0, 1) := by decide +kernel
theorem d_law_1290 : decode code 1290 = .ok (.iload 4, 2) := by decide +kernel
theorem d_law_1292 : decode code 1292 = .ok (.iconst 3, 1) := by decide +kernel
theorem d_law_1293 : decode code 1293 = .ok (.iadd, 1) := by decide +kernel
theorem d_law_1294 : decode code 1294 = .ok (.iaload, 1) := by decide +kernel
theorem z_1249 : (Jvm.Cond.methodLink "WhoseGlassLaw" (165 : Nat) ({ cls := "WhoseGlassModel", name := "put", desc := "(III)I" } : Jvm.MethodName)) ∈ yGW := y_i6 49 rfl rfl
theorem z_1250 : (Jvm.Cond.instanceMethod ({ cls := "WhoseGlassModel", name := "put", desc := "(III)I" } : Jvm.MethodName)) ∈ yGW := y_i6 50 rfl rfl
theorem z_1251 : (Jvm.Cond.selects "WhoseGlassModel" ({ cls := "WhoseGlassModel", name := "put", desc := "(III)I" } : Jvm.MethodName) ({ cls := "WhoseGlassModel", name := "put", desc := "(III)I" } : Jvm.MethodName)) ∈ yGW := y_i6 51 rfl rfl
theorem z_1252 : (Jvm.Cond.code ({ cls := "WhoseGlassModel", name := "put", desc := "(III)I" } : Jvm.MethodName) prog_8_method_81_code (5 : Nat) (Option.some Jvm.ClassFile.FieldType.int)) ∈ yGW := y_i6 52 rfl rfl
theorem d_law_1295 : decode code 1295 = .ok (.invokevirtual 165, 3) := by decide +kernel
theorem d_law_1298 : decode code 1298 = .ok (.if_icmp .eq 195, 3) := by decide +kernel
theorem gc_law_158 : GoodIn yGW (wsV "WhoseGlassLaw" 158 yR4 m_X_row ws_X_row) := y_gV z_615 z_616 z_617 g_1 z_618
theorem gc_law_161 : GoodIn yGW (wsV "WhoseGlassLaw" 161 yR5 m_M_row ws_M_row) := y_gV z_1244 z_1245 z_1246 g_6 z_1247
theorem l_c33 {p : Program} {l : Launch} {e : Env} {s : State} {m : MethodId} {below : List Frame} {meth : Method} {c : Code} {Q : State → Prop} {cells slots b L i : Nat} {xs : Nat → Int32} {w2 : va_G × (Nat → ClassId)} {aX aM : Nat → Nat} {qo : Nat} {σ τ : Mm} {g : Nat → Int64} (C : lC p l s m meth c b L xs w2) (D : lD s.heap.size aX aM qo) (hi : 6 * i + 6 ≤ L) (R : Rel σ τ) (hcs : cells + 1 ≤ room_1.cells ∧ slots + 6 ≤ room_1.slots) (J : ∀ (σ1 τ1 : Mm) (g1 : Nat → Int64), Rel σ1 τ1 → lG p l e s m below meth c b w2 aX aM qo Q (cells + 1) (slots + 6) σ1 τ1 g1 1493 (lvI b aX aM qo i) []) : lG p l e s m below meth c b w2 aX aM qo Q cells slots σ τ g 1205 (lvI b aX aM qo i) [] := by
  obtain ⟨N, R⟩ := R
  obtain ⟨p1, hp, q1, hq, e1, R1⟩ := q_row (F := 3000) (xs (6 * i + 1)) (xs (6 * i + 2)) (xs (6 * i + 3)) R (Nat.le_of_ble_eq_true rfl)
  refine l_aX C d_law_1205 ?_
  refine l_arg 1 C hi (by decide) rfl d_law_1206 d_law_1207 d_law_1209 d_law_1210 d_law_1211 ?_
  refine l_arg 2 C hi (by decide) rfl d_law_1212 d_law_1213 d_law_1215 d_law_1216 d_law_1217 ?_
  refine l_arg 3 C hi (by decide) rfl d_law_1218 d_law_1219 d_law_1221 d_law_1222 d_law_1223 ?_
  refine l_callX 3 C D (c_X_row l (aX, w2) 3000 σ 0 _ _ _ p1 hp) gc_law_158 hd_X_row ⟨Nat.le_of_ble_eq_true rfl, Nat.le_of_ble_eq_true rfl⟩ rfl rfl ⟨Nat.le_of_succ_le hcs.1, Nat.le_trans (Nat.le_add_right _ _) hcs.2⟩ rfl rfl (Nat.le_of_ble_eq_true rfl) d_law_1224 ?_
  refine l_aM C d_law_1227 ?_
  refine l_arg 1 C hi (by decide) rfl d_law_1228 d_law_1229 d_law_1231 d_law_1232 d_law_1233 ?_
  refine l_arg 2 C hi (by decide) rfl d_law_1234 d_law_1235 d_law_1237 d_law_1238 d_law_1239 ?_
  refine l_arg 3 C hi (by decide) rfl d_law_1240 d_law_1241 d_law_1243 d_law_1244 d_law_1245 ?_
  refine l_callM 3 C D (c_M_row l (aM, w2) 3000 τ 0 _ _ _ q1 hq) gc_law_161 hd_M_row ⟨Nat.le_of_ble_eq_true rfl, Nat.le_of_ble_eq_true rfl⟩ rfl rfl ⟨Nat.le_of_succ_le hcs.1, Nat.le_trans (Nat.le_add_right _ _) hcs.2⟩ rfl rfl (Nat.le_of_ble_eq_true rfl) d_law_1246 ?_
  refine l_ceq (tgt := 1493) C e1 d_law_1249 (by decide) ?_
  exact l_wide (Nat.le_succ _) (Nat.le_add_right _ _) (J p1.2 q1.2 g R1)
theorem gc_law_162 : GoodIn yGW (wsV "WhoseGlassLaw" 162 yR4 m_X_put ws_X_put) := y_gV z_623 z_624 z_625 g_1 z_626
theorem gc_law_165 : GoodIn yGW (wsV "WhoseGlassLaw" 165 yR5 m_M_put ws_M_put) := y_gV z_1249 z_1250 z_1251 g_6 z_1252
theorem l_c34 {p : Program} {l : Launch} {e : Env} {s : State} {m : MethodId} {below : List Frame} {meth : Method} {c : Code} {Q : State → Prop} {cells slots b L i : Nat} {xs : Nat → Int32} {w2 : va_G × (Nat → ClassId)} {aX aM : Nat → Nat} {qo : Nat} {σ τ : Mm} {g : Nat → Int64} (C : lC p l s m meth c b L xs w2) (D : lD s.heap.size aX aM qo) (hi : 6 * i + 6 ≤ L) (R : Rel σ τ) (hcs : cells + 1 ≤ room_1.cells ∧ slots + 6 ≤ room_1.slots) (J : ∀ (σ1 τ1 : Mm) (g1 : Nat → Int64), Rel σ1 τ1 → lG p l e s m below meth c b w2 aX aM qo Q (cells + 1) (slots + 6) σ1 τ1 g1 1493 (lvI b aX aM qo i) []) : lG p l e s m below meth c b w2 aX aM qo Q cells slots σ τ g 1254 (lvI b aX aM qo i) [] := by
  obtain ⟨N, R⟩ := R
  obtain ⟨p1, hp, q1, hq, e1, R1⟩ := q_put (F := 3000) (xs (6 * i + 1)) (xs (6 * i + 2)) (xs (6 * i + 3)) R
  refine l_aX C d_law_1254 ?_
  refine l_arg 1 C hi (by decide) rfl d_law_1255 d_law_1256 d_law_1258 d_law_1259 d_law_1260 ?_
  refine l_arg 2 C hi (by decide) rfl d_law_1261 d_law_1262 d_law_1264 d_law_1265 d_law_1266 ?_
  refine l_arg 3 C hi (by decide) rfl d_law_1267 d_law_1268 d_law_1270 d_law_1271 d_law_1272 ?_
  refine l_callX 3 C D (c_X_put l (aX, w2) 3000 σ 0 _ _ _ p1 hp) gc_law_162 hd_X_put ⟨Nat.le_of_ble_eq_true rfl, Nat.le_of_ble_eq_true rfl⟩ rfl rfl ⟨Nat.le_of_succ_le hcs.1, Nat.le_trans (Nat.le_add_right _ _) hcs.2⟩ rfl rfl (Nat.le_of_ble_eq_true rfl) d_law_1273 ?_
  refine l_aM C d_law_1276 ?_
  refine l_arg 1 C hi (by decide) rfl d_law_1277 d_law_1278 d_law_1280 d_law_1281 d_law_1282 ?_
  refine l_arg 2 C hi (by decide) rfl d_law_1283 d_law_1284 d_law_1286 d_law_1287 d_law_1288 ?_
  refine l_arg 3 C hi (by decide) rfl d_law_1289 d_law_1290 d_law_1292 d_law_1293 d_law_1294 ?_
  refine l_callM 3 C D (c_M_put l (aM, w2) 3000 τ 0 _ _ _ q1 hq) gc_law_165 hd_M_put ⟨Nat.le_of_ble_eq_true rfl, Nat.le_of_ble_eq_true rfl⟩ rfl rfl ⟨Nat.le_of_succ_le hcs.1, Nat.le_trans (Nat.le_add_right _ _) hcs.2⟩ rfl rfl (Nat.le_of_ble_eq_true rfl) d_law_1295 ?_
  refine l_ceq (tgt := 1493) C e1 d_law_1298 (by decide) ?_
  exact l_wide (Nat.le_succ _) (Nat.le_add_right _ _) (J p1.2 q1.2 g R1)
