/-! PURE 88: the law, cases 0..2 -/
theorem z_218 : (Jvm.Cond.methodLink "WhoseGlassLaw" (21 : Nat) ({ cls := "WhoseGlass", name := "house", desc := "(I)I" } : Jvm.MethodName)) ∈ yGW := y_i1 218 rfl rfl
theorem z_219 : (Jvm.Cond.instanceMethod ({ cls := "WhoseGlass", name := "house", desc := "(I)I" } : Jvm.MethodName)) ∈ yGW := y_i1 219 rfl rfl
theorem z_220 : (Jvm.Cond.selects "WhoseGlass" ({ cls := "WhoseGlass", name := "house", desc := "(I)I" } : Jvm.MethodName) ({ cls := "WhoseGlass", name := "house", desc := "(I)I" } : Jvm.MethodName)) ∈ yGW := y_i1 220 rfl rfl
theorem z_221 : (Jvm.Cond.code ({ cls := "WhoseGlass", name := "house", desc := "(I)I" } : Jvm.MethodName) prog_1_method_2_code (5 : Nat) (Option.some Jvm.ClassFile.FieldType.int)) ∈ yGW := y_i1 221 rfl rfl
theorem d_law_212 : decode code 212 = .ok (.aload_n 1, 1) := by decide +kernel
theorem d_law_213 : decode code 213 = .ok (.aload_n 0, 1) := by decide +kernel
theorem d_law_214 : decode code 214 = .ok (.iload 4, 2) := by decide +kernel
theorem d_law_216 : decode code 216 = .ok (.iconst 1, 1) := by decide +kernel
theorem d_law_217 : decode code 217 = .ok (.iadd, 1) := by decide +kernel
theorem d_law_218 : decode code 218 = .ok (.iaload, 1) := by decide +kernel
theorem d_law_219 : decode code 219 = .ok (.invokevirtual 21, 3) := by decide +kernel
theorem d_law_222 : decode code 222 = .ok (.aload_n 2, 1) := by decide +kernel
theorem d_law_223 : decode code 223 = .ok (.aload_n 0, 1) := by decide +kernel
theorem d_law_224 : decode code 224 = .ok (.iload 4, 2) := by decide +kernel
theorem d_law_226 : decode code 226 = .ok (.iconst 1, 1) := by decide +kernel
theorem d_law_227 : decode code 227 = .ok (.iadd, 1) := by decide +kernel
theorem d_law_228 : decode code 228 = .ok (.iaload, 1) := by decide +kernel
theorem z_944 : (Jvm.Cond.methodLink "WhoseGlassLaw" (25 : Nat) ({ cls := "WhoseGlassModel", name := "house", desc := "(I)I" } : Jvm.MethodName)) ∈ yGW := y_i4 224 rfl rfl
theorem z_945 : (Jvm.Cond.instanceMethod ({ cls := "WhoseGlassModel", name := "house", desc := "(I)I" } : Jvm.MethodName)) ∈ yGW := y_i4 225 rfl rfl
theorem z_946 : (Jvm.Cond.selects "WhoseGlassModel" ({ cls := "WhoseGlassModel", name := "house", desc := "(I)I" } : Jvm.MethodName) ({ cls := "WhoseGlassModel", name := "house", desc := "(I)I" } : Jvm.MethodName)) ∈ yGW := y_i4 226 rfl rfl
theorem z_947 : (Jvm.Cond.code ({ cls := "WhoseGlassModel", name := "house", desc := "(I)I" } : Jvm.MethodName) prog_8_method_38_code (4 : Nat) (Option.some Jvm.ClassFile.FieldType.int)) ∈ yGW := y_i4 227 rfl rfl
theorem d_law_229 : decode code 229 = .ok (.invokevirtual 25, 3) := by decide +kernel
theorem d_law_232 : decode code 232 = .ok (.if_icmp .eq 1261, 3) := by decide +kernel
theorem z_377 : (Jvm.Cond.methodLink "WhoseGlassLaw" (26 : Nat) ({ cls := "WhoseGlass", name := "glass", desc := "(II)I" } : Jvm.MethodName)) ∈ yGW := y_i2 137 rfl rfl
theorem z_378 : (Jvm.Cond.instanceMethod ({ cls := "WhoseGlass", name := "glass", desc := "(II)I" } : Jvm.MethodName)) ∈ yGW := y_i2 138 rfl rfl
theorem z_379 : (Jvm.Cond.selects "WhoseGlass" ({ cls := "WhoseGlass", name := "glass", desc := "(II)I" } : Jvm.MethodName) ({ cls := "WhoseGlass", name := "glass", desc := "(II)I" } : Jvm.MethodName)) ∈ yGW := y_i2 139 rfl rfl
theorem z_380 : (Jvm.Cond.code ({ cls := "WhoseGlass", name := "glass", desc := "(II)I" } : Jvm.MethodName) prog_1_method_3_code (4 : Nat) (Option.some Jvm.ClassFile.FieldType.int)) ∈ yGW := y_i2 140 rfl rfl
theorem d_law_237 : decode code 237 = .ok (.aload_n 1, 1) := by decide +kernel
theorem d_law_238 : decode code 238 = .ok (.aload_n 0, 1) := by decide +kernel
theorem d_law_239 : decode code 239 = .ok (.iload 4, 2) := by decide +kernel
theorem d_law_241 : decode code 241 = .ok (.iconst 1, 1) := by decide +kernel
theorem d_law_242 : decode code 242 = .ok (.iadd, 1) := by decide +kernel
theorem d_law_243 : decode code 243 = .ok (.iaload, 1) := by decide +kernel
theorem d_law_244 : decode code 244 = .ok (.aload_n 0, 1) := by decide +kernel
theorem d_law_245 : decode code 245 = .ok (.iload 4, 2) := by decide +kernel
theorem d_law_247 : decode code 247 = .ok (.iconst 2, 1) := by decide +kernel
theorem d_law_248 : decode code 248 = .ok (.iadd, 1) := by decide +kernel
theorem d_law_249 : decode code 249 = .ok (.iaload, 1) := by decide +kernel
theorem d_law_250 : decode code 250 = .ok (.invokevirtual 26, 3) := by decide +kernel
theorem d_law_253 : decode code 253 = .ok (.aload_n 2, 1) := by decide +kernel
theorem d_law_254 : decode code 254 = .ok (.aload_n 0, 1) := by decide +kernel
theorem d_law_255 : decode code 255 = .ok (.iload 4, 2) := by decide +kernel
theorem d_law_257 : decode code 257 = .ok (.iconst 1, 1) := by decide +kernel
theorem d_law_258 : decode code 258 = .ok (.iadd, 1) := by decide +kernel
theorem d_law_259 : decode code 259 = .ok (.iaload, 1) := by decide +kernel
theorem d_law_260 : decode code 260 = .ok (.aload_n 0, 1) := by decide +kernel
theorem d_law_261 : decode code 261 = .ok (.iload 4, 2) := by decide +kernel
theorem d_law_263 : decode code 263 = .ok (.iconst 2, 1) := by decide +kernel
theorem d_law_264 : decode code 264 = .ok (.iadd, 1) := by decide +kernel
theorem d_law_265 : decode code 265 = .ok (.iaload, 1) := by decide +kernel
theorem z_1070 : (Jvm.Cond.methodLink "WhoseGlassLaw" (30 : Nat) ({ cls := "WhoseGlassModel", name := "glass", desc := "(II)I" } : Jvm.MethodName)) ∈ yGW := y_i5 110 rfl rfl
theorem z_1071 : (Jvm.Cond.instanceMethod ({ cls := "WhoseGlassModel", name := "glass", desc := "(II)I" } : Jvm.MethodName)) ∈ yGW := y_i5 111 rfl rfl
theorem z_1072 : (Jvm.Cond.selects "WhoseGlassModel" ({ cls := "WhoseGlassModel", name := "glass", desc := "(II)I" } : Jvm.MethodName) ({ cls := "WhoseGlassModel", name := "glass", desc := "(II)I" } : Jvm.MethodName)) ∈ yGW := y_i5 112 rfl rfl
theorem z_1073 : (Jvm.Cond.code ({ cls := "WhoseGlassModel", name := "glass", desc := "(II)I" } : Jvm.MethodName) prog_8_method_39_code (3 : Nat) (Option.some Jvm.ClassFile.FieldType.int)) ∈ yGW := y_i5 113 rfl rfl
theorem d_law_266 : decode code 266 = .ok (.invokevirtual 30, 3) := by decide +kernel
theorem d_law_269 : decode code 269 = .ok (.if_icmp .eq 1224, 3) := by decide +kernel
theorem z_387 : (Jvm.Cond.methodLink "WhoseGlassLaw" (31 : Nat) ({ cls := "WhoseGlass", name := "guest", desc := "(II)I" } : Jvm.MethodName)) ∈ yGW := y_i2 147 rfl rfl
theorem z_388 : (Jvm.Cond.instanceMethod ({ cls := "WhoseGlass", name := "guest", desc := "(II)I" } : Jvm.MethodName)) ∈ yGW := y_i2 148 rfl rfl
theorem z_389 : (Jvm.Cond.selects "WhoseGlass" ({ cls := "WhoseGlass", name := "guest", desc := "(II)I" } : Jvm.MethodName) ({ cls := "WhoseGlass", name := "guest", desc := "(II)I" } : Jvm.MethodName)) ∈ yGW := y_i2 149 rfl rfl
theorem z_390 : (Jvm.Cond.code ({ cls := "WhoseGlass", name := "guest", desc := "(II)I" } : Jvm.MethodName) prog_1_method_4_code (4 : Nat) (Option.some Jvm.ClassFile.FieldType.int)) ∈ yGW := y_i2 150 rfl rfl
theorem d_law_274 : decode code 274 = .ok (.aload_n 1, 1) := by decide +kernel
theorem d_law_275 : decode code 275 = .ok (.aload_n 0, 1) := by decide +kernel
theorem d_law_276 : decode code 276 = .ok (.iload 4, 2) := by decide +kernel
theorem d_law_278 : decode code 278 = .ok (.iconst 1, 1) := by decide +kernel
theorem d_law_279 : decode code 279 = .ok (.iadd, 1) := by decide +kernel
theorem d_law_280 : decode code 280 = .ok (.iaload, 1) := by decide +kernel
theorem d_law_281 : decode code 281 = .ok (.aload_n 0, 1) := by decide +kernel
theorem d_law_282 : decode code 282 = .ok (.iload 4, 2) := by decide +kernel
theorem d_law_284 : decode code 284 = .ok (.iconst 2, 1) := by decide +kernel
theorem d_law_285 : decode code 285 = .ok (.iadd, 1) := by decide +kernel
theorem d_law_286 : decode code 286 = .ok (.iaload, 1) := by decide +kernel
theorem d_law_287 : decode code 287 = .ok (.invokevirtual 31, 3) := by decide +kernel
theorem d_law_290 : decode code 290 = .ok (.aload_n 2, 1) := by decide +kernel
theorem d_law_291 : decode code 291 = .ok (.aload_n 0, 1) := by decide +kernel
theorem d_law_292 : decode code 292 = .ok (.iload 4, 2) := by decide +kernel
theorem d_law_294 : decode code 294 = .ok (.iconst 1, 1) := by decide +kernel
theorem d_law_295 : decode code 295 = .ok (.iadd, 1) := by decide +kernel
theorem d_law_296 : decode code 296 = .ok (.iaload, 1) := by decide +kernel
theorem d_law_297 : decode code 297 = .ok (.aload_n 0, 1) := by decide +kernel
theorem d_law_298 : decode code 298 = .ok (.iload 4, 2) := by decide +kernel
theorem d_law_300 : decode code 300 = .ok (.iconst 2, 1) := by decide +kernel
theorem d_law_301 : decode code 301 = .ok (.iadd, 1) := by decide +kernel
theorem d_law_302 : decode code 302 = .ok (.iaload, 1) := by decide +kernel
theorem z_1075 : (Jvm.Cond.methodLink "WhoseGlassLaw" (34 : Nat) ({ cls := "WhoseGlassModel", name := "guest", desc := "(II)I" } : Jvm.MethodName)) ∈ yGW := y_i5 115 rfl rfl
theorem z_1076 : (Jvm.Cond.instanceMethod ({ cls := "WhoseGlassModel", name := "guest", desc := "(II)I" } : Jvm.MethodName)) ∈ yGW := y_i5 116 rfl rfl
theorem z_1077 : (Jvm.Cond.selects "WhoseGlassModel" ({ cls := "WhoseGlassModel", name := "guest", desc := "(II)I" } : Jvm.MethodName) ({ cls := "WhoseGlassModel", name := "guest", desc := "(II)I" } : Jvm.MethodName)) ∈ yGW := y_i5 117 rfl rfl
theorem z_1078 : (Jvm.Cond.code ({ cls := "WhoseGlassModel", name := "guest", desc := "(II)I" } : Jvm.MethodName) prog_8_method_40_code (3 : Nat) (Option.some Jvm.ClassFile.FieldType.int)) ∈ yGW := y_i5 118 rfl rfl
theorem d_law_303 : decode code 303 = .ok (.invokevirtual 34, 3) := by decide +kernel
theorem d_law_306 : decode code 306 = .ok (.if_icmp .eq 1187, 3) := by decide +kernel
theorem gc_law_21 : GoodIn yGW (wsV "WhoseGlassLaw" 21 yR4 m_X_house ws_X_house) := y_gV z_218 z_219 z_220 g_1 z_221
theorem gc_law_25 : GoodIn yGW (wsV "WhoseGlassLaw" 25 yR5 m_M_house ws_M_house) := y_gV z_944 z_945 z_946 g_6 z_947
theorem l_c0 {p : Program} {l : Launch} {e : Env} {s : State} {m : MethodId} {below : List Frame} {meth : Method} {c : Code} {Q : State → Prop} {cells slots b L i : Nat} {xs : Nat → Int32} {w2 : va_G × (Nat → ClassId)} {aX aM : Nat → Nat} {qo : Nat} {σ τ : Mm} {g : Nat → Int64} (C : lC p l s m meth c b L xs w2) (D : lD s.heap.size aX aM qo) (hi : 6 * i + 6 ≤ L) (R : Rel σ τ) (hcs : cells + 1 ≤ room_1.cells ∧ slots + 6 ≤ room_1.slots) (J : ∀ (σ1 τ1 : Mm) (g1 : Nat → Int64), Rel σ1 τ1 → lG p l e s m below meth c b w2 aX aM qo Q (cells + 1) (slots + 6) σ1 τ1 g1 1493 (lvI b aX aM qo i) []) : lG p l e s m below meth c b w2 aX aM qo Q cells slots σ τ g 212 (lvI b aX aM qo i) [] := by
  obtain ⟨N, R⟩ := R
  obtain ⟨p1, hp, q1, hq, e1, R1⟩ := q_house (F := 3000) (xs (6 * i + 1)) R (Nat.le_of_ble_eq_true rfl)
  refine l_aX C d_law_212 ?_
  refine l_arg 1 C hi (by decide) rfl d_law_213 d_law_214 d_law_216 d_law_217 d_law_218 ?_
  refine l_callX 1 C D (c_X_house l (aX, w2) 3000 σ 0 _ p1 hp) gc_law_21 hd_X_house ⟨Nat.le_of_ble_eq_true rfl, Nat.le_of_ble_eq_true rfl⟩ rfl rfl ⟨Nat.le_of_succ_le hcs.1, Nat.le_trans (Nat.le_add_right _ _) hcs.2⟩ rfl rfl (Nat.le_of_ble_eq_true rfl) d_law_219 ?_
  refine l_aM C d_law_222 ?_
  refine l_arg 1 C hi (by decide) rfl d_law_223 d_law_224 d_law_226 d_law_227 d_law_228 ?_
  refine l_callM 1 C D (c_M_house l (aM, w2) 3000 τ 0 _ q1 hq) gc_law_25 hd_M_house ⟨Nat.le_of_ble_eq_true rfl, Nat.le_of_ble_eq_true rfl⟩ rfl rfl ⟨Nat.le_of_succ_le hcs.1, Nat.le_trans (Nat.le_add_right _ _) hcs.2⟩ rfl rfl (Nat.le_of_ble_eq_true rfl) d_law_229 ?_
  refine l_ceq (tgt := 1493) C e1 d_law_232 (by decide) ?_
  exact l_wide (Nat.le_succ _) (Nat.le_add_right _ _) (J p1.2 q1.2 g R1)
theorem gc_law_26 : GoodIn yGW (wsV "WhoseGlassLaw" 26 yR4 m_X_glass ws_X_glass) := y_gV z_377 z_378 z_379 g_1 z_380
theorem gc_law_30 : GoodIn yGW (wsV "WhoseGlassLaw" 30 yR5 m_M_glass ws_M_glass) := y_gV z_1070 z_1071 z_1072 g_6 z_1073
theorem l_c1 {p : Program} {l : Launch} {e : Env} {s : State} {m : MethodId} {below : List Frame} {meth : Method} {c : Code} {Q : State → Prop} {cells slots b L i : Nat} {xs : Nat → Int32} {w2 : va_G × (Nat → ClassId)} {aX aM : Nat → Nat} {qo : Nat} {σ τ : Mm} {g : Nat → Int64} (C : lC p l s m meth c b L xs w2) (D : lD s.heap.size aX aM qo) (hi : 6 * i + 6 ≤ L) (R : Rel σ τ) (hcs : cells + 1 ≤ room_1.cells ∧ slots + 6 ≤ room_1.slots) (J : ∀ (σ1 τ1 : Mm) (g1 : Nat → Int64), Rel σ1 τ1 → lG p l e s m below meth c b w2 aX aM qo Q (cells + 1) (slots + 6) σ1 τ1 g1 1493 (lvI b aX aM qo i) []) : lG p l e s m below meth c b w2 aX aM qo Q cells slots σ τ g 237 (lvI b aX aM qo i) [] := by
  obtain ⟨N, R⟩ := R
  obtain ⟨p1, hp, q1, hq, e1, R1⟩ := q_glass (F := 3000) (xs (6 * i + 1)) (xs (6 * i + 2)) R
  refine l_aX C d_law_237 ?_
  refine l_arg 1 C hi (by decide) rfl d_law_238 d_law_239 d_law_241 d_law_242 d_law_243 ?_
  refine l_arg 2 C hi (by decide) rfl d_law_244 d_law_245 d_law_247 d_law_248 d_law_249 ?_
  refine l_callX 2 C D (c_X_glass l (aX, w2) 3000 σ 0 _ _ p1 hp) gc_law_26 hd_X_glass ⟨Nat.le_of_ble_eq_true rfl, Nat.le_of_ble_eq_true rfl⟩ rfl rfl ⟨Nat.le_of_succ_le hcs.1, Nat.le_trans (Nat.le_add_right _ _) hcs.2⟩ rfl rfl (Nat.le_of_ble_eq_true rfl) d_law_250 ?_
  refine l_aM C d_law_253 ?_
  refine l_arg 1 C hi (by decide) rfl d_law_254 d_law_255 d_law_257 d_law_258 d_law_259 ?_
  refine l_arg 2 C hi (by decide) rfl d_law_260 d_law_261 d_law_263 d_law_264 d_law_265 ?_
  refine l_callM 2 C D (c_M_glass l (aM, w2) 3000 τ 0 _ _ q1 hq) gc_law_30 hd_M_glass ⟨Nat.le_of_ble_eq_true rfl, Nat.le_of_ble_eq_true rfl⟩ rfl rfl ⟨Nat.le_of_succ_le hcs.1, Nat.le_trans (Nat.le_add_right _ _) hcs.2⟩ rfl rfl (Nat.le_of_ble_eq_true rfl) d_law_266 ?_
  refine l_ceq (tgt := 1493) C e1 d_law_269 (by decide) ?_
  exact l_wide (Nat.le_succ _) (Nat.le_add_right _ _) (J p1.2 q1.2 g R1)
theorem gc_law_31 : GoodIn yGW (wsV "WhoseGlassLaw" 31 yR4 m_X_guest ws_X_guest) := y_gV z_387 z_388 z_389 g_1 z_390
theorem gc_law_34 : GoodIn yGW (wsV "WhoseGlassLaw" 34 yR5 m_M_guest ws_M_guest) := y_gV z_1075 z_1076 z_1077 g_6 z_1078
theorem l_c2 {p : Program} {l : Launch} {e : Env} {s : State} {m : MethodId} {below : List Frame} {meth : Method} {c : Code} {Q : State → Prop} {cells slots b L i : Nat} {xs : Nat → Int32} {w2 : va_G × (Nat → ClassId)} {aX aM : Nat → Nat} {qo : Nat} {σ τ : Mm} {g : Nat → Int64} (C : lC p l s m meth c b L xs w2) (D : lD s.heap.size aX aM qo) (hi : 6 * i + 6 ≤ L) (R : Rel σ τ) (hcs : cells + 1 ≤ room_1.cells ∧ slots + 6 ≤ room_1.slots) (J : ∀ (σ1 τ1 : Mm) (g1 : Nat → Int64), Rel σ1 τ1 → lG p l e s m below meth c b w2 aX aM qo Q (cells + 1) (slots + 6) σ1 τ1 g1 1493 (lvI b aX aM qo i) []) : lG p l e s m below meth c b w2 aX aM qo Q cells slots σ τ g 274 (lvI b aX aM qo i) [] := by
  obtain ⟨N, R⟩ := R
  obtain ⟨p1, hp, q1, hq, e1, R1⟩ := q_guest (F := 3000) (xs (6 * i + 1)) (xs (6 * i + 2)) R
  refine l_aX C d_law_274 ?_
  refine l_arg 1 C hi (by decide) rfl d_law_275 d_law_276 d_law_278 d_law_279 d_law_280 ?_
  refine l_arg 2 C hi (by decide) rfl d_law_281 d_law_282 d_law_284 d_law_285 d_law_286 ?_
  refine l_callX 2 C D (c_X_guest l (aX, w2) 3000 σ 0 _ _ p1 hp) gc_law_31 hd_X_guest ⟨Nat.le_of_ble_eq_true rfl, Nat.le_of_ble_eq_true rfl⟩ rfl rfl ⟨Nat.le_of_succ_le hcs.1, Nat.le_trans (Nat.le_add_right _ _) hcs.2⟩ rfl rfl (Nat.le_of_ble_eq_true rfl) d_law_287 ?_
  refine l_aM C d_law_290 ?_
  refine l_arg 1 C hi (by decide) rfl d_law_291 d_law_292 d_law_294 d_law_295 d_law_296 ?_
  refine l_arg 2 C hi (by decide) rfl d_law_297 d_law_298 d_law_300 d_law_301 d_law_302 ?_
  refine l_callM 2 C D (c_M_guest l (aM, w2) 3000 τ 0 _ _ q1 hq) gc_law_34 hd_M_guest ⟨Nat.le_of_ble_eq_true rfl, Nat.le_of_ble_eq_true rfl⟩ rfl rfl ⟨Nat.le_of_succ_le hcs.1, Nat.le_trans (Nat.le_add_right _ _) hcs.2⟩ rfl rfl (Nat.le_of_ble_eq_true rfl) d_law_303 ?_
  refine l_ceq (tgt := 1493) C e1 d_law_306 (by decide) ?_
  exact l_wide (Nat.le_succ _) (Nat.le_add_right _ _) (J p1.2 q1.2 g R1)
