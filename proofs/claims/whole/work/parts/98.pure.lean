/-! PURE 98: the law, case 35 -/
theorem d_law_1303 : decode code 1303 = .ok (.aload_n 1, 1) := by decide +kernel
theorem d_law_1304 : decode code 1304 = .ok (.aload_n 0, 1) := by decide +kernel
theorem d_law_1305 : decode code 1305 = .ok (.iload 4, 2) := by decide +kernel
theorem d_law_1307 : decode code 1307 = .ok (.iconst 1, 1) := by decide +kernel
theorem d_law_1308 : decode code 1308 = .ok (.iadd, 1) := by decide +kernel
theorem d_law_1309 : decode code 1309 = .ok (.iaload, 1) := by decide +kernel
theorem d_law_1310 : decode code 1310 = .ok (.aload_n 0, 1) := by decide +kernel
theorem d_law_1311 : decode code 1311 = .ok (.iload 4, 2) := by decide +kernel
theorem d_law_1313 : decode code 1313 = .ok (.iconst 2, 1) := by decide +kernel
theorem d_law_1314 : decode code 1314 = .ok (.iadd, 1) := by decide +kernel
theorem d_law_1315 : decode code 1315 = .ok (.iaload, 1) := by decide +kernel
theorem d_law_1316 : decode code 1316 = .ok (.aload_n 3, 1) := by decide +kernel
theorem d_law_1317 : decode code 1317 = .ok (.invokestatic 166, 3) := by decide +kernel
theorem d_law_1320 : decode code 1320 = .ok (.istore 5, 2) := by decide +kernel
theorem d_law_1322 : decode code 1322 = .ok (.aload_n 2, 1) := by decide +kernel
theorem d_law_1323 : decode code 1323 = .ok (.aload_n 0, 1) := by decide +kernel
theorem d_law_1324 : decode code 1324 = .ok (.iload 4, 2) := by decide +kernel
theorem d_law_1326 : decode code 1326 = .ok (.iconst 1, 1) := by decide +kernel
theorem d_law_1327 : decode code 1327 = .ok (.iadd, 1) := by decide +kernel
theorem d_law_1328 : decode code 1328 = .ok (.iaload, 1) := by decide +kernel
theorem d_law_1329 : decode code 1329 = .ok (.aload_n 0, 1) := by decide +kernel
theorem d_law_1330 : decode code 1330 = .ok (.iload 4, 2) := by decide +kernel
theorem d_law_1332 : decode code 1332 = .ok (.iconst 2, 1) := by decide +kernel
theorem d_law_1333 : decode code 1333 = .ok (.iadd, 1) := by decide +kernel
theorem d_law_1334 : decode code 1334 = .ok (.iaload, 1) := by decide +kernel
theorem d_law_1335 : decode code 1335 = .ok (.invokevirtual 171, 3) := by decide +kernel
theorem d_law_1338 : decode code 1338 = .ok (.lstore 6, 2) := by decide +kernel
theorem d_law_1340 : decode code 1340 = .ok (.aload_n 2, 1) := by decide +kernel
theorem d_law_1341 : decode code 1341 = .ok (.invokevirtual 172, 3) := by decide +kernel
theorem d_law_1344 : decode code 1344 = .ok (.iload 5, 2) := by decide +kernel
theorem d_law_1346 : decode code 1346 = .ok (.if_icmp .eq 5, 3) := by decide +kernel
theorem d_law_1351 : decode code 1351 = .ok (.iload 5, 2) := by decide +kernel
theorem d_law_1353 : decode code 1353 = .ok (.ifCond .ne 14, 3) := by decide +kernel
theorem d_law_1356 : decode code 1356 = .ok (.aload_n 3, 1) := by decide +kernel
theorem d_law_1357 : decode code 1357 = .ok (.iconst 0, 1) := by decide +kernel
theorem d_law_1358 : decode code 1358 = .ok (.laload, 1) := by decide +kernel
theorem d_law_1359 : decode code 1359 = .ok (.lload 6, 2) := by decide +kernel
theorem d_law_1361 : decode code 1361 = .ok (.lcmp, 1) := by decide +kernel
theorem d_law_1362 : decode code 1362 = .ok (.ifCond .eq 5, 3) := by decide +kernel
theorem d_law_1367 : decode code 1367 = .ok (.goto 126, 3) := by decide +kernel
theorem z_1256 : (Jvm.Cond.methodLink "WhoseGlassLaw" (171 : Nat) ({ cls := "WhoseGlassModel", name := "element", desc := "(II)J" } : Jvm.MethodName)) ∈ yGW := y_i6 56 rfl rfl
theorem z_1257 : (Jvm.Cond.instanceMethod ({ cls := "WhoseGlassModel", name := "element", desc := "(II)J" } : Jvm.MethodName)) ∈ yGW := y_i6 57 rfl rfl
theorem z_1258 : (Jvm.Cond.selects "WhoseGlassModel" ({ cls := "WhoseGlassModel", name := "element", desc := "(II)J" } : Jvm.MethodName) ({ cls := "WhoseGlassModel", name := "element", desc := "(II)J" } : Jvm.MethodName)) ∈ yGW := y_i6 58 rfl rfl
theorem z_1259 : (Jvm.Cond.code ({ cls := "WhoseGlassModel", name := "element", desc := "(II)J" } : Jvm.MethodName) prog_8_method_82_code (4 : Nat) (Option.some Jvm.ClassFile.FieldType.long)) ∈ yGW := y_i6 59 rfl rfl
theorem z_924 : (Jvm.Cond.methodLink "WhoseGlassLaw" (172 : Nat) ({ cls := "WhoseGlassModel", name := "thrown", desc := "()I" } : Jvm.MethodName)) ∈ yGW := y_i4 204 rfl rfl
theorem z_925 : (Jvm.Cond.instanceMethod ({ cls := "WhoseGlassModel", name := "thrown", desc := "()I" } : Jvm.MethodName)) ∈ yGW := y_i4 205 rfl rfl
theorem z_926 : (Jvm.Cond.selects "WhoseGlassModel" ({ cls := "WhoseGlassModel", name := "thrown", desc := "()I" } : Jvm.MethodName) ({ cls := "WhoseGlassModel", name := "thrown", desc := "()I" } : Jvm.MethodName)) ∈ yGW := y_i4 206 rfl rfl
theorem z_927 : (Jvm.Cond.code ({ cls := "WhoseGlassModel", name := "thrown", desc := "()I" } : Jvm.MethodName) prog_8_method_2_code (1 : Nat) (Option.some Jvm.ClassFile.FieldType.int)) ∈ yGW := y_i4 207 rfl rfl
theorem z_765 : (Jvm.Cond.methodLink "WhoseGlassLaw" (166 : Nat) ({ cls := "WhoseGlassLaw", name := "element", desc := "(LWhoseGlass;II[J)I" } : Jvm.MethodName)) ∈ yGW := y_i4 45 rfl rfl
theorem z_766 : (Jvm.Cond.static ({ cls := "WhoseGlassLaw", name := "element", desc := "(LWhoseGlass;II[J)I" } : Jvm.MethodName)) ∈ yGW := y_i4 46 rfl rfl
theorem z_0 : (Jvm.Cond.initialized "WhoseGlassLaw") ∈ yGW := y_i1 0 rfl rfl
theorem gc_law_171 : GoodIn yGW (wsV "WhoseGlassLaw" 171 yR5 m_M_element ws_M_element) := y_gV z_1256 z_1257 z_1258 g_6 z_1259
theorem gc_law_172 : GoodIn yGW (wsV "WhoseGlassLaw" 172 yR5 m_M_thrown ws_M_thrown) := y_gV z_924 z_925 z_926 g_6 z_927
theorem gc_law_166 : GoodIn yGW (va_wsS "WhoseGlassLaw" 166 m_L_element ws_L_element) := y_gSW z_765 z_766 z_0 z_767
section LC
variable {p : Program} {l : Launch} {e : Env} {s : State} {m : MethodId} {below : List Frame} {meth : Method} {c : Code} {Q : State → Prop} {cells slots : Nat}
variable {b L i pc : Nat} {xs : Nat → Int32} {w2 : va_G × (Nat → ClassId)} {aX aM : Nat → Nat} {qo : Nat} {σ τ : Mm} {g : Nat → Int64} {st : List Value} {lv : List (Nat × Value)}
theorem l_an {k : Fin 4} {n a : Nat} (j : Nat) (C : lC p l s m meth c b L xs w2) (hdg : decode code pc = .ok (.aload_n k, 1)) (hi : (k : Nat) = n) (hj : lv[j]? = some (n, .ref a)) (K : lG p l e s m below meth c b w2 aX aM qo Q cells slots σ τ g (pc + 1) lv (.ref a :: st)) : lG p l e s m below meth c b w2 aX aM qo Q cells slots σ τ g pc lv st := fun H locs ls h1 h2 h3 =>
  lv_aload_n C.1 C.2.1 hdg hi (lv_at h1 j hj) (K H locs ls h1 h2 h3)
theorem l_il {n : Nat} {x : Int32} (j : Nat) (C : lC p l s m meth c b L xs w2) (hdg : decode code pc = .ok (.iload n, 2)) (hj : lv[j]? = some (n, .int x)) (K : lG p l e s m below meth c b w2 aX aM qo Q cells slots σ τ g (pc + 2) lv (.int x :: st)) : lG p l e s m below meth c b w2 aX aM qo Q cells slots σ τ g pc lv st := fun H locs ls h1 h2 h3 =>
  lv_iload C.1 C.2.1 hdg (lv_at h1 j hj) (K H locs ls h1 h2 h3)
theorem l_ll {n : Nat} {x : Int64} (j : Nat) (C : lC p l s m meth c b L xs w2) (hdg : decode code pc = .ok (.lload n, 2)) (hj : lv[j]? = some (n, .long x)) (K : lG p l e s m below meth c b w2 aX aM qo Q cells slots σ τ g (pc + 2) lv (.long x :: st)) : lG p l e s m below meth c b w2 aX aM qo Q cells slots σ τ g pc lv st := fun H locs ls h1 h2 h3 =>
  lv_lload C.1 C.2.1 hdg (lv_at h1 j hj) (K H locs ls h1 h2 h3)
theorem l_is {n : Nat} {v : Int32} {lvp : List (Nat × Value)} (C : lC p l s m meth c b L xs w2) (hdg : decode code pc = .ok (.istore n, 2)) (hn : n < 8) (hl : lv.filter (fun q => !(q.1 == n) && !(q.1 + 1 == n && q.2.category == 2)) = lvp) (K : lG p l e s m below meth c b w2 aX aM qo Q cells slots σ τ g (pc + 2) ((n, .int v) :: lvp) st) : lG p l e s m below meth c b w2 aX aM qo Q cells slots σ τ g pc lv (.int v :: st) := fun H locs ls h1 h2 h3 =>
  lv_istore C.1 C.2.1 hdg h1 hn (congrArg (List.cons (n, .int v)) hl) (fun ls2 h4 => K H locs ls2 h4 h2 h3)
theorem l_ls {n : Nat} {v : Int64} {lvp : List (Nat × Value)} (C : lC p l s m meth c b L xs w2) (hdg : decode code pc = .ok (.lstore n, 2)) (hn : n + 1 < 8) (hl : lv.filter (fun q => !(q.1 == n) && (!(q.1 == n + 1) && !(q.1 + 1 == n && q.2.category == 2))) = lvp) (K : lG p l e s m below meth c b w2 aX aM qo Q cells slots σ τ g (pc + 2) ((n, .long v) :: lvp) st) : lG p l e s m below meth c b w2 aX aM qo Q cells slots σ τ g pc lv (.long v :: st) := fun H locs ls h1 h2 h3 =>
  lv_lstore C.1 C.2.1 hdg h1 hn (congrArg (List.cons (n, .long v)) hl) (fun ls2 h4 => K H locs ls2 h4 h2 h3)
theorem l_sub {lvp : List (Nat × Value)} (ks : List Nat) (hl : lv_pick lv ks = lvp) (K : lG p l e s m below meth c b w2 aX aM qo Q cells slots σ τ g pc lvp st) : lG p l e s m below meth c b w2 aX aM qo Q cells slots σ τ g pc lv st := fun H locs ls h1 h2 h3 => K H locs ls (lv_sub h1 ks hl) h2 h3
theorem l_goto {off : Int} {tgt : Nat} (C : lC p l s m meth c b L xs w2) (hdg : decode code pc = .ok (.goto off, 3)) (ht : (pc : Int) + off = (tgt : Int)) (K : lG p l e s m below meth c b w2 aX aM qo Q cells slots σ τ g tgt lv st) : lG p l e s m below meth c b w2 aX aM qo Q cells slots σ τ g pc lv st := fun H locs ls h1 h2 h3 => lv_goto C.1 C.2.1 hdg ht (K H locs ls h1 h2 h3)
theorem l_argG {kI : Int} (k j0 j4 : Nat) (hj0 : lv[j0]? = some (0, .ref b)) (hj4 : lv[j4]? = some (4, .int (nI (6 * i)))) (C : lC p l s m meth c b L xs w2) (hi : 6 * i + 6 ≤ L) (hk : k < 6) (hkI : Int32.ofInt kI = nI k) (d0 : decode code pc = .ok (.aload_n 0, 1)) (d1 : decode code (pc + 1) = .ok (.iload 4, 2)) (d2 : decode code (pc + 3) = .ok (.iconst kI, 1)) (d3 : decode code (pc + 4) = .ok (.iadd, 1)) (d4 : decode code (pc + 5) = .ok (.iaload, 1)) (K : lG p l e s m below meth c b w2 aX aM qo Q cells slots σ τ g (pc + 6) lv (.int (xs (6 * i + k)) :: st)) : lG p l e s m below meth c b w2 aX aM qo Q cells slots σ τ g pc lv st := by
  intro H locs ls h1 h2 h3
  have hL : L ≤ 3072 := C.2.2.2.2.2.2.2.2.2.2.2.2.2.2
  refine lv_aload_n C.1 C.2.1 d0 rfl (lv_at h1 j0 hj0) ?_
  refine lv_iload C.1 C.2.1 d1 (lv_at h1 j4 hj4) ?_
  refine lv_iconst (v := nI k) C.1 C.2.1 d2 hkI ?_
  refine lv_iadd C.1 C.2.1 d3 ?_
  rw [nI_add]
  refine va_sld (i := nI (6 * i + k)) C.1 C.2.1 C.2.2.2.2.2.2.2.2.2.1 C.2.2.2.2.2.2.2.2.2.2.1 C.bA h3 (vp_in_nI (by omega) (by omega)) d4 ?_
  rw [nI_clamp (by omega)]
  exact K H locs ls h1 h2 h3
theorem l_c35 (C : lC p l s m meth c b L xs w2) (D : lD s.heap.size aX aM qo) (hi : 6 * i + 6 ≤ L) (R : Rel σ τ) (hcs : cells + 1 ≤ room_1.cells ∧ slots + 6 ≤ room_1.slots) (J : ∀ (σ1 τ1 : Mm) (g1 : Nat → Int64), Rel σ1 τ1 → lG p l e s m below meth c b w2 aX aM qo Q (cells + 1) (slots + 6) σ1 τ1 g1 1493 (lvI b aX aM qo i) []) : lG p l e s m below meth c b w2 aX aM qo Q cells slots σ τ g 1303 (lvI b aX aM qo i) [] := by
  obtain ⟨N, R⟩ := R
  obtain ⟨p1, hp, q1, hq, r1, hr, R1, hh⟩ := q_element (F := 3000) (xs (6 * i + 1)) (xs (6 * i + 2)) R
  refine l_aX C d_law_1303 ?_
  refine l_arg 1 C hi (by decide) rfl d_law_1304 d_law_1305 d_law_1307 d_law_1308 d_law_1309 ?_
  refine l_arg 2 C hi (by decide) rfl d_law_1310 d_law_1311 d_law_1313 d_law_1314 d_law_1315 ?_
  refine l_an (n := 3) (a := qo) 3 C d_law_1316 rfl rfl ?_
  refine l_callL (F := 0) C D (c_L_element l C.2.2.2.2.2.2.2.2.2.2.2.2.2.1 (aX, w2) qo 3000 σ 0 _ _ p1 (by decide) rfl hp) gc_law_166 ⟨Nat.le_of_ble_eq_true rfl, Nat.le_of_ble_eq_true rfl⟩ rfl rfl hcs (Nat.le_of_ble_eq_true rfl) d_law_1317 (fun k g' ho => ?_)
  have hk : r1.1 = k ∧ (k = 0 → g' 0 = q1.1) := by
    rcases hh with ⟨a1, a2, a3⟩ | ⟨a1, a2⟩ | ⟨a1, a2⟩ <;> rcases ho with ⟨b1, b2, b3⟩ | ⟨b1, b2⟩ | ⟨b1, b2⟩
    · exact ⟨a2.trans b2.symm, fun _ => b3.trans a3.symm⟩
    · exact absurd (a1.symm.trans b1) (fun z => by cases z)
    · exact absurd (a1.symm.trans b1) (fun z => by cases z)
    · exact absurd (b1.symm.trans a1) (fun z => by cases z)
    · exact ⟨a2.trans b2.symm, fun z => absurd (b2.symm.trans z) (by decide)⟩
    · exact absurd (Option.some.inj (a1.symm.trans b1)) xE_ne.2.2
    · exact absurd (b1.symm.trans a1) (fun z => by cases z)
    · exact absurd (Option.some.inj (b1.symm.trans a1)) xE_ne.2.2
    · exact ⟨a2.trans b2.symm, fun z => absurd (b2.symm.trans z) (by decide)⟩
  refine l_is (lvp := lvI b aX aM qo i) C d_law_1320 (by decide) rfl ?_
  refine l_an (n := 2) (a := aM 0) 3 C d_law_1322 rfl rfl ?_
  refine l_argG 1 1 5 rfl rfl C hi (by decide) rfl d_law_1323 d_law_1324 d_law_1326 d_law_1327 d_law_1328 ?_
  refine l_argG 2 1 5 rfl rfl C hi (by decide) rfl d_law_1329 d_law_1330 d_law_1332 d_law_1333 d_law_1334 ?_
  refine l_callM 2 C D (c_M_element l (aM, w2) 3000 τ 0 _ _ q1 hq) gc_law_171 hd_M_element ⟨Nat.le_of_ble_eq_true rfl, Nat.le_of_ble_eq_true rfl⟩ rfl rfl hcs rfl rfl (Nat.le_of_ble_eq_true rfl) d_law_1335 ?_
  refine l_ls (v := q1.1) (st := []) (lvp := (5, .int k) :: lvI b aX aM qo i) C d_law_1338 (by decide) rfl ?_
  refine l_an (n := 2) (a := aM 0) 4 C d_law_1340 rfl rfl ?_
  refine l_callM 0 C D (c_M_thrown l (aM, w2) 3000 q1.2 0 r1 hr) gc_law_172 hd_M_thrown ⟨Nat.le_of_ble_eq_true rfl, Nat.le_of_ble_eq_true rfl⟩ rfl rfl hcs rfl rfl (Nat.le_of_ble_eq_true rfl) d_law_1341 ?_
  refine l_il (n := 5) (x := k) 1 C d_law_1344 rfl ?_
  refine l_ceq (tgt := 1351) C hk.1 d_law_1346 (by decide) ?_
  refine l_il (n := 5) (x := k) 1 C d_law_1351 rfl ?_
  have fin : lG p l e s m below meth c b w2 aX aM qo Q (cells + 1) (slots + 6) p1.2 r1.2 g' 1367 ((6, .long q1.1) :: (5, .int k) :: lvI b aX aM qo i) [] := by
    refine l_goto (tgt := 1493) C d_law_1367 (by decide) ?_
    exact l_sub [2, 3, 4, 5, 6] rfl (J p1.2 r1.2 g' R1)
  intro H locs ls h1 h2 h3
  refine lv_if_ne (tgt := 1367) C.1 C.2.1 d_law_1353 (by decide) (fun _ => fin H locs ls h1 h2 h3) (fun z => ?_)
  have e0 : (oW (aX, w2) qo g')[0]? = some (qo, .inl (w2.2 1, 1, .inr (.inl g'))) := rfl
  refine lv_aload_n C.1 C.2.1 d_law_1356 rfl (lv_at h1 5 rfl) ?_
  refine lv_iconst (v := 0) C.1 C.2.1 d_law_1357 (by decide) ?_
  refine va_lald (D := w2.1) C.1 C.2.1 C.2.2.2.2.2.1 h2.2.2 0 1 e0 rfl (i := 0) (fun q => q.elim (fun z => absurd z (by decide)) (fun z => absurd z (by decide))) d_law_1358 ?_
  refine lv_lload C.1 C.2.1 d_law_1359 (lv_at h1 0 rfl) ?_
  refine W.lcmp C.1 C.2.1 d_law_1361 ?_
  refine lv_if_eq (tgt := 1367) C.1 C.2.1 d_law_1362 (by decide) (fun _ => fin H locs ls h1 h2 h3) (fun z2 => absurd ((lg_cmp_eq _ _).mpr (hk.2 z)) z2)
end LC

