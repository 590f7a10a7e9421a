/-! PURE 80: constructors: contracts, calls; Glass, Guest -/
theorem z_22 : (Jvm.Cond.instanceMethod ({ cls := "java/lang/Object", name := "<init>", desc := "()V" } : Jvm.MethodName)) ∈ yGW := y_i1 22 rfl rfl
theorem z_23 : (Jvm.Cond.code ({ cls := "java/lang/Object", name := "<init>", desc := "()V" } : Jvm.MethodName) object_method_1_code (1 : Nat) (Option.none : Option Jvm.ClassFile.FieldType)) ∈ yGW := y_i1 23 rfl rfl
theorem z_201 : (Jvm.Cond.arrayClass Jvm.ClassFile.FieldType.int) ∈ yGW := y_i1 201 rfl rfl
theorem z_923 : (Jvm.Cond.arrayClass Jvm.ClassFile.FieldType.long) ∈ yGW := y_i4 203 rfl rfl
theorem z_21 : (Jvm.Cond.methodLink "WhoseGlass" (1 : Nat) ({ cls := "java/lang/Object", name := "<init>", desc := "()V" } : Jvm.MethodName)) ∈ yGW := y_i1 21 rfl rfl
theorem z_24 : (Jvm.Cond.classLink "WhoseGlass" (7 : Nat) "WhoseGlass$House") ∈ yGW := y_i1 24 rfl rfl
theorem z_26 : (Jvm.Cond.methodLink "WhoseGlass" (9 : Nat) ({ cls := "WhoseGlass$House", name := "<init>", desc := "()V" } : Jvm.MethodName)) ∈ yGW := y_i1 26 rfl rfl
theorem z_168 : (Jvm.Cond.classLink "WhoseGlass" (22 : Nat) "WhoseGlass$Shelf") ∈ yGW := y_i1 168 rfl rfl
theorem z_20 : (Jvm.Cond.code ({ cls := "WhoseGlass", name := "<init>", desc := "()V" } : Jvm.MethodName) prog_1_method_1_code (2 : Nat) (Option.none : Option Jvm.ClassFile.FieldType)) ∈ yGW := y_i1 20 rfl rfl
theorem z_19 : (Jvm.Cond.instanceMethod ({ cls := "WhoseGlass", name := "<init>", desc := "()V" } : Jvm.MethodName)) ∈ yGW := y_i1 19 rfl rfl
theorem z_29 : (Jvm.Cond.methodLink "WhoseGlass$House" (3 : Nat) ({ cls := "java/lang/Object", name := "<init>", desc := "()V" } : Jvm.MethodName)) ∈ yGW := y_i1 29 rfl rfl
theorem z_30 : (Jvm.Cond.classLink "WhoseGlass$House" (9 : Nat) "WhoseGlass$Glass") ∈ yGW := y_i1 30 rfl rfl
theorem z_32 : (Jvm.Cond.classLink "WhoseGlass$House" (17 : Nat) "WhoseGlass$Guest") ∈ yGW := y_i1 32 rfl rfl
theorem z_35 : (Jvm.Cond.methodLink "WhoseGlass$House" (30 : Nat) ({ cls := "WhoseGlass$Glass", name := "<init>", desc := "(I)V" } : Jvm.MethodName)) ∈ yGW := y_i1 35 rfl rfl
theorem z_80 : (Jvm.Cond.methodLink "WhoseGlass$House" (33 : Nat) ({ cls := "WhoseGlass$Guest", name := "<init>", desc := "(I)V" } : Jvm.MethodName)) ∈ yGW := y_i1 80 rfl rfl
theorem z_28 : (Jvm.Cond.code ({ cls := "WhoseGlass$House", name := "<init>", desc := "()V" } : Jvm.MethodName) prog_4_method_1_code (2 : Nat) (Option.none : Option Jvm.ClassFile.FieldType)) ∈ yGW := y_i1 28 rfl rfl
theorem z_27 : (Jvm.Cond.instanceMethod ({ cls := "WhoseGlass$House", name := "<init>", desc := "()V" } : Jvm.MethodName)) ∈ yGW := y_i1 27 rfl rfl
theorem d_G_init_0 : decode prog_2_method_1_code 0 = .ok (.aload_n 0, 1) := by decide +kernel
theorem d_G_init_1 : decode prog_2_method_1_code 1 = .ok (.invokespecial 3, 3) := by decide +kernel
theorem z_38 : (Jvm.Cond.methodLink "WhoseGlass$Glass" (3 : Nat) ({ cls := "java/lang/Object", name := "<init>", desc := "()V" } : Jvm.MethodName)) ∈ yGW := y_i1 38 rfl rfl
theorem d_G_init_4 : decode prog_2_method_1_code 4 = .ok (.aload_n 0, 1) := by decide +kernel
theorem d_G_init_5 : decode prog_2_method_1_code 5 = .ok (.iload_n 1, 1) := by decide +kernel
theorem d_G_init_6 : decode prog_2_method_1_code 6 = .ok (.putfield 9, 3) := by decide +kernel
theorem d_G_init_9 : decode prog_2_method_1_code 9 = .ok (.return_, 1) := by decide +kernel
theorem z_37 : (Jvm.Cond.code ({ cls := "WhoseGlass$Glass", name := "<init>", desc := "(I)V" } : Jvm.MethodName) prog_2_method_1_code (2 : Nat) (Option.none : Option Jvm.ClassFile.FieldType)) ∈ yGW := y_i1 37 rfl rfl
theorem z_36 : (Jvm.Cond.instanceMethod ({ cls := "WhoseGlass$Glass", name := "<init>", desc := "(I)V" } : Jvm.MethodName)) ∈ yGW := y_i1 36 rfl rfl
theorem d_U_init_0 : decode prog_3_method_1_code 0 = .ok (.aload_n 0, 1) := by decide +kernel
theorem d_U_init_1 : decode prog_3_method_1_code 1 = .ok (.invokespecial 3, 3) := by decide +kernel
theorem z_83 : (Jvm.Cond.methodLink "WhoseGlass$Guest" (3 : Nat) ({ cls := "java/lang/Object", name := "<init>", desc := "()V" } : Jvm.MethodName)) ∈ yGW := y_i1 83 rfl rfl
theorem d_U_init_4 : decode prog_3_method_1_code 4 = .ok (.aload_n 0, 1) := by decide +kernel
theorem d_U_init_5 : decode prog_3_method_1_code 5 = .ok (.iload_n 1, 1) := by decide +kernel
theorem d_U_init_6 : decode prog_3_method_1_code 6 = .ok (.putfield 9, 3) := by decide +kernel
theorem d_U_init_9 : decode prog_3_method_1_code 9 = .ok (.return_, 1) := by decide +kernel
theorem z_82 : (Jvm.Cond.code ({ cls := "WhoseGlass$Guest", name := "<init>", desc := "(I)V" } : Jvm.MethodName) prog_3_method_1_code (2 : Nat) (Option.none : Option Jvm.ClassFile.FieldType)) ∈ yGW := y_i1 82 rfl rfl
theorem z_81 : (Jvm.Cond.instanceMethod ({ cls := "WhoseGlass$Guest", name := "<init>", desc := "(I)V" } : Jvm.MethodName)) ∈ yGW := y_i1 81 rfl rfl
theorem z_174 : (Jvm.Cond.methodLink "WhoseGlass$Shelf" (3 : Nat) ({ cls := "java/lang/Object", name := "<init>", desc := "()V" } : Jvm.MethodName)) ∈ yGW := y_i1 174 rfl rfl
theorem z_173 : (Jvm.Cond.code ({ cls := "WhoseGlass$Shelf", name := "<init>", desc := "()V" } : Jvm.MethodName) prog_6_method_1_code (1 : Nat) (Option.none : Option Jvm.ClassFile.FieldType)) ∈ yGW := y_i1 173 rfl rfl
theorem z_172 : (Jvm.Cond.instanceMethod ({ cls := "WhoseGlass$Shelf", name := "<init>", desc := "()V" } : Jvm.MethodName)) ∈ yGW := y_i1 172 rfl rfl
theorem z_783 : (Jvm.Cond.methodLink "WhoseGlassModel" (1 : Nat) ({ cls := "java/lang/Object", name := "<init>", desc := "()V" } : Jvm.MethodName)) ∈ yGW := y_i4 63 rfl rfl
theorem z_782 : (Jvm.Cond.code ({ cls := "WhoseGlassModel", name := "<init>", desc := "()V" } : Jvm.MethodName) prog_8_method_1_code (1 : Nat) (Option.none : Option Jvm.ClassFile.FieldType)) ∈ yGW := y_i4 62 rfl rfl
theorem z_781 : (Jvm.Cond.instanceMethod ({ cls := "WhoseGlassModel", name := "<init>", desc := "()V" } : Jvm.MethodName)) ∈ yGW := y_i4 61 rfl rfl
theorem z_34 : (Jvm.Cond.instantiable "WhoseGlass$Glass" (8 : Nat)) ∈ yGW := y_i1 34 rfl rfl
theorem z_79 : (Jvm.Cond.instantiable "WhoseGlass$Guest" (10 : Nat)) ∈ yGW := y_i1 79 rfl rfl
theorem z_25 : (Jvm.Cond.instantiable "WhoseGlass$House" (9 : Nat)) ∈ yGW := y_i1 25 rfl rfl
theorem z_170 : (Jvm.Cond.instantiable "WhoseGlass$Shelf" (6 : Nat)) ∈ yGW := y_i1 170 rfl rfl
theorem z_17 : (Jvm.Cond.instantiable "WhoseGlass" (5 : Nat)) ∈ yGW := y_i1 17 rfl rfl
theorem z_779 : (Jvm.Cond.instantiable "WhoseGlassModel" (46 : Nat)) ∈ yGW := y_i4 59 rfl rfl
/-! contracts of constructors in a growing world -/
def gA (Y : Sy) (w : WP) (sz : Nat) : Nat → Prop := fun q => yA Y w q ∨ sz ≤ q
def gO (U : State) : Prop := va_AO "WhoseGlass$Glass" U ∧ va_AO "WhoseGlass$Guest" U ∧ va_AO "WhoseGlass$Shelf" U
def gB (Y : Sy) (w : WP) (μ : Mm) (sz : Nat) (U : State) : Prop := U.heap.size = sz ∧ va_P w.2.1 yCl (yW Y w μ) U.heap ∧ va_D (fun _ => True) (yW Y w μ) ∧ va_K w.2.1 yCl (yTys w) U ∧ yNs U ∧ gO U
def gQ (Y : Sy) (w : WP) (sz : Nat) (Y' : Sy) (μ' : Mm) : Array Value → State → Outcome → State → Prop := fun _ st oc t => ∃ ad' : Nat → Nat, oc = .returned none ∧ (∀ i, i < Y.1 → ad' i = w.1 i) ∧ va_P w.2.1 yCl (yW Y' (ad', w.2) μ') t.heap ∧ va_D (gA Y w sz) (yW Y' (ad', w.2) μ') ∧ va_F (gA Y w sz) st t
def gMet (l : Launch) (y : MethodName) (ws : List Cond) (rm : Room) (Y : Sy) (w : WP) (μ : Mm) (As : List Value) (Y' : Sy) (μ' : Mm) (mc ms sz : Nat) : Prop := Met l y ws rm (va_Pc As (gB Y w μ sz)) (gQ Y w sz Y' μ') mc ms (gA Y w sz)
theorem gO.moved {u U : State} (h : u.vm.Alike U.vm) (g : gO u) : gO U := ⟨g.1.moved h, g.2.1.moved h, g.2.2.moved h⟩
theorem gB.blind {Y : Sy} {w : WP} {μ : Mm} {sz : Nat} {As : List Value} : FrameBlind (va_Pc As (gB Y w μ sz)) := fun a U g mk h => ⟨h.1, h.2.1, h.2.2.1, h.2.2.2.1, va_K.moved (u := U) (U := U.calling g mk a) (Vm.Alike.refl U.vm) h.2.2.2.2.1, h.2.2.2.2.2.1.calling, gO.moved (u := U) (U := U.calling g mk a) (Vm.Alike.refl U.vm) h.2.2.2.2.2.2⟩
theorem g_entry {l : Launch} {y : MethodName} {rm : Room} {Y Y' : Sy} {w : WP} {μ μ' : Mm} {As : List Value} {cc : ByteArray} {maxL mc ms sz : Nat} {own : String} {lv : List (Nat × Value)} (hy : plainName y.cls = true) (hcls : y.cls = own) (hnm : y.name = "<init>") (hlv : lv_args 0 As = lv) (hlen : (lg_sl As).length ≤ maxL)
    (body : ∀ (p : Program) (e : Env) (s : State) (m : MethodId) (args : Array Value) (below : List Frame) (meth : Method) (c : Code) (ls : Array Slot), gC p s m args meth c w.2 cc own maxL → meth.sig.returnType = none → meth.locks = false → lv_has ls maxL lv → s.heap.size = sz → va_P w.2.1 yCl (yW Y w μ) s.heap → va_D (gA Y w sz) (yW Y w μ) → va_S (gA Y w sz) s.heap s.heap [] → (∀ q, s.heap.size ≤ q → gA Y w sz q) →
      W p l e rm s m args below meth c s.heap [] 0 0 (MQ below (gQ Y w sz Y' μ') args s mc ms (gA Y w sz)) (F0 m 0 ls [])) : gMet l y (yWs y cc maxL none) rm Y w μ As Y' μ' mc ms sz := by
  refine Met.ofW (cc := cc) (maxL := maxL) (ret := none) hy rfl ?_
  intro p e s m args below meth c s₁ B hml hv
  obtain ⟨rfl, hsz, hP, hD, hK, hN, hO⟩ := hv
  have hts := atoms_spec (ws := yWs y cc maxL none) B.pre
  have hown : s.vm.findClass own = some m.cls := hcls ▸ findClass_of_methodNamed B.named
  have hin : meth.name = "<init>" := (name_of_methodNamed B.named B.method).1.trans hnm
  have hl := lv_entry As (n := maxL) hlen
  rw [hlv] at hl
  rw [lg_entry_eq]
  refine body p e s m As.toArray below meth c _ ⟨B.exec, B.bytes, hown, fun w hw => hts w (List.mem_cons_of_mem _ hw), hK, hN, hin, hO, hml⟩ B.returns B.notSynchronized hl hsz hP ⟨hD.1, fun k q hq => ?_⟩ va_S.rf (fun q hq => Or.inr (by omega))
  have hk : k < Y.1 := by
    have := (List.getElem?_eq_some_iff.mp hq).1
    simpa [yW] using this
  rw [yW_at hk] at hq
  cases hq
  exact Or.inl ⟨k, hk, rfl⟩
section GS
variable {p : Program} {l : Launch} {e : Env} {R : Room} {s : State} {m : MethodId} {args : Array Value} {below : List Frame} {meth : Method} {c : Code} {H : Heap} {locs : List Loc} {cells slots : Nat} {Q : State → Prop}
variable {cc : ByteArray} {pc : Nat} {ls : Array Slot} {rest : List Value} {A : Nat → Prop} {H0 : Heap} {own : String} {index : Nat}
variable {kd ln : Nat → Nat} {n : Nat} {rf : Nat → Nat → Option Nat} {ad : Nat → Nat} {w2 : va_G × (Nat → ClassId)} {μ : Mm}
theorem g_obj {nL a : Nat} {lv : List (Nat × Value)} (C : gC p s m args meth c w2 cc own nL) (hl : lv_has ls nL lv) (hlk : Cond.methodLink own index Lib.objectInit ∈ yGW) (hdg : decode cc pc = .ok (.invokespecial index, 3)) (hfr : 1 ≤ R.frames) (hlo : (rest.map fun v => v.category).sum + 12 ≤ R.locals) (kk : W p l e R s m args below meth c H locs cells slots Q (F0 m (pc + 3) ls rest)) : W p l e R s m args below meth c H locs cells slots Q (F0 m pc ls (.ref a :: rest)) := by
  refine W.objInit C.1 C.2.1 C.2.2.1 (C.2.2.2.1 _ hlk) (C.2.2.2.1 _ z_22) (C.2.2.2.1 _ z_23) rfl (hl.1.trans C.2.2.2.2.2.2.2.2.symm) rfl hdg hfr (by show 0 + _ + 12 ≤ _; omega) ?_
  exact kk
/-- the call of a constructor by its contract -/
theorem g_back {t0 : State → Prop} {Y' : Sy} {μ' : Mm} {mc ms : Nat} {st0 : List Value} {a : Array Value} (hD : va_D A (yW (n, kd, ln, rf) (ad, w2) μ)) (hS : va_S A H0 H locs) (hA : ∀ q, H0.size ≤ q → A q) (hr : va_Run p l e R s m args below meth c H locs cells slots mc ms (F0 m pc ls st0) rest (gQ (n, kd, ln, rf) (ad, w2) H.size Y' μ' a) (gA (n, kd, ln, rf) (ad, w2) H.size))
    (kk : ∀ (ad' : Nat → Nat) (H1 : Heap) (locs1 : List Loc), (∀ i, i < n → ad' i = ad i) → va_P w2.1 yCl (yW Y' (ad', w2) μ') H1 → va_D A (yW Y' (ad', w2) μ') → va_S A H0 H1 locs1 → W p l e R s m args below meth c H1 locs1 (cells + mc) (slots + ms) Q (F0 m (pc + 3) ls rest)) : W p l e R s m args below meth c H locs cells slots Q (F0 m pc ls st0) := by
  have hAA : ∀ q, gA (n, kd, ln, rf) (ad, w2) H.size q → A q := by
    intro q hq
    rcases hq with ⟨k, hk, rfl⟩ | hq
    · exact hD.2 k _ (yW_at hk)
    · exact hA q (Nat.le_trans hS.1 hq)
  intro T hT X
  obtain ⟨v, st₀, t, T', L, h0, X', hL, e1, e2, ⟨ad', hv, ha, hp, hd, hF⟩, stp⟩ := hr T hT X
  cases hv
  obtain ⟨-, -, k3⟩ := vx_keep (A0 := A) h0 e1 hS (fun q _ z => hAA q z) (fun q z => hAA q z) hL hF
  obtain ⟨t2, a1, b1⟩ := kk ad' T'.heap (locs ++ L) ha (by rw [e1]; exact hp) ⟨hd.1, fun k q hq => hAA _ (hd.2 k q hq)⟩ k3 T' rfl X'
  exact ⟨t2, stp t2 a1, b1⟩
theorem g_call {y : MethodName} {bytes : ByteArray} {maxL nL id mc ms : Nat} {rm : Room} {As st0 : List Value} {Y' : Sy} {μ' : Mm} {lv : List (Nat × Value)} (N : Nat) (C : gC p s m args meth c w2 cc own nL) (hl : lv_has ls nL lv) (hP : va_P w2.1 yCl (yW (n, kd, ln, rf) (ad, w2) μ) H) (hD : va_D A (yW (n, kd, ln, rf) (ad, w2) μ)) (hS : va_S A H0 H locs) (hA : ∀ q, H0.size ≤ q → A q)
    (hM : gMet l y (yWs y bytes maxL none) rm (n, kd, ln, rf) (ad, w2) μ (.ref (ad id) :: As) Y' μ' mc ms H.size) (hg : GoodIn yGW (yWs y bytes maxL none)) (hrc : rm.cells = mc) (hrs : rm.slots = ms) (hini : Cond.initialized y.cls ∈ yGW) (hlk : Cond.methodLink own index y ∈ yGW) (hinst : Cond.instanceMethod y ∈ yGW) (hy1 : y.name = "<init>")
    (hd : y.cls ≠ "java/lang/invoke/MethodHandle" ∧ y.cls ≠ "java/lang/invoke/VarHandle" ∧ (parseMethodDescriptor y.desc).map (fun d => d.parameters.length) = some N) (hR : rm.frames + 1 ≤ R.frames ∧ 8 + (maxL + 11) + rm.locals ≤ R.locals) (hcs : cells + mc ≤ R.cells ∧ slots + ms ≤ R.slots) (hn : As.length = N) (hst : st0 = As.reverse ++ .ref (ad id) :: rest) (hcat : (rest.map fun v => v.category).sum ≤ 8) (hdg : decode cc pc = .ok (.invokespecial index, 3))
    (kk : ∀ (ad' : Nat → Nat) (H1 : Heap) (locs1 : List Loc), (∀ i, i < n → ad' i = ad i) → va_P w2.1 yCl (yW Y' (ad', w2) μ') H1 → va_D A (yW Y' (ad', w2) μ') → va_S A H0 H1 locs1 → W p l e R s m args below meth c H1 locs1 (cells + mc) (slots + ms) Q (F0 m (pc + 3) ls rest)) : W p l e R s m args below meth c H locs cells slots Q (F0 m pc ls st0) := by
  subst hst
  exact g_back (t0 := fun _ => True) hD hS hA (va_runI (As := As) (rest := rest) (nL := nL) (own := own) ⟨C.1, C.2.1, C.2.2.2.2.2.2.2.2, C.2.2.1, C.2.2.2.1⟩ hM (cwI N C.2.2.2.1 hg rfl hrc hrs (C.2.2.2.1 _ hini) (C.2.2.2.1 _ hlk) (C.2.2.2.1 _ hinst) hy1 hd hR) ⟨gB.blind, fun U hU hW => ⟨rfl, by rw [hU], by rw [hU]; exact hP, ⟨hD.1, fun _ _ _ => trivial⟩, va_K.moved hW.alike C.2.2.2.2.1, C.2.2.2.2.2.1.warm hW, gO.moved hW.alike C.2.2.2.2.2.2.2.1⟩⟩ rfl hn hl.1 rfl (lv_room hcat) hdg hcs) kk
theorem g_callN {y : MethodName} {bytes : ByteArray} {maxL nL id mc ms : Nat} {rm : Room} {As st0 : List Value} {Y' : Sy} {μ' : Mm} {lv : List (Nat × Value)} {host : String} (N : Nat) (C : gC p s m args meth c w2 cc own nL) (hl : lv_has ls nL lv) (hP : va_P w2.1 yCl (yW (n, kd, ln, rf) (ad, w2) μ) H) (hD : va_D A (yW (n, kd, ln, rf) (ad, w2) μ)) (hS : va_S A H0 H locs) (hA : ∀ q, H0.size ≤ q → A q)
    (hM : gMet l y (yWs y bytes maxL none) rm (n, kd, ln, rf) (ad, w2) μ (.ref (ad id) :: As) Y' μ' mc ms H.size) (hg : GoodIn yGW (yWs y bytes maxL none)) (hrc : rm.cells = mc) (hrs : rm.slots = ms) (hini : Cond.initialized y.cls ∈ yGW) (hnest : Cond.methodLinkNest own index y host ∈ yNst) (hinst : Cond.instanceMethod y ∈ yGW) (hy1 : y.name = "<init>")
    (hd : y.cls ≠ "java/lang/invoke/MethodHandle" ∧ y.cls ≠ "java/lang/invoke/VarHandle" ∧ (parseMethodDescriptor y.desc).map (fun d => d.parameters.length) = some N) (hR : rm.frames + 1 ≤ R.frames ∧ 8 + (maxL + 11) + rm.locals ≤ R.locals) (hcs : cells + mc ≤ R.cells ∧ slots + ms ≤ R.slots) (hn : As.length = N) (hst : st0 = As.reverse ++ .ref (ad id) :: rest) (hcat : (rest.map fun v => v.category).sum ≤ 8) (hdg : decode cc pc = .ok (.invokespecial index, 3))
    (kk : ∀ (ad' : Nat → Nat) (H1 : Heap) (locs1 : List Loc), (∀ i, i < n → ad' i = ad i) → va_P w2.1 yCl (yW Y' (ad', w2) μ') H1 → va_D A (yW Y' (ad', w2) μ') → va_S A H0 H1 locs1 → W p l e R s m args below meth c H1 locs1 (cells + mc) (slots + ms) Q (F0 m (pc + 3) ls rest)) : W p l e R s m args below meth c H locs cells slots Q (F0 m pc ls st0) := by
  subst hst
  exact g_back (t0 := fun _ => True) hD hS hA (va_runIN (host := host) (As := As) (rest := rest) (nL := nL) (own := own) (Ts := yGW) ⟨C.1, C.2.1, C.2.2.2.2.2.2.2.2, C.2.2.1, C.2.2.2.1⟩ hM ⟨va_cnB N C.2.2.2.1 hg rfl hrc hrs (C.2.2.2.2.2.1 _ hnest) (C.2.2.2.1 _ hini) hd hR, hy1, C.2.2.2.1 _ hinst⟩ ⟨gB.blind, fun U hU hW => ⟨rfl, by rw [hU], by rw [hU]; exact hP, ⟨hD.1, fun _ _ _ => trivial⟩, va_K.moved hW.alike C.2.2.2.2.1, C.2.2.2.2.2.1.warm hW, gO.moved hW.alike C.2.2.2.2.2.2.2.1⟩⟩ rfl hn hl.1 rfl (lv_room hcat) hdg hcs) kk
theorem g_putn {ci nL id k : Nat} {q : vw_C} {v : Int32} (C : gC p s m args meth c w2 cc own nL) (hP : va_P w2.1 yCl (yW (n, kd, ln, rf) (ad, w2) μ) H) (hD : va_D A (yW (n, kd, ln, rf) (ad, w2) μ)) (hS : va_S A H0 H locs) (hid : id < n) (hkd : kd id = ci) (hc : yCl[ci]? = some q) (hk : k < q.2.2) (hf : yRf ci k = false) (hl : Cond.fieldLink own index (q.2.1 k).1 (q.2.1 k).2.1 (q.2.1 k).2.2.1 ∈ yGW) (hfin : (q.2.1 k).2.2.2 = true) (hdecl : (q.2.1 k).1 = own) (hd : parseFieldDescriptor (q.2.1 k).2.2.1 = some .int) (hdg : decode cc pc = .ok (.putfield index, 3))
    (kk : ∀ (H1 : Heap) (locs1 : List Loc), va_P w2.1 yCl (yW (n, kd, ln, rf) (ad, w2) (y2 μ.1 id k v, μ.2.1, μ.2.2)) H1 → va_D A (yW (n, kd, ln, rf) (ad, w2) (y2 μ.1 id k v, μ.2.1, μ.2.2)) → va_S A H0 H1 locs1 → W p l e R s m args below meth c H1 locs1 cells slots Q (F0 m (pc + 3) ls rest)) : W p l e R s m args below meth c H locs cells slots Q (F0 m pc ls (.int v :: .ref (ad id) :: rest)) := by
  obtain ⟨d1, ⟨ty0, d2⟩, d3, d4, d5⟩ := yCls hc
  have he : (yW (n, kd, ln, rf) (ad, w2) μ)[id]? = some (ad id, .inr (ci, yF (n, kd, ln, rf) (ad, w2) μ id ci q.2.2)) := by rw [yW_at (show id < ((n, kd, ln, rf) : Sy).1 from hid), yC_c hkd d5, d4]
  refine va_putF (D := w2.1) (ci := ci) C.1 C.2.1 C.2.2.2.1 d1 ty0 d2 d3 C.2.2.1 C.2.2.2.2.1 hP hD hS id he hc k hk (C.2.2.2.1 _ hl) (fun _ z => z) hfin C.2.2.2.2.2.2.1 hdecl hd rfl rfl (by rw [yF_len]; exact hk) hdg (fun H1 locs1 g1 g2 g3 => ?_)
  have e2 := yW_set (Y := (n, kd, ln, rf)) (w := (ad, w2)) (μ := μ) (μ' := (y2 μ.1 id k v, μ.2.1, μ.2.2)) (id := id) (e := .inr (ci, yF (n, kd, ln, rf) (ad, w2) (y2 μ.1 id k v, μ.2.1, μ.2.2) id ci q.2.2)) hid (by rw [yC_c hkd d5, d4]) (fun x hx => yC_o hx)
  rw [yV_y2 hf, e2] at g1 g2
  exact kk H1 locs1 g1 g2 g3
end GS
def m_G_init : MethodName := ⟨"WhoseGlass$Glass", "<init>", "(I)V"⟩
abbrev ws_G_init : List Cond := yWs m_G_init prog_2_method_1_code 2 none
theorem hn_G_init : m_G_init.cls ≠ "java/lang/invoke/MethodHandle" ∧ m_G_init.cls ≠ "java/lang/invoke/VarHandle" ∧ (parseMethodDescriptor m_G_init.desc).map (fun d => d.parameters.length) = some 1 := ⟨by decide +kernel, by decide +kernel, by decide +kernel⟩
def m_U_init : MethodName := ⟨"WhoseGlass$Guest", "<init>", "(I)V"⟩
abbrev ws_U_init : List Cond := yWs m_U_init prog_3_method_1_code 2 none
theorem hn_U_init : m_U_init.cls ≠ "java/lang/invoke/MethodHandle" ∧ m_U_init.cls ≠ "java/lang/invoke/VarHandle" ∧ (parseMethodDescriptor m_U_init.desc).map (fun d => d.parameters.length) = some 1 := ⟨by decide +kernel, by decide +kernel, by decide +kernel⟩
section GT
variable {kd ln : Nat → Nat} {n : Nat} {rf : Nat → Nat → Option Nat} {ad : Nat → Nat} {w2 : va_G × (Nat → ClassId)} {μ : Mm}
theorem c_G_init (l : Launch) (id : Nat) (v : Int32) (sz : Nat) (hid : id < n) (hkd : kd id = 0) : gMet l m_G_init ws_G_init ({ frames := 1, cells := 0, slots := 0, locals := 20 } : Room) (n, kd, ln, rf) (ad, w2) μ [.ref (ad id), .int v] (n, kd, ln, rf) (y2 μ.1 id 0 v, μ.2.1, μ.2.2) 0 0 sz := by
  refine g_entry (own := "WhoseGlass$Glass") (lv := [(0, .ref (ad id)), (1, .int v)]) (by decide +kernel) rfl rfl rfl (Nat.le_of_ble_eq_true rfl) ?_
  intro p e s m args below meth c ls C hr hlocks hl hsz hP hD hS hA
  refine lv_aload_n C.1 C.2.1 d_G_init_0 rfl (lv_at hl 0 rfl) ?_
  refine g_obj C hl z_38 d_G_init_1 (Nat.le_refl _) (Nat.le_of_ble_eq_true rfl) ?_
  refine lv_aload_n C.1 C.2.1 d_G_init_4 rfl (lv_at hl 0 rfl) ?_
  refine lv_iload_n C.1 C.2.1 d_G_init_5 rfl (lv_at hl 1 rfl) ?_
  refine g_putn (ci := 0) (q := (yR0, yT0, 8)) (k := 0) C hP hD hS hid hkd rfl (by decide) rfl g_39 rfl rfl (by decide +kernel) d_G_init_6 (fun H1 locs1 hP hD hS => ?_)
  exact W.vret C.1 C.2.1 hr (fun t ht hW => ⟨ad, rfl, fun _ _ => rfl, by rw [ht]; exact hP, hD, hS.F ht⟩) hS.2.2 d_G_init_9 hlocks
theorem c_U_init (l : Launch) (id : Nat) (v : Int32) (sz : Nat) (hid : id < n) (hkd : kd id = 1) : gMet l m_U_init ws_U_init ({ frames := 1, cells := 0, slots := 0, locals := 20 } : Room) (n, kd, ln, rf) (ad, w2) μ [.ref (ad id), .int v] (n, kd, ln, rf) (y2 μ.1 id 0 v, μ.2.1, μ.2.2) 0 0 sz := by
  refine g_entry (own := "WhoseGlass$Guest") (lv := [(0, .ref (ad id)), (1, .int v)]) (by decide +kernel) rfl rfl rfl (Nat.le_of_ble_eq_true rfl) ?_
  intro p e s m args below meth c ls C hr hlocks hl hsz hP hD hS hA
  refine lv_aload_n C.1 C.2.1 d_U_init_0 rfl (lv_at hl 0 rfl) ?_
  refine g_obj C hl z_83 d_U_init_1 (Nat.le_refl _) (Nat.le_of_ble_eq_true rfl) ?_
  refine lv_aload_n C.1 C.2.1 d_U_init_4 rfl (lv_at hl 0 rfl) ?_
  refine lv_iload_n C.1 C.2.1 d_U_init_5 rfl (lv_at hl 1 rfl) ?_
  refine g_putn (ci := 1) (q := (yR1, yT1, 10)) (k := 0) C hP hD hS hid hkd rfl (by decide) rfl g_84 rfl rfl (by decide +kernel) d_U_init_6 (fun H1 locs1 hP hD hS => ?_)
  exact W.vret C.1 C.2.1 hr (fun t ht hW => ⟨ad, rfl, fun _ _ => rfl, by rw [ht]; exact hP, hD, hS.F ht⟩) hS.2.2 d_U_init_9 hlocks
end GT
