/-! PURE 75: toss -/
/-- a contract of a method that catches what is thrown: one cell of six slots may come -/
def tMet {ρ : Type} (l : Launch) (y : MethodName) (ws : List Cond) (rm : Room) (Y : Sy) (w : WP) (μ : Mm) (As : List Value) (f : ρ → Option Value) (out : ρ × Mm) : Prop := Met l y ws rm (va_Pc As (fun U => yB Y w μ U ∧ xE (yA Y w) U)) (yQ Y w f out) 1 6 (yA Y w)
theorem t_entry {l : Launch} {y : MethodName} {rm : Room} {Y : Sy} {w : WP} {μ : Mm} {As : List Value} {ρ : Type} {f : ρ → Option Value} {out : ρ × Mm} {cc : ByteArray} {maxL : Nat} {ret : Option FieldType} {own : String} {lv : List (Nat × Value)} {hh : List (Nat × Nat × Nat × Nat)} (hy : plainName y.cls = true) (hcls : y.cls = own) (hlv : lv_args 0 As = lv) (hlen : (lg_sl As).length ≤ maxL)
    (body : ∀ (p : Program) (e : Env) (s : State) (m : MethodId) (args : Array Value) (below : List Frame) (meth : Method) (c : Code), yX p e rm s m args c Y w maxL cc own → meth.sig.returnType = ret → meth.locks = false → c.exceptionTable.toList = tableOf hh → xE (yA Y w) s → yG p l e rm s m args below meth c Y w maxL (MQ below (yQ Y w f out) args s 1 6 (yA Y w)) μ 0 lv []) : tMet l y (Cond.codeWith y cc maxL ret hh :: yGW) rm Y w μ As f out := by
  unfold tMet Met
  refine MetFree.of_bodyS (code := cc) (maxLocals := maxL) (ret := ret) hy ?_ ?_
  · intro args s m h hn
    obtain ⟨m9, meth, c, hn9, h1, h2, h3, h4, -, h5, h6, -⟩ := Cond.codeWith_spec (atoms_spec (ws := Cond.codeWith y cc maxL ret hh :: yGW) h _ List.mem_cons_self)
    cases hn.symm.trans hn9
    exact ⟨meth, c, h1, h2, h3, h4, h5, h6⟩
  · intro p e s m args below meth c s₁ B hml hv _
    have hh0 : s₁.heap = s.heap := by rw [B.state]; rfl
    obtain ⟨rfl, ⟨hP, hK, hI, hN⟩, hE⟩ := hv
    have hts := atoms_spec (ws := Cond.codeWith y cc maxL ret hh :: yGW) B.pre
    have hown : s.vm.findClass own = some m.cls := hcls ▸ findClass_of_methodNamed B.named
    have hl := lv_entry As (n := maxL) hlen
    rw [hlv] at hl
    have ht := vx_table (x := y) B (hts _ List.mem_cons_self)
    have key := body p e s m As.toArray below meth c ⟨B.exec, B.bytes, hml, hown, fun w hw => hts w (List.mem_cons_of_mem _ hw), hK, hI, hN⟩ B.returns B.notSynchronized ht hE s.heap [] _ hl hP va_S.rf
    rw [← lg_entry_eq] at key
    obtain ⟨t, a1, o, b1, b2, b3⟩ := key s₁ hh0 (Stand.of_body B)
    exact ⟨t, o, a1, b1, b2, ⟨b3.1, b3.2⟩⟩
section TR
variable {p : Program} {l : Launch} {e : Env} {R : Room} {s : State} {m : MethodId} {args : Array Value} {below : List Frame} {meth : Method} {c : Code} {Y : Sy} {w : WP} {nL : Nat} {Q : State → Prop} {cc : ByteArray} {own : String}
variable {μ : Mm} {pc : Nat} {lv : List (Nat × Value)} {st : List Value}
theorem y_callX {y : MethodName} {bytes : ByteArray} {maxL index ci : Nat} {ret : Option FieldType} {rm : Room} {ρ : Type} {f : ρ → Option Value} {id : Nat} {As st0 : List Value} {out : (Option String × ρ) × Mm} {q : vw_C} (n : Nat) (C : yX p e R s m args c Y w nL cc own) (hE : xE (yA Y w) s)
    (hM : zMet l y (yWs y bytes maxL ret) rm Y w μ (va_re w.1 (some id) :: As) f out) (hg : GoodIn yGW (wsV own index q.1 y (yWs y bytes maxL ret))) (hcl : yCl[ci]? = some q) (h6 : ci < 6)
    (hd : y.cls = q.1 ∧ y.cls ≠ "java/lang/invoke/MethodHandle" ∧ y.cls ≠ "java/lang/invoke/VarHandle" ∧ (parseMethodDescriptor y.desc).map (fun d => d.parameters.length) = some n) (hR : rm.frames + 1 ≤ R.frames ∧ 8 + (maxL + 11) + rm.locals ≤ R.locals) (hrc : rm.cells = 1) (hrs : rm.slots = 6) (hcs : 1 ≤ R.cells ∧ 6 ≤ R.slots)
    (hn : As.length = n) (hst : st0 = As.reverse ++ va_re w.1 (some id) :: st) (hcat : (st.map fun v => v.category).sum ≤ 8) (hdg : decode cc pc = .ok (.invokevirtual index, 3))
    (hlt : id < Y.1) (hkd : Y.2.1 id = ci)
    (kk : out.1.1 = none → ∀ (H1 : Heap) (locs1 : List Loc) (ls : Array Slot), lv_has ls nL lv → va_P w.2.1 yCl (yW Y w out.2) H1 → va_S (yA Y w) s.heap H1 locs1 → W p l e R s m args below meth c H1 locs1 1 6 Q (F0 m (pc + 3) ls ((f out.1.2).toList ++ st)))
    (kx : ∀ (E : String) (q9 : Nat) (ce : Cell), out.1.1 = some E → ∀ (H1 : Heap) (locs1 : List Loc) (ls : Array Slot), lv_has ls nL lv → va_P w.2.1 yCl (yW Y w out.2) H1 → va_S (yA Y w) s.heap H1 locs1 → H1[q9]? = some ce → ce.vm = .none → s.vm.findClass E = some ce.cls → vx_W p l e R s m args below meth c H1 locs1 1 6 Q (F0 m pc ls st) q9) : yG p l e R s m args below meth c Y w nL Q μ pc lv st0 := by
  subst hst
  intro H locs ls h1 h2 h3
  have he : (yW Y w μ)[id]? = some (w.1 id, .inr (ci, yF Y w μ id ci (yNf ci))) := by rw [yW_at hlt, yC_c hkd h6]
  have hr := vx_runV (p := p) (l := l) (e := e) (below := below) (meth := meth) (H := H) (locs := locs) (cells := 0) (slots := 0) (g := F0 m pc ls (As.reverse ++ va_re w.1 (some id) :: st)) (b := w.1 id) (As := As) (rest := st) (nL := nL) (own := own) ⟨C.1, C.2.1, C.2.2.1, C.2.2.2.1, C.2.2.2.2.1⟩ hM (cwV n C.2.2.2.2.1 hg rfl hrc hrs hd hR) ⟨zB.blind, va_recv C.2.2.2.2.2.1 h2 hcl he, fun U hU hW => ⟨rfl, ⟨by rw [hU]; exact h2, va_K.moved hW.alike C.2.2.2.2.2.1, C.2.2.2.2.2.2.1, C.2.2.2.2.2.2.2.warm hW⟩, hE.go hW (fun q q1 q2 => by rw [hU]; exact h3.2.1 q q1 q2) (fun _ z => z)⟩⟩ rfl hn h1.1 rfl (lv_room hcat) hdg ⟨by omega, by omega⟩
  intro T hT X
  rcases hr T hT X with ⟨v, st₀, t, T', L, h0, X', hL, e1, e2, ⟨hnn, hv, hp, hF⟩, stp⟩ | ⟨q9, st₀, t, T', L, E, ce, h0, X', hL, e1, e2, ⟨hx, hp, hF⟩, hce, hcv, hcl9, stp⟩
  · cases hv
    obtain ⟨-, -, k3⟩ := vx_keep h0 e1 h3 (fun _ _ z => z) (fun _ z => z) hL hF
    obtain ⟨t2, a1, b1⟩ := kk hnn T'.heap (locs ++ L) ls h1 (by rw [e1]; exact hp) k3 T' rfl X'
    exact ⟨t2, stp t2 a1, b1⟩
  · obtain ⟨-, -, k3⟩ := vx_keep h0 e1 h3 (fun _ _ z => z) (fun _ z => z) hL hF
    obtain ⟨t2, a1, b1⟩ := kx E q9 ce hx T'.heap (locs ++ L) ls h1 (by rw [e1]; exact hp) k3 (by rw [e1]; exact hce) hcv hcl9 T' rfl X'
    exact ⟨t2, stp.trans a1, b1⟩
/-- a call in the midst of a method that has made cells -/
theorem w_callV {y : MethodName} {bytes : ByteArray} {maxL index ci cells slots : Nat} {ret : Option FieldType} {rm : Room} {ρ : Type} {f : ρ → Option Value} {id : Nat} {As st0 : List Value} {out : ρ × Mm} {q : vw_C} {H : Heap} {locs : List Loc} {ls : Array Slot} (n : Nat) (C : yX p e R s m args c Y w nL cc own)
    (hM : yMet l y (yWs y bytes maxL ret) rm Y w μ (va_re w.1 (some id) :: As) f out) (hg : GoodIn yGW (wsV own index q.1 y (yWs y bytes maxL ret))) (hcl : yCl[ci]? = some q) (h6 : ci < 6)
    (hd : y.cls = q.1 ∧ y.cls ≠ "java/lang/invoke/MethodHandle" ∧ y.cls ≠ "java/lang/invoke/VarHandle" ∧ (parseMethodDescriptor y.desc).map (fun d => d.parameters.length) = some n) (hR : rm.frames + 1 ≤ R.frames ∧ 8 + (maxL + 11) + rm.locals ≤ R.locals) (hrc : rm.cells = 0) (hrs : rm.slots = 0) (hcs : cells ≤ R.cells ∧ slots ≤ R.slots)
    (hn : As.length = n) (hst : st0 = As.reverse ++ va_re w.1 (some id) :: st) (hcat : (st.map fun v => v.category).sum ≤ 8) (hdg : decode cc pc = .ok (.invokevirtual index, 3))
    (hlt : id < Y.1) (hkd : Y.2.1 id = ci) (h1 : lv_has ls nL lv) (h2 : va_P w.2.1 yCl (yW Y w μ) H) (h3 : va_S (yA Y w) s.heap H locs)
    (kk : ∀ (H1 : Heap) (locs1 : List Loc), va_P w.2.1 yCl (yW Y w out.2) H1 → va_S (yA Y w) s.heap H1 locs1 → W p l e R s m args below meth c H1 locs1 cells slots Q (F0 m (pc + 3) ls ((f out.1).toList ++ st))) : W p l e R s m args below meth c H locs cells slots Q (F0 m pc ls st0) := by
  subst hst
  have he : (yW Y w μ)[id]? = some (w.1 id, .inr (ci, yF Y w μ id ci (yNf ci))) := by rw [yW_at hlt, yC_c hkd h6]
  have hr := va_runV (p := p) (l := l) (e := e) (below := below) (meth := meth) (H := H) (locs := locs) (cells := cells) (slots := slots) (g := F0 m pc ls (As.reverse ++ va_re w.1 (some id) :: st)) (b := w.1 id) (As := As) (rest := st) (nL := nL) (own := own) ⟨C.1, C.2.1, C.2.2.1, C.2.2.2.1, C.2.2.2.2.1⟩ hM (cwV n C.2.2.2.2.1 hg rfl hrc hrs hd hR) ⟨yB.blind, va_recv C.2.2.2.2.2.1 h2 hcl he, fun U hU hW => ⟨rfl, by rw [hU]; exact h2, va_K.moved hW.alike C.2.2.2.2.2.1, C.2.2.2.2.2.2.1, C.2.2.2.2.2.2.2.warm hW⟩⟩ rfl hn h1.1 rfl (lv_room hcat) hdg ⟨by omega, by omega⟩
  intro T hT X
  obtain ⟨v, st₀, t, T', L, h0, X', hL, e1, e2, ⟨hv, hp, hF⟩, stp⟩ := hr T hT X
  cases hv
  obtain ⟨-, -, k3⟩ := vx_keep h0 e1 h3 (fun _ _ z => z) (fun _ z => z) hL hF
  obtain ⟨t2, a1, b1⟩ := kk T'.heap (locs ++ L) (by rw [e1]; exact hp) k3 T' rfl X'
  exact ⟨t2, stp t2 a1, b1⟩
end TR
theorem z_661 : (Jvm.Cond.methodLink "WhoseGlass" (263 : Nat) ({ cls := "WhoseGlass$Shelf", name := "throwFailure", desc := "()V" } : Jvm.MethodName)) ∈ yGW := y_i3 181 rfl rfl
theorem z_662 : (Jvm.Cond.instanceMethod ({ cls := "WhoseGlass$Shelf", name := "throwFailure", desc := "()V" } : Jvm.MethodName)) ∈ yGW := y_i3 182 rfl rfl
theorem z_663 : (Jvm.Cond.selects "WhoseGlass$Shelf" ({ cls := "WhoseGlass$Shelf", name := "throwFailure", desc := "()V" } : Jvm.MethodName) ({ cls := "WhoseGlass$Shelf", name := "throwFailure", desc := "()V" } : Jvm.MethodName)) ∈ yGW := y_i3 183 rfl rfl
theorem z_664 : (Jvm.Cond.code ({ cls := "WhoseGlass$Shelf", name := "throwFailure", desc := "()V" } : Jvm.MethodName) prog_6_method_10_code (1 : Nat) (Option.none : Option Jvm.ClassFile.FieldType)) ∈ yGW := y_i3 184 rfl rfl
theorem z_658 : (Jvm.Cond.classLink "WhoseGlass" (266 : Nat) "java/lang/UnsupportedOperationException") ∈ yGW := y_i3 178 rfl rfl
theorem z_657 : (Jvm.Cond.codeWith ({ cls := "WhoseGlass", name := "toss", desc := "(I)I" } : Jvm.MethodName) prog_1_method_40_code (4 : Nat) (Option.some Jvm.ClassFile.FieldType.int) [((25 : Nat), (31 : Nat), (32 : Nat), (266 : Nat)), ((25 : Nat), (31 : Nat), (42 : Nat), (242 : Nat)), ((25 : Nat), (31 : Nat), (51 : Nat), (235 : Nat))]) ∈ yGW := y_i3 177 rfl rfl
theorem d_X_toss_0 : decode prog_1_method_40_code 0 = .ok (.aload_n 0, 1) := by decide +kernel
theorem d_X_toss_1 : decode prog_1_method_40_code 1 = .ok (.iload_n 1, 1) := by decide +kernel
theorem d_X_toss_2 : decode prog_1_method_40_code 2 = .ok (.invokevirtual 29, 3) := by decide +kernel
theorem d_X_toss_5 : decode prog_1_method_40_code 5 = .ok (.astore_n 2, 1) := by decide +kernel
theorem d_X_toss_6 : decode prog_1_method_40_code 6 = .ok (.aload_n 2, 1) := by decide +kernel
theorem d_X_toss_7 : decode prog_1_method_40_code 7 = .ok (.ifnonnull 5, 3) := by decide +kernel
theorem d_X_toss_10 : decode prog_1_method_40_code 10 = .ok (.iconst (-1), 1) := by decide +kernel
theorem d_X_toss_11 : decode prog_1_method_40_code 11 = .ok (.ireturn, 1) := by decide +kernel
theorem d_X_toss_12 : decode prog_1_method_40_code 12 = .ok (.aload_n 2, 1) := by decide +kernel
theorem d_X_toss_13 : decode prog_1_method_40_code 13 = .ok (.getfield 33, 3) := by decide +kernel
theorem d_X_toss_16 : decode prog_1_method_40_code 16 = .ok (.iconst 1, 1) := by decide +kernel
theorem d_X_toss_17 : decode prog_1_method_40_code 17 = .ok (.if_icmp .eq 8, 3) := by decide +kernel
theorem d_X_toss_20 : decode prog_1_method_40_code 20 = .ok (.aload_n 2, 1) := by decide +kernel
theorem d_X_toss_21 : decode prog_1_method_40_code 21 = .ok (.invokevirtual 40, 3) := by decide +kernel
theorem d_X_toss_24 : decode prog_1_method_40_code 24 = .ok (.ireturn, 1) := by decide +kernel
theorem d_X_toss_25 : decode prog_1_method_40_code 25 = .ok (.aload_n 2, 1) := by decide +kernel
theorem d_X_toss_26 : decode prog_1_method_40_code 26 = .ok (.invokevirtual 263, 3) := by decide +kernel
theorem d_X_toss_29 : decode prog_1_method_40_code 29 = .ok (.bipush (-15), 2) := by decide +kernel
theorem d_X_toss_31 : decode prog_1_method_40_code 31 = .ok (.ireturn, 1) := by decide +kernel
theorem d_X_toss_32 : decode prog_1_method_40_code 32 = .ok (.astore_n 3, 1) := by decide +kernel
theorem d_X_toss_33 : decode prog_1_method_40_code 33 = .ok (.sipush 200, 3) := by decide +kernel
theorem d_X_toss_36 : decode prog_1_method_40_code 36 = .ok (.aload_n 2, 1) := by decide +kernel
theorem d_X_toss_37 : decode prog_1_method_40_code 37 = .ok (.invokevirtual 260, 3) := by decide +kernel
theorem d_X_toss_40 : decode prog_1_method_40_code 40 = .ok (.iadd, 1) := by decide +kernel
theorem d_X_toss_41 : decode prog_1_method_40_code 41 = .ok (.ireturn, 1) := by decide +kernel
theorem d_X_toss_42 : decode prog_1_method_40_code 42 = .ok (.astore_n 3, 1) := by decide +kernel
theorem d_X_toss_43 : decode prog_1_method_40_code 43 = .ok (.bipush 100, 2) := by decide +kernel
theorem d_X_toss_45 : decode prog_1_method_40_code 45 = .ok (.aload_n 2, 1) := by decide +kernel
theorem d_X_toss_46 : decode prog_1_method_40_code 46 = .ok (.getfield 85, 3) := by decide +kernel
theorem d_X_toss_49 : decode prog_1_method_40_code 49 = .ok (.iadd, 1) := by decide +kernel
theorem d_X_toss_50 : decode prog_1_method_40_code 50 = .ok (.ireturn, 1) := by decide +kernel
theorem d_X_toss_51 : decode prog_1_method_40_code 51 = .ok (.astore_n 3, 1) := by decide +kernel
theorem d_X_toss_52 : decode prog_1_method_40_code 52 = .ok (.aload_n 2, 1) := by decide +kernel
theorem d_X_toss_53 : decode prog_1_method_40_code 53 = .ok (.getfield 85, 3) := by decide +kernel
theorem d_X_toss_56 : decode prog_1_method_40_code 56 = .ok (.ireturn, 1) := by decide +kernel
theorem gc_X_toss_263 : GoodIn yGW (wsV "WhoseGlass" 263 yR3 m_S_throwFailure ws_S_throwFailure) := y_gV z_661 z_662 z_663 g_5 z_664
def m_X_toss : MethodName := ⟨"WhoseGlass", "toss", "(I)I"⟩
def tab_toss : List (Nat × Nat × Nat × Nat) := [(25, 31, 32, 266), (25, 31, 42, 242), (25, 31, 51, 235)]
abbrev ws_X_toss : List Cond := Cond.codeWith m_X_toss prog_1_method_40_code 4 (some .int) tab_toss :: yGW
theorem hd_X_toss : m_X_toss.cls = yR4 ∧ m_X_toss.cls ≠ "java/lang/invoke/MethodHandle" ∧ m_X_toss.cls ≠ "java/lang/invoke/VarHandle" ∧ (parseMethodDescriptor m_X_toss.desc).map (fun d => d.parameters.length) = some 1 := ⟨rfl, by decide +kernel, by decide +kernel, by decide +kernel⟩
/-- behind the failure: none, or which -/
def tsK (F : Nat) (r1 : Option Nat) (E : Option String) (u3 : Mm) : Option (Int32 × Mm) := match E with
  | none => some (-15, u3)
  | some E => if E = xUO then ob (jk YX 3 r1) fun t => yb (f_S_glassCost F u3 t) fun x u4 => some (200 + x, u4) else if E = xIS then ob (jgi YX 3 2 u3 r1) fun x => some (100 + x, u3) else ob (jgi YX 3 2 u3 r1) fun x => some (x, u3)
def f_X_toss (F : Nat) (u : Mm) (o : Nat) (a1 : Int32) : Option (Int32 × Mm) := ob (jk YX 4 (some o)) fun t => yb (f_X_shelfAt F u t a1) fun r1 u2 => (if r1 = none then some ((-1 : Int32), u2) else ob (jgi YX 3 0 u2 r1) fun (x4 : Int32) => (if x4 = (1 : Int32) then ob (jk YX 3 r1) fun t => yb (f_S_throwFailure F u2 t) fun x u3 => tsK F r1 x.1 u3 else ob (jk YX 3 r1) fun t => yb (f_S_whyNot F u2 t) fun x8 u9 => some (x8, u9)))
theorem tf_E {F o : Nat} {u : Mm} {out : (Option String × Unit) × Mm} (h : f_S_throwFailure F u o = some out) : (out.1.1 = none ∨ out.1.1 = some xUO ∨ out.1.1 = some xIS ∨ out.1.1 = some xIA) ∧ out.2 = u := by
  unfold f_S_throwFailure at h
  obtain ⟨x1, -, h⟩ := ob_e h
  by_cases c1 : x1 = 4
  · rw [if_pos c1] at h; cases h; exact ⟨Or.inl rfl, rfl⟩
  · rw [if_neg c1] at h
    obtain ⟨x3, -, h⟩ := ob_e h
    by_cases c3 : x3 = 0
    · rw [if_pos c3] at h; cases h; exact ⟨Or.inl rfl, rfl⟩
    · rw [if_neg c3] at h
      obtain ⟨x5, -, h⟩ := ob_e h
      by_cases c5 : x5 = 5
      · rw [if_pos c5] at h; cases h; exact ⟨Or.inr (Or.inl rfl), rfl⟩
      · rw [if_neg c5] at h
        obtain ⟨x7, -, h⟩ := ob_e h
        by_cases c7 : x7 = 3
        · rw [if_pos c7] at h; cases h; exact ⟨Or.inr (Or.inr (Or.inl rfl)), rfl⟩
        · rw [if_neg c7] at h; cases h; exact ⟨Or.inr (Or.inr (Or.inr rfl)), rfl⟩
theorem xE_ne : ¬ xIS = xUO ∧ ¬ xIA = xUO ∧ ¬ xIA = xIS := by decide +kernel
set_option maxHeartbeats 4000000 in
set_option maxRecDepth 100000 in
theorem c_X_toss (l : Launch) (hlt : l.stackTraces = false) (w : WP) (F : Nat) (u : Mm) (o : Nat) (a1 : Int32) (out : Int32 × Mm) (h : f_X_toss F u o a1 = some out) : tMet l m_X_toss ws_X_toss ({ frames := 9, cells := 1, slots := 6, locals := 300 } : Room) YX w u [va_re w.1 (some o), .int a1] yfi out := by
  refine t_entry (own := "WhoseGlass") (lv := [(0, va_re w.1 (some o)), (1, .int a1)]) (by decide +kernel) rfl (by simp [lv_args, y_cat, y_catI, y_catJ]) (by simp [lg_sl, y_cat, y_catI, y_catJ]) ?_
  intro p e s m args below meth c C hr hlocks htab hE
  have ret : ∀ (v : Int32) (μ : Mm) (pc : Nat) (ls : Array Slot) (H1 : Heap) (locs1 : List Loc), some (v, μ) = some out → va_P w.2.1 yCl (yW YX w μ) H1 → va_S (yA YX w) s.heap H1 locs1 → decode prog_1_method_40_code pc = .ok (.ireturn, 1) → W p l e ({ frames := 9, cells := 1, slots := 6, locals := 300 } : Room) s m args below meth c H1 locs1 1 6 (MQ below (yQ YX w yfi out) args s 1 6 (yA YX w)) (F0 m pc ls [.int v]) := by
    intro v μ pc ls H1 locs1 hh hP hS hdg
    cases hh
    exact W.iret C.1 C.2.1 hr (fun t ht hW => ⟨rfl, by rw [ht]; exact hP, hS.F ht⟩) hS.2.2 hdg hlocks
  have ret0 : ∀ (v : Int32) (μ : Mm) (pc : Nat) (lv : List (Nat × Value)), some (v, μ) = some out → decode prog_1_method_40_code pc = .ok (.ireturn, 1) → yG p l e ({ frames := 9, cells := 1, slots := 6, locals := 300 } : Room) s m args below meth c YX w 4 (MQ below (yQ YX w yfi out) args s 1 6 (yA YX w)) μ pc lv [.int v] := by
    intro v μ pc lv hh hdg H locs ls h1 h2 h3
    exact W.widen (k := 1) (n := 6) (by omega) (by omega) (ret v μ pc ls H locs hh h2 h3 hdg)
  unfold f_X_toss at h
  refine y_aload_n C (i := 0) 0 d_X_toss_0 rfl rfl ?_
  refine y_iload_n C (i := 1) 1 d_X_toss_1 rfl rfl ?_
  refine y_callV 1 C (q := (yR4, yT4, 5)) (ci := 4) (fun t out hh => c_X_shelfAt l w F u t a1 out hh) gc_X_cost_29 rfl (by decide) hd_X_shelfAt ⟨Nat.le_of_ble_eq_true rfl, Nat.le_of_ble_eq_true rfl⟩ rfl rfl rfl rfl (by simp [y_cat, y_catI, y_catJ]) d_X_toss_2 h (fun r1 u2 h => ?_)
  refine y_stk (stp0 := [va_re w.1 r1]) rfl ?_
  refine y_astore_n C (i := 2) (lvp := [(0, va_re w.1 (some o)), (1, .int a1)]) d_X_toss_5 rfl (by decide) (by simp [List.filter, y_cat, y_catI, y_catJ]) ?_
  refine y_aload_n C (i := 2) 0 d_X_toss_6 rfl rfl ?_
  refine y_ifnonnull C 12 d_X_toss_7 (by decide) h (fun k3 h => ?_) (fun k3 h => ?_)
  · refine y_iconst C (v := -1) d_X_toss_10 (by decide) ?_
    exact ret0 _ _ _ _ h d_X_toss_11
  · refine y_aload_n C (i := 2) 0 d_X_toss_12 rfl rfl ?_
    refine y_gi C (q := (yR3, yT3, 6)) (ci := 3) (k := 0) rfl (by decide) rfl g_176 d_X_toss_13 h (fun x4 h => ?_)
    refine y_iconst C (v := 1) d_X_toss_16 (by decide) ?_
    refine y_ic_eq C 25 d_X_toss_17 (by decide) h (fun k5 h => ?_) (fun k5 h => ?_)
    · refine y_aload_n C (i := 2) 0 d_X_toss_25 rfl rfl ?_
      obtain ⟨id, hid, hh⟩ := ob_e h
      obtain ⟨hr1, hlt1, hkd⟩ := jk_e hid
      subst hr1
      obtain ⟨ox, hox, hh⟩ := yb_e hh
      obtain ⟨hEc, hmem⟩ := tf_E hox
      refine y_callX 0 C (q := (yR3, yT3, 6)) (ci := 3) (id := id) (As := []) (st := []) hE (c_S_throwFailure l hlt w F u2 id ox hox) gc_X_toss_263 rfl (by decide) hd_S_throwFailure ⟨Nat.le_of_ble_eq_true rfl, Nat.le_of_ble_eq_true rfl⟩ rfl rfl ⟨Nat.le_refl _, Nat.le_refl _⟩ rfl rfl (by decide) d_X_toss_26 hlt1 hkd (fun hn H1 locs1 ls h1 h2 h3 => ?_) (fun E q9 ce hx H1 locs1 ls h1 h2 h3 hce hcv hcl => ?_)
      · rw [hn] at hh
        refine lv_bipush (v := -15) C.1 C.2.1 d_X_toss_29 (by decide) ?_
        exact ret _ _ _ ls H1 locs1 hh h2 h3 d_X_toss_31
      · rw [hx] at hEc hh
        have he : (yW YX w ox.2)[id]? = some (w.1 id, .inr (3, yF YX w ox.2 id 3 6)) := by rw [yW_at hlt1, yC_c hkd (by decide)]; rfl
        have hf : (2 : Nat) < 6 := by decide
        obtain ⟨e1, e2, -, -, -⟩ := yCls (ci := 3) (q := (yR3, yT3, 6)) rfl
        have fld : ∀ (pc : Nat) (H1 : Heap) (locs1 : List Loc) (ls : Array Slot) (st : List Value), va_P w.2.1 yCl (yW YX w ox.2) H1 → decode prog_1_method_40_code pc = .ok (.getfield 85, 3) → W p l e ({ frames := 9, cells := 1, slots := 6, locals := 300 } : Room) s m args below meth c H1 locs1 1 6 (MQ below (yQ YX w yfi out) args s 1 6 (yA YX w)) (F0 m (pc + 3) ls (.int (ox.2.1 id 2) :: st)) → W p l e ({ frames := 9, cells := 1, slots := 6, locals := 300 } : Room) s m args below meth c H1 locs1 1 6 (MQ below (yQ YX w yfi out) args s 1 6 (yA YX w)) (F0 m pc ls (.ref (w.1 id) :: st)) := fun pc H1 locs1 ls st hP hdg kk =>
          va_get (D := w.2.1) (ci := 3) (v := .int (ox.2.1 id 2)) C.1 C.2.1 C.2.2.2.2.1 e1 C.2.2.2.1 C.2.2.2.2.2.1 hP id he rfl 2 hf (C.2.2.2.2.1 _ g_179) (fun _ z => z) rfl hdg kk
        have xf : jgi YX 3 2 ox.2 (some id) = some (ox.2.1 id 2) := by
          rw [jgi, show jk YX 3 (some id) = some id from by show ob (some id) _ = _; rw [ob_s, if_pos ⟨hlt1, hkd⟩], ob_s]
        have kj : jk YX 3 (some id) = some id := by show ob (some id) _ = _; rw [ob_s, if_pos ⟨hlt1, hkd⟩]
        rcases hEc with hc | hc | hc | hc
        · cases hc
        · cases hc
          refine vx_catch (name := xUO) C.2.2.2.1 [] ⟨25, 31, 32, 266⟩ [⟨25, 31, 42, 242⟩, ⟨25, 31, 51, 235⟩] (htab.trans rfl) (fun z hz => absurd hz List.not_mem_nil) (by decide) (by decide) (C.2.2.2.2.1 _ z_658) ((hE.2.2.1 _ (List.mem_of_getElem? (i := 2) rfl)).use rfl) hce hcv hcl ?_
          have hh : (ob (jk YX 3 (some id)) fun t => yb (f_S_glassCost F ox.2 t) fun x u4 => some (200 + x, u4)) = some out := by
            have : tsK F (some id) (some xUO) ox.2 = some out := hh
            unfold tsK at this
            dsimp only at this
            rw [if_pos rfl] at this
            exact this
          rw [kj, ob_s] at hh
          obtain ⟨og, hog, hh⟩ := yb_e hh
          refine lv_astore_n (i := 3) C.1 C.2.1 d_X_toss_32 rfl h1 (by decide) (congrArg (List.cons (3, Value.ref q9)) (show List.filter _ _ = [(2, va_re w.1 (some id)), (0, va_re w.1 (some o)), (1, .int a1)] by simp [List.filter, y_cat, y_catI, y_catJ])) (fun ls2 h4 => ?_)
          refine lv_sipush (v := 200) C.1 C.2.1 d_X_toss_33 (by decide) ?_
          refine lv_aload_n C.1 C.2.1 d_X_toss_36 rfl (lv_at h4 1 rfl) ?_
          refine w_callV 0 C (q := (yR3, yT3, 6)) (ci := 3) (id := id) (As := []) (st := [.int 200]) (c_S_glassCost l w F ox.2 id og hog) gc_X_cost_260 rfl (by decide) hd_S_glassCost ⟨Nat.le_of_ble_eq_true rfl, Nat.le_of_ble_eq_true rfl⟩ rfl rfl ⟨Nat.le_refl _, Nat.le_refl _⟩ rfl rfl (by decide) d_X_toss_37 hlt1 hkd h4 h2 h3 (fun H2 locs2 g2 g3 => ?_)
          refine lv_iadd C.1 C.2.1 d_X_toss_40 ?_
          exact ret _ _ _ ls2 H2 locs2 hh g2 g3 d_X_toss_41
        · cases hc
          refine vx_catch (name := xIS) C.2.2.2.1 [⟨25, 31, 32, 266⟩] ⟨25, 31, 42, 242⟩ [⟨25, 31, 51, 235⟩] (htab.trans rfl) (fun z hz => ?_) (by decide) (by decide) (C.2.2.2.2.1 _ z_659) ((hE.2.2.1 _ (List.mem_of_getElem? (i := 1) rfl)).use rfl) hce hcv hcl ?_
          · rw [List.mem_singleton] at hz
            subst hz
            exact Or.inr ⟨by decide, xUO, C.2.2.2.2.1 _ z_658, hE.2.2.2.1⟩
          have hh : (ob (jgi YX 3 2 ox.2 (some id)) fun x => some (100 + x, ox.2)) = some out := by
            have : tsK F (some id) (some xIS) ox.2 = some out := hh
            unfold tsK at this
            dsimp only at this
            rw [if_neg xE_ne.1, if_pos rfl] at this
            exact this
          rw [xf, ob_s] at hh
          refine lv_astore_n (i := 3) C.1 C.2.1 d_X_toss_42 rfl h1 (by decide) (congrArg (List.cons (3, Value.ref q9)) (show List.filter _ _ = [(2, va_re w.1 (some id)), (0, va_re w.1 (some o)), (1, .int a1)] by simp [List.filter, y_cat, y_catI, y_catJ])) (fun ls2 h4 => ?_)
          refine lv_bipush (v := 100) C.1 C.2.1 d_X_toss_43 (by decide) ?_
          refine lv_aload_n C.1 C.2.1 d_X_toss_45 rfl (lv_at h4 1 rfl) ?_
          refine fld _ _ _ _ _ h2 d_X_toss_46 ?_
          refine lv_iadd C.1 C.2.1 d_X_toss_49 ?_
          exact ret _ _ _ ls2 H1 locs1 hh h2 h3 d_X_toss_50
        · cases hc
          refine vx_catch (name := xIA) C.2.2.2.1 [⟨25, 31, 32, 266⟩, ⟨25, 31, 42, 242⟩] ⟨25, 31, 51, 235⟩ [] (htab.trans rfl) (fun z hz => ?_) (by decide) (by decide) (C.2.2.2.2.1 _ z_660) ((hE.2.2.1 _ (List.mem_of_getElem? (i := 0) rfl)).use rfl) hce hcv hcl ?_
          · simp only [List.mem_cons, List.not_mem_nil, or_false] at hz
            rcases hz with rfl | rfl
            · exact Or.inr ⟨by decide, xUO, C.2.2.2.2.1 _ z_658, hE.2.2.2.2.1⟩
            · exact Or.inr ⟨by decide, xIS, C.2.2.2.2.1 _ z_659, hE.2.2.2.2.2.1⟩
          have hh : (ob (jgi YX 3 2 ox.2 (some id)) fun x => some (x, ox.2)) = some out := by
            have : tsK F (some id) (some xIA) ox.2 = some out := hh
            unfold tsK at this
            dsimp only at this
            rw [if_neg xE_ne.2.1, if_neg xE_ne.2.2] at this
            exact this
          rw [xf, ob_s] at hh
          refine lv_astore_n (i := 3) C.1 C.2.1 d_X_toss_51 rfl h1 (by decide) (congrArg (List.cons (3, Value.ref q9)) (show List.filter _ _ = [(2, va_re w.1 (some id)), (0, va_re w.1 (some o)), (1, .int a1)] by simp [List.filter, y_cat, y_catI, y_catJ])) (fun ls2 h4 => ?_)
          refine lv_aload_n C.1 C.2.1 d_X_toss_52 rfl (lv_at h4 1 rfl) ?_
          refine fld _ _ _ _ _ h2 d_X_toss_53 ?_
          exact ret _ _ _ ls2 H1 locs1 hh h2 h3 d_X_toss_56
    · refine y_aload_n C (i := 2) 0 d_X_toss_20 rfl rfl ?_
      refine y_callV 0 C (q := (yR3, yT3, 6)) (ci := 3) (fun t out hh => c_S_whyNot l w F u2 t out hh) gc_X_cost_40 rfl (by decide) hd_S_whyNot ⟨Nat.le_of_ble_eq_true rfl, Nat.le_of_ble_eq_true rfl⟩ rfl rfl rfl rfl (by simp [y_cat, y_catI, y_catJ]) d_X_toss_21 h (fun x8 u9 h => ?_)
      refine y_stk (stp0 := [.int x8]) rfl ?_
      exact ret0 _ _ _ _ h d_X_toss_24
