/-! PURE 74: what throws: the environment, the contracts zMet, their rows -/
def xE (A : Nat → Prop) (U : State) : Prop :=
  (vx_Zq Bundle.tN "UNASSIGNED_STACK" Bundle.steD A U U.heap ∧ vx_Zq Bundle.tN "SUPPRESSED_SENTINEL" Bundle.listD A U U.heap) ∧
  ((∃ a, vk_R "WhoseGlass" 237 "no such shelf" a U) ∧ (∃ a, vk_R "WhoseGlass" 244 "no row, or no such place in it" a U) ∧ (∃ a, vk_R "WhoseGlass$Shelf" 38 "an owl's" a U) ∧ (∃ a, vk_R "WhoseGlass$Shelf" 45 "a red one's" a U) ∧ ∃ a, vk_R "WhoseGlass$Shelf" 50 "a glass's" a U) ∧
  (∀ w ∈ xNg, va_Nw w U) ∧ (va_Nc xIS xUO U ∧ va_Nc xIA xUO U ∧ va_Nc xIA xIS U ∧ va_Nc xIS xIA U)
theorem xE.go {A B : Nat → Prop} {s U : State} (h : xE A s) (hW : s.WarmedH U.vm) (hq : ∀ q : Nat, q < s.heap.size → ¬ A q → U.heap[q]? = s.heap[q]?) (hB : ∀ q, B q → A q) : xE B U := by
  obtain ⟨⟨h1, h2⟩, ⟨⟨a1, s1⟩, ⟨a2, s2⟩, ⟨a3, s3⟩, ⟨a4, s4⟩, ⟨a5, s5⟩⟩, h3, ⟨n1, n2, n3, n4⟩⟩ := h
  refine ⟨⟨((vx_Zq.moved hW.alike h1).kept hq).narrow hB, ((vx_Zq.moved hW.alike h2).kept hq).narrow hB⟩, ⟨⟨a1, s1.warm hW⟩, ⟨a2, s2.warm hW⟩, ⟨a3, s3.warm hW⟩, ⟨a4, s4.warm hW⟩, ⟨a5, s5.warm hW⟩⟩, fun w hw => ?_, ⟨n1.moved hW.alike, n2.moved hW.alike, n3.moved hW.alike, n4.moved hW.alike⟩⟩
  have h0 := h3 w hw
  simp only [xNg, List.mem_cons, List.not_mem_nil, or_false] at hw
  rcases hw with rfl | rfl | rfl | rfl | rfl | rfl
  · exact va_Nw.warmC hW h0
  · exact va_Nw.warmC hW h0
  · exact va_Nw.warmC hW h0
  · exact va_Nw.warmD hW h0
  · exact va_Nw.warmD hW h0
  · exact va_Nw.warmD hW h0
theorem xNg_t : ∀ w ∈ xNg, w.onTables = true := by
  intro w hw
  simp only [xNg, List.mem_cons, List.not_mem_nil, or_false] at hw
  rcases hw with rfl | rfl | rfl | rfl | rfl | rfl <;> rfl
theorem xE.calling {A : Nat → Prop} {U : State} {g : JFrame} {mk : MethodId} {a : Array Value} (h : xE A U) : xE A (U.calling g mk a) :=
  h.go (U := U.calling g mk a) (State.WarmedH.refl U) (fun _ _ _ => rfl) (fun _ q => q)
/-- a contract of a method that may throw: which, or the answer -/
def zQ {ρ : Type} (Y : Sy) (w : WP) (f : ρ → Option Value) (out : (Option String × ρ) × Mm) : Array Value → State → Outcome → State → Prop := fun _ st oc t => out.1.1 = none ∧ oc = .returned (f out.1.2) ∧ va_P w.2.1 yCl (yW Y w out.2) t.heap ∧ va_F (yA Y w) st t
def zXC {ρ : Type} (Y : Sy) (w : WP) (out : (Option String × ρ) × Mm) : String → State → State → Prop := fun E st t => out.1.1 = some E ∧ va_P w.2.1 yCl (yW Y w out.2) t.heap ∧ va_F (yA Y w) st t
def zMet {ρ : Type} (l : Launch) (y : MethodName) (ws : List Cond) (rm : Room) (Y : Sy) (w : WP) (μ : Mm) (As : List Value) (f : ρ → Option Value) (out : (Option String × ρ) × Mm) : Prop := vx_Met l y ws rm (va_Pc As (fun U => yB Y w μ U ∧ xE (yA Y w) U)) (zQ Y w f out) (zXC Y w out) 1 6 (yA Y w)
theorem zB.blind {Y : Sy} {w : WP} {μ : Mm} {As : List Value} : FrameBlind (va_Pc As (fun U => yB Y w μ U ∧ xE (yA Y w) U)) := fun a U g mk h => ⟨h.1, (yB.blind (As := As) a U g mk ⟨h.1, h.2.1⟩).2, h.2.2.calling⟩
theorem z_entry {l : Launch} {y : MethodName} {rm : Room} {Y : Sy} {w : WP} {μ : Mm} {As : List Value} {ρ : Type} {f : ρ → Option Value} {out : (Option String × ρ) × Mm} {cc : ByteArray} {maxL : Nat} {ret : Option FieldType} {own : String} {lv : List (Nat × Value)} (hy : plainName y.cls = true) (hcls : y.cls = own) (hlv : lv_args 0 As = lv) (hlen : (lg_sl As).length ≤ maxL)
    (body : ∀ (p : Program) (e : Env) (s : State) (m : MethodId) (args : Array Value) (below : List Frame) (meth : Method) (c : Code), yX p e rm s m args c Y w maxL cc own → meth.sig.returnType = ret → meth.locks = false → (∀ x ∈ c.exceptionTable.toList, False) → xE (yA Y w) s → yG p l e rm s m args below meth c Y w maxL (vx_MQ below (zQ Y w f out) (zXC Y w out) args s 1 6 (yA Y w)) μ 0 lv []) : zMet l y (yWs y cc maxL ret) rm Y w μ As f out := by
  refine vx_ofW (cc := cc) (maxL := maxL) (ret := ret) hy rfl ?_
  intro p e s m args below meth c s₁ B hml ht hv
  obtain ⟨rfl, ⟨hP, hK, hI, hN⟩, hE⟩ := hv
  have hts := atoms_spec (ws := yWs y cc maxL ret) B.pre
  have hown : s.vm.findClass own = some m.cls := hcls ▸ findClass_of_methodNamed B.named
  have hl := lv_entry As (n := maxL) hlen
  rw [hlv] at hl
  rw [lg_entry_eq]
  exact body p e s m As.toArray below meth c ⟨B.exec, B.bytes, hml, hown, fun w hw => hts w (List.mem_cons_of_mem _ hw), hK, hI, hN⟩ B.returns B.notSynchronized ht hE s.heap [] _ hl hP va_S.rf
section ZR
variable {p : Program} {l : Launch} {e : Env} {R : Room} {s : State} {m : MethodId} {args : Array Value} {below : List Frame} {meth : Method} {c : Code} {Y : Sy} {w : WP} {nL : Nat} {Q : State → Prop} {cc : ByteArray} {own : String}
variable {μ : Mm} {pc : Nat} {lv : List (Nat × Value)} {st : List Value}
theorem z_vret (C : yX p e R s m args c Y w nL cc own) {out : (Option String × Unit) × Mm} (hr : meth.sig.returnType = none) (hlocks : meth.locks = false) (hdg : decode cc pc = .ok (.return_, 1)) (h : some ((none, ()), μ) = some out) : yG p l e R s m args below meth c Y w nL (vx_MQ below (zQ Y w yfv out) (zXC Y w out) args s 1 6 (yA Y w)) μ pc lv [] := by
  cases h
  intro H locs ls h1 h2 h3
  refine vx_ret (W.widen (k := 1) (n := 6) (by omega) (by omega) ?_)
  exact W.vret C.1 C.2.1 hr (fun t ht hW => ⟨rfl, rfl, by rw [ht]; exact h2, h3.F ht⟩) h3.2.2 hdg hlocks
theorem z_lret (C : yX p e R s m args c Y w nL cc own) {v : Int64} {out : (Option String × Int64) × Mm} (hr : meth.sig.returnType = some .long) (hlocks : meth.locks = false) (hdg : decode cc pc = .ok (.lreturn, 1)) (h : some ((none, v), μ) = some out) : yG p l e R s m args below meth c Y w nL (vx_MQ below (zQ Y w yfl out) (zXC Y w out) args s 1 6 (yA Y w)) μ pc lv [.long v] := by
  cases h
  intro H locs ls h1 h2 h3
  refine vx_ret (W.widen (k := 1) (n := 6) (by omega) (by omega) ?_)
  exact W.lret C.1 C.2.1 hr (fun t ht hW => ⟨rfl, rfl, by rw [ht]; exact h2, h3.F ht⟩) h3.2.2 hdg hlocks
theorem z_thr {ρ : Type} {f : ρ → Option Value} {v : ρ} {cls text : String} {names : List String} {ik is ic : Nat} {out : (Option String × ρ) × Mm} (C : yX p e R s m args c Y w nL cc own) (hl : l.stackTraces = false) (hlocks : meth.locks = false) (htab : ∀ x ∈ c.exceptionTable.toList, False) (hE : xE (yA Y w) s) (hstr : ∃ a, vk_R own is text a s)
    (hcls : Bundle.fit cls = true) (hnames : ∀ n ∈ names, Bundle.fit n = true) (hk : Cond.classLink own ik cls ∈ yGW) (hi : Cond.initialized cls ∈ yGW) (ha : ∀ w ∈ vx_atS own ic cls names, w ∈ lw_tbl) (hb : ∀ w ∈ (vx_atS own ic cls names).filter (fun w => !goodWord w), w ∈ xNg) (ho : ∀ w ∈ vx_atS own ic cls names, vx_ot w = true)
    (d0 : decode cc pc = .ok (.new ik, 3)) (d3 : decode cc (pc + 3) = .ok (.dup, 1)) (d4 : decode cc (pc + 4) = .ok (.ldc is, 2)) (d6 : decode cc (pc + 6) = .ok (.invokespecial ic, 3)) (d9 : decode cc (pc + 9) = .ok (.athrow, 1))
    (hfr : names.length + 3 < R.frames) (hlo : (st.map fun v => v.category).sum + (13 * (names.length + 1) + 43) ≤ R.locals) (hce : 1 ≤ R.cells) (hsl : 6 ≤ R.slots) (h : some ((some cls, v), μ) = some out) : yG p l e R s m args below meth c Y w nL (vx_MQ below (zQ Y w f out) (zXC Y w out) args s 1 6 (yA Y w)) μ pc lv st := by
  cases h
  intro H locs ls h1 h2 h3
  obtain ⟨a, hs⟩ := hstr
  have og : ∀ {w : Cond}, w ∈ yGW → vx_ot w = true := fun hw => by
    unfold vx_ot
    rw [y_good hw, Bool.or_true]
  refine vx_throwS (A := yA Y w) (rest := st) C.1 C.2.1 hl C.2.2.2.1 hcls hnames (C.2.2.2.2.1 _ hk) (C.2.2.2.2.1 _ hi) hs ?_ ?_ hE.1.1 hE.1.2 h3 (h1.1.trans C.2.2.1.symm) d0 d3 d4 d6 d9 (fun x hx => (htab x hx).elim) hfr hlo (by omega) (by omega) hlocks (fun t hA hz hk => ⟨rfl, ?_, ?_⟩) h3.2.2 (by omega) (by omega)
  · refine vx_hat (B := xNg) (fun w hw => ?_) hb (fun w hw => (hE.2.2.1 w hw).use (xNg_t w hw))
    obtain ⟨w1, w2⟩ := List.mem_filter.mp hw
    exact C.2.2.2.2.1 _ (List.mem_filter.mpr ⟨ha w w1, w2⟩)
  · intro w hw
    rcases List.mem_cons.mp hw with rfl | hw
    · exact og hk
    · rcases List.mem_cons.mp hw with rfl | hw
      · exact og hi
      · exact ho w hw
  · exact h2.kept (fun k x hx => hk x.1 ((h2 k x hx).lt))
  · exact ⟨Nat.le_trans h3.1 hz, fun q q1 q2 => (hk q (Nat.lt_of_lt_of_le q1 h3.1)).trans (h3.2.1 q q1 q2)⟩
end ZR
theorem z_12 : (Jvm.Cond.initialized "java/lang/IllegalArgumentException") ∈ yGW := y_i1 12 rfl rfl
theorem z_13 : (Jvm.Cond.initialized "java/lang/IllegalStateException") ∈ yGW := y_i1 13 rfl rfl
theorem z_15 : (Jvm.Cond.initialized "java/lang/UnsupportedOperationException") ∈ yGW := y_i1 15 rfl rfl
theorem z_659 : (Jvm.Cond.classLink "WhoseGlass" (242 : Nat) "java/lang/IllegalStateException") ∈ yGW := y_i3 179 rfl rfl
theorem z_660 : (Jvm.Cond.classLink "WhoseGlass" (235 : Nat) "java/lang/IllegalArgumentException") ∈ yGW := y_i3 180 rfl rfl
theorem z_665 : (Jvm.Cond.classLink "WhoseGlass$Shelf" (36 : Nat) "java/lang/UnsupportedOperationException") ∈ yGW := y_i3 185 rfl rfl
theorem z_733 : (Jvm.Cond.classLink "WhoseGlass$Shelf" (43 : Nat) "java/lang/IllegalStateException") ∈ yGW := y_i4 13 rfl rfl
theorem z_749 : (Jvm.Cond.classLink "WhoseGlass$Shelf" (48 : Nat) "java/lang/IllegalArgumentException") ∈ yGW := y_i4 29 rfl rfl
def m_S_throwFailure : MethodName := ⟨"WhoseGlass$Shelf", "throwFailure", "()V"⟩
abbrev ws_S_throwFailure : List Cond := yWs m_S_throwFailure prog_6_method_10_code 1 none
theorem hd_S_throwFailure : m_S_throwFailure.cls = yR3 ∧ m_S_throwFailure.cls ≠ "java/lang/invoke/MethodHandle" ∧ m_S_throwFailure.cls ≠ "java/lang/invoke/VarHandle" ∧ (parseMethodDescriptor m_S_throwFailure.desc).map (fun d => d.parameters.length) = some 0 := ⟨rfl, by decide +kernel, by decide +kernel, by decide +kernel⟩
theorem d_S_throwFailure_0 : decode prog_6_method_10_code 0 = .ok (.aload_n 0, 1) := by decide +kernel
theorem d_S_throwFailure_1 : decode prog_6_method_10_code 1 = .ok (.getfield 30, 3) := by decide +kernel
theorem d_S_throwFailure_4 : decode prog_6_method_10_code 4 = .ok (.iconst 4, 1) := by decide +kernel
theorem d_S_throwFailure_5 : decode prog_6_method_10_code 5 = .ok (.if_icmp .eq 10, 3) := by decide +kernel
theorem d_S_throwFailure_8 : decode prog_6_method_10_code 8 = .ok (.aload_n 0, 1) := by decide +kernel
theorem d_S_throwFailure_9 : decode prog_6_method_10_code 9 = .ok (.getfield 33, 3) := by decide +kernel
theorem d_S_throwFailure_12 : decode prog_6_method_10_code 12 = .ok (.ifCond .ne 4, 3) := by decide +kernel
theorem d_S_throwFailure_15 : decode prog_6_method_10_code 15 = .ok (.return_, 1) := by decide +kernel
theorem d_S_throwFailure_16 : decode prog_6_method_10_code 16 = .ok (.aload_n 0, 1) := by decide +kernel
theorem d_S_throwFailure_17 : decode prog_6_method_10_code 17 = .ok (.getfield 30, 3) := by decide +kernel
theorem d_S_throwFailure_20 : decode prog_6_method_10_code 20 = .ok (.iconst 5, 1) := by decide +kernel
theorem d_S_throwFailure_21 : decode prog_6_method_10_code 21 = .ok (.if_icmp .ne 13, 3) := by decide +kernel
theorem d_S_throwFailure_24 : decode prog_6_method_10_code 24 = .ok (.new 36, 3) := by decide +kernel
theorem d_S_throwFailure_27 : decode prog_6_method_10_code 27 = .ok (.dup, 1) := by decide +kernel
theorem d_S_throwFailure_28 : decode prog_6_method_10_code 28 = .ok (.ldc 38, 2) := by decide +kernel
theorem d_S_throwFailure_30 : decode prog_6_method_10_code 30 = .ok (.invokespecial 40, 3) := by decide +kernel
theorem d_S_throwFailure_33 : decode prog_6_method_10_code 33 = .ok (.athrow, 1) := by decide +kernel
theorem d_S_throwFailure_34 : decode prog_6_method_10_code 34 = .ok (.aload_n 0, 1) := by decide +kernel
theorem d_S_throwFailure_35 : decode prog_6_method_10_code 35 = .ok (.getfield 30, 3) := by decide +kernel
theorem d_S_throwFailure_38 : decode prog_6_method_10_code 38 = .ok (.iconst 3, 1) := by decide +kernel
theorem d_S_throwFailure_39 : decode prog_6_method_10_code 39 = .ok (.if_icmp .ne 13, 3) := by decide +kernel
theorem d_S_throwFailure_42 : decode prog_6_method_10_code 42 = .ok (.new 43, 3) := by decide +kernel
theorem d_S_throwFailure_45 : decode prog_6_method_10_code 45 = .ok (.dup, 1) := by decide +kernel
theorem d_S_throwFailure_46 : decode prog_6_method_10_code 46 = .ok (.ldc 45, 2) := by decide +kernel
theorem d_S_throwFailure_48 : decode prog_6_method_10_code 48 = .ok (.invokespecial 47, 3) := by decide +kernel
theorem d_S_throwFailure_51 : decode prog_6_method_10_code 51 = .ok (.athrow, 1) := by decide +kernel
theorem d_S_throwFailure_52 : decode prog_6_method_10_code 52 = .ok (.new 48, 3) := by decide +kernel
theorem d_S_throwFailure_55 : decode prog_6_method_10_code 55 = .ok (.dup, 1) := by decide +kernel
theorem d_S_throwFailure_56 : decode prog_6_method_10_code 56 = .ok (.ldc 50, 2) := by decide +kernel
theorem d_S_throwFailure_58 : decode prog_6_method_10_code 58 = .ok (.invokespecial 52, 3) := by decide +kernel
theorem d_S_throwFailure_61 : decode prog_6_method_10_code 61 = .ok (.athrow, 1) := by decide +kernel
set_option maxRecDepth 100000 in
def f_S_throwFailure (F : Nat) (u : Mm) (o : Nat) : Option ((Option String × Unit) × Mm) := ob (jgi YX 3 1 u (some o)) fun (x1 : Int32) => (if x1 = (4 : Int32) then some ((none, ()), u) else ob (jgi YX 3 2 u (some o)) fun (x3 : Int32) => (if x3 = 0 then some ((none, ()), u) else ob (jgi YX 3 1 u (some o)) fun (x5 : Int32) => (if x5 = (5 : Int32) then some ((some xUO, ()), u) else ob (jgi YX 3 1 u (some o)) fun (x7 : Int32) => (if x7 = (3 : Int32) then some ((some xIS, ()), u) else some ((some xIA, ()), u)))))
set_option maxHeartbeats 4000000 in
set_option maxRecDepth 100000 in
theorem c_S_throwFailure (l : Launch) (hl : l.stackTraces = false) (w : WP) (F : Nat) (u : Mm) (o : Nat) (out : (Option String × Unit) × Mm) (h : f_S_throwFailure F u o = some out) : zMet l m_S_throwFailure ws_S_throwFailure ({ frames := 8, cells := 1, slots := 6, locals := 200 } : Room) YX w u [va_re w.1 (some o)] yfv out := by
  refine z_entry (own := "WhoseGlass$Shelf") (lv := [(0, va_re w.1 (some o))]) (by decide +kernel) rfl (by simp [lv_args, y_cat, y_catI, y_catJ]) (by simp [lg_sl, y_cat, y_catI, y_catJ]) ?_
  intro p e s m args below meth c C hr hlocks htab hE
  unfold f_S_throwFailure at h
  refine y_aload_n C (i := 0) 0 d_S_throwFailure_0 rfl rfl ?_
  refine y_gi C (q := (yR3, yT3, 6)) (ci := 3) (k := 1) rfl (by decide) rfl g_178 d_S_throwFailure_1 h (fun x1 h => ?_)
  refine y_iconst C (v := 4) d_S_throwFailure_4 (by decide) ?_
  refine y_ic_eq C 15 d_S_throwFailure_5 (by decide) h (fun k2 h => ?_) (fun k2 h => ?_)
  · exact z_vret C hr hlocks d_S_throwFailure_15 h
  · refine y_aload_n C (i := 0) 0 d_S_throwFailure_8 rfl rfl ?_
    refine y_gi C (q := (yR3, yT3, 6)) (ci := 3) (k := 2) rfl (by decide) rfl g_180 d_S_throwFailure_9 h (fun x3 h => ?_)
    refine y_if_ne C 16 d_S_throwFailure_12 (by decide) h (fun k4 h => ?_) (fun k4 h => ?_)
    · exact z_vret C hr hlocks d_S_throwFailure_15 h
    · refine y_aload_n C (i := 0) 0 d_S_throwFailure_16 rfl rfl ?_
      refine y_gi C (q := (yR3, yT3, 6)) (ci := 3) (k := 1) rfl (by decide) rfl g_178 d_S_throwFailure_17 h (fun x5 h => ?_)
      refine y_iconst C (v := 5) d_S_throwFailure_20 (by decide) ?_
      refine y_ic_ne C 34 d_S_throwFailure_21 (by decide) h (fun k6 h => ?_) (fun k6 h => ?_)
      · exact z_thr (cls := xUO) (names := xNm) (ik := 36) (is := 38) (ic := 40) C hl hlocks htab hE hE.2.1.2.2.1 (by decide +kernel) (by decide +kernel) z_665 z_15 tw_3 tb_3 to_3 d_S_throwFailure_24 d_S_throwFailure_27 d_S_throwFailure_28 d_S_throwFailure_30 d_S_throwFailure_33 (by simp [xNm]) (by simp [xNm]) (Nat.le_refl _) (Nat.le_refl _) h
      · refine y_aload_n C (i := 0) 0 d_S_throwFailure_34 rfl rfl ?_
        refine y_gi C (q := (yR3, yT3, 6)) (ci := 3) (k := 1) rfl (by decide) rfl g_178 d_S_throwFailure_35 h (fun x7 h => ?_)
        refine y_iconst C (v := 3) d_S_throwFailure_38 (by decide) ?_
        refine y_ic_ne C 52 d_S_throwFailure_39 (by decide) h (fun k8 h => ?_) (fun k8 h => ?_)
        · exact z_thr (cls := xIS) (names := xNm) (ik := 43) (is := 45) (ic := 47) C hl hlocks htab hE hE.2.1.2.2.2.1 (by decide +kernel) (by decide +kernel) z_733 z_13 tw_4 tb_4 to_4 d_S_throwFailure_42 d_S_throwFailure_45 d_S_throwFailure_46 d_S_throwFailure_48 d_S_throwFailure_51 (by simp [xNm]) (by simp [xNm]) (Nat.le_refl _) (Nat.le_refl _) h
        · exact z_thr (cls := xIA) (names := xNm) (ik := 48) (is := 50) (ic := 52) C hl hlocks htab hE hE.2.1.2.2.2.2 (by decide +kernel) (by decide +kernel) z_749 z_12 tw_5 tb_5 to_5 d_S_throwFailure_52 d_S_throwFailure_55 d_S_throwFailure_56 d_S_throwFailure_58 d_S_throwFailure_61 (by simp [xNm]) (by simp [xNm]) (Nat.le_refl _) (Nat.le_refl _) h
def m_X_element : MethodName := ⟨"WhoseGlass", "element", "(II)J"⟩
abbrev ws_X_element : List Cond := yWs m_X_element prog_1_method_37_code 4 (some .long)
theorem hd_X_element : m_X_element.cls = yR4 ∧ m_X_element.cls ≠ "java/lang/invoke/MethodHandle" ∧ m_X_element.cls ≠ "java/lang/invoke/VarHandle" ∧ (parseMethodDescriptor m_X_element.desc).map (fun d => d.parameters.length) = some 2 := ⟨rfl, by decide +kernel, by decide +kernel, by decide +kernel⟩
theorem d_X_element_0 : decode prog_1_method_37_code 0 = .ok (.aload_n 0, 1) := by decide +kernel
theorem d_X_element_1 : decode prog_1_method_37_code 1 = .ok (.iload_n 1, 1) := by decide +kernel
theorem d_X_element_2 : decode prog_1_method_37_code 2 = .ok (.invokevirtual 29, 3) := by decide +kernel
theorem d_X_element_5 : decode prog_1_method_37_code 5 = .ok (.astore_n 3, 1) := by decide +kernel
theorem d_X_element_6 : decode prog_1_method_37_code 6 = .ok (.aload_n 3, 1) := by decide +kernel
theorem d_X_element_7 : decode prog_1_method_37_code 7 = .ok (.ifnonnull 13, 3) := by decide +kernel
theorem d_X_element_10 : decode prog_1_method_37_code 10 = .ok (.new 235, 3) := by decide +kernel
theorem d_X_element_13 : decode prog_1_method_37_code 13 = .ok (.dup, 1) := by decide +kernel
theorem d_X_element_14 : decode prog_1_method_37_code 14 = .ok (.ldc 237, 2) := by decide +kernel
theorem d_X_element_16 : decode prog_1_method_37_code 16 = .ok (.invokespecial 239, 3) := by decide +kernel
theorem d_X_element_19 : decode prog_1_method_37_code 19 = .ok (.athrow, 1) := by decide +kernel
theorem d_X_element_20 : decode prog_1_method_37_code 20 = .ok (.aload_n 3, 1) := by decide +kernel
theorem d_X_element_21 : decode prog_1_method_37_code 21 = .ok (.getfield 33, 3) := by decide +kernel
theorem d_X_element_24 : decode prog_1_method_37_code 24 = .ok (.iconst 2, 1) := by decide +kernel
theorem d_X_element_25 : decode prog_1_method_37_code 25 = .ok (.if_icmp .ne 14, 3) := by decide +kernel
theorem d_X_element_28 : decode prog_1_method_37_code 28 = .ok (.iload_n 2, 1) := by decide +kernel
theorem d_X_element_29 : decode prog_1_method_37_code 29 = .ok (.aload_n 3, 1) := by decide +kernel
theorem d_X_element_30 : decode prog_1_method_37_code 30 = .ok (.getfield 207, 3) := by decide +kernel
theorem d_X_element_33 : decode prog_1_method_37_code 33 = .ok (.invokestatic 78, 3) := by decide +kernel
theorem d_X_element_36 : decode prog_1_method_37_code 36 = .ok (.ifCond .ne 13, 3) := by decide +kernel
theorem d_X_element_39 : decode prog_1_method_37_code 39 = .ok (.new 242, 3) := by decide +kernel
theorem d_X_element_42 : decode prog_1_method_37_code 42 = .ok (.dup, 1) := by decide +kernel
theorem d_X_element_43 : decode prog_1_method_37_code 43 = .ok (.ldc 244, 2) := by decide +kernel
theorem d_X_element_45 : decode prog_1_method_37_code 45 = .ok (.invokespecial 246, 3) := by decide +kernel
theorem d_X_element_48 : decode prog_1_method_37_code 48 = .ok (.athrow, 1) := by decide +kernel
theorem d_X_element_49 : decode prog_1_method_37_code 49 = .ok (.aload_n 3, 1) := by decide +kernel
theorem d_X_element_50 : decode prog_1_method_37_code 50 = .ok (.iload_n 2, 1) := by decide +kernel
theorem d_X_element_51 : decode prog_1_method_37_code 51 = .ok (.invokevirtual 210, 3) := by decide +kernel
theorem d_X_element_54 : decode prog_1_method_37_code 54 = .ok (.i2l, 1) := by decide +kernel
theorem d_X_element_55 : decode prog_1_method_37_code 55 = .ok (.lreturn, 1) := by decide +kernel
theorem gc_X_element_29 : GoodIn yGW (wsV "WhoseGlass" 29 yR4 m_X_shelfAt ws_X_shelfAt) := y_gV g_222 g_224 gs_0 g_1 g_225
theorem gc_X_element_210 : GoodIn yGW (wsV "WhoseGlass" 210 yR3 m_S_elementAt ws_S_elementAt) := y_gV g_585 g_237 g_238 g_5 g_239
set_option maxRecDepth 100000 in
def f_X_element (F : Nat) (u : Mm) (o : Nat) (a1 : Int32) (a2 : Int32) : Option ((Option String × Int64) × Mm) := ob (jk YX 4 (some o)) fun t => yb (f_X_shelfAt F u t a1) fun r1 u2 => (if r1 = none then some ((some xIA, 0), u2) else ob (jgi YX 3 0 u2 r1) fun (x4 : Int32) => (if x4 = (2 : Int32) then ob (jgi YX 3 4 u2 r1) fun (x6 : Int32) => yb (f_X_isBelow F u2 a2 x6) fun x7 u8 => (if x7 = 0 then some ((some xIS, 0), u8) else ob (jk YX 3 r1) fun t => yb (f_S_elementAt F u8 t a2) fun x10 u11 => some ((none, (x10.toInt64)), u11)) else some ((some xIS, 0), u2)))
set_option maxHeartbeats 4000000 in
set_option maxRecDepth 100000 in
theorem c_X_element (l : Launch) (hl : l.stackTraces = false) (w : WP) (F : Nat) (u : Mm) (o : Nat) (a1 : Int32) (a2 : Int32) (out : (Option String × Int64) × Mm) (h : f_X_element F u o a1 a2 = some out) : zMet l m_X_element ws_X_element ({ frames := 8, cells := 1, slots := 6, locals := 200 } : Room) YX w u [va_re w.1 (some o), .int a1, .int a2] yfl out := by
  refine z_entry (own := "WhoseGlass") (lv := [(0, va_re w.1 (some o)), (1, .int a1), (2, .int a2)]) (by decide +kernel) rfl (by simp [lv_args, y_cat, y_catI, y_catJ]) (by simp [lg_sl, y_cat, y_catI, y_catJ]) ?_
  intro p e s m args below meth c C hr hlocks htab hE
  unfold f_X_element at h
  refine y_aload_n C (i := 0) 0 d_X_element_0 rfl rfl ?_
  refine y_iload_n C (i := 1) 1 d_X_element_1 rfl rfl ?_
  refine y_callV 1 C (q := (yR4, yT4, 5)) (ci := 4) (fun t out hh => c_X_shelfAt l w F u t a1 out hh) gc_X_element_29 rfl (by decide) hd_X_shelfAt ⟨Nat.le_of_ble_eq_true rfl, Nat.le_of_ble_eq_true rfl⟩ rfl rfl rfl rfl (by simp [y_cat, y_catI, y_catJ]) d_X_element_2 h (fun r1 u2 h => ?_)
  refine y_stk (stp0 := [va_re w.1 r1]) rfl ?_
  refine y_astore_n C (i := 3) (lvp := [(0, va_re w.1 (some o)), (1, .int a1), (2, .int a2)]) d_X_element_5 rfl (by decide) (by simp [List.filter, y_cat, y_catI, y_catJ]) ?_
  refine y_aload_n C (i := 3) 0 d_X_element_6 rfl rfl ?_
  refine y_ifnonnull C 20 d_X_element_7 (by decide) h (fun k3 h => ?_) (fun k3 h => ?_)
  · exact z_thr (cls := xIA) (names := xNm) (ik := 235) (is := 237) (ic := 239) C hl hlocks htab hE hE.2.1.1 (by decide +kernel) (by decide +kernel) z_660 z_12 tw_1 tb_1 to_1 d_X_element_10 d_X_element_13 d_X_element_14 d_X_element_16 d_X_element_19 (by simp [xNm]) (by simp [xNm]) (Nat.le_refl _) (Nat.le_refl _) h
  · refine y_aload_n C (i := 3) 0 d_X_element_20 rfl rfl ?_
    refine y_gi C (q := (yR3, yT3, 6)) (ci := 3) (k := 0) rfl (by decide) rfl g_176 d_X_element_21 h (fun x4 h => ?_)
    refine y_iconst C (v := 2) d_X_element_24 (by decide) ?_
    refine y_ic_ne C 39 d_X_element_25 (by decide) h (fun k5 h => ?_) (fun k5 h => ?_)
    · refine y_iload_n C (i := 2) 3 d_X_element_28 rfl rfl ?_
      refine y_aload_n C (i := 3) 0 d_X_element_29 rfl rfl ?_
      refine y_gi C (q := (yR3, yT3, 6)) (ci := 3) (k := 4) rfl (by decide) rfl g_185 d_X_element_30 h (fun x6 h => ?_)
      refine y_callS 2 C (fun out hh => c_X_isBelow l w F u2 a2 x6 out hh) (y_gc g_344) g_400 g_1 g_343 hn_X_isBelow ⟨Nat.le_of_ble_eq_true rfl, Nat.le_of_ble_eq_true rfl⟩ rfl rfl rfl rfl (by simp [y_cat, y_catI, y_catJ]) d_X_element_33 h (fun x7 u8 h => ?_)
      refine y_stk (stp0 := [.int x7]) rfl ?_
      refine y_if_ne C 49 d_X_element_36 (by decide) h (fun k9 h => ?_) (fun k9 h => ?_)
      · exact z_thr (cls := xIS) (names := xNm) (ik := 242) (is := 244) (ic := 246) C hl hlocks htab hE hE.2.1.2.1 (by decide +kernel) (by decide +kernel) z_659 z_13 tw_2 tb_2 to_2 d_X_element_39 d_X_element_42 d_X_element_43 d_X_element_45 d_X_element_48 (by simp [xNm]) (by simp [xNm]) (Nat.le_refl _) (Nat.le_refl _) h
      · refine y_aload_n C (i := 3) 0 d_X_element_49 rfl rfl ?_
        refine y_iload_n C (i := 2) 3 d_X_element_50 rfl rfl ?_
        refine y_callV 1 C (q := (yR3, yT3, 6)) (ci := 3) (fun t out hh => c_S_elementAt l w F u8 t a2 out hh) gc_X_element_210 rfl (by decide) hd_S_elementAt ⟨Nat.le_of_ble_eq_true rfl, Nat.le_of_ble_eq_true rfl⟩ rfl rfl rfl rfl (by simp [y_cat, y_catI, y_catJ]) d_X_element_51 h (fun x10 u11 h => ?_)
        refine y_stk (stp0 := [.int x10]) rfl ?_
        refine y_i2l C d_X_element_54 ?_
        exact z_lret C hr hlocks d_X_element_55 h
    · exact z_thr (cls := xIS) (names := xNm) (ik := 242) (is := 244) (ic := 246) C hl hlocks htab hE hE.2.1.2.1 (by decide +kernel) (by decide +kernel) z_659 z_13 tw_2 tb_2 to_2 d_X_element_39 d_X_element_42 d_X_element_43 d_X_element_45 d_X_element_48 (by simp [xNm]) (by simp [xNm]) (Nat.le_refl _) (Nat.le_refl _) h
