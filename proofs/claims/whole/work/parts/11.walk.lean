/-! X_brought -/
theorem d_X_brought_0 : decode prog_1_method_23_code 0 = .ok (.iload_n 1, 1) := by decide +kernel
theorem d_X_brought_1 : decode prog_1_method_23_code 1 = .ok (.iconst 1, 1) := by decide +kernel
theorem d_X_brought_2 : decode prog_1_method_23_code 2 = .ok (.aload_n 0, 1) := by decide +kernel
theorem d_X_brought_3 : decode prog_1_method_23_code 3 = .ok (.getfield 10, 3) := by decide +kernel
theorem d_X_brought_6 : decode prog_1_method_23_code 6 = .ok (.getfield 182, 3) := by decide +kernel
theorem d_X_brought_9 : decode prog_1_method_23_code 9 = .ok (.ishl, 1) := by decide +kernel
theorem d_X_brought_10 : decode prog_1_method_23_code 10 = .ok (.invokestatic 78, 3) := by decide +kernel
theorem d_X_brought_13 : decode prog_1_method_23_code 13 = .ok (.ifCond .eq 10, 3) := by decide +kernel
theorem d_X_brought_16 : decode prog_1_method_23_code 16 = .ok (.iload_n 2, 1) := by decide +kernel
theorem d_X_brought_17 : decode prog_1_method_23_code 17 = .ok (.invokestatic 162, 3) := by decide +kernel
theorem d_X_brought_20 : decode prog_1_method_23_code 20 = .ok (.ifCond .ne 5, 3) := by decide +kernel
theorem d_X_brought_23 : decode prog_1_method_23_code 23 = .ok (.iconst (-1), 1) := by decide +kernel
theorem d_X_brought_24 : decode prog_1_method_23_code 24 = .ok (.ireturn, 1) := by decide +kernel
theorem d_X_brought_25 : decode prog_1_method_23_code 25 = .ok (.iconst 0, 1) := by decide +kernel
theorem d_X_brought_26 : decode prog_1_method_23_code 26 = .ok (.istore_n 3, 1) := by decide +kernel
theorem d_X_brought_27 : decode prog_1_method_23_code 27 = .ok (.iconst 0, 1) := by decide +kernel
theorem d_X_brought_28 : decode prog_1_method_23_code 28 = .ok (.istore 4, 2) := by decide +kernel
theorem d_X_brought_30 : decode prog_1_method_23_code 30 = .ok (.iload 4, 2) := by decide +kernel
theorem d_X_brought_32 : decode prog_1_method_23_code 32 = .ok (.aload_n 0, 1) := by decide +kernel
theorem d_X_brought_33 : decode prog_1_method_23_code 33 = .ok (.getfield 10, 3) := by decide +kernel
theorem d_X_brought_36 : decode prog_1_method_23_code 36 = .ok (.getfield 182, 3) := by decide +kernel
theorem d_X_brought_39 : decode prog_1_method_23_code 39 = .ok (.if_icmp .ge 27, 3) := by decide +kernel
theorem d_X_brought_42 : decode prog_1_method_23_code 42 = .ok (.aload_n 0, 1) := by decide +kernel
theorem d_X_brought_43 : decode prog_1_method_23_code 43 = .ok (.iload 4, 2) := by decide +kernel
theorem d_X_brought_45 : decode prog_1_method_23_code 45 = .ok (.iload_n 2, 1) := by decide +kernel
theorem d_X_brought_46 : decode prog_1_method_23_code 46 = .ok (.invokevirtual 185, 3) := by decide +kernel
theorem d_X_brought_49 : decode prog_1_method_23_code 49 = .ok (.iload_n 1, 1) := by decide +kernel
theorem d_X_brought_50 : decode prog_1_method_23_code 50 = .ok (.if_icmp .ne 10, 3) := by decide +kernel
theorem d_X_brought_53 : decode prog_1_method_23_code 53 = .ok (.iload_n 3, 1) := by decide +kernel
theorem d_X_brought_54 : decode prog_1_method_23_code 54 = .ok (.iconst 1, 1) := by decide +kernel
theorem d_X_brought_55 : decode prog_1_method_23_code 55 = .ok (.iload 4, 2) := by decide +kernel
theorem d_X_brought_57 : decode prog_1_method_23_code 57 = .ok (.ishl, 1) := by decide +kernel
theorem d_X_brought_58 : decode prog_1_method_23_code 58 = .ok (.ior, 1) := by decide +kernel
theorem d_X_brought_59 : decode prog_1_method_23_code 59 = .ok (.istore_n 3, 1) := by decide +kernel
theorem d_X_brought_60 : decode prog_1_method_23_code 60 = .ok (.iinc 4 1, 3) := by decide +kernel
theorem d_X_brought_63 : decode prog_1_method_23_code 63 = .ok (.goto (-33), 3) := by decide +kernel
theorem d_X_brought_66 : decode prog_1_method_23_code 66 = .ok (.iload_n 3, 1) := by decide +kernel
theorem d_X_brought_67 : decode prog_1_method_23_code 67 = .ok (.ireturn, 1) := by decide +kernel
theorem gc_X_brought_185 : GoodIn yGW (wsV "WhoseGlass" 185 yR4 m_X_coldsBroughtBy ws_X_coldsBroughtBy) := y_gV g_518 g_520 gs_5 g_1 g_521
set_option maxHeartbeats 4000000 in
set_option maxRecDepth 100000 in
def f_X_brought_L30 (F : Nat) (a0 : Option Nat) (a1 : Int32) (a2 : Int32) (k : Mm → Int32 → Option (Int32 × Mm)) : Nat → Mm → Int32 → Int32 → Option (Int32 × Mm)
  | 0, _, _, _ => none
  | n + 1, u, a3, a4 => ob (jgr YX 4 0 a0) fun (r9 : Option Nat) => ob (jgi YX 2 3 u r9) fun (x10 : Int32) => (if x10 ≤ a4 then k u a3 else ob (jk YX 4 a0) fun t => yb (f_X_coldsBroughtBy F u t a4 a2) fun x12 u13 => ob ((if x12 = a1 then ob (some (a3 ||| ((1 : Int32) <<< (a4 &&& 31)))) fun (x16 : Int32) => some x16 else some a3) : Option (Int32)) fun q14 => ob (some (a4 + (1 : Int32))) fun (x17 : Int32) => f_X_brought_L30 F a0 a1 a2 k n u13 q14 x17)
set_option maxHeartbeats 4000000 in
set_option maxRecDepth 100000 in
theorem w_X_brought_L30 {p : Program} {l : Launch} {e : Env} {s : State} {m : MethodId} {args : Array Value} {below : List Frame} {meth : Method} {c : Code} {w : WP} {Q : State → Prop} (F : Nat) (C : yX p e ({ frames := 6, cells := 0, slots := 0, locals := 147 } : Room) s m args c YX w 5 prog_1_method_23_code "WhoseGlass") (hr : meth.sig.returnType = (some .int)) (hlocks : meth.locks = false) (a0 : Option Nat) (a1 : Int32) (a2 : Int32) {out : Int32 × Mm} (k : Mm → Int32 → Option (Int32 × Mm)) (hk : ∀ (u : Mm) (a3 : Int32), k u a3 = some out → yG p l e ({ frames := 6, cells := 0, slots := 0, locals := 147 } : Room) s m args below meth c YX w 5 Q u 66 [(3, .int a3)] []) : ∀ (n : Nat) (u : Mm) (a3 : Int32) (a4 : Int32), f_X_brought_L30 F a0 a1 a2 k n u a3 a4 = some out → yG p l e ({ frames := 6, cells := 0, slots := 0, locals := 147 } : Room) s m args below meth c YX w 5 Q u 30 [(0, va_re w.1 a0), (1, .int a1), (2, .int a2), (3, .int a3), (4, .int a4)] [] := by
  intro n
  induction n with
  | zero => intro u a3 a4 h; rw [f_X_brought_L30] at h; cases h
  | succ n ih =>
    intro u a3 a4 h
    rw [f_X_brought_L30] at h
    refine y_iload C (i := 4) 4 d_X_brought_30 rfl ?_
    refine y_aload_n C (i := 0) 0 d_X_brought_32 rfl rfl ?_
    refine y_gr C (q := (yR4, yT4, 5)) (ci := 4) (k := 0) rfl (by decide) rfl (by decide) g_202 d_X_brought_33 h (fun r9 h => ?_)
    refine y_gi C (q := (yR2, yT2, 9)) (ci := 2) (k := 3) rfl (by decide) rfl g_136 d_X_brought_36 h (fun x10 h => ?_)
    refine y_ic_ge C 66 d_X_brought_39 (by decide) h (fun k11 h => ?_) (fun k11 h => ?_)
    · exact y_sub [3] rfl (hk _ _ h)
    · refine y_aload_n C (i := 0) 0 d_X_brought_42 rfl rfl ?_
      refine y_iload C (i := 4) 4 d_X_brought_43 rfl ?_
      refine y_iload_n C (i := 2) 2 d_X_brought_45 rfl rfl ?_
      refine y_callV 2 C (q := (yR4, yT4, 5)) (ci := 4) (fun t out hh => c_X_coldsBroughtBy l w F u t a4 a2 out hh) gc_X_brought_185 rfl (by decide) hd_X_coldsBroughtBy ⟨Nat.le_of_ble_eq_true rfl, Nat.le_of_ble_eq_true rfl⟩ rfl rfl rfl rfl (by simp [y_cat, y_catI, y_catJ]) d_X_brought_46 h (fun x12 u13 h => ?_)
      refine y_stk (stp0 := [.int x12]) rfl ?_
      refine y_iload_n C (i := 1) 1 d_X_brought_49 rfl rfl ?_
      obtain ⟨q14, hq14, h⟩ := ob_e h
      have hJq14 : yG p l e ({ frames := 6, cells := 0, slots := 0, locals := 147 } : Room) s m args below meth c YX w 5 Q u13 60 [(0, va_re w.1 a0), (1, .int a1), (2, .int a2), (3, .int q14), (4, .int a4)] [] := by
        refine y_iinc C (j := 4) (v := 1) (lvp := [(0, va_re w.1 a0), (1, .int a1), (2, .int a2), (3, .int q14)]) d_X_brought_60 rfl (by decide) (by decide) rfl h (fun x17 h => ?_)
        refine y_goto C (tgt := 30) d_X_brought_63 (by decide) ?_
        exact y_sub [1, 2, 3, 4, 0] rfl (ih _ _ _ h)
      refine y_ic_ne C 60 d_X_brought_50 (by decide) hq14 (fun k15 hq14 => ?_) (fun k15 hq14 => ?_)
      · refine y_iload_n C (i := 3) 3 d_X_brought_53 rfl rfl ?_
        refine y_iconst C (v := 1) d_X_brought_54 (by decide) ?_
        refine y_iload C (i := 4) 4 d_X_brought_55 rfl ?_
        refine y_ishl C d_X_brought_57 ?_
        refine y_ior C d_X_brought_58 ?_
        refine y_istore_nB C (i := 3) (lvp := [(0, va_re w.1 a0), (1, .int a1), (2, .int a2), (4, .int a4)]) d_X_brought_59 rfl (by decide) rfl hq14 (fun x16 hq14 => ?_)
        cases hq14
        exact y_sub [1, 2, 3, 0, 4] rfl hJq14
      · cases hq14
        exact y_sub [0, 1, 2, 3, 4] rfl hJq14
set_option maxRecDepth 100000 in
def f_X_brought (F : Nat) (u : Mm) (o : Nat) (a1 : Int32) (a2 : Int32) : Option (Int32 × Mm) := ob (jgr YX 4 0 (some o)) fun (r1 : Option Nat) => ob (jgi YX 2 3 u r1) fun (x2 : Int32) => yb (f_X_isBelow F u a1 ((1 : Int32) <<< (x2 &&& 31))) fun x3 u4 => (if x3 = 0 then some ((-1 : Int32), u4) else yb (f_X_isSpan F u4 a2) fun x6 u7 => (if x6 = 0 then some ((-1 : Int32), u7) else f_X_brought_L30 F (some o) a1 a2 (fun (u18 : Mm) (x19 : Int32) => some (x19, u18)) F u7 (0 : Int32) (0 : Int32)))
set_option maxHeartbeats 4000000 in
set_option maxRecDepth 100000 in
theorem c_X_brought (l : Launch) (w : WP) (F : Nat) (u : Mm) (o : Nat) (a1 : Int32) (a2 : Int32) (out : Int32 × Mm) (h : f_X_brought F u o a1 a2 = some out) : yMet l m_X_brought ws_X_brought ({ frames := 6, cells := 0, slots := 0, locals := 147 } : Room) YX w u [va_re w.1 (some o), .int a1, .int a2] yfi out := by
  refine y_entry (own := "WhoseGlass") (lv := [(0, va_re w.1 (some o)), (1, .int a1), (2, .int a2)]) (by decide +kernel) rfl (by simp [lv_args, y_cat, y_catI, y_catJ]) (by simp [lg_sl, y_cat, y_catI, y_catJ]) ?_
  intro p e s m args below meth c C hr hlocks
  unfold f_X_brought at h
  refine y_iload_n C (i := 1) 1 d_X_brought_0 rfl rfl ?_
  refine y_iconst C (v := 1) d_X_brought_1 (by decide) ?_
  refine y_aload_n C (i := 0) 0 d_X_brought_2 rfl rfl ?_
  refine y_gr C (q := (yR4, yT4, 5)) (ci := 4) (k := 0) rfl (by decide) rfl (by decide) g_202 d_X_brought_3 h (fun r1 h => ?_)
  refine y_gi C (q := (yR2, yT2, 9)) (ci := 2) (k := 3) rfl (by decide) rfl g_136 d_X_brought_6 h (fun x2 h => ?_)
  refine y_ishl C d_X_brought_9 ?_
  refine y_callS 2 C (fun out hh => c_X_isBelow l w F u a1 ((1 : Int32) <<< (x2 &&& 31)) out hh) (y_gc g_344) g_400 g_1 g_343 hn_X_isBelow ⟨Nat.le_of_ble_eq_true rfl, Nat.le_of_ble_eq_true rfl⟩ rfl rfl rfl rfl (by simp [y_cat, y_catI, y_catJ]) d_X_brought_10 h (fun x3 u4 h => ?_)
  refine y_stk (stp0 := [.int x3]) rfl ?_
  refine y_if_eq C 23 d_X_brought_13 (by decide) h (fun k5 h => ?_) (fun k5 h => ?_)
  · refine y_iconst C (v := -1) d_X_brought_23 (by decide) ?_
    exact y_iret C hr hlocks d_X_brought_24 h
  · refine y_iload_n C (i := 2) 2 d_X_brought_16 rfl rfl ?_
    refine y_callS 1 C (fun out hh => c_X_isSpan l w F u4 a2 out hh) (y_gc g_489) g_487 g_1 g_488 hn_X_isSpan ⟨Nat.le_of_ble_eq_true rfl, Nat.le_of_ble_eq_true rfl⟩ rfl rfl rfl rfl (by simp [y_cat, y_catI, y_catJ]) d_X_brought_17 h (fun x6 u7 h => ?_)
    refine y_stk (stp0 := [.int x6]) rfl ?_
    refine y_if_ne C 25 d_X_brought_20 (by decide) h (fun k8 h => ?_) (fun k8 h => ?_)
    · refine y_iconst C (v := -1) d_X_brought_23 (by decide) ?_
      exact y_iret C hr hlocks d_X_brought_24 h
    · refine y_iconst C (v := 0) d_X_brought_25 (by decide) ?_
      refine y_istore_n C (i := 3) (lvp := [(0, va_re w.1 (some o)), (1, .int a1), (2, .int a2)]) d_X_brought_26 rfl (by decide) rfl ?_
      refine y_iconst C (v := 0) d_X_brought_27 (by decide) ?_
      refine y_istore C (i := 4) (lvp := [(3, .int (0 : Int32)), (0, va_re w.1 (some o)), (1, .int a1), (2, .int a2)]) d_X_brought_28 (by decide) rfl ?_
      refine y_sub [2, 3, 4, 1, 0] rfl (w_X_brought_L30 F C hr hlocks _ _ _ _ (fun u18 x19 h => ?_) _ _ _ _ h)
      refine y_iload_n C (i := 3) 0 d_X_brought_66 rfl rfl ?_
      exact y_iret C hr hlocks d_X_brought_67 h
/-! H_careAlike -/
theorem d_H_careAlike_0 : decode prog_4_method_19_code 0 = .ok (.iconst 0, 1) := by decide +kernel
theorem d_H_careAlike_1 : decode prog_4_method_19_code 1 = .ok (.istore_n 2, 1) := by decide +kernel
theorem d_H_careAlike_2 : decode prog_4_method_19_code 2 = .ok (.iload_n 2, 1) := by decide +kernel
theorem d_H_careAlike_3 : decode prog_4_method_19_code 3 = .ok (.aload_n 0, 1) := by decide +kernel
theorem d_H_careAlike_4 : decode prog_4_method_19_code 4 = .ok (.getfield 37, 3) := by decide +kernel
theorem d_H_careAlike_7 : decode prog_4_method_19_code 7 = .ok (.if_icmp .ge 24, 3) := by decide +kernel
theorem d_H_careAlike_10 : decode prog_4_method_19_code 10 = .ok (.aload_n 0, 1) := by decide +kernel
theorem d_H_careAlike_11 : decode prog_4_method_19_code 11 = .ok (.iload_n 2, 1) := by decide +kernel
theorem d_H_careAlike_12 : decode prog_4_method_19_code 12 = .ok (.invokevirtual 57, 3) := by decide +kernel
theorem d_H_careAlike_15 : decode prog_4_method_19_code 15 = .ok (.astore_n 3, 1) := by decide +kernel
theorem d_H_careAlike_16 : decode prog_4_method_19_code 16 = .ok (.aload_n 3, 1) := by decide +kernel
theorem d_H_careAlike_17 : decode prog_4_method_19_code 17 = .ok (.ifnull 8, 3) := by decide +kernel
theorem d_H_careAlike_20 : decode prog_4_method_19_code 20 = .ok (.aload_n 3, 1) := by decide +kernel
theorem d_H_careAlike_21 : decode prog_4_method_19_code 21 = .ok (.iload_n 1, 1) := by decide +kernel
theorem d_H_careAlike_22 : decode prog_4_method_19_code 22 = .ok (.putfield 141, 3) := by decide +kernel
theorem d_H_careAlike_25 : decode prog_4_method_19_code 25 = .ok (.iinc 2 1, 3) := by decide +kernel
theorem d_H_careAlike_28 : decode prog_4_method_19_code 28 = .ok (.goto (-26), 3) := by decide +kernel
theorem d_H_careAlike_31 : decode prog_4_method_19_code 31 = .ok (.return_, 1) := by decide +kernel
theorem gc_H_careAlike_57 : GoodIn yGW (wsV "WhoseGlass$House" 57 yR2 m_H_guestAt ws_H_guestAt) := y_gV g_267 g_268 g_269 g_2 g_270
set_option maxHeartbeats 4000000 in
set_option maxRecDepth 100000 in
def f_H_careAlike_L2 (F : Nat) (a0 : Option Nat) (a1 : Int32) (k : Mm → Option (Unit × Mm)) : Nat → Mm → Int32 → Option (Unit × Mm)
  | 0, _, _ => none
  | n + 1, u, a2 => ob (jgi YX 2 3 u a0) fun (x1 : Int32) => (if x1 ≤ a2 then k u  else ob (jk YX 2 a0) fun t => yb (f_H_guestAt F u t a2) fun r3 u4 => ob ((if r3 = none then some u4 else ob (jpi YX 1 4 u4 r3 a1) fun (u7 : Mm) => some u7) : Option (Mm)) fun q5 => ob (some (a2 + (1 : Int32))) fun (x8 : Int32) => f_H_careAlike_L2 F a0 a1 k n q5 x8)
set_option maxHeartbeats 4000000 in
set_option maxRecDepth 100000 in
theorem w_H_careAlike_L2 {p : Program} {l : Launch} {e : Env} {s : State} {m : MethodId} {args : Array Value} {below : List Frame} {meth : Method} {c : Code} {w : WP} {Q : State → Prop} (F : Nat) (C : yX p e ({ frames := 1, cells := 0, slots := 0, locals := 21 } : Room) s m args c YX w 4 prog_4_method_19_code "WhoseGlass$House") (hr : meth.sig.returnType = none) (hlocks : meth.locks = false) (a0 : Option Nat) (a1 : Int32) {out : Unit × Mm} (k : Mm → Option (Unit × Mm)) (hk : ∀ (u : Mm), k u  = some out → yG p l e ({ frames := 1, cells := 0, slots := 0, locals := 21 } : Room) s m args below meth c YX w 4 Q u 31 [] []) : ∀ (n : Nat) (u : Mm) (a2 : Int32), f_H_careAlike_L2 F a0 a1 k n u a2 = some out → yG p l e ({ frames := 1, cells := 0, slots := 0, locals := 21 } : Room) s m args below meth c YX w 4 Q u 2 [(0, va_re w.1 a0), (1, .int a1), (2, .int a2)] [] := by
  intro n
  induction n with
  | zero => intro u a2 h; rw [f_H_careAlike_L2] at h; cases h
  | succ n ih =>
    intro u a2 h
    rw [f_H_careAlike_L2] at h
    refine y_iload_n C (i := 2) 2 d_H_careAlike_2 rfl rfl ?_
    refine y_aload_n C (i := 0) 0 d_H_careAlike_3 rfl rfl ?_
    refine y_gi C (q := (yR2, yT2, 9)) (ci := 2) (k := 3) rfl (by decide) rfl g_135 d_H_careAlike_4 h (fun x1 h => ?_)
    refine y_ic_ge C 31 d_H_careAlike_7 (by decide) h (fun k2 h => ?_) (fun k2 h => ?_)
    · exact y_sub [] rfl (hk _ h)
    · refine y_aload_n C (i := 0) 0 d_H_careAlike_10 rfl rfl ?_
      refine y_iload_n C (i := 2) 2 d_H_careAlike_11 rfl rfl ?_
      refine y_callV 1 C (q := (yR2, yT2, 9)) (ci := 2) (fun t out hh => c_H_guestAt l w F u t a2 out hh) gc_H_careAlike_57 rfl (by decide) hd_H_guestAt ⟨Nat.le_of_ble_eq_true rfl, Nat.le_of_ble_eq_true rfl⟩ rfl rfl rfl rfl (by simp [y_cat, y_catI, y_catJ]) d_H_careAlike_12 h (fun r3 u4 h => ?_)
      refine y_stk (stp0 := [va_re w.1 r3]) rfl ?_
      refine y_astore_n C (i := 3) (lvp := [(0, va_re w.1 a0), (1, .int a1), (2, .int a2)]) d_H_careAlike_15 rfl (by decide) (by simp [List.filter, y_cat, y_catI, y_catJ]) ?_
      refine y_aload_n C (i := 3) 0 d_H_careAlike_16 rfl rfl ?_
      obtain ⟨q5, hq5, h⟩ := ob_e h
      have hJq5 : yG p l e ({ frames := 1, cells := 0, slots := 0, locals := 21 } : Room) s m args below meth c YX w 4 Q q5 25 [(0, va_re w.1 a0), (1, .int a1), (2, .int a2)] [] := by
        refine y_iinc C (j := 2) (v := 1) (lvp := [(0, va_re w.1 a0), (1, .int a1)]) d_H_careAlike_25 rfl (by decide) (by decide) rfl h (fun x8 h => ?_)
        refine y_goto C (tgt := 2) d_H_careAlike_28 (by decide) ?_
        exact y_sub [1, 2, 0] rfl (ih _ _ h)
      refine y_ifnull C 25 d_H_careAlike_17 (by decide) hq5 (fun k6 hq5 => ?_) (fun k6 hq5 => ?_)
      · cases hq5
        exact y_sub [1, 2, 3] rfl hJq5
      · refine y_aload_n C (i := 3) 0 d_H_careAlike_20 rfl rfl ?_
        refine y_iload_n C (i := 1) 2 d_H_careAlike_21 rfl rfl ?_
        refine y_pi C (q := (yR1, yT1, 10)) (ci := 1) (k := 4) rfl (by decide) rfl rfl (by decide +kernel) g_93 d_H_careAlike_22 hq5 (fun u7 hq5 => ?_)
        cases hq5
        exact y_sub [1, 2, 3] rfl hJq5
set_option maxRecDepth 100000 in
def f_H_careAlike (F : Nat) (u : Mm) (o : Nat) (a1 : Int32) : Option (Unit × Mm) := f_H_careAlike_L2 F (some o) a1 (fun (u9 : Mm) => some ((), u9)) F u (0 : Int32)
set_option maxHeartbeats 4000000 in
set_option maxRecDepth 100000 in
theorem c_H_careAlike (l : Launch) (w : WP) (F : Nat) (u : Mm) (o : Nat) (a1 : Int32) (out : Unit × Mm) (h : f_H_careAlike F u o a1 = some out) : yMet l m_H_careAlike ws_H_careAlike ({ frames := 1, cells := 0, slots := 0, locals := 21 } : Room) YX w u [va_re w.1 (some o), .int a1] yfv out := by
  refine y_entry (own := "WhoseGlass$House") (lv := [(0, va_re w.1 (some o)), (1, .int a1)]) (by decide +kernel) rfl (by simp [lv_args, y_cat, y_catI, y_catJ]) (by simp [lg_sl, y_cat, y_catI, y_catJ]) ?_
  intro p e s m args below meth c C hr hlocks
  unfold f_H_careAlike at h
  refine y_iconst C (v := 0) d_H_careAlike_0 (by decide) ?_
  refine y_istore_n C (i := 2) (lvp := [(0, va_re w.1 (some o)), (1, .int a1)]) d_H_careAlike_1 rfl (by decide) rfl ?_
  refine y_sub [1, 2, 0] rfl (w_H_careAlike_L2 F C hr hlocks _ _ _ (fun u9 h => ?_) _ _ _ h)
  exact y_vret C hr hlocks d_H_careAlike_31 h
/-! X_coldsByCare -/
theorem d_X_coldsByCare_0 : decode prog_1_method_48_code 0 = .ok (.aload_n 0, 1) := by decide +kernel
theorem d_X_coldsByCare_1 : decode prog_1_method_48_code 1 = .ok (.getfield 16, 3) := by decide +kernel
theorem d_X_coldsByCare_4 : decode prog_1_method_48_code 4 = .ok (.aload_n 0, 1) := by decide +kernel
theorem d_X_coldsByCare_5 : decode prog_1_method_48_code 5 = .ok (.getfield 10, 3) := by decide +kernel
theorem d_X_coldsByCare_8 : decode prog_1_method_48_code 8 = .ok (.invokevirtual 50, 3) := by decide +kernel
theorem d_X_coldsByCare_11 : decode prog_1_method_48_code 11 = .ok (.aload_n 0, 1) := by decide +kernel
theorem d_X_coldsByCare_12 : decode prog_1_method_48_code 12 = .ok (.getfield 16, 3) := by decide +kernel
theorem d_X_coldsByCare_15 : decode prog_1_method_48_code 15 = .ok (.iload_n 1, 1) := by decide +kernel
theorem d_X_coldsByCare_16 : decode prog_1_method_48_code 16 = .ok (.invokevirtual 276, 3) := by decide +kernel
theorem d_X_coldsByCare_19 : decode prog_1_method_48_code 19 = .ok (.aload_n 0, 1) := by decide +kernel
theorem d_X_coldsByCare_20 : decode prog_1_method_48_code 20 = .ok (.getfield 16, 3) := by decide +kernel
theorem d_X_coldsByCare_23 : decode prog_1_method_48_code 23 = .ok (.iload_n 2, 1) := by decide +kernel
theorem d_X_coldsByCare_24 : decode prog_1_method_48_code 24 = .ok (.invokevirtual 135, 3) := by decide +kernel
theorem d_X_coldsByCare_27 : decode prog_1_method_48_code 27 = .ok (.aload_n 0, 1) := by decide +kernel
theorem d_X_coldsByCare_28 : decode prog_1_method_48_code 28 = .ok (.getfield 16, 3) := by decide +kernel
theorem d_X_coldsByCare_31 : decode prog_1_method_48_code 31 = .ok (.invokevirtual 176, 3) := by decide +kernel
theorem d_X_coldsByCare_34 : decode prog_1_method_48_code 34 = .ok (.ireturn, 1) := by decide +kernel
theorem gc_X_coldsByCare_50 : GoodIn yGW (wsV "WhoseGlass" 50 yR2 m_H_become ws_H_become) := y_gV g_255 g_256 g_257 g_2 g_258
theorem gc_X_coldsByCare_276 : GoodIn yGW (wsV "WhoseGlass" 276 yR2 m_H_careAlike ws_H_careAlike) := y_gV g_534 g_535 g_536 g_2 g_537
theorem gc_X_coldsByCare_135 : GoodIn yGW (wsV "WhoseGlass" 135 yR2 m_H_passMinutes ws_H_passMinutes) := y_gV g_438 g_279 g_280 g_2 g_281
theorem gc_X_coldsByCare_176 : GoodIn yGW (wsV "WhoseGlass" 176 yR2 m_H_coldBits ws_H_coldBits) := y_gV g_502 g_503 g_504 g_2 g_505
set_option maxRecDepth 100000 in
def f_X_coldsByCare (F : Nat) (u : Mm) (o : Nat) (a1 : Int32) (a2 : Int32) : Option (Int32 × Mm) := ob (jgr YX 4 1 (some o)) fun (r1 : Option Nat) => ob (jgr YX 4 0 (some o)) fun (r2 : Option Nat) => ob (jk YX 2 r1) fun t => yb (f_H_become F u t r2) fun v3 u4 => ob (jgr YX 4 1 (some o)) fun (r5 : Option Nat) => ob (jk YX 2 r5) fun t => yb (f_H_careAlike F u4 t a1) fun v6 u7 => ob (jgr YX 4 1 (some o)) fun (r8 : Option Nat) => ob (jk YX 2 r8) fun t => yb (f_H_passMinutes F u7 t a2) fun v9 u10 => ob (jgr YX 4 1 (some o)) fun (r11 : Option Nat) => ob (jk YX 2 r11) fun t => yb (f_H_coldBits F u10 t ) fun x12 u13 => some (x12, u13)
set_option maxHeartbeats 4000000 in
set_option maxRecDepth 100000 in
theorem c_X_coldsByCare (l : Launch) (w : WP) (F : Nat) (u : Mm) (o : Nat) (a1 : Int32) (a2 : Int32) (out : Int32 × Mm) (h : f_X_coldsByCare F u o a1 a2 = some out) : yMet l m_X_coldsByCare ws_X_coldsByCare ({ frames := 5, cells := 0, slots := 0, locals := 125 } : Room) YX w u [va_re w.1 (some o), .int a1, .int a2] yfi out := by
  refine y_entry (own := "WhoseGlass") (lv := [(0, va_re w.1 (some o)), (1, .int a1), (2, .int a2)]) (by decide +kernel) rfl (by simp [lv_args, y_cat, y_catI, y_catJ]) (by simp [lg_sl, y_cat, y_catI, y_catJ]) ?_
  intro p e s m args below meth c C hr hlocks
  unfold f_X_coldsByCare at h
  refine y_aload_n C (i := 0) 0 d_X_coldsByCare_0 rfl rfl ?_
  refine y_gr C (q := (yR4, yT4, 5)) (ci := 4) (k := 1) rfl (by decide) rfl (by decide) g_203 d_X_coldsByCare_1 h (fun r1 h => ?_)
  refine y_aload_n C (i := 0) 0 d_X_coldsByCare_4 rfl rfl ?_
  refine y_gr C (q := (yR4, yT4, 5)) (ci := 4) (k := 0) rfl (by decide) rfl (by decide) g_202 d_X_coldsByCare_5 h (fun r2 h => ?_)
  refine y_callV 1 C (q := (yR2, yT2, 9)) (ci := 2) (fun t out hh => c_H_become l w F u t r2 out hh) gc_X_coldsByCare_50 rfl (by decide) hd_H_become ⟨Nat.le_of_ble_eq_true rfl, Nat.le_of_ble_eq_true rfl⟩ rfl rfl rfl rfl (by simp [y_cat, y_catI, y_catJ]) d_X_coldsByCare_8 h (fun v3 u4 h => ?_)
  refine y_stk (stp0 := []) rfl ?_
  refine y_aload_n C (i := 0) 0 d_X_coldsByCare_11 rfl rfl ?_
  refine y_gr C (q := (yR4, yT4, 5)) (ci := 4) (k := 1) rfl (by decide) rfl (by decide) g_203 d_X_coldsByCare_12 h (fun r5 h => ?_)
  refine y_iload_n C (i := 1) 1 d_X_coldsByCare_15 rfl rfl ?_
  refine y_callV 1 C (q := (yR2, yT2, 9)) (ci := 2) (fun t out hh => c_H_careAlike l w F u4 t a1 out hh) gc_X_coldsByCare_276 rfl (by decide) hd_H_careAlike ⟨Nat.le_of_ble_eq_true rfl, Nat.le_of_ble_eq_true rfl⟩ rfl rfl rfl rfl (by simp [y_cat, y_catI, y_catJ]) d_X_coldsByCare_16 h (fun v6 u7 h => ?_)
  refine y_stk (stp0 := []) rfl ?_
  refine y_aload_n C (i := 0) 0 d_X_coldsByCare_19 rfl rfl ?_
  refine y_gr C (q := (yR4, yT4, 5)) (ci := 4) (k := 1) rfl (by decide) rfl (by decide) g_203 d_X_coldsByCare_20 h (fun r8 h => ?_)
  refine y_iload_n C (i := 2) 2 d_X_coldsByCare_23 rfl rfl ?_
  refine y_callV 1 C (q := (yR2, yT2, 9)) (ci := 2) (fun t out hh => c_H_passMinutes l w F u7 t a2 out hh) gc_X_coldsByCare_135 rfl (by decide) hd_H_passMinutes ⟨Nat.le_of_ble_eq_true rfl, Nat.le_of_ble_eq_true rfl⟩ rfl rfl rfl rfl (by simp [y_cat, y_catI, y_catJ]) d_X_coldsByCare_24 h (fun v9 u10 h => ?_)
  refine y_stk (stp0 := []) rfl ?_
  refine y_aload_n C (i := 0) 0 d_X_coldsByCare_27 rfl rfl ?_
  refine y_gr C (q := (yR4, yT4, 5)) (ci := 4) (k := 1) rfl (by decide) rfl (by decide) g_203 d_X_coldsByCare_28 h (fun r11 h => ?_)
  refine y_callV 0 C (q := (yR2, yT2, 9)) (ci := 2) (fun t out hh => c_H_coldBits l w F u10 t out hh) gc_X_coldsByCare_176 rfl (by decide) hd_H_coldBits ⟨Nat.le_of_ble_eq_true rfl, Nat.le_of_ble_eq_true rfl⟩ rfl rfl rfl rfl (by simp [y_cat, y_catI, y_catJ]) d_X_coldsByCare_31 h (fun x12 u13 h => ?_)
  refine y_stk (stp0 := [.int x12]) rfl ?_
  exact y_iret C hr hlocks d_X_coldsByCare_34 h
/-! X_particular -/
theorem d_X_particular_0 : decode prog_1_method_24_code 0 = .ok (.iload_n 1, 1) := by decide +kernel
theorem d_X_particular_1 : decode prog_1_method_24_code 1 = .ok (.invokestatic 162, 3) := by decide +kernel
theorem d_X_particular_4 : decode prog_1_method_24_code 4 = .ok (.ifCond .ne 5, 3) := by decide +kernel
theorem d_X_particular_7 : decode prog_1_method_24_code 7 = .ok (.iconst (-1), 1) := by decide +kernel
theorem d_X_particular_8 : decode prog_1_method_24_code 8 = .ok (.ireturn, 1) := by decide +kernel
theorem d_X_particular_9 : decode prog_1_method_24_code 9 = .ok (.aload_n 0, 1) := by decide +kernel
theorem d_X_particular_10 : decode prog_1_method_24_code 10 = .ok (.getfield 10, 3) := by decide +kernel
theorem d_X_particular_13 : decode prog_1_method_24_code 13 = .ok (.invokevirtual 176, 3) := by decide +kernel
theorem d_X_particular_16 : decode prog_1_method_24_code 16 = .ok (.istore_n 2, 1) := by decide +kernel
theorem d_X_particular_17 : decode prog_1_method_24_code 17 = .ok (.iconst 0, 1) := by decide +kernel
theorem d_X_particular_18 : decode prog_1_method_24_code 18 = .ok (.istore_n 3, 1) := by decide +kernel
theorem d_X_particular_19 : decode prog_1_method_24_code 19 = .ok (.iload_n 3, 1) := by decide +kernel
theorem d_X_particular_20 : decode prog_1_method_24_code 20 = .ok (.bipush 9, 2) := by decide +kernel
theorem d_X_particular_22 : decode prog_1_method_24_code 22 = .ok (.if_icmp .gt 21, 3) := by decide +kernel
theorem d_X_particular_25 : decode prog_1_method_24_code 25 = .ok (.aload_n 0, 1) := by decide +kernel
theorem d_X_particular_26 : decode prog_1_method_24_code 26 = .ok (.iload_n 3, 1) := by decide +kernel
theorem d_X_particular_27 : decode prog_1_method_24_code 27 = .ok (.iload_n 1, 1) := by decide +kernel
theorem d_X_particular_28 : decode prog_1_method_24_code 28 = .ok (.invokevirtual 188, 3) := by decide +kernel
theorem d_X_particular_31 : decode prog_1_method_24_code 31 = .ok (.iload_n 2, 1) := by decide +kernel
theorem d_X_particular_32 : decode prog_1_method_24_code 32 = .ok (.if_icmp .ne 5, 3) := by decide +kernel
theorem d_X_particular_35 : decode prog_1_method_24_code 35 = .ok (.iload_n 3, 1) := by decide +kernel
theorem d_X_particular_36 : decode prog_1_method_24_code 36 = .ok (.ireturn, 1) := by decide +kernel
theorem d_X_particular_37 : decode prog_1_method_24_code 37 = .ok (.iinc 3 1, 3) := by decide +kernel
theorem d_X_particular_40 : decode prog_1_method_24_code 40 = .ok (.goto (-21), 3) := by decide +kernel
theorem d_X_particular_43 : decode prog_1_method_24_code 43 = .ok (.bipush (-4), 2) := by decide +kernel
theorem d_X_particular_45 : decode prog_1_method_24_code 45 = .ok (.ireturn, 1) := by decide +kernel
theorem gc_X_particular_176 : GoodIn yGW (wsV "WhoseGlass" 176 yR2 m_H_coldBits ws_H_coldBits) := y_gV g_502 g_503 g_504 g_2 g_505
theorem gc_X_particular_188 : GoodIn yGW (wsV "WhoseGlass" 188 yR4 m_X_coldsByCare ws_X_coldsByCare) := y_gV g_530 g_532 gs_6 g_1 g_533
set_option maxHeartbeats 4000000 in
set_option maxRecDepth 100000 in
def f_X_particular_L19 (F : Nat) (a0 : Option Nat) (a1 : Int32) (a2 : Int32) (k : Mm → Option (Int32 × Mm)) : Nat → Mm → Int32 → Option (Int32 × Mm)
  | 0, _, _ => none
  | n + 1, u, a3 => (if (9 : Int32) < a3 then k u  else ob (jk YX 4 a0) fun t => yb (f_X_coldsByCare F u t a3 a1) fun x8 u9 => (if x8 = a2 then some (a3, u9) else ob (some (a3 + (1 : Int32))) fun (x11 : Int32) => f_X_particular_L19 F a0 a1 a2 k n u9 x11))
set_option maxHeartbeats 4000000 in
set_option maxRecDepth 100000 in
theorem w_X_particular_L19 {p : Program} {l : Launch} {e : Env} {s : State} {m : MethodId} {args : Array Value} {below : List Frame} {meth : Method} {c : Code} {w : WP} (F : Nat) (C : yX p e ({ frames := 6, cells := 0, slots := 0, locals := 147 } : Room) s m args c YX w 4 prog_1_method_24_code "WhoseGlass") (hr : meth.sig.returnType = (some .int)) (hlocks : meth.locks = false) (a0 : Option Nat) (a1 : Int32) (a2 : Int32) {out : Int32 × Mm} (k : Mm → Option (Int32 × Mm)) (hk : ∀ (u : Mm), k u  = some out → yG p l e ({ frames := 6, cells := 0, slots := 0, locals := 147 } : Room) s m args below meth c YX w 4 (MQ below (yQ YX w yfi out) args s 0 0 (yA YX w)) u 43 [] []) : ∀ (n : Nat) (u : Mm) (a3 : Int32), f_X_particular_L19 F a0 a1 a2 k n u a3 = some out → yG p l e ({ frames := 6, cells := 0, slots := 0, locals := 147 } : Room) s m args below meth c YX w 4 (MQ below (yQ YX w yfi out) args s 0 0 (yA YX w)) u 19 [(0, va_re w.1 a0), (1, .int a1), (2, .int a2), (3, .int a3)] [] := by
  intro n
  induction n with
  | zero => intro u a3 h; rw [f_X_particular_L19] at h; cases h
  | succ n ih =>
    intro u a3 h
    rw [f_X_particular_L19] at h
    refine y_iload_n C (i := 3) 3 d_X_particular_19 rfl rfl ?_
    refine y_bipush C (v := 9) d_X_particular_20 (by decide) ?_
    refine y_ic_gt C 43 d_X_particular_22 (by decide) h (fun k7 h => ?_) (fun k7 h => ?_)
    · exact y_sub [] rfl (hk _ h)
    · refine y_aload_n C (i := 0) 0 d_X_particular_25 rfl rfl ?_
      refine y_iload_n C (i := 3) 3 d_X_particular_26 rfl rfl ?_
      refine y_iload_n C (i := 1) 1 d_X_particular_27 rfl rfl ?_
      refine y_callV 2 C (q := (yR4, yT4, 5)) (ci := 4) (fun t out hh => c_X_coldsByCare l w F u t a3 a1 out hh) gc_X_particular_188 rfl (by decide) hd_X_coldsByCare ⟨Nat.le_of_ble_eq_true rfl, Nat.le_of_ble_eq_true rfl⟩ rfl rfl rfl rfl (by simp [y_cat, y_catI, y_catJ]) d_X_particular_28 h (fun x8 u9 h => ?_)
      refine y_stk (stp0 := [.int x8]) rfl ?_
      refine y_iload_n C (i := 2) 2 d_X_particular_31 rfl rfl ?_
      refine y_ic_ne C 37 d_X_particular_32 (by decide) h (fun k10 h => ?_) (fun k10 h => ?_)
      · refine y_iload_n C (i := 3) 3 d_X_particular_35 rfl rfl ?_
        exact y_iret C hr hlocks d_X_particular_36 h
      · refine y_iinc C (j := 3) (v := 1) (lvp := [(0, va_re w.1 a0), (1, .int a1), (2, .int a2)]) d_X_particular_37 rfl (by decide) (by decide) rfl h (fun x11 h => ?_)
        refine y_goto C (tgt := 19) d_X_particular_40 (by decide) ?_
        exact y_sub [1, 2, 3, 0] rfl (ih _ _ h)
set_option maxRecDepth 100000 in
def f_X_particular (F : Nat) (u : Mm) (o : Nat) (a1 : Int32) : Option (Int32 × Mm) := yb (f_X_isSpan F u a1) fun x1 u2 => (if x1 = 0 then some ((-1 : Int32), u2) else ob (jgr YX 4 0 (some o)) fun (r4 : Option Nat) => ob (jk YX 2 r4) fun t => yb (f_H_coldBits F u2 t ) fun x5 u6 => f_X_particular_L19 F (some o) a1 x5 (fun (u12 : Mm) => some ((-4 : Int32), u12)) F u6 (0 : Int32))
set_option maxHeartbeats 4000000 in
set_option maxRecDepth 100000 in
theorem c_X_particular (l : Launch) (w : WP) (F : Nat) (u : Mm) (o : Nat) (a1 : Int32) (out : Int32 × Mm) (h : f_X_particular F u o a1 = some out) : yMet l m_X_particular ws_X_particular ({ frames := 6, cells := 0, slots := 0, locals := 147 } : Room) YX w u [va_re w.1 (some o), .int a1] yfi out := by
  refine y_entry (own := "WhoseGlass") (lv := [(0, va_re w.1 (some o)), (1, .int a1)]) (by decide +kernel) rfl (by simp [lv_args, y_cat, y_catI, y_catJ]) (by simp [lg_sl, y_cat, y_catI, y_catJ]) ?_
  intro p e s m args below meth c C hr hlocks
  unfold f_X_particular at h
  refine y_iload_n C (i := 1) 1 d_X_particular_0 rfl rfl ?_
  refine y_callS 1 C (fun out hh => c_X_isSpan l w F u a1 out hh) (y_gc g_489) g_487 g_1 g_488 hn_X_isSpan ⟨Nat.le_of_ble_eq_true rfl, Nat.le_of_ble_eq_true rfl⟩ rfl rfl rfl rfl (by simp [y_cat, y_catI, y_catJ]) d_X_particular_1 h (fun x1 u2 h => ?_)
  refine y_stk (stp0 := [.int x1]) rfl ?_
  refine y_if_ne C 9 d_X_particular_4 (by decide) h (fun k3 h => ?_) (fun k3 h => ?_)
  · refine y_iconst C (v := -1) d_X_particular_7 (by decide) ?_
    exact y_iret C hr hlocks d_X_particular_8 h
  · refine y_aload_n C (i := 0) 0 d_X_particular_9 rfl rfl ?_
    refine y_gr C (q := (yR4, yT4, 5)) (ci := 4) (k := 0) rfl (by decide) rfl (by decide) g_202 d_X_particular_10 h (fun r4 h => ?_)
    refine y_callV 0 C (q := (yR2, yT2, 9)) (ci := 2) (fun t out hh => c_H_coldBits l w F u2 t out hh) gc_X_particular_176 rfl (by decide) hd_H_coldBits ⟨Nat.le_of_ble_eq_true rfl, Nat.le_of_ble_eq_true rfl⟩ rfl rfl rfl rfl (by simp [y_cat, y_catI, y_catJ]) d_X_particular_13 h (fun x5 u6 h => ?_)
    refine y_stk (stp0 := [.int x5]) rfl ?_
    refine y_istore_n C (i := 2) (lvp := [(0, va_re w.1 (some o)), (1, .int a1)]) d_X_particular_16 rfl (by decide) rfl ?_
    refine y_iconst C (v := 0) d_X_particular_17 (by decide) ?_
    refine y_istore_n C (i := 3) (lvp := [(2, .int x5), (0, va_re w.1 (some o)), (1, .int a1)]) d_X_particular_18 rfl (by decide) rfl ?_
    refine y_sub [2, 3, 1, 0] rfl (w_X_particular_L19 F C hr hlocks _ _ _ _ (fun u12 h => ?_) _ _ _ h)
    refine y_bipush C (v := -4) d_X_particular_43 (by decide) ?_
    exact y_iret C hr hlocks d_X_particular_45 h
/-! X_mistakesIfMarked -/
theorem d_X_mistakesIfMarked_0 : decode prog_1_method_49_code 0 = .ok (.aload_n 0, 1) := by decide +kernel
theorem d_X_mistakesIfMarked_1 : decode prog_1_method_49_code 1 = .ok (.getfield 16, 3) := by decide +kernel
theorem d_X_mistakesIfMarked_4 : decode prog_1_method_49_code 4 = .ok (.aload_n 0, 1) := by decide +kernel
theorem d_X_mistakesIfMarked_5 : decode prog_1_method_49_code 5 = .ok (.getfield 10, 3) := by decide +kernel
theorem d_X_mistakesIfMarked_8 : decode prog_1_method_49_code 8 = .ok (.invokevirtual 50, 3) := by decide +kernel
theorem d_X_mistakesIfMarked_11 : decode prog_1_method_49_code 11 = .ok (.aload_n 0, 1) := by decide +kernel
theorem d_X_mistakesIfMarked_12 : decode prog_1_method_49_code 12 = .ok (.getfield 16, 3) := by decide +kernel
theorem d_X_mistakesIfMarked_15 : decode prog_1_method_49_code 15 = .ok (.iload_n 1, 1) := by decide +kernel
theorem d_X_mistakesIfMarked_16 : decode prog_1_method_49_code 16 = .ok (.invokevirtual 61, 3) := by decide +kernel
theorem d_X_mistakesIfMarked_19 : decode prog_1_method_49_code 19 = .ok (.astore_n 3, 1) := by decide +kernel
theorem d_X_mistakesIfMarked_20 : decode prog_1_method_49_code 20 = .ok (.aload_n 3, 1) := by decide +kernel
theorem d_X_mistakesIfMarked_21 : decode prog_1_method_49_code 21 = .ok (.ifnull 8, 3) := by decide +kernel
theorem d_X_mistakesIfMarked_24 : decode prog_1_method_49_code 24 = .ok (.aload_n 3, 1) := by decide +kernel
theorem d_X_mistakesIfMarked_25 : decode prog_1_method_49_code 25 = .ok (.iconst 1, 1) := by decide +kernel
theorem d_X_mistakesIfMarked_26 : decode prog_1_method_49_code 26 = .ok (.putfield 279, 3) := by decide +kernel
theorem d_X_mistakesIfMarked_29 : decode prog_1_method_49_code 29 = .ok (.aload_n 0, 1) := by decide +kernel
theorem d_X_mistakesIfMarked_30 : decode prog_1_method_49_code 30 = .ok (.getfield 16, 3) := by decide +kernel
theorem d_X_mistakesIfMarked_33 : decode prog_1_method_49_code 33 = .ok (.iload_n 2, 1) := by decide +kernel
theorem d_X_mistakesIfMarked_34 : decode prog_1_method_49_code 34 = .ok (.invokevirtual 135, 3) := by decide +kernel
theorem d_X_mistakesIfMarked_37 : decode prog_1_method_49_code 37 = .ok (.aload_n 0, 1) := by decide +kernel
theorem d_X_mistakesIfMarked_38 : decode prog_1_method_49_code 38 = .ok (.getfield 16, 3) := by decide +kernel
theorem d_X_mistakesIfMarked_41 : decode prog_1_method_49_code 41 = .ok (.getfield 170, 3) := by decide +kernel
theorem d_X_mistakesIfMarked_44 : decode prog_1_method_49_code 44 = .ok (.ireturn, 1) := by decide +kernel
theorem gc_X_mistakesIfMarked_50 : GoodIn yGW (wsV "WhoseGlass" 50 yR2 m_H_become ws_H_become) := y_gV g_255 g_256 g_257 g_2 g_258
theorem gc_X_mistakesIfMarked_61 : GoodIn yGW (wsV "WhoseGlass" 61 yR2 m_H_glassAt ws_H_glassAt) := y_gV g_381 g_260 g_261 g_2 g_262
theorem gc_X_mistakesIfMarked_135 : GoodIn yGW (wsV "WhoseGlass" 135 yR2 m_H_passMinutes ws_H_passMinutes) := y_gV g_438 g_279 g_280 g_2 g_281
set_option maxRecDepth 100000 in
def f_X_mistakesIfMarked (F : Nat) (u : Mm) (o : Nat) (a1 : Int32) (a2 : Int32) : Option (Int32 × Mm) := ob (jgr YX 4 1 (some o)) fun (r1 : Option Nat) => ob (jgr YX 4 0 (some o)) fun (r2 : Option Nat) => ob (jk YX 2 r1) fun t => yb (f_H_become F u t r2) fun v3 u4 => ob (jgr YX 4 1 (some o)) fun (r5 : Option Nat) => ob (jk YX 2 r5) fun t => yb (f_H_glassAt F u4 t a1) fun r6 u7 => ob ((if r6 = none then some u7 else ob (jpi YX 0 1 u7 r6 (1 : Int32)) fun (u10 : Mm) => some u10) : Option (Mm)) fun q8 => ob (jgr YX 4 1 (some o)) fun (r11 : Option Nat) => ob (jk YX 2 r11) fun t => yb (f_H_passMinutes F q8 t a2) fun v12 u13 => ob (jgr YX 4 1 (some o)) fun (r14 : Option Nat) => ob (jgi YX 2 6 u13 r14) fun (x15 : Int32) => some (x15, u13)
set_option maxHeartbeats 4000000 in
set_option maxRecDepth 100000 in
theorem c_X_mistakesIfMarked (l : Launch) (w : WP) (F : Nat) (u : Mm) (o : Nat) (a1 : Int32) (a2 : Int32) (out : Int32 × Mm) (h : f_X_mistakesIfMarked F u o a1 a2 = some out) : yMet l m_X_mistakesIfMarked ws_X_mistakesIfMarked ({ frames := 5, cells := 0, slots := 0, locals := 125 } : Room) YX w u [va_re w.1 (some o), .int a1, .int a2] yfi out := by
  refine y_entry (own := "WhoseGlass") (lv := [(0, va_re w.1 (some o)), (1, .int a1), (2, .int a2)]) (by decide +kernel) rfl (by simp [lv_args, y_cat, y_catI, y_catJ]) (by simp [lg_sl, y_cat, y_catI, y_catJ]) ?_
  intro p e s m args below meth c C hr hlocks
  unfold f_X_mistakesIfMarked at h
  refine y_aload_n C (i := 0) 0 d_X_mistakesIfMarked_0 rfl rfl ?_
  refine y_gr C (q := (yR4, yT4, 5)) (ci := 4) (k := 1) rfl (by decide) rfl (by decide) g_203 d_X_mistakesIfMarked_1 h (fun r1 h => ?_)
  refine y_aload_n C (i := 0) 0 d_X_mistakesIfMarked_4 rfl rfl ?_
  refine y_gr C (q := (yR4, yT4, 5)) (ci := 4) (k := 0) rfl (by decide) rfl (by decide) g_202 d_X_mistakesIfMarked_5 h (fun r2 h => ?_)
  refine y_callV 1 C (q := (yR2, yT2, 9)) (ci := 2) (fun t out hh => c_H_become l w F u t r2 out hh) gc_X_mistakesIfMarked_50 rfl (by decide) hd_H_become ⟨Nat.le_of_ble_eq_true rfl, Nat.le_of_ble_eq_true rfl⟩ rfl rfl rfl rfl (by simp [y_cat, y_catI, y_catJ]) d_X_mistakesIfMarked_8 h (fun v3 u4 h => ?_)
  refine y_stk (stp0 := []) rfl ?_
  refine y_aload_n C (i := 0) 0 d_X_mistakesIfMarked_11 rfl rfl ?_
  refine y_gr C (q := (yR4, yT4, 5)) (ci := 4) (k := 1) rfl (by decide) rfl (by decide) g_203 d_X_mistakesIfMarked_12 h (fun r5 h => ?_)
  refine y_iload_n C (i := 1) 1 d_X_mistakesIfMarked_15 rfl rfl ?_
  refine y_callV 1 C (q := (yR2, yT2, 9)) (ci := 2) (fun t out hh => c_H_glassAt l w F u4 t a1 out hh) gc_X_mistakesIfMarked_61 rfl (by decide) hd_H_glassAt ⟨Nat.le_of_ble_eq_true rfl, Nat.le_of_ble_eq_true rfl⟩ rfl rfl rfl rfl (by simp [y_cat, y_catI, y_catJ]) d_X_mistakesIfMarked_16 h (fun r6 u7 h => ?_)
  refine y_stk (stp0 := [va_re w.1 r6]) rfl ?_
  refine y_astore_n C (i := 3) (lvp := [(0, va_re w.1 (some o)), (1, .int a1), (2, .int a2)]) d_X_mistakesIfMarked_19 rfl (by decide) (by simp [List.filter, y_cat, y_catI, y_catJ]) ?_
  refine y_aload_n C (i := 3) 0 d_X_mistakesIfMarked_20 rfl rfl ?_
  obtain ⟨q8, hq8, h⟩ := ob_e h
  have hJq8 : yG p l e ({ frames := 5, cells := 0, slots := 0, locals := 125 } : Room) s m args below meth c YX w 4 (MQ below (yQ YX w yfi out) args s 0 0 (yA YX w)) q8 29 [(0, va_re w.1 (some o)), (2, .int a2)] [] := by
    refine y_aload_n C (i := 0) 0 d_X_mistakesIfMarked_29 rfl rfl ?_
    refine y_gr C (q := (yR4, yT4, 5)) (ci := 4) (k := 1) rfl (by decide) rfl (by decide) g_203 d_X_mistakesIfMarked_30 h (fun r11 h => ?_)
    refine y_iload_n C (i := 2) 1 d_X_mistakesIfMarked_33 rfl rfl ?_
    refine y_callV 1 C (q := (yR2, yT2, 9)) (ci := 2) (fun t out hh => c_H_passMinutes l w F q8 t a2 out hh) gc_X_mistakesIfMarked_135 rfl (by decide) hd_H_passMinutes ⟨Nat.le_of_ble_eq_true rfl, Nat.le_of_ble_eq_true rfl⟩ rfl rfl rfl rfl (by simp [y_cat, y_catI, y_catJ]) d_X_mistakesIfMarked_34 h (fun v12 u13 h => ?_)
    refine y_stk (stp0 := []) rfl ?_
    refine y_aload_n C (i := 0) 0 d_X_mistakesIfMarked_37 rfl rfl ?_
    refine y_gr C (q := (yR4, yT4, 5)) (ci := 4) (k := 1) rfl (by decide) rfl (by decide) g_203 d_X_mistakesIfMarked_38 h (fun r14 h => ?_)
    refine y_gi C (q := (yR2, yT2, 9)) (ci := 2) (k := 6) rfl (by decide) rfl g_144 d_X_mistakesIfMarked_41 h (fun x15 h => ?_)
    exact y_iret C hr hlocks d_X_mistakesIfMarked_44 h
  refine y_ifnull C 29 d_X_mistakesIfMarked_21 (by decide) hq8 (fun k9 hq8 => ?_) (fun k9 hq8 => ?_)
  · cases hq8
    exact y_sub [1, 3] rfl hJq8
  · refine y_aload_n C (i := 3) 0 d_X_mistakesIfMarked_24 rfl rfl ?_
    refine y_iconst C (v := 1) d_X_mistakesIfMarked_25 (by decide) ?_
    refine y_pi C (q := (yR0, yT0, 8)) (ci := 0) (k := 1) rfl (by decide) rfl rfl (by decide +kernel) g_44 d_X_mistakesIfMarked_26 hq8 (fun u10 hq8 => ?_)
    cases hq8
    exact y_sub [1, 3] rfl hJq8
/-! X_mark -/
theorem d_X_mark_0 : decode prog_1_method_25_code 0 = .ok (.iload_n 1, 1) := by decide +kernel
theorem d_X_mark_1 : decode prog_1_method_25_code 1 = .ok (.invokestatic 162, 3) := by decide +kernel
theorem d_X_mark_4 : decode prog_1_method_25_code 4 = .ok (.ifCond .ne 5, 3) := by decide +kernel
theorem d_X_mark_7 : decode prog_1_method_25_code 7 = .ok (.iconst (-1), 1) := by decide +kernel
theorem d_X_mark_8 : decode prog_1_method_25_code 8 = .ok (.ireturn, 1) := by decide +kernel
theorem d_X_mark_9 : decode prog_1_method_25_code 9 = .ok (.aload_n 0, 1) := by decide +kernel
theorem d_X_mark_10 : decode prog_1_method_25_code 10 = .ok (.iload_n 1, 1) := by decide +kernel
theorem d_X_mark_11 : decode prog_1_method_25_code 11 = .ok (.invokevirtual 166, 3) := by decide +kernel
theorem d_X_mark_14 : decode prog_1_method_25_code 14 = .ok (.getfield 170, 3) := by decide +kernel
theorem d_X_mark_17 : decode prog_1_method_25_code 17 = .ok (.istore_n 2, 1) := by decide +kernel
theorem d_X_mark_18 : decode prog_1_method_25_code 18 = .ok (.bipush (-4), 2) := by decide +kernel
theorem d_X_mark_20 : decode prog_1_method_25_code 20 = .ok (.istore_n 3, 1) := by decide +kernel
theorem d_X_mark_21 : decode prog_1_method_25_code 21 = .ok (.iconst 0, 1) := by decide +kernel
theorem d_X_mark_22 : decode prog_1_method_25_code 22 = .ok (.istore 4, 2) := by decide +kernel
theorem d_X_mark_24 : decode prog_1_method_25_code 24 = .ok (.iload 4, 2) := by decide +kernel
theorem d_X_mark_26 : decode prog_1_method_25_code 26 = .ok (.aload_n 0, 1) := by decide +kernel
theorem d_X_mark_27 : decode prog_1_method_25_code 27 = .ok (.getfield 10, 3) := by decide +kernel
theorem d_X_mark_30 : decode prog_1_method_25_code 30 = .ok (.getfield 123, 3) := by decide +kernel
theorem d_X_mark_33 : decode prog_1_method_25_code 33 = .ok (.if_icmp .ge 30, 3) := by decide +kernel
theorem d_X_mark_36 : decode prog_1_method_25_code 36 = .ok (.aload_n 0, 1) := by decide +kernel
theorem d_X_mark_37 : decode prog_1_method_25_code 37 = .ok (.iload 4, 2) := by decide +kernel
theorem d_X_mark_39 : decode prog_1_method_25_code 39 = .ok (.iload_n 1, 1) := by decide +kernel
theorem d_X_mark_40 : decode prog_1_method_25_code 40 = .ok (.invokevirtual 191, 3) := by decide +kernel
theorem d_X_mark_43 : decode prog_1_method_25_code 43 = .ok (.istore 5, 2) := by decide +kernel
theorem d_X_mark_45 : decode prog_1_method_25_code 45 = .ok (.iload 5, 2) := by decide +kernel
theorem d_X_mark_47 : decode prog_1_method_25_code 47 = .ok (.iload_n 2, 1) := by decide +kernel
theorem d_X_mark_48 : decode prog_1_method_25_code 48 = .ok (.if_icmp .ge 9, 3) := by decide +kernel
theorem d_X_mark_51 : decode prog_1_method_25_code 51 = .ok (.iload 5, 2) := by decide +kernel
theorem d_X_mark_53 : decode prog_1_method_25_code 53 = .ok (.istore_n 2, 1) := by decide +kernel
theorem d_X_mark_54 : decode prog_1_method_25_code 54 = .ok (.iload 4, 2) := by decide +kernel
theorem d_X_mark_56 : decode prog_1_method_25_code 56 = .ok (.istore_n 3, 1) := by decide +kernel
theorem d_X_mark_57 : decode prog_1_method_25_code 57 = .ok (.iinc 4 1, 3) := by decide +kernel
theorem d_X_mark_60 : decode prog_1_method_25_code 60 = .ok (.goto (-36), 3) := by decide +kernel
theorem d_X_mark_63 : decode prog_1_method_25_code 63 = .ok (.iload_n 3, 1) := by decide +kernel
theorem d_X_mark_64 : decode prog_1_method_25_code 64 = .ok (.ireturn, 1) := by decide +kernel
theorem gc_X_mark_166 : GoodIn yGW (wsV "WhoseGlass" 166 yR4 m_X_ahead ws_X_ahead) := y_gV g_490 g_492 gs_4 g_1 g_493
theorem gc_X_mark_191 : GoodIn yGW (wsV "WhoseGlass" 191 yR4 m_X_mistakesIfMarked ws_X_mistakesIfMarked) := y_gV g_542 g_544 gs_7 g_1 g_545
set_option maxHeartbeats 4000000 in
set_option maxRecDepth 100000 in
def f_X_mark_L24 (F : Nat) (a0 : Option Nat) (a1 : Int32) (k : Mm → Int32 → Option (Int32 × Mm)) : Nat → Mm → Int32 → Int32 → Int32 → Option (Int32 × Mm)
  | 0, _, _, _, _ => none
  | n + 1, u, a2, a3, a4 => ob (jgr YX 4 0 a0) fun (r7 : Option Nat) => ob (jgi YX 2 2 u r7) fun (x8 : Int32) => (if x8 ≤ a4 then k u a3 else ob (jk YX 4 a0) fun t => yb (f_X_mistakesIfMarked F u t a4 a1) fun x10 u11 => ob ((if a2 ≤ x10 then some (a2, a3) else some (x10, a4)) : Option (Int32 × Int32)) fun q12 => ob (some (a4 + (1 : Int32))) fun (x14 : Int32) => f_X_mark_L24 F a0 a1 k n u11 q12.1 q12.2 x14)
set_option maxHeartbeats 4000000 in
set_option maxRecDepth 100000 in
theorem w_X_mark_L24 {p : Program} {l : Launch} {e : Env} {s : State} {m : MethodId} {args : Array Value} {below : List Frame} {meth : Method} {c : Code} {w : WP} {Q : State → Prop} (F : Nat) (C : yX p e ({ frames := 6, cells := 0, slots := 0, locals := 148 } : Room) s m args c YX w 6 prog_1_method_25_code "WhoseGlass") (hr : meth.sig.returnType = (some .int)) (hlocks : meth.locks = false) (a0 : Option Nat) (a1 : Int32) {out : Int32 × Mm} (k : Mm → Int32 → Option (Int32 × Mm)) (hk : ∀ (u : Mm) (a3 : Int32), k u a3 = some out → yG p l e ({ frames := 6, cells := 0, slots := 0, locals := 148 } : Room) s m args below meth c YX w 6 Q u 63 [(3, .int a3)] []) : ∀ (n : Nat) (u : Mm) (a2 : Int32) (a3 : Int32) (a4 : Int32), f_X_mark_L24 F a0 a1 k n u a2 a3 a4 = some out → yG p l e ({ frames := 6, cells := 0, slots := 0, locals := 148 } : Room) s m args below meth c YX w 6 Q u 24 [(0, va_re w.1 a0), (1, .int a1), (2, .int a2), (3, .int a3), (4, .int a4)] [] := by
  intro n
  induction n with
  | zero => intro u a2 a3 a4 h; rw [f_X_mark_L24] at h; cases h
  | succ n ih =>
    intro u a2 a3 a4 h
    rw [f_X_mark_L24] at h
    refine y_iload C (i := 4) 4 d_X_mark_24 rfl ?_
    refine y_aload_n C (i := 0) 0 d_X_mark_26 rfl rfl ?_
    refine y_gr C (q := (yR4, yT4, 5)) (ci := 4) (k := 0) rfl (by decide) rfl (by decide) g_202 d_X_mark_27 h (fun r7 h => ?_)
    refine y_gi C (q := (yR2, yT2, 9)) (ci := 2) (k := 2) rfl (by decide) rfl g_134 d_X_mark_30 h (fun x8 h => ?_)
    refine y_ic_ge C 63 d_X_mark_33 (by decide) h (fun k9 h => ?_) (fun k9 h => ?_)
    · exact y_sub [3] rfl (hk _ _ h)
    · refine y_aload_n C (i := 0) 0 d_X_mark_36 rfl rfl ?_
      refine y_iload C (i := 4) 4 d_X_mark_37 rfl ?_
      refine y_iload_n C (i := 1) 1 d_X_mark_39 rfl rfl ?_
      refine y_callV 2 C (q := (yR4, yT4, 5)) (ci := 4) (fun t out hh => c_X_mistakesIfMarked l w F u t a4 a1 out hh) gc_X_mark_191 rfl (by decide) hd_X_mistakesIfMarked ⟨Nat.le_of_ble_eq_true rfl, Nat.le_of_ble_eq_true rfl⟩ rfl rfl rfl rfl (by simp [y_cat, y_catI, y_catJ]) d_X_mark_40 h (fun x10 u11 h => ?_)
      refine y_stk (stp0 := [.int x10]) rfl ?_
      refine y_istore C (i := 5) (lvp := [(0, va_re w.1 a0), (1, .int a1), (2, .int a2), (3, .int a3), (4, .int a4)]) d_X_mark_43 (by decide) rfl ?_
      refine y_iload C (i := 5) 0 d_X_mark_45 rfl ?_
      refine y_iload_n C (i := 2) 3 d_X_mark_47 rfl rfl ?_
      obtain ⟨q12, hq12, h⟩ := ob_e h
      have hJq12 : yG p l e ({ frames := 6, cells := 0, slots := 0, locals := 148 } : Room) s m args below meth c YX w 6 Q u11 57 [(0, va_re w.1 a0), (1, .int a1), (2, .int q12.1), (3, .int q12.2), (4, .int a4)] [] := by
        refine y_iinc C (j := 4) (v := 1) (lvp := [(0, va_re w.1 a0), (1, .int a1), (2, .int q12.1), (3, .int q12.2)]) d_X_mark_57 rfl (by decide) (by decide) rfl h (fun x14 h => ?_)
        refine y_goto C (tgt := 24) d_X_mark_60 (by decide) ?_
        exact y_sub [1, 2, 3, 4, 0] rfl (ih _ _ _ _ h)
      refine y_ic_ge C 57 d_X_mark_48 (by decide) hq12 (fun k13 hq12 => ?_) (fun k13 hq12 => ?_)
      · cases hq12
        exact y_sub [1, 2, 3, 4, 5] rfl hJq12
      · refine y_iload C (i := 5) 0 d_X_mark_51 rfl ?_
        refine y_istore_n C (i := 2) (lvp := [(5, .int x10), (0, va_re w.1 a0), (1, .int a1), (3, .int a3), (4, .int a4)]) d_X_mark_53 rfl (by decide) rfl ?_
        refine y_iload C (i := 4) 5 d_X_mark_54 rfl ?_
        refine y_istore_n C (i := 3) (lvp := [(2, .int x10), (5, .int x10), (0, va_re w.1 a0), (1, .int a1), (4, .int a4)]) d_X_mark_56 rfl (by decide) rfl ?_
        cases hq12
        exact y_sub [3, 4, 1, 0, 5] rfl hJq12
set_option maxRecDepth 100000 in
def f_X_mark (F : Nat) (u : Mm) (o : Nat) (a1 : Int32) : Option (Int32 × Mm) := yb (f_X_isSpan F u a1) fun x1 u2 => (if x1 = 0 then some ((-1 : Int32), u2) else ob (jk YX 4 (some o)) fun t => yb (f_X_ahead F u2 t a1) fun r4 u5 => ob (jgi YX 2 6 u5 r4) fun (x6 : Int32) => f_X_mark_L24 F (some o) a1 (fun (u15 : Mm) (x16 : Int32) => some (x16, u15)) F u5 x6 (-4 : Int32) (0 : Int32))
set_option maxHeartbeats 4000000 in
set_option maxRecDepth 100000 in
theorem c_X_mark (l : Launch) (w : WP) (F : Nat) (u : Mm) (o : Nat) (a1 : Int32) (out : Int32 × Mm) (h : f_X_mark F u o a1 = some out) : yMet l m_X_mark ws_X_mark ({ frames := 6, cells := 0, slots := 0, locals := 148 } : Room) YX w u [va_re w.1 (some o), .int a1] yfi out := by
  refine y_entry (own := "WhoseGlass") (lv := [(0, va_re w.1 (some o)), (1, .int a1)]) (by decide +kernel) rfl (by simp [lv_args, y_cat, y_catI, y_catJ]) (by simp [lg_sl, y_cat, y_catI, y_catJ]) ?_
  intro p e s m args below meth c C hr hlocks
  unfold f_X_mark at h
  refine y_iload_n C (i := 1) 1 d_X_mark_0 rfl rfl ?_
  refine y_callS 1 C (fun out hh => c_X_isSpan l w F u a1 out hh) (y_gc g_489) g_487 g_1 g_488 hn_X_isSpan ⟨Nat.le_of_ble_eq_true rfl, Nat.le_of_ble_eq_true rfl⟩ rfl rfl rfl rfl (by simp [y_cat, y_catI, y_catJ]) d_X_mark_1 h (fun x1 u2 h => ?_)
  refine y_stk (stp0 := [.int x1]) rfl ?_
  refine y_if_ne C 9 d_X_mark_4 (by decide) h (fun k3 h => ?_) (fun k3 h => ?_)
  · refine y_iconst C (v := -1) d_X_mark_7 (by decide) ?_
    exact y_iret C hr hlocks d_X_mark_8 h
  · refine y_aload_n C (i := 0) 0 d_X_mark_9 rfl rfl ?_
    refine y_iload_n C (i := 1) 1 d_X_mark_10 rfl rfl ?_
    refine y_callV 1 C (q := (yR4, yT4, 5)) (ci := 4) (fun t out hh => c_X_ahead l w F u2 t a1 out hh) gc_X_mark_166 rfl (by decide) hd_X_ahead ⟨Nat.le_of_ble_eq_true rfl, Nat.le_of_ble_eq_true rfl⟩ rfl rfl rfl rfl (by simp [y_cat, y_catI, y_catJ]) d_X_mark_11 h (fun r4 u5 h => ?_)
    refine y_stk (stp0 := [va_re w.1 r4]) rfl ?_
    refine y_gi C (q := (yR2, yT2, 9)) (ci := 2) (k := 6) rfl (by decide) rfl g_144 d_X_mark_14 h (fun x6 h => ?_)
    refine y_istore_n C (i := 2) (lvp := [(0, va_re w.1 (some o)), (1, .int a1)]) d_X_mark_17 rfl (by decide) rfl ?_
    refine y_bipush C (v := -4) d_X_mark_18 (by decide) ?_
    refine y_istore_n C (i := 3) (lvp := [(2, .int x6), (0, va_re w.1 (some o)), (1, .int a1)]) d_X_mark_20 rfl (by decide) rfl ?_
    refine y_iconst C (v := 0) d_X_mark_21 (by decide) ?_
    refine y_istore C (i := 4) (lvp := [(3, .int (-4 : Int32)), (2, .int x6), (0, va_re w.1 (some o)), (1, .int a1)]) d_X_mark_22 (by decide) rfl ?_
    refine y_sub [3, 4, 2, 1, 0] rfl (w_X_mark_L24 F C hr hlocks _ _ _ (fun u15 x16 h => ?_) _ _ _ _ _ h)
    refine y_iload_n C (i := 3) 0 d_X_mark_63 rfl rfl ?_
    exact y_iret C hr hlocks d_X_mark_64 h
/-! X_freshIfLeftOut -/
theorem d_X_freshIfLeftOut_0 : decode prog_1_method_50_code 0 = .ok (.aload_n 0, 1) := by decide +kernel
theorem d_X_freshIfLeftOut_1 : decode prog_1_method_50_code 1 = .ok (.getfield 16, 3) := by decide +kernel
theorem d_X_freshIfLeftOut_4 : decode prog_1_method_50_code 4 = .ok (.aload_n 0, 1) := by decide +kernel
theorem d_X_freshIfLeftOut_5 : decode prog_1_method_50_code 5 = .ok (.getfield 10, 3) := by decide +kernel
theorem d_X_freshIfLeftOut_8 : decode prog_1_method_50_code 8 = .ok (.invokevirtual 50, 3) := by decide +kernel
theorem d_X_freshIfLeftOut_11 : decode prog_1_method_50_code 11 = .ok (.aload_n 0, 1) := by decide +kernel
theorem d_X_freshIfLeftOut_12 : decode prog_1_method_50_code 12 = .ok (.getfield 16, 3) := by decide +kernel
theorem d_X_freshIfLeftOut_15 : decode prog_1_method_50_code 15 = .ok (.iload_n 1, 1) := by decide +kernel
theorem d_X_freshIfLeftOut_16 : decode prog_1_method_50_code 16 = .ok (.putfield 280, 3) := by decide +kernel
theorem d_X_freshIfLeftOut_19 : decode prog_1_method_50_code 19 = .ok (.aload_n 0, 1) := by decide +kernel
theorem d_X_freshIfLeftOut_20 : decode prog_1_method_50_code 20 = .ok (.getfield 16, 3) := by decide +kernel
theorem d_X_freshIfLeftOut_23 : decode prog_1_method_50_code 23 = .ok (.iload_n 2, 1) := by decide +kernel
theorem d_X_freshIfLeftOut_24 : decode prog_1_method_50_code 24 = .ok (.invokevirtual 135, 3) := by decide +kernel
theorem d_X_freshIfLeftOut_27 : decode prog_1_method_50_code 27 = .ok (.aload_n 0, 1) := by decide +kernel
theorem d_X_freshIfLeftOut_28 : decode prog_1_method_50_code 28 = .ok (.getfield 16, 3) := by decide +kernel
theorem d_X_freshIfLeftOut_31 : decode prog_1_method_50_code 31 = .ok (.getfield 173, 3) := by decide +kernel
theorem d_X_freshIfLeftOut_34 : decode prog_1_method_50_code 34 = .ok (.ireturn, 1) := by decide +kernel
theorem gc_X_freshIfLeftOut_50 : GoodIn yGW (wsV "WhoseGlass" 50 yR2 m_H_become ws_H_become) := y_gV g_255 g_256 g_257 g_2 g_258
theorem gc_X_freshIfLeftOut_135 : GoodIn yGW (wsV "WhoseGlass" 135 yR2 m_H_passMinutes ws_H_passMinutes) := y_gV g_438 g_279 g_280 g_2 g_281
set_option maxRecDepth 100000 in
def f_X_freshIfLeftOut (F : Nat) (u : Mm) (o : Nat) (a1 : Int32) (a2 : Int32) : Option (Int32 × Mm) := ob (jgr YX 4 1 (some o)) fun (r1 : Option Nat) => ob (jgr YX 4 0 (some o)) fun (r2 : Option Nat) => ob (jk YX 2 r1) fun t => yb (f_H_become F u t r2) fun v3 u4 => ob (jgr YX 4 1 (some o)) fun (r5 : Option Nat) => ob (jpi YX 2 8 u4 r5 a1) fun (u6 : Mm) => ob (jgr YX 4 1 (some o)) fun (r7 : Option Nat) => ob (jk YX 2 r7) fun t => yb (f_H_passMinutes F u6 t a2) fun v8 u9 => ob (jgr YX 4 1 (some o)) fun (r10 : Option Nat) => ob (jgi YX 2 7 u9 r10) fun (x11 : Int32) => some (x11, u9)
set_option maxHeartbeats 4000000 in
set_option maxRecDepth 100000 in
theorem c_X_freshIfLeftOut (l : Launch) (w : WP) (F : Nat) (u : Mm) (o : Nat) (a1 : Int32) (a2 : Int32) (out : Int32 × Mm) (h : f_X_freshIfLeftOut F u o a1 a2 = some out) : yMet l m_X_freshIfLeftOut ws_X_freshIfLeftOut ({ frames := 5, cells := 0, slots := 0, locals := 125 } : Room) YX w u [va_re w.1 (some o), .int a1, .int a2] yfi out := by
  refine y_entry (own := "WhoseGlass") (lv := [(0, va_re w.1 (some o)), (1, .int a1), (2, .int a2)]) (by decide +kernel) rfl (by simp [lv_args, y_cat, y_catI, y_catJ]) (by simp [lg_sl, y_cat, y_catI, y_catJ]) ?_
  intro p e s m args below meth c C hr hlocks
  unfold f_X_freshIfLeftOut at h
  refine y_aload_n C (i := 0) 0 d_X_freshIfLeftOut_0 rfl rfl ?_
  refine y_gr C (q := (yR4, yT4, 5)) (ci := 4) (k := 1) rfl (by decide) rfl (by decide) g_203 d_X_freshIfLeftOut_1 h (fun r1 h => ?_)
  refine y_aload_n C (i := 0) 0 d_X_freshIfLeftOut_4 rfl rfl ?_
  refine y_gr C (q := (yR4, yT4, 5)) (ci := 4) (k := 0) rfl (by decide) rfl (by decide) g_202 d_X_freshIfLeftOut_5 h (fun r2 h => ?_)
  refine y_callV 1 C (q := (yR2, yT2, 9)) (ci := 2) (fun t out hh => c_H_become l w F u t r2 out hh) gc_X_freshIfLeftOut_50 rfl (by decide) hd_H_become ⟨Nat.le_of_ble_eq_true rfl, Nat.le_of_ble_eq_true rfl⟩ rfl rfl rfl rfl (by simp [y_cat, y_catI, y_catJ]) d_X_freshIfLeftOut_8 h (fun v3 u4 h => ?_)
  refine y_stk (stp0 := []) rfl ?_
  refine y_aload_n C (i := 0) 0 d_X_freshIfLeftOut_11 rfl rfl ?_
  refine y_gr C (q := (yR4, yT4, 5)) (ci := 4) (k := 1) rfl (by decide) rfl (by decide) g_203 d_X_freshIfLeftOut_12 h (fun r5 h => ?_)
  refine y_iload_n C (i := 1) 1 d_X_freshIfLeftOut_15 rfl rfl ?_
  refine y_pi C (q := (yR2, yT2, 9)) (ci := 2) (k := 8) rfl (by decide) rfl rfl (by decide +kernel) g_148 d_X_freshIfLeftOut_16 h (fun u6 h => ?_)
  refine y_aload_n C (i := 0) 0 d_X_freshIfLeftOut_19 rfl rfl ?_
  refine y_gr C (q := (yR4, yT4, 5)) (ci := 4) (k := 1) rfl (by decide) rfl (by decide) g_203 d_X_freshIfLeftOut_20 h (fun r7 h => ?_)
  refine y_iload_n C (i := 2) 2 d_X_freshIfLeftOut_23 rfl rfl ?_
  refine y_callV 1 C (q := (yR2, yT2, 9)) (ci := 2) (fun t out hh => c_H_passMinutes l w F u6 t a2 out hh) gc_X_freshIfLeftOut_135 rfl (by decide) hd_H_passMinutes ⟨Nat.le_of_ble_eq_true rfl, Nat.le_of_ble_eq_true rfl⟩ rfl rfl rfl rfl (by simp [y_cat, y_catI, y_catJ]) d_X_freshIfLeftOut_24 h (fun v8 u9 h => ?_)
  refine y_stk (stp0 := []) rfl ?_
  refine y_aload_n C (i := 0) 0 d_X_freshIfLeftOut_27 rfl rfl ?_
  refine y_gr C (q := (yR4, yT4, 5)) (ci := 4) (k := 1) rfl (by decide) rfl (by decide) g_203 d_X_freshIfLeftOut_28 h (fun r10 h => ?_)
  refine y_gi C (q := (yR2, yT2, 9)) (ci := 2) (k := 7) rfl (by decide) rfl g_146 d_X_freshIfLeftOut_31 h (fun x11 h => ?_)
  exact y_iret C hr hlocks d_X_freshIfLeftOut_34 h
/-! X_close -/
theorem d_X_close_0 : decode prog_1_method_26_code 0 = .ok (.iload_n 1, 1) := by decide +kernel
theorem d_X_close_1 : decode prog_1_method_26_code 1 = .ok (.invokestatic 162, 3) := by decide +kernel
theorem d_X_close_4 : decode prog_1_method_26_code 4 = .ok (.ifCond .ne 5, 3) := by decide +kernel
theorem d_X_close_7 : decode prog_1_method_26_code 7 = .ok (.iconst (-1), 1) := by decide +kernel
theorem d_X_close_8 : decode prog_1_method_26_code 8 = .ok (.ireturn, 1) := by decide +kernel
theorem d_X_close_9 : decode prog_1_method_26_code 9 = .ok (.aload_n 0, 1) := by decide +kernel
theorem d_X_close_10 : decode prog_1_method_26_code 10 = .ok (.iload_n 1, 1) := by decide +kernel
theorem d_X_close_11 : decode prog_1_method_26_code 11 = .ok (.invokevirtual 166, 3) := by decide +kernel
theorem d_X_close_14 : decode prog_1_method_26_code 14 = .ok (.getfield 173, 3) := by decide +kernel
theorem d_X_close_17 : decode prog_1_method_26_code 17 = .ok (.istore_n 2, 1) := by decide +kernel
theorem d_X_close_18 : decode prog_1_method_26_code 18 = .ok (.bipush (-4), 2) := by decide +kernel
theorem d_X_close_20 : decode prog_1_method_26_code 20 = .ok (.istore_n 3, 1) := by decide +kernel
theorem d_X_close_21 : decode prog_1_method_26_code 21 = .ok (.iconst 0, 1) := by decide +kernel
theorem d_X_close_22 : decode prog_1_method_26_code 22 = .ok (.istore 4, 2) := by decide +kernel
theorem d_X_close_24 : decode prog_1_method_26_code 24 = .ok (.iload 4, 2) := by decide +kernel
theorem d_X_close_26 : decode prog_1_method_26_code 26 = .ok (.bipush 6, 2) := by decide +kernel
theorem d_X_close_28 : decode prog_1_method_26_code 28 = .ok (.if_icmp .ge 30, 3) := by decide +kernel
theorem d_X_close_31 : decode prog_1_method_26_code 31 = .ok (.aload_n 0, 1) := by decide +kernel
theorem d_X_close_32 : decode prog_1_method_26_code 32 = .ok (.iload 4, 2) := by decide +kernel
theorem d_X_close_34 : decode prog_1_method_26_code 34 = .ok (.iload_n 1, 1) := by decide +kernel
theorem d_X_close_35 : decode prog_1_method_26_code 35 = .ok (.invokevirtual 194, 3) := by decide +kernel
theorem d_X_close_38 : decode prog_1_method_26_code 38 = .ok (.istore 5, 2) := by decide +kernel
theorem d_X_close_40 : decode prog_1_method_26_code 40 = .ok (.iload 5, 2) := by decide +kernel
theorem d_X_close_42 : decode prog_1_method_26_code 42 = .ok (.iload_n 2, 1) := by decide +kernel
theorem d_X_close_43 : decode prog_1_method_26_code 43 = .ok (.if_icmp .ge 9, 3) := by decide +kernel
theorem d_X_close_46 : decode prog_1_method_26_code 46 = .ok (.iload 5, 2) := by decide +kernel
theorem d_X_close_48 : decode prog_1_method_26_code 48 = .ok (.istore_n 2, 1) := by decide +kernel
theorem d_X_close_49 : decode prog_1_method_26_code 49 = .ok (.iload 4, 2) := by decide +kernel
theorem d_X_close_51 : decode prog_1_method_26_code 51 = .ok (.istore_n 3, 1) := by decide +kernel
theorem d_X_close_52 : decode prog_1_method_26_code 52 = .ok (.iinc 4 1, 3) := by decide +kernel
theorem d_X_close_55 : decode prog_1_method_26_code 55 = .ok (.goto (-31), 3) := by decide +kernel
theorem d_X_close_58 : decode prog_1_method_26_code 58 = .ok (.iload_n 3, 1) := by decide +kernel
theorem d_X_close_59 : decode prog_1_method_26_code 59 = .ok (.ireturn, 1) := by decide +kernel
theorem gc_X_close_166 : GoodIn yGW (wsV "WhoseGlass" 166 yR4 m_X_ahead ws_X_ahead) := y_gV g_490 g_492 gs_4 g_1 g_493
theorem gc_X_close_194 : GoodIn yGW (wsV "WhoseGlass" 194 yR4 m_X_freshIfLeftOut ws_X_freshIfLeftOut) := y_gV g_550 g_552 gs_8 g_1 g_553
set_option maxHeartbeats 4000000 in
set_option maxRecDepth 100000 in
def f_X_close_L24 (F : Nat) (a0 : Option Nat) (a1 : Int32) (k : Mm → Int32 → Option (Int32 × Mm)) : Nat → Mm → Int32 → Int32 → Int32 → Option (Int32 × Mm)
  | 0, _, _, _, _ => none
  | n + 1, u, a2, a3, a4 => (if (6 : Int32) ≤ a4 then k u a3 else ob (jk YX 4 a0) fun t => yb (f_X_freshIfLeftOut F u t a4 a1) fun x8 u9 => ob ((if a2 ≤ x8 then some (a2, a3) else some (x8, a4)) : Option (Int32 × Int32)) fun q10 => ob (some (a4 + (1 : Int32))) fun (x12 : Int32) => f_X_close_L24 F a0 a1 k n u9 q10.1 q10.2 x12)
set_option maxHeartbeats 4000000 in
set_option maxRecDepth 100000 in
theorem w_X_close_L24 {p : Program} {l : Launch} {e : Env} {s : State} {m : MethodId} {args : Array Value} {below : List Frame} {meth : Method} {c : Code} {w : WP} {Q : State → Prop} (F : Nat) (C : yX p e ({ frames := 6, cells := 0, slots := 0, locals := 147 } : Room) s m args c YX w 6 prog_1_method_26_code "WhoseGlass") (hr : meth.sig.returnType = (some .int)) (hlocks : meth.locks = false) (a0 : Option Nat) (a1 : Int32) {out : Int32 × Mm} (k : Mm → Int32 → Option (Int32 × Mm)) (hk : ∀ (u : Mm) (a3 : Int32), k u a3 = some out → yG p l e ({ frames := 6, cells := 0, slots := 0, locals := 147 } : Room) s m args below meth c YX w 6 Q u 58 [(3, .int a3)] []) : ∀ (n : Nat) (u : Mm) (a2 : Int32) (a3 : Int32) (a4 : Int32), f_X_close_L24 F a0 a1 k n u a2 a3 a4 = some out → yG p l e ({ frames := 6, cells := 0, slots := 0, locals := 147 } : Room) s m args below meth c YX w 6 Q u 24 [(0, va_re w.1 a0), (1, .int a1), (2, .int a2), (3, .int a3), (4, .int a4)] [] := by
  intro n
  induction n with
  | zero => intro u a2 a3 a4 h; rw [f_X_close_L24] at h; cases h
  | succ n ih =>
    intro u a2 a3 a4 h
    rw [f_X_close_L24] at h
    refine y_iload C (i := 4) 4 d_X_close_24 rfl ?_
    refine y_bipush C (v := 6) d_X_close_26 (by decide) ?_
    refine y_ic_ge C 58 d_X_close_28 (by decide) h (fun k7 h => ?_) (fun k7 h => ?_)
    · exact y_sub [3] rfl (hk _ _ h)
    · refine y_aload_n C (i := 0) 0 d_X_close_31 rfl rfl ?_
      refine y_iload C (i := 4) 4 d_X_close_32 rfl ?_
      refine y_iload_n C (i := 1) 1 d_X_close_34 rfl rfl ?_
      refine y_callV 2 C (q := (yR4, yT4, 5)) (ci := 4) (fun t out hh => c_X_freshIfLeftOut l w F u t a4 a1 out hh) gc_X_close_194 rfl (by decide) hd_X_freshIfLeftOut ⟨Nat.le_of_ble_eq_true rfl, Nat.le_of_ble_eq_true rfl⟩ rfl rfl rfl rfl (by simp [y_cat, y_catI, y_catJ]) d_X_close_35 h (fun x8 u9 h => ?_)
      refine y_stk (stp0 := [.int x8]) rfl ?_
      refine y_istore C (i := 5) (lvp := [(0, va_re w.1 a0), (1, .int a1), (2, .int a2), (3, .int a3), (4, .int a4)]) d_X_close_38 (by decide) rfl ?_
      refine y_iload C (i := 5) 0 d_X_close_40 rfl ?_
      refine y_iload_n C (i := 2) 3 d_X_close_42 rfl rfl ?_
      obtain ⟨q10, hq10, h⟩ := ob_e h
      have hJq10 : yG p l e ({ frames := 6, cells := 0, slots := 0, locals := 147 } : Room) s m args below meth c YX w 6 Q u9 52 [(0, va_re w.1 a0), (1, .int a1), (2, .int q10.1), (3, .int q10.2), (4, .int a4)] [] := by
        refine y_iinc C (j := 4) (v := 1) (lvp := [(0, va_re w.1 a0), (1, .int a1), (2, .int q10.1), (3, .int q10.2)]) d_X_close_52 rfl (by decide) (by decide) rfl h (fun x12 h => ?_)
        refine y_goto C (tgt := 24) d_X_close_55 (by decide) ?_
        exact y_sub [1, 2, 3, 4, 0] rfl (ih _ _ _ _ h)
      refine y_ic_ge C 52 d_X_close_43 (by decide) hq10 (fun k11 hq10 => ?_) (fun k11 hq10 => ?_)
      · cases hq10
        exact y_sub [1, 2, 3, 4, 5] rfl hJq10
      · refine y_iload C (i := 5) 0 d_X_close_46 rfl ?_
        refine y_istore_n C (i := 2) (lvp := [(5, .int x8), (0, va_re w.1 a0), (1, .int a1), (3, .int a3), (4, .int a4)]) d_X_close_48 rfl (by decide) rfl ?_
        refine y_iload C (i := 4) 5 d_X_close_49 rfl ?_
        refine y_istore_n C (i := 3) (lvp := [(2, .int x8), (5, .int x8), (0, va_re w.1 a0), (1, .int a1), (4, .int a4)]) d_X_close_51 rfl (by decide) rfl ?_
        cases hq10
        exact y_sub [3, 4, 1, 0, 5] rfl hJq10
set_option maxRecDepth 100000 in
def f_X_close (F : Nat) (u : Mm) (o : Nat) (a1 : Int32) : Option (Int32 × Mm) := yb (f_X_isSpan F u a1) fun x1 u2 => (if x1 = 0 then some ((-1 : Int32), u2) else ob (jk YX 4 (some o)) fun t => yb (f_X_ahead F u2 t a1) fun r4 u5 => ob (jgi YX 2 7 u5 r4) fun (x6 : Int32) => f_X_close_L24 F (some o) a1 (fun (u13 : Mm) (x14 : Int32) => some (x14, u13)) F u5 x6 (-4 : Int32) (0 : Int32))
set_option maxHeartbeats 4000000 in
set_option maxRecDepth 100000 in
theorem c_X_close (l : Launch) (w : WP) (F : Nat) (u : Mm) (o : Nat) (a1 : Int32) (out : Int32 × Mm) (h : f_X_close F u o a1 = some out) : yMet l m_X_close ws_X_close ({ frames := 6, cells := 0, slots := 0, locals := 147 } : Room) YX w u [va_re w.1 (some o), .int a1] yfi out := by
  refine y_entry (own := "WhoseGlass") (lv := [(0, va_re w.1 (some o)), (1, .int a1)]) (by decide +kernel) rfl (by simp [lv_args, y_cat, y_catI, y_catJ]) (by simp [lg_sl, y_cat, y_catI, y_catJ]) ?_
  intro p e s m args below meth c C hr hlocks
  unfold f_X_close at h
  refine y_iload_n C (i := 1) 1 d_X_close_0 rfl rfl ?_
  refine y_callS 1 C (fun out hh => c_X_isSpan l w F u a1 out hh) (y_gc g_489) g_487 g_1 g_488 hn_X_isSpan ⟨Nat.le_of_ble_eq_true rfl, Nat.le_of_ble_eq_true rfl⟩ rfl rfl rfl rfl (by simp [y_cat, y_catI, y_catJ]) d_X_close_1 h (fun x1 u2 h => ?_)
  refine y_stk (stp0 := [.int x1]) rfl ?_
  refine y_if_ne C 9 d_X_close_4 (by decide) h (fun k3 h => ?_) (fun k3 h => ?_)
  · refine y_iconst C (v := -1) d_X_close_7 (by decide) ?_
    exact y_iret C hr hlocks d_X_close_8 h
  · refine y_aload_n C (i := 0) 0 d_X_close_9 rfl rfl ?_
    refine y_iload_n C (i := 1) 1 d_X_close_10 rfl rfl ?_
    refine y_callV 1 C (q := (yR4, yT4, 5)) (ci := 4) (fun t out hh => c_X_ahead l w F u2 t a1 out hh) gc_X_close_166 rfl (by decide) hd_X_ahead ⟨Nat.le_of_ble_eq_true rfl, Nat.le_of_ble_eq_true rfl⟩ rfl rfl rfl rfl (by simp [y_cat, y_catI, y_catJ]) d_X_close_11 h (fun r4 u5 h => ?_)
    refine y_stk (stp0 := [va_re w.1 r4]) rfl ?_
    refine y_gi C (q := (yR2, yT2, 9)) (ci := 2) (k := 7) rfl (by decide) rfl g_146 d_X_close_14 h (fun x6 h => ?_)
    refine y_istore_n C (i := 2) (lvp := [(0, va_re w.1 (some o)), (1, .int a1)]) d_X_close_17 rfl (by decide) rfl ?_
    refine y_bipush C (v := -4) d_X_close_18 (by decide) ?_
    refine y_istore_n C (i := 3) (lvp := [(2, .int x6), (0, va_re w.1 (some o)), (1, .int a1)]) d_X_close_20 rfl (by decide) rfl ?_
    refine y_iconst C (v := 0) d_X_close_21 (by decide) ?_
    refine y_istore C (i := 4) (lvp := [(3, .int (-4 : Int32)), (2, .int x6), (0, va_re w.1 (some o)), (1, .int a1)]) d_X_close_22 (by decide) rfl ?_
    refine y_sub [3, 4, 2, 1, 0] rfl (w_X_close_L24 F C hr hlocks _ _ _ (fun u13 x14 h => ?_) _ _ _ _ _ h)
    refine y_iload_n C (i := 3) 0 d_X_close_58 rfl rfl ?_
    exact y_iret C hr hlocks d_X_close_59 h
/-! H_soberest -/
theorem d_H_soberest_0 : decode prog_4_method_20_code 0 = .ok (.aconst_null, 1) := by decide +kernel
theorem d_H_soberest_1 : decode prog_4_method_20_code 1 = .ok (.astore_n 1, 1) := by decide +kernel
theorem d_H_soberest_2 : decode prog_4_method_20_code 2 = .ok (.iconst 0, 1) := by decide +kernel
theorem d_H_soberest_3 : decode prog_4_method_20_code 3 = .ok (.istore_n 2, 1) := by decide +kernel
theorem d_H_soberest_4 : decode prog_4_method_20_code 4 = .ok (.iload_n 2, 1) := by decide +kernel
theorem d_H_soberest_5 : decode prog_4_method_20_code 5 = .ok (.aload_n 0, 1) := by decide +kernel
theorem d_H_soberest_6 : decode prog_4_method_20_code 6 = .ok (.getfield 37, 3) := by decide +kernel
theorem d_H_soberest_9 : decode prog_4_method_20_code 9 = .ok (.if_icmp .ge 36, 3) := by decide +kernel
theorem d_H_soberest_12 : decode prog_4_method_20_code 12 = .ok (.aload_n 0, 1) := by decide +kernel
theorem d_H_soberest_13 : decode prog_4_method_20_code 13 = .ok (.iload_n 2, 1) := by decide +kernel
theorem d_H_soberest_14 : decode prog_4_method_20_code 14 = .ok (.invokevirtual 57, 3) := by decide +kernel
theorem d_H_soberest_17 : decode prog_4_method_20_code 17 = .ok (.astore_n 3, 1) := by decide +kernel
theorem d_H_soberest_18 : decode prog_4_method_20_code 18 = .ok (.aload_n 3, 1) := by decide +kernel
theorem d_H_soberest_19 : decode prog_4_method_20_code 19 = .ok (.ifnull 20, 3) := by decide +kernel
theorem d_H_soberest_22 : decode prog_4_method_20_code 22 = .ok (.aload_n 1, 1) := by decide +kernel
theorem d_H_soberest_23 : decode prog_4_method_20_code 23 = .ok (.ifnull 14, 3) := by decide +kernel
theorem d_H_soberest_26 : decode prog_4_method_20_code 26 = .ok (.aload_n 3, 1) := by decide +kernel
theorem d_H_soberest_27 : decode prog_4_method_20_code 27 = .ok (.getfield 155, 3) := by decide +kernel
theorem d_H_soberest_30 : decode prog_4_method_20_code 30 = .ok (.aload_n 1, 1) := by decide +kernel
theorem d_H_soberest_31 : decode prog_4_method_20_code 31 = .ok (.getfield 155, 3) := by decide +kernel
theorem d_H_soberest_34 : decode prog_4_method_20_code 34 = .ok (.if_icmp .ge 5, 3) := by decide +kernel
theorem d_H_soberest_37 : decode prog_4_method_20_code 37 = .ok (.aload_n 3, 1) := by decide +kernel
theorem d_H_soberest_38 : decode prog_4_method_20_code 38 = .ok (.astore_n 1, 1) := by decide +kernel
theorem d_H_soberest_39 : decode prog_4_method_20_code 39 = .ok (.iinc 2 1, 3) := by decide +kernel
theorem d_H_soberest_42 : decode prog_4_method_20_code 42 = .ok (.goto (-38), 3) := by decide +kernel
theorem d_H_soberest_45 : decode prog_4_method_20_code 45 = .ok (.aload_n 1, 1) := by decide +kernel
theorem d_H_soberest_46 : decode prog_4_method_20_code 46 = .ok (.ifnonnull 8, 3) := by decide +kernel
theorem d_H_soberest_49 : decode prog_4_method_20_code 49 = .ok (.bipush (-4), 2) := by decide +kernel
theorem d_H_soberest_51 : decode prog_4_method_20_code 51 = .ok (.goto 7, 3) := by decide +kernel
theorem d_H_soberest_54 : decode prog_4_method_20_code 54 = .ok (.aload_n 1, 1) := by decide +kernel
theorem d_H_soberest_55 : decode prog_4_method_20_code 55 = .ok (.getfield 158, 3) := by decide +kernel
theorem d_H_soberest_58 : decode prog_4_method_20_code 58 = .ok (.ireturn, 1) := by decide +kernel
theorem gc_H_soberest_57 : GoodIn yGW (wsV "WhoseGlass$House" 57 yR2 m_H_guestAt ws_H_guestAt) := y_gV g_267 g_268 g_269 g_2 g_270
set_option maxHeartbeats 4000000 in
set_option maxRecDepth 100000 in
def f_H_soberest_L4 (F : Nat) (a0 : Option Nat) (k : Mm → Option Nat → Option (Int32 × Mm)) : Nat → Mm → Option Nat → Int32 → Option (Int32 × Mm)
  | 0, _, _, _ => none
  | n + 1, u, a1, a2 => ob (jgi YX 2 3 u a0) fun (x1 : Int32) => (if x1 ≤ a2 then k u a1 else ob (jk YX 2 a0) fun t => yb (f_H_guestAt F u t a2) fun r3 u4 => ob ((if r3 = none then some a1 else (if a1 = none then some r3 else ob (jgi YX 1 8 u4 r3) fun (x8 : Int32) => ob (jgi YX 1 8 u4 a1) fun (x9 : Int32) => (if x9 ≤ x8 then some a1 else some r3))) : Option ((Option Nat))) fun q5 => ob (some (a2 + (1 : Int32))) fun (x11 : Int32) => f_H_soberest_L4 F a0 k n u4 q5 x11)
set_option maxHeartbeats 4000000 in
set_option maxRecDepth 100000 in
theorem w_H_soberest_L4 {p : Program} {l : Launch} {e : Env} {s : State} {m : MethodId} {args : Array Value} {below : List Frame} {meth : Method} {c : Code} {w : WP} {Q : State → Prop} (F : Nat) (C : yX p e ({ frames := 1, cells := 0, slots := 0, locals := 21 } : Room) s m args c YX w 4 prog_4_method_20_code "WhoseGlass$House") (hr : meth.sig.returnType = (some .int)) (hlocks : meth.locks = false) (a0 : Option Nat) {out : Int32 × Mm} (k : Mm → Option Nat → Option (Int32 × Mm)) (hk : ∀ (u : Mm) (a1 : Option Nat), k u a1 = some out → yG p l e ({ frames := 1, cells := 0, slots := 0, locals := 21 } : Room) s m args below meth c YX w 4 Q u 45 [(1, va_re w.1 a1)] []) : ∀ (n : Nat) (u : Mm) (a1 : Option Nat) (a2 : Int32), f_H_soberest_L4 F a0 k n u a1 a2 = some out → yG p l e ({ frames := 1, cells := 0, slots := 0, locals := 21 } : Room) s m args below meth c YX w 4 Q u 4 [(0, va_re w.1 a0), (1, va_re w.1 a1), (2, .int a2)] [] := by
  intro n
  induction n with
  | zero => intro u a1 a2 h; rw [f_H_soberest_L4] at h; cases h
  | succ n ih =>
    intro u a1 a2 h
    rw [f_H_soberest_L4] at h
    refine y_iload_n C (i := 2) 2 d_H_soberest_4 rfl rfl ?_
    refine y_aload_n C (i := 0) 0 d_H_soberest_5 rfl rfl ?_
    refine y_gi C (q := (yR2, yT2, 9)) (ci := 2) (k := 3) rfl (by decide) rfl g_135 d_H_soberest_6 h (fun x1 h => ?_)
    refine y_ic_ge C 45 d_H_soberest_9 (by decide) h (fun k2 h => ?_) (fun k2 h => ?_)
    · exact y_sub [1] rfl (hk _ _ h)
    · refine y_aload_n C (i := 0) 0 d_H_soberest_12 rfl rfl ?_
      refine y_iload_n C (i := 2) 2 d_H_soberest_13 rfl rfl ?_
      refine y_callV 1 C (q := (yR2, yT2, 9)) (ci := 2) (fun t out hh => c_H_guestAt l w F u t a2 out hh) gc_H_soberest_57 rfl (by decide) hd_H_guestAt ⟨Nat.le_of_ble_eq_true rfl, Nat.le_of_ble_eq_true rfl⟩ rfl rfl rfl rfl (by simp [y_cat, y_catI, y_catJ]) d_H_soberest_14 h (fun r3 u4 h => ?_)
      refine y_stk (stp0 := [va_re w.1 r3]) rfl ?_
      refine y_astore_n C (i := 3) (lvp := [(0, va_re w.1 a0), (1, va_re w.1 a1), (2, .int a2)]) d_H_soberest_17 rfl (by decide) (by simp [List.filter, y_cat, y_catI, y_catJ]) ?_
      refine y_aload_n C (i := 3) 0 d_H_soberest_18 rfl rfl ?_
      obtain ⟨q5, hq5, h⟩ := ob_e h
      have hJq5 : yG p l e ({ frames := 1, cells := 0, slots := 0, locals := 21 } : Room) s m args below meth c YX w 4 Q u4 39 [(0, va_re w.1 a0), (1, va_re w.1 q5), (2, .int a2)] [] := by
        refine y_iinc C (j := 2) (v := 1) (lvp := [(0, va_re w.1 a0), (1, va_re w.1 q5)]) d_H_soberest_39 rfl (by decide) (by decide) (by simp [List.filter, y_cat, y_catI, y_catJ]) h (fun x11 h => ?_)
        refine y_goto C (tgt := 4) d_H_soberest_42 (by decide) ?_
        exact y_sub [1, 2, 0] rfl (ih _ _ _ h)
      refine y_ifnull C 39 d_H_soberest_19 (by decide) hq5 (fun k6 hq5 => ?_) (fun k6 hq5 => ?_)
      · cases hq5
        exact y_sub [1, 2, 3] rfl hJq5
      · refine y_aload_n C (i := 1) 2 d_H_soberest_22 rfl rfl ?_
        refine y_ifnull C 37 d_H_soberest_23 (by decide) hq5 (fun k7 hq5 => ?_) (fun k7 hq5 => ?_)
        · refine y_aload_n C (i := 3) 0 d_H_soberest_37 rfl rfl ?_
          refine y_astore_n C (i := 1) (lvp := [(3, va_re w.1 r3), (0, va_re w.1 a0), (2, .int a2)]) d_H_soberest_38 rfl (by decide) (by simp [List.filter, y_cat, y_catI, y_catJ]) ?_
          cases hq5
          exact y_sub [2, 0, 3] rfl hJq5
        · refine y_aload_n C (i := 3) 0 d_H_soberest_26 rfl rfl ?_
          refine y_gi C (q := (yR1, yT1, 10)) (ci := 1) (k := 8) rfl (by decide) rfl g_105 d_H_soberest_27 hq5 (fun x8 hq5 => ?_)
          refine y_aload_n C (i := 1) 2 d_H_soberest_30 rfl rfl ?_
          refine y_gi C (q := (yR1, yT1, 10)) (ci := 1) (k := 8) rfl (by decide) rfl g_105 d_H_soberest_31 hq5 (fun x9 hq5 => ?_)
          refine y_ic_ge C 39 d_H_soberest_34 (by decide) hq5 (fun k10 hq5 => ?_) (fun k10 hq5 => ?_)
          · cases hq5
            exact y_sub [1, 2, 3] rfl hJq5
          · refine y_aload_n C (i := 3) 0 d_H_soberest_37 rfl rfl ?_
            refine y_astore_n C (i := 1) (lvp := [(3, va_re w.1 r3), (0, va_re w.1 a0), (2, .int a2)]) d_H_soberest_38 rfl (by decide) (by simp [List.filter, y_cat, y_catI, y_catJ]) ?_
            cases hq5
            exact y_sub [2, 0, 3] rfl hJq5
set_option maxRecDepth 100000 in
def f_H_soberest (F : Nat) (u : Mm) (o : Nat) : Option (Int32 × Mm) := f_H_soberest_L4 F (some o) (fun (u12 : Mm) (r13 : Option Nat) => (if r13 = none then some ((-4 : Int32), u12) else ob (jgi YX 1 0 u12 r13) fun (x15 : Int32) => some (x15, u12))) F u none (0 : Int32)
set_option maxHeartbeats 4000000 in
set_option maxRecDepth 100000 in
theorem c_H_soberest (l : Launch) (w : WP) (F : Nat) (u : Mm) (o : Nat) (out : Int32 × Mm) (h : f_H_soberest F u o = some out) : yMet l m_H_soberest ws_H_soberest ({ frames := 1, cells := 0, slots := 0, locals := 21 } : Room) YX w u [va_re w.1 (some o)] yfi out := by
  refine y_entry (own := "WhoseGlass$House") (lv := [(0, va_re w.1 (some o))]) (by decide +kernel) rfl (by simp [lv_args, y_cat, y_catI, y_catJ]) (by simp [lg_sl, y_cat, y_catI, y_catJ]) ?_
  intro p e s m args below meth c C hr hlocks
  unfold f_H_soberest at h
  refine y_null C d_H_soberest_0 ?_
  refine y_astore_n C (i := 1) (lvp := [(0, va_re w.1 (some o))]) d_H_soberest_1 rfl (by decide) (by simp [List.filter, y_cat, y_catI, y_catJ]) ?_
  refine y_iconst C (v := 0) d_H_soberest_2 (by decide) ?_
  refine y_istore_n C (i := 2) (lvp := [(1, va_re w.1 none), (0, va_re w.1 (some o))]) d_H_soberest_3 rfl (by decide) (by simp [List.filter, y_cat, y_catI, y_catJ]) ?_
  refine y_sub [2, 1, 0] rfl (w_H_soberest_L4 F C hr hlocks _ _ (fun u12 r13 h => ?_) _ _ _ _ h)
  refine y_aload_n C (i := 1) 0 d_H_soberest_45 rfl rfl ?_
  refine y_ifnonnull C 54 d_H_soberest_46 (by decide) h (fun k14 h => ?_) (fun k14 h => ?_)
  · refine y_bipush C (v := -4) d_H_soberest_49 (by decide) ?_
    refine y_goto C (tgt := 58) d_H_soberest_51 (by decide) ?_
    exact y_iret C hr hlocks d_H_soberest_58 h
  · refine y_aload_n C (i := 1) 0 d_H_soberest_54 rfl rfl ?_
    refine y_gi C (q := (yR1, yT1, 10)) (ci := 1) (k := 0) rfl (by decide) rfl g_85 d_H_soberest_55 h (fun x15 h => ?_)
    exact y_iret C hr hlocks d_H_soberest_58 h
/-! X_driver -/
theorem d_X_driver_0 : decode prog_1_method_27_code 0 = .ok (.iload_n 1, 1) := by decide +kernel
theorem d_X_driver_1 : decode prog_1_method_27_code 1 = .ok (.invokestatic 162, 3) := by decide +kernel
theorem d_X_driver_4 : decode prog_1_method_27_code 4 = .ok (.ifCond .eq 14, 3) := by decide +kernel
theorem d_X_driver_7 : decode prog_1_method_27_code 7 = .ok (.aload_n 0, 1) := by decide +kernel
theorem d_X_driver_8 : decode prog_1_method_27_code 8 = .ok (.iload_n 1, 1) := by decide +kernel
theorem d_X_driver_9 : decode prog_1_method_27_code 9 = .ok (.invokevirtual 166, 3) := by decide +kernel
theorem d_X_driver_12 : decode prog_1_method_27_code 12 = .ok (.invokevirtual 197, 3) := by decide +kernel
theorem d_X_driver_15 : decode prog_1_method_27_code 15 = .ok (.goto 4, 3) := by decide +kernel
theorem d_X_driver_18 : decode prog_1_method_27_code 18 = .ok (.iconst (-1), 1) := by decide +kernel
theorem d_X_driver_19 : decode prog_1_method_27_code 19 = .ok (.ireturn, 1) := by decide +kernel
theorem gc_X_driver_166 : GoodIn yGW (wsV "WhoseGlass" 166 yR4 m_X_ahead ws_X_ahead) := y_gV g_490 g_492 gs_4 g_1 g_493
theorem gc_X_driver_197 : GoodIn yGW (wsV "WhoseGlass" 197 yR2 m_H_soberest ws_H_soberest) := y_gV g_558 g_559 g_560 g_2 g_561
set_option maxRecDepth 100000 in
def f_X_driver (F : Nat) (u : Mm) (o : Nat) (a1 : Int32) : Option (Int32 × Mm) := yb (f_X_isSpan F u a1) fun x1 u2 => (if x1 = 0 then some ((-1 : Int32), u2) else ob (jk YX 4 (some o)) fun t => yb (f_X_ahead F u2 t a1) fun r4 u5 => ob (jk YX 2 r4) fun t => yb (f_H_soberest F u5 t ) fun x6 u7 => some (x6, u7))
set_option maxHeartbeats 4000000 in
set_option maxRecDepth 100000 in
theorem c_X_driver (l : Launch) (w : WP) (F : Nat) (u : Mm) (o : Nat) (a1 : Int32) (out : Int32 × Mm) (h : f_X_driver F u o a1 = some out) : yMet l m_X_driver ws_X_driver ({ frames := 6, cells := 0, slots := 0, locals := 146 } : Room) YX w u [va_re w.1 (some o), .int a1] yfi out := by
  refine y_entry (own := "WhoseGlass") (lv := [(0, va_re w.1 (some o)), (1, .int a1)]) (by decide +kernel) rfl (by simp [lv_args, y_cat, y_catI, y_catJ]) (by simp [lg_sl, y_cat, y_catI, y_catJ]) ?_
  intro p e s m args below meth c C hr hlocks
  unfold f_X_driver at h
  refine y_iload_n C (i := 1) 1 d_X_driver_0 rfl rfl ?_
  refine y_callS 1 C (fun out hh => c_X_isSpan l w F u a1 out hh) (y_gc g_489) g_487 g_1 g_488 hn_X_isSpan ⟨Nat.le_of_ble_eq_true rfl, Nat.le_of_ble_eq_true rfl⟩ rfl rfl rfl rfl (by simp [y_cat, y_catI, y_catJ]) d_X_driver_1 h (fun x1 u2 h => ?_)
  refine y_stk (stp0 := [.int x1]) rfl ?_
  refine y_if_eq C 18 d_X_driver_4 (by decide) h (fun k3 h => ?_) (fun k3 h => ?_)
  · refine y_iconst C (v := -1) d_X_driver_18 (by decide) ?_
    exact y_iret C hr hlocks d_X_driver_19 h
  · refine y_aload_n C (i := 0) 0 d_X_driver_7 rfl rfl ?_
    refine y_iload_n C (i := 1) 1 d_X_driver_8 rfl rfl ?_
    refine y_callV 1 C (q := (yR4, yT4, 5)) (ci := 4) (fun t out hh => c_X_ahead l w F u2 t a1 out hh) gc_X_driver_166 rfl (by decide) hd_X_ahead ⟨Nat.le_of_ble_eq_true rfl, Nat.le_of_ble_eq_true rfl⟩ rfl rfl rfl rfl (by simp [y_cat, y_catI, y_catJ]) d_X_driver_9 h (fun r4 u5 h => ?_)
    refine y_stk (stp0 := [va_re w.1 r4]) rfl ?_
    refine y_callV 0 C (q := (yR2, yT2, 9)) (ci := 2) (fun t out hh => c_H_soberest l w F u5 t out hh) gc_X_driver_197 rfl (by decide) hd_H_soberest ⟨Nat.le_of_ble_eq_true rfl, Nat.le_of_ble_eq_true rfl⟩ rfl rfl rfl rfl (by simp [y_cat, y_catI, y_catJ]) d_X_driver_12 h (fun x6 u7 h => ?_)
    refine y_stk (stp0 := [.int x6]) rfl ?_
    refine y_goto C (tgt := 19) d_X_driver_15 (by decide) ?_
    exact y_iret C hr hlocks d_X_driver_19 h
/-! H_hasEmptyGlass -/
theorem d_H_hasEmptyGlass_0 : decode prog_4_method_21_code 0 = .ok (.iconst 0, 1) := by decide +kernel
theorem d_H_hasEmptyGlass_1 : decode prog_4_method_21_code 1 = .ok (.istore_n 1, 1) := by decide +kernel
theorem d_H_hasEmptyGlass_2 : decode prog_4_method_21_code 2 = .ok (.iload_n 1, 1) := by decide +kernel
theorem d_H_hasEmptyGlass_3 : decode prog_4_method_21_code 3 = .ok (.aload_n 0, 1) := by decide +kernel
theorem d_H_hasEmptyGlass_4 : decode prog_4_method_21_code 4 = .ok (.getfield 34, 3) := by decide +kernel
theorem d_H_hasEmptyGlass_7 : decode prog_4_method_21_code 7 = .ok (.if_icmp .ge 37, 3) := by decide +kernel
theorem d_H_hasEmptyGlass_10 : decode prog_4_method_21_code 10 = .ok (.aload_n 0, 1) := by decide +kernel
theorem d_H_hasEmptyGlass_11 : decode prog_4_method_21_code 11 = .ok (.iload_n 1, 1) := by decide +kernel
theorem d_H_hasEmptyGlass_12 : decode prog_4_method_21_code 12 = .ok (.invokevirtual 49, 3) := by decide +kernel
theorem d_H_hasEmptyGlass_15 : decode prog_4_method_21_code 15 = .ok (.astore_n 2, 1) := by decide +kernel
theorem d_H_hasEmptyGlass_16 : decode prog_4_method_21_code 16 = .ok (.aload_n 2, 1) := by decide +kernel
theorem d_H_hasEmptyGlass_17 : decode prog_4_method_21_code 17 = .ok (.ifnull 21, 3) := by decide +kernel
theorem d_H_hasEmptyGlass_20 : decode prog_4_method_21_code 20 = .ok (.aload_n 2, 1) := by decide +kernel
theorem d_H_hasEmptyGlass_21 : decode prog_4_method_21_code 21 = .ok (.getfield 132, 3) := by decide +kernel
theorem d_H_hasEmptyGlass_24 : decode prog_4_method_21_code 24 = .ok (.bipush 20, 2) := by decide +kernel
theorem d_H_hasEmptyGlass_26 : decode prog_4_method_21_code 26 = .ok (.if_icmp .eq 12, 3) := by decide +kernel
theorem d_H_hasEmptyGlass_29 : decode prog_4_method_21_code 29 = .ok (.aload_n 2, 1) := by decide +kernel
theorem d_H_hasEmptyGlass_30 : decode prog_4_method_21_code 30 = .ok (.getfield 98, 3) := by decide +kernel
theorem d_H_hasEmptyGlass_33 : decode prog_4_method_21_code 33 = .ok (.ifCond .ne 5, 3) := by decide +kernel
theorem d_H_hasEmptyGlass_36 : decode prog_4_method_21_code 36 = .ok (.iconst 1, 1) := by decide +kernel
theorem d_H_hasEmptyGlass_37 : decode prog_4_method_21_code 37 = .ok (.ireturn, 1) := by decide +kernel
theorem d_H_hasEmptyGlass_38 : decode prog_4_method_21_code 38 = .ok (.iinc 1 1, 3) := by decide +kernel
theorem d_H_hasEmptyGlass_41 : decode prog_4_method_21_code 41 = .ok (.goto (-39), 3) := by decide +kernel
theorem d_H_hasEmptyGlass_44 : decode prog_4_method_21_code 44 = .ok (.iconst 0, 1) := by decide +kernel
theorem d_H_hasEmptyGlass_45 : decode prog_4_method_21_code 45 = .ok (.ireturn, 1) := by decide +kernel
theorem gc_H_hasEmptyGlass_49 : GoodIn yGW (wsV "WhoseGlass$House" 49 yR2 m_H_glassAt ws_H_glassAt) := y_gV g_259 g_260 g_261 g_2 g_262
set_option maxHeartbeats 4000000 in
set_option maxRecDepth 100000 in
def f_H_hasEmptyGlass_L2 (F : Nat) (a0 : Option Nat) (k : Mm → Option (Int32 × Mm)) : Nat → Mm → Int32 → Option (Int32 × Mm)
  | 0, _, _ => none
  | n + 1, u, a1 => ob (jgi YX 2 2 u a0) fun (x1 : Int32) => (if x1 ≤ a1 then k u  else ob (jk YX 2 a0) fun t => yb (f_H_glassAt F u t a1) fun r3 u4 => (if r3 = none then ob (some (a1 + (1 : Int32))) fun (x6 : Int32) => f_H_hasEmptyGlass_L2 F a0 k n u4 x6 else ob (jgi YX 0 4 u4 r3) fun (x7 : Int32) => (if x7 = (20 : Int32) then ob (some (a1 + (1 : Int32))) fun (x9 : Int32) => f_H_hasEmptyGlass_L2 F a0 k n u4 x9 else ob (jgi YX 0 3 u4 r3) fun (x10 : Int32) => (if x10 = 0 then ob (jz (1 : Int32)) (fun v => some (v, u4)) else ob (some (a1 + (1 : Int32))) fun (x12 : Int32) => f_H_hasEmptyGlass_L2 F a0 k n u4 x12))))
set_option maxHeartbeats 4000000 in
set_option maxRecDepth 100000 in
theorem w_H_hasEmptyGlass_L2 {p : Program} {l : Launch} {e : Env} {s : State} {m : MethodId} {args : Array Value} {below : List Frame} {meth : Method} {c : Code} {w : WP} (F : Nat) (C : yX p e ({ frames := 1, cells := 0, slots := 0, locals := 21 } : Room) s m args c YX w 3 prog_4_method_21_code "WhoseGlass$House") (hr : meth.sig.returnType = (some .boolean)) (hlocks : meth.locks = false) (a0 : Option Nat) {out : Int32 × Mm} (k : Mm → Option (Int32 × Mm)) (hk : ∀ (u : Mm), k u  = some out → yG p l e ({ frames := 1, cells := 0, slots := 0, locals := 21 } : Room) s m args below meth c YX w 3 (MQ below (yQ YX w yfi out) args s 0 0 (yA YX w)) u 44 [] []) : ∀ (n : Nat) (u : Mm) (a1 : Int32), f_H_hasEmptyGlass_L2 F a0 k n u a1 = some out → yG p l e ({ frames := 1, cells := 0, slots := 0, locals := 21 } : Room) s m args below meth c YX w 3 (MQ below (yQ YX w yfi out) args s 0 0 (yA YX w)) u 2 [(0, va_re w.1 a0), (1, .int a1)] [] := by
  intro n
  induction n with
  | zero => intro u a1 h; rw [f_H_hasEmptyGlass_L2] at h; cases h
  | succ n ih =>
    intro u a1 h
    rw [f_H_hasEmptyGlass_L2] at h
    refine y_iload_n C (i := 1) 1 d_H_hasEmptyGlass_2 rfl rfl ?_
    refine y_aload_n C (i := 0) 0 d_H_hasEmptyGlass_3 rfl rfl ?_
    refine y_gi C (q := (yR2, yT2, 9)) (ci := 2) (k := 2) rfl (by decide) rfl g_133 d_H_hasEmptyGlass_4 h (fun x1 h => ?_)
    refine y_ic_ge C 44 d_H_hasEmptyGlass_7 (by decide) h (fun k2 h => ?_) (fun k2 h => ?_)
    · exact y_sub [] rfl (hk _ h)
    · refine y_aload_n C (i := 0) 0 d_H_hasEmptyGlass_10 rfl rfl ?_
      refine y_iload_n C (i := 1) 1 d_H_hasEmptyGlass_11 rfl rfl ?_
      refine y_callV 1 C (q := (yR2, yT2, 9)) (ci := 2) (fun t out hh => c_H_glassAt l w F u t a1 out hh) gc_H_hasEmptyGlass_49 rfl (by decide) hd_H_glassAt ⟨Nat.le_of_ble_eq_true rfl, Nat.le_of_ble_eq_true rfl⟩ rfl rfl rfl rfl (by simp [y_cat, y_catI, y_catJ]) d_H_hasEmptyGlass_12 h (fun r3 u4 h => ?_)
      refine y_stk (stp0 := [va_re w.1 r3]) rfl ?_
      refine y_astore_n C (i := 2) (lvp := [(0, va_re w.1 a0), (1, .int a1)]) d_H_hasEmptyGlass_15 rfl (by decide) (by simp [List.filter, y_cat, y_catI, y_catJ]) ?_
      refine y_aload_n C (i := 2) 0 d_H_hasEmptyGlass_16 rfl rfl ?_
      refine y_ifnull C 38 d_H_hasEmptyGlass_17 (by decide) h (fun k5 h => ?_) (fun k5 h => ?_)
      · refine y_iinc C (j := 2) (v := 1) (lvp := [(2, va_re w.1 r3), (0, va_re w.1 a0)]) d_H_hasEmptyGlass_38 rfl (by decide) (by decide) (by simp [List.filter, y_cat, y_catI, y_catJ]) h (fun x6 h => ?_)
        refine y_goto C (tgt := 2) d_H_hasEmptyGlass_41 (by decide) ?_
        exact y_sub [2, 0] rfl (ih _ _ h)
      · refine y_aload_n C (i := 2) 0 d_H_hasEmptyGlass_20 rfl rfl ?_
        refine y_gi C (q := (yR0, yT0, 8)) (ci := 0) (k := 4) rfl (by decide) rfl g_53 d_H_hasEmptyGlass_21 h (fun x7 h => ?_)
        refine y_bipush C (v := 20) d_H_hasEmptyGlass_24 (by decide) ?_
        refine y_ic_eq C 38 d_H_hasEmptyGlass_26 (by decide) h (fun k8 h => ?_) (fun k8 h => ?_)
        · refine y_iinc C (j := 2) (v := 1) (lvp := [(2, va_re w.1 r3), (0, va_re w.1 a0)]) d_H_hasEmptyGlass_38 rfl (by decide) (by decide) (by simp [List.filter, y_cat, y_catI, y_catJ]) h (fun x9 h => ?_)
          refine y_goto C (tgt := 2) d_H_hasEmptyGlass_41 (by decide) ?_
          exact y_sub [2, 0] rfl (ih _ _ h)
        · refine y_aload_n C (i := 2) 0 d_H_hasEmptyGlass_29 rfl rfl ?_
          refine y_gi C (q := (yR0, yT0, 8)) (ci := 0) (k := 3) rfl (by decide) rfl g_49 d_H_hasEmptyGlass_30 h (fun x10 h => ?_)
          refine y_if_ne C 38 d_H_hasEmptyGlass_33 (by decide) h (fun k11 h => ?_) (fun k11 h => ?_)
          · refine y_iconst C (v := 1) d_H_hasEmptyGlass_36 (by decide) ?_
            exact y_zret C hr hlocks d_H_hasEmptyGlass_37 h
          · refine y_iinc C (j := 2) (v := 1) (lvp := [(2, va_re w.1 r3), (0, va_re w.1 a0)]) d_H_hasEmptyGlass_38 rfl (by decide) (by decide) (by simp [List.filter, y_cat, y_catI, y_catJ]) h (fun x12 h => ?_)
            refine y_goto C (tgt := 2) d_H_hasEmptyGlass_41 (by decide) ?_
            exact y_sub [2, 0] rfl (ih _ _ h)
set_option maxRecDepth 100000 in
def f_H_hasEmptyGlass (F : Nat) (u : Mm) (o : Nat) : Option (Int32 × Mm) := f_H_hasEmptyGlass_L2 F (some o) (fun (u13 : Mm) => ob (jz (0 : Int32)) (fun v => some (v, u13))) F u (0 : Int32)
set_option maxHeartbeats 4000000 in
set_option maxRecDepth 100000 in
theorem c_H_hasEmptyGlass (l : Launch) (w : WP) (F : Nat) (u : Mm) (o : Nat) (out : Int32 × Mm) (h : f_H_hasEmptyGlass F u o = some out) : yMet l m_H_hasEmptyGlass ws_H_hasEmptyGlass ({ frames := 1, cells := 0, slots := 0, locals := 21 } : Room) YX w u [va_re w.1 (some o)] yfi out := by
  refine y_entry (own := "WhoseGlass$House") (lv := [(0, va_re w.1 (some o))]) (by decide +kernel) rfl (by simp [lv_args, y_cat, y_catI, y_catJ]) (by simp [lg_sl, y_cat, y_catI, y_catJ]) ?_
  intro p e s m args below meth c C hr hlocks
  unfold f_H_hasEmptyGlass at h
  refine y_iconst C (v := 0) d_H_hasEmptyGlass_0 (by decide) ?_
  refine y_istore_n C (i := 1) (lvp := [(0, va_re w.1 (some o))]) d_H_hasEmptyGlass_1 rfl (by decide) (by simp [List.filter, y_cat, y_catI, y_catJ]) ?_
  refine y_sub [1, 0] rfl (w_H_hasEmptyGlass_L2 F C hr hlocks _ _ (fun u13 h => ?_) _ _ _ h)
  refine y_iconst C (v := 0) d_H_hasEmptyGlass_44 (by decide) ?_
  exact y_zret C hr hlocks d_H_hasEmptyGlass_45 h
/-! X_full -/
theorem d_X_full_0 : decode prog_1_method_28_code 0 = .ok (.aload_n 0, 1) := by decide +kernel
theorem d_X_full_1 : decode prog_1_method_28_code 1 = .ok (.getfield 16, 3) := by decide +kernel
theorem d_X_full_4 : decode prog_1_method_28_code 4 = .ok (.aload_n 0, 1) := by decide +kernel
theorem d_X_full_5 : decode prog_1_method_28_code 5 = .ok (.getfield 10, 3) := by decide +kernel
theorem d_X_full_8 : decode prog_1_method_28_code 8 = .ok (.invokevirtual 50, 3) := by decide +kernel
theorem d_X_full_11 : decode prog_1_method_28_code 11 = .ok (.iconst 0, 1) := by decide +kernel
theorem d_X_full_12 : decode prog_1_method_28_code 12 = .ok (.istore_n 1, 1) := by decide +kernel
theorem d_X_full_13 : decode prog_1_method_28_code 13 = .ok (.iload_n 1, 1) := by decide +kernel
theorem d_X_full_14 : decode prog_1_method_28_code 14 = .ok (.bipush 60, 2) := by decide +kernel
theorem d_X_full_16 : decode prog_1_method_28_code 16 = .ok (.if_icmp .gt 29, 3) := by decide +kernel
theorem d_X_full_19 : decode prog_1_method_28_code 19 = .ok (.aload_n 0, 1) := by decide +kernel
theorem d_X_full_20 : decode prog_1_method_28_code 20 = .ok (.getfield 16, 3) := by decide +kernel
theorem d_X_full_23 : decode prog_1_method_28_code 23 = .ok (.invokevirtual 200, 3) := by decide +kernel
theorem d_X_full_26 : decode prog_1_method_28_code 26 = .ok (.ifCond .ne 5, 3) := by decide +kernel
theorem d_X_full_29 : decode prog_1_method_28_code 29 = .ok (.iload_n 1, 1) := by decide +kernel
theorem d_X_full_30 : decode prog_1_method_28_code 30 = .ok (.ireturn, 1) := by decide +kernel
theorem d_X_full_31 : decode prog_1_method_28_code 31 = .ok (.aload_n 0, 1) := by decide +kernel
theorem d_X_full_32 : decode prog_1_method_28_code 32 = .ok (.getfield 16, 3) := by decide +kernel
theorem d_X_full_35 : decode prog_1_method_28_code 35 = .ok (.iconst 1, 1) := by decide +kernel
theorem d_X_full_36 : decode prog_1_method_28_code 36 = .ok (.invokevirtual 135, 3) := by decide +kernel
theorem d_X_full_39 : decode prog_1_method_28_code 39 = .ok (.iinc 1 1, 3) := by decide +kernel
theorem d_X_full_42 : decode prog_1_method_28_code 42 = .ok (.goto (-29), 3) := by decide +kernel
theorem d_X_full_45 : decode prog_1_method_28_code 45 = .ok (.bipush (-4), 2) := by decide +kernel
theorem d_X_full_47 : decode prog_1_method_28_code 47 = .ok (.ireturn, 1) := by decide +kernel
theorem gc_X_full_50 : GoodIn yGW (wsV "WhoseGlass" 50 yR2 m_H_become ws_H_become) := y_gV g_255 g_256 g_257 g_2 g_258
theorem gc_X_full_200 : GoodIn yGW (wsV "WhoseGlass" 200 yR2 m_H_hasEmptyGlass ws_H_hasEmptyGlass) := y_gV g_566 g_567 g_568 g_2 g_569
theorem gc_X_full_135 : GoodIn yGW (wsV "WhoseGlass" 135 yR2 m_H_passMinutes ws_H_passMinutes) := y_gV g_438 g_279 g_280 g_2 g_281
set_option maxHeartbeats 4000000 in
set_option maxRecDepth 100000 in
def f_X_full_L13 (F : Nat) (a0 : Option Nat) (k : Mm → Option (Int32 × Mm)) : Nat → Mm → Int32 → Option (Int32 × Mm)
  | 0, _, _ => none
  | n + 1, u, a1 => (if (60 : Int32) < a1 then k u  else ob (jgr YX 4 1 a0) fun (r6 : Option Nat) => ob (jk YX 2 r6) fun t => yb (f_H_hasEmptyGlass F u t ) fun x7 u8 => (if x7 = 0 then some (a1, u8) else ob (jgr YX 4 1 a0) fun (r10 : Option Nat) => ob (jk YX 2 r10) fun t => yb (f_H_passMinutes F u8 t (1 : Int32)) fun v11 u12 => ob (some (a1 + (1 : Int32))) fun (x13 : Int32) => f_X_full_L13 F a0 k n u12 x13))
set_option maxHeartbeats 4000000 in
set_option maxRecDepth 100000 in
theorem w_X_full_L13 {p : Program} {l : Launch} {e : Env} {s : State} {m : MethodId} {args : Array Value} {below : List Frame} {meth : Method} {c : Code} {w : WP} (F : Nat) (C : yX p e ({ frames := 5, cells := 0, slots := 0, locals := 125 } : Room) s m args c YX w 2 prog_1_method_28_code "WhoseGlass") (hr : meth.sig.returnType = (some .int)) (hlocks : meth.locks = false) (a0 : Option Nat) {out : Int32 × Mm} (k : Mm → Option (Int32 × Mm)) (hk : ∀ (u : Mm), k u  = some out → yG p l e ({ frames := 5, cells := 0, slots := 0, locals := 125 } : Room) s m args below meth c YX w 2 (MQ below (yQ YX w yfi out) args s 0 0 (yA YX w)) u 45 [] []) : ∀ (n : Nat) (u : Mm) (a1 : Int32), f_X_full_L13 F a0 k n u a1 = some out → yG p l e ({ frames := 5, cells := 0, slots := 0, locals := 125 } : Room) s m args below meth c YX w 2 (MQ below (yQ YX w yfi out) args s 0 0 (yA YX w)) u 13 [(0, va_re w.1 a0), (1, .int a1)] [] := by
  intro n
  induction n with
  | zero => intro u a1 h; rw [f_X_full_L13] at h; cases h
  | succ n ih =>
    intro u a1 h
    rw [f_X_full_L13] at h
    refine y_iload_n C (i := 1) 1 d_X_full_13 rfl rfl ?_
    refine y_bipush C (v := 60) d_X_full_14 (by decide) ?_
    refine y_ic_gt C 45 d_X_full_16 (by decide) h (fun k5 h => ?_) (fun k5 h => ?_)
    · exact y_sub [] rfl (hk _ h)
    · refine y_aload_n C (i := 0) 0 d_X_full_19 rfl rfl ?_
      refine y_gr C (q := (yR4, yT4, 5)) (ci := 4) (k := 1) rfl (by decide) rfl (by decide) g_203 d_X_full_20 h (fun r6 h => ?_)
      refine y_callV 0 C (q := (yR2, yT2, 9)) (ci := 2) (fun t out hh => c_H_hasEmptyGlass l w F u t out hh) gc_X_full_200 rfl (by decide) hd_H_hasEmptyGlass ⟨Nat.le_of_ble_eq_true rfl, Nat.le_of_ble_eq_true rfl⟩ rfl rfl rfl rfl (by simp [y_cat, y_catI, y_catJ]) d_X_full_23 h (fun x7 u8 h => ?_)
      refine y_stk (stp0 := [.int x7]) rfl ?_
      refine y_if_ne C 31 d_X_full_26 (by decide) h (fun k9 h => ?_) (fun k9 h => ?_)
      · refine y_iload_n C (i := 1) 1 d_X_full_29 rfl rfl ?_
        exact y_iret C hr hlocks d_X_full_30 h
      · refine y_aload_n C (i := 0) 0 d_X_full_31 rfl rfl ?_
        refine y_gr C (q := (yR4, yT4, 5)) (ci := 4) (k := 1) rfl (by decide) rfl (by decide) g_203 d_X_full_32 h (fun r10 h => ?_)
        refine y_iconst C (v := 1) d_X_full_35 (by decide) ?_
        refine y_callV 1 C (q := (yR2, yT2, 9)) (ci := 2) (fun t out hh => c_H_passMinutes l w F u8 t (1 : Int32) out hh) gc_X_full_135 rfl (by decide) hd_H_passMinutes ⟨Nat.le_of_ble_eq_true rfl, Nat.le_of_ble_eq_true rfl⟩ rfl rfl rfl rfl (by simp [y_cat, y_catI, y_catJ]) d_X_full_36 h (fun v11 u12 h => ?_)
        refine y_stk (stp0 := []) rfl ?_
        refine y_iinc C (j := 1) (v := 1) (lvp := [(0, va_re w.1 a0)]) d_X_full_39 rfl (by decide) (by decide) (by simp [List.filter, y_cat, y_catI, y_catJ]) h (fun x13 h => ?_)
        refine y_goto C (tgt := 13) d_X_full_42 (by decide) ?_
        exact y_sub [1, 0] rfl (ih _ _ h)
set_option maxRecDepth 100000 in
def f_X_full (F : Nat) (u : Mm) (o : Nat) : Option (Int32 × Mm) := ob (jgr YX 4 1 (some o)) fun (r1 : Option Nat) => ob (jgr YX 4 0 (some o)) fun (r2 : Option Nat) => ob (jk YX 2 r1) fun t => yb (f_H_become F u t r2) fun v3 u4 => f_X_full_L13 F (some o) (fun (u14 : Mm) => some ((-4 : Int32), u14)) F u4 (0 : Int32)
set_option maxHeartbeats 4000000 in
set_option maxRecDepth 100000 in
theorem c_X_full (l : Launch) (w : WP) (F : Nat) (u : Mm) (o : Nat) (out : Int32 × Mm) (h : f_X_full F u o = some out) : yMet l m_X_full ws_X_full ({ frames := 5, cells := 0, slots := 0, locals := 125 } : Room) YX w u [va_re w.1 (some o)] yfi out := by
  refine y_entry (own := "WhoseGlass") (lv := [(0, va_re w.1 (some o))]) (by decide +kernel) rfl (by simp [lv_args, y_cat, y_catI, y_catJ]) (by simp [lg_sl, y_cat, y_catI, y_catJ]) ?_
  intro p e s m args below meth c C hr hlocks
  unfold f_X_full at h
  refine y_aload_n C (i := 0) 0 d_X_full_0 rfl rfl ?_
  refine y_gr C (q := (yR4, yT4, 5)) (ci := 4) (k := 1) rfl (by decide) rfl (by decide) g_203 d_X_full_1 h (fun r1 h => ?_)
  refine y_aload_n C (i := 0) 0 d_X_full_4 rfl rfl ?_
  refine y_gr C (q := (yR4, yT4, 5)) (ci := 4) (k := 0) rfl (by decide) rfl (by decide) g_202 d_X_full_5 h (fun r2 h => ?_)
  refine y_callV 1 C (q := (yR2, yT2, 9)) (ci := 2) (fun t out hh => c_H_become l w F u t r2 out hh) gc_X_full_50 rfl (by decide) hd_H_become ⟨Nat.le_of_ble_eq_true rfl, Nat.le_of_ble_eq_true rfl⟩ rfl rfl rfl rfl (by simp [y_cat, y_catI, y_catJ]) d_X_full_8 h (fun v3 u4 h => ?_)
  refine y_stk (stp0 := []) rfl ?_
  refine y_iconst C (v := 0) d_X_full_11 (by decide) ?_
  refine y_istore_n C (i := 1) (lvp := [(0, va_re w.1 (some o))]) d_X_full_12 rfl (by decide) (by simp [List.filter, y_cat, y_catI, y_catJ]) ?_
  refine y_sub [1, 0] rfl (w_X_full_L13 F C hr hlocks _ _ (fun u14 h => ?_) _ _ _ h)
  refine y_bipush C (v := -4) d_X_full_45 (by decide) ?_
  exact y_iret C hr hlocks d_X_full_47 h
/-! H_scatter -/
theorem d_H_scatter_0 : decode prog_4_method_22_code 0 = .ok (.iload_n 1, 1) := by decide +kernel
theorem d_H_scatter_1 : decode prog_4_method_22_code 1 = .ok (.istore_n 2, 1) := by decide +kernel
theorem d_H_scatter_2 : decode prog_4_method_22_code 2 = .ok (.iconst 0, 1) := by decide +kernel
theorem d_H_scatter_3 : decode prog_4_method_22_code 3 = .ok (.istore_n 3, 1) := by decide +kernel
theorem d_H_scatter_4 : decode prog_4_method_22_code 4 = .ok (.iload_n 3, 1) := by decide +kernel
theorem d_H_scatter_5 : decode prog_4_method_22_code 5 = .ok (.aload_n 0, 1) := by decide +kernel
theorem d_H_scatter_6 : decode prog_4_method_22_code 6 = .ok (.getfield 37, 3) := by decide +kernel
theorem d_H_scatter_9 : decode prog_4_method_22_code 9 = .ok (.if_icmp .ge 45, 3) := by decide +kernel
theorem d_H_scatter_12 : decode prog_4_method_22_code 12 = .ok (.aload_n 0, 1) := by decide +kernel
theorem d_H_scatter_13 : decode prog_4_method_22_code 13 = .ok (.iload_n 3, 1) := by decide +kernel
theorem d_H_scatter_14 : decode prog_4_method_22_code 14 = .ok (.invokevirtual 57, 3) := by decide +kernel
theorem d_H_scatter_17 : decode prog_4_method_22_code 17 = .ok (.astore 4, 2) := by decide +kernel
theorem d_H_scatter_19 : decode prog_4_method_22_code 19 = .ok (.iload_n 2, 1) := by decide +kernel
theorem d_H_scatter_20 : decode prog_4_method_22_code 20 = .ok (.ldc 159, 2) := by decide +kernel
theorem d_H_scatter_22 : decode prog_4_method_22_code 22 = .ok (.imul, 1) := by decide +kernel
theorem d_H_scatter_23 : decode prog_4_method_22_code 23 = .ok (.sipush 12345, 3) := by decide +kernel
theorem d_H_scatter_26 : decode prog_4_method_22_code 26 = .ok (.iadd, 1) := by decide +kernel
theorem d_H_scatter_27 : decode prog_4_method_22_code 27 = .ok (.istore_n 2, 1) := by decide +kernel
theorem d_H_scatter_28 : decode prog_4_method_22_code 28 = .ok (.aload 4, 2) := by decide +kernel
theorem d_H_scatter_30 : decode prog_4_method_22_code 30 = .ok (.ifnull 18, 3) := by decide +kernel
theorem d_H_scatter_33 : decode prog_4_method_22_code 33 = .ok (.aload 4, 2) := by decide +kernel
theorem d_H_scatter_35 : decode prog_4_method_22_code 35 = .ok (.iload_n 2, 1) := by decide +kernel
theorem d_H_scatter_36 : decode prog_4_method_22_code 36 = .ok (.ldc 160, 2) := by decide +kernel
theorem d_H_scatter_38 : decode prog_4_method_22_code 38 = .ok (.iand, 1) := by decide +kernel
theorem d_H_scatter_39 : decode prog_4_method_22_code 39 = .ok (.ldc 161, 2) := by decide +kernel
theorem d_H_scatter_41 : decode prog_4_method_22_code 41 = .ok (.idiv, 1) := by decide +kernel
theorem d_H_scatter_42 : decode prog_4_method_22_code 42 = .ok (.bipush 6, 2) := by decide +kernel
theorem d_H_scatter_44 : decode prog_4_method_22_code 44 = .ok (.irem, 1) := by decide +kernel
theorem d_H_scatter_45 : decode prog_4_method_22_code 45 = .ok (.putfield 81, 3) := by decide +kernel
theorem d_H_scatter_48 : decode prog_4_method_22_code 48 = .ok (.iinc 3 1, 3) := by decide +kernel
theorem d_H_scatter_51 : decode prog_4_method_22_code 51 = .ok (.goto (-47), 3) := by decide +kernel
theorem d_H_scatter_54 : decode prog_4_method_22_code 54 = .ok (.iload_n 2, 1) := by decide +kernel
theorem d_H_scatter_55 : decode prog_4_method_22_code 55 = .ok (.ireturn, 1) := by decide +kernel
theorem gc_H_scatter_57 : GoodIn yGW (wsV "WhoseGlass$House" 57 yR2 m_H_guestAt ws_H_guestAt) := y_gV g_267 g_268 g_269 g_2 g_270
set_option maxHeartbeats 4000000 in
set_option maxRecDepth 100000 in
def f_H_scatter_L4 (F : Nat) (a0 : Option Nat) (k : Mm → Int32 → Option (Int32 × Mm)) : Nat → Mm → Int32 → Int32 → Option (Int32 × Mm)
  | 0, _, _, _ => none
  | n + 1, u, a2, a3 => ob (jgi YX 2 3 u a0) fun (x1 : Int32) => (if x1 ≤ a3 then k u a2 else ob (jk YX 2 a0) fun t => yb (f_H_guestAt F u t a3) fun r3 u4 => ob (some ((a2 * (1103515245 : Int32)) + (12345 : Int32))) fun (x5 : Int32) => ob ((if r3 = none then some u4 else ob (jdv (x5 &&& (2147483647 : Int32)) (65536 : Int32)) fun (x8 : Int32) => ob (jrm x8 (6 : Int32)) fun (x9 : Int32) => ob (jpi YX 1 5 u4 r3 x9) fun (u10 : Mm) => some u10) : Option (Mm)) fun q6 => ob (some (a3 + (1 : Int32))) fun (x11 : Int32) => f_H_scatter_L4 F a0 k n q6 x5 x11)
set_option maxHeartbeats 4000000 in
set_option maxRecDepth 100000 in
theorem w_H_scatter_L4 {p : Program} {l : Launch} {e : Env} {s : State} {m : MethodId} {args : Array Value} {below : List Frame} {meth : Method} {c : Code} {w : WP} {Q : State → Prop} (F : Nat) (C : yX p e ({ frames := 1, cells := 0, slots := 0, locals := 21 } : Room) s m args c YX w 5 prog_4_method_22_code "WhoseGlass$House") (hr : meth.sig.returnType = (some .int)) (hlocks : meth.locks = false) (a0 : Option Nat) {out : Int32 × Mm} (k : Mm → Int32 → Option (Int32 × Mm)) (hk : ∀ (u : Mm) (a2 : Int32), k u a2 = some out → yG p l e ({ frames := 1, cells := 0, slots := 0, locals := 21 } : Room) s m args below meth c YX w 5 Q u 54 [(2, .int a2)] []) : ∀ (n : Nat) (u : Mm) (a2 : Int32) (a3 : Int32), f_H_scatter_L4 F a0 k n u a2 a3 = some out → yG p l e ({ frames := 1, cells := 0, slots := 0, locals := 21 } : Room) s m args below meth c YX w 5 Q u 4 [(0, va_re w.1 a0), (2, .int a2), (3, .int a3)] [] := by
  intro n
  induction n with
  | zero => intro u a2 a3 h; rw [f_H_scatter_L4] at h; cases h
  | succ n ih =>
    intro u a2 a3 h
    rw [f_H_scatter_L4] at h
    refine y_iload_n C (i := 3) 2 d_H_scatter_4 rfl rfl ?_
    refine y_aload_n C (i := 0) 0 d_H_scatter_5 rfl rfl ?_
    refine y_gi C (q := (yR2, yT2, 9)) (ci := 2) (k := 3) rfl (by decide) rfl g_135 d_H_scatter_6 h (fun x1 h => ?_)
    refine y_ic_ge C 54 d_H_scatter_9 (by decide) h (fun k2 h => ?_) (fun k2 h => ?_)
    · exact y_sub [1] rfl (hk _ _ h)
    · refine y_aload_n C (i := 0) 0 d_H_scatter_12 rfl rfl ?_
      refine y_iload_n C (i := 3) 2 d_H_scatter_13 rfl rfl ?_
      refine y_callV 1 C (q := (yR2, yT2, 9)) (ci := 2) (fun t out hh => c_H_guestAt l w F u t a3 out hh) gc_H_scatter_57 rfl (by decide) hd_H_guestAt ⟨Nat.le_of_ble_eq_true rfl, Nat.le_of_ble_eq_true rfl⟩ rfl rfl rfl rfl (by simp [y_cat, y_catI, y_catJ]) d_H_scatter_14 h (fun r3 u4 h => ?_)
      refine y_stk (stp0 := [va_re w.1 r3]) rfl ?_
      refine y_astore C (i := 4) (lvp := [(0, va_re w.1 a0), (2, .int a2), (3, .int a3)]) d_H_scatter_17 (by decide) (by simp [List.filter, y_cat, y_catI, y_catJ]) ?_
      refine y_iload_n C (i := 2) 2 d_H_scatter_19 rfl rfl ?_
      refine y_ldc C d_H_scatter_20 g_578 ?_
      refine y_imul C d_H_scatter_22 ?_
      refine y_sipush C (v := 12345) d_H_scatter_23 (by decide) ?_
      refine y_iadd C d_H_scatter_26 ?_
      refine y_istore_nB C (i := 2) (lvp := [(4, va_re w.1 r3), (0, va_re w.1 a0), (3, .int a3)]) d_H_scatter_27 rfl (by decide) rfl h (fun x5 h => ?_)
      refine y_aload C (i := 4) 1 d_H_scatter_28 rfl ?_
      obtain ⟨q6, hq6, h⟩ := ob_e h
      have hJq6 : yG p l e ({ frames := 1, cells := 0, slots := 0, locals := 21 } : Room) s m args below meth c YX w 5 Q q6 48 [(0, va_re w.1 a0), (2, .int x5), (3, .int a3)] [] := by
        refine y_iinc C (j := 2) (v := 1) (lvp := [(0, va_re w.1 a0), (2, .int x5)]) d_H_scatter_48 rfl (by decide) (by decide) rfl h (fun x11 h => ?_)
        refine y_goto C (tgt := 4) d_H_scatter_51 (by decide) ?_
        exact y_sub [1, 2, 0] rfl (ih _ _ _ h)
      refine y_ifnull C 48 d_H_scatter_30 (by decide) hq6 (fun k7 hq6 => ?_) (fun k7 hq6 => ?_)
      · cases hq6
        exact y_sub [2, 0, 3] rfl hJq6
      · refine y_aload C (i := 4) 1 d_H_scatter_33 rfl ?_
        refine y_iload_n C (i := 2) 0 d_H_scatter_35 rfl rfl ?_
        refine y_ldc C d_H_scatter_36 g_579 ?_
        refine y_iand C d_H_scatter_38 ?_
        refine y_ldc C d_H_scatter_39 g_580 ?_
        refine y_idiv C d_H_scatter_41 hq6 (fun x8 hq6 => ?_)
        refine y_bipush C (v := 6) d_H_scatter_42 (by decide) ?_
        refine y_irem C d_H_scatter_44 hq6 (fun x9 hq6 => ?_)
        refine y_pi C (q := (yR1, yT1, 10)) (ci := 1) (k := 5) rfl (by decide) rfl rfl (by decide +kernel) g_96 d_H_scatter_45 hq6 (fun u10 hq6 => ?_)
        cases hq6
        exact y_sub [2, 0, 3] rfl hJq6
set_option maxRecDepth 100000 in
def f_H_scatter (F : Nat) (u : Mm) (o : Nat) (a1 : Int32) : Option (Int32 × Mm) := f_H_scatter_L4 F (some o) (fun (u12 : Mm) (x13 : Int32) => some (x13, u12)) F u a1 (0 : Int32)
set_option maxHeartbeats 4000000 in
set_option maxRecDepth 100000 in
theorem c_H_scatter (l : Launch) (w : WP) (F : Nat) (u : Mm) (o : Nat) (a1 : Int32) (out : Int32 × Mm) (h : f_H_scatter F u o a1 = some out) : yMet l m_H_scatter ws_H_scatter ({ frames := 1, cells := 0, slots := 0, locals := 21 } : Room) YX w u [va_re w.1 (some o), .int a1] yfi out := by
  refine y_entry (own := "WhoseGlass$House") (lv := [(0, va_re w.1 (some o)), (1, .int a1)]) (by decide +kernel) rfl (by simp [lv_args, y_cat, y_catI, y_catJ]) (by simp [lg_sl, y_cat, y_catI, y_catJ]) ?_
  intro p e s m args below meth c C hr hlocks
  unfold f_H_scatter at h
  refine y_iload_n C (i := 1) 1 d_H_scatter_0 rfl rfl ?_
  refine y_istore_n C (i := 2) (lvp := [(0, va_re w.1 (some o)), (1, .int a1)]) d_H_scatter_1 rfl (by decide) rfl ?_
  refine y_iconst C (v := 0) d_H_scatter_2 (by decide) ?_
  refine y_istore_n C (i := 3) (lvp := [(2, .int a1), (0, va_re w.1 (some o)), (1, .int a1)]) d_H_scatter_3 rfl (by decide) rfl ?_
  refine y_sub [2, 1, 0] rfl (w_H_scatter_L4 F C hr hlocks _ _ (fun u12 x13 h => ?_) _ _ _ _ h)
  refine y_iload_n C (i := 2) 0 d_H_scatter_54 rfl rfl ?_
  exact y_iret C hr hlocks d_H_scatter_55 h
/-! X_seeded -/
theorem d_X_seeded_0 : decode prog_1_method_29_code 0 = .ok (.iload_n 1, 1) := by decide +kernel
theorem d_X_seeded_1 : decode prog_1_method_29_code 1 = .ok (.iconst 1, 1) := by decide +kernel
theorem d_X_seeded_2 : decode prog_1_method_29_code 2 = .ok (.if_icmp .lt 17, 3) := by decide +kernel
theorem d_X_seeded_5 : decode prog_1_method_29_code 5 = .ok (.iload_n 1, 1) := by decide +kernel
theorem d_X_seeded_6 : decode prog_1_method_29_code 6 = .ok (.bipush 30, 2) := by decide +kernel
theorem d_X_seeded_8 : decode prog_1_method_29_code 8 = .ok (.if_icmp .gt 11, 3) := by decide +kernel
theorem d_X_seeded_11 : decode prog_1_method_29_code 11 = .ok (.iload_n 3, 1) := by decide +kernel
theorem d_X_seeded_12 : decode prog_1_method_29_code 12 = .ok (.iconst 2, 1) := by decide +kernel
theorem d_X_seeded_13 : decode prog_1_method_29_code 13 = .ok (.invokestatic 78, 3) := by decide +kernel
theorem d_X_seeded_16 : decode prog_1_method_29_code 16 = .ok (.ifCond .ne 5, 3) := by decide +kernel
theorem d_X_seeded_19 : decode prog_1_method_29_code 19 = .ok (.iconst (-1), 1) := by decide +kernel
theorem d_X_seeded_20 : decode prog_1_method_29_code 20 = .ok (.ireturn, 1) := by decide +kernel
theorem d_X_seeded_21 : decode prog_1_method_29_code 21 = .ok (.aload_n 0, 1) := by decide +kernel
theorem d_X_seeded_22 : decode prog_1_method_29_code 22 = .ok (.getfield 10, 3) := by decide +kernel
theorem d_X_seeded_25 : decode prog_1_method_29_code 25 = .ok (.getfield 182, 3) := by decide +kernel
theorem d_X_seeded_28 : decode prog_1_method_29_code 28 = .ok (.ifCond .ne 6, 3) := by decide +kernel
theorem d_X_seeded_31 : decode prog_1_method_29_code 31 = .ok (.bipush (-3), 2) := by decide +kernel
theorem d_X_seeded_33 : decode prog_1_method_29_code 33 = .ok (.ireturn, 1) := by decide +kernel
theorem d_X_seeded_34 : decode prog_1_method_29_code 34 = .ok (.aload_n 0, 1) := by decide +kernel
theorem d_X_seeded_35 : decode prog_1_method_29_code 35 = .ok (.getfield 16, 3) := by decide +kernel
theorem d_X_seeded_38 : decode prog_1_method_29_code 38 = .ok (.aload_n 0, 1) := by decide +kernel
theorem d_X_seeded_39 : decode prog_1_method_29_code 39 = .ok (.getfield 10, 3) := by decide +kernel
theorem d_X_seeded_42 : decode prog_1_method_29_code 42 = .ok (.invokevirtual 50, 3) := by decide +kernel
theorem d_X_seeded_45 : decode prog_1_method_29_code 45 = .ok (.iload_n 2, 1) := by decide +kernel
theorem d_X_seeded_46 : decode prog_1_method_29_code 46 = .ok (.istore 4, 2) := by decide +kernel
theorem d_X_seeded_48 : decode prog_1_method_29_code 48 = .ok (.iconst 0, 1) := by decide +kernel
theorem d_X_seeded_49 : decode prog_1_method_29_code 49 = .ok (.istore 5, 2) := by decide +kernel
theorem d_X_seeded_51 : decode prog_1_method_29_code 51 = .ok (.iload 5, 2) := by decide +kernel
theorem d_X_seeded_53 : decode prog_1_method_29_code 53 = .ok (.iload_n 1, 1) := by decide +kernel
theorem d_X_seeded_54 : decode prog_1_method_29_code 54 = .ok (.if_icmp .ge 28, 3) := by decide +kernel
theorem d_X_seeded_57 : decode prog_1_method_29_code 57 = .ok (.aload_n 0, 1) := by decide +kernel
theorem d_X_seeded_58 : decode prog_1_method_29_code 58 = .ok (.getfield 16, 3) := by decide +kernel
theorem d_X_seeded_61 : decode prog_1_method_29_code 61 = .ok (.iload 4, 2) := by decide +kernel
theorem d_X_seeded_63 : decode prog_1_method_29_code 63 = .ok (.invokevirtual 204, 3) := by decide +kernel
theorem d_X_seeded_66 : decode prog_1_method_29_code 66 = .ok (.istore 4, 2) := by decide +kernel
theorem d_X_seeded_68 : decode prog_1_method_29_code 68 = .ok (.aload_n 0, 1) := by decide +kernel
theorem d_X_seeded_69 : decode prog_1_method_29_code 69 = .ok (.getfield 16, 3) := by decide +kernel
theorem d_X_seeded_72 : decode prog_1_method_29_code 72 = .ok (.iconst 1, 1) := by decide +kernel
theorem d_X_seeded_73 : decode prog_1_method_29_code 73 = .ok (.invokevirtual 135, 3) := by decide +kernel
theorem d_X_seeded_76 : decode prog_1_method_29_code 76 = .ok (.iinc 5 1, 3) := by decide +kernel
theorem d_X_seeded_79 : decode prog_1_method_29_code 79 = .ok (.goto (-28), 3) := by decide +kernel
theorem d_X_seeded_82 : decode prog_1_method_29_code 82 = .ok (.iload_n 3, 1) := by decide +kernel
theorem d_X_seeded_83 : decode prog_1_method_29_code 83 = .ok (.ifCond .ne 13, 3) := by decide +kernel
theorem d_X_seeded_86 : decode prog_1_method_29_code 86 = .ok (.aload_n 0, 1) := by decide +kernel
theorem d_X_seeded_87 : decode prog_1_method_29_code 87 = .ok (.getfield 16, 3) := by decide +kernel
theorem d_X_seeded_90 : decode prog_1_method_29_code 90 = .ok (.getfield 170, 3) := by decide +kernel
theorem d_X_seeded_93 : decode prog_1_method_29_code 93 = .ok (.goto 10, 3) := by decide +kernel
theorem d_X_seeded_96 : decode prog_1_method_29_code 96 = .ok (.aload_n 0, 1) := by decide +kernel
theorem d_X_seeded_97 : decode prog_1_method_29_code 97 = .ok (.getfield 16, 3) := by decide +kernel
theorem d_X_seeded_100 : decode prog_1_method_29_code 100 = .ok (.getfield 173, 3) := by decide +kernel
theorem d_X_seeded_103 : decode prog_1_method_29_code 103 = .ok (.ireturn, 1) := by decide +kernel
theorem gc_X_seeded_50 : GoodIn yGW (wsV "WhoseGlass" 50 yR2 m_H_become ws_H_become) := y_gV g_255 g_256 g_257 g_2 g_258
theorem gc_X_seeded_204 : GoodIn yGW (wsV "WhoseGlass" 204 yR2 m_H_scatter ws_H_scatter) := y_gV g_574 g_575 g_576 g_2 g_577
theorem gc_X_seeded_135 : GoodIn yGW (wsV "WhoseGlass" 135 yR2 m_H_passMinutes ws_H_passMinutes) := y_gV g_438 g_279 g_280 g_2 g_281
set_option maxHeartbeats 4000000 in
set_option maxRecDepth 100000 in
def f_X_seeded_L51 (F : Nat) (a0 : Option Nat) (a1 : Int32) (a3 : Int32) (k : Mm → Option (Int32 × Mm)) : Nat → Mm → Int32 → Int32 → Option (Int32 × Mm)
  | 0, _, _, _ => none
  | n + 1, u, a4, a5 => (if a1 ≤ a5 then k u  else ob (jgr YX 4 1 a0) fun (r14 : Option Nat) => ob (jk YX 2 r14) fun t => yb (f_H_scatter F u t a4) fun x15 u16 => ob (jgr YX 4 1 a0) fun (r17 : Option Nat) => ob (jk YX 2 r17) fun t => yb (f_H_passMinutes F u16 t (1 : Int32)) fun v18 u19 => ob (some (a5 + (1 : Int32))) fun (x20 : Int32) => f_X_seeded_L51 F a0 a1 a3 k n u19 x15 x20)
set_option maxHeartbeats 4000000 in
set_option maxRecDepth 100000 in
theorem w_X_seeded_L51 {p : Program} {l : Launch} {e : Env} {s : State} {m : MethodId} {args : Array Value} {below : List Frame} {meth : Method} {c : Code} {w : WP} {Q : State → Prop} (F : Nat) (C : yX p e ({ frames := 5, cells := 0, slots := 0, locals := 125 } : Room) s m args c YX w 6 prog_1_method_29_code "WhoseGlass") (hr : meth.sig.returnType = (some .int)) (hlocks : meth.locks = false) (a0 : Option Nat) (a1 : Int32) (a3 : Int32) {out : Int32 × Mm} (k : Mm → Option (Int32 × Mm)) (hk : ∀ (u : Mm), k u  = some out → yG p l e ({ frames := 5, cells := 0, slots := 0, locals := 125 } : Room) s m args below meth c YX w 6 Q u 82 [(0, va_re w.1 a0), (3, .int a3)] []) : ∀ (n : Nat) (u : Mm) (a4 : Int32) (a5 : Int32), f_X_seeded_L51 F a0 a1 a3 k n u a4 a5 = some out → yG p l e ({ frames := 5, cells := 0, slots := 0, locals := 125 } : Room) s m args below meth c YX w 6 Q u 51 [(0, va_re w.1 a0), (1, .int a1), (3, .int a3), (4, .int a4), (5, .int a5)] [] := by
  intro n
  induction n with
  | zero => intro u a4 a5 h; rw [f_X_seeded_L51] at h; cases h
  | succ n ih =>
    intro u a4 a5 h
    rw [f_X_seeded_L51] at h
    refine y_iload C (i := 5) 4 d_X_seeded_51 rfl ?_
    refine y_iload_n C (i := 1) 1 d_X_seeded_53 rfl rfl ?_
    refine y_ic_ge C 82 d_X_seeded_54 (by decide) h (fun k13 h => ?_) (fun k13 h => ?_)
    · exact y_sub [0, 2] rfl (hk _ h)
    · refine y_aload_n C (i := 0) 0 d_X_seeded_57 rfl rfl ?_
      refine y_gr C (q := (yR4, yT4, 5)) (ci := 4) (k := 1) rfl (by decide) rfl (by decide) g_203 d_X_seeded_58 h (fun r14 h => ?_)
      refine y_iload C (i := 4) 3 d_X_seeded_61 rfl ?_
      refine y_callV 1 C (q := (yR2, yT2, 9)) (ci := 2) (fun t out hh => c_H_scatter l w F u t a4 out hh) gc_X_seeded_204 rfl (by decide) hd_H_scatter ⟨Nat.le_of_ble_eq_true rfl, Nat.le_of_ble_eq_true rfl⟩ rfl rfl rfl rfl (by simp [y_cat, y_catI, y_catJ]) d_X_seeded_63 h (fun x15 u16 h => ?_)
      refine y_stk (stp0 := [.int x15]) rfl ?_
      refine y_istore C (i := 4) (lvp := [(0, va_re w.1 a0), (1, .int a1), (3, .int a3), (5, .int a5)]) d_X_seeded_66 (by decide) rfl ?_
      refine y_aload_n C (i := 0) 1 d_X_seeded_68 rfl rfl ?_
      refine y_gr C (q := (yR4, yT4, 5)) (ci := 4) (k := 1) rfl (by decide) rfl (by decide) g_203 d_X_seeded_69 h (fun r17 h => ?_)
      refine y_iconst C (v := 1) d_X_seeded_72 (by decide) ?_
      refine y_callV 1 C (q := (yR2, yT2, 9)) (ci := 2) (fun t out hh => c_H_passMinutes l w F u16 t (1 : Int32) out hh) gc_X_seeded_135 rfl (by decide) hd_H_passMinutes ⟨Nat.le_of_ble_eq_true rfl, Nat.le_of_ble_eq_true rfl⟩ rfl rfl rfl rfl (by simp [y_cat, y_catI, y_catJ]) d_X_seeded_73 h (fun v18 u19 h => ?_)
      refine y_stk (stp0 := []) rfl ?_
      refine y_iinc C (j := 4) (v := 1) (lvp := [(4, .int x15), (0, va_re w.1 a0), (1, .int a1), (3, .int a3)]) d_X_seeded_76 rfl (by decide) (by decide) rfl h (fun x20 h => ?_)
      refine y_goto C (tgt := 51) d_X_seeded_79 (by decide) ?_
      exact y_sub [2, 3, 4, 1, 0] rfl (ih _ _ _ h)
set_option maxRecDepth 100000 in
def f_X_seeded (F : Nat) (u : Mm) (o : Nat) (a1 : Int32) (a2 : Int32) (a3 : Int32) : Option (Int32 × Mm) := (if a1 < (1 : Int32) then some ((-1 : Int32), u) else (if (30 : Int32) < a1 then some ((-1 : Int32), u) else yb (f_X_isBelow F u a3 (2 : Int32)) fun x3 u4 => (if x3 = 0 then some ((-1 : Int32), u4) else ob (jgr YX 4 0 (some o)) fun (r6 : Option Nat) => ob (jgi YX 2 3 u4 r6) fun (x7 : Int32) => (if x7 = 0 then some ((-3 : Int32), u4) else ob (jgr YX 4 1 (some o)) fun (r9 : Option Nat) => ob (jgr YX 4 0 (some o)) fun (r10 : Option Nat) => ob (jk YX 2 r9) fun t => yb (f_H_become F u4 t r10) fun v11 u12 => f_X_seeded_L51 F (some o) a1 a3 (fun (u21 : Mm) => (if a3 = 0 then ob (jgr YX 4 1 (some o)) fun (r23 : Option Nat) => ob (jgi YX 2 6 u21 r23) fun (x24 : Int32) => some (x24, u21) else ob (jgr YX 4 1 (some o)) fun (r25 : Option Nat) => ob (jgi YX 2 7 u21 r25) fun (x26 : Int32) => some (x26, u21))) F u12 a2 (0 : Int32)))))
set_option maxHeartbeats 4000000 in
set_option maxRecDepth 100000 in
theorem c_X_seeded (l : Launch) (w : WP) (F : Nat) (u : Mm) (o : Nat) (a1 : Int32) (a2 : Int32) (a3 : Int32) (out : Int32 × Mm) (h : f_X_seeded F u o a1 a2 a3 = some out) : yMet l m_X_seeded ws_X_seeded ({ frames := 5, cells := 0, slots := 0, locals := 125 } : Room) YX w u [va_re w.1 (some o), .int a1, .int a2, .int a3] yfi out := by
  refine y_entry (own := "WhoseGlass") (lv := [(0, va_re w.1 (some o)), (1, .int a1), (2, .int a2), (3, .int a3)]) (by decide +kernel) rfl (by simp [lv_args, y_cat, y_catI, y_catJ]) (by simp [lg_sl, y_cat, y_catI, y_catJ]) ?_
  intro p e s m args below meth c C hr hlocks
  unfold f_X_seeded at h
  refine y_iload_n C (i := 1) 1 d_X_seeded_0 rfl rfl ?_
  refine y_iconst C (v := 1) d_X_seeded_1 (by decide) ?_
  refine y_ic_lt C 19 d_X_seeded_2 (by decide) h (fun k1 h => ?_) (fun k1 h => ?_)
  · refine y_iconst C (v := -1) d_X_seeded_19 (by decide) ?_
    exact y_iret C hr hlocks d_X_seeded_20 h
  · refine y_iload_n C (i := 1) 1 d_X_seeded_5 rfl rfl ?_
    refine y_bipush C (v := 30) d_X_seeded_6 (by decide) ?_
    refine y_ic_gt C 19 d_X_seeded_8 (by decide) h (fun k2 h => ?_) (fun k2 h => ?_)
    · refine y_iconst C (v := -1) d_X_seeded_19 (by decide) ?_
      exact y_iret C hr hlocks d_X_seeded_20 h
    · refine y_iload_n C (i := 3) 3 d_X_seeded_11 rfl rfl ?_
      refine y_iconst C (v := 2) d_X_seeded_12 (by decide) ?_
      refine y_callS 2 C (fun out hh => c_X_isBelow l w F u a3 (2 : Int32) out hh) (y_gc g_344) g_400 g_1 g_343 hn_X_isBelow ⟨Nat.le_of_ble_eq_true rfl, Nat.le_of_ble_eq_true rfl⟩ rfl rfl rfl rfl (by simp [y_cat, y_catI, y_catJ]) d_X_seeded_13 h (fun x3 u4 h => ?_)
      refine y_stk (stp0 := [.int x3]) rfl ?_
      refine y_if_ne C 21 d_X_seeded_16 (by decide) h (fun k5 h => ?_) (fun k5 h => ?_)
      · refine y_iconst C (v := -1) d_X_seeded_19 (by decide) ?_
        exact y_iret C hr hlocks d_X_seeded_20 h
      · refine y_aload_n C (i := 0) 0 d_X_seeded_21 rfl rfl ?_
        refine y_gr C (q := (yR4, yT4, 5)) (ci := 4) (k := 0) rfl (by decide) rfl (by decide) g_202 d_X_seeded_22 h (fun r6 h => ?_)
        refine y_gi C (q := (yR2, yT2, 9)) (ci := 2) (k := 3) rfl (by decide) rfl g_136 d_X_seeded_25 h (fun x7 h => ?_)
        refine y_if_ne C 34 d_X_seeded_28 (by decide) h (fun k8 h => ?_) (fun k8 h => ?_)
        · refine y_bipush C (v := -3) d_X_seeded_31 (by decide) ?_
          exact y_iret C hr hlocks d_X_seeded_33 h
        · refine y_aload_n C (i := 0) 0 d_X_seeded_34 rfl rfl ?_
          refine y_gr C (q := (yR4, yT4, 5)) (ci := 4) (k := 1) rfl (by decide) rfl (by decide) g_203 d_X_seeded_35 h (fun r9 h => ?_)
          refine y_aload_n C (i := 0) 0 d_X_seeded_38 rfl rfl ?_
          refine y_gr C (q := (yR4, yT4, 5)) (ci := 4) (k := 0) rfl (by decide) rfl (by decide) g_202 d_X_seeded_39 h (fun r10 h => ?_)
          refine y_callV 1 C (q := (yR2, yT2, 9)) (ci := 2) (fun t out hh => c_H_become l w F u4 t r10 out hh) gc_X_seeded_50 rfl (by decide) hd_H_become ⟨Nat.le_of_ble_eq_true rfl, Nat.le_of_ble_eq_true rfl⟩ rfl rfl rfl rfl (by simp [y_cat, y_catI, y_catJ]) d_X_seeded_42 h (fun v11 u12 h => ?_)
          refine y_stk (stp0 := []) rfl ?_
          refine y_iload_n C (i := 2) 2 d_X_seeded_45 rfl rfl ?_
          refine y_istore C (i := 4) (lvp := [(0, va_re w.1 (some o)), (1, .int a1), (2, .int a2), (3, .int a3)]) d_X_seeded_46 (by decide) rfl ?_
          refine y_iconst C (v := 0) d_X_seeded_48 (by decide) ?_
          refine y_istore C (i := 5) (lvp := [(4, .int a2), (0, va_re w.1 (some o)), (1, .int a1), (2, .int a2), (3, .int a3)]) d_X_seeded_49 (by decide) rfl ?_
          refine y_sub [2, 3, 5, 1, 0] rfl (w_X_seeded_L51 F C hr hlocks _ _ _ _ (fun u21 h => ?_) _ _ _ _ h)
          refine y_iload_n C (i := 3) 1 d_X_seeded_82 rfl rfl ?_
          refine y_if_ne C 96 d_X_seeded_83 (by decide) h (fun k22 h => ?_) (fun k22 h => ?_)
          · refine y_aload_n C (i := 0) 0 d_X_seeded_86 rfl rfl ?_
            refine y_gr C (q := (yR4, yT4, 5)) (ci := 4) (k := 1) rfl (by decide) rfl (by decide) g_203 d_X_seeded_87 h (fun r23 h => ?_)
            refine y_gi C (q := (yR2, yT2, 9)) (ci := 2) (k := 6) rfl (by decide) rfl g_144 d_X_seeded_90 h (fun x24 h => ?_)
            refine y_goto C (tgt := 103) d_X_seeded_93 (by decide) ?_
            exact y_iret C hr hlocks d_X_seeded_103 h
          · refine y_aload_n C (i := 0) 0 d_X_seeded_96 rfl rfl ?_
            refine y_gr C (q := (yR4, yT4, 5)) (ci := 4) (k := 1) rfl (by decide) rfl (by decide) g_203 d_X_seeded_97 h (fun r25 h => ?_)
            refine y_gi C (q := (yR2, yT2, 9)) (ci := 2) (k := 7) rfl (by decide) rfl g_146 d_X_seeded_100 h (fun x26 h => ?_)
            exact y_iret C hr hlocks d_X_seeded_103 h
