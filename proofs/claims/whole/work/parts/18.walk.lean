/-! M_oldest -/
theorem d_M_oldest_0 : decode prog_8_method_56_code 0 = .ok (.aload_n 0, 1) := by decide +kernel
theorem d_M_oldest_1 : decode prog_8_method_56_code 1 = .ok (.iconst 0, 1) := by decide +kernel
theorem d_M_oldest_2 : decode prog_8_method_56_code 2 = .ok (.putfield 102, 3) := by decide +kernel
theorem d_M_oldest_5 : decode prog_8_method_56_code 5 = .ok (.iload_n 1, 1) := by decide +kernel
theorem d_M_oldest_6 : decode prog_8_method_56_code 6 = .ok (.invokestatic 265, 3) := by decide +kernel
theorem d_M_oldest_9 : decode prog_8_method_56_code 9 = .ok (.ifCond .ne 5, 3) := by decide +kernel
theorem d_M_oldest_12 : decode prog_8_method_56_code 12 = .ok (.iconst (-1), 1) := by decide +kernel
theorem d_M_oldest_13 : decode prog_8_method_56_code 13 = .ok (.ireturn, 1) := by decide +kernel
theorem d_M_oldest_14 : decode prog_8_method_56_code 14 = .ok (.bipush (-4), 2) := by decide +kernel
theorem d_M_oldest_16 : decode prog_8_method_56_code 16 = .ok (.istore_n 2, 1) := by decide +kernel
theorem d_M_oldest_17 : decode prog_8_method_56_code 17 = .ok (.iconst 0, 1) := by decide +kernel
theorem d_M_oldest_18 : decode prog_8_method_56_code 18 = .ok (.istore_n 3, 1) := by decide +kernel
theorem d_M_oldest_19 : decode prog_8_method_56_code 19 = .ok (.iload_n 3, 1) := by decide +kernel
theorem d_M_oldest_20 : decode prog_8_method_56_code 20 = .ok (.aload_n 0, 1) := by decide +kernel
theorem d_M_oldest_21 : decode prog_8_method_56_code 21 = .ok (.getfield 105, 3) := by decide +kernel
theorem d_M_oldest_24 : decode prog_8_method_56_code 24 = .ok (.if_icmp .ge 44, 3) := by decide +kernel
theorem d_M_oldest_27 : decode prog_8_method_56_code 27 = .ok (.aload_n 0, 1) := by decide +kernel
theorem d_M_oldest_28 : decode prog_8_method_56_code 28 = .ok (.getfield 23, 3) := by decide +kernel
theorem d_M_oldest_31 : decode prog_8_method_56_code 31 = .ok (.iload_n 3, 1) := by decide +kernel
theorem d_M_oldest_32 : decode prog_8_method_56_code 32 = .ok (.iaload, 1) := by decide +kernel
theorem d_M_oldest_33 : decode prog_8_method_56_code 33 = .ok (.iload_n 1, 1) := by decide +kernel
theorem d_M_oldest_34 : decode prog_8_method_56_code 34 = .ok (.if_icmp .ne 26, 3) := by decide +kernel
theorem d_M_oldest_37 : decode prog_8_method_56_code 37 = .ok (.iload_n 2, 1) := by decide +kernel
theorem d_M_oldest_38 : decode prog_8_method_56_code 38 = .ok (.ifCond .lt 18, 3) := by decide +kernel
theorem d_M_oldest_41 : decode prog_8_method_56_code 41 = .ok (.aload_n 0, 1) := by decide +kernel
theorem d_M_oldest_42 : decode prog_8_method_56_code 42 = .ok (.getfield 26, 3) := by decide +kernel
theorem d_M_oldest_45 : decode prog_8_method_56_code 45 = .ok (.iload_n 3, 1) := by decide +kernel
theorem d_M_oldest_46 : decode prog_8_method_56_code 46 = .ok (.iaload, 1) := by decide +kernel
theorem d_M_oldest_47 : decode prog_8_method_56_code 47 = .ok (.aload_n 0, 1) := by decide +kernel
theorem d_M_oldest_48 : decode prog_8_method_56_code 48 = .ok (.getfield 26, 3) := by decide +kernel
theorem d_M_oldest_51 : decode prog_8_method_56_code 51 = .ok (.iload_n 2, 1) := by decide +kernel
theorem d_M_oldest_52 : decode prog_8_method_56_code 52 = .ok (.iaload, 1) := by decide +kernel
theorem d_M_oldest_53 : decode prog_8_method_56_code 53 = .ok (.if_icmp .ge 7, 3) := by decide +kernel
theorem d_M_oldest_56 : decode prog_8_method_56_code 56 = .ok (.iload_n 3, 1) := by decide +kernel
theorem d_M_oldest_57 : decode prog_8_method_56_code 57 = .ok (.goto 4, 3) := by decide +kernel
theorem d_M_oldest_60 : decode prog_8_method_56_code 60 = .ok (.iload_n 2, 1) := by decide +kernel
theorem d_M_oldest_61 : decode prog_8_method_56_code 61 = .ok (.istore_n 2, 1) := by decide +kernel
theorem d_M_oldest_62 : decode prog_8_method_56_code 62 = .ok (.iinc 3 1, 3) := by decide +kernel
theorem d_M_oldest_65 : decode prog_8_method_56_code 65 = .ok (.goto (-46), 3) := by decide +kernel
theorem d_M_oldest_68 : decode prog_8_method_56_code 68 = .ok (.iload_n 2, 1) := by decide +kernel
theorem d_M_oldest_69 : decode prog_8_method_56_code 69 = .ok (.ireturn, 1) := by decide +kernel
set_option maxHeartbeats 4000000 in
set_option maxRecDepth 100000 in
def f_M_oldest_L19 (F : Nat) (a0 : Option Nat) (a1 : Int32) (k : Mm → Int32 → Option (Int32 × Mm)) : Nat → Mm → Int32 → Int32 → Option (Int32 × Mm)
  | 0, _, _, _ => none
  | n + 1, u, a2, a3 => ob (jgi YM 5 0 u a0) fun (x5 : Int32) => (if x5 ≤ a3 then k u a2 else ob (jgr YM 5 7 a0) fun (r7 : Option Nat) => ob (jal YM u r7 a3) fun (x8 : Int32) => ob ((if x8 = a1 then (if a2 < 0 then some a3 else ob (jgr YM 5 8 a0) fun (r12 : Option Nat) => ob (jal YM u r12 a3) fun (x13 : Int32) => ob (jgr YM 5 8 a0) fun (r14 : Option Nat) => ob (jal YM u r14 a2) fun (x15 : Int32) => (if x15 ≤ x13 then some a2 else some a3)) else some a2) : Option (Int32)) fun q9 => ob (some (a3 + (1 : Int32))) fun (x17 : Int32) => f_M_oldest_L19 F a0 a1 k n u q9 x17)
set_option maxHeartbeats 4000000 in
set_option maxRecDepth 100000 in
theorem w_M_oldest_L19 {p : Program} {l : Launch} {e : Env} {s : State} {m : MethodId} {args : Array Value} {below : List Frame} {meth : Method} {c : Code} {w : WP} {Q : State → Prop} (F : Nat) (C : yX p e ({ frames := 2, cells := 0, slots := 0, locals := 45 } : Room) s m args c YM w 4 prog_8_method_56_code "WhoseGlassModel") (hr : meth.sig.returnType = (some .int)) (hlocks : meth.locks = false) (a0 : Option Nat) (a1 : Int32) {out : Int32 × Mm} (k : Mm → Int32 → Option (Int32 × Mm)) (hk : ∀ (u : Mm) (a2 : Int32), k u a2 = some out → yG p l e ({ frames := 2, cells := 0, slots := 0, locals := 45 } : Room) s m args below meth c YM w 4 Q u 68 [(2, .int a2)] []) : ∀ (n : Nat) (u : Mm) (a2 : Int32) (a3 : Int32), f_M_oldest_L19 F a0 a1 k n u a2 a3 = some out → yG p l e ({ frames := 2, cells := 0, slots := 0, locals := 45 } : Room) s m args below meth c YM w 4 Q u 19 [(0, va_re w.1 a0), (1, .int a1), (2, .int a2), (3, .int a3)] [] := by
  intro n
  induction n with
  | zero => intro u a2 a3 h; rw [f_M_oldest_L19] at h; cases h
  | succ n ih =>
    intro u a2 a3 h
    rw [f_M_oldest_L19] at h
    refine y_iload_n C (i := 3) 3 d_M_oldest_19 rfl rfl ?_
    refine y_aload_n C (i := 0) 0 d_M_oldest_20 rfl rfl ?_
    refine y_gi C (q := (yR5, yT5, 46)) (ci := 5) (k := 0) rfl (by decide) rfl g_784 d_M_oldest_21 h (fun x5 h => ?_)
    refine y_ic_ge C 68 d_M_oldest_24 (by decide) h (fun k6 h => ?_) (fun k6 h => ?_)
    · exact y_sub [2] rfl (hk _ _ h)
    · refine y_aload_n C (i := 0) 0 d_M_oldest_27 rfl rfl ?_
      refine y_gr C (q := (yR5, yT5, 46)) (ci := 5) (k := 7) rfl (by decide) rfl (by decide) g_791 d_M_oldest_28 h (fun r7 h => ?_)
      refine y_iload_n C (i := 3) 3 d_M_oldest_31 rfl rfl ?_
      refine y_al C d_M_oldest_32 h (fun x8 h => ?_)
      refine y_iload_n C (i := 1) 1 d_M_oldest_33 rfl rfl ?_
      obtain ⟨q9, hq9, h⟩ := ob_e h
      have hJq9 : yG p l e ({ frames := 2, cells := 0, slots := 0, locals := 45 } : Room) s m args below meth c YM w 4 Q u 61 [(0, va_re w.1 a0), (1, .int a1), (3, .int a3)] [.int q9] := by
        refine y_istore_n C (i := 2) (lvp := [(0, va_re w.1 a0), (1, .int a1), (3, .int a3)]) d_M_oldest_61 rfl (by decide) rfl ?_
        refine y_iinc C (j := 3) (v := 1) (lvp := [(2, .int q9), (0, va_re w.1 a0), (1, .int a1)]) d_M_oldest_62 rfl (by decide) (by decide) rfl h (fun x17 h => ?_)
        refine y_goto C (tgt := 19) d_M_oldest_65 (by decide) ?_
        exact y_sub [2, 3, 1, 0] rfl (ih _ _ _ h)
      refine y_ic_ne C 60 d_M_oldest_34 (by decide) hq9 (fun k10 hq9 => ?_) (fun k10 hq9 => ?_)
      · refine y_iload_n C (i := 2) 2 d_M_oldest_37 rfl rfl ?_
        refine y_if_lt C 56 d_M_oldest_38 (by decide) hq9 (fun k11 hq9 => ?_) (fun k11 hq9 => ?_)
        · refine y_iload_n C (i := 3) 3 d_M_oldest_56 rfl rfl ?_
          refine y_goto C (tgt := 61) d_M_oldest_57 (by decide) ?_
          cases hq9
          exact y_sub [0, 1, 3] rfl hJq9
        · refine y_aload_n C (i := 0) 0 d_M_oldest_41 rfl rfl ?_
          refine y_gr C (q := (yR5, yT5, 46)) (ci := 5) (k := 8) rfl (by decide) rfl (by decide) g_792 d_M_oldest_42 hq9 (fun r12 hq9 => ?_)
          refine y_iload_n C (i := 3) 3 d_M_oldest_45 rfl rfl ?_
          refine y_al C d_M_oldest_46 hq9 (fun x13 hq9 => ?_)
          refine y_aload_n C (i := 0) 0 d_M_oldest_47 rfl rfl ?_
          refine y_gr C (q := (yR5, yT5, 46)) (ci := 5) (k := 8) rfl (by decide) rfl (by decide) g_792 d_M_oldest_48 hq9 (fun r14 hq9 => ?_)
          refine y_iload_n C (i := 2) 2 d_M_oldest_51 rfl rfl ?_
          refine y_al C d_M_oldest_52 hq9 (fun x15 hq9 => ?_)
          refine y_ic_ge C 60 d_M_oldest_53 (by decide) hq9 (fun k16 hq9 => ?_) (fun k16 hq9 => ?_)
          · refine y_iload_n C (i := 2) 2 d_M_oldest_60 rfl rfl ?_
            cases hq9
            exact y_sub [0, 1, 3] rfl hJq9
          · refine y_iload_n C (i := 3) 3 d_M_oldest_56 rfl rfl ?_
            refine y_goto C (tgt := 61) d_M_oldest_57 (by decide) ?_
            cases hq9
            exact y_sub [0, 1, 3] rfl hJq9
      · refine y_iload_n C (i := 2) 2 d_M_oldest_60 rfl rfl ?_
        cases hq9
        exact y_sub [0, 1, 3] rfl hJq9
set_option maxRecDepth 100000 in
def f_M_oldest (F : Nat) (u : Mm) (o : Nat) (a1 : Int32) : Option (Int32 × Mm) := ob (jpi YM 5 23 u (some o) (0 : Int32)) fun (u1 : Mm) => yb (f_M_isPlace F u1 a1) fun x2 u3 => (if x2 = 0 then some ((-1 : Int32), u3) else f_M_oldest_L19 F (some o) a1 (fun (u18 : Mm) (x19 : Int32) => some (x19, u18)) F u3 (-4 : Int32) (0 : Int32))
set_option maxHeartbeats 4000000 in
set_option maxRecDepth 100000 in
theorem c_M_oldest (l : Launch) (w : WP) (F : Nat) (u : Mm) (o : Nat) (a1 : Int32) (out : Int32 × Mm) (h : f_M_oldest F u o a1 = some out) : yMet l m_M_oldest ws_M_oldest ({ frames := 2, cells := 0, slots := 0, locals := 45 } : Room) YM w u [va_re w.1 (some o), .int a1] yfi out := by
  refine y_entry (own := "WhoseGlassModel") (lv := [(0, va_re w.1 (some o)), (1, .int a1)]) (by decide +kernel) rfl (by simp [lv_args, y_cat, y_catI, y_catJ]) (by simp [lg_sl, y_cat, y_catI, y_catJ]) ?_
  intro p e s m args below meth c C hr hlocks
  unfold f_M_oldest at h
  refine y_aload_n C (i := 0) 0 d_M_oldest_0 rfl rfl ?_
  refine y_iconst C (v := 0) d_M_oldest_1 (by decide) ?_
  refine y_pi C (q := (yR5, yT5, 46)) (ci := 5) (k := 23) rfl (by decide) rfl rfl (by decide +kernel) g_807 d_M_oldest_2 h (fun u1 h => ?_)
  refine y_iload_n C (i := 1) 1 d_M_oldest_5 rfl rfl ?_
  refine y_callS 1 C (fun out hh => c_M_isPlace l w F u1 a1 out hh) (y_gc g_1086) g_1084 g_6 g_1085 hn_M_isPlace ⟨Nat.le_of_ble_eq_true rfl, Nat.le_of_ble_eq_true rfl⟩ rfl rfl rfl rfl (by simp [y_cat, y_catI, y_catJ]) d_M_oldest_6 h (fun x2 u3 h => ?_)
  refine y_stk (stp0 := [.int x2]) rfl ?_
  refine y_if_ne C 14 d_M_oldest_9 (by decide) h (fun k4 h => ?_) (fun k4 h => ?_)
  · refine y_iconst C (v := -1) d_M_oldest_12 (by decide) ?_
    exact y_iret C hr hlocks d_M_oldest_13 h
  · refine y_bipush C (v := -4) d_M_oldest_14 (by decide) ?_
    refine y_istore_n C (i := 2) (lvp := [(0, va_re w.1 (some o)), (1, .int a1)]) d_M_oldest_16 rfl (by decide) rfl ?_
    refine y_iconst C (v := 0) d_M_oldest_17 (by decide) ?_
    refine y_istore_n C (i := 3) (lvp := [(2, .int (-4 : Int32)), (0, va_re w.1 (some o)), (1, .int a1)]) d_M_oldest_18 rfl (by decide) rfl ?_
    refine y_sub [2, 3, 1, 0] rfl (w_M_oldest_L19 F C hr hlocks _ _ _ (fun u18 x19 h => ?_) _ _ _ _ h)
    refine y_iload_n C (i := 2) 0 d_M_oldest_68 rfl rfl ?_
    exact y_iret C hr hlocks d_M_oldest_69 h
/-! M_isMinutes -/
theorem d_M_isMinutes_0 : decode prog_8_method_7_code 0 = .ok (.iload_n 0, 1) := by decide +kernel
theorem d_M_isMinutes_1 : decode prog_8_method_7_code 1 = .ok (.i2l, 1) := by decide +kernel
theorem d_M_isMinutes_2 : decode prog_8_method_7_code 2 = .ok (.lconst 0, 1) := by decide +kernel
theorem d_M_isMinutes_3 : decode prog_8_method_7_code 3 = .ok (.ldc2_w 117, 3) := by decide +kernel
theorem d_M_isMinutes_6 : decode prog_8_method_7_code 6 = .ok (.invokestatic 108, 3) := by decide +kernel
theorem d_M_isMinutes_9 : decode prog_8_method_7_code 9 = .ok (.ireturn, 1) := by decide +kernel
set_option maxRecDepth 100000 in
def f_M_isMinutes (F : Nat) (u : Mm) (a0 : Int32) : Option (Int32 × Mm) := yb (f_M_in F u (a0.toInt64) (0 : Int64) (60 : Int64)) fun x1 u2 => ob (jz x1) (fun v => some (v, u2))
set_option maxHeartbeats 4000000 in
set_option maxRecDepth 100000 in
theorem c_M_isMinutes (l : Launch) (w : WP) (F : Nat) (u : Mm) (a0 : Int32) (out : Int32 × Mm) (h : f_M_isMinutes F u a0 = some out) : yMet l m_M_isMinutes ws_M_isMinutes ({ frames := 1, cells := 0, slots := 0, locals := 25 } : Room) YM w u [.int a0] yfi out := by
  refine y_entry (own := "WhoseGlassModel") (lv := [(0, .int a0)]) (by decide +kernel) rfl (by simp [lv_args, y_cat, y_catI, y_catJ]) (by simp [lg_sl, y_cat, y_catI, y_catJ]) ?_
  intro p e s m args below meth c C hr hlocks
  unfold f_M_isMinutes at h
  refine y_iload_n C (i := 0) 0 d_M_isMinutes_0 rfl rfl ?_
  refine y_i2l C d_M_isMinutes_1 ?_
  refine y_lconst C (v := 0) d_M_isMinutes_2 (by decide) ?_
  refine y_ldc2 C d_M_isMinutes_3 g_1159 ?_
  refine y_callS 3 C (fun out hh => c_M_in l w F u (a0.toInt64) (0 : Int64) (60 : Int64) out hh) (y_gc g_959) g_957 g_6 g_958 hn_M_in ⟨Nat.le_of_ble_eq_true rfl, Nat.le_of_ble_eq_true rfl⟩ rfl rfl rfl rfl (by simp [y_cat, y_catI, y_catJ]) d_M_isMinutes_6 h (fun x1 u2 h => ?_)
  refine y_stk (stp0 := [.int x1]) rfl ?_
  exact y_zret C hr hlocks d_M_isMinutes_9 h
/-! M_mistakes -/
theorem d_M_mistakes_0 : decode prog_8_method_58_code 0 = .ok (.aload_n 0, 1) := by decide +kernel
theorem d_M_mistakes_1 : decode prog_8_method_58_code 1 = .ok (.iconst 0, 1) := by decide +kernel
theorem d_M_mistakes_2 : decode prog_8_method_58_code 2 = .ok (.putfield 102, 3) := by decide +kernel
theorem d_M_mistakes_5 : decode prog_8_method_58_code 5 = .ok (.iload_n 1, 1) := by decide +kernel
theorem d_M_mistakes_6 : decode prog_8_method_58_code 6 = .ok (.invokestatic 282, 3) := by decide +kernel
theorem d_M_mistakes_9 : decode prog_8_method_58_code 9 = .ok (.ifCond .ne 5, 3) := by decide +kernel
theorem d_M_mistakes_12 : decode prog_8_method_58_code 12 = .ok (.iconst (-1), 1) := by decide +kernel
theorem d_M_mistakes_13 : decode prog_8_method_58_code 13 = .ok (.ireturn, 1) := by decide +kernel
theorem d_M_mistakes_14 : decode prog_8_method_58_code 14 = .ok (.aload_n 0, 1) := by decide +kernel
theorem d_M_mistakes_15 : decode prog_8_method_58_code 15 = .ok (.invokevirtual 250, 3) := by decide +kernel
theorem d_M_mistakes_18 : decode prog_8_method_58_code 18 = .ok (.aload_n 0, 1) := by decide +kernel
theorem d_M_mistakes_19 : decode prog_8_method_58_code 19 = .ok (.iload_n 1, 1) := by decide +kernel
theorem d_M_mistakes_20 : decode prog_8_method_58_code 20 = .ok (.invokevirtual 276, 3) := by decide +kernel
theorem d_M_mistakes_23 : decode prog_8_method_58_code 23 = .ok (.aload_n 0, 1) := by decide +kernel
theorem d_M_mistakes_24 : decode prog_8_method_58_code 24 = .ok (.invokevirtual 256, 3) := by decide +kernel
theorem d_M_mistakes_27 : decode prog_8_method_58_code 27 = .ok (.aload_n 0, 1) := by decide +kernel
theorem d_M_mistakes_28 : decode prog_8_method_58_code 28 = .ok (.getfield 146, 3) := by decide +kernel
theorem d_M_mistakes_31 : decode prog_8_method_58_code 31 = .ok (.ireturn, 1) := by decide +kernel
theorem gc_M_mistakes_250 : GoodIn yGW (wsV "WhoseGlassModel" 250 yR5 m_M_open ws_M_open) := y_gV g_978 g_980 gs_19 g_6 g_981
theorem gc_M_mistakes_276 : GoodIn yGW (wsV "WhoseGlassModel" 276 yR5 m_M_goThrough ws_M_goThrough) := y_gV g_1125 g_1127 gs_44 g_6 g_1128
theorem gc_M_mistakes_256 : GoodIn yGW (wsV "WhoseGlassModel" 256 yR5 m_M_again ws_M_again) := y_gV g_1066 g_1068 gs_41 g_6 g_1069
set_option maxRecDepth 100000 in
def f_M_mistakes (F : Nat) (u : Mm) (o : Nat) (a1 : Int32) : Option (Int32 × Mm) := ob (jpi YM 5 23 u (some o) (0 : Int32)) fun (u1 : Mm) => yb (f_M_isMinutes F u1 a1) fun x2 u3 => (if x2 = 0 then some ((-1 : Int32), u3) else ob (jk YM 5 (some o)) fun t => yb (f_M_open F u3 t ) fun v5 u6 => ob (jk YM 5 (some o)) fun t => yb (f_M_goThrough F u6 t a1) fun v7 u8 => ob (jk YM 5 (some o)) fun t => yb (f_M_again F u8 t ) fun v9 u10 => ob (jgi YM 5 20 u10 (some o)) fun (x11 : Int32) => some (x11, u10))
set_option maxHeartbeats 4000000 in
set_option maxRecDepth 100000 in
theorem c_M_mistakes (l : Launch) (w : WP) (F : Nat) (u : Mm) (o : Nat) (a1 : Int32) (out : Int32 × Mm) (h : f_M_mistakes F u o a1 = some out) : yMet l m_M_mistakes ws_M_mistakes ({ frames := 8, cells := 0, slots := 0, locals := 181 } : Room) YM w u [va_re w.1 (some o), .int a1] yfi out := by
  refine y_entry (own := "WhoseGlassModel") (lv := [(0, va_re w.1 (some o)), (1, .int a1)]) (by decide +kernel) rfl (by simp [lv_args, y_cat, y_catI, y_catJ]) (by simp [lg_sl, y_cat, y_catI, y_catJ]) ?_
  intro p e s m args below meth c C hr hlocks
  unfold f_M_mistakes at h
  refine y_aload_n C (i := 0) 0 d_M_mistakes_0 rfl rfl ?_
  refine y_iconst C (v := 0) d_M_mistakes_1 (by decide) ?_
  refine y_pi C (q := (yR5, yT5, 46)) (ci := 5) (k := 23) rfl (by decide) rfl rfl (by decide +kernel) g_807 d_M_mistakes_2 h (fun u1 h => ?_)
  refine y_iload_n C (i := 1) 1 d_M_mistakes_5 rfl rfl ?_
  refine y_callS 1 C (fun out hh => c_M_isMinutes l w F u1 a1 out hh) (y_gc g_1158) g_1156 g_6 g_1157 hn_M_isMinutes ⟨Nat.le_of_ble_eq_true rfl, Nat.le_of_ble_eq_true rfl⟩ rfl rfl rfl rfl (by simp [y_cat, y_catI, y_catJ]) d_M_mistakes_6 h (fun x2 u3 h => ?_)
  refine y_stk (stp0 := [.int x2]) rfl ?_
  refine y_if_ne C 14 d_M_mistakes_9 (by decide) h (fun k4 h => ?_) (fun k4 h => ?_)
  · refine y_iconst C (v := -1) d_M_mistakes_12 (by decide) ?_
    exact y_iret C hr hlocks d_M_mistakes_13 h
  · refine y_aload_n C (i := 0) 0 d_M_mistakes_14 rfl rfl ?_
    refine y_callV 0 C (q := (yR5, yT5, 46)) (ci := 5) (fun t out hh => c_M_open l w F u3 t out hh) gc_M_mistakes_250 rfl (by decide) hd_M_open ⟨Nat.le_of_ble_eq_true rfl, Nat.le_of_ble_eq_true rfl⟩ rfl rfl rfl rfl (by simp [y_cat, y_catI, y_catJ]) d_M_mistakes_15 h (fun v5 u6 h => ?_)
    refine y_stk (stp0 := []) rfl ?_
    refine y_aload_n C (i := 0) 0 d_M_mistakes_18 rfl rfl ?_
    refine y_iload_n C (i := 1) 1 d_M_mistakes_19 rfl rfl ?_
    refine y_callV 1 C (q := (yR5, yT5, 46)) (ci := 5) (fun t out hh => c_M_goThrough l w F u6 t a1 out hh) gc_M_mistakes_276 rfl (by decide) hd_M_goThrough ⟨Nat.le_of_ble_eq_true rfl, Nat.le_of_ble_eq_true rfl⟩ rfl rfl rfl rfl (by simp [y_cat, y_catI, y_catJ]) d_M_mistakes_20 h (fun v7 u8 h => ?_)
    refine y_stk (stp0 := []) rfl ?_
    refine y_aload_n C (i := 0) 0 d_M_mistakes_23 rfl rfl ?_
    refine y_callV 0 C (q := (yR5, yT5, 46)) (ci := 5) (fun t out hh => c_M_again l w F u8 t out hh) gc_M_mistakes_256 rfl (by decide) hd_M_again ⟨Nat.le_of_ble_eq_true rfl, Nat.le_of_ble_eq_true rfl⟩ rfl rfl rfl rfl (by simp [y_cat, y_catI, y_catJ]) d_M_mistakes_24 h (fun v9 u10 h => ?_)
    refine y_stk (stp0 := []) rfl ?_
    refine y_aload_n C (i := 0) 0 d_M_mistakes_27 rfl rfl ?_
    refine y_gi C (q := (yR5, yT5, 46)) (ci := 5) (k := 20) rfl (by decide) rfl g_804 d_M_mistakes_28 h (fun x11 h => ?_)
    exact y_iret C hr hlocks d_M_mistakes_31 h
/-! M_fresh -/
theorem d_M_fresh_0 : decode prog_8_method_59_code 0 = .ok (.aload_n 0, 1) := by decide +kernel
theorem d_M_fresh_1 : decode prog_8_method_59_code 1 = .ok (.iconst 0, 1) := by decide +kernel
theorem d_M_fresh_2 : decode prog_8_method_59_code 2 = .ok (.putfield 102, 3) := by decide +kernel
theorem d_M_fresh_5 : decode prog_8_method_59_code 5 = .ok (.iload_n 1, 1) := by decide +kernel
theorem d_M_fresh_6 : decode prog_8_method_59_code 6 = .ok (.invokestatic 282, 3) := by decide +kernel
theorem d_M_fresh_9 : decode prog_8_method_59_code 9 = .ok (.ifCond .ne 5, 3) := by decide +kernel
theorem d_M_fresh_12 : decode prog_8_method_59_code 12 = .ok (.iconst (-1), 1) := by decide +kernel
theorem d_M_fresh_13 : decode prog_8_method_59_code 13 = .ok (.ireturn, 1) := by decide +kernel
theorem d_M_fresh_14 : decode prog_8_method_59_code 14 = .ok (.aload_n 0, 1) := by decide +kernel
theorem d_M_fresh_15 : decode prog_8_method_59_code 15 = .ok (.invokevirtual 250, 3) := by decide +kernel
theorem d_M_fresh_18 : decode prog_8_method_59_code 18 = .ok (.aload_n 0, 1) := by decide +kernel
theorem d_M_fresh_19 : decode prog_8_method_59_code 19 = .ok (.iload_n 1, 1) := by decide +kernel
theorem d_M_fresh_20 : decode prog_8_method_59_code 20 = .ok (.invokevirtual 276, 3) := by decide +kernel
theorem d_M_fresh_23 : decode prog_8_method_59_code 23 = .ok (.aload_n 0, 1) := by decide +kernel
theorem d_M_fresh_24 : decode prog_8_method_59_code 24 = .ok (.invokevirtual 256, 3) := by decide +kernel
theorem d_M_fresh_27 : decode prog_8_method_59_code 27 = .ok (.aload_n 0, 1) := by decide +kernel
theorem d_M_fresh_28 : decode prog_8_method_59_code 28 = .ok (.getfield 157, 3) := by decide +kernel
theorem d_M_fresh_31 : decode prog_8_method_59_code 31 = .ok (.ireturn, 1) := by decide +kernel
theorem gc_M_fresh_250 : GoodIn yGW (wsV "WhoseGlassModel" 250 yR5 m_M_open ws_M_open) := y_gV g_978 g_980 gs_19 g_6 g_981
theorem gc_M_fresh_276 : GoodIn yGW (wsV "WhoseGlassModel" 276 yR5 m_M_goThrough ws_M_goThrough) := y_gV g_1125 g_1127 gs_44 g_6 g_1128
theorem gc_M_fresh_256 : GoodIn yGW (wsV "WhoseGlassModel" 256 yR5 m_M_again ws_M_again) := y_gV g_1066 g_1068 gs_41 g_6 g_1069
set_option maxRecDepth 100000 in
def f_M_fresh (F : Nat) (u : Mm) (o : Nat) (a1 : Int32) : Option (Int32 × Mm) := ob (jpi YM 5 23 u (some o) (0 : Int32)) fun (u1 : Mm) => yb (f_M_isMinutes F u1 a1) fun x2 u3 => (if x2 = 0 then some ((-1 : Int32), u3) else ob (jk YM 5 (some o)) fun t => yb (f_M_open F u3 t ) fun v5 u6 => ob (jk YM 5 (some o)) fun t => yb (f_M_goThrough F u6 t a1) fun v7 u8 => ob (jk YM 5 (some o)) fun t => yb (f_M_again F u8 t ) fun v9 u10 => ob (jgi YM 5 21 u10 (some o)) fun (x11 : Int32) => some (x11, u10))
set_option maxHeartbeats 4000000 in
set_option maxRecDepth 100000 in
theorem c_M_fresh (l : Launch) (w : WP) (F : Nat) (u : Mm) (o : Nat) (a1 : Int32) (out : Int32 × Mm) (h : f_M_fresh F u o a1 = some out) : yMet l m_M_fresh ws_M_fresh ({ frames := 8, cells := 0, slots := 0, locals := 181 } : Room) YM w u [va_re w.1 (some o), .int a1] yfi out := by
  refine y_entry (own := "WhoseGlassModel") (lv := [(0, va_re w.1 (some o)), (1, .int a1)]) (by decide +kernel) rfl (by simp [lv_args, y_cat, y_catI, y_catJ]) (by simp [lg_sl, y_cat, y_catI, y_catJ]) ?_
  intro p e s m args below meth c C hr hlocks
  unfold f_M_fresh at h
  refine y_aload_n C (i := 0) 0 d_M_fresh_0 rfl rfl ?_
  refine y_iconst C (v := 0) d_M_fresh_1 (by decide) ?_
  refine y_pi C (q := (yR5, yT5, 46)) (ci := 5) (k := 23) rfl (by decide) rfl rfl (by decide +kernel) g_807 d_M_fresh_2 h (fun u1 h => ?_)
  refine y_iload_n C (i := 1) 1 d_M_fresh_5 rfl rfl ?_
  refine y_callS 1 C (fun out hh => c_M_isMinutes l w F u1 a1 out hh) (y_gc g_1158) g_1156 g_6 g_1157 hn_M_isMinutes ⟨Nat.le_of_ble_eq_true rfl, Nat.le_of_ble_eq_true rfl⟩ rfl rfl rfl rfl (by simp [y_cat, y_catI, y_catJ]) d_M_fresh_6 h (fun x2 u3 h => ?_)
  refine y_stk (stp0 := [.int x2]) rfl ?_
  refine y_if_ne C 14 d_M_fresh_9 (by decide) h (fun k4 h => ?_) (fun k4 h => ?_)
  · refine y_iconst C (v := -1) d_M_fresh_12 (by decide) ?_
    exact y_iret C hr hlocks d_M_fresh_13 h
  · refine y_aload_n C (i := 0) 0 d_M_fresh_14 rfl rfl ?_
    refine y_callV 0 C (q := (yR5, yT5, 46)) (ci := 5) (fun t out hh => c_M_open l w F u3 t out hh) gc_M_fresh_250 rfl (by decide) hd_M_open ⟨Nat.le_of_ble_eq_true rfl, Nat.le_of_ble_eq_true rfl⟩ rfl rfl rfl rfl (by simp [y_cat, y_catI, y_catJ]) d_M_fresh_15 h (fun v5 u6 h => ?_)
    refine y_stk (stp0 := []) rfl ?_
    refine y_aload_n C (i := 0) 0 d_M_fresh_18 rfl rfl ?_
    refine y_iload_n C (i := 1) 1 d_M_fresh_19 rfl rfl ?_
    refine y_callV 1 C (q := (yR5, yT5, 46)) (ci := 5) (fun t out hh => c_M_goThrough l w F u6 t a1 out hh) gc_M_fresh_276 rfl (by decide) hd_M_goThrough ⟨Nat.le_of_ble_eq_true rfl, Nat.le_of_ble_eq_true rfl⟩ rfl rfl rfl rfl (by simp [y_cat, y_catI, y_catJ]) d_M_fresh_20 h (fun v7 u8 h => ?_)
    refine y_stk (stp0 := []) rfl ?_
    refine y_aload_n C (i := 0) 0 d_M_fresh_23 rfl rfl ?_
    refine y_callV 0 C (q := (yR5, yT5, 46)) (ci := 5) (fun t out hh => c_M_again l w F u8 t out hh) gc_M_fresh_256 rfl (by decide) hd_M_again ⟨Nat.le_of_ble_eq_true rfl, Nat.le_of_ble_eq_true rfl⟩ rfl rfl rfl rfl (by simp [y_cat, y_catI, y_catJ]) d_M_fresh_24 h (fun v9 u10 h => ?_)
    refine y_stk (stp0 := []) rfl ?_
    refine y_aload_n C (i := 0) 0 d_M_fresh_27 rfl rfl ?_
    refine y_gi C (q := (yR5, yT5, 46)) (ci := 5) (k := 21) rfl (by decide) rfl g_805 d_M_fresh_28 h (fun x11 h => ?_)
    exact y_iret C hr hlocks d_M_fresh_31 h
/-! M_coldBits -/
theorem d_M_coldBits_0 : decode prog_8_method_57_code 0 = .ok (.iconst 0, 1) := by decide +kernel
theorem d_M_coldBits_1 : decode prog_8_method_57_code 1 = .ok (.istore_n 1, 1) := by decide +kernel
theorem d_M_coldBits_2 : decode prog_8_method_57_code 2 = .ok (.iconst 0, 1) := by decide +kernel
theorem d_M_coldBits_3 : decode prog_8_method_57_code 3 = .ok (.istore_n 2, 1) := by decide +kernel
theorem d_M_coldBits_4 : decode prog_8_method_57_code 4 = .ok (.iload_n 2, 1) := by decide +kernel
theorem d_M_coldBits_5 : decode prog_8_method_57_code 5 = .ok (.aload_n 0, 1) := by decide +kernel
theorem d_M_coldBits_6 : decode prog_8_method_57_code 6 = .ok (.getfield 112, 3) := by decide +kernel
theorem d_M_coldBits_9 : decode prog_8_method_57_code 9 = .ok (.if_icmp .ge 29, 3) := by decide +kernel
theorem d_M_coldBits_12 : decode prog_8_method_57_code 12 = .ok (.iload_n 1, 1) := by decide +kernel
theorem d_M_coldBits_13 : decode prog_8_method_57_code 13 = .ok (.aload_n 0, 1) := by decide +kernel
theorem d_M_coldBits_14 : decode prog_8_method_57_code 14 = .ok (.getfield 59, 3) := by decide +kernel
theorem d_M_coldBits_17 : decode prog_8_method_57_code 17 = .ok (.iload_n 2, 1) := by decide +kernel
theorem d_M_coldBits_18 : decode prog_8_method_57_code 18 = .ok (.iaload, 1) := by decide +kernel
theorem d_M_coldBits_19 : decode prog_8_method_57_code 19 = .ok (.iconst 1, 1) := by decide +kernel
theorem d_M_coldBits_20 : decode prog_8_method_57_code 20 = .ok (.if_icmp .ne 9, 3) := by decide +kernel
theorem d_M_coldBits_23 : decode prog_8_method_57_code 23 = .ok (.iconst 1, 1) := by decide +kernel
theorem d_M_coldBits_24 : decode prog_8_method_57_code 24 = .ok (.iload_n 2, 1) := by decide +kernel
theorem d_M_coldBits_25 : decode prog_8_method_57_code 25 = .ok (.ishl, 1) := by decide +kernel
theorem d_M_coldBits_26 : decode prog_8_method_57_code 26 = .ok (.goto 4, 3) := by decide +kernel
theorem d_M_coldBits_29 : decode prog_8_method_57_code 29 = .ok (.iconst 0, 1) := by decide +kernel
theorem d_M_coldBits_30 : decode prog_8_method_57_code 30 = .ok (.ior, 1) := by decide +kernel
theorem d_M_coldBits_31 : decode prog_8_method_57_code 31 = .ok (.istore_n 1, 1) := by decide +kernel
theorem d_M_coldBits_32 : decode prog_8_method_57_code 32 = .ok (.iinc 2 1, 3) := by decide +kernel
theorem d_M_coldBits_35 : decode prog_8_method_57_code 35 = .ok (.goto (-31), 3) := by decide +kernel
theorem d_M_coldBits_38 : decode prog_8_method_57_code 38 = .ok (.iload_n 1, 1) := by decide +kernel
theorem d_M_coldBits_39 : decode prog_8_method_57_code 39 = .ok (.ireturn, 1) := by decide +kernel
set_option maxHeartbeats 4000000 in
set_option maxRecDepth 100000 in
def f_M_coldBits_L4 (F : Nat) (a0 : Option Nat) (k : Mm → Int32 → Option (Int32 × Mm)) : Nat → Mm → Int32 → Int32 → Option (Int32 × Mm)
  | 0, _, _, _ => none
  | n + 1, u, a1, a2 => ob (jgi YM 5 1 u a0) fun (x1 : Int32) => (if x1 ≤ a2 then k u a1 else ob (jgr YM 5 19 a0) fun (r3 : Option Nat) => ob (jal YM u r3 a2) fun (x4 : Int32) => ob ((if x4 = (1 : Int32) then some ((1 : Int32) <<< (a2 &&& 31)) else some (0 : Int32)) : Option (Int32)) fun q5 => ob (some (a1 ||| q5)) fun (x7 : Int32) => ob (some (a2 + (1 : Int32))) fun (x8 : Int32) => f_M_coldBits_L4 F a0 k n u x7 x8)
set_option maxHeartbeats 4000000 in
set_option maxRecDepth 100000 in
theorem w_M_coldBits_L4 {p : Program} {l : Launch} {e : Env} {s : State} {m : MethodId} {args : Array Value} {below : List Frame} {meth : Method} {c : Code} {w : WP} {Q : State → Prop} (F : Nat) (C : yX p e ({ frames := 0, cells := 0, slots := 0, locals := 0 } : Room) s m args c YM w 3 prog_8_method_57_code "WhoseGlassModel") (hr : meth.sig.returnType = (some .int)) (hlocks : meth.locks = false) (a0 : Option Nat) {out : Int32 × Mm} (k : Mm → Int32 → Option (Int32 × Mm)) (hk : ∀ (u : Mm) (a1 : Int32), k u a1 = some out → yG p l e ({ frames := 0, cells := 0, slots := 0, locals := 0 } : Room) s m args below meth c YM w 3 Q u 38 [(1, .int a1)] []) : ∀ (n : Nat) (u : Mm) (a1 : Int32) (a2 : Int32), f_M_coldBits_L4 F a0 k n u a1 a2 = some out → yG p l e ({ frames := 0, cells := 0, slots := 0, locals := 0 } : Room) s m args below meth c YM w 3 Q u 4 [(0, va_re w.1 a0), (1, .int a1), (2, .int a2)] [] := by
  intro n
  induction n with
  | zero => intro u a1 a2 h; rw [f_M_coldBits_L4] at h; cases h
  | succ n ih =>
    intro u a1 a2 h
    rw [f_M_coldBits_L4] at h
    refine y_iload_n C (i := 2) 2 d_M_coldBits_4 rfl rfl ?_
    refine y_aload_n C (i := 0) 0 d_M_coldBits_5 rfl rfl ?_
    refine y_gi C (q := (yR5, yT5, 46)) (ci := 5) (k := 1) rfl (by decide) rfl g_785 d_M_coldBits_6 h (fun x1 h => ?_)
    refine y_ic_ge C 38 d_M_coldBits_9 (by decide) h (fun k2 h => ?_) (fun k2 h => ?_)
    · exact y_sub [1] rfl (hk _ _ h)
    · refine y_iload_n C (i := 1) 1 d_M_coldBits_12 rfl rfl ?_
      refine y_aload_n C (i := 0) 0 d_M_coldBits_13 rfl rfl ?_
      refine y_gr C (q := (yR5, yT5, 46)) (ci := 5) (k := 19) rfl (by decide) rfl (by decide) g_803 d_M_coldBits_14 h (fun r3 h => ?_)
      refine y_iload_n C (i := 2) 2 d_M_coldBits_17 rfl rfl ?_
      refine y_al C d_M_coldBits_18 h (fun x4 h => ?_)
      refine y_iconst C (v := 1) d_M_coldBits_19 (by decide) ?_
      obtain ⟨q5, hq5, h⟩ := ob_e h
      have hJq5 : yG p l e ({ frames := 0, cells := 0, slots := 0, locals := 0 } : Room) s m args below meth c YM w 3 Q u 30 [(0, va_re w.1 a0), (2, .int a2)] [.int q5, .int a1] := by
        refine y_ior C d_M_coldBits_30 ?_
        refine y_istore_nB C (i := 1) (lvp := [(0, va_re w.1 a0), (2, .int a2)]) d_M_coldBits_31 rfl (by decide) (by simp [List.filter, y_cat, y_catI, y_catJ]) h (fun x7 h => ?_)
        refine y_iinc C (j := 2) (v := 1) (lvp := [(1, .int x7), (0, va_re w.1 a0)]) d_M_coldBits_32 rfl (by decide) (by decide) rfl h (fun x8 h => ?_)
        refine y_goto C (tgt := 4) d_M_coldBits_35 (by decide) ?_
        exact y_sub [2, 1, 0] rfl (ih _ _ _ h)
      refine y_ic_ne C 29 d_M_coldBits_20 (by decide) hq5 (fun k6 hq5 => ?_) (fun k6 hq5 => ?_)
      · refine y_iconst C (v := 1) d_M_coldBits_23 (by decide) ?_
        refine y_iload_n C (i := 2) 2 d_M_coldBits_24 rfl rfl ?_
        refine y_ishl C d_M_coldBits_25 ?_
        refine y_goto C (tgt := 30) d_M_coldBits_26 (by decide) ?_
        cases hq5
        exact y_sub [0, 2] rfl hJq5
      · refine y_iconst C (v := 0) d_M_coldBits_29 (by decide) ?_
        cases hq5
        exact y_sub [0, 2] rfl hJq5
set_option maxRecDepth 100000 in
def f_M_coldBits (F : Nat) (u : Mm) (o : Nat) : Option (Int32 × Mm) := f_M_coldBits_L4 F (some o) (fun (u9 : Mm) (x10 : Int32) => some (x10, u9)) F u (0 : Int32) (0 : Int32)
set_option maxHeartbeats 4000000 in
set_option maxRecDepth 100000 in
theorem c_M_coldBits (l : Launch) (w : WP) (F : Nat) (u : Mm) (o : Nat) (out : Int32 × Mm) (h : f_M_coldBits F u o = some out) : yMet l m_M_coldBits ws_M_coldBits ({ frames := 0, cells := 0, slots := 0, locals := 0 } : Room) YM w u [va_re w.1 (some o)] yfi out := by
  refine y_entry (own := "WhoseGlassModel") (lv := [(0, va_re w.1 (some o))]) (by decide +kernel) rfl (by simp [lv_args, y_cat, y_catI, y_catJ]) (by simp [lg_sl, y_cat, y_catI, y_catJ]) ?_
  intro p e s m args below meth c C hr hlocks
  unfold f_M_coldBits at h
  refine y_iconst C (v := 0) d_M_coldBits_0 (by decide) ?_
  refine y_istore_n C (i := 1) (lvp := [(0, va_re w.1 (some o))]) d_M_coldBits_1 rfl (by decide) (by simp [List.filter, y_cat, y_catI, y_catJ]) ?_
  refine y_iconst C (v := 0) d_M_coldBits_2 (by decide) ?_
  refine y_istore_n C (i := 2) (lvp := [(1, .int (0 : Int32)), (0, va_re w.1 (some o))]) d_M_coldBits_3 rfl (by decide) rfl ?_
  refine y_sub [2, 1, 0] rfl (w_M_coldBits_L4 F C hr hlocks _ _ (fun u9 x10 h => ?_) _ _ _ _ h)
  refine y_iload_n C (i := 1) 0 d_M_coldBits_38 rfl rfl ?_
  exact y_iret C hr hlocks d_M_coldBits_39 h
/-! M_colds -/
theorem d_M_colds_0 : decode prog_8_method_60_code 0 = .ok (.aload_n 0, 1) := by decide +kernel
theorem d_M_colds_1 : decode prog_8_method_60_code 1 = .ok (.iconst 0, 1) := by decide +kernel
theorem d_M_colds_2 : decode prog_8_method_60_code 2 = .ok (.putfield 102, 3) := by decide +kernel
theorem d_M_colds_5 : decode prog_8_method_60_code 5 = .ok (.iload_n 1, 1) := by decide +kernel
theorem d_M_colds_6 : decode prog_8_method_60_code 6 = .ok (.invokestatic 282, 3) := by decide +kernel
theorem d_M_colds_9 : decode prog_8_method_60_code 9 = .ok (.ifCond .ne 5, 3) := by decide +kernel
theorem d_M_colds_12 : decode prog_8_method_60_code 12 = .ok (.iconst (-1), 1) := by decide +kernel
theorem d_M_colds_13 : decode prog_8_method_60_code 13 = .ok (.ireturn, 1) := by decide +kernel
theorem d_M_colds_14 : decode prog_8_method_60_code 14 = .ok (.aload_n 0, 1) := by decide +kernel
theorem d_M_colds_15 : decode prog_8_method_60_code 15 = .ok (.invokevirtual 250, 3) := by decide +kernel
theorem d_M_colds_18 : decode prog_8_method_60_code 18 = .ok (.aload_n 0, 1) := by decide +kernel
theorem d_M_colds_19 : decode prog_8_method_60_code 19 = .ok (.iload_n 1, 1) := by decide +kernel
theorem d_M_colds_20 : decode prog_8_method_60_code 20 = .ok (.invokevirtual 276, 3) := by decide +kernel
theorem d_M_colds_23 : decode prog_8_method_60_code 23 = .ok (.aload_n 0, 1) := by decide +kernel
theorem d_M_colds_24 : decode prog_8_method_60_code 24 = .ok (.invokevirtual 285, 3) := by decide +kernel
theorem d_M_colds_27 : decode prog_8_method_60_code 27 = .ok (.istore_n 2, 1) := by decide +kernel
theorem d_M_colds_28 : decode prog_8_method_60_code 28 = .ok (.aload_n 0, 1) := by decide +kernel
theorem d_M_colds_29 : decode prog_8_method_60_code 29 = .ok (.invokevirtual 256, 3) := by decide +kernel
theorem d_M_colds_32 : decode prog_8_method_60_code 32 = .ok (.iload_n 2, 1) := by decide +kernel
theorem d_M_colds_33 : decode prog_8_method_60_code 33 = .ok (.ireturn, 1) := by decide +kernel
theorem gc_M_colds_250 : GoodIn yGW (wsV "WhoseGlassModel" 250 yR5 m_M_open ws_M_open) := y_gV g_978 g_980 gs_19 g_6 g_981
theorem gc_M_colds_276 : GoodIn yGW (wsV "WhoseGlassModel" 276 yR5 m_M_goThrough ws_M_goThrough) := y_gV g_1125 g_1127 gs_44 g_6 g_1128
theorem gc_M_colds_285 : GoodIn yGW (wsV "WhoseGlassModel" 285 yR5 m_M_coldBits ws_M_coldBits) := y_gV g_1168 g_1170 gs_45 g_6 g_1171
theorem gc_M_colds_256 : GoodIn yGW (wsV "WhoseGlassModel" 256 yR5 m_M_again ws_M_again) := y_gV g_1066 g_1068 gs_41 g_6 g_1069
set_option maxRecDepth 100000 in
def f_M_colds (F : Nat) (u : Mm) (o : Nat) (a1 : Int32) : Option (Int32 × Mm) := ob (jpi YM 5 23 u (some o) (0 : Int32)) fun (u1 : Mm) => yb (f_M_isMinutes F u1 a1) fun x2 u3 => (if x2 = 0 then some ((-1 : Int32), u3) else ob (jk YM 5 (some o)) fun t => yb (f_M_open F u3 t ) fun v5 u6 => ob (jk YM 5 (some o)) fun t => yb (f_M_goThrough F u6 t a1) fun v7 u8 => ob (jk YM 5 (some o)) fun t => yb (f_M_coldBits F u8 t ) fun x9 u10 => ob (jk YM 5 (some o)) fun t => yb (f_M_again F u10 t ) fun v11 u12 => some (x9, u12))
set_option maxHeartbeats 4000000 in
set_option maxRecDepth 100000 in
theorem c_M_colds (l : Launch) (w : WP) (F : Nat) (u : Mm) (o : Nat) (a1 : Int32) (out : Int32 × Mm) (h : f_M_colds F u o a1 = some out) : yMet l m_M_colds ws_M_colds ({ frames := 8, cells := 0, slots := 0, locals := 181 } : Room) YM w u [va_re w.1 (some o), .int a1] yfi out := by
  refine y_entry (own := "WhoseGlassModel") (lv := [(0, va_re w.1 (some o)), (1, .int a1)]) (by decide +kernel) rfl (by simp [lv_args, y_cat, y_catI, y_catJ]) (by simp [lg_sl, y_cat, y_catI, y_catJ]) ?_
  intro p e s m args below meth c C hr hlocks
  unfold f_M_colds at h
  refine y_aload_n C (i := 0) 0 d_M_colds_0 rfl rfl ?_
  refine y_iconst C (v := 0) d_M_colds_1 (by decide) ?_
  refine y_pi C (q := (yR5, yT5, 46)) (ci := 5) (k := 23) rfl (by decide) rfl rfl (by decide +kernel) g_807 d_M_colds_2 h (fun u1 h => ?_)
  refine y_iload_n C (i := 1) 1 d_M_colds_5 rfl rfl ?_
  refine y_callS 1 C (fun out hh => c_M_isMinutes l w F u1 a1 out hh) (y_gc g_1158) g_1156 g_6 g_1157 hn_M_isMinutes ⟨Nat.le_of_ble_eq_true rfl, Nat.le_of_ble_eq_true rfl⟩ rfl rfl rfl rfl (by simp [y_cat, y_catI, y_catJ]) d_M_colds_6 h (fun x2 u3 h => ?_)
  refine y_stk (stp0 := [.int x2]) rfl ?_
  refine y_if_ne C 14 d_M_colds_9 (by decide) h (fun k4 h => ?_) (fun k4 h => ?_)
  · refine y_iconst C (v := -1) d_M_colds_12 (by decide) ?_
    exact y_iret C hr hlocks d_M_colds_13 h
  · refine y_aload_n C (i := 0) 0 d_M_colds_14 rfl rfl ?_
    refine y_callV 0 C (q := (yR5, yT5, 46)) (ci := 5) (fun t out hh => c_M_open l w F u3 t out hh) gc_M_colds_250 rfl (by decide) hd_M_open ⟨Nat.le_of_ble_eq_true rfl, Nat.le_of_ble_eq_true rfl⟩ rfl rfl rfl rfl (by simp [y_cat, y_catI, y_catJ]) d_M_colds_15 h (fun v5 u6 h => ?_)
    refine y_stk (stp0 := []) rfl ?_
    refine y_aload_n C (i := 0) 0 d_M_colds_18 rfl rfl ?_
    refine y_iload_n C (i := 1) 1 d_M_colds_19 rfl rfl ?_
    refine y_callV 1 C (q := (yR5, yT5, 46)) (ci := 5) (fun t out hh => c_M_goThrough l w F u6 t a1 out hh) gc_M_colds_276 rfl (by decide) hd_M_goThrough ⟨Nat.le_of_ble_eq_true rfl, Nat.le_of_ble_eq_true rfl⟩ rfl rfl rfl rfl (by simp [y_cat, y_catI, y_catJ]) d_M_colds_20 h (fun v7 u8 h => ?_)
    refine y_stk (stp0 := []) rfl ?_
    refine y_aload_n C (i := 0) 0 d_M_colds_23 rfl rfl ?_
    refine y_callV 0 C (q := (yR5, yT5, 46)) (ci := 5) (fun t out hh => c_M_coldBits l w F u8 t out hh) gc_M_colds_285 rfl (by decide) hd_M_coldBits ⟨Nat.le_of_ble_eq_true rfl, Nat.le_of_ble_eq_true rfl⟩ rfl rfl rfl rfl (by simp [y_cat, y_catI, y_catJ]) d_M_colds_24 h (fun x9 u10 h => ?_)
    refine y_stk (stp0 := [.int x9]) rfl ?_
    refine y_istore_n C (i := 2) (lvp := [(0, va_re w.1 (some o)), (1, .int a1)]) d_M_colds_27 rfl (by decide) rfl ?_
    refine y_aload_n C (i := 0) 1 d_M_colds_28 rfl rfl ?_
    refine y_callV 0 C (q := (yR5, yT5, 46)) (ci := 5) (fun t out hh => c_M_again l w F u10 t out hh) gc_M_colds_256 rfl (by decide) hd_M_again ⟨Nat.le_of_ble_eq_true rfl, Nat.le_of_ble_eq_true rfl⟩ rfl rfl rfl rfl (by simp [y_cat, y_catI, y_catJ]) d_M_colds_29 h (fun v11 u12 h => ?_)
    refine y_stk (stp0 := []) rfl ?_
    refine y_iload_n C (i := 2) 0 d_M_colds_32 rfl rfl ?_
    exact y_iret C hr hlocks d_M_colds_33 h
/-! M_had -/
theorem d_M_had_0 : decode prog_8_method_61_code 0 = .ok (.aload_n 0, 1) := by decide +kernel
theorem d_M_had_1 : decode prog_8_method_61_code 1 = .ok (.iconst 0, 1) := by decide +kernel
theorem d_M_had_2 : decode prog_8_method_61_code 2 = .ok (.putfield 102, 3) := by decide +kernel
theorem d_M_had_5 : decode prog_8_method_61_code 5 = .ok (.aload_n 0, 1) := by decide +kernel
theorem d_M_had_6 : decode prog_8_method_61_code 6 = .ok (.iload_n 1, 1) := by decide +kernel
theorem d_M_had_7 : decode prog_8_method_61_code 7 = .ok (.invokevirtual 228, 3) := by decide +kernel
theorem d_M_had_10 : decode prog_8_method_61_code 10 = .ok (.ifCond .eq 10, 3) := by decide +kernel
theorem d_M_had_13 : decode prog_8_method_61_code 13 = .ok (.iload_n 2, 1) := by decide +kernel
theorem d_M_had_14 : decode prog_8_method_61_code 14 = .ok (.invokestatic 282, 3) := by decide +kernel
theorem d_M_had_17 : decode prog_8_method_61_code 17 = .ok (.ifCond .ne 5, 3) := by decide +kernel
theorem d_M_had_20 : decode prog_8_method_61_code 20 = .ok (.iconst (-1), 1) := by decide +kernel
theorem d_M_had_21 : decode prog_8_method_61_code 21 = .ok (.ireturn, 1) := by decide +kernel
theorem d_M_had_22 : decode prog_8_method_61_code 22 = .ok (.aload_n 0, 1) := by decide +kernel
theorem d_M_had_23 : decode prog_8_method_61_code 23 = .ok (.invokevirtual 250, 3) := by decide +kernel
theorem d_M_had_26 : decode prog_8_method_61_code 26 = .ok (.aload_n 0, 1) := by decide +kernel
theorem d_M_had_27 : decode prog_8_method_61_code 27 = .ok (.iload_n 2, 1) := by decide +kernel
theorem d_M_had_28 : decode prog_8_method_61_code 28 = .ok (.invokevirtual 276, 3) := by decide +kernel
theorem d_M_had_31 : decode prog_8_method_61_code 31 = .ok (.aload_n 0, 1) := by decide +kernel
theorem d_M_had_32 : decode prog_8_method_61_code 32 = .ok (.getfield 56, 3) := by decide +kernel
theorem d_M_had_35 : decode prog_8_method_61_code 35 = .ok (.iload_n 1, 1) := by decide +kernel
theorem d_M_had_36 : decode prog_8_method_61_code 36 = .ok (.iaload, 1) := by decide +kernel
theorem d_M_had_37 : decode prog_8_method_61_code 37 = .ok (.istore_n 3, 1) := by decide +kernel
theorem d_M_had_38 : decode prog_8_method_61_code 38 = .ok (.aload_n 0, 1) := by decide +kernel
theorem d_M_had_39 : decode prog_8_method_61_code 39 = .ok (.invokevirtual 256, 3) := by decide +kernel
theorem d_M_had_42 : decode prog_8_method_61_code 42 = .ok (.iload_n 3, 1) := by decide +kernel
theorem d_M_had_43 : decode prog_8_method_61_code 43 = .ok (.ireturn, 1) := by decide +kernel
theorem gc_M_had_228 : GoodIn yGW (wsV "WhoseGlassModel" 228 yR5 m_M_isGuest ws_M_isGuest) := y_gV g_1002 g_1004 gs_25 g_6 g_1005
theorem gc_M_had_250 : GoodIn yGW (wsV "WhoseGlassModel" 250 yR5 m_M_open ws_M_open) := y_gV g_978 g_980 gs_19 g_6 g_981
theorem gc_M_had_276 : GoodIn yGW (wsV "WhoseGlassModel" 276 yR5 m_M_goThrough ws_M_goThrough) := y_gV g_1125 g_1127 gs_44 g_6 g_1128
theorem gc_M_had_256 : GoodIn yGW (wsV "WhoseGlassModel" 256 yR5 m_M_again ws_M_again) := y_gV g_1066 g_1068 gs_41 g_6 g_1069
set_option maxRecDepth 100000 in
def f_M_had (F : Nat) (u : Mm) (o : Nat) (a1 : Int32) (a2 : Int32) : Option (Int32 × Mm) := ob (jpi YM 5 23 u (some o) (0 : Int32)) fun (u1 : Mm) => ob (jk YM 5 (some o)) fun t => yb (f_M_isGuest F u1 t a1) fun x2 u3 => (if x2 = 0 then some ((-1 : Int32), u3) else yb (f_M_isMinutes F u3 a2) fun x5 u6 => (if x5 = 0 then some ((-1 : Int32), u6) else ob (jk YM 5 (some o)) fun t => yb (f_M_open F u6 t ) fun v8 u9 => ob (jk YM 5 (some o)) fun t => yb (f_M_goThrough F u9 t a2) fun v10 u11 => ob (jgr YM 5 18 (some o)) fun (r12 : Option Nat) => ob (jal YM u11 r12 a1) fun (x13 : Int32) => ob (jk YM 5 (some o)) fun t => yb (f_M_again F u11 t ) fun v14 u15 => some (x13, u15)))
set_option maxHeartbeats 4000000 in
set_option maxRecDepth 100000 in
theorem c_M_had (l : Launch) (w : WP) (F : Nat) (u : Mm) (o : Nat) (a1 : Int32) (a2 : Int32) (out : Int32 × Mm) (h : f_M_had F u o a1 a2 = some out) : yMet l m_M_had ws_M_had ({ frames := 8, cells := 0, slots := 0, locals := 181 } : Room) YM w u [va_re w.1 (some o), .int a1, .int a2] yfi out := by
  refine y_entry (own := "WhoseGlassModel") (lv := [(0, va_re w.1 (some o)), (1, .int a1), (2, .int a2)]) (by decide +kernel) rfl (by simp [lv_args, y_cat, y_catI, y_catJ]) (by simp [lg_sl, y_cat, y_catI, y_catJ]) ?_
  intro p e s m args below meth c C hr hlocks
  unfold f_M_had at h
  refine y_aload_n C (i := 0) 0 d_M_had_0 rfl rfl ?_
  refine y_iconst C (v := 0) d_M_had_1 (by decide) ?_
  refine y_pi C (q := (yR5, yT5, 46)) (ci := 5) (k := 23) rfl (by decide) rfl rfl (by decide +kernel) g_807 d_M_had_2 h (fun u1 h => ?_)
  refine y_aload_n C (i := 0) 0 d_M_had_5 rfl rfl ?_
  refine y_iload_n C (i := 1) 1 d_M_had_6 rfl rfl ?_
  refine y_callV 1 C (q := (yR5, yT5, 46)) (ci := 5) (fun t out hh => c_M_isGuest l w F u1 t a1 out hh) gc_M_had_228 rfl (by decide) hd_M_isGuest ⟨Nat.le_of_ble_eq_true rfl, Nat.le_of_ble_eq_true rfl⟩ rfl rfl rfl rfl (by simp [y_cat, y_catI, y_catJ]) d_M_had_7 h (fun x2 u3 h => ?_)
  refine y_stk (stp0 := [.int x2]) rfl ?_
  refine y_if_eq C 20 d_M_had_10 (by decide) h (fun k4 h => ?_) (fun k4 h => ?_)
  · refine y_iconst C (v := -1) d_M_had_20 (by decide) ?_
    exact y_iret C hr hlocks d_M_had_21 h
  · refine y_iload_n C (i := 2) 2 d_M_had_13 rfl rfl ?_
    refine y_callS 1 C (fun out hh => c_M_isMinutes l w F u3 a2 out hh) (y_gc g_1158) g_1156 g_6 g_1157 hn_M_isMinutes ⟨Nat.le_of_ble_eq_true rfl, Nat.le_of_ble_eq_true rfl⟩ rfl rfl rfl rfl (by simp [y_cat, y_catI, y_catJ]) d_M_had_14 h (fun x5 u6 h => ?_)
    refine y_stk (stp0 := [.int x5]) rfl ?_
    refine y_if_ne C 22 d_M_had_17 (by decide) h (fun k7 h => ?_) (fun k7 h => ?_)
    · refine y_iconst C (v := -1) d_M_had_20 (by decide) ?_
      exact y_iret C hr hlocks d_M_had_21 h
    · refine y_aload_n C (i := 0) 0 d_M_had_22 rfl rfl ?_
      refine y_callV 0 C (q := (yR5, yT5, 46)) (ci := 5) (fun t out hh => c_M_open l w F u6 t out hh) gc_M_had_250 rfl (by decide) hd_M_open ⟨Nat.le_of_ble_eq_true rfl, Nat.le_of_ble_eq_true rfl⟩ rfl rfl rfl rfl (by simp [y_cat, y_catI, y_catJ]) d_M_had_23 h (fun v8 u9 h => ?_)
      refine y_stk (stp0 := []) rfl ?_
      refine y_aload_n C (i := 0) 0 d_M_had_26 rfl rfl ?_
      refine y_iload_n C (i := 2) 2 d_M_had_27 rfl rfl ?_
      refine y_callV 1 C (q := (yR5, yT5, 46)) (ci := 5) (fun t out hh => c_M_goThrough l w F u9 t a2 out hh) gc_M_had_276 rfl (by decide) hd_M_goThrough ⟨Nat.le_of_ble_eq_true rfl, Nat.le_of_ble_eq_true rfl⟩ rfl rfl rfl rfl (by simp [y_cat, y_catI, y_catJ]) d_M_had_28 h (fun v10 u11 h => ?_)
      refine y_stk (stp0 := []) rfl ?_
      refine y_aload_n C (i := 0) 0 d_M_had_31 rfl rfl ?_
      refine y_gr C (q := (yR5, yT5, 46)) (ci := 5) (k := 18) rfl (by decide) rfl (by decide) g_802 d_M_had_32 h (fun r12 h => ?_)
      refine y_iload_n C (i := 1) 1 d_M_had_35 rfl rfl ?_
      refine y_al C d_M_had_36 h (fun x13 h => ?_)
      refine y_istore_n C (i := 3) (lvp := [(0, va_re w.1 (some o)), (1, .int a1), (2, .int a2)]) d_M_had_37 rfl (by decide) rfl ?_
      refine y_aload_n C (i := 0) 1 d_M_had_38 rfl rfl ?_
      refine y_callV 0 C (q := (yR5, yT5, 46)) (ci := 5) (fun t out hh => c_M_again l w F u11 t out hh) gc_M_had_256 rfl (by decide) hd_M_again ⟨Nat.le_of_ble_eq_true rfl, Nat.le_of_ble_eq_true rfl⟩ rfl rfl rfl rfl (by simp [y_cat, y_catI, y_catJ]) d_M_had_39 h (fun v14 u15 h => ?_)
      refine y_stk (stp0 := []) rfl ?_
      refine y_iload_n C (i := 3) 0 d_M_had_42 rfl rfl ?_
      exact y_iret C hr hlocks d_M_had_43 h
/-! M_where -/
theorem d_M_where_0 : decode prog_8_method_62_code 0 = .ok (.aload_n 0, 1) := by decide +kernel
theorem d_M_where_1 : decode prog_8_method_62_code 1 = .ok (.iconst 0, 1) := by decide +kernel
theorem d_M_where_2 : decode prog_8_method_62_code 2 = .ok (.putfield 102, 3) := by decide +kernel
theorem d_M_where_5 : decode prog_8_method_62_code 5 = .ok (.aload_n 0, 1) := by decide +kernel
theorem d_M_where_6 : decode prog_8_method_62_code 6 = .ok (.iload_n 1, 1) := by decide +kernel
theorem d_M_where_7 : decode prog_8_method_62_code 7 = .ok (.invokevirtual 232, 3) := by decide +kernel
theorem d_M_where_10 : decode prog_8_method_62_code 10 = .ok (.ifCond .eq 10, 3) := by decide +kernel
theorem d_M_where_13 : decode prog_8_method_62_code 13 = .ok (.iload_n 2, 1) := by decide +kernel
theorem d_M_where_14 : decode prog_8_method_62_code 14 = .ok (.invokestatic 282, 3) := by decide +kernel
theorem d_M_where_17 : decode prog_8_method_62_code 17 = .ok (.ifCond .ne 5, 3) := by decide +kernel
theorem d_M_where_20 : decode prog_8_method_62_code 20 = .ok (.iconst (-1), 1) := by decide +kernel
theorem d_M_where_21 : decode prog_8_method_62_code 21 = .ok (.ireturn, 1) := by decide +kernel
theorem d_M_where_22 : decode prog_8_method_62_code 22 = .ok (.aload_n 0, 1) := by decide +kernel
theorem d_M_where_23 : decode prog_8_method_62_code 23 = .ok (.invokevirtual 250, 3) := by decide +kernel
theorem d_M_where_26 : decode prog_8_method_62_code 26 = .ok (.aload_n 0, 1) := by decide +kernel
theorem d_M_where_27 : decode prog_8_method_62_code 27 = .ok (.iload_n 2, 1) := by decide +kernel
theorem d_M_where_28 : decode prog_8_method_62_code 28 = .ok (.invokevirtual 276, 3) := by decide +kernel
theorem d_M_where_31 : decode prog_8_method_62_code 31 = .ok (.aload_n 0, 1) := by decide +kernel
theorem d_M_where_32 : decode prog_8_method_62_code 32 = .ok (.getfield 23, 3) := by decide +kernel
theorem d_M_where_35 : decode prog_8_method_62_code 35 = .ok (.iload_n 1, 1) := by decide +kernel
theorem d_M_where_36 : decode prog_8_method_62_code 36 = .ok (.iaload, 1) := by decide +kernel
theorem d_M_where_37 : decode prog_8_method_62_code 37 = .ok (.istore_n 3, 1) := by decide +kernel
theorem d_M_where_38 : decode prog_8_method_62_code 38 = .ok (.aload_n 0, 1) := by decide +kernel
theorem d_M_where_39 : decode prog_8_method_62_code 39 = .ok (.invokevirtual 256, 3) := by decide +kernel
theorem d_M_where_42 : decode prog_8_method_62_code 42 = .ok (.iload_n 3, 1) := by decide +kernel
theorem d_M_where_43 : decode prog_8_method_62_code 43 = .ok (.ireturn, 1) := by decide +kernel
theorem gc_M_where_232 : GoodIn yGW (wsV "WhoseGlassModel" 232 yR5 m_M_isGlass ws_M_isGlass) := y_gV g_1006 g_1008 gs_26 g_6 g_1009
theorem gc_M_where_250 : GoodIn yGW (wsV "WhoseGlassModel" 250 yR5 m_M_open ws_M_open) := y_gV g_978 g_980 gs_19 g_6 g_981
theorem gc_M_where_276 : GoodIn yGW (wsV "WhoseGlassModel" 276 yR5 m_M_goThrough ws_M_goThrough) := y_gV g_1125 g_1127 gs_44 g_6 g_1128
theorem gc_M_where_256 : GoodIn yGW (wsV "WhoseGlassModel" 256 yR5 m_M_again ws_M_again) := y_gV g_1066 g_1068 gs_41 g_6 g_1069
set_option maxRecDepth 100000 in
def f_M_where (F : Nat) (u : Mm) (o : Nat) (a1 : Int32) (a2 : Int32) : Option (Int32 × Mm) := ob (jpi YM 5 23 u (some o) (0 : Int32)) fun (u1 : Mm) => ob (jk YM 5 (some o)) fun t => yb (f_M_isGlass F u1 t a1) fun x2 u3 => (if x2 = 0 then some ((-1 : Int32), u3) else yb (f_M_isMinutes F u3 a2) fun x5 u6 => (if x5 = 0 then some ((-1 : Int32), u6) else ob (jk YM 5 (some o)) fun t => yb (f_M_open F u6 t ) fun v8 u9 => ob (jk YM 5 (some o)) fun t => yb (f_M_goThrough F u9 t a2) fun v10 u11 => ob (jgr YM 5 7 (some o)) fun (r12 : Option Nat) => ob (jal YM u11 r12 a1) fun (x13 : Int32) => ob (jk YM 5 (some o)) fun t => yb (f_M_again F u11 t ) fun v14 u15 => some (x13, u15)))
set_option maxHeartbeats 4000000 in
set_option maxRecDepth 100000 in
theorem c_M_where (l : Launch) (w : WP) (F : Nat) (u : Mm) (o : Nat) (a1 : Int32) (a2 : Int32) (out : Int32 × Mm) (h : f_M_where F u o a1 a2 = some out) : yMet l m_M_where ws_M_where ({ frames := 8, cells := 0, slots := 0, locals := 181 } : Room) YM w u [va_re w.1 (some o), .int a1, .int a2] yfi out := by
  refine y_entry (own := "WhoseGlassModel") (lv := [(0, va_re w.1 (some o)), (1, .int a1), (2, .int a2)]) (by decide +kernel) rfl (by simp [lv_args, y_cat, y_catI, y_catJ]) (by simp [lg_sl, y_cat, y_catI, y_catJ]) ?_
  intro p e s m args below meth c C hr hlocks
  unfold f_M_where at h
  refine y_aload_n C (i := 0) 0 d_M_where_0 rfl rfl ?_
  refine y_iconst C (v := 0) d_M_where_1 (by decide) ?_
  refine y_pi C (q := (yR5, yT5, 46)) (ci := 5) (k := 23) rfl (by decide) rfl rfl (by decide +kernel) g_807 d_M_where_2 h (fun u1 h => ?_)
  refine y_aload_n C (i := 0) 0 d_M_where_5 rfl rfl ?_
  refine y_iload_n C (i := 1) 1 d_M_where_6 rfl rfl ?_
  refine y_callV 1 C (q := (yR5, yT5, 46)) (ci := 5) (fun t out hh => c_M_isGlass l w F u1 t a1 out hh) gc_M_where_232 rfl (by decide) hd_M_isGlass ⟨Nat.le_of_ble_eq_true rfl, Nat.le_of_ble_eq_true rfl⟩ rfl rfl rfl rfl (by simp [y_cat, y_catI, y_catJ]) d_M_where_7 h (fun x2 u3 h => ?_)
  refine y_stk (stp0 := [.int x2]) rfl ?_
  refine y_if_eq C 20 d_M_where_10 (by decide) h (fun k4 h => ?_) (fun k4 h => ?_)
  · refine y_iconst C (v := -1) d_M_where_20 (by decide) ?_
    exact y_iret C hr hlocks d_M_where_21 h
  · refine y_iload_n C (i := 2) 2 d_M_where_13 rfl rfl ?_
    refine y_callS 1 C (fun out hh => c_M_isMinutes l w F u3 a2 out hh) (y_gc g_1158) g_1156 g_6 g_1157 hn_M_isMinutes ⟨Nat.le_of_ble_eq_true rfl, Nat.le_of_ble_eq_true rfl⟩ rfl rfl rfl rfl (by simp [y_cat, y_catI, y_catJ]) d_M_where_14 h (fun x5 u6 h => ?_)
    refine y_stk (stp0 := [.int x5]) rfl ?_
    refine y_if_ne C 22 d_M_where_17 (by decide) h (fun k7 h => ?_) (fun k7 h => ?_)
    · refine y_iconst C (v := -1) d_M_where_20 (by decide) ?_
      exact y_iret C hr hlocks d_M_where_21 h
    · refine y_aload_n C (i := 0) 0 d_M_where_22 rfl rfl ?_
      refine y_callV 0 C (q := (yR5, yT5, 46)) (ci := 5) (fun t out hh => c_M_open l w F u6 t out hh) gc_M_where_250 rfl (by decide) hd_M_open ⟨Nat.le_of_ble_eq_true rfl, Nat.le_of_ble_eq_true rfl⟩ rfl rfl rfl rfl (by simp [y_cat, y_catI, y_catJ]) d_M_where_23 h (fun v8 u9 h => ?_)
      refine y_stk (stp0 := []) rfl ?_
      refine y_aload_n C (i := 0) 0 d_M_where_26 rfl rfl ?_
      refine y_iload_n C (i := 2) 2 d_M_where_27 rfl rfl ?_
      refine y_callV 1 C (q := (yR5, yT5, 46)) (ci := 5) (fun t out hh => c_M_goThrough l w F u9 t a2 out hh) gc_M_where_276 rfl (by decide) hd_M_goThrough ⟨Nat.le_of_ble_eq_true rfl, Nat.le_of_ble_eq_true rfl⟩ rfl rfl rfl rfl (by simp [y_cat, y_catI, y_catJ]) d_M_where_28 h (fun v10 u11 h => ?_)
      refine y_stk (stp0 := []) rfl ?_
      refine y_aload_n C (i := 0) 0 d_M_where_31 rfl rfl ?_
      refine y_gr C (q := (yR5, yT5, 46)) (ci := 5) (k := 7) rfl (by decide) rfl (by decide) g_791 d_M_where_32 h (fun r12 h => ?_)
      refine y_iload_n C (i := 1) 1 d_M_where_35 rfl rfl ?_
      refine y_al C d_M_where_36 h (fun x13 h => ?_)
      refine y_istore_n C (i := 3) (lvp := [(0, va_re w.1 (some o)), (1, .int a1), (2, .int a2)]) d_M_where_37 rfl (by decide) rfl ?_
      refine y_aload_n C (i := 0) 1 d_M_where_38 rfl rfl ?_
      refine y_callV 0 C (q := (yR5, yT5, 46)) (ci := 5) (fun t out hh => c_M_again l w F u11 t out hh) gc_M_where_256 rfl (by decide) hd_M_again ⟨Nat.le_of_ble_eq_true rfl, Nat.le_of_ble_eq_true rfl⟩ rfl rfl rfl rfl (by simp [y_cat, y_catI, y_catJ]) d_M_where_39 h (fun v14 u15 h => ?_)
      refine y_stk (stp0 := []) rfl ?_
      refine y_iload_n C (i := 3) 0 d_M_where_42 rfl rfl ?_
      exact y_iret C hr hlocks d_M_where_43 h
/-! M_coldAlone -/
theorem d_M_coldAlone_0 : decode prog_8_method_63_code 0 = .ok (.iconst 0, 1) := by decide +kernel
theorem d_M_coldAlone_1 : decode prog_8_method_63_code 1 = .ok (.istore_n 2, 1) := by decide +kernel
theorem d_M_coldAlone_2 : decode prog_8_method_63_code 2 = .ok (.iload_n 2, 1) := by decide +kernel
theorem d_M_coldAlone_3 : decode prog_8_method_63_code 3 = .ok (.bipush 12, 2) := by decide +kernel
theorem d_M_coldAlone_5 : decode prog_8_method_63_code 5 = .ok (.if_icmp .ge 16, 3) := by decide +kernel
theorem d_M_coldAlone_8 : decode prog_8_method_63_code 8 = .ok (.aload_n 0, 1) := by decide +kernel
theorem d_M_coldAlone_9 : decode prog_8_method_63_code 9 = .ok (.getfield 32, 3) := by decide +kernel
theorem d_M_coldAlone_12 : decode prog_8_method_63_code 12 = .ok (.iload_n 2, 1) := by decide +kernel
theorem d_M_coldAlone_13 : decode prog_8_method_63_code 13 = .ok (.iconst 0, 1) := by decide +kernel
theorem d_M_coldAlone_14 : decode prog_8_method_63_code 14 = .ok (.iastore, 1) := by decide +kernel
theorem d_M_coldAlone_15 : decode prog_8_method_63_code 15 = .ok (.iinc 2 1, 3) := by decide +kernel
theorem d_M_coldAlone_18 : decode prog_8_method_63_code 18 = .ok (.goto (-16), 3) := by decide +kernel
theorem d_M_coldAlone_21 : decode prog_8_method_63_code 21 = .ok (.iconst 0, 1) := by decide +kernel
theorem d_M_coldAlone_22 : decode prog_8_method_63_code 22 = .ok (.istore_n 2, 1) := by decide +kernel
theorem d_M_coldAlone_23 : decode prog_8_method_63_code 23 = .ok (.iload_n 2, 1) := by decide +kernel
theorem d_M_coldAlone_24 : decode prog_8_method_63_code 24 = .ok (.bipush 6, 2) := by decide +kernel
theorem d_M_coldAlone_26 : decode prog_8_method_63_code 26 = .ok (.if_icmp .ge 25, 3) := by decide +kernel
theorem d_M_coldAlone_29 : decode prog_8_method_63_code 29 = .ok (.aload_n 0, 1) := by decide +kernel
theorem d_M_coldAlone_30 : decode prog_8_method_63_code 30 = .ok (.getfield 59, 3) := by decide +kernel
theorem d_M_coldAlone_33 : decode prog_8_method_63_code 33 = .ok (.iload_n 2, 1) := by decide +kernel
theorem d_M_coldAlone_34 : decode prog_8_method_63_code 34 = .ok (.iload_n 2, 1) := by decide +kernel
theorem d_M_coldAlone_35 : decode prog_8_method_63_code 35 = .ok (.iload_n 1, 1) := by decide +kernel
theorem d_M_coldAlone_36 : decode prog_8_method_63_code 36 = .ok (.if_icmp .ne 7, 3) := by decide +kernel
theorem d_M_coldAlone_39 : decode prog_8_method_63_code 39 = .ok (.iconst 1, 1) := by decide +kernel
theorem d_M_coldAlone_40 : decode prog_8_method_63_code 40 = .ok (.goto 4, 3) := by decide +kernel
theorem d_M_coldAlone_43 : decode prog_8_method_63_code 43 = .ok (.iconst 0, 1) := by decide +kernel
theorem d_M_coldAlone_44 : decode prog_8_method_63_code 44 = .ok (.iastore, 1) := by decide +kernel
theorem d_M_coldAlone_45 : decode prog_8_method_63_code 45 = .ok (.iinc 2 1, 3) := by decide +kernel
theorem d_M_coldAlone_48 : decode prog_8_method_63_code 48 = .ok (.goto (-25), 3) := by decide +kernel
theorem d_M_coldAlone_51 : decode prog_8_method_63_code 51 = .ok (.return_, 1) := by decide +kernel
set_option maxHeartbeats 4000000 in
set_option maxRecDepth 100000 in
def f_M_coldAlone_L2 (F : Nat) (a0 : Option Nat) (a1 : Int32) (k : Mm → Option (Unit × Mm)) : Nat → Mm → Int32 → Option (Unit × Mm)
  | 0, _, _ => none
  | n + 1, u, a2 => (if (12 : Int32) ≤ a2 then k u  else ob (jgr YM 5 10 a0) fun (r2 : Option Nat) => ob (jas YM u r2 a2 (0 : Int32)) fun (u3 : Mm) => ob (some (a2 + (1 : Int32))) fun (x4 : Int32) => f_M_coldAlone_L2 F a0 a1 k n u3 x4)
set_option maxHeartbeats 4000000 in
set_option maxRecDepth 100000 in
theorem w_M_coldAlone_L2 {p : Program} {l : Launch} {e : Env} {s : State} {m : MethodId} {args : Array Value} {below : List Frame} {meth : Method} {c : Code} {w : WP} {Q : State → Prop} (F : Nat) (C : yX p e ({ frames := 0, cells := 0, slots := 0, locals := 0 } : Room) s m args c YM w 3 prog_8_method_63_code "WhoseGlassModel") (hr : meth.sig.returnType = none) (hlocks : meth.locks = false) (a0 : Option Nat) (a1 : Int32) {out : Unit × Mm} (k : Mm → Option (Unit × Mm)) (hk : ∀ (u : Mm), k u  = some out → yG p l e ({ frames := 0, cells := 0, slots := 0, locals := 0 } : Room) s m args below meth c YM w 3 Q u 21 [(0, va_re w.1 a0), (1, .int a1)] []) : ∀ (n : Nat) (u : Mm) (a2 : Int32), f_M_coldAlone_L2 F a0 a1 k n u a2 = some out → yG p l e ({ frames := 0, cells := 0, slots := 0, locals := 0 } : Room) s m args below meth c YM w 3 Q u 2 [(0, va_re w.1 a0), (1, .int a1), (2, .int a2)] [] := by
  intro n
  induction n with
  | zero => intro u a2 h; rw [f_M_coldAlone_L2] at h; cases h
  | succ n ih =>
    intro u a2 h
    rw [f_M_coldAlone_L2] at h
    refine y_iload_n C (i := 2) 2 d_M_coldAlone_2 rfl rfl ?_
    refine y_bipush C (v := 12) d_M_coldAlone_3 (by decide) ?_
    refine y_ic_ge C 21 d_M_coldAlone_5 (by decide) h (fun k1 h => ?_) (fun k1 h => ?_)
    · exact y_sub [0, 1] rfl (hk _ h)
    · refine y_aload_n C (i := 0) 0 d_M_coldAlone_8 rfl rfl ?_
      refine y_gr C (q := (yR5, yT5, 46)) (ci := 5) (k := 10) rfl (by decide) rfl (by decide) g_794 d_M_coldAlone_9 h (fun r2 h => ?_)
      refine y_iload_n C (i := 2) 2 d_M_coldAlone_12 rfl rfl ?_
      refine y_iconst C (v := 0) d_M_coldAlone_13 (by decide) ?_
      refine y_as C d_M_coldAlone_14 h (fun u3 h => ?_)
      refine y_iinc C (j := 2) (v := 1) (lvp := [(0, va_re w.1 a0), (1, .int a1)]) d_M_coldAlone_15 rfl (by decide) (by decide) rfl h (fun x4 h => ?_)
      refine y_goto C (tgt := 2) d_M_coldAlone_18 (by decide) ?_
      exact y_sub [1, 2, 0] rfl (ih _ _ h)
set_option maxHeartbeats 4000000 in
set_option maxRecDepth 100000 in
def f_M_coldAlone_L23 (F : Nat) (a0 : Option Nat) (a1 : Int32) (k : Mm → Option (Unit × Mm)) : Nat → Mm → Int32 → Option (Unit × Mm)
  | 0, _, _ => none
  | n + 1, u, a2 => (if (6 : Int32) ≤ a2 then k u  else ob (jgr YM 5 19 a0) fun (r7 : Option Nat) => ob ((if a2 = a1 then some (1 : Int32) else some (0 : Int32)) : Option (Int32)) fun q8 => ob (jas YM u r7 a2 q8) fun (u10 : Mm) => ob (some (a2 + (1 : Int32))) fun (x11 : Int32) => f_M_coldAlone_L23 F a0 a1 k n u10 x11)
set_option maxHeartbeats 4000000 in
set_option maxRecDepth 100000 in
theorem w_M_coldAlone_L23 {p : Program} {l : Launch} {e : Env} {s : State} {m : MethodId} {args : Array Value} {below : List Frame} {meth : Method} {c : Code} {w : WP} {Q : State → Prop} (F : Nat) (C : yX p e ({ frames := 0, cells := 0, slots := 0, locals := 0 } : Room) s m args c YM w 3 prog_8_method_63_code "WhoseGlassModel") (hr : meth.sig.returnType = none) (hlocks : meth.locks = false) (a0 : Option Nat) (a1 : Int32) {out : Unit × Mm} (k : Mm → Option (Unit × Mm)) (hk : ∀ (u : Mm), k u  = some out → yG p l e ({ frames := 0, cells := 0, slots := 0, locals := 0 } : Room) s m args below meth c YM w 3 Q u 51 [] []) : ∀ (n : Nat) (u : Mm) (a2 : Int32), f_M_coldAlone_L23 F a0 a1 k n u a2 = some out → yG p l e ({ frames := 0, cells := 0, slots := 0, locals := 0 } : Room) s m args below meth c YM w 3 Q u 23 [(0, va_re w.1 a0), (1, .int a1), (2, .int a2)] [] := by
  intro n
  induction n with
  | zero => intro u a2 h; rw [f_M_coldAlone_L23] at h; cases h
  | succ n ih =>
    intro u a2 h
    rw [f_M_coldAlone_L23] at h
    refine y_iload_n C (i := 2) 2 d_M_coldAlone_23 rfl rfl ?_
    refine y_bipush C (v := 6) d_M_coldAlone_24 (by decide) ?_
    refine y_ic_ge C 51 d_M_coldAlone_26 (by decide) h (fun k6 h => ?_) (fun k6 h => ?_)
    · exact y_sub [] rfl (hk _ h)
    · refine y_aload_n C (i := 0) 0 d_M_coldAlone_29 rfl rfl ?_
      refine y_gr C (q := (yR5, yT5, 46)) (ci := 5) (k := 19) rfl (by decide) rfl (by decide) g_803 d_M_coldAlone_30 h (fun r7 h => ?_)
      refine y_iload_n C (i := 2) 2 d_M_coldAlone_33 rfl rfl ?_
      refine y_iload_n C (i := 2) 2 d_M_coldAlone_34 rfl rfl ?_
      refine y_iload_n C (i := 1) 1 d_M_coldAlone_35 rfl rfl ?_
      obtain ⟨q8, hq8, h⟩ := ob_e h
      have hJq8 : yG p l e ({ frames := 0, cells := 0, slots := 0, locals := 0 } : Room) s m args below meth c YM w 3 Q u 44 [(0, va_re w.1 a0), (1, .int a1), (2, .int a2)] [.int q8, .int a2, va_re w.1 r7] := by
        refine y_as C d_M_coldAlone_44 h (fun u10 h => ?_)
        refine y_iinc C (j := 2) (v := 1) (lvp := [(0, va_re w.1 a0), (1, .int a1)]) d_M_coldAlone_45 rfl (by decide) (by decide) rfl h (fun x11 h => ?_)
        refine y_goto C (tgt := 23) d_M_coldAlone_48 (by decide) ?_
        exact y_sub [1, 2, 0] rfl (ih _ _ h)
      refine y_ic_ne C 43 d_M_coldAlone_36 (by decide) hq8 (fun k9 hq8 => ?_) (fun k9 hq8 => ?_)
      · refine y_iconst C (v := 1) d_M_coldAlone_39 (by decide) ?_
        refine y_goto C (tgt := 44) d_M_coldAlone_40 (by decide) ?_
        cases hq8
        exact y_sub [0, 1, 2] rfl hJq8
      · refine y_iconst C (v := 0) d_M_coldAlone_43 (by decide) ?_
        cases hq8
        exact y_sub [0, 1, 2] rfl hJq8
set_option maxRecDepth 100000 in
def f_M_coldAlone (F : Nat) (u : Mm) (o : Nat) (a1 : Int32) : Option (Unit × Mm) := f_M_coldAlone_L2 F (some o) a1 (fun (u5 : Mm) => f_M_coldAlone_L23 F (some o) a1 (fun (u12 : Mm) => some ((), u12)) F u5 (0 : Int32)) F u (0 : Int32)
set_option maxHeartbeats 4000000 in
set_option maxRecDepth 100000 in
theorem c_M_coldAlone (l : Launch) (w : WP) (F : Nat) (u : Mm) (o : Nat) (a1 : Int32) (out : Unit × Mm) (h : f_M_coldAlone F u o a1 = some out) : yMet l m_M_coldAlone ws_M_coldAlone ({ frames := 0, cells := 0, slots := 0, locals := 0 } : Room) YM w u [va_re w.1 (some o), .int a1] yfv out := by
  refine y_entry (own := "WhoseGlassModel") (lv := [(0, va_re w.1 (some o)), (1, .int a1)]) (by decide +kernel) rfl (by simp [lv_args, y_cat, y_catI, y_catJ]) (by simp [lg_sl, y_cat, y_catI, y_catJ]) ?_
  intro p e s m args below meth c C hr hlocks
  unfold f_M_coldAlone at h
  refine y_iconst C (v := 0) d_M_coldAlone_0 (by decide) ?_
  refine y_istore_n C (i := 2) (lvp := [(0, va_re w.1 (some o)), (1, .int a1)]) d_M_coldAlone_1 rfl (by decide) rfl ?_
  refine y_sub [1, 2, 0] rfl (w_M_coldAlone_L2 F C hr hlocks _ _ _ (fun u5 h => ?_) _ _ _ h)
  refine y_iconst C (v := 0) d_M_coldAlone_21 (by decide) ?_
  refine y_istore_n C (i := 2) (lvp := [(0, va_re w.1 (some o)), (1, .int a1)]) d_M_coldAlone_22 rfl (by decide) rfl ?_
  refine y_sub [1, 2, 0] rfl (w_M_coldAlone_L23 F C hr hlocks _ _ _ (fun u12 h => ?_) _ _ _ h)
  exact y_vret C hr hlocks d_M_coldAlone_51 h
/-! M_brought -/
theorem d_M_brought_0 : decode prog_8_method_64_code 0 = .ok (.aload_n 0, 1) := by decide +kernel
theorem d_M_brought_1 : decode prog_8_method_64_code 1 = .ok (.iconst 0, 1) := by decide +kernel
theorem d_M_brought_2 : decode prog_8_method_64_code 2 = .ok (.putfield 102, 3) := by decide +kernel
theorem d_M_brought_5 : decode prog_8_method_64_code 5 = .ok (.iload_n 1, 1) := by decide +kernel
theorem d_M_brought_6 : decode prog_8_method_64_code 6 = .ok (.i2l, 1) := by decide +kernel
theorem d_M_brought_7 : decode prog_8_method_64_code 7 = .ok (.lconst 0, 1) := by decide +kernel
theorem d_M_brought_8 : decode prog_8_method_64_code 8 = .ok (.iconst 1, 1) := by decide +kernel
theorem d_M_brought_9 : decode prog_8_method_64_code 9 = .ok (.aload_n 0, 1) := by decide +kernel
theorem d_M_brought_10 : decode prog_8_method_64_code 10 = .ok (.getfield 112, 3) := by decide +kernel
theorem d_M_brought_13 : decode prog_8_method_64_code 13 = .ok (.ishl, 1) := by decide +kernel
theorem d_M_brought_14 : decode prog_8_method_64_code 14 = .ok (.iconst 1, 1) := by decide +kernel
theorem d_M_brought_15 : decode prog_8_method_64_code 15 = .ok (.isub, 1) := by decide +kernel
theorem d_M_brought_16 : decode prog_8_method_64_code 16 = .ok (.i2l, 1) := by decide +kernel
theorem d_M_brought_17 : decode prog_8_method_64_code 17 = .ok (.invokestatic 108, 3) := by decide +kernel
theorem d_M_brought_20 : decode prog_8_method_64_code 20 = .ok (.ifCond .eq 10, 3) := by decide +kernel
theorem d_M_brought_23 : decode prog_8_method_64_code 23 = .ok (.iload_n 2, 1) := by decide +kernel
theorem d_M_brought_24 : decode prog_8_method_64_code 24 = .ok (.invokestatic 282, 3) := by decide +kernel
theorem d_M_brought_27 : decode prog_8_method_64_code 27 = .ok (.ifCond .ne 5, 3) := by decide +kernel
theorem d_M_brought_30 : decode prog_8_method_64_code 30 = .ok (.iconst (-1), 1) := by decide +kernel
theorem d_M_brought_31 : decode prog_8_method_64_code 31 = .ok (.ireturn, 1) := by decide +kernel
theorem d_M_brought_32 : decode prog_8_method_64_code 32 = .ok (.iconst 0, 1) := by decide +kernel
theorem d_M_brought_33 : decode prog_8_method_64_code 33 = .ok (.istore_n 3, 1) := by decide +kernel
theorem d_M_brought_34 : decode prog_8_method_64_code 34 = .ok (.aload_n 0, 1) := by decide +kernel
theorem d_M_brought_35 : decode prog_8_method_64_code 35 = .ok (.invokevirtual 250, 3) := by decide +kernel
theorem d_M_brought_38 : decode prog_8_method_64_code 38 = .ok (.iconst 0, 1) := by decide +kernel
theorem d_M_brought_39 : decode prog_8_method_64_code 39 = .ok (.istore 4, 2) := by decide +kernel
theorem d_M_brought_41 : decode prog_8_method_64_code 41 = .ok (.iload 4, 2) := by decide +kernel
theorem d_M_brought_43 : decode prog_8_method_64_code 43 = .ok (.aload_n 0, 1) := by decide +kernel
theorem d_M_brought_44 : decode prog_8_method_64_code 44 = .ok (.getfield 112, 3) := by decide +kernel
theorem d_M_brought_47 : decode prog_8_method_64_code 47 = .ok (.if_icmp .ge 47, 3) := by decide +kernel
theorem d_M_brought_50 : decode prog_8_method_64_code 50 = .ok (.aload_n 0, 1) := by decide +kernel
theorem d_M_brought_51 : decode prog_8_method_64_code 51 = .ok (.invokevirtual 256, 3) := by decide +kernel
theorem d_M_brought_54 : decode prog_8_method_64_code 54 = .ok (.aload_n 0, 1) := by decide +kernel
theorem d_M_brought_55 : decode prog_8_method_64_code 55 = .ok (.iload 4, 2) := by decide +kernel
theorem d_M_brought_57 : decode prog_8_method_64_code 57 = .ok (.invokevirtual 288, 3) := by decide +kernel
theorem d_M_brought_60 : decode prog_8_method_64_code 60 = .ok (.aload_n 0, 1) := by decide +kernel
theorem d_M_brought_61 : decode prog_8_method_64_code 61 = .ok (.iload_n 2, 1) := by decide +kernel
theorem d_M_brought_62 : decode prog_8_method_64_code 62 = .ok (.invokevirtual 276, 3) := by decide +kernel
theorem d_M_brought_65 : decode prog_8_method_64_code 65 = .ok (.iload_n 3, 1) := by decide +kernel
theorem d_M_brought_66 : decode prog_8_method_64_code 66 = .ok (.aload_n 0, 1) := by decide +kernel
theorem d_M_brought_67 : decode prog_8_method_64_code 67 = .ok (.invokevirtual 285, 3) := by decide +kernel
theorem d_M_brought_70 : decode prog_8_method_64_code 70 = .ok (.iload_n 1, 1) := by decide +kernel
theorem d_M_brought_71 : decode prog_8_method_64_code 71 = .ok (.if_icmp .ne 10, 3) := by decide +kernel
theorem d_M_brought_74 : decode prog_8_method_64_code 74 = .ok (.iconst 1, 1) := by decide +kernel
theorem d_M_brought_75 : decode prog_8_method_64_code 75 = .ok (.iload 4, 2) := by decide +kernel
theorem d_M_brought_77 : decode prog_8_method_64_code 77 = .ok (.ishl, 1) := by decide +kernel
theorem d_M_brought_78 : decode prog_8_method_64_code 78 = .ok (.goto 4, 3) := by decide +kernel
theorem d_M_brought_81 : decode prog_8_method_64_code 81 = .ok (.iconst 0, 1) := by decide +kernel
theorem d_M_brought_82 : decode prog_8_method_64_code 82 = .ok (.ior, 1) := by decide +kernel
theorem d_M_brought_83 : decode prog_8_method_64_code 83 = .ok (.istore_n 3, 1) := by decide +kernel
theorem d_M_brought_84 : decode prog_8_method_64_code 84 = .ok (.aload_n 0, 1) := by decide +kernel
theorem d_M_brought_85 : decode prog_8_method_64_code 85 = .ok (.invokevirtual 256, 3) := by decide +kernel
theorem d_M_brought_88 : decode prog_8_method_64_code 88 = .ok (.iinc 4 1, 3) := by decide +kernel
theorem d_M_brought_91 : decode prog_8_method_64_code 91 = .ok (.goto (-50), 3) := by decide +kernel
theorem d_M_brought_94 : decode prog_8_method_64_code 94 = .ok (.aload_n 0, 1) := by decide +kernel
theorem d_M_brought_95 : decode prog_8_method_64_code 95 = .ok (.invokevirtual 256, 3) := by decide +kernel
theorem d_M_brought_98 : decode prog_8_method_64_code 98 = .ok (.iload_n 3, 1) := by decide +kernel
theorem d_M_brought_99 : decode prog_8_method_64_code 99 = .ok (.ireturn, 1) := by decide +kernel
theorem gc_M_brought_250 : GoodIn yGW (wsV "WhoseGlassModel" 250 yR5 m_M_open ws_M_open) := y_gV g_978 g_980 gs_19 g_6 g_981
theorem gc_M_brought_256 : GoodIn yGW (wsV "WhoseGlassModel" 256 yR5 m_M_again ws_M_again) := y_gV g_1066 g_1068 gs_41 g_6 g_1069
theorem gc_M_brought_288 : GoodIn yGW (wsV "WhoseGlassModel" 288 yR5 m_M_coldAlone ws_M_coldAlone) := y_gV g_1184 g_1186 gs_46 g_6 g_1187
theorem gc_M_brought_276 : GoodIn yGW (wsV "WhoseGlassModel" 276 yR5 m_M_goThrough ws_M_goThrough) := y_gV g_1125 g_1127 gs_44 g_6 g_1128
theorem gc_M_brought_285 : GoodIn yGW (wsV "WhoseGlassModel" 285 yR5 m_M_coldBits ws_M_coldBits) := y_gV g_1168 g_1170 gs_45 g_6 g_1171
set_option maxHeartbeats 4000000 in
set_option maxRecDepth 100000 in
def f_M_brought_L41 (F : Nat) (a0 : Option Nat) (a1 : Int32) (a2 : Int32) (k : Mm → Int32 → Option (Int32 × Mm)) : Nat → Mm → Int32 → Int32 → Option (Int32 × Mm)
  | 0, _, _, _ => none
  | n + 1, u, a3, a4 => ob (jgi YM 5 1 u a0) fun (x11 : Int32) => (if x11 ≤ a4 then k u a3 else ob (jk YM 5 a0) fun t => yb (f_M_again F u t ) fun v13 u14 => ob (jk YM 5 a0) fun t => yb (f_M_coldAlone F u14 t a4) fun v15 u16 => ob (jk YM 5 a0) fun t => yb (f_M_goThrough F u16 t a2) fun v17 u18 => ob (jk YM 5 a0) fun t => yb (f_M_coldBits F u18 t ) fun x19 u20 => ob ((if x19 = a1 then some ((1 : Int32) <<< (a4 &&& 31)) else some (0 : Int32)) : Option (Int32)) fun q21 => ob (some (a3 ||| q21)) fun (x23 : Int32) => ob (jk YM 5 a0) fun t => yb (f_M_again F u20 t ) fun v24 u25 => ob (some (a4 + (1 : Int32))) fun (x26 : Int32) => f_M_brought_L41 F a0 a1 a2 k n u25 x23 x26)
set_option maxHeartbeats 4000000 in
set_option maxRecDepth 100000 in
theorem w_M_brought_L41 {p : Program} {l : Launch} {e : Env} {s : State} {m : MethodId} {args : Array Value} {below : List Frame} {meth : Method} {c : Code} {w : WP} {Q : State → Prop} (F : Nat) (C : yX p e ({ frames := 8, cells := 0, slots := 0, locals := 181 } : Room) s m args c YM w 5 prog_8_method_64_code "WhoseGlassModel") (hr : meth.sig.returnType = (some .int)) (hlocks : meth.locks = false) (a0 : Option Nat) (a1 : Int32) (a2 : Int32) {out : Int32 × Mm} (k : Mm → Int32 → Option (Int32 × Mm)) (hk : ∀ (u : Mm) (a3 : Int32), k u a3 = some out → yG p l e ({ frames := 8, cells := 0, slots := 0, locals := 181 } : Room) s m args below meth c YM w 5 Q u 94 [(0, va_re w.1 a0), (3, .int a3)] []) : ∀ (n : Nat) (u : Mm) (a3 : Int32) (a4 : Int32), f_M_brought_L41 F a0 a1 a2 k n u a3 a4 = some out → yG p l e ({ frames := 8, cells := 0, slots := 0, locals := 181 } : Room) s m args below meth c YM w 5 Q u 41 [(0, va_re w.1 a0), (1, .int a1), (2, .int a2), (3, .int a3), (4, .int a4)] [] := by
  intro n
  induction n with
  | zero => intro u a3 a4 h; rw [f_M_brought_L41] at h; cases h
  | succ n ih =>
    intro u a3 a4 h
    rw [f_M_brought_L41] at h
    refine y_iload C (i := 4) 4 d_M_brought_41 rfl ?_
    refine y_aload_n C (i := 0) 0 d_M_brought_43 rfl rfl ?_
    refine y_gi C (q := (yR5, yT5, 46)) (ci := 5) (k := 1) rfl (by decide) rfl g_785 d_M_brought_44 h (fun x11 h => ?_)
    refine y_ic_ge C 94 d_M_brought_47 (by decide) h (fun k12 h => ?_) (fun k12 h => ?_)
    · exact y_sub [0, 3] rfl (hk _ _ h)
    · refine y_aload_n C (i := 0) 0 d_M_brought_50 rfl rfl ?_
      refine y_callV 0 C (q := (yR5, yT5, 46)) (ci := 5) (fun t out hh => c_M_again l w F u t out hh) gc_M_brought_256 rfl (by decide) hd_M_again ⟨Nat.le_of_ble_eq_true rfl, Nat.le_of_ble_eq_true rfl⟩ rfl rfl rfl rfl (by simp [y_cat, y_catI, y_catJ]) d_M_brought_51 h (fun v13 u14 h => ?_)
      refine y_stk (stp0 := []) rfl ?_
      refine y_aload_n C (i := 0) 0 d_M_brought_54 rfl rfl ?_
      refine y_iload C (i := 4) 4 d_M_brought_55 rfl ?_
      refine y_callV 1 C (q := (yR5, yT5, 46)) (ci := 5) (fun t out hh => c_M_coldAlone l w F u14 t a4 out hh) gc_M_brought_288 rfl (by decide) hd_M_coldAlone ⟨Nat.le_of_ble_eq_true rfl, Nat.le_of_ble_eq_true rfl⟩ rfl rfl rfl rfl (by simp [y_cat, y_catI, y_catJ]) d_M_brought_57 h (fun v15 u16 h => ?_)
      refine y_stk (stp0 := []) rfl ?_
      refine y_aload_n C (i := 0) 0 d_M_brought_60 rfl rfl ?_
      refine y_iload_n C (i := 2) 2 d_M_brought_61 rfl rfl ?_
      refine y_callV 1 C (q := (yR5, yT5, 46)) (ci := 5) (fun t out hh => c_M_goThrough l w F u16 t a2 out hh) gc_M_brought_276 rfl (by decide) hd_M_goThrough ⟨Nat.le_of_ble_eq_true rfl, Nat.le_of_ble_eq_true rfl⟩ rfl rfl rfl rfl (by simp [y_cat, y_catI, y_catJ]) d_M_brought_62 h (fun v17 u18 h => ?_)
      refine y_stk (stp0 := []) rfl ?_
      refine y_iload_n C (i := 3) 3 d_M_brought_65 rfl rfl ?_
      refine y_aload_n C (i := 0) 0 d_M_brought_66 rfl rfl ?_
      refine y_callV 0 C (q := (yR5, yT5, 46)) (ci := 5) (fun t out hh => c_M_coldBits l w F u18 t out hh) gc_M_brought_285 rfl (by decide) hd_M_coldBits ⟨Nat.le_of_ble_eq_true rfl, Nat.le_of_ble_eq_true rfl⟩ rfl rfl rfl rfl (by simp [y_cat, y_catI, y_catJ]) d_M_brought_67 h (fun x19 u20 h => ?_)
      refine y_stk (stp0 := [.int x19, .int a3]) rfl ?_
      refine y_iload_n C (i := 1) 1 d_M_brought_70 rfl rfl ?_
      obtain ⟨q21, hq21, h⟩ := ob_e h
      have hJq21 : yG p l e ({ frames := 8, cells := 0, slots := 0, locals := 181 } : Room) s m args below meth c YM w 5 Q u20 82 [(0, va_re w.1 a0), (1, .int a1), (2, .int a2), (4, .int a4)] [.int q21, .int a3] := by
        refine y_ior C d_M_brought_82 ?_
        refine y_istore_nB C (i := 3) (lvp := [(0, va_re w.1 a0), (1, .int a1), (2, .int a2), (4, .int a4)]) d_M_brought_83 rfl (by decide) rfl h (fun x23 h => ?_)
        refine y_aload_n C (i := 0) 1 d_M_brought_84 rfl rfl ?_
        refine y_callV 0 C (q := (yR5, yT5, 46)) (ci := 5) (fun t out hh => c_M_again l w F u20 t out hh) gc_M_brought_256 rfl (by decide) hd_M_again ⟨Nat.le_of_ble_eq_true rfl, Nat.le_of_ble_eq_true rfl⟩ rfl rfl rfl rfl (by simp [y_cat, y_catI, y_catJ]) d_M_brought_85 h (fun v24 u25 h => ?_)
        refine y_stk (stp0 := []) rfl ?_
        refine y_iinc C (j := 4) (v := 1) (lvp := [(3, .int x23), (0, va_re w.1 a0), (1, .int a1), (2, .int a2)]) d_M_brought_88 rfl (by decide) (by decide) rfl h (fun x26 h => ?_)
        refine y_goto C (tgt := 41) d_M_brought_91 (by decide) ?_
        exact y_sub [2, 3, 4, 1, 0] rfl (ih _ _ _ h)
      refine y_ic_ne C 81 d_M_brought_71 (by decide) hq21 (fun k22 hq21 => ?_) (fun k22 hq21 => ?_)
      · refine y_iconst C (v := 1) d_M_brought_74 (by decide) ?_
        refine y_iload C (i := 4) 4 d_M_brought_75 rfl ?_
        refine y_ishl C d_M_brought_77 ?_
        refine y_goto C (tgt := 82) d_M_brought_78 (by decide) ?_
        cases hq21
        exact y_sub [0, 1, 2, 4] rfl hJq21
      · refine y_iconst C (v := 0) d_M_brought_81 (by decide) ?_
        cases hq21
        exact y_sub [0, 1, 2, 4] rfl hJq21
set_option maxRecDepth 100000 in
def f_M_brought (F : Nat) (u : Mm) (o : Nat) (a1 : Int32) (a2 : Int32) : Option (Int32 × Mm) := ob (jpi YM 5 23 u (some o) (0 : Int32)) fun (u1 : Mm) => ob (jgi YM 5 1 u1 (some o)) fun (x2 : Int32) => yb (f_M_in F u1 (a1.toInt64) (0 : Int64) ((((1 : Int32) <<< (x2 &&& 31)) - (1 : Int32)).toInt64)) fun x3 u4 => (if x3 = 0 then some ((-1 : Int32), u4) else yb (f_M_isMinutes F u4 a2) fun x6 u7 => (if x6 = 0 then some ((-1 : Int32), u7) else ob (jk YM 5 (some o)) fun t => yb (f_M_open F u7 t ) fun v9 u10 => f_M_brought_L41 F (some o) a1 a2 (fun (u27 : Mm) (x28 : Int32) => ob (jk YM 5 (some o)) fun t => yb (f_M_again F u27 t ) fun v29 u30 => some (x28, u30)) F u10 (0 : Int32) (0 : Int32)))
set_option maxHeartbeats 4000000 in
set_option maxRecDepth 100000 in
theorem c_M_brought (l : Launch) (w : WP) (F : Nat) (u : Mm) (o : Nat) (a1 : Int32) (a2 : Int32) (out : Int32 × Mm) (h : f_M_brought F u o a1 a2 = some out) : yMet l m_M_brought ws_M_brought ({ frames := 8, cells := 0, slots := 0, locals := 181 } : Room) YM w u [va_re w.1 (some o), .int a1, .int a2] yfi out := by
  refine y_entry (own := "WhoseGlassModel") (lv := [(0, va_re w.1 (some o)), (1, .int a1), (2, .int a2)]) (by decide +kernel) rfl (by simp [lv_args, y_cat, y_catI, y_catJ]) (by simp [lg_sl, y_cat, y_catI, y_catJ]) ?_
  intro p e s m args below meth c C hr hlocks
  unfold f_M_brought at h
  refine y_aload_n C (i := 0) 0 d_M_brought_0 rfl rfl ?_
  refine y_iconst C (v := 0) d_M_brought_1 (by decide) ?_
  refine y_pi C (q := (yR5, yT5, 46)) (ci := 5) (k := 23) rfl (by decide) rfl rfl (by decide +kernel) g_807 d_M_brought_2 h (fun u1 h => ?_)
  refine y_iload_n C (i := 1) 1 d_M_brought_5 rfl rfl ?_
  refine y_i2l C d_M_brought_6 ?_
  refine y_lconst C (v := 0) d_M_brought_7 (by decide) ?_
  refine y_iconst C (v := 1) d_M_brought_8 (by decide) ?_
  refine y_aload_n C (i := 0) 0 d_M_brought_9 rfl rfl ?_
  refine y_gi C (q := (yR5, yT5, 46)) (ci := 5) (k := 1) rfl (by decide) rfl g_785 d_M_brought_10 h (fun x2 h => ?_)
  refine y_ishl C d_M_brought_13 ?_
  refine y_iconst C (v := 1) d_M_brought_14 (by decide) ?_
  refine y_isub C d_M_brought_15 ?_
  refine y_i2l C d_M_brought_16 ?_
  refine y_callS 3 C (fun out hh => c_M_in l w F u1 (a1.toInt64) (0 : Int64) ((((1 : Int32) <<< (x2 &&& 31)) - (1 : Int32)).toInt64) out hh) (y_gc g_959) g_957 g_6 g_958 hn_M_in ⟨Nat.le_of_ble_eq_true rfl, Nat.le_of_ble_eq_true rfl⟩ rfl rfl rfl rfl (by simp [y_cat, y_catI, y_catJ]) d_M_brought_17 h (fun x3 u4 h => ?_)
  refine y_stk (stp0 := [.int x3]) rfl ?_
  refine y_if_eq C 30 d_M_brought_20 (by decide) h (fun k5 h => ?_) (fun k5 h => ?_)
  · refine y_iconst C (v := -1) d_M_brought_30 (by decide) ?_
    exact y_iret C hr hlocks d_M_brought_31 h
  · refine y_iload_n C (i := 2) 2 d_M_brought_23 rfl rfl ?_
    refine y_callS 1 C (fun out hh => c_M_isMinutes l w F u4 a2 out hh) (y_gc g_1158) g_1156 g_6 g_1157 hn_M_isMinutes ⟨Nat.le_of_ble_eq_true rfl, Nat.le_of_ble_eq_true rfl⟩ rfl rfl rfl rfl (by simp [y_cat, y_catI, y_catJ]) d_M_brought_24 h (fun x6 u7 h => ?_)
    refine y_stk (stp0 := [.int x6]) rfl ?_
    refine y_if_ne C 32 d_M_brought_27 (by decide) h (fun k8 h => ?_) (fun k8 h => ?_)
    · refine y_iconst C (v := -1) d_M_brought_30 (by decide) ?_
      exact y_iret C hr hlocks d_M_brought_31 h
    · refine y_iconst C (v := 0) d_M_brought_32 (by decide) ?_
      refine y_istore_n C (i := 3) (lvp := [(0, va_re w.1 (some o)), (1, .int a1), (2, .int a2)]) d_M_brought_33 rfl (by decide) rfl ?_
      refine y_aload_n C (i := 0) 1 d_M_brought_34 rfl rfl ?_
      refine y_callV 0 C (q := (yR5, yT5, 46)) (ci := 5) (fun t out hh => c_M_open l w F u7 t out hh) gc_M_brought_250 rfl (by decide) hd_M_open ⟨Nat.le_of_ble_eq_true rfl, Nat.le_of_ble_eq_true rfl⟩ rfl rfl rfl rfl (by simp [y_cat, y_catI, y_catJ]) d_M_brought_35 h (fun v9 u10 h => ?_)
      refine y_stk (stp0 := []) rfl ?_
      refine y_iconst C (v := 0) d_M_brought_38 (by decide) ?_
      refine y_istore C (i := 4) (lvp := [(3, .int (0 : Int32)), (0, va_re w.1 (some o)), (1, .int a1), (2, .int a2)]) d_M_brought_39 (by decide) rfl ?_
      refine y_sub [2, 3, 4, 1, 0] rfl (w_M_brought_L41 F C hr hlocks _ _ _ _ (fun u27 x28 h => ?_) _ _ _ _ h)
      refine y_aload_n C (i := 0) 0 d_M_brought_94 rfl rfl ?_
      refine y_callV 0 C (q := (yR5, yT5, 46)) (ci := 5) (fun t out hh => c_M_again l w F u27 t out hh) gc_M_brought_256 rfl (by decide) hd_M_again ⟨Nat.le_of_ble_eq_true rfl, Nat.le_of_ble_eq_true rfl⟩ rfl rfl rfl rfl (by simp [y_cat, y_catI, y_catJ]) d_M_brought_95 h (fun v29 u30 h => ?_)
      refine y_stk (stp0 := []) rfl ?_
      refine y_iload_n C (i := 3) 1 d_M_brought_98 rfl rfl ?_
      exact y_iret C hr hlocks d_M_brought_99 h
/-! M_particular -/
theorem d_M_particular_0 : decode prog_8_method_65_code 0 = .ok (.aload_n 0, 1) := by decide +kernel
theorem d_M_particular_1 : decode prog_8_method_65_code 1 = .ok (.iconst 0, 1) := by decide +kernel
theorem d_M_particular_2 : decode prog_8_method_65_code 2 = .ok (.putfield 102, 3) := by decide +kernel
theorem d_M_particular_5 : decode prog_8_method_65_code 5 = .ok (.iload_n 1, 1) := by decide +kernel
theorem d_M_particular_6 : decode prog_8_method_65_code 6 = .ok (.invokestatic 282, 3) := by decide +kernel
theorem d_M_particular_9 : decode prog_8_method_65_code 9 = .ok (.ifCond .ne 5, 3) := by decide +kernel
theorem d_M_particular_12 : decode prog_8_method_65_code 12 = .ok (.iconst (-1), 1) := by decide +kernel
theorem d_M_particular_13 : decode prog_8_method_65_code 13 = .ok (.ireturn, 1) := by decide +kernel
theorem d_M_particular_14 : decode prog_8_method_65_code 14 = .ok (.aload_n 0, 1) := by decide +kernel
theorem d_M_particular_15 : decode prog_8_method_65_code 15 = .ok (.invokevirtual 285, 3) := by decide +kernel
theorem d_M_particular_18 : decode prog_8_method_65_code 18 = .ok (.istore_n 2, 1) := by decide +kernel
theorem d_M_particular_19 : decode prog_8_method_65_code 19 = .ok (.bipush (-4), 2) := by decide +kernel
theorem d_M_particular_21 : decode prog_8_method_65_code 21 = .ok (.istore_n 3, 1) := by decide +kernel
theorem d_M_particular_22 : decode prog_8_method_65_code 22 = .ok (.aload_n 0, 1) := by decide +kernel
theorem d_M_particular_23 : decode prog_8_method_65_code 23 = .ok (.invokevirtual 250, 3) := by decide +kernel
theorem d_M_particular_26 : decode prog_8_method_65_code 26 = .ok (.iconst 0, 1) := by decide +kernel
theorem d_M_particular_27 : decode prog_8_method_65_code 27 = .ok (.istore 4, 2) := by decide +kernel
theorem d_M_particular_29 : decode prog_8_method_65_code 29 = .ok (.iload 4, 2) := by decide +kernel
theorem d_M_particular_31 : decode prog_8_method_65_code 31 = .ok (.bipush 10, 2) := by decide +kernel
theorem d_M_particular_33 : decode prog_8_method_65_code 33 = .ok (.if_icmp .ge 63, 3) := by decide +kernel
theorem d_M_particular_36 : decode prog_8_method_65_code 36 = .ok (.iload_n 3, 1) := by decide +kernel
theorem d_M_particular_37 : decode prog_8_method_65_code 37 = .ok (.ifCond .ge 59, 3) := by decide +kernel
theorem d_M_particular_40 : decode prog_8_method_65_code 40 = .ok (.aload_n 0, 1) := by decide +kernel
theorem d_M_particular_41 : decode prog_8_method_65_code 41 = .ok (.invokevirtual 256, 3) := by decide +kernel
theorem d_M_particular_44 : decode prog_8_method_65_code 44 = .ok (.iconst 0, 1) := by decide +kernel
theorem d_M_particular_45 : decode prog_8_method_65_code 45 = .ok (.istore 5, 2) := by decide +kernel
theorem d_M_particular_47 : decode prog_8_method_65_code 47 = .ok (.iload 5, 2) := by decide +kernel
theorem d_M_particular_49 : decode prog_8_method_65_code 49 = .ok (.bipush 6, 2) := by decide +kernel
theorem d_M_particular_51 : decode prog_8_method_65_code 51 = .ok (.if_icmp .ge 18, 3) := by decide +kernel
theorem d_M_particular_54 : decode prog_8_method_65_code 54 = .ok (.aload_n 0, 1) := by decide +kernel
theorem d_M_particular_55 : decode prog_8_method_65_code 55 = .ok (.getfield 44, 3) := by decide +kernel
theorem d_M_particular_58 : decode prog_8_method_65_code 58 = .ok (.iload 5, 2) := by decide +kernel
theorem d_M_particular_60 : decode prog_8_method_65_code 60 = .ok (.iload 4, 2) := by decide +kernel
theorem d_M_particular_62 : decode prog_8_method_65_code 62 = .ok (.iastore, 1) := by decide +kernel
theorem d_M_particular_63 : decode prog_8_method_65_code 63 = .ok (.iinc 5 1, 3) := by decide +kernel
theorem d_M_particular_66 : decode prog_8_method_65_code 66 = .ok (.goto (-19), 3) := by decide +kernel
theorem d_M_particular_69 : decode prog_8_method_65_code 69 = .ok (.aload_n 0, 1) := by decide +kernel
theorem d_M_particular_70 : decode prog_8_method_65_code 70 = .ok (.iload_n 1, 1) := by decide +kernel
theorem d_M_particular_71 : decode prog_8_method_65_code 71 = .ok (.invokevirtual 276, 3) := by decide +kernel
theorem d_M_particular_74 : decode prog_8_method_65_code 74 = .ok (.aload_n 0, 1) := by decide +kernel
theorem d_M_particular_75 : decode prog_8_method_65_code 75 = .ok (.invokevirtual 285, 3) := by decide +kernel
theorem d_M_particular_78 : decode prog_8_method_65_code 78 = .ok (.iload_n 2, 1) := by decide +kernel
theorem d_M_particular_79 : decode prog_8_method_65_code 79 = .ok (.if_icmp .ne 8, 3) := by decide +kernel
theorem d_M_particular_82 : decode prog_8_method_65_code 82 = .ok (.iload 4, 2) := by decide +kernel
theorem d_M_particular_84 : decode prog_8_method_65_code 84 = .ok (.goto 5, 3) := by decide +kernel
theorem d_M_particular_87 : decode prog_8_method_65_code 87 = .ok (.bipush (-4), 2) := by decide +kernel
theorem d_M_particular_89 : decode prog_8_method_65_code 89 = .ok (.istore_n 3, 1) := by decide +kernel
theorem d_M_particular_90 : decode prog_8_method_65_code 90 = .ok (.iinc 4 1, 3) := by decide +kernel
theorem d_M_particular_93 : decode prog_8_method_65_code 93 = .ok (.goto (-64), 3) := by decide +kernel
theorem d_M_particular_96 : decode prog_8_method_65_code 96 = .ok (.aload_n 0, 1) := by decide +kernel
theorem d_M_particular_97 : decode prog_8_method_65_code 97 = .ok (.invokevirtual 256, 3) := by decide +kernel
theorem d_M_particular_100 : decode prog_8_method_65_code 100 = .ok (.iload_n 3, 1) := by decide +kernel
theorem d_M_particular_101 : decode prog_8_method_65_code 101 = .ok (.ireturn, 1) := by decide +kernel
theorem gc_M_particular_285 : GoodIn yGW (wsV "WhoseGlassModel" 285 yR5 m_M_coldBits ws_M_coldBits) := y_gV g_1168 g_1170 gs_45 g_6 g_1171
theorem gc_M_particular_250 : GoodIn yGW (wsV "WhoseGlassModel" 250 yR5 m_M_open ws_M_open) := y_gV g_978 g_980 gs_19 g_6 g_981
theorem gc_M_particular_256 : GoodIn yGW (wsV "WhoseGlassModel" 256 yR5 m_M_again ws_M_again) := y_gV g_1066 g_1068 gs_41 g_6 g_1069
theorem gc_M_particular_276 : GoodIn yGW (wsV "WhoseGlassModel" 276 yR5 m_M_goThrough ws_M_goThrough) := y_gV g_1125 g_1127 gs_44 g_6 g_1128
set_option maxHeartbeats 4000000 in
set_option maxRecDepth 100000 in
def f_M_particular_L47 (F : Nat) (a0 : Option Nat) (a1 : Int32) (a2 : Int32) (a4 : Int32) (k : Mm → Option (Int32 × Mm)) : Nat → Mm → Int32 → Option (Int32 × Mm)
  | 0, _, _ => none
  | n + 1, u, a5 => (if (6 : Int32) ≤ a5 then k u  else ob (jgr YM 5 14 a0) fun (r14 : Option Nat) => ob (jas YM u r14 a5 a4) fun (u15 : Mm) => ob (some (a5 + (1 : Int32))) fun (x16 : Int32) => f_M_particular_L47 F a0 a1 a2 a4 k n u15 x16)
set_option maxHeartbeats 4000000 in
set_option maxRecDepth 100000 in
theorem w_M_particular_L47 {p : Program} {l : Launch} {e : Env} {s : State} {m : MethodId} {args : Array Value} {below : List Frame} {meth : Method} {c : Code} {w : WP} {Q : State → Prop} (F : Nat) (C : yX p e ({ frames := 8, cells := 0, slots := 0, locals := 181 } : Room) s m args c YM w 6 prog_8_method_65_code "WhoseGlassModel") (hr : meth.sig.returnType = (some .int)) (hlocks : meth.locks = false) (a0 : Option Nat) (a1 : Int32) (a2 : Int32) (a4 : Int32) {out : Int32 × Mm} (k : Mm → Option (Int32 × Mm)) (hk : ∀ (u : Mm), k u  = some out → yG p l e ({ frames := 8, cells := 0, slots := 0, locals := 181 } : Room) s m args below meth c YM w 6 Q u 69 [(0, va_re w.1 a0), (1, .int a1), (2, .int a2), (4, .int a4)] []) : ∀ (n : Nat) (u : Mm) (a5 : Int32), f_M_particular_L47 F a0 a1 a2 a4 k n u a5 = some out → yG p l e ({ frames := 8, cells := 0, slots := 0, locals := 181 } : Room) s m args below meth c YM w 6 Q u 47 [(0, va_re w.1 a0), (1, .int a1), (2, .int a2), (4, .int a4), (5, .int a5)] [] := by
  intro n
  induction n with
  | zero => intro u a5 h; rw [f_M_particular_L47] at h; cases h
  | succ n ih =>
    intro u a5 h
    rw [f_M_particular_L47] at h
    refine y_iload C (i := 5) 4 d_M_particular_47 rfl ?_
    refine y_bipush C (v := 6) d_M_particular_49 (by decide) ?_
    refine y_ic_ge C 69 d_M_particular_51 (by decide) h (fun k13 h => ?_) (fun k13 h => ?_)
    · exact y_sub [0, 1, 2, 3] rfl (hk _ h)
    · refine y_aload_n C (i := 0) 0 d_M_particular_54 rfl rfl ?_
      refine y_gr C (q := (yR5, yT5, 46)) (ci := 5) (k := 14) rfl (by decide) rfl (by decide) g_798 d_M_particular_55 h (fun r14 h => ?_)
      refine y_iload C (i := 5) 4 d_M_particular_58 rfl ?_
      refine y_iload C (i := 4) 3 d_M_particular_60 rfl ?_
      refine y_as C d_M_particular_62 h (fun u15 h => ?_)
      refine y_iinc C (j := 4) (v := 1) (lvp := [(0, va_re w.1 a0), (1, .int a1), (2, .int a2), (4, .int a4)]) d_M_particular_63 rfl (by decide) (by decide) rfl h (fun x16 h => ?_)
      refine y_goto C (tgt := 47) d_M_particular_66 (by decide) ?_
      exact y_sub [1, 2, 3, 4, 0] rfl (ih _ _ h)
set_option maxHeartbeats 4000000 in
set_option maxRecDepth 100000 in
def f_M_particular_L29 (F : Nat) (a0 : Option Nat) (a1 : Int32) (a2 : Int32) (k : Mm → Int32 → Option (Int32 × Mm)) : Nat → Mm → Int32 → Int32 → Option (Int32 × Mm)
  | 0, _, _, _ => none
  | n + 1, u, a3, a4 => (if (10 : Int32) ≤ a4 then k u a3 else (if 0 ≤ a3 then k u a3 else ob (jk YM 5 a0) fun t => yb (f_M_again F u t ) fun v11 u12 => f_M_particular_L47 F a0 a1 a2 a4 (fun (u17 : Mm) => ob (jk YM 5 a0) fun t => yb (f_M_goThrough F u17 t a1) fun v18 u19 => ob (jk YM 5 a0) fun t => yb (f_M_coldBits F u19 t ) fun x20 u21 => ob ((if x20 = a2 then some a4 else some (-4 : Int32)) : Option (Int32)) fun q22 => ob (some (a4 + (1 : Int32))) fun (x24 : Int32) => f_M_particular_L29 F a0 a1 a2 k n u21 q22 x24) F u12 (0 : Int32)))
set_option maxHeartbeats 4000000 in
set_option maxRecDepth 100000 in
theorem w_M_particular_L29 {p : Program} {l : Launch} {e : Env} {s : State} {m : MethodId} {args : Array Value} {below : List Frame} {meth : Method} {c : Code} {w : WP} {Q : State → Prop} (F : Nat) (C : yX p e ({ frames := 8, cells := 0, slots := 0, locals := 181 } : Room) s m args c YM w 6 prog_8_method_65_code "WhoseGlassModel") (hr : meth.sig.returnType = (some .int)) (hlocks : meth.locks = false) (a0 : Option Nat) (a1 : Int32) (a2 : Int32) {out : Int32 × Mm} (k : Mm → Int32 → Option (Int32 × Mm)) (hk : ∀ (u : Mm) (a3 : Int32), k u a3 = some out → yG p l e ({ frames := 8, cells := 0, slots := 0, locals := 181 } : Room) s m args below meth c YM w 6 Q u 96 [(0, va_re w.1 a0), (3, .int a3)] []) : ∀ (n : Nat) (u : Mm) (a3 : Int32) (a4 : Int32), f_M_particular_L29 F a0 a1 a2 k n u a3 a4 = some out → yG p l e ({ frames := 8, cells := 0, slots := 0, locals := 181 } : Room) s m args below meth c YM w 6 Q u 29 [(0, va_re w.1 a0), (1, .int a1), (2, .int a2), (3, .int a3), (4, .int a4)] [] := by
  intro n
  induction n with
  | zero => intro u a3 a4 h; rw [f_M_particular_L29] at h; cases h
  | succ n ih =>
    intro u a3 a4 h
    rw [f_M_particular_L29] at h
    refine y_iload C (i := 4) 4 d_M_particular_29 rfl ?_
    refine y_bipush C (v := 10) d_M_particular_31 (by decide) ?_
    refine y_ic_ge C 96 d_M_particular_33 (by decide) h (fun k9 h => ?_) (fun k9 h => ?_)
    · exact y_sub [0, 3] rfl (hk _ _ h)
    · refine y_iload_n C (i := 3) 3 d_M_particular_36 rfl rfl ?_
      refine y_if_ge C 96 d_M_particular_37 (by decide) h (fun k10 h => ?_) (fun k10 h => ?_)
      · exact y_sub [0, 3] rfl (hk _ _ h)
      · refine y_aload_n C (i := 0) 0 d_M_particular_40 rfl rfl ?_
        refine y_callV 0 C (q := (yR5, yT5, 46)) (ci := 5) (fun t out hh => c_M_again l w F u t out hh) gc_M_particular_256 rfl (by decide) hd_M_again ⟨Nat.le_of_ble_eq_true rfl, Nat.le_of_ble_eq_true rfl⟩ rfl rfl rfl rfl (by simp [y_cat, y_catI, y_catJ]) d_M_particular_41 h (fun v11 u12 h => ?_)
        refine y_stk (stp0 := []) rfl ?_
        refine y_iconst C (v := 0) d_M_particular_44 (by decide) ?_
        refine y_istore C (i := 5) (lvp := [(0, va_re w.1 a0), (1, .int a1), (2, .int a2), (3, .int a3), (4, .int a4)]) d_M_particular_45 (by decide) rfl ?_
        refine y_sub [1, 2, 3, 5, 0] rfl (w_M_particular_L47 F C hr hlocks _ _ _ _ _ (fun u17 h => ?_) _ _ _ h)
        refine y_aload_n C (i := 0) 0 d_M_particular_69 rfl rfl ?_
        refine y_iload_n C (i := 1) 1 d_M_particular_70 rfl rfl ?_
        refine y_callV 1 C (q := (yR5, yT5, 46)) (ci := 5) (fun t out hh => c_M_goThrough l w F u17 t a1 out hh) gc_M_particular_276 rfl (by decide) hd_M_goThrough ⟨Nat.le_of_ble_eq_true rfl, Nat.le_of_ble_eq_true rfl⟩ rfl rfl rfl rfl (by simp [y_cat, y_catI, y_catJ]) d_M_particular_71 h (fun v18 u19 h => ?_)
        refine y_stk (stp0 := []) rfl ?_
        refine y_aload_n C (i := 0) 0 d_M_particular_74 rfl rfl ?_
        refine y_callV 0 C (q := (yR5, yT5, 46)) (ci := 5) (fun t out hh => c_M_coldBits l w F u19 t out hh) gc_M_particular_285 rfl (by decide) hd_M_coldBits ⟨Nat.le_of_ble_eq_true rfl, Nat.le_of_ble_eq_true rfl⟩ rfl rfl rfl rfl (by simp [y_cat, y_catI, y_catJ]) d_M_particular_75 h (fun x20 u21 h => ?_)
        refine y_stk (stp0 := [.int x20]) rfl ?_
        refine y_iload_n C (i := 2) 2 d_M_particular_78 rfl rfl ?_
        obtain ⟨q22, hq22, h⟩ := ob_e h
        have hJq22 : yG p l e ({ frames := 8, cells := 0, slots := 0, locals := 181 } : Room) s m args below meth c YM w 6 Q u21 89 [(0, va_re w.1 a0), (1, .int a1), (2, .int a2), (4, .int a4)] [.int q22] := by
          refine y_istore_n C (i := 3) (lvp := [(0, va_re w.1 a0), (1, .int a1), (2, .int a2), (4, .int a4)]) d_M_particular_89 rfl (by decide) rfl ?_
          refine y_iinc C (j := 4) (v := 1) (lvp := [(3, .int q22), (0, va_re w.1 a0), (1, .int a1), (2, .int a2)]) d_M_particular_90 rfl (by decide) (by decide) rfl h (fun x24 h => ?_)
          refine y_goto C (tgt := 29) d_M_particular_93 (by decide) ?_
          exact y_sub [2, 3, 4, 1, 0] rfl (ih _ _ _ h)
        refine y_ic_ne C 87 d_M_particular_79 (by decide) hq22 (fun k23 hq22 => ?_) (fun k23 hq22 => ?_)
        · refine y_iload C (i := 4) 3 d_M_particular_82 rfl ?_
          refine y_goto C (tgt := 89) d_M_particular_84 (by decide) ?_
          cases hq22
          exact y_sub [0, 1, 2, 3] rfl hJq22
        · refine y_bipush C (v := -4) d_M_particular_87 (by decide) ?_
          cases hq22
          exact y_sub [0, 1, 2, 3] rfl hJq22
set_option maxRecDepth 100000 in
def f_M_particular (F : Nat) (u : Mm) (o : Nat) (a1 : Int32) : Option (Int32 × Mm) := ob (jpi YM 5 23 u (some o) (0 : Int32)) fun (u1 : Mm) => yb (f_M_isMinutes F u1 a1) fun x2 u3 => (if x2 = 0 then some ((-1 : Int32), u3) else ob (jk YM 5 (some o)) fun t => yb (f_M_coldBits F u3 t ) fun x5 u6 => ob (jk YM 5 (some o)) fun t => yb (f_M_open F u6 t ) fun v7 u8 => f_M_particular_L29 F (some o) a1 x5 (fun (u25 : Mm) (x26 : Int32) => ob (jk YM 5 (some o)) fun t => yb (f_M_again F u25 t ) fun v27 u28 => some (x26, u28)) F u8 (-4 : Int32) (0 : Int32))
set_option maxHeartbeats 4000000 in
set_option maxRecDepth 100000 in
theorem c_M_particular (l : Launch) (w : WP) (F : Nat) (u : Mm) (o : Nat) (a1 : Int32) (out : Int32 × Mm) (h : f_M_particular F u o a1 = some out) : yMet l m_M_particular ws_M_particular ({ frames := 8, cells := 0, slots := 0, locals := 181 } : Room) YM w u [va_re w.1 (some o), .int a1] yfi out := by
  refine y_entry (own := "WhoseGlassModel") (lv := [(0, va_re w.1 (some o)), (1, .int a1)]) (by decide +kernel) rfl (by simp [lv_args, y_cat, y_catI, y_catJ]) (by simp [lg_sl, y_cat, y_catI, y_catJ]) ?_
  intro p e s m args below meth c C hr hlocks
  unfold f_M_particular at h
  refine y_aload_n C (i := 0) 0 d_M_particular_0 rfl rfl ?_
  refine y_iconst C (v := 0) d_M_particular_1 (by decide) ?_
  refine y_pi C (q := (yR5, yT5, 46)) (ci := 5) (k := 23) rfl (by decide) rfl rfl (by decide +kernel) g_807 d_M_particular_2 h (fun u1 h => ?_)
  refine y_iload_n C (i := 1) 1 d_M_particular_5 rfl rfl ?_
  refine y_callS 1 C (fun out hh => c_M_isMinutes l w F u1 a1 out hh) (y_gc g_1158) g_1156 g_6 g_1157 hn_M_isMinutes ⟨Nat.le_of_ble_eq_true rfl, Nat.le_of_ble_eq_true rfl⟩ rfl rfl rfl rfl (by simp [y_cat, y_catI, y_catJ]) d_M_particular_6 h (fun x2 u3 h => ?_)
  refine y_stk (stp0 := [.int x2]) rfl ?_
  refine y_if_ne C 14 d_M_particular_9 (by decide) h (fun k4 h => ?_) (fun k4 h => ?_)
  · refine y_iconst C (v := -1) d_M_particular_12 (by decide) ?_
    exact y_iret C hr hlocks d_M_particular_13 h
  · refine y_aload_n C (i := 0) 0 d_M_particular_14 rfl rfl ?_
    refine y_callV 0 C (q := (yR5, yT5, 46)) (ci := 5) (fun t out hh => c_M_coldBits l w F u3 t out hh) gc_M_particular_285 rfl (by decide) hd_M_coldBits ⟨Nat.le_of_ble_eq_true rfl, Nat.le_of_ble_eq_true rfl⟩ rfl rfl rfl rfl (by simp [y_cat, y_catI, y_catJ]) d_M_particular_15 h (fun x5 u6 h => ?_)
    refine y_stk (stp0 := [.int x5]) rfl ?_
    refine y_istore_n C (i := 2) (lvp := [(0, va_re w.1 (some o)), (1, .int a1)]) d_M_particular_18 rfl (by decide) rfl ?_
    refine y_bipush C (v := -4) d_M_particular_19 (by decide) ?_
    refine y_istore_n C (i := 3) (lvp := [(2, .int x5), (0, va_re w.1 (some o)), (1, .int a1)]) d_M_particular_21 rfl (by decide) rfl ?_
    refine y_aload_n C (i := 0) 2 d_M_particular_22 rfl rfl ?_
    refine y_callV 0 C (q := (yR5, yT5, 46)) (ci := 5) (fun t out hh => c_M_open l w F u6 t out hh) gc_M_particular_250 rfl (by decide) hd_M_open ⟨Nat.le_of_ble_eq_true rfl, Nat.le_of_ble_eq_true rfl⟩ rfl rfl rfl rfl (by simp [y_cat, y_catI, y_catJ]) d_M_particular_23 h (fun v7 u8 h => ?_)
    refine y_stk (stp0 := []) rfl ?_
    refine y_iconst C (v := 0) d_M_particular_26 (by decide) ?_
    refine y_istore C (i := 4) (lvp := [(3, .int (-4 : Int32)), (2, .int x5), (0, va_re w.1 (some o)), (1, .int a1)]) d_M_particular_27 (by decide) rfl ?_
    refine y_sub [3, 4, 2, 1, 0] rfl (w_M_particular_L29 F C hr hlocks _ _ _ _ (fun u25 x26 h => ?_) _ _ _ _ h)
    refine y_aload_n C (i := 0) 0 d_M_particular_96 rfl rfl ?_
    refine y_callV 0 C (q := (yR5, yT5, 46)) (ci := 5) (fun t out hh => c_M_again l w F u25 t out hh) gc_M_particular_256 rfl (by decide) hd_M_again ⟨Nat.le_of_ble_eq_true rfl, Nat.le_of_ble_eq_true rfl⟩ rfl rfl rfl rfl (by simp [y_cat, y_catI, y_catJ]) d_M_particular_97 h (fun v27 u28 h => ?_)
    refine y_stk (stp0 := []) rfl ?_
    refine y_iload_n C (i := 3) 1 d_M_particular_100 rfl rfl ?_
    exact y_iret C hr hlocks d_M_particular_101 h
/-! M_mark -/
theorem d_M_mark_0 : decode prog_8_method_66_code 0 = .ok (.aload_n 0, 1) := by decide +kernel
theorem d_M_mark_1 : decode prog_8_method_66_code 1 = .ok (.iconst 0, 1) := by decide +kernel
theorem d_M_mark_2 : decode prog_8_method_66_code 2 = .ok (.putfield 102, 3) := by decide +kernel
theorem d_M_mark_5 : decode prog_8_method_66_code 5 = .ok (.iload_n 1, 1) := by decide +kernel
theorem d_M_mark_6 : decode prog_8_method_66_code 6 = .ok (.invokestatic 282, 3) := by decide +kernel
theorem d_M_mark_9 : decode prog_8_method_66_code 9 = .ok (.ifCond .ne 5, 3) := by decide +kernel
theorem d_M_mark_12 : decode prog_8_method_66_code 12 = .ok (.iconst (-1), 1) := by decide +kernel
theorem d_M_mark_13 : decode prog_8_method_66_code 13 = .ok (.ireturn, 1) := by decide +kernel
theorem d_M_mark_14 : decode prog_8_method_66_code 14 = .ok (.bipush (-4), 2) := by decide +kernel
theorem d_M_mark_16 : decode prog_8_method_66_code 16 = .ok (.istore_n 2, 1) := by decide +kernel
theorem d_M_mark_17 : decode prog_8_method_66_code 17 = .ok (.aload_n 0, 1) := by decide +kernel
theorem d_M_mark_18 : decode prog_8_method_66_code 18 = .ok (.invokevirtual 250, 3) := by decide +kernel
theorem d_M_mark_21 : decode prog_8_method_66_code 21 = .ok (.aload_n 0, 1) := by decide +kernel
theorem d_M_mark_22 : decode prog_8_method_66_code 22 = .ok (.getfield 105, 3) := by decide +kernel
theorem d_M_mark_25 : decode prog_8_method_66_code 25 = .ok (.istore_n 3, 1) := by decide +kernel
theorem d_M_mark_26 : decode prog_8_method_66_code 26 = .ok (.aload_n 0, 1) := by decide +kernel
theorem d_M_mark_27 : decode prog_8_method_66_code 27 = .ok (.iload_n 1, 1) := by decide +kernel
theorem d_M_mark_28 : decode prog_8_method_66_code 28 = .ok (.invokevirtual 276, 3) := by decide +kernel
theorem d_M_mark_31 : decode prog_8_method_66_code 31 = .ok (.aload_n 0, 1) := by decide +kernel
theorem d_M_mark_32 : decode prog_8_method_66_code 32 = .ok (.getfield 146, 3) := by decide +kernel
theorem d_M_mark_35 : decode prog_8_method_66_code 35 = .ok (.istore 4, 2) := by decide +kernel
theorem d_M_mark_37 : decode prog_8_method_66_code 37 = .ok (.iconst 0, 1) := by decide +kernel
theorem d_M_mark_38 : decode prog_8_method_66_code 38 = .ok (.istore 5, 2) := by decide +kernel
theorem d_M_mark_40 : decode prog_8_method_66_code 40 = .ok (.iload 5, 2) := by decide +kernel
theorem d_M_mark_42 : decode prog_8_method_66_code 42 = .ok (.iload_n 3, 1) := by decide +kernel
theorem d_M_mark_43 : decode prog_8_method_66_code 43 = .ok (.if_icmp .ge 62, 3) := by decide +kernel
theorem d_M_mark_46 : decode prog_8_method_66_code 46 = .ok (.aload_n 0, 1) := by decide +kernel
theorem d_M_mark_47 : decode prog_8_method_66_code 47 = .ok (.invokevirtual 256, 3) := by decide +kernel
theorem d_M_mark_50 : decode prog_8_method_66_code 50 = .ok (.aload_n 0, 1) := by decide +kernel
theorem d_M_mark_51 : decode prog_8_method_66_code 51 = .ok (.getfield 13, 3) := by decide +kernel
theorem d_M_mark_54 : decode prog_8_method_66_code 54 = .ok (.iload 5, 2) := by decide +kernel
theorem d_M_mark_56 : decode prog_8_method_66_code 56 = .ok (.iconst 1, 1) := by decide +kernel
theorem d_M_mark_57 : decode prog_8_method_66_code 57 = .ok (.iastore, 1) := by decide +kernel
theorem d_M_mark_58 : decode prog_8_method_66_code 58 = .ok (.aload_n 0, 1) := by decide +kernel
theorem d_M_mark_59 : decode prog_8_method_66_code 59 = .ok (.iload_n 1, 1) := by decide +kernel
theorem d_M_mark_60 : decode prog_8_method_66_code 60 = .ok (.invokevirtual 276, 3) := by decide +kernel
theorem d_M_mark_63 : decode prog_8_method_66_code 63 = .ok (.aload_n 0, 1) := by decide +kernel
theorem d_M_mark_64 : decode prog_8_method_66_code 64 = .ok (.getfield 146, 3) := by decide +kernel
theorem d_M_mark_67 : decode prog_8_method_66_code 67 = .ok (.iload 4, 2) := by decide +kernel
theorem d_M_mark_69 : decode prog_8_method_66_code 69 = .ok (.if_icmp .ge 8, 3) := by decide +kernel
theorem d_M_mark_72 : decode prog_8_method_66_code 72 = .ok (.iload 5, 2) := by decide +kernel
theorem d_M_mark_74 : decode prog_8_method_66_code 74 = .ok (.goto 4, 3) := by decide +kernel
theorem d_M_mark_77 : decode prog_8_method_66_code 77 = .ok (.iload_n 2, 1) := by decide +kernel
theorem d_M_mark_78 : decode prog_8_method_66_code 78 = .ok (.istore_n 2, 1) := by decide +kernel
theorem d_M_mark_79 : decode prog_8_method_66_code 79 = .ok (.aload_n 0, 1) := by decide +kernel
theorem d_M_mark_80 : decode prog_8_method_66_code 80 = .ok (.getfield 146, 3) := by decide +kernel
theorem d_M_mark_83 : decode prog_8_method_66_code 83 = .ok (.iload 4, 2) := by decide +kernel
theorem d_M_mark_85 : decode prog_8_method_66_code 85 = .ok (.if_icmp .ge 10, 3) := by decide +kernel
theorem d_M_mark_88 : decode prog_8_method_66_code 88 = .ok (.aload_n 0, 1) := by decide +kernel
theorem d_M_mark_89 : decode prog_8_method_66_code 89 = .ok (.getfield 146, 3) := by decide +kernel
theorem d_M_mark_92 : decode prog_8_method_66_code 92 = .ok (.goto 5, 3) := by decide +kernel
theorem d_M_mark_95 : decode prog_8_method_66_code 95 = .ok (.iload 4, 2) := by decide +kernel
theorem d_M_mark_97 : decode prog_8_method_66_code 97 = .ok (.istore 4, 2) := by decide +kernel
theorem d_M_mark_99 : decode prog_8_method_66_code 99 = .ok (.iinc 5 1, 3) := by decide +kernel
theorem d_M_mark_102 : decode prog_8_method_66_code 102 = .ok (.goto (-62), 3) := by decide +kernel
theorem d_M_mark_105 : decode prog_8_method_66_code 105 = .ok (.aload_n 0, 1) := by decide +kernel
theorem d_M_mark_106 : decode prog_8_method_66_code 106 = .ok (.invokevirtual 256, 3) := by decide +kernel
theorem d_M_mark_109 : decode prog_8_method_66_code 109 = .ok (.iload_n 2, 1) := by decide +kernel
theorem d_M_mark_110 : decode prog_8_method_66_code 110 = .ok (.ireturn, 1) := by decide +kernel
theorem gc_M_mark_250 : GoodIn yGW (wsV "WhoseGlassModel" 250 yR5 m_M_open ws_M_open) := y_gV g_978 g_980 gs_19 g_6 g_981
theorem gc_M_mark_276 : GoodIn yGW (wsV "WhoseGlassModel" 276 yR5 m_M_goThrough ws_M_goThrough) := y_gV g_1125 g_1127 gs_44 g_6 g_1128
theorem gc_M_mark_256 : GoodIn yGW (wsV "WhoseGlassModel" 256 yR5 m_M_again ws_M_again) := y_gV g_1066 g_1068 gs_41 g_6 g_1069
set_option maxHeartbeats 4000000 in
set_option maxRecDepth 100000 in
def f_M_mark_L40 (F : Nat) (a0 : Option Nat) (a1 : Int32) (a3 : Int32) (k : Mm → Int32 → Option (Int32 × Mm)) : Nat → Mm → Int32 → Int32 → Int32 → Option (Int32 × Mm)
  | 0, _, _, _, _ => none
  | n + 1, u, a2, a4, a5 => (if a3 ≤ a5 then k u a2 else ob (jk YM 5 a0) fun t => yb (f_M_again F u t ) fun v12 u13 => ob (jgr YM 5 4 a0) fun (r14 : Option Nat) => ob (jas YM u13 r14 a5 (1 : Int32)) fun (u15 : Mm) => ob (jk YM 5 a0) fun t => yb (f_M_goThrough F u15 t a1) fun v16 u17 => ob (jgi YM 5 20 u17 a0) fun (x18 : Int32) => ob ((if a4 ≤ x18 then some a2 else some a5) : Option (Int32)) fun q19 => ob (jgi YM 5 20 u17 a0) fun (x21 : Int32) => ob ((if a4 ≤ x21 then some a4 else ob (jgi YM 5 20 u17 a0) fun (x24 : Int32) => some x24) : Option (Int32)) fun q22 => ob (some (a5 + (1 : Int32))) fun (x25 : Int32) => f_M_mark_L40 F a0 a1 a3 k n u17 q19 q22 x25)
set_option maxHeartbeats 4000000 in
set_option maxRecDepth 100000 in
theorem w_M_mark_L40 {p : Program} {l : Launch} {e : Env} {s : State} {m : MethodId} {args : Array Value} {below : List Frame} {meth : Method} {c : Code} {w : WP} {Q : State → Prop} (F : Nat) (C : yX p e ({ frames := 8, cells := 0, slots := 0, locals := 181 } : Room) s m args c YM w 6 prog_8_method_66_code "WhoseGlassModel") (hr : meth.sig.returnType = (some .int)) (hlocks : meth.locks = false) (a0 : Option Nat) (a1 : Int32) (a3 : Int32) {out : Int32 × Mm} (k : Mm → Int32 → Option (Int32 × Mm)) (hk : ∀ (u : Mm) (a2 : Int32), k u a2 = some out → yG p l e ({ frames := 8, cells := 0, slots := 0, locals := 181 } : Room) s m args below meth c YM w 6 Q u 105 [(0, va_re w.1 a0), (2, .int a2)] []) : ∀ (n : Nat) (u : Mm) (a2 : Int32) (a4 : Int32) (a5 : Int32), f_M_mark_L40 F a0 a1 a3 k n u a2 a4 a5 = some out → yG p l e ({ frames := 8, cells := 0, slots := 0, locals := 181 } : Room) s m args below meth c YM w 6 Q u 40 [(0, va_re w.1 a0), (1, .int a1), (2, .int a2), (3, .int a3), (4, .int a4), (5, .int a5)] [] := by
  intro n
  induction n with
  | zero => intro u a2 a4 a5 h; rw [f_M_mark_L40] at h; cases h
  | succ n ih =>
    intro u a2 a4 a5 h
    rw [f_M_mark_L40] at h
    refine y_iload C (i := 5) 5 d_M_mark_40 rfl ?_
    refine y_iload_n C (i := 3) 3 d_M_mark_42 rfl rfl ?_
    refine y_ic_ge C 105 d_M_mark_43 (by decide) h (fun k11 h => ?_) (fun k11 h => ?_)
    · exact y_sub [0, 2] rfl (hk _ _ h)
    · refine y_aload_n C (i := 0) 0 d_M_mark_46 rfl rfl ?_
      refine y_callV 0 C (q := (yR5, yT5, 46)) (ci := 5) (fun t out hh => c_M_again l w F u t out hh) gc_M_mark_256 rfl (by decide) hd_M_again ⟨Nat.le_of_ble_eq_true rfl, Nat.le_of_ble_eq_true rfl⟩ rfl rfl rfl rfl (by simp [y_cat, y_catI, y_catJ]) d_M_mark_47 h (fun v12 u13 h => ?_)
      refine y_stk (stp0 := []) rfl ?_
      refine y_aload_n C (i := 0) 0 d_M_mark_50 rfl rfl ?_
      refine y_gr C (q := (yR5, yT5, 46)) (ci := 5) (k := 4) rfl (by decide) rfl (by decide) g_788 d_M_mark_51 h (fun r14 h => ?_)
      refine y_iload C (i := 5) 5 d_M_mark_54 rfl ?_
      refine y_iconst C (v := 1) d_M_mark_56 (by decide) ?_
      refine y_as C d_M_mark_57 h (fun u15 h => ?_)
      refine y_aload_n C (i := 0) 0 d_M_mark_58 rfl rfl ?_
      refine y_iload_n C (i := 1) 1 d_M_mark_59 rfl rfl ?_
      refine y_callV 1 C (q := (yR5, yT5, 46)) (ci := 5) (fun t out hh => c_M_goThrough l w F u15 t a1 out hh) gc_M_mark_276 rfl (by decide) hd_M_goThrough ⟨Nat.le_of_ble_eq_true rfl, Nat.le_of_ble_eq_true rfl⟩ rfl rfl rfl rfl (by simp [y_cat, y_catI, y_catJ]) d_M_mark_60 h (fun v16 u17 h => ?_)
      refine y_stk (stp0 := []) rfl ?_
      refine y_aload_n C (i := 0) 0 d_M_mark_63 rfl rfl ?_
      refine y_gi C (q := (yR5, yT5, 46)) (ci := 5) (k := 20) rfl (by decide) rfl g_804 d_M_mark_64 h (fun x18 h => ?_)
      refine y_iload C (i := 4) 4 d_M_mark_67 rfl ?_
      obtain ⟨q19, hq19, h⟩ := ob_e h
      have hJq19 : yG p l e ({ frames := 8, cells := 0, slots := 0, locals := 181 } : Room) s m args below meth c YM w 6 Q u17 78 [(0, va_re w.1 a0), (1, .int a1), (3, .int a3), (4, .int a4), (5, .int a5)] [.int q19] := by
        refine y_istore_n C (i := 2) (lvp := [(0, va_re w.1 a0), (1, .int a1), (3, .int a3), (4, .int a4), (5, .int a5)]) d_M_mark_78 rfl (by decide) rfl ?_
        refine y_aload_n C (i := 0) 1 d_M_mark_79 rfl rfl ?_
        refine y_gi C (q := (yR5, yT5, 46)) (ci := 5) (k := 20) rfl (by decide) rfl g_804 d_M_mark_80 h (fun x21 h => ?_)
        refine y_iload C (i := 4) 4 d_M_mark_83 rfl ?_
        obtain ⟨q22, hq22, h⟩ := ob_e h
        have hJq22 : yG p l e ({ frames := 8, cells := 0, slots := 0, locals := 181 } : Room) s m args below meth c YM w 6 Q u17 97 [(0, va_re w.1 a0), (1, .int a1), (2, .int q19), (3, .int a3), (5, .int a5)] [.int q22] := by
          refine y_istore C (i := 4) (lvp := [(0, va_re w.1 a0), (1, .int a1), (2, .int q19), (3, .int a3), (5, .int a5)]) d_M_mark_97 (by decide) rfl ?_
          refine y_iinc C (j := 5) (v := 1) (lvp := [(4, .int q22), (0, va_re w.1 a0), (1, .int a1), (2, .int q19), (3, .int a3)]) d_M_mark_99 rfl (by decide) (by decide) rfl h (fun x25 h => ?_)
          refine y_goto C (tgt := 40) d_M_mark_102 (by decide) ?_
          exact y_sub [2, 3, 4, 5, 1, 0] rfl (ih _ _ _ _ h)
        refine y_ic_ge C 95 d_M_mark_85 (by decide) hq22 (fun k23 hq22 => ?_) (fun k23 hq22 => ?_)
        · refine y_iload C (i := 4) 4 d_M_mark_95 rfl ?_
          cases hq22
          exact y_sub [1, 2, 0, 3, 5] rfl hJq22
        · refine y_aload_n C (i := 0) 1 d_M_mark_88 rfl rfl ?_
          refine y_gi C (q := (yR5, yT5, 46)) (ci := 5) (k := 20) rfl (by decide) rfl g_804 d_M_mark_89 hq22 (fun x24 hq22 => ?_)
          refine y_goto C (tgt := 97) d_M_mark_92 (by decide) ?_
          cases hq22
          exact y_sub [1, 2, 0, 3, 5] rfl hJq22
      refine y_ic_ge C 77 d_M_mark_69 (by decide) hq19 (fun k20 hq19 => ?_) (fun k20 hq19 => ?_)
      · refine y_iload_n C (i := 2) 2 d_M_mark_77 rfl rfl ?_
        cases hq19
        exact y_sub [0, 1, 3, 4, 5] rfl hJq19
      · refine y_iload C (i := 5) 5 d_M_mark_72 rfl ?_
        refine y_goto C (tgt := 78) d_M_mark_74 (by decide) ?_
        cases hq19
        exact y_sub [0, 1, 3, 4, 5] rfl hJq19
set_option maxRecDepth 100000 in
def f_M_mark (F : Nat) (u : Mm) (o : Nat) (a1 : Int32) : Option (Int32 × Mm) := ob (jpi YM 5 23 u (some o) (0 : Int32)) fun (u1 : Mm) => yb (f_M_isMinutes F u1 a1) fun x2 u3 => (if x2 = 0 then some ((-1 : Int32), u3) else ob (jk YM 5 (some o)) fun t => yb (f_M_open F u3 t ) fun v5 u6 => ob (jgi YM 5 0 u6 (some o)) fun (x7 : Int32) => ob (jk YM 5 (some o)) fun t => yb (f_M_goThrough F u6 t a1) fun v8 u9 => ob (jgi YM 5 20 u9 (some o)) fun (x10 : Int32) => f_M_mark_L40 F (some o) a1 x7 (fun (u26 : Mm) (x27 : Int32) => ob (jk YM 5 (some o)) fun t => yb (f_M_again F u26 t ) fun v28 u29 => some (x27, u29)) F u9 (-4 : Int32) x10 (0 : Int32))
set_option maxHeartbeats 4000000 in
set_option maxRecDepth 100000 in
theorem c_M_mark (l : Launch) (w : WP) (F : Nat) (u : Mm) (o : Nat) (a1 : Int32) (out : Int32 × Mm) (h : f_M_mark F u o a1 = some out) : yMet l m_M_mark ws_M_mark ({ frames := 8, cells := 0, slots := 0, locals := 181 } : Room) YM w u [va_re w.1 (some o), .int a1] yfi out := by
  refine y_entry (own := "WhoseGlassModel") (lv := [(0, va_re w.1 (some o)), (1, .int a1)]) (by decide +kernel) rfl (by simp [lv_args, y_cat, y_catI, y_catJ]) (by simp [lg_sl, y_cat, y_catI, y_catJ]) ?_
  intro p e s m args below meth c C hr hlocks
  unfold f_M_mark at h
  refine y_aload_n C (i := 0) 0 d_M_mark_0 rfl rfl ?_
  refine y_iconst C (v := 0) d_M_mark_1 (by decide) ?_
  refine y_pi C (q := (yR5, yT5, 46)) (ci := 5) (k := 23) rfl (by decide) rfl rfl (by decide +kernel) g_807 d_M_mark_2 h (fun u1 h => ?_)
  refine y_iload_n C (i := 1) 1 d_M_mark_5 rfl rfl ?_
  refine y_callS 1 C (fun out hh => c_M_isMinutes l w F u1 a1 out hh) (y_gc g_1158) g_1156 g_6 g_1157 hn_M_isMinutes ⟨Nat.le_of_ble_eq_true rfl, Nat.le_of_ble_eq_true rfl⟩ rfl rfl rfl rfl (by simp [y_cat, y_catI, y_catJ]) d_M_mark_6 h (fun x2 u3 h => ?_)
  refine y_stk (stp0 := [.int x2]) rfl ?_
  refine y_if_ne C 14 d_M_mark_9 (by decide) h (fun k4 h => ?_) (fun k4 h => ?_)
  · refine y_iconst C (v := -1) d_M_mark_12 (by decide) ?_
    exact y_iret C hr hlocks d_M_mark_13 h
  · refine y_bipush C (v := -4) d_M_mark_14 (by decide) ?_
    refine y_istore_n C (i := 2) (lvp := [(0, va_re w.1 (some o)), (1, .int a1)]) d_M_mark_16 rfl (by decide) rfl ?_
    refine y_aload_n C (i := 0) 1 d_M_mark_17 rfl rfl ?_
    refine y_callV 0 C (q := (yR5, yT5, 46)) (ci := 5) (fun t out hh => c_M_open l w F u3 t out hh) gc_M_mark_250 rfl (by decide) hd_M_open ⟨Nat.le_of_ble_eq_true rfl, Nat.le_of_ble_eq_true rfl⟩ rfl rfl rfl rfl (by simp [y_cat, y_catI, y_catJ]) d_M_mark_18 h (fun v5 u6 h => ?_)
    refine y_stk (stp0 := []) rfl ?_
    refine y_aload_n C (i := 0) 1 d_M_mark_21 rfl rfl ?_
    refine y_gi C (q := (yR5, yT5, 46)) (ci := 5) (k := 0) rfl (by decide) rfl g_784 d_M_mark_22 h (fun x7 h => ?_)
    refine y_istore_n C (i := 3) (lvp := [(2, .int (-4 : Int32)), (0, va_re w.1 (some o)), (1, .int a1)]) d_M_mark_25 rfl (by decide) rfl ?_
    refine y_aload_n C (i := 0) 2 d_M_mark_26 rfl rfl ?_
    refine y_iload_n C (i := 1) 3 d_M_mark_27 rfl rfl ?_
    refine y_callV 1 C (q := (yR5, yT5, 46)) (ci := 5) (fun t out hh => c_M_goThrough l w F u6 t a1 out hh) gc_M_mark_276 rfl (by decide) hd_M_goThrough ⟨Nat.le_of_ble_eq_true rfl, Nat.le_of_ble_eq_true rfl⟩ rfl rfl rfl rfl (by simp [y_cat, y_catI, y_catJ]) d_M_mark_28 h (fun v8 u9 h => ?_)
    refine y_stk (stp0 := []) rfl ?_
    refine y_aload_n C (i := 0) 2 d_M_mark_31 rfl rfl ?_
    refine y_gi C (q := (yR5, yT5, 46)) (ci := 5) (k := 20) rfl (by decide) rfl g_804 d_M_mark_32 h (fun x10 h => ?_)
    refine y_istore C (i := 4) (lvp := [(3, .int x7), (2, .int (-4 : Int32)), (0, va_re w.1 (some o)), (1, .int a1)]) d_M_mark_35 (by decide) rfl ?_
    refine y_iconst C (v := 0) d_M_mark_37 (by decide) ?_
    refine y_istore C (i := 5) (lvp := [(4, .int x10), (3, .int x7), (2, .int (-4 : Int32)), (0, va_re w.1 (some o)), (1, .int a1)]) d_M_mark_38 (by decide) rfl ?_
    refine y_sub [4, 5, 3, 2, 1, 0] rfl (w_M_mark_L40 F C hr hlocks _ _ _ _ (fun u26 x27 h => ?_) _ _ _ _ _ h)
    refine y_aload_n C (i := 0) 0 d_M_mark_105 rfl rfl ?_
    refine y_callV 0 C (q := (yR5, yT5, 46)) (ci := 5) (fun t out hh => c_M_again l w F u26 t out hh) gc_M_mark_256 rfl (by decide) hd_M_again ⟨Nat.le_of_ble_eq_true rfl, Nat.le_of_ble_eq_true rfl⟩ rfl rfl rfl rfl (by simp [y_cat, y_catI, y_catJ]) d_M_mark_106 h (fun v28 u29 h => ?_)
    refine y_stk (stp0 := []) rfl ?_
    refine y_iload_n C (i := 2) 1 d_M_mark_109 rfl rfl ?_
    exact y_iret C hr hlocks d_M_mark_110 h
