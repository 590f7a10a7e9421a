/-! M_close -/
theorem d_M_close_0 : decode prog_8_method_67_code 0 = .ok (.aload_n 0, 1) := by decide +kernel
theorem d_M_close_1 : decode prog_8_method_67_code 1 = .ok (.iconst 0, 1) := by decide +kernel
theorem d_M_close_2 : decode prog_8_method_67_code 2 = .ok (.putfield 102, 3) := by decide +kernel
theorem d_M_close_5 : decode prog_8_method_67_code 5 = .ok (.iload_n 1, 1) := by decide +kernel
theorem d_M_close_6 : decode prog_8_method_67_code 6 = .ok (.invokestatic 282, 3) := by decide +kernel
theorem d_M_close_9 : decode prog_8_method_67_code 9 = .ok (.ifCond .ne 5, 3) := by decide +kernel
theorem d_M_close_12 : decode prog_8_method_67_code 12 = .ok (.iconst (-1), 1) := by decide +kernel
theorem d_M_close_13 : decode prog_8_method_67_code 13 = .ok (.ireturn, 1) := by decide +kernel
theorem d_M_close_14 : decode prog_8_method_67_code 14 = .ok (.bipush (-4), 2) := by decide +kernel
theorem d_M_close_16 : decode prog_8_method_67_code 16 = .ok (.istore_n 2, 1) := by decide +kernel
theorem d_M_close_17 : decode prog_8_method_67_code 17 = .ok (.aload_n 0, 1) := by decide +kernel
theorem d_M_close_18 : decode prog_8_method_67_code 18 = .ok (.invokevirtual 250, 3) := by decide +kernel
theorem d_M_close_21 : decode prog_8_method_67_code 21 = .ok (.aload_n 0, 1) := by decide +kernel
theorem d_M_close_22 : decode prog_8_method_67_code 22 = .ok (.iload_n 1, 1) := by decide +kernel
theorem d_M_close_23 : decode prog_8_method_67_code 23 = .ok (.invokevirtual 276, 3) := by decide +kernel
theorem d_M_close_26 : decode prog_8_method_67_code 26 = .ok (.aload_n 0, 1) := by decide +kernel
theorem d_M_close_27 : decode prog_8_method_67_code 27 = .ok (.getfield 157, 3) := by decide +kernel
theorem d_M_close_30 : decode prog_8_method_67_code 30 = .ok (.istore_n 3, 1) := by decide +kernel
theorem d_M_close_31 : decode prog_8_method_67_code 31 = .ok (.iconst 0, 1) := by decide +kernel
theorem d_M_close_32 : decode prog_8_method_67_code 32 = .ok (.istore 4, 2) := by decide +kernel
theorem d_M_close_34 : decode prog_8_method_67_code 34 = .ok (.iload 4, 2) := by decide +kernel
theorem d_M_close_36 : decode prog_8_method_67_code 36 = .ok (.bipush 6, 2) := by decide +kernel
theorem d_M_close_38 : decode prog_8_method_67_code 38 = .ok (.if_icmp .ge 56, 3) := by decide +kernel
theorem d_M_close_41 : decode prog_8_method_67_code 41 = .ok (.aload_n 0, 1) := by decide +kernel
theorem d_M_close_42 : decode prog_8_method_67_code 42 = .ok (.invokevirtual 256, 3) := by decide +kernel
theorem d_M_close_45 : decode prog_8_method_67_code 45 = .ok (.aload_n 0, 1) := by decide +kernel
theorem d_M_close_46 : decode prog_8_method_67_code 46 = .ok (.iload 4, 2) := by decide +kernel
theorem d_M_close_48 : decode prog_8_method_67_code 48 = .ok (.putfield 62, 3) := by decide +kernel
theorem d_M_close_51 : decode prog_8_method_67_code 51 = .ok (.aload_n 0, 1) := by decide +kernel
theorem d_M_close_52 : decode prog_8_method_67_code 52 = .ok (.iload_n 1, 1) := by decide +kernel
theorem d_M_close_53 : decode prog_8_method_67_code 53 = .ok (.invokevirtual 276, 3) := by decide +kernel
theorem d_M_close_56 : decode prog_8_method_67_code 56 = .ok (.aload_n 0, 1) := by decide +kernel
theorem d_M_close_57 : decode prog_8_method_67_code 57 = .ok (.getfield 157, 3) := by decide +kernel
theorem d_M_close_60 : decode prog_8_method_67_code 60 = .ok (.iload_n 3, 1) := by decide +kernel
theorem d_M_close_61 : decode prog_8_method_67_code 61 = .ok (.if_icmp .ge 8, 3) := by decide +kernel
theorem d_M_close_64 : decode prog_8_method_67_code 64 = .ok (.iload 4, 2) := by decide +kernel
theorem d_M_close_66 : decode prog_8_method_67_code 66 = .ok (.goto 4, 3) := by decide +kernel
theorem d_M_close_69 : decode prog_8_method_67_code 69 = .ok (.iload_n 2, 1) := by decide +kernel
theorem d_M_close_70 : decode prog_8_method_67_code 70 = .ok (.istore_n 2, 1) := by decide +kernel
theorem d_M_close_71 : decode prog_8_method_67_code 71 = .ok (.aload_n 0, 1) := by decide +kernel
theorem d_M_close_72 : decode prog_8_method_67_code 72 = .ok (.getfield 157, 3) := by decide +kernel
theorem d_M_close_75 : decode prog_8_method_67_code 75 = .ok (.iload_n 3, 1) := by decide +kernel
theorem d_M_close_76 : decode prog_8_method_67_code 76 = .ok (.if_icmp .ge 10, 3) := by decide +kernel
theorem d_M_close_79 : decode prog_8_method_67_code 79 = .ok (.aload_n 0, 1) := by decide +kernel
theorem d_M_close_80 : decode prog_8_method_67_code 80 = .ok (.getfield 157, 3) := by decide +kernel
theorem d_M_close_83 : decode prog_8_method_67_code 83 = .ok (.goto 4, 3) := by decide +kernel
theorem d_M_close_86 : decode prog_8_method_67_code 86 = .ok (.iload_n 3, 1) := by decide +kernel
theorem d_M_close_87 : decode prog_8_method_67_code 87 = .ok (.istore_n 3, 1) := by decide +kernel
theorem d_M_close_88 : decode prog_8_method_67_code 88 = .ok (.iinc 4 1, 3) := by decide +kernel
theorem d_M_close_91 : decode prog_8_method_67_code 91 = .ok (.goto (-57), 3) := by decide +kernel
theorem d_M_close_94 : decode prog_8_method_67_code 94 = .ok (.aload_n 0, 1) := by decide +kernel
theorem d_M_close_95 : decode prog_8_method_67_code 95 = .ok (.iconst (-1), 1) := by decide +kernel
theorem d_M_close_96 : decode prog_8_method_67_code 96 = .ok (.putfield 62, 3) := by decide +kernel
theorem d_M_close_99 : decode prog_8_method_67_code 99 = .ok (.aload_n 0, 1) := by decide +kernel
theorem d_M_close_100 : decode prog_8_method_67_code 100 = .ok (.invokevirtual 256, 3) := by decide +kernel
theorem d_M_close_103 : decode prog_8_method_67_code 103 = .ok (.iload_n 2, 1) := by decide +kernel
theorem d_M_close_104 : decode prog_8_method_67_code 104 = .ok (.ireturn, 1) := by decide +kernel
theorem gc_M_close_250 : GoodIn yGW (wsV "WhoseGlassModel" 250 yR5 m_M_open ws_M_open) := y_gV g_978 g_980 gs_19 g_6 g_981
theorem gc_M_close_276 : GoodIn yGW (wsV "WhoseGlassModel" 276 yR5 m_M_goThrough ws_M_goThrough) := y_gV g_1125 g_1127 gs_44 g_6 g_1128
theorem gc_M_close_256 : GoodIn yGW (wsV "WhoseGlassModel" 256 yR5 m_M_again ws_M_again) := y_gV g_1066 g_1068 gs_41 g_6 g_1069
set_option maxHeartbeats 4000000 in
set_option maxRecDepth 100000 in
def f_M_close_L34 (F : Nat) (a0 : Option Nat) (a1 : Int32) (k : Mm → Int32 → Option (Int32 × Mm)) : Nat → Mm → Int32 → Int32 → Int32 → Option (Int32 × Mm)
  | 0, _, _, _, _ => none
  | n + 1, u, a2, a3, a4 => (if (6 : Int32) ≤ a4 then k u a2 else ob (jk YM 5 a0) fun t => yb (f_M_again F u t ) fun v11 u12 => ob (jpi YM 5 22 u12 a0 a4) fun (u13 : Mm) => ob (jk YM 5 a0) fun t => yb (f_M_goThrough F u13 t a1) fun v14 u15 => ob (jgi YM 5 21 u15 a0) fun (x16 : Int32) => ob ((if a3 ≤ x16 then some a2 else some a4) : Option (Int32)) fun q17 => ob (jgi YM 5 21 u15 a0) fun (x19 : Int32) => ob ((if a3 ≤ x19 then some a3 else ob (jgi YM 5 21 u15 a0) fun (x22 : Int32) => some x22) : Option (Int32)) fun q20 => ob (some (a4 + (1 : Int32))) fun (x23 : Int32) => f_M_close_L34 F a0 a1 k n u15 q17 q20 x23)
set_option maxHeartbeats 4000000 in
set_option maxRecDepth 100000 in
theorem w_M_close_L34 {p : Program} {l : Launch} {e : Env} {s : State} {m : MethodId} {args : Array Value} {below : List Frame} {meth : Method} {c : Code} {w : WP} {Q : State → Prop} (F : Nat) (C : yX p e ({ frames := 8, cells := 0, slots := 0, locals := 181 } : Room) s m args c YM w 5 prog_8_method_67_code "WhoseGlassModel") (hr : meth.sig.returnType = (some .int)) (hlocks : meth.locks = false) (a0 : Option Nat) (a1 : Int32) {out : Int32 × Mm} (k : Mm → Int32 → Option (Int32 × Mm)) (hk : ∀ (u : Mm) (a2 : Int32), k u a2 = some out → yG p l e ({ frames := 8, cells := 0, slots := 0, locals := 181 } : Room) s m args below meth c YM w 5 Q u 94 [(0, va_re w.1 a0), (2, .int a2)] []) : ∀ (n : Nat) (u : Mm) (a2 : Int32) (a3 : Int32) (a4 : Int32), f_M_close_L34 F a0 a1 k n u a2 a3 a4 = some out → yG p l e ({ frames := 8, cells := 0, slots := 0, locals := 181 } : Room) s m args below meth c YM w 5 Q u 34 [(0, va_re w.1 a0), (1, .int a1), (2, .int a2), (3, .int a3), (4, .int a4)] [] := by
  intro n
  induction n with
  | zero => intro u a2 a3 a4 h; rw [f_M_close_L34] at h; cases h
  | succ n ih =>
    intro u a2 a3 a4 h
    rw [f_M_close_L34] at h
    refine y_iload C (i := 4) 4 d_M_close_34 rfl ?_
    refine y_bipush C (v := 6) d_M_close_36 (by decide) ?_
    refine y_ic_ge C 94 d_M_close_38 (by decide) h (fun k10 h => ?_) (fun k10 h => ?_)
    · exact y_sub [0, 2] rfl (hk _ _ h)
    · refine y_aload_n C (i := 0) 0 d_M_close_41 rfl rfl ?_
      refine y_callV 0 C (q := (yR5, yT5, 46)) (ci := 5) (fun t out hh => c_M_again l w F u t out hh) gc_M_close_256 rfl (by decide) hd_M_again ⟨Nat.le_of_ble_eq_true rfl, Nat.le_of_ble_eq_true rfl⟩ rfl rfl rfl rfl (by simp [y_cat, y_catI, y_catJ]) d_M_close_42 h (fun v11 u12 h => ?_)
      refine y_stk (stp0 := []) rfl ?_
      refine y_aload_n C (i := 0) 0 d_M_close_45 rfl rfl ?_
      refine y_iload C (i := 4) 4 d_M_close_46 rfl ?_
      refine y_pi C (q := (yR5, yT5, 46)) (ci := 5) (k := 22) rfl (by decide) rfl rfl (by decide +kernel) g_806 d_M_close_48 h (fun u13 h => ?_)
      refine y_aload_n C (i := 0) 0 d_M_close_51 rfl rfl ?_
      refine y_iload_n C (i := 1) 1 d_M_close_52 rfl rfl ?_
      refine y_callV 1 C (q := (yR5, yT5, 46)) (ci := 5) (fun t out hh => c_M_goThrough l w F u13 t a1 out hh) gc_M_close_276 rfl (by decide) hd_M_goThrough ⟨Nat.le_of_ble_eq_true rfl, Nat.le_of_ble_eq_true rfl⟩ rfl rfl rfl rfl (by simp [y_cat, y_catI, y_catJ]) d_M_close_53 h (fun v14 u15 h => ?_)
      refine y_stk (stp0 := []) rfl ?_
      refine y_aload_n C (i := 0) 0 d_M_close_56 rfl rfl ?_
      refine y_gi C (q := (yR5, yT5, 46)) (ci := 5) (k := 21) rfl (by decide) rfl g_805 d_M_close_57 h (fun x16 h => ?_)
      refine y_iload_n C (i := 3) 3 d_M_close_60 rfl rfl ?_
      obtain ⟨q17, hq17, h⟩ := ob_e h
      have hJq17 : yG p l e ({ frames := 8, cells := 0, slots := 0, locals := 181 } : Room) s m args below meth c YM w 5 Q u15 70 [(0, va_re w.1 a0), (1, .int a1), (3, .int a3), (4, .int a4)] [.int q17] := by
        refine y_istore_n C (i := 2) (lvp := [(0, va_re w.1 a0), (1, .int a1), (3, .int a3), (4, .int a4)]) d_M_close_70 rfl (by decide) rfl ?_
        refine y_aload_n C (i := 0) 1 d_M_close_71 rfl rfl ?_
        refine y_gi C (q := (yR5, yT5, 46)) (ci := 5) (k := 21) rfl (by decide) rfl g_805 d_M_close_72 h (fun x19 h => ?_)
        refine y_iload_n C (i := 3) 3 d_M_close_75 rfl rfl ?_
        obtain ⟨q20, hq20, h⟩ := ob_e h
        have hJq20 : yG p l e ({ frames := 8, cells := 0, slots := 0, locals := 181 } : Room) s m args below meth c YM w 5 Q u15 87 [(0, va_re w.1 a0), (1, .int a1), (2, .int q17), (4, .int a4)] [.int q20] := by
          refine y_istore_n C (i := 3) (lvp := [(0, va_re w.1 a0), (1, .int a1), (2, .int q17), (4, .int a4)]) d_M_close_87 rfl (by decide) rfl ?_
          refine y_iinc C (j := 4) (v := 1) (lvp := [(3, .int q20), (0, va_re w.1 a0), (1, .int a1), (2, .int q17)]) d_M_close_88 rfl (by decide) (by decide) rfl h (fun x23 h => ?_)
          refine y_goto C (tgt := 34) d_M_close_91 (by decide) ?_
          exact y_sub [2, 3, 4, 1, 0] rfl (ih _ _ _ _ h)
        refine y_ic_ge C 86 d_M_close_76 (by decide) hq20 (fun k21 hq20 => ?_) (fun k21 hq20 => ?_)
        · refine y_iload_n C (i := 3) 3 d_M_close_86 rfl rfl ?_
          cases hq20
          exact y_sub [1, 2, 0, 4] rfl hJq20
        · refine y_aload_n C (i := 0) 1 d_M_close_79 rfl rfl ?_
          refine y_gi C (q := (yR5, yT5, 46)) (ci := 5) (k := 21) rfl (by decide) rfl g_805 d_M_close_80 hq20 (fun x22 hq20 => ?_)
          refine y_goto C (tgt := 87) d_M_close_83 (by decide) ?_
          cases hq20
          exact y_sub [1, 2, 0, 4] rfl hJq20
      refine y_ic_ge C 69 d_M_close_61 (by decide) hq17 (fun k18 hq17 => ?_) (fun k18 hq17 => ?_)
      · refine y_iload_n C (i := 2) 2 d_M_close_69 rfl rfl ?_
        cases hq17
        exact y_sub [0, 1, 3, 4] rfl hJq17
      · refine y_iload C (i := 4) 4 d_M_close_64 rfl ?_
        refine y_goto C (tgt := 70) d_M_close_66 (by decide) ?_
        cases hq17
        exact y_sub [0, 1, 3, 4] rfl hJq17
set_option maxRecDepth 100000 in
def f_M_close (F : Nat) (u : Mm) (o : Nat) (a1 : Int32) : Option (Int32 × Mm) := ob (jpi YM 5 23 u (some o) (0 : Int32)) fun (u1 : Mm) => yb (f_M_isMinutes F u1 a1) fun x2 u3 => (if x2 = 0 then some ((-1 : Int32), u3) else ob (jk YM 5 (some o)) fun t => yb (f_M_open F u3 t ) fun v5 u6 => ob (jk YM 5 (some o)) fun t => yb (f_M_goThrough F u6 t a1) fun v7 u8 => ob (jgi YM 5 21 u8 (some o)) fun (x9 : Int32) => f_M_close_L34 F (some o) a1 (fun (u24 : Mm) (x25 : Int32) => ob (jpi YM 5 22 u24 (some o) (-1 : Int32)) fun (u26 : Mm) => ob (jk YM 5 (some o)) fun t => yb (f_M_again F u26 t ) fun v27 u28 => some (x25, u28)) F u8 (-4 : Int32) x9 (0 : Int32))
set_option maxHeartbeats 4000000 in
set_option maxRecDepth 100000 in
theorem c_M_close (l : Launch) (w : WP) (F : Nat) (u : Mm) (o : Nat) (a1 : Int32) (out : Int32 × Mm) (h : f_M_close F u o a1 = some out) : yMet l m_M_close ws_M_close ({ frames := 8, cells := 0, slots := 0, locals := 181 } : Room) YM w u [va_re w.1 (some o), .int a1] yfi out := by
  refine y_entry (own := "WhoseGlassModel") (lv := [(0, va_re w.1 (some o)), (1, .int a1)]) (by decide +kernel) rfl (by simp [lv_args, y_cat, y_catI, y_catJ]) (by simp [lg_sl, y_cat, y_catI, y_catJ]) ?_
  intro p e s m args below meth c C hr hlocks
  unfold f_M_close at h
  refine y_aload_n C (i := 0) 0 d_M_close_0 rfl rfl ?_
  refine y_iconst C (v := 0) d_M_close_1 (by decide) ?_
  refine y_pi C (q := (yR5, yT5, 46)) (ci := 5) (k := 23) rfl (by decide) rfl rfl (by decide +kernel) g_807 d_M_close_2 h (fun u1 h => ?_)
  refine y_iload_n C (i := 1) 1 d_M_close_5 rfl rfl ?_
  refine y_callS 1 C (fun out hh => c_M_isMinutes l w F u1 a1 out hh) (y_gc g_1158) g_1156 g_6 g_1157 hn_M_isMinutes ⟨Nat.le_of_ble_eq_true rfl, Nat.le_of_ble_eq_true rfl⟩ rfl rfl rfl rfl (by simp [y_cat, y_catI, y_catJ]) d_M_close_6 h (fun x2 u3 h => ?_)
  refine y_stk (stp0 := [.int x2]) rfl ?_
  refine y_if_ne C 14 d_M_close_9 (by decide) h (fun k4 h => ?_) (fun k4 h => ?_)
  · refine y_iconst C (v := -1) d_M_close_12 (by decide) ?_
    exact y_iret C hr hlocks d_M_close_13 h
  · refine y_bipush C (v := -4) d_M_close_14 (by decide) ?_
    refine y_istore_n C (i := 2) (lvp := [(0, va_re w.1 (some o)), (1, .int a1)]) d_M_close_16 rfl (by decide) rfl ?_
    refine y_aload_n C (i := 0) 1 d_M_close_17 rfl rfl ?_
    refine y_callV 0 C (q := (yR5, yT5, 46)) (ci := 5) (fun t out hh => c_M_open l w F u3 t out hh) gc_M_close_250 rfl (by decide) hd_M_open ⟨Nat.le_of_ble_eq_true rfl, Nat.le_of_ble_eq_true rfl⟩ rfl rfl rfl rfl (by simp [y_cat, y_catI, y_catJ]) d_M_close_18 h (fun v5 u6 h => ?_)
    refine y_stk (stp0 := []) rfl ?_
    refine y_aload_n C (i := 0) 1 d_M_close_21 rfl rfl ?_
    refine y_iload_n C (i := 1) 2 d_M_close_22 rfl rfl ?_
    refine y_callV 1 C (q := (yR5, yT5, 46)) (ci := 5) (fun t out hh => c_M_goThrough l w F u6 t a1 out hh) gc_M_close_276 rfl (by decide) hd_M_goThrough ⟨Nat.le_of_ble_eq_true rfl, Nat.le_of_ble_eq_true rfl⟩ rfl rfl rfl rfl (by simp [y_cat, y_catI, y_catJ]) d_M_close_23 h (fun v7 u8 h => ?_)
    refine y_stk (stp0 := []) rfl ?_
    refine y_aload_n C (i := 0) 1 d_M_close_26 rfl rfl ?_
    refine y_gi C (q := (yR5, yT5, 46)) (ci := 5) (k := 21) rfl (by decide) rfl g_805 d_M_close_27 h (fun x9 h => ?_)
    refine y_istore_n C (i := 3) (lvp := [(2, .int (-4 : Int32)), (0, va_re w.1 (some o)), (1, .int a1)]) d_M_close_30 rfl (by decide) rfl ?_
    refine y_iconst C (v := 0) d_M_close_31 (by decide) ?_
    refine y_istore C (i := 4) (lvp := [(3, .int x9), (2, .int (-4 : Int32)), (0, va_re w.1 (some o)), (1, .int a1)]) d_M_close_32 (by decide) rfl ?_
    refine y_sub [3, 4, 2, 1, 0] rfl (w_M_close_L34 F C hr hlocks _ _ _ (fun u24 x25 h => ?_) _ _ _ _ _ h)
    refine y_aload_n C (i := 0) 0 d_M_close_94 rfl rfl ?_
    refine y_iconst C (v := -1) d_M_close_95 (by decide) ?_
    refine y_pi C (q := (yR5, yT5, 46)) (ci := 5) (k := 22) rfl (by decide) rfl rfl (by decide +kernel) g_806 d_M_close_96 h (fun u26 h => ?_)
    refine y_aload_n C (i := 0) 0 d_M_close_99 rfl rfl ?_
    refine y_callV 0 C (q := (yR5, yT5, 46)) (ci := 5) (fun t out hh => c_M_again l w F u26 t out hh) gc_M_close_256 rfl (by decide) hd_M_again ⟨Nat.le_of_ble_eq_true rfl, Nat.le_of_ble_eq_true rfl⟩ rfl rfl rfl rfl (by simp [y_cat, y_catI, y_catJ]) d_M_close_100 h (fun v27 u28 h => ?_)
    refine y_stk (stp0 := []) rfl ?_
    refine y_iload_n C (i := 2) 1 d_M_close_103 rfl rfl ?_
    exact y_iret C hr hlocks d_M_close_104 h
/-! M_driver -/
theorem d_M_driver_0 : decode prog_8_method_68_code 0 = .ok (.aload_n 0, 1) := by decide +kernel
theorem d_M_driver_1 : decode prog_8_method_68_code 1 = .ok (.iconst 0, 1) := by decide +kernel
theorem d_M_driver_2 : decode prog_8_method_68_code 2 = .ok (.putfield 102, 3) := by decide +kernel
theorem d_M_driver_5 : decode prog_8_method_68_code 5 = .ok (.iload_n 1, 1) := by decide +kernel
theorem d_M_driver_6 : decode prog_8_method_68_code 6 = .ok (.invokestatic 282, 3) := by decide +kernel
theorem d_M_driver_9 : decode prog_8_method_68_code 9 = .ok (.ifCond .ne 5, 3) := by decide +kernel
theorem d_M_driver_12 : decode prog_8_method_68_code 12 = .ok (.iconst (-1), 1) := by decide +kernel
theorem d_M_driver_13 : decode prog_8_method_68_code 13 = .ok (.ireturn, 1) := by decide +kernel
theorem d_M_driver_14 : decode prog_8_method_68_code 14 = .ok (.aload_n 0, 1) := by decide +kernel
theorem d_M_driver_15 : decode prog_8_method_68_code 15 = .ok (.invokevirtual 250, 3) := by decide +kernel
theorem d_M_driver_18 : decode prog_8_method_68_code 18 = .ok (.aload_n 0, 1) := by decide +kernel
theorem d_M_driver_19 : decode prog_8_method_68_code 19 = .ok (.iload_n 1, 1) := by decide +kernel
theorem d_M_driver_20 : decode prog_8_method_68_code 20 = .ok (.invokevirtual 276, 3) := by decide +kernel
theorem d_M_driver_23 : decode prog_8_method_68_code 23 = .ok (.bipush (-4), 2) := by decide +kernel
theorem d_M_driver_25 : decode prog_8_method_68_code 25 = .ok (.istore_n 2, 1) := by decide +kernel
theorem d_M_driver_26 : decode prog_8_method_68_code 26 = .ok (.iconst 0, 1) := by decide +kernel
theorem d_M_driver_27 : decode prog_8_method_68_code 27 = .ok (.istore_n 3, 1) := by decide +kernel
theorem d_M_driver_28 : decode prog_8_method_68_code 28 = .ok (.iload_n 3, 1) := by decide +kernel
theorem d_M_driver_29 : decode prog_8_method_68_code 29 = .ok (.aload_n 0, 1) := by decide +kernel
theorem d_M_driver_30 : decode prog_8_method_68_code 30 = .ok (.getfield 112, 3) := by decide +kernel
theorem d_M_driver_33 : decode prog_8_method_68_code 33 = .ok (.if_icmp .ge 34, 3) := by decide +kernel
theorem d_M_driver_36 : decode prog_8_method_68_code 36 = .ok (.iload_n 2, 1) := by decide +kernel
theorem d_M_driver_37 : decode prog_8_method_68_code 37 = .ok (.ifCond .lt 18, 3) := by decide +kernel
theorem d_M_driver_40 : decode prog_8_method_68_code 40 = .ok (.aload_n 0, 1) := by decide +kernel
theorem d_M_driver_41 : decode prog_8_method_68_code 41 = .ok (.getfield 56, 3) := by decide +kernel
theorem d_M_driver_44 : decode prog_8_method_68_code 44 = .ok (.iload_n 3, 1) := by decide +kernel
theorem d_M_driver_45 : decode prog_8_method_68_code 45 = .ok (.iaload, 1) := by decide +kernel
theorem d_M_driver_46 : decode prog_8_method_68_code 46 = .ok (.aload_n 0, 1) := by decide +kernel
theorem d_M_driver_47 : decode prog_8_method_68_code 47 = .ok (.getfield 56, 3) := by decide +kernel
theorem d_M_driver_50 : decode prog_8_method_68_code 50 = .ok (.iload_n 2, 1) := by decide +kernel
theorem d_M_driver_51 : decode prog_8_method_68_code 51 = .ok (.iaload, 1) := by decide +kernel
theorem d_M_driver_52 : decode prog_8_method_68_code 52 = .ok (.if_icmp .ge 7, 3) := by decide +kernel
theorem d_M_driver_55 : decode prog_8_method_68_code 55 = .ok (.iload_n 3, 1) := by decide +kernel
theorem d_M_driver_56 : decode prog_8_method_68_code 56 = .ok (.goto 4, 3) := by decide +kernel
theorem d_M_driver_59 : decode prog_8_method_68_code 59 = .ok (.iload_n 2, 1) := by decide +kernel
theorem d_M_driver_60 : decode prog_8_method_68_code 60 = .ok (.istore_n 2, 1) := by decide +kernel
theorem d_M_driver_61 : decode prog_8_method_68_code 61 = .ok (.iinc 3 1, 3) := by decide +kernel
theorem d_M_driver_64 : decode prog_8_method_68_code 64 = .ok (.goto (-36), 3) := by decide +kernel
theorem d_M_driver_67 : decode prog_8_method_68_code 67 = .ok (.aload_n 0, 1) := by decide +kernel
theorem d_M_driver_68 : decode prog_8_method_68_code 68 = .ok (.invokevirtual 256, 3) := by decide +kernel
theorem d_M_driver_71 : decode prog_8_method_68_code 71 = .ok (.iload_n 2, 1) := by decide +kernel
theorem d_M_driver_72 : decode prog_8_method_68_code 72 = .ok (.ireturn, 1) := by decide +kernel
theorem gc_M_driver_250 : GoodIn yGW (wsV "WhoseGlassModel" 250 yR5 m_M_open ws_M_open) := y_gV g_978 g_980 gs_19 g_6 g_981
theorem gc_M_driver_276 : GoodIn yGW (wsV "WhoseGlassModel" 276 yR5 m_M_goThrough ws_M_goThrough) := y_gV g_1125 g_1127 gs_44 g_6 g_1128
theorem gc_M_driver_256 : GoodIn yGW (wsV "WhoseGlassModel" 256 yR5 m_M_again ws_M_again) := y_gV g_1066 g_1068 gs_41 g_6 g_1069
set_option maxHeartbeats 4000000 in
set_option maxRecDepth 100000 in
def f_M_driver_L28 (F : Nat) (a0 : Option Nat) (k : Mm → Int32 → Option (Int32 × Mm)) : Nat → Mm → Int32 → Int32 → Option (Int32 × Mm)
  | 0, _, _, _ => none
  | n + 1, u, a2, a3 => ob (jgi YM 5 1 u a0) fun (x9 : Int32) => (if x9 ≤ a3 then k u a2 else ob ((if a2 < 0 then some a3 else ob (jgr YM 5 18 a0) fun (r13 : Option Nat) => ob (jal YM u r13 a3) fun (x14 : Int32) => ob (jgr YM 5 18 a0) fun (r15 : Option Nat) => ob (jal YM u r15 a2) fun (x16 : Int32) => (if x16 ≤ x14 then some a2 else some a3)) : Option (Int32)) fun q11 => ob (some (a3 + (1 : Int32))) fun (x18 : Int32) => f_M_driver_L28 F a0 k n u q11 x18)
set_option maxHeartbeats 4000000 in
set_option maxRecDepth 100000 in
theorem w_M_driver_L28 {p : Program} {l : Launch} {e : Env} {s : State} {m : MethodId} {args : Array Value} {below : List Frame} {meth : Method} {c : Code} {w : WP} {Q : State → Prop} (F : Nat) (C : yX p e ({ frames := 8, cells := 0, slots := 0, locals := 181 } : Room) s m args c YM w 4 prog_8_method_68_code "WhoseGlassModel") (hr : meth.sig.returnType = (some .int)) (hlocks : meth.locks = false) (a0 : Option Nat) {out : Int32 × Mm} (k : Mm → Int32 → Option (Int32 × Mm)) (hk : ∀ (u : Mm) (a2 : Int32), k u a2 = some out → yG p l e ({ frames := 8, cells := 0, slots := 0, locals := 181 } : Room) s m args below meth c YM w 4 Q u 67 [(0, va_re w.1 a0), (2, .int a2)] []) : ∀ (n : Nat) (u : Mm) (a2 : Int32) (a3 : Int32), f_M_driver_L28 F a0 k n u a2 a3 = some out → yG p l e ({ frames := 8, cells := 0, slots := 0, locals := 181 } : Room) s m args below meth c YM w 4 Q u 28 [(0, va_re w.1 a0), (2, .int a2), (3, .int a3)] [] := by
  intro n
  induction n with
  | zero => intro u a2 a3 h; rw [f_M_driver_L28] at h; cases h
  | succ n ih =>
    intro u a2 a3 h
    rw [f_M_driver_L28] at h
    refine y_iload_n C (i := 3) 2 d_M_driver_28 rfl rfl ?_
    refine y_aload_n C (i := 0) 0 d_M_driver_29 rfl rfl ?_
    refine y_gi C (q := (yR5, yT5, 46)) (ci := 5) (k := 1) rfl (by decide) rfl g_785 d_M_driver_30 h (fun x9 h => ?_)
    refine y_ic_ge C 67 d_M_driver_33 (by decide) h (fun k10 h => ?_) (fun k10 h => ?_)
    · exact y_sub [0, 1] rfl (hk _ _ h)
    · refine y_iload_n C (i := 2) 1 d_M_driver_36 rfl rfl ?_
      obtain ⟨q11, hq11, h⟩ := ob_e h
      have hJq11 : yG p l e ({ frames := 8, cells := 0, slots := 0, locals := 181 } : Room) s m args below meth c YM w 4 Q u 60 [(0, va_re w.1 a0), (3, .int a3)] [.int q11] := by
        refine y_istore_n C (i := 2) (lvp := [(0, va_re w.1 a0), (3, .int a3)]) d_M_driver_60 rfl (by decide) rfl ?_
        refine y_iinc C (j := 2) (v := 1) (lvp := [(2, .int q11), (0, va_re w.1 a0)]) d_M_driver_61 rfl (by decide) (by decide) rfl h (fun x18 h => ?_)
        refine y_goto C (tgt := 28) d_M_driver_64 (by decide) ?_
        exact y_sub [2, 1, 0] rfl (ih _ _ _ h)
      refine y_if_lt C 55 d_M_driver_37 (by decide) hq11 (fun k12 hq11 => ?_) (fun k12 hq11 => ?_)
      · refine y_iload_n C (i := 3) 2 d_M_driver_55 rfl rfl ?_
        refine y_goto C (tgt := 60) d_M_driver_56 (by decide) ?_
        cases hq11
        exact y_sub [0, 2] rfl hJq11
      · refine y_aload_n C (i := 0) 0 d_M_driver_40 rfl rfl ?_
        refine y_gr C (q := (yR5, yT5, 46)) (ci := 5) (k := 18) rfl (by decide) rfl (by decide) g_802 d_M_driver_41 hq11 (fun r13 hq11 => ?_)
        refine y_iload_n C (i := 3) 2 d_M_driver_44 rfl rfl ?_
        refine y_al C d_M_driver_45 hq11 (fun x14 hq11 => ?_)
        refine y_aload_n C (i := 0) 0 d_M_driver_46 rfl rfl ?_
        refine y_gr C (q := (yR5, yT5, 46)) (ci := 5) (k := 18) rfl (by decide) rfl (by decide) g_802 d_M_driver_47 hq11 (fun r15 hq11 => ?_)
        refine y_iload_n C (i := 2) 1 d_M_driver_50 rfl rfl ?_
        refine y_al C d_M_driver_51 hq11 (fun x16 hq11 => ?_)
        refine y_ic_ge C 59 d_M_driver_52 (by decide) hq11 (fun k17 hq11 => ?_) (fun k17 hq11 => ?_)
        · refine y_iload_n C (i := 2) 1 d_M_driver_59 rfl rfl ?_
          cases hq11
          exact y_sub [0, 2] rfl hJq11
        · refine y_iload_n C (i := 3) 2 d_M_driver_55 rfl rfl ?_
          refine y_goto C (tgt := 60) d_M_driver_56 (by decide) ?_
          cases hq11
          exact y_sub [0, 2] rfl hJq11
set_option maxRecDepth 100000 in
def f_M_driver (F : Nat) (u : Mm) (o : Nat) (a1 : Int32) : Option (Int32 × Mm) := ob (jpi YM 5 23 u (some o) (0 : Int32)) fun (u1 : Mm) => yb (f_M_isMinutes F u1 a1) fun x2 u3 => (if x2 = 0 then some ((-1 : Int32), u3) else ob (jk YM 5 (some o)) fun t => yb (f_M_open F u3 t ) fun v5 u6 => ob (jk YM 5 (some o)) fun t => yb (f_M_goThrough F u6 t a1) fun v7 u8 => f_M_driver_L28 F (some o) (fun (u19 : Mm) (x20 : Int32) => ob (jk YM 5 (some o)) fun t => yb (f_M_again F u19 t ) fun v21 u22 => some (x20, u22)) F u8 (-4 : Int32) (0 : Int32))
set_option maxHeartbeats 4000000 in
set_option maxRecDepth 100000 in
theorem c_M_driver (l : Launch) (w : WP) (F : Nat) (u : Mm) (o : Nat) (a1 : Int32) (out : Int32 × Mm) (h : f_M_driver F u o a1 = some out) : yMet l m_M_driver ws_M_driver ({ frames := 8, cells := 0, slots := 0, locals := 181 } : Room) YM w u [va_re w.1 (some o), .int a1] yfi out := by
  refine y_entry (own := "WhoseGlassModel") (lv := [(0, va_re w.1 (some o)), (1, .int a1)]) (by decide +kernel) rfl (by simp [lv_args, y_cat, y_catI, y_catJ]) (by simp [lg_sl, y_cat, y_catI, y_catJ]) ?_
  intro p e s m args below meth c C hr hlocks
  unfold f_M_driver at h
  refine y_aload_n C (i := 0) 0 d_M_driver_0 rfl rfl ?_
  refine y_iconst C (v := 0) d_M_driver_1 (by decide) ?_
  refine y_pi C (q := (yR5, yT5, 46)) (ci := 5) (k := 23) rfl (by decide) rfl rfl (by decide +kernel) g_807 d_M_driver_2 h (fun u1 h => ?_)
  refine y_iload_n C (i := 1) 1 d_M_driver_5 rfl rfl ?_
  refine y_callS 1 C (fun out hh => c_M_isMinutes l w F u1 a1 out hh) (y_gc g_1158) g_1156 g_6 g_1157 hn_M_isMinutes ⟨Nat.le_of_ble_eq_true rfl, Nat.le_of_ble_eq_true rfl⟩ rfl rfl rfl rfl (by simp [y_cat, y_catI, y_catJ]) d_M_driver_6 h (fun x2 u3 h => ?_)
  refine y_stk (stp0 := [.int x2]) rfl ?_
  refine y_if_ne C 14 d_M_driver_9 (by decide) h (fun k4 h => ?_) (fun k4 h => ?_)
  · refine y_iconst C (v := -1) d_M_driver_12 (by decide) ?_
    exact y_iret C hr hlocks d_M_driver_13 h
  · refine y_aload_n C (i := 0) 0 d_M_driver_14 rfl rfl ?_
    refine y_callV 0 C (q := (yR5, yT5, 46)) (ci := 5) (fun t out hh => c_M_open l w F u3 t out hh) gc_M_driver_250 rfl (by decide) hd_M_open ⟨Nat.le_of_ble_eq_true rfl, Nat.le_of_ble_eq_true rfl⟩ rfl rfl rfl rfl (by simp [y_cat, y_catI, y_catJ]) d_M_driver_15 h (fun v5 u6 h => ?_)
    refine y_stk (stp0 := []) rfl ?_
    refine y_aload_n C (i := 0) 0 d_M_driver_18 rfl rfl ?_
    refine y_iload_n C (i := 1) 1 d_M_driver_19 rfl rfl ?_
    refine y_callV 1 C (q := (yR5, yT5, 46)) (ci := 5) (fun t out hh => c_M_goThrough l w F u6 t a1 out hh) gc_M_driver_276 rfl (by decide) hd_M_goThrough ⟨Nat.le_of_ble_eq_true rfl, Nat.le_of_ble_eq_true rfl⟩ rfl rfl rfl rfl (by simp [y_cat, y_catI, y_catJ]) d_M_driver_20 h (fun v7 u8 h => ?_)
    refine y_stk (stp0 := []) rfl ?_
    refine y_bipush C (v := -4) d_M_driver_23 (by decide) ?_
    refine y_istore_n C (i := 2) (lvp := [(0, va_re w.1 (some o)), (1, .int a1)]) d_M_driver_25 rfl (by decide) rfl ?_
    refine y_iconst C (v := 0) d_M_driver_26 (by decide) ?_
    refine y_istore_n C (i := 3) (lvp := [(2, .int (-4 : Int32)), (0, va_re w.1 (some o)), (1, .int a1)]) d_M_driver_27 rfl (by decide) rfl ?_
    refine y_sub [2, 1, 0] rfl (w_M_driver_L28 F C hr hlocks _ _ (fun u19 x20 h => ?_) _ _ _ _ h)
    refine y_aload_n C (i := 0) 0 d_M_driver_67 rfl rfl ?_
    refine y_callV 0 C (q := (yR5, yT5, 46)) (ci := 5) (fun t out hh => c_M_again l w F u19 t out hh) gc_M_driver_256 rfl (by decide) hd_M_again ⟨Nat.le_of_ble_eq_true rfl, Nat.le_of_ble_eq_true rfl⟩ rfl rfl rfl rfl (by simp [y_cat, y_catI, y_catJ]) d_M_driver_68 h (fun v21 u22 h => ?_)
    refine y_stk (stp0 := []) rfl ?_
    refine y_iload_n C (i := 2) 1 d_M_driver_71 rfl rfl ?_
    exact y_iret C hr hlocks d_M_driver_72 h
/-! M_isSomeEmpty -/
theorem d_M_isSomeEmpty_0 : decode prog_8_method_69_code 0 = .ok (.iconst 0, 1) := by decide +kernel
theorem d_M_isSomeEmpty_1 : decode prog_8_method_69_code 1 = .ok (.istore_n 1, 1) := by decide +kernel
theorem d_M_isSomeEmpty_2 : decode prog_8_method_69_code 2 = .ok (.iconst 0, 1) := by decide +kernel
theorem d_M_isSomeEmpty_3 : decode prog_8_method_69_code 3 = .ok (.istore_n 2, 1) := by decide +kernel
theorem d_M_isSomeEmpty_4 : decode prog_8_method_69_code 4 = .ok (.iload_n 2, 1) := by decide +kernel
theorem d_M_isSomeEmpty_5 : decode prog_8_method_69_code 5 = .ok (.aload_n 0, 1) := by decide +kernel
theorem d_M_isSomeEmpty_6 : decode prog_8_method_69_code 6 = .ok (.getfield 105, 3) := by decide +kernel
theorem d_M_isSomeEmpty_9 : decode prog_8_method_69_code 9 = .ok (.if_icmp .ge 39, 3) := by decide +kernel
theorem d_M_isSomeEmpty_12 : decode prog_8_method_69_code 12 = .ok (.iload_n 1, 1) := by decide +kernel
theorem d_M_isSomeEmpty_13 : decode prog_8_method_69_code 13 = .ok (.ifCond .ne 23, 3) := by decide +kernel
theorem d_M_isSomeEmpty_16 : decode prog_8_method_69_code 16 = .ok (.aload_n 0, 1) := by decide +kernel
theorem d_M_isSomeEmpty_17 : decode prog_8_method_69_code 17 = .ok (.getfield 23, 3) := by decide +kernel
theorem d_M_isSomeEmpty_20 : decode prog_8_method_69_code 20 = .ok (.iload_n 2, 1) := by decide +kernel
theorem d_M_isSomeEmpty_21 : decode prog_8_method_69_code 21 = .ok (.iaload, 1) := by decide +kernel
theorem d_M_isSomeEmpty_22 : decode prog_8_method_69_code 22 = .ok (.bipush 20, 2) := by decide +kernel
theorem d_M_isSomeEmpty_24 : decode prog_8_method_69_code 24 = .ok (.if_icmp .eq 16, 3) := by decide +kernel
theorem d_M_isSomeEmpty_27 : decode prog_8_method_69_code 27 = .ok (.aload_n 0, 1) := by decide +kernel
theorem d_M_isSomeEmpty_28 : decode prog_8_method_69_code 28 = .ok (.getfield 20, 3) := by decide +kernel
theorem d_M_isSomeEmpty_31 : decode prog_8_method_69_code 31 = .ok (.iload_n 2, 1) := by decide +kernel
theorem d_M_isSomeEmpty_32 : decode prog_8_method_69_code 32 = .ok (.iaload, 1) := by decide +kernel
theorem d_M_isSomeEmpty_33 : decode prog_8_method_69_code 33 = .ok (.ifCond .ne 7, 3) := by decide +kernel
theorem d_M_isSomeEmpty_36 : decode prog_8_method_69_code 36 = .ok (.iconst 1, 1) := by decide +kernel
theorem d_M_isSomeEmpty_37 : decode prog_8_method_69_code 37 = .ok (.goto 4, 3) := by decide +kernel
theorem d_M_isSomeEmpty_40 : decode prog_8_method_69_code 40 = .ok (.iconst 0, 1) := by decide +kernel
theorem d_M_isSomeEmpty_41 : decode prog_8_method_69_code 41 = .ok (.istore_n 1, 1) := by decide +kernel
theorem d_M_isSomeEmpty_42 : decode prog_8_method_69_code 42 = .ok (.iinc 2 1, 3) := by decide +kernel
theorem d_M_isSomeEmpty_45 : decode prog_8_method_69_code 45 = .ok (.goto (-41), 3) := by decide +kernel
theorem d_M_isSomeEmpty_48 : decode prog_8_method_69_code 48 = .ok (.iload_n 1, 1) := by decide +kernel
theorem d_M_isSomeEmpty_49 : decode prog_8_method_69_code 49 = .ok (.ireturn, 1) := by decide +kernel
set_option maxHeartbeats 4000000 in
set_option maxRecDepth 100000 in
def f_M_isSomeEmpty_L4 (F : Nat) (a0 : Option Nat) (k : Mm → Int32 → Option (Int32 × Mm)) : Nat → Mm → Int32 → Int32 → Option (Int32 × Mm)
  | 0, _, _, _ => none
  | n + 1, u, a1, a2 => ob (jgi YM 5 0 u a0) fun (x1 : Int32) => (if x1 ≤ a2 then k u a1 else ob ((if a1 = 0 then ob (jgr YM 5 7 a0) fun (r5 : Option Nat) => ob (jal YM u r5 a2) fun (x6 : Int32) => (if x6 = (20 : Int32) then some (0 : Int32) else ob (jgr YM 5 6 a0) fun (r8 : Option Nat) => ob (jal YM u r8 a2) fun (x9 : Int32) => (if x9 = 0 then some (1 : Int32) else some (0 : Int32))) else some (1 : Int32)) : Option (Int32)) fun q3 => ob (some (a2 + (1 : Int32))) fun (x11 : Int32) => f_M_isSomeEmpty_L4 F a0 k n u q3 x11)
set_option maxHeartbeats 4000000 in
set_option maxRecDepth 100000 in
theorem w_M_isSomeEmpty_L4 {p : Program} {l : Launch} {e : Env} {s : State} {m : MethodId} {args : Array Value} {below : List Frame} {meth : Method} {c : Code} {w : WP} {Q : State → Prop} (F : Nat) (C : yX p e ({ frames := 0, cells := 0, slots := 0, locals := 0 } : Room) s m args c YM w 3 prog_8_method_69_code "WhoseGlassModel") (hr : meth.sig.returnType = (some .boolean)) (hlocks : meth.locks = false) (a0 : Option Nat) {out : Int32 × Mm} (k : Mm → Int32 → Option (Int32 × Mm)) (hk : ∀ (u : Mm) (a1 : Int32), k u a1 = some out → yG p l e ({ frames := 0, cells := 0, slots := 0, locals := 0 } : Room) s m args below meth c YM w 3 Q u 48 [(1, .int a1)] []) : ∀ (n : Nat) (u : Mm) (a1 : Int32) (a2 : Int32), f_M_isSomeEmpty_L4 F a0 k n u a1 a2 = some out → yG p l e ({ frames := 0, cells := 0, slots := 0, locals := 0 } : Room) s m args below meth c YM w 3 Q u 4 [(0, va_re w.1 a0), (1, .int a1), (2, .int a2)] [] := by
  intro n
  induction n with
  | zero => intro u a1 a2 h; rw [f_M_isSomeEmpty_L4] at h; cases h
  | succ n ih =>
    intro u a1 a2 h
    rw [f_M_isSomeEmpty_L4] at h
    refine y_iload_n C (i := 2) 2 d_M_isSomeEmpty_4 rfl rfl ?_
    refine y_aload_n C (i := 0) 0 d_M_isSomeEmpty_5 rfl rfl ?_
    refine y_gi C (q := (yR5, yT5, 46)) (ci := 5) (k := 0) rfl (by decide) rfl g_784 d_M_isSomeEmpty_6 h (fun x1 h => ?_)
    refine y_ic_ge C 48 d_M_isSomeEmpty_9 (by decide) h (fun k2 h => ?_) (fun k2 h => ?_)
    · exact y_sub [1] rfl (hk _ _ h)
    · refine y_iload_n C (i := 1) 1 d_M_isSomeEmpty_12 rfl rfl ?_
      obtain ⟨q3, hq3, h⟩ := ob_e h
      have hJq3 : yG p l e ({ frames := 0, cells := 0, slots := 0, locals := 0 } : Room) s m args below meth c YM w 3 Q u 41 [(0, va_re w.1 a0), (2, .int a2)] [.int q3] := by
        refine y_istore_n C (i := 1) (lvp := [(0, va_re w.1 a0), (2, .int a2)]) d_M_isSomeEmpty_41 rfl (by decide) (by simp [List.filter, y_cat, y_catI, y_catJ]) ?_
        refine y_iinc C (j := 2) (v := 1) (lvp := [(1, .int q3), (0, va_re w.1 a0)]) d_M_isSomeEmpty_42 rfl (by decide) (by decide) rfl h (fun x11 h => ?_)
        refine y_goto C (tgt := 4) d_M_isSomeEmpty_45 (by decide) ?_
        exact y_sub [2, 1, 0] rfl (ih _ _ _ h)
      refine y_if_ne C 36 d_M_isSomeEmpty_13 (by decide) hq3 (fun k4 hq3 => ?_) (fun k4 hq3 => ?_)
      · refine y_aload_n C (i := 0) 0 d_M_isSomeEmpty_16 rfl rfl ?_
        refine y_gr C (q := (yR5, yT5, 46)) (ci := 5) (k := 7) rfl (by decide) rfl (by decide) g_791 d_M_isSomeEmpty_17 hq3 (fun r5 hq3 => ?_)
        refine y_iload_n C (i := 2) 2 d_M_isSomeEmpty_20 rfl rfl ?_
        refine y_al C d_M_isSomeEmpty_21 hq3 (fun x6 hq3 => ?_)
        refine y_bipush C (v := 20) d_M_isSomeEmpty_22 (by decide) ?_
        refine y_ic_eq C 40 d_M_isSomeEmpty_24 (by decide) hq3 (fun k7 hq3 => ?_) (fun k7 hq3 => ?_)
        · refine y_iconst C (v := 0) d_M_isSomeEmpty_40 (by decide) ?_
          cases hq3
          exact y_sub [0, 2] rfl hJq3
        · refine y_aload_n C (i := 0) 0 d_M_isSomeEmpty_27 rfl rfl ?_
          refine y_gr C (q := (yR5, yT5, 46)) (ci := 5) (k := 6) rfl (by decide) rfl (by decide) g_790 d_M_isSomeEmpty_28 hq3 (fun r8 hq3 => ?_)
          refine y_iload_n C (i := 2) 2 d_M_isSomeEmpty_31 rfl rfl ?_
          refine y_al C d_M_isSomeEmpty_32 hq3 (fun x9 hq3 => ?_)
          refine y_if_ne C 40 d_M_isSomeEmpty_33 (by decide) hq3 (fun k10 hq3 => ?_) (fun k10 hq3 => ?_)
          · refine y_iconst C (v := 1) d_M_isSomeEmpty_36 (by decide) ?_
            refine y_goto C (tgt := 41) d_M_isSomeEmpty_37 (by decide) ?_
            cases hq3
            exact y_sub [0, 2] rfl hJq3
          · refine y_iconst C (v := 0) d_M_isSomeEmpty_40 (by decide) ?_
            cases hq3
            exact y_sub [0, 2] rfl hJq3
      · refine y_iconst C (v := 1) d_M_isSomeEmpty_36 (by decide) ?_
        refine y_goto C (tgt := 41) d_M_isSomeEmpty_37 (by decide) ?_
        cases hq3
        exact y_sub [0, 2] rfl hJq3
set_option maxRecDepth 100000 in
def f_M_isSomeEmpty (F : Nat) (u : Mm) (o : Nat) : Option (Int32 × Mm) := f_M_isSomeEmpty_L4 F (some o) (fun (u12 : Mm) (x13 : Int32) => ob (jz x13) (fun v => some (v, u12))) F u (0 : Int32) (0 : Int32)
set_option maxHeartbeats 4000000 in
set_option maxRecDepth 100000 in
theorem c_M_isSomeEmpty (l : Launch) (w : WP) (F : Nat) (u : Mm) (o : Nat) (out : Int32 × Mm) (h : f_M_isSomeEmpty F u o = some out) : yMet l m_M_isSomeEmpty ws_M_isSomeEmpty ({ frames := 0, cells := 0, slots := 0, locals := 0 } : Room) YM w u [va_re w.1 (some o)] yfi out := by
  refine y_entry (own := "WhoseGlassModel") (lv := [(0, va_re w.1 (some o))]) (by decide +kernel) rfl (by simp [lv_args, y_cat, y_catI, y_catJ]) (by simp [lg_sl, y_cat, y_catI, y_catJ]) ?_
  intro p e s m args below meth c C hr hlocks
  unfold f_M_isSomeEmpty at h
  refine y_iconst C (v := 0) d_M_isSomeEmpty_0 (by decide) ?_
  refine y_istore_n C (i := 1) (lvp := [(0, va_re w.1 (some o))]) d_M_isSomeEmpty_1 rfl (by decide) (by simp [List.filter, y_cat, y_catI, y_catJ]) ?_
  refine y_iconst C (v := 0) d_M_isSomeEmpty_2 (by decide) ?_
  refine y_istore_n C (i := 2) (lvp := [(1, .int (0 : Int32)), (0, va_re w.1 (some o))]) d_M_isSomeEmpty_3 rfl (by decide) rfl ?_
  refine y_sub [2, 1, 0] rfl (w_M_isSomeEmpty_L4 F C hr hlocks _ _ (fun u12 x13 h => ?_) _ _ _ _ h)
  refine y_iload_n C (i := 1) 0 d_M_isSomeEmpty_48 rfl rfl ?_
  exact y_zret C hr hlocks d_M_isSomeEmpty_49 h
/-! M_full -/
theorem d_M_full_0 : decode prog_8_method_70_code 0 = .ok (.aload_n 0, 1) := by decide +kernel
theorem d_M_full_1 : decode prog_8_method_70_code 1 = .ok (.iconst 0, 1) := by decide +kernel
theorem d_M_full_2 : decode prog_8_method_70_code 2 = .ok (.putfield 102, 3) := by decide +kernel
theorem d_M_full_5 : decode prog_8_method_70_code 5 = .ok (.aload_n 0, 1) := by decide +kernel
theorem d_M_full_6 : decode prog_8_method_70_code 6 = .ok (.invokevirtual 250, 3) := by decide +kernel
theorem d_M_full_9 : decode prog_8_method_70_code 9 = .ok (.bipush (-4), 2) := by decide +kernel
theorem d_M_full_11 : decode prog_8_method_70_code 11 = .ok (.istore_n 1, 1) := by decide +kernel
theorem d_M_full_12 : decode prog_8_method_70_code 12 = .ok (.iconst 0, 1) := by decide +kernel
theorem d_M_full_13 : decode prog_8_method_70_code 13 = .ok (.istore_n 2, 1) := by decide +kernel
theorem d_M_full_14 : decode prog_8_method_70_code 14 = .ok (.iload_n 2, 1) := by decide +kernel
theorem d_M_full_15 : decode prog_8_method_70_code 15 = .ok (.bipush 60, 2) := by decide +kernel
theorem d_M_full_17 : decode prog_8_method_70_code 17 = .ok (.if_icmp .gt 31, 3) := by decide +kernel
theorem d_M_full_20 : decode prog_8_method_70_code 20 = .ok (.iload_n 1, 1) := by decide +kernel
theorem d_M_full_21 : decode prog_8_method_70_code 21 = .ok (.ifCond .ge 27, 3) := by decide +kernel
theorem d_M_full_24 : decode prog_8_method_70_code 24 = .ok (.aload_n 0, 1) := by decide +kernel
theorem d_M_full_25 : decode prog_8_method_70_code 25 = .ok (.invokevirtual 291, 3) := by decide +kernel
theorem d_M_full_28 : decode prog_8_method_70_code 28 = .ok (.ifCond .eq 8, 3) := by decide +kernel
theorem d_M_full_31 : decode prog_8_method_70_code 31 = .ok (.bipush (-4), 2) := by decide +kernel
theorem d_M_full_33 : decode prog_8_method_70_code 33 = .ok (.goto 4, 3) := by decide +kernel
theorem d_M_full_36 : decode prog_8_method_70_code 36 = .ok (.iload_n 2, 1) := by decide +kernel
theorem d_M_full_37 : decode prog_8_method_70_code 37 = .ok (.istore_n 1, 1) := by decide +kernel
theorem d_M_full_38 : decode prog_8_method_70_code 38 = .ok (.aload_n 0, 1) := by decide +kernel
theorem d_M_full_39 : decode prog_8_method_70_code 39 = .ok (.invokevirtual 193, 3) := by decide +kernel
theorem d_M_full_42 : decode prog_8_method_70_code 42 = .ok (.iinc 2 1, 3) := by decide +kernel
theorem d_M_full_45 : decode prog_8_method_70_code 45 = .ok (.goto (-31), 3) := by decide +kernel
theorem d_M_full_48 : decode prog_8_method_70_code 48 = .ok (.aload_n 0, 1) := by decide +kernel
theorem d_M_full_49 : decode prog_8_method_70_code 49 = .ok (.invokevirtual 256, 3) := by decide +kernel
theorem d_M_full_52 : decode prog_8_method_70_code 52 = .ok (.iload_n 1, 1) := by decide +kernel
theorem d_M_full_53 : decode prog_8_method_70_code 53 = .ok (.ireturn, 1) := by decide +kernel
theorem gc_M_full_250 : GoodIn yGW (wsV "WhoseGlassModel" 250 yR5 m_M_open ws_M_open) := y_gV g_978 g_980 gs_19 g_6 g_981
theorem gc_M_full_291 : GoodIn yGW (wsV "WhoseGlassModel" 291 yR5 m_M_isSomeEmpty ws_M_isSomeEmpty) := y_gV g_1208 g_1210 gs_47 g_6 g_1211
theorem gc_M_full_193 : GoodIn yGW (wsV "WhoseGlassModel" 193 yR5 m_M_minuteOn ws_M_minuteOn) := y_gV g_1014 g_1016 gs_28 g_6 g_1017
theorem gc_M_full_256 : GoodIn yGW (wsV "WhoseGlassModel" 256 yR5 m_M_again ws_M_again) := y_gV g_1066 g_1068 gs_41 g_6 g_1069
set_option maxHeartbeats 4000000 in
set_option maxRecDepth 100000 in
def f_M_full_L14 (F : Nat) (a0 : Option Nat) (k : Mm → Int32 → Option (Int32 × Mm)) : Nat → Mm → Int32 → Int32 → Option (Int32 × Mm)
  | 0, _, _, _ => none
  | n + 1, u, a1, a2 => (if (60 : Int32) < a2 then k u a1 else (if 0 ≤ a1 then k u a1 else ob (jk YM 5 a0) fun t => yb (f_M_isSomeEmpty F u t ) fun x6 u7 => ob ((if x6 = 0 then some a2 else some (-4 : Int32)) : Option (Int32)) fun q8 => ob (jk YM 5 a0) fun t => yb (f_M_minuteOn F u7 t ) fun v10 u11 => ob (some (a2 + (1 : Int32))) fun (x12 : Int32) => f_M_full_L14 F a0 k n u11 q8 x12))
set_option maxHeartbeats 4000000 in
set_option maxRecDepth 100000 in
theorem w_M_full_L14 {p : Program} {l : Launch} {e : Env} {s : State} {m : MethodId} {args : Array Value} {below : List Frame} {meth : Method} {c : Code} {w : WP} {Q : State → Prop} (F : Nat) (C : yX p e ({ frames := 7, cells := 0, slots := 0, locals := 159 } : Room) s m args c YM w 3 prog_8_method_70_code "WhoseGlassModel") (hr : meth.sig.returnType = (some .int)) (hlocks : meth.locks = false) (a0 : Option Nat) {out : Int32 × Mm} (k : Mm → Int32 → Option (Int32 × Mm)) (hk : ∀ (u : Mm) (a1 : Int32), k u a1 = some out → yG p l e ({ frames := 7, cells := 0, slots := 0, locals := 159 } : Room) s m args below meth c YM w 3 Q u 48 [(0, va_re w.1 a0), (1, .int a1)] []) : ∀ (n : Nat) (u : Mm) (a1 : Int32) (a2 : Int32), f_M_full_L14 F a0 k n u a1 a2 = some out → yG p l e ({ frames := 7, cells := 0, slots := 0, locals := 159 } : Room) s m args below meth c YM w 3 Q u 14 [(0, va_re w.1 a0), (1, .int a1), (2, .int a2)] [] := by
  intro n
  induction n with
  | zero => intro u a1 a2 h; rw [f_M_full_L14] at h; cases h
  | succ n ih =>
    intro u a1 a2 h
    rw [f_M_full_L14] at h
    refine y_iload_n C (i := 2) 2 d_M_full_14 rfl rfl ?_
    refine y_bipush C (v := 60) d_M_full_15 (by decide) ?_
    refine y_ic_gt C 48 d_M_full_17 (by decide) h (fun k4 h => ?_) (fun k4 h => ?_)
    · exact y_sub [0, 1] rfl (hk _ _ h)
    · refine y_iload_n C (i := 1) 1 d_M_full_20 rfl rfl ?_
      refine y_if_ge C 48 d_M_full_21 (by decide) h (fun k5 h => ?_) (fun k5 h => ?_)
      · exact y_sub [0, 1] rfl (hk _ _ h)
      · refine y_aload_n C (i := 0) 0 d_M_full_24 rfl rfl ?_
        refine y_callV 0 C (q := (yR5, yT5, 46)) (ci := 5) (fun t out hh => c_M_isSomeEmpty l w F u t out hh) gc_M_full_291 rfl (by decide) hd_M_isSomeEmpty ⟨Nat.le_of_ble_eq_true rfl, Nat.le_of_ble_eq_true rfl⟩ rfl rfl rfl rfl (by simp [y_cat, y_catI, y_catJ]) d_M_full_25 h (fun x6 u7 h => ?_)
        refine y_stk (stp0 := [.int x6]) rfl ?_
        obtain ⟨q8, hq8, h⟩ := ob_e h
        have hJq8 : yG p l e ({ frames := 7, cells := 0, slots := 0, locals := 159 } : Room) s m args below meth c YM w 3 Q u7 37 [(0, va_re w.1 a0), (2, .int a2)] [.int q8] := by
          refine y_istore_n C (i := 1) (lvp := [(0, va_re w.1 a0), (2, .int a2)]) d_M_full_37 rfl (by decide) (by simp [List.filter, y_cat, y_catI, y_catJ]) ?_
          refine y_aload_n C (i := 0) 1 d_M_full_38 rfl rfl ?_
          refine y_callV 0 C (q := (yR5, yT5, 46)) (ci := 5) (fun t out hh => c_M_minuteOn l w F u7 t out hh) gc_M_full_193 rfl (by decide) hd_M_minuteOn ⟨Nat.le_of_ble_eq_true rfl, Nat.le_of_ble_eq_true rfl⟩ rfl rfl rfl rfl (by simp [y_cat, y_catI, y_catJ]) d_M_full_39 h (fun v10 u11 h => ?_)
          refine y_stk (stp0 := []) rfl ?_
          refine y_iinc C (j := 2) (v := 1) (lvp := [(1, .int q8), (0, va_re w.1 a0)]) d_M_full_42 rfl (by decide) (by decide) rfl h (fun x12 h => ?_)
          refine y_goto C (tgt := 14) d_M_full_45 (by decide) ?_
          exact y_sub [2, 1, 0] rfl (ih _ _ _ h)
        refine y_if_eq C 36 d_M_full_28 (by decide) hq8 (fun k9 hq8 => ?_) (fun k9 hq8 => ?_)
        · refine y_iload_n C (i := 2) 2 d_M_full_36 rfl rfl ?_
          cases hq8
          exact y_sub [0, 2] rfl hJq8
        · refine y_bipush C (v := -4) d_M_full_31 (by decide) ?_
          refine y_goto C (tgt := 37) d_M_full_33 (by decide) ?_
          cases hq8
          exact y_sub [0, 2] rfl hJq8
set_option maxRecDepth 100000 in
def f_M_full (F : Nat) (u : Mm) (o : Nat) : Option (Int32 × Mm) := ob (jpi YM 5 23 u (some o) (0 : Int32)) fun (u1 : Mm) => ob (jk YM 5 (some o)) fun t => yb (f_M_open F u1 t ) fun v2 u3 => f_M_full_L14 F (some o) (fun (u13 : Mm) (x14 : Int32) => ob (jk YM 5 (some o)) fun t => yb (f_M_again F u13 t ) fun v15 u16 => some (x14, u16)) F u3 (-4 : Int32) (0 : Int32)
set_option maxHeartbeats 4000000 in
set_option maxRecDepth 100000 in
theorem c_M_full (l : Launch) (w : WP) (F : Nat) (u : Mm) (o : Nat) (out : Int32 × Mm) (h : f_M_full F u o = some out) : yMet l m_M_full ws_M_full ({ frames := 7, cells := 0, slots := 0, locals := 159 } : Room) YM w u [va_re w.1 (some o)] yfi out := by
  refine y_entry (own := "WhoseGlassModel") (lv := [(0, va_re w.1 (some o))]) (by decide +kernel) rfl (by simp [lv_args, y_cat, y_catI, y_catJ]) (by simp [lg_sl, y_cat, y_catI, y_catJ]) ?_
  intro p e s m args below meth c C hr hlocks
  unfold f_M_full at h
  refine y_aload_n C (i := 0) 0 d_M_full_0 rfl rfl ?_
  refine y_iconst C (v := 0) d_M_full_1 (by decide) ?_
  refine y_pi C (q := (yR5, yT5, 46)) (ci := 5) (k := 23) rfl (by decide) rfl rfl (by decide +kernel) g_807 d_M_full_2 h (fun u1 h => ?_)
  refine y_aload_n C (i := 0) 0 d_M_full_5 rfl rfl ?_
  refine y_callV 0 C (q := (yR5, yT5, 46)) (ci := 5) (fun t out hh => c_M_open l w F u1 t out hh) gc_M_full_250 rfl (by decide) hd_M_open ⟨Nat.le_of_ble_eq_true rfl, Nat.le_of_ble_eq_true rfl⟩ rfl rfl rfl rfl (by simp [y_cat, y_catI, y_catJ]) d_M_full_6 h (fun v2 u3 h => ?_)
  refine y_stk (stp0 := []) rfl ?_
  refine y_bipush C (v := -4) d_M_full_9 (by decide) ?_
  refine y_istore_n C (i := 1) (lvp := [(0, va_re w.1 (some o))]) d_M_full_11 rfl (by decide) (by simp [List.filter, y_cat, y_catI, y_catJ]) ?_
  refine y_iconst C (v := 0) d_M_full_12 (by decide) ?_
  refine y_istore_n C (i := 2) (lvp := [(1, .int (-4 : Int32)), (0, va_re w.1 (some o))]) d_M_full_13 rfl (by decide) rfl ?_
  refine y_sub [2, 1, 0] rfl (w_M_full_L14 F C hr hlocks _ _ (fun u13 x14 h => ?_) _ _ _ _ h)
  refine y_aload_n C (i := 0) 0 d_M_full_48 rfl rfl ?_
  refine y_callV 0 C (q := (yR5, yT5, 46)) (ci := 5) (fun t out hh => c_M_again l w F u13 t out hh) gc_M_full_256 rfl (by decide) hd_M_again ⟨Nat.le_of_ble_eq_true rfl, Nat.le_of_ble_eq_true rfl⟩ rfl rfl rfl rfl (by simp [y_cat, y_catI, y_catJ]) d_M_full_49 h (fun v15 u16 h => ?_)
  refine y_stk (stp0 := []) rfl ?_
  refine y_iload_n C (i := 1) 1 d_M_full_52 rfl rfl ?_
  exact y_iret C hr hlocks d_M_full_53 h
/-! M_draw -/
theorem d_M_draw_0 : decode prog_8_method_71_code 0 = .ok (.aload_n 0, 1) := by decide +kernel
theorem d_M_draw_1 : decode prog_8_method_71_code 1 = .ok (.aload_n 0, 1) := by decide +kernel
theorem d_M_draw_2 : decode prog_8_method_71_code 2 = .ok (.getfield 295, 3) := by decide +kernel
theorem d_M_draw_5 : decode prog_8_method_71_code 5 = .ok (.ldc_w 298, 3) := by decide +kernel
theorem d_M_draw_8 : decode prog_8_method_71_code 8 = .ok (.imul, 1) := by decide +kernel
theorem d_M_draw_9 : decode prog_8_method_71_code 9 = .ok (.sipush 12345, 3) := by decide +kernel
theorem d_M_draw_12 : decode prog_8_method_71_code 12 = .ok (.iadd, 1) := by decide +kernel
theorem d_M_draw_13 : decode prog_8_method_71_code 13 = .ok (.putfield 295, 3) := by decide +kernel
theorem d_M_draw_16 : decode prog_8_method_71_code 16 = .ok (.aload_n 0, 1) := by decide +kernel
theorem d_M_draw_17 : decode prog_8_method_71_code 17 = .ok (.getfield 295, 3) := by decide +kernel
theorem d_M_draw_20 : decode prog_8_method_71_code 20 = .ok (.ldc_w 299, 3) := by decide +kernel
theorem d_M_draw_23 : decode prog_8_method_71_code 23 = .ok (.iand, 1) := by decide +kernel
theorem d_M_draw_24 : decode prog_8_method_71_code 24 = .ok (.ldc_w 300, 3) := by decide +kernel
theorem d_M_draw_27 : decode prog_8_method_71_code 27 = .ok (.idiv, 1) := by decide +kernel
theorem d_M_draw_28 : decode prog_8_method_71_code 28 = .ok (.iload_n 1, 1) := by decide +kernel
theorem d_M_draw_29 : decode prog_8_method_71_code 29 = .ok (.irem, 1) := by decide +kernel
theorem d_M_draw_30 : decode prog_8_method_71_code 30 = .ok (.ireturn, 1) := by decide +kernel
set_option maxRecDepth 100000 in
def f_M_draw (F : Nat) (u : Mm) (o : Nat) (a1 : Int32) : Option (Int32 × Mm) := ob (jgi YM 5 38 u (some o)) fun (x1 : Int32) => ob (jpi YM 5 38 u (some o) ((x1 * (1103515245 : Int32)) + (12345 : Int32))) fun (u2 : Mm) => ob (jgi YM 5 38 u2 (some o)) fun (x3 : Int32) => ob (jdv (x3 &&& (2147483647 : Int32)) (65536 : Int32)) fun (x4 : Int32) => ob (jrm x4 a1) fun (x5 : Int32) => some (x5, u2)
set_option maxHeartbeats 4000000 in
set_option maxRecDepth 100000 in
theorem c_M_draw (l : Launch) (w : WP) (F : Nat) (u : Mm) (o : Nat) (a1 : Int32) (out : Int32 × Mm) (h : f_M_draw F u o a1 = some out) : yMet l m_M_draw ws_M_draw ({ frames := 0, cells := 0, slots := 0, locals := 0 } : Room) YM w u [va_re w.1 (some o), .int a1] yfi out := by
  refine y_entry (own := "WhoseGlassModel") (lv := [(0, va_re w.1 (some o)), (1, .int a1)]) (by decide +kernel) rfl (by simp [lv_args, y_cat, y_catI, y_catJ]) (by simp [lg_sl, y_cat, y_catI, y_catJ]) ?_
  intro p e s m args below meth c C hr hlocks
  unfold f_M_draw at h
  refine y_aload_n C (i := 0) 0 d_M_draw_0 rfl rfl ?_
  refine y_aload_n C (i := 0) 0 d_M_draw_1 rfl rfl ?_
  refine y_gi C (q := (yR5, yT5, 46)) (ci := 5) (k := 38) rfl (by decide) rfl g_822 d_M_draw_2 h (fun x1 h => ?_)
  refine y_ldcw C d_M_draw_5 g_1221 ?_
  refine y_imul C d_M_draw_8 ?_
  refine y_sipush C (v := 12345) d_M_draw_9 (by decide) ?_
  refine y_iadd C d_M_draw_12 ?_
  refine y_pi C (q := (yR5, yT5, 46)) (ci := 5) (k := 38) rfl (by decide) rfl rfl (by decide +kernel) g_822 d_M_draw_13 h (fun u2 h => ?_)
  refine y_aload_n C (i := 0) 0 d_M_draw_16 rfl rfl ?_
  refine y_gi C (q := (yR5, yT5, 46)) (ci := 5) (k := 38) rfl (by decide) rfl g_822 d_M_draw_17 h (fun x3 h => ?_)
  refine y_ldcw C d_M_draw_20 g_1222 ?_
  refine y_iand C d_M_draw_23 ?_
  refine y_ldcw C d_M_draw_24 g_1223 ?_
  refine y_idiv C d_M_draw_27 h (fun x4 h => ?_)
  refine y_iload_n C (i := 1) 1 d_M_draw_28 rfl rfl ?_
  refine y_irem C d_M_draw_29 h (fun x5 h => ?_)
  exact y_iret C hr hlocks d_M_draw_30 h
/-! M_seeded -/
theorem d_M_seeded_0 : decode prog_8_method_72_code 0 = .ok (.aload_n 0, 1) := by decide +kernel
theorem d_M_seeded_1 : decode prog_8_method_72_code 1 = .ok (.iconst 0, 1) := by decide +kernel
theorem d_M_seeded_2 : decode prog_8_method_72_code 2 = .ok (.putfield 102, 3) := by decide +kernel
theorem d_M_seeded_5 : decode prog_8_method_72_code 5 = .ok (.iload_n 1, 1) := by decide +kernel
theorem d_M_seeded_6 : decode prog_8_method_72_code 6 = .ok (.i2l, 1) := by decide +kernel
theorem d_M_seeded_7 : decode prog_8_method_72_code 7 = .ok (.lconst 1, 1) := by decide +kernel
theorem d_M_seeded_8 : decode prog_8_method_72_code 8 = .ok (.ldc2_w 301, 3) := by decide +kernel
theorem d_M_seeded_11 : decode prog_8_method_72_code 11 = .ok (.invokestatic 108, 3) := by decide +kernel
theorem d_M_seeded_14 : decode prog_8_method_72_code 14 = .ok (.ifCond .eq 13, 3) := by decide +kernel
theorem d_M_seeded_17 : decode prog_8_method_72_code 17 = .ok (.iload_n 3, 1) := by decide +kernel
theorem d_M_seeded_18 : decode prog_8_method_72_code 18 = .ok (.i2l, 1) := by decide +kernel
theorem d_M_seeded_19 : decode prog_8_method_72_code 19 = .ok (.lconst 0, 1) := by decide +kernel
theorem d_M_seeded_20 : decode prog_8_method_72_code 20 = .ok (.lconst 1, 1) := by decide +kernel
theorem d_M_seeded_21 : decode prog_8_method_72_code 21 = .ok (.invokestatic 108, 3) := by decide +kernel
theorem d_M_seeded_24 : decode prog_8_method_72_code 24 = .ok (.ifCond .ne 5, 3) := by decide +kernel
theorem d_M_seeded_27 : decode prog_8_method_72_code 27 = .ok (.iconst (-1), 1) := by decide +kernel
theorem d_M_seeded_28 : decode prog_8_method_72_code 28 = .ok (.ireturn, 1) := by decide +kernel
theorem d_M_seeded_29 : decode prog_8_method_72_code 29 = .ok (.aload_n 0, 1) := by decide +kernel
theorem d_M_seeded_30 : decode prog_8_method_72_code 30 = .ok (.getfield 112, 3) := by decide +kernel
theorem d_M_seeded_33 : decode prog_8_method_72_code 33 = .ok (.ifCond .ne 6, 3) := by decide +kernel
theorem d_M_seeded_36 : decode prog_8_method_72_code 36 = .ok (.bipush (-3), 2) := by decide +kernel
theorem d_M_seeded_38 : decode prog_8_method_72_code 38 = .ok (.ireturn, 1) := by decide +kernel
theorem d_M_seeded_39 : decode prog_8_method_72_code 39 = .ok (.aload_n 0, 1) := by decide +kernel
theorem d_M_seeded_40 : decode prog_8_method_72_code 40 = .ok (.invokevirtual 250, 3) := by decide +kernel
theorem d_M_seeded_43 : decode prog_8_method_72_code 43 = .ok (.aload_n 0, 1) := by decide +kernel
theorem d_M_seeded_44 : decode prog_8_method_72_code 44 = .ok (.iload_n 2, 1) := by decide +kernel
theorem d_M_seeded_45 : decode prog_8_method_72_code 45 = .ok (.putfield 295, 3) := by decide +kernel
theorem d_M_seeded_48 : decode prog_8_method_72_code 48 = .ok (.aload_n 0, 1) := by decide +kernel
theorem d_M_seeded_49 : decode prog_8_method_72_code 49 = .ok (.iconst 0, 1) := by decide +kernel
theorem d_M_seeded_50 : decode prog_8_method_72_code 50 = .ok (.putfield 146, 3) := by decide +kernel
theorem d_M_seeded_53 : decode prog_8_method_72_code 53 = .ok (.aload_n 0, 1) := by decide +kernel
theorem d_M_seeded_54 : decode prog_8_method_72_code 54 = .ok (.iconst 0, 1) := by decide +kernel
theorem d_M_seeded_55 : decode prog_8_method_72_code 55 = .ok (.putfield 157, 3) := by decide +kernel
theorem d_M_seeded_58 : decode prog_8_method_72_code 58 = .ok (.iconst 0, 1) := by decide +kernel
theorem d_M_seeded_59 : decode prog_8_method_72_code 59 = .ok (.istore 4, 2) := by decide +kernel
theorem d_M_seeded_61 : decode prog_8_method_72_code 61 = .ok (.iload 4, 2) := by decide +kernel
theorem d_M_seeded_63 : decode prog_8_method_72_code 63 = .ok (.iload_n 1, 1) := by decide +kernel
theorem d_M_seeded_64 : decode prog_8_method_72_code 64 = .ok (.if_icmp .ge 44, 3) := by decide +kernel
theorem d_M_seeded_67 : decode prog_8_method_72_code 67 = .ok (.iconst 0, 1) := by decide +kernel
theorem d_M_seeded_68 : decode prog_8_method_72_code 68 = .ok (.istore 5, 2) := by decide +kernel
theorem d_M_seeded_70 : decode prog_8_method_72_code 70 = .ok (.iload 5, 2) := by decide +kernel
theorem d_M_seeded_72 : decode prog_8_method_72_code 72 = .ok (.aload_n 0, 1) := by decide +kernel
theorem d_M_seeded_73 : decode prog_8_method_72_code 73 = .ok (.getfield 112, 3) := by decide +kernel
theorem d_M_seeded_76 : decode prog_8_method_72_code 76 = .ok (.if_icmp .ge 22, 3) := by decide +kernel
theorem d_M_seeded_79 : decode prog_8_method_72_code 79 = .ok (.aload_n 0, 1) := by decide +kernel
theorem d_M_seeded_80 : decode prog_8_method_72_code 80 = .ok (.getfield 47, 3) := by decide +kernel
theorem d_M_seeded_83 : decode prog_8_method_72_code 83 = .ok (.iload 5, 2) := by decide +kernel
theorem d_M_seeded_85 : decode prog_8_method_72_code 85 = .ok (.aload_n 0, 1) := by decide +kernel
theorem d_M_seeded_86 : decode prog_8_method_72_code 86 = .ok (.bipush 6, 2) := by decide +kernel
theorem d_M_seeded_88 : decode prog_8_method_72_code 88 = .ok (.invokevirtual 303, 3) := by decide +kernel
theorem d_M_seeded_91 : decode prog_8_method_72_code 91 = .ok (.iastore, 1) := by decide +kernel
theorem d_M_seeded_92 : decode prog_8_method_72_code 92 = .ok (.iinc 5 1, 3) := by decide +kernel
theorem d_M_seeded_95 : decode prog_8_method_72_code 95 = .ok (.goto (-25), 3) := by decide +kernel
theorem d_M_seeded_98 : decode prog_8_method_72_code 98 = .ok (.aload_n 0, 1) := by decide +kernel
theorem d_M_seeded_99 : decode prog_8_method_72_code 99 = .ok (.invokevirtual 193, 3) := by decide +kernel
theorem d_M_seeded_102 : decode prog_8_method_72_code 102 = .ok (.iinc 4 1, 3) := by decide +kernel
theorem d_M_seeded_105 : decode prog_8_method_72_code 105 = .ok (.goto (-44), 3) := by decide +kernel
theorem d_M_seeded_108 : decode prog_8_method_72_code 108 = .ok (.aload_n 0, 1) := by decide +kernel
theorem d_M_seeded_109 : decode prog_8_method_72_code 109 = .ok (.invokevirtual 256, 3) := by decide +kernel
theorem d_M_seeded_112 : decode prog_8_method_72_code 112 = .ok (.iload_n 3, 1) := by decide +kernel
theorem d_M_seeded_113 : decode prog_8_method_72_code 113 = .ok (.ifCond .ne 10, 3) := by decide +kernel
theorem d_M_seeded_116 : decode prog_8_method_72_code 116 = .ok (.aload_n 0, 1) := by decide +kernel
theorem d_M_seeded_117 : decode prog_8_method_72_code 117 = .ok (.getfield 146, 3) := by decide +kernel
theorem d_M_seeded_120 : decode prog_8_method_72_code 120 = .ok (.goto 7, 3) := by decide +kernel
theorem d_M_seeded_123 : decode prog_8_method_72_code 123 = .ok (.aload_n 0, 1) := by decide +kernel
theorem d_M_seeded_124 : decode prog_8_method_72_code 124 = .ok (.getfield 157, 3) := by decide +kernel
theorem d_M_seeded_127 : decode prog_8_method_72_code 127 = .ok (.ireturn, 1) := by decide +kernel
theorem gc_M_seeded_250 : GoodIn yGW (wsV "WhoseGlassModel" 250 yR5 m_M_open ws_M_open) := y_gV g_978 g_980 gs_19 g_6 g_981
theorem gc_M_seeded_303 : GoodIn yGW (wsV "WhoseGlassModel" 303 yR5 m_M_draw ws_M_draw) := y_gV g_1217 g_1219 gs_48 g_6 g_1220
theorem gc_M_seeded_193 : GoodIn yGW (wsV "WhoseGlassModel" 193 yR5 m_M_minuteOn ws_M_minuteOn) := y_gV g_1014 g_1016 gs_28 g_6 g_1017
theorem gc_M_seeded_256 : GoodIn yGW (wsV "WhoseGlassModel" 256 yR5 m_M_again ws_M_again) := y_gV g_1066 g_1068 gs_41 g_6 g_1069
set_option maxHeartbeats 4000000 in
set_option maxRecDepth 100000 in
def f_M_seeded_L70 (F : Nat) (a0 : Option Nat) (a1 : Int32) (a3 : Int32) (a4 : Int32) (k : Mm → Option (Int32 × Mm)) : Nat → Mm → Int32 → Option (Int32 × Mm)
  | 0, _, _ => none
  | n + 1, u, a5 => ob (jgi YM 5 1 u a0) fun (x16 : Int32) => (if x16 ≤ a5 then k u  else ob (jgr YM 5 15 a0) fun (r18 : Option Nat) => ob (jk YM 5 a0) fun t => yb (f_M_draw F u t (6 : Int32)) fun x19 u20 => ob (jas YM u20 r18 a5 x19) fun (u21 : Mm) => ob (some (a5 + (1 : Int32))) fun (x22 : Int32) => f_M_seeded_L70 F a0 a1 a3 a4 k n u21 x22)
set_option maxHeartbeats 4000000 in
set_option maxRecDepth 100000 in
theorem w_M_seeded_L70 {p : Program} {l : Launch} {e : Env} {s : State} {m : MethodId} {args : Array Value} {below : List Frame} {meth : Method} {c : Code} {w : WP} {Q : State → Prop} (F : Nat) (C : yX p e ({ frames := 7, cells := 0, slots := 0, locals := 159 } : Room) s m args c YM w 6 prog_8_method_72_code "WhoseGlassModel") (hr : meth.sig.returnType = (some .int)) (hlocks : meth.locks = false) (a0 : Option Nat) (a1 : Int32) (a3 : Int32) (a4 : Int32) {out : Int32 × Mm} (k : Mm → Option (Int32 × Mm)) (hk : ∀ (u : Mm), k u  = some out → yG p l e ({ frames := 7, cells := 0, slots := 0, locals := 159 } : Room) s m args below meth c YM w 6 Q u 98 [(0, va_re w.1 a0), (1, .int a1), (3, .int a3), (4, .int a4)] []) : ∀ (n : Nat) (u : Mm) (a5 : Int32), f_M_seeded_L70 F a0 a1 a3 a4 k n u a5 = some out → yG p l e ({ frames := 7, cells := 0, slots := 0, locals := 159 } : Room) s m args below meth c YM w 6 Q u 70 [(0, va_re w.1 a0), (1, .int a1), (3, .int a3), (4, .int a4), (5, .int a5)] [] := by
  intro n
  induction n with
  | zero => intro u a5 h; rw [f_M_seeded_L70] at h; cases h
  | succ n ih =>
    intro u a5 h
    rw [f_M_seeded_L70] at h
    refine y_iload C (i := 5) 4 d_M_seeded_70 rfl ?_
    refine y_aload_n C (i := 0) 0 d_M_seeded_72 rfl rfl ?_
    refine y_gi C (q := (yR5, yT5, 46)) (ci := 5) (k := 1) rfl (by decide) rfl g_785 d_M_seeded_73 h (fun x16 h => ?_)
    refine y_ic_ge C 98 d_M_seeded_76 (by decide) h (fun k17 h => ?_) (fun k17 h => ?_)
    · exact y_sub [0, 1, 2, 3] rfl (hk _ h)
    · refine y_aload_n C (i := 0) 0 d_M_seeded_79 rfl rfl ?_
      refine y_gr C (q := (yR5, yT5, 46)) (ci := 5) (k := 15) rfl (by decide) rfl (by decide) g_799 d_M_seeded_80 h (fun r18 h => ?_)
      refine y_iload C (i := 5) 4 d_M_seeded_83 rfl ?_
      refine y_aload_n C (i := 0) 0 d_M_seeded_85 rfl rfl ?_
      refine y_bipush C (v := 6) d_M_seeded_86 (by decide) ?_
      refine y_callV 1 C (q := (yR5, yT5, 46)) (ci := 5) (fun t out hh => c_M_draw l w F u t (6 : Int32) out hh) gc_M_seeded_303 rfl (by decide) hd_M_draw ⟨Nat.le_of_ble_eq_true rfl, Nat.le_of_ble_eq_true rfl⟩ rfl rfl rfl rfl (by simp [y_cat, y_catI, y_catJ]) d_M_seeded_88 h (fun x19 u20 h => ?_)
      refine y_stk (stp0 := [.int x19, .int a5, va_re w.1 r18]) rfl ?_
      refine y_as C d_M_seeded_91 h (fun u21 h => ?_)
      refine y_iinc C (j := 4) (v := 1) (lvp := [(0, va_re w.1 a0), (1, .int a1), (3, .int a3), (4, .int a4)]) d_M_seeded_92 rfl (by decide) (by decide) rfl h (fun x22 h => ?_)
      refine y_goto C (tgt := 70) d_M_seeded_95 (by decide) ?_
      exact y_sub [1, 2, 3, 4, 0] rfl (ih _ _ h)
set_option maxHeartbeats 4000000 in
set_option maxRecDepth 100000 in
def f_M_seeded_L61 (F : Nat) (a0 : Option Nat) (a1 : Int32) (a3 : Int32) (k : Mm → Option (Int32 × Mm)) : Nat → Mm → Int32 → Option (Int32 × Mm)
  | 0, _, _ => none
  | n + 1, u, a4 => (if a1 ≤ a4 then k u  else f_M_seeded_L70 F a0 a1 a3 a4 (fun (u23 : Mm) => ob (jk YM 5 a0) fun t => yb (f_M_minuteOn F u23 t ) fun v24 u25 => ob (some (a4 + (1 : Int32))) fun (x26 : Int32) => f_M_seeded_L61 F a0 a1 a3 k n u25 x26) F u (0 : Int32))
set_option maxHeartbeats 4000000 in
set_option maxRecDepth 100000 in
theorem w_M_seeded_L61 {p : Program} {l : Launch} {e : Env} {s : State} {m : MethodId} {args : Array Value} {below : List Frame} {meth : Method} {c : Code} {w : WP} {Q : State → Prop} (F : Nat) (C : yX p e ({ frames := 7, cells := 0, slots := 0, locals := 159 } : Room) s m args c YM w 6 prog_8_method_72_code "WhoseGlassModel") (hr : meth.sig.returnType = (some .int)) (hlocks : meth.locks = false) (a0 : Option Nat) (a1 : Int32) (a3 : Int32) {out : Int32 × Mm} (k : Mm → Option (Int32 × Mm)) (hk : ∀ (u : Mm), k u  = some out → yG p l e ({ frames := 7, cells := 0, slots := 0, locals := 159 } : Room) s m args below meth c YM w 6 Q u 108 [(0, va_re w.1 a0), (3, .int a3)] []) : ∀ (n : Nat) (u : Mm) (a4 : Int32), f_M_seeded_L61 F a0 a1 a3 k n u a4 = some out → yG p l e ({ frames := 7, cells := 0, slots := 0, locals := 159 } : Room) s m args below meth c YM w 6 Q u 61 [(0, va_re w.1 a0), (1, .int a1), (3, .int a3), (4, .int a4)] [] := by
  intro n
  induction n with
  | zero => intro u a4 h; rw [f_M_seeded_L61] at h; cases h
  | succ n ih =>
    intro u a4 h
    rw [f_M_seeded_L61] at h
    refine y_iload C (i := 4) 3 d_M_seeded_61 rfl ?_
    refine y_iload_n C (i := 1) 1 d_M_seeded_63 rfl rfl ?_
    refine y_ic_ge C 108 d_M_seeded_64 (by decide) h (fun k15 h => ?_) (fun k15 h => ?_)
    · exact y_sub [0, 2] rfl (hk _ h)
    · refine y_iconst C (v := 0) d_M_seeded_67 (by decide) ?_
      refine y_istore C (i := 5) (lvp := [(0, va_re w.1 a0), (1, .int a1), (3, .int a3), (4, .int a4)]) d_M_seeded_68 (by decide) rfl ?_
      refine y_sub [1, 2, 3, 4, 0] rfl (w_M_seeded_L70 F C hr hlocks _ _ _ _ _ (fun u23 h => ?_) _ _ _ h)
      refine y_aload_n C (i := 0) 0 d_M_seeded_98 rfl rfl ?_
      refine y_callV 0 C (q := (yR5, yT5, 46)) (ci := 5) (fun t out hh => c_M_minuteOn l w F u23 t out hh) gc_M_seeded_193 rfl (by decide) hd_M_minuteOn ⟨Nat.le_of_ble_eq_true rfl, Nat.le_of_ble_eq_true rfl⟩ rfl rfl rfl rfl (by simp [y_cat, y_catI, y_catJ]) d_M_seeded_99 h (fun v24 u25 h => ?_)
      refine y_stk (stp0 := []) rfl ?_
      refine y_iinc C (j := 3) (v := 1) (lvp := [(0, va_re w.1 a0), (1, .int a1), (3, .int a3)]) d_M_seeded_102 rfl (by decide) (by decide) rfl h (fun x26 h => ?_)
      refine y_goto C (tgt := 61) d_M_seeded_105 (by decide) ?_
      exact y_sub [1, 2, 3, 0] rfl (ih _ _ h)
set_option maxRecDepth 100000 in
def f_M_seeded (F : Nat) (u : Mm) (o : Nat) (a1 : Int32) (a2 : Int32) (a3 : Int32) : Option (Int32 × Mm) := ob (jpi YM 5 23 u (some o) (0 : Int32)) fun (u1 : Mm) => yb (f_M_in F u1 (a1.toInt64) (1 : Int64) (30 : Int64)) fun x2 u3 => (if x2 = 0 then some ((-1 : Int32), u3) else yb (f_M_in F u3 (a3.toInt64) (0 : Int64) (1 : Int64)) fun x5 u6 => (if x5 = 0 then some ((-1 : Int32), u6) else ob (jgi YM 5 1 u6 (some o)) fun (x8 : Int32) => (if x8 = 0 then some ((-3 : Int32), u6) else ob (jk YM 5 (some o)) fun t => yb (f_M_open F u6 t ) fun v10 u11 => ob (jpi YM 5 38 u11 (some o) a2) fun (u12 : Mm) => ob (jpi YM 5 20 u12 (some o) (0 : Int32)) fun (u13 : Mm) => ob (jpi YM 5 21 u13 (some o) (0 : Int32)) fun (u14 : Mm) => f_M_seeded_L61 F (some o) a1 a3 (fun (u27 : Mm) => ob (jk YM 5 (some o)) fun t => yb (f_M_again F u27 t ) fun v28 u29 => (if a3 = 0 then ob (jgi YM 5 20 u29 (some o)) fun (x31 : Int32) => some (x31, u29) else ob (jgi YM 5 21 u29 (some o)) fun (x32 : Int32) => some (x32, u29))) F u14 (0 : Int32))))
set_option maxHeartbeats 4000000 in
set_option maxRecDepth 100000 in
theorem c_M_seeded (l : Launch) (w : WP) (F : Nat) (u : Mm) (o : Nat) (a1 : Int32) (a2 : Int32) (a3 : Int32) (out : Int32 × Mm) (h : f_M_seeded F u o a1 a2 a3 = some out) : yMet l m_M_seeded ws_M_seeded ({ frames := 7, cells := 0, slots := 0, locals := 159 } : Room) YM w u [va_re w.1 (some o), .int a1, .int a2, .int a3] yfi out := by
  refine y_entry (own := "WhoseGlassModel") (lv := [(0, va_re w.1 (some o)), (1, .int a1), (2, .int a2), (3, .int a3)]) (by decide +kernel) rfl (by simp [lv_args, y_cat, y_catI, y_catJ]) (by simp [lg_sl, y_cat, y_catI, y_catJ]) ?_
  intro p e s m args below meth c C hr hlocks
  unfold f_M_seeded at h
  refine y_aload_n C (i := 0) 0 d_M_seeded_0 rfl rfl ?_
  refine y_iconst C (v := 0) d_M_seeded_1 (by decide) ?_
  refine y_pi C (q := (yR5, yT5, 46)) (ci := 5) (k := 23) rfl (by decide) rfl rfl (by decide +kernel) g_807 d_M_seeded_2 h (fun u1 h => ?_)
  refine y_iload_n C (i := 1) 1 d_M_seeded_5 rfl rfl ?_
  refine y_i2l C d_M_seeded_6 ?_
  refine y_lconst C (v := 1) d_M_seeded_7 (by decide) ?_
  refine y_ldc2 C d_M_seeded_8 g_1216 ?_
  refine y_callS 3 C (fun out hh => c_M_in l w F u1 (a1.toInt64) (1 : Int64) (30 : Int64) out hh) (y_gc g_959) g_957 g_6 g_958 hn_M_in ⟨Nat.le_of_ble_eq_true rfl, Nat.le_of_ble_eq_true rfl⟩ rfl rfl rfl rfl (by simp [y_cat, y_catI, y_catJ]) d_M_seeded_11 h (fun x2 u3 h => ?_)
  refine y_stk (stp0 := [.int x2]) rfl ?_
  refine y_if_eq C 27 d_M_seeded_14 (by decide) h (fun k4 h => ?_) (fun k4 h => ?_)
  · refine y_iconst C (v := -1) d_M_seeded_27 (by decide) ?_
    exact y_iret C hr hlocks d_M_seeded_28 h
  · refine y_iload_n C (i := 3) 3 d_M_seeded_17 rfl rfl ?_
    refine y_i2l C d_M_seeded_18 ?_
    refine y_lconst C (v := 0) d_M_seeded_19 (by decide) ?_
    refine y_lconst C (v := 1) d_M_seeded_20 (by decide) ?_
    refine y_callS 3 C (fun out hh => c_M_in l w F u3 (a3.toInt64) (0 : Int64) (1 : Int64) out hh) (y_gc g_959) g_957 g_6 g_958 hn_M_in ⟨Nat.le_of_ble_eq_true rfl, Nat.le_of_ble_eq_true rfl⟩ rfl rfl rfl rfl (by simp [y_cat, y_catI, y_catJ]) d_M_seeded_21 h (fun x5 u6 h => ?_)
    refine y_stk (stp0 := [.int x5]) rfl ?_
    refine y_if_ne C 29 d_M_seeded_24 (by decide) h (fun k7 h => ?_) (fun k7 h => ?_)
    · refine y_iconst C (v := -1) d_M_seeded_27 (by decide) ?_
      exact y_iret C hr hlocks d_M_seeded_28 h
    · refine y_aload_n C (i := 0) 0 d_M_seeded_29 rfl rfl ?_
      refine y_gi C (q := (yR5, yT5, 46)) (ci := 5) (k := 1) rfl (by decide) rfl g_785 d_M_seeded_30 h (fun x8 h => ?_)
      refine y_if_ne C 39 d_M_seeded_33 (by decide) h (fun k9 h => ?_) (fun k9 h => ?_)
      · refine y_bipush C (v := -3) d_M_seeded_36 (by decide) ?_
        exact y_iret C hr hlocks d_M_seeded_38 h
      · refine y_aload_n C (i := 0) 0 d_M_seeded_39 rfl rfl ?_
        refine y_callV 0 C (q := (yR5, yT5, 46)) (ci := 5) (fun t out hh => c_M_open l w F u6 t out hh) gc_M_seeded_250 rfl (by decide) hd_M_open ⟨Nat.le_of_ble_eq_true rfl, Nat.le_of_ble_eq_true rfl⟩ rfl rfl rfl rfl (by simp [y_cat, y_catI, y_catJ]) d_M_seeded_40 h (fun v10 u11 h => ?_)
        refine y_stk (stp0 := []) rfl ?_
        refine y_aload_n C (i := 0) 0 d_M_seeded_43 rfl rfl ?_
        refine y_iload_n C (i := 2) 2 d_M_seeded_44 rfl rfl ?_
        refine y_pi C (q := (yR5, yT5, 46)) (ci := 5) (k := 38) rfl (by decide) rfl rfl (by decide +kernel) g_822 d_M_seeded_45 h (fun u12 h => ?_)
        refine y_aload_n C (i := 0) 0 d_M_seeded_48 rfl rfl ?_
        refine y_iconst C (v := 0) d_M_seeded_49 (by decide) ?_
        refine y_pi C (q := (yR5, yT5, 46)) (ci := 5) (k := 20) rfl (by decide) rfl rfl (by decide +kernel) g_804 d_M_seeded_50 h (fun u13 h => ?_)
        refine y_aload_n C (i := 0) 0 d_M_seeded_53 rfl rfl ?_
        refine y_iconst C (v := 0) d_M_seeded_54 (by decide) ?_
        refine y_pi C (q := (yR5, yT5, 46)) (ci := 5) (k := 21) rfl (by decide) rfl rfl (by decide +kernel) g_805 d_M_seeded_55 h (fun u14 h => ?_)
        refine y_iconst C (v := 0) d_M_seeded_58 (by decide) ?_
        refine y_istore C (i := 4) (lvp := [(0, va_re w.1 (some o)), (1, .int a1), (2, .int a2), (3, .int a3)]) d_M_seeded_59 (by decide) rfl ?_
        refine y_sub [1, 2, 4, 0] rfl (w_M_seeded_L61 F C hr hlocks _ _ _ _ (fun u27 h => ?_) _ _ _ h)
        refine y_aload_n C (i := 0) 0 d_M_seeded_108 rfl rfl ?_
        refine y_callV 0 C (q := (yR5, yT5, 46)) (ci := 5) (fun t out hh => c_M_again l w F u27 t out hh) gc_M_seeded_256 rfl (by decide) hd_M_again ⟨Nat.le_of_ble_eq_true rfl, Nat.le_of_ble_eq_true rfl⟩ rfl rfl rfl rfl (by simp [y_cat, y_catI, y_catJ]) d_M_seeded_109 h (fun v28 u29 h => ?_)
        refine y_stk (stp0 := []) rfl ?_
        refine y_iload_n C (i := 3) 1 d_M_seeded_112 rfl rfl ?_
        refine y_if_ne C 123 d_M_seeded_113 (by decide) h (fun k30 h => ?_) (fun k30 h => ?_)
        · refine y_aload_n C (i := 0) 0 d_M_seeded_116 rfl rfl ?_
          refine y_gi C (q := (yR5, yT5, 46)) (ci := 5) (k := 20) rfl (by decide) rfl g_804 d_M_seeded_117 h (fun x31 h => ?_)
          refine y_goto C (tgt := 127) d_M_seeded_120 (by decide) ?_
          exact y_iret C hr hlocks d_M_seeded_127 h
        · refine y_aload_n C (i := 0) 0 d_M_seeded_123 rfl rfl ?_
          refine y_gi C (q := (yR5, yT5, 46)) (ci := 5) (k := 21) rfl (by decide) rfl g_805 d_M_seeded_124 h (fun x32 h => ?_)
          exact y_iret C hr hlocks d_M_seeded_127 h
/-! M_skippedIn -/
theorem d_M_skippedIn_0 : decode prog_8_method_73_code 0 = .ok (.aload_n 0, 1) := by decide +kernel
theorem d_M_skippedIn_1 : decode prog_8_method_73_code 1 = .ok (.getfield 89, 3) := by decide +kernel
theorem d_M_skippedIn_4 : decode prog_8_method_73_code 4 = .ok (.iload_n 1, 1) := by decide +kernel
theorem d_M_skippedIn_5 : decode prog_8_method_73_code 5 = .ok (.iaload, 1) := by decide +kernel
theorem d_M_skippedIn_6 : decode prog_8_method_73_code 6 = .ok (.ifCond .ne 9, 3) := by decide +kernel
theorem d_M_skippedIn_9 : decode prog_8_method_73_code 9 = .ok (.ldc2_w 306, 3) := by decide +kernel
theorem d_M_skippedIn_12 : decode prog_8_method_73_code 12 = .ok (.goto 22, 3) := by decide +kernel
theorem d_M_skippedIn_15 : decode prog_8_method_73_code 15 = .ok (.aload_n 0, 1) := by decide +kernel
theorem d_M_skippedIn_16 : decode prog_8_method_73_code 16 = .ok (.getfield 89, 3) := by decide +kernel
theorem d_M_skippedIn_19 : decode prog_8_method_73_code 19 = .ok (.iload_n 1, 1) := by decide +kernel
theorem d_M_skippedIn_20 : decode prog_8_method_73_code 20 = .ok (.iaload, 1) := by decide +kernel
theorem d_M_skippedIn_21 : decode prog_8_method_73_code 21 = .ok (.iconst 1, 1) := by decide +kernel
theorem d_M_skippedIn_22 : decode prog_8_method_73_code 22 = .ok (.if_icmp .ne 9, 3) := by decide +kernel
theorem d_M_skippedIn_25 : decode prog_8_method_73_code 25 = .ok (.ldc2_w 308, 3) := by decide +kernel
theorem d_M_skippedIn_28 : decode prog_8_method_73_code 28 = .ok (.goto 6, 3) := by decide +kernel
theorem d_M_skippedIn_31 : decode prog_8_method_73_code 31 = .ok (.ldc2_w 310, 3) := by decide +kernel
theorem d_M_skippedIn_34 : decode prog_8_method_73_code 34 = .ok (.lreturn, 1) := by decide +kernel
set_option maxRecDepth 100000 in
def f_M_skippedIn (F : Nat) (u : Mm) (o : Nat) (a1 : Int32) : Option (Int64 × Mm) := ob (jgr YM 5 42 (some o)) fun (r1 : Option Nat) => ob (jal YM u r1 a1) fun (x2 : Int32) => (if x2 = 0 then some ((-128 : Int64), u) else ob (jgr YM 5 42 (some o)) fun (r4 : Option Nat) => ob (jal YM u r4 a1) fun (x5 : Int32) => (if x5 = (1 : Int32) then some ((-32768 : Int64), u) else some ((-2147483648 : Int64), u)))
set_option maxHeartbeats 4000000 in
set_option maxRecDepth 100000 in
theorem c_M_skippedIn (l : Launch) (w : WP) (F : Nat) (u : Mm) (o : Nat) (a1 : Int32) (out : Int64 × Mm) (h : f_M_skippedIn F u o a1 = some out) : yMet l m_M_skippedIn ws_M_skippedIn ({ frames := 0, cells := 0, slots := 0, locals := 0 } : Room) YM w u [va_re w.1 (some o), .int a1] yfl out := by
  refine y_entry (own := "WhoseGlassModel") (lv := [(0, va_re w.1 (some o)), (1, .int a1)]) (by decide +kernel) rfl (by simp [lv_args, y_cat, y_catI, y_catJ]) (by simp [lg_sl, y_cat, y_catI, y_catJ]) ?_
  intro p e s m args below meth c C hr hlocks
  unfold f_M_skippedIn at h
  refine y_aload_n C (i := 0) 0 d_M_skippedIn_0 rfl rfl ?_
  refine y_gr C (q := (yR5, yT5, 46)) (ci := 5) (k := 42) rfl (by decide) rfl (by decide) g_826 d_M_skippedIn_1 h (fun r1 h => ?_)
  refine y_iload_n C (i := 1) 1 d_M_skippedIn_4 rfl rfl ?_
  refine y_al C d_M_skippedIn_5 h (fun x2 h => ?_)
  refine y_if_ne C 15 d_M_skippedIn_6 (by decide) h (fun k3 h => ?_) (fun k3 h => ?_)
  · refine y_ldc2 C d_M_skippedIn_9 g_1232 ?_
    refine y_goto C (tgt := 34) d_M_skippedIn_12 (by decide) ?_
    exact y_lret C hr hlocks d_M_skippedIn_34 h
  · refine y_aload_n C (i := 0) 0 d_M_skippedIn_15 rfl rfl ?_
    refine y_gr C (q := (yR5, yT5, 46)) (ci := 5) (k := 42) rfl (by decide) rfl (by decide) g_826 d_M_skippedIn_16 h (fun r4 h => ?_)
    refine y_iload_n C (i := 1) 1 d_M_skippedIn_19 rfl rfl ?_
    refine y_al C d_M_skippedIn_20 h (fun x5 h => ?_)
    refine y_iconst C (v := 1) d_M_skippedIn_21 (by decide) ?_
    refine y_ic_ne C 31 d_M_skippedIn_22 (by decide) h (fun k6 h => ?_) (fun k6 h => ?_)
    · refine y_ldc2 C d_M_skippedIn_25 g_1233 ?_
      refine y_goto C (tgt := 34) d_M_skippedIn_28 (by decide) ?_
      exact y_lret C hr hlocks d_M_skippedIn_34 h
    · refine y_ldc2 C d_M_skippedIn_31 g_1234 ?_
      exact y_lret C hr hlocks d_M_skippedIn_34 h
/-! M_judge -/
theorem d_M_judge_0 : decode prog_8_method_74_code 0 = .ok (.aload_n 0, 1) := by decide +kernel
theorem d_M_judge_1 : decode prog_8_method_74_code 1 = .ok (.iconst 0, 1) := by decide +kernel
theorem d_M_judge_2 : decode prog_8_method_74_code 2 = .ok (.putfield 102, 3) := by decide +kernel
theorem d_M_judge_5 : decode prog_8_method_74_code 5 = .ok (.aload_n 0, 1) := by decide +kernel
theorem d_M_judge_6 : decode prog_8_method_74_code 6 = .ok (.iload_n 1, 1) := by decide +kernel
theorem d_M_judge_7 : decode prog_8_method_74_code 7 = .ok (.invokevirtual 232, 3) := by decide +kernel
theorem d_M_judge_10 : decode prog_8_method_74_code 10 = .ok (.ifCond .eq 11, 3) := by decide +kernel
theorem d_M_judge_13 : decode prog_8_method_74_code 13 = .ok (.aload_n 0, 1) := by decide +kernel
theorem d_M_judge_14 : decode prog_8_method_74_code 14 = .ok (.iload_n 2, 1) := by decide +kernel
theorem d_M_judge_15 : decode prog_8_method_74_code 15 = .ok (.invokevirtual 312, 3) := by decide +kernel
theorem d_M_judge_18 : decode prog_8_method_74_code 18 = .ok (.goto 4, 3) := by decide +kernel
theorem d_M_judge_21 : decode prog_8_method_74_code 21 = .ok (.iconst (-1), 1) := by decide +kernel
theorem d_M_judge_22 : decode prog_8_method_74_code 22 = .ok (.istore_n 3, 1) := by decide +kernel
theorem d_M_judge_23 : decode prog_8_method_74_code 23 = .ok (.iload_n 3, 1) := by decide +kernel
theorem d_M_judge_24 : decode prog_8_method_74_code 24 = .ok (.ifCond .ge 5, 3) := by decide +kernel
theorem d_M_judge_27 : decode prog_8_method_74_code 27 = .ok (.iload_n 3, 1) := by decide +kernel
theorem d_M_judge_28 : decode prog_8_method_74_code 28 = .ok (.ireturn, 1) := by decide +kernel
theorem d_M_judge_29 : decode prog_8_method_74_code 29 = .ok (.aload_n 0, 1) := by decide +kernel
theorem d_M_judge_30 : decode prog_8_method_74_code 30 = .ok (.invokevirtual 250, 3) := by decide +kernel
theorem d_M_judge_33 : decode prog_8_method_74_code 33 = .ok (.bipush (-4), 2) := by decide +kernel
theorem d_M_judge_35 : decode prog_8_method_74_code 35 = .ok (.istore 4, 2) := by decide +kernel
theorem d_M_judge_37 : decode prog_8_method_74_code 37 = .ok (.iconst 0, 1) := by decide +kernel
theorem d_M_judge_38 : decode prog_8_method_74_code 38 = .ok (.istore 5, 2) := by decide +kernel
theorem d_M_judge_40 : decode prog_8_method_74_code 40 = .ok (.iload 5, 2) := by decide +kernel
theorem d_M_judge_42 : decode prog_8_method_74_code 42 = .ok (.aload_n 0, 1) := by decide +kernel
theorem d_M_judge_43 : decode prog_8_method_74_code 43 = .ok (.getfield 92, 3) := by decide +kernel
theorem d_M_judge_46 : decode prog_8_method_74_code 46 = .ok (.iload_n 2, 1) := by decide +kernel
theorem d_M_judge_47 : decode prog_8_method_74_code 47 = .ok (.iaload, 1) := by decide +kernel
theorem d_M_judge_48 : decode prog_8_method_74_code 48 = .ok (.if_icmp .ge 65, 3) := by decide +kernel
theorem d_M_judge_51 : decode prog_8_method_74_code 51 = .ok (.iload 4, 2) := by decide +kernel
theorem d_M_judge_53 : decode prog_8_method_74_code 53 = .ok (.ifCond .ge 60, 3) := by decide +kernel
theorem d_M_judge_56 : decode prog_8_method_74_code 56 = .ok (.aload_n 0, 1) := by decide +kernel
theorem d_M_judge_57 : decode prog_8_method_74_code 57 = .ok (.getfield 95, 3) := by decide +kernel
theorem d_M_judge_60 : decode prog_8_method_74_code 60 = .ok (.bipush 100, 2) := by decide +kernel
theorem d_M_judge_62 : decode prog_8_method_74_code 62 = .ok (.iload_n 2, 1) := by decide +kernel
theorem d_M_judge_63 : decode prog_8_method_74_code 63 = .ok (.imul, 1) := by decide +kernel
theorem d_M_judge_64 : decode prog_8_method_74_code 64 = .ok (.iload 5, 2) := by decide +kernel
theorem d_M_judge_66 : decode prog_8_method_74_code 66 = .ok (.iadd, 1) := by decide +kernel
theorem d_M_judge_67 : decode prog_8_method_74_code 67 = .ok (.laload, 1) := by decide +kernel
theorem d_M_judge_68 : decode prog_8_method_74_code 68 = .ok (.lstore 6, 2) := by decide +kernel
theorem d_M_judge_70 : decode prog_8_method_74_code 70 = .ok (.lload 6, 2) := by decide +kernel
theorem d_M_judge_72 : decode prog_8_method_74_code 72 = .ok (.aload_n 0, 1) := by decide +kernel
theorem d_M_judge_73 : decode prog_8_method_74_code 73 = .ok (.iload_n 2, 1) := by decide +kernel
theorem d_M_judge_74 : decode prog_8_method_74_code 74 = .ok (.invokevirtual 315, 3) := by decide +kernel
theorem d_M_judge_77 : decode prog_8_method_74_code 77 = .ok (.lcmp, 1) := by decide +kernel
theorem d_M_judge_78 : decode prog_8_method_74_code 78 = .ok (.ifCond .eq 21, 3) := by decide +kernel
theorem d_M_judge_81 : decode prog_8_method_74_code 81 = .ok (.lload 6, 2) := by decide +kernel
theorem d_M_judge_83 : decode prog_8_method_74_code 83 = .ok (.aload_n 0, 1) := by decide +kernel
theorem d_M_judge_84 : decode prog_8_method_74_code 84 = .ok (.getfield 23, 3) := by decide +kernel
theorem d_M_judge_87 : decode prog_8_method_74_code 87 = .ok (.iload_n 1, 1) := by decide +kernel
theorem d_M_judge_88 : decode prog_8_method_74_code 88 = .ok (.iaload, 1) := by decide +kernel
theorem d_M_judge_89 : decode prog_8_method_74_code 89 = .ok (.i2l, 1) := by decide +kernel
theorem d_M_judge_90 : decode prog_8_method_74_code 90 = .ok (.lcmp, 1) := by decide +kernel
theorem d_M_judge_91 : decode prog_8_method_74_code 91 = .ok (.ifCond .eq 8, 3) := by decide +kernel
theorem d_M_judge_94 : decode prog_8_method_74_code 94 = .ok (.iload 5, 2) := by decide +kernel
theorem d_M_judge_96 : decode prog_8_method_74_code 96 = .ok (.goto 5, 3) := by decide +kernel
theorem d_M_judge_99 : decode prog_8_method_74_code 99 = .ok (.bipush (-4), 2) := by decide +kernel
theorem d_M_judge_101 : decode prog_8_method_74_code 101 = .ok (.istore 4, 2) := by decide +kernel
theorem d_M_judge_103 : decode prog_8_method_74_code 103 = .ok (.aload_n 0, 1) := by decide +kernel
theorem d_M_judge_104 : decode prog_8_method_74_code 104 = .ok (.invokevirtual 193, 3) := by decide +kernel
theorem d_M_judge_107 : decode prog_8_method_74_code 107 = .ok (.iinc 5 1, 3) := by decide +kernel
theorem d_M_judge_110 : decode prog_8_method_74_code 110 = .ok (.goto (-70), 3) := by decide +kernel
theorem d_M_judge_113 : decode prog_8_method_74_code 113 = .ok (.aload_n 0, 1) := by decide +kernel
theorem d_M_judge_114 : decode prog_8_method_74_code 114 = .ok (.invokevirtual 256, 3) := by decide +kernel
theorem d_M_judge_117 : decode prog_8_method_74_code 117 = .ok (.iload 4, 2) := by decide +kernel
theorem d_M_judge_119 : decode prog_8_method_74_code 119 = .ok (.ireturn, 1) := by decide +kernel
theorem gc_M_judge_232 : GoodIn yGW (wsV "WhoseGlassModel" 232 yR5 m_M_isGlass ws_M_isGlass) := y_gV g_1006 g_1008 gs_26 g_6 g_1009
theorem gc_M_judge_312 : GoodIn yGW (wsV "WhoseGlassModel" 312 yR5 m_M_wrongRow ws_M_wrongRow) := y_gV g_952 g_954 gs_14 g_6 g_955
theorem gc_M_judge_250 : GoodIn yGW (wsV "WhoseGlassModel" 250 yR5 m_M_open ws_M_open) := y_gV g_978 g_980 gs_19 g_6 g_981
theorem gc_M_judge_315 : GoodIn yGW (wsV "WhoseGlassModel" 315 yR5 m_M_skippedIn ws_M_skippedIn) := y_gV g_1228 g_1230 gs_49 g_6 g_1231
theorem gc_M_judge_193 : GoodIn yGW (wsV "WhoseGlassModel" 193 yR5 m_M_minuteOn ws_M_minuteOn) := y_gV g_1014 g_1016 gs_28 g_6 g_1017
theorem gc_M_judge_256 : GoodIn yGW (wsV "WhoseGlassModel" 256 yR5 m_M_again ws_M_again) := y_gV g_1066 g_1068 gs_41 g_6 g_1069
set_option maxHeartbeats 4000000 in
set_option maxRecDepth 100000 in
def f_M_judge_L40 (F : Nat) (a0 : Option Nat) (a1 : Int32) (a2 : Int32) (k : Mm → Int32 → Option (Int32 × Mm)) : Nat → Mm → Int32 → Int32 → Option (Int32 × Mm)
  | 0, _, _, _ => none
  | n + 1, u, a4, a5 => ob (jgr YM 5 43 a0) fun (r11 : Option Nat) => ob (jal YM u r11 a2) fun (x12 : Int32) => (if x12 ≤ a5 then k u a4 else (if 0 ≤ a4 then k u a4 else ob (jgr YM 5 44 a0) fun (r15 : Option Nat) => ob (jll YM u r15 (((100 : Int32) * a2) + a5)) fun (z16 : Int64) => ob (jk YM 5 a0) fun t => yb (f_M_skippedIn F u t a2) fun z17 u18 => ob ((if (lg_cmp z16 z17) = 0 then some (-4 : Int32) else ob (jgr YM 5 7 a0) fun (r21 : Option Nat) => ob (jal YM u18 r21 a1) fun (x22 : Int32) => (if (lg_cmp z16 (x22.toInt64)) = 0 then some (-4 : Int32) else some a5)) : Option (Int32)) fun q19 => ob (jk YM 5 a0) fun t => yb (f_M_minuteOn F u18 t ) fun v24 u25 => ob (some (a5 + (1 : Int32))) fun (x26 : Int32) => f_M_judge_L40 F a0 a1 a2 k n u25 q19 x26))
set_option maxHeartbeats 4000000 in
set_option maxRecDepth 100000 in
theorem w_M_judge_L40 {p : Program} {l : Launch} {e : Env} {s : State} {m : MethodId} {args : Array Value} {below : List Frame} {meth : Method} {c : Code} {w : WP} {Q : State → Prop} (F : Nat) (C : yX p e ({ frames := 7, cells := 0, slots := 0, locals := 159 } : Room) s m args c YM w 8 prog_8_method_74_code "WhoseGlassModel") (hr : meth.sig.returnType = (some .int)) (hlocks : meth.locks = false) (a0 : Option Nat) (a1 : Int32) (a2 : Int32) {out : Int32 × Mm} (k : Mm → Int32 → Option (Int32 × Mm)) (hk : ∀ (u : Mm) (a4 : Int32), k u a4 = some out → yG p l e ({ frames := 7, cells := 0, slots := 0, locals := 159 } : Room) s m args below meth c YM w 8 Q u 113 [(0, va_re w.1 a0), (4, .int a4)] []) : ∀ (n : Nat) (u : Mm) (a4 : Int32) (a5 : Int32), f_M_judge_L40 F a0 a1 a2 k n u a4 a5 = some out → yG p l e ({ frames := 7, cells := 0, slots := 0, locals := 159 } : Room) s m args below meth c YM w 8 Q u 40 [(0, va_re w.1 a0), (1, .int a1), (2, .int a2), (4, .int a4), (5, .int a5)] [] := by
  intro n
  induction n with
  | zero => intro u a4 a5 h; rw [f_M_judge_L40] at h; cases h
  | succ n ih =>
    intro u a4 a5 h
    rw [f_M_judge_L40] at h
    refine y_iload C (i := 5) 4 d_M_judge_40 rfl ?_
    refine y_aload_n C (i := 0) 0 d_M_judge_42 rfl rfl ?_
    refine y_gr C (q := (yR5, yT5, 46)) (ci := 5) (k := 43) rfl (by decide) rfl (by decide) g_827 d_M_judge_43 h (fun r11 h => ?_)
    refine y_iload_n C (i := 2) 2 d_M_judge_46 rfl rfl ?_
    refine y_al C d_M_judge_47 h (fun x12 h => ?_)
    refine y_ic_ge C 113 d_M_judge_48 (by decide) h (fun k13 h => ?_) (fun k13 h => ?_)
    · exact y_sub [0, 3] rfl (hk _ _ h)
    · refine y_iload C (i := 4) 3 d_M_judge_51 rfl ?_
      refine y_if_ge C 113 d_M_judge_53 (by decide) h (fun k14 h => ?_) (fun k14 h => ?_)
      · exact y_sub [0, 3] rfl (hk _ _ h)
      · refine y_aload_n C (i := 0) 0 d_M_judge_56 rfl rfl ?_
        refine y_gr C (q := (yR5, yT5, 46)) (ci := 5) (k := 44) rfl (by decide) rfl (by decide) g_828 d_M_judge_57 h (fun r15 h => ?_)
        refine y_bipush C (v := 100) d_M_judge_60 (by decide) ?_
        refine y_iload_n C (i := 2) 2 d_M_judge_62 rfl rfl ?_
        refine y_imul C d_M_judge_63 ?_
        refine y_iload C (i := 5) 4 d_M_judge_64 rfl ?_
        refine y_iadd C d_M_judge_66 ?_
        refine y_ll C d_M_judge_67 h (fun z16 h => ?_)
        refine y_lstore C (i := 6) (lvp := [(0, va_re w.1 a0), (1, .int a1), (2, .int a2), (4, .int a4), (5, .int a5)]) d_M_judge_68 (by decide) rfl ?_
        refine y_lload C (i := 6) 0 d_M_judge_70 rfl ?_
        refine y_aload_n C (i := 0) 1 d_M_judge_72 rfl rfl ?_
        refine y_iload_n C (i := 2) 3 d_M_judge_73 rfl rfl ?_
        refine y_callV 1 C (q := (yR5, yT5, 46)) (ci := 5) (fun t out hh => c_M_skippedIn l w F u t a2 out hh) gc_M_judge_315 rfl (by decide) hd_M_skippedIn ⟨Nat.le_of_ble_eq_true rfl, Nat.le_of_ble_eq_true rfl⟩ rfl rfl rfl rfl (by simp [y_cat, y_catI, y_catJ]) d_M_judge_74 h (fun z17 u18 h => ?_)
        refine y_stk (stp0 := [.long z17, .long z16]) rfl ?_
        refine y_lcmp C d_M_judge_77 ?_
        obtain ⟨q19, hq19, h⟩ := ob_e h
        have hJq19 : yG p l e ({ frames := 7, cells := 0, slots := 0, locals := 159 } : Room) s m args below meth c YM w 8 Q u18 101 [(0, va_re w.1 a0), (1, .int a1), (2, .int a2), (5, .int a5)] [.int q19] := by
          refine y_istore C (i := 4) (lvp := [(0, va_re w.1 a0), (1, .int a1), (2, .int a2), (5, .int a5)]) d_M_judge_101 (by decide) rfl ?_
          refine y_aload_n C (i := 0) 1 d_M_judge_103 rfl rfl ?_
          refine y_callV 0 C (q := (yR5, yT5, 46)) (ci := 5) (fun t out hh => c_M_minuteOn l w F u18 t out hh) gc_M_judge_193 rfl (by decide) hd_M_minuteOn ⟨Nat.le_of_ble_eq_true rfl, Nat.le_of_ble_eq_true rfl⟩ rfl rfl rfl rfl (by simp [y_cat, y_catI, y_catJ]) d_M_judge_104 h (fun v24 u25 h => ?_)
          refine y_stk (stp0 := []) rfl ?_
          refine y_iinc C (j := 4) (v := 1) (lvp := [(4, .int q19), (0, va_re w.1 a0), (1, .int a1), (2, .int a2)]) d_M_judge_107 rfl (by decide) (by decide) rfl h (fun x26 h => ?_)
          refine y_goto C (tgt := 40) d_M_judge_110 (by decide) ?_
          exact y_sub [2, 3, 4, 1, 0] rfl (ih _ _ _ h)
        refine y_if_eq C 99 d_M_judge_78 (by decide) hq19 (fun k20 hq19 => ?_) (fun k20 hq19 => ?_)
        · refine y_bipush C (v := -4) d_M_judge_99 (by decide) ?_
          cases hq19
          exact y_sub [1, 2, 3, 5] rfl hJq19
        · refine y_lload C (i := 6) 0 d_M_judge_81 rfl ?_
          refine y_aload_n C (i := 0) 1 d_M_judge_83 rfl rfl ?_
          refine y_gr C (q := (yR5, yT5, 46)) (ci := 5) (k := 7) rfl (by decide) rfl (by decide) g_791 d_M_judge_84 hq19 (fun r21 hq19 => ?_)
          refine y_iload_n C (i := 1) 2 d_M_judge_87 rfl rfl ?_
          refine y_al C d_M_judge_88 hq19 (fun x22 hq19 => ?_)
          refine y_i2l C d_M_judge_89 ?_
          refine y_lcmp C d_M_judge_90 ?_
          refine y_if_eq C 99 d_M_judge_91 (by decide) hq19 (fun k23 hq19 => ?_) (fun k23 hq19 => ?_)
          · refine y_bipush C (v := -4) d_M_judge_99 (by decide) ?_
            cases hq19
            exact y_sub [1, 2, 3, 5] rfl hJq19
          · refine y_iload C (i := 5) 5 d_M_judge_94 rfl ?_
            refine y_goto C (tgt := 101) d_M_judge_96 (by decide) ?_
            cases hq19
            exact y_sub [1, 2, 3, 5] rfl hJq19
set_option maxRecDepth 100000 in
def f_M_judge (F : Nat) (u : Mm) (o : Nat) (a1 : Int32) (a2 : Int32) : Option (Int32 × Mm) := ob (jpi YM 5 23 u (some o) (0 : Int32)) fun (u1 : Mm) => ob (jk YM 5 (some o)) fun t => yb (f_M_isGlass F u1 t a1) fun x2 u3 => ob ((if x2 = 0 then some ((-1 : Int32), u3) else ob (jk YM 5 (some o)) fun t => yb (f_M_wrongRow F u3 t a2) fun x6 u7 => some (x6, u7)) : Option (Int32 × Mm)) fun q4 => (if 0 ≤ q4.1 then ob (jk YM 5 (some o)) fun t => yb (f_M_open F q4.2 t ) fun v9 u10 => f_M_judge_L40 F (some o) a1 a2 (fun (u27 : Mm) (x28 : Int32) => ob (jk YM 5 (some o)) fun t => yb (f_M_again F u27 t ) fun v29 u30 => some (x28, u30)) F u10 (-4 : Int32) (0 : Int32) else some (q4.1, q4.2))
set_option maxHeartbeats 4000000 in
set_option maxRecDepth 100000 in
theorem c_M_judge (l : Launch) (w : WP) (F : Nat) (u : Mm) (o : Nat) (a1 : Int32) (a2 : Int32) (out : Int32 × Mm) (h : f_M_judge F u o a1 a2 = some out) : yMet l m_M_judge ws_M_judge ({ frames := 7, cells := 0, slots := 0, locals := 159 } : Room) YM w u [va_re w.1 (some o), .int a1, .int a2] yfi out := by
  refine y_entry (own := "WhoseGlassModel") (lv := [(0, va_re w.1 (some o)), (1, .int a1), (2, .int a2)]) (by decide +kernel) rfl (by simp [lv_args, y_cat, y_catI, y_catJ]) (by simp [lg_sl, y_cat, y_catI, y_catJ]) ?_
  intro p e s m args below meth c C hr hlocks
  unfold f_M_judge at h
  refine y_aload_n C (i := 0) 0 d_M_judge_0 rfl rfl ?_
  refine y_iconst C (v := 0) d_M_judge_1 (by decide) ?_
  refine y_pi C (q := (yR5, yT5, 46)) (ci := 5) (k := 23) rfl (by decide) rfl rfl (by decide +kernel) g_807 d_M_judge_2 h (fun u1 h => ?_)
  refine y_aload_n C (i := 0) 0 d_M_judge_5 rfl rfl ?_
  refine y_iload_n C (i := 1) 1 d_M_judge_6 rfl rfl ?_
  refine y_callV 1 C (q := (yR5, yT5, 46)) (ci := 5) (fun t out hh => c_M_isGlass l w F u1 t a1 out hh) gc_M_judge_232 rfl (by decide) hd_M_isGlass ⟨Nat.le_of_ble_eq_true rfl, Nat.le_of_ble_eq_true rfl⟩ rfl rfl rfl rfl (by simp [y_cat, y_catI, y_catJ]) d_M_judge_7 h (fun x2 u3 h => ?_)
  refine y_stk (stp0 := [.int x2]) rfl ?_
  obtain ⟨q4, hq4, h⟩ := ob_e h
  have hJq4 : yG p l e ({ frames := 7, cells := 0, slots := 0, locals := 159 } : Room) s m args below meth c YM w 8 (MQ below (yQ YM w yfi out) args s 0 0 (yA YM w)) q4.2 22 [(0, va_re w.1 (some o)), (1, .int a1), (2, .int a2)] [.int q4.1] := by
    refine y_istore_n C (i := 3) (lvp := [(0, va_re w.1 (some o)), (1, .int a1), (2, .int a2)]) d_M_judge_22 rfl (by decide) rfl ?_
    refine y_iload_n C (i := 3) 0 d_M_judge_23 rfl rfl ?_
    refine y_if_ge C 29 d_M_judge_24 (by decide) h (fun k8 h => ?_) (fun k8 h => ?_)
    · refine y_aload_n C (i := 0) 1 d_M_judge_29 rfl rfl ?_
      refine y_callV 0 C (q := (yR5, yT5, 46)) (ci := 5) (fun t out hh => c_M_open l w F q4.2 t out hh) gc_M_judge_250 rfl (by decide) hd_M_open ⟨Nat.le_of_ble_eq_true rfl, Nat.le_of_ble_eq_true rfl⟩ rfl rfl rfl rfl (by simp [y_cat, y_catI, y_catJ]) d_M_judge_30 h (fun v9 u10 h => ?_)
      refine y_stk (stp0 := []) rfl ?_
      refine y_bipush C (v := -4) d_M_judge_33 (by decide) ?_
      refine y_istore C (i := 4) (lvp := [(3, .int q4.1), (0, va_re w.1 (some o)), (1, .int a1), (2, .int a2)]) d_M_judge_35 (by decide) rfl ?_
      refine y_iconst C (v := 0) d_M_judge_37 (by decide) ?_
      refine y_istore C (i := 5) (lvp := [(4, .int (-4 : Int32)), (3, .int q4.1), (0, va_re w.1 (some o)), (1, .int a1), (2, .int a2)]) d_M_judge_38 (by decide) rfl ?_
      refine y_sub [3, 4, 5, 1, 0] rfl (w_M_judge_L40 F C hr hlocks _ _ _ _ (fun u27 x28 h => ?_) _ _ _ _ h)
      refine y_aload_n C (i := 0) 0 d_M_judge_113 rfl rfl ?_
      refine y_callV 0 C (q := (yR5, yT5, 46)) (ci := 5) (fun t out hh => c_M_again l w F u27 t out hh) gc_M_judge_256 rfl (by decide) hd_M_again ⟨Nat.le_of_ble_eq_true rfl, Nat.le_of_ble_eq_true rfl⟩ rfl rfl rfl rfl (by simp [y_cat, y_catI, y_catJ]) d_M_judge_114 h (fun v29 u30 h => ?_)
      refine y_stk (stp0 := []) rfl ?_
      refine y_iload C (i := 4) 1 d_M_judge_117 rfl ?_
      exact y_iret C hr hlocks d_M_judge_119 h
    · refine y_iload_n C (i := 3) 0 d_M_judge_27 rfl rfl ?_
      exact y_iret C hr hlocks d_M_judge_28 h
  refine y_if_eq C 21 d_M_judge_10 (by decide) hq4 (fun k5 hq4 => ?_) (fun k5 hq4 => ?_)
  · refine y_iconst C (v := -1) d_M_judge_21 (by decide) ?_
    cases hq4
    exact y_sub [0, 1, 2] rfl hJq4
  · refine y_aload_n C (i := 0) 0 d_M_judge_13 rfl rfl ?_
    refine y_iload_n C (i := 2) 2 d_M_judge_14 rfl rfl ?_
    refine y_callV 1 C (q := (yR5, yT5, 46)) (ci := 5) (fun t out hh => c_M_wrongRow l w F u3 t a2 out hh) gc_M_judge_312 rfl (by decide) hd_M_wrongRow ⟨Nat.le_of_ble_eq_true rfl, Nat.le_of_ble_eq_true rfl⟩ rfl rfl rfl rfl (by simp [y_cat, y_catI, y_catJ]) d_M_judge_15 hq4 (fun x6 u7 hq4 => ?_)
    refine y_stk (stp0 := [.int x6]) rfl ?_
    refine y_goto C (tgt := 22) d_M_judge_18 (by decide) ?_
    cases hq4
    exact y_sub [0, 1, 2] rfl hJq4
/-! M_count -/
theorem d_M_count_0 : decode prog_8_method_75_code 0 = .ok (.aload_n 0, 1) := by decide +kernel
theorem d_M_count_1 : decode prog_8_method_75_code 1 = .ok (.iconst 0, 1) := by decide +kernel
theorem d_M_count_2 : decode prog_8_method_75_code 2 = .ok (.putfield 102, 3) := by decide +kernel
theorem d_M_count_5 : decode prog_8_method_75_code 5 = .ok (.iconst 0, 1) := by decide +kernel
theorem d_M_count_6 : decode prog_8_method_75_code 6 = .ok (.istore_n 2, 1) := by decide +kernel
theorem d_M_count_7 : decode prog_8_method_75_code 7 = .ok (.iconst 0, 1) := by decide +kernel
theorem d_M_count_8 : decode prog_8_method_75_code 8 = .ok (.istore_n 3, 1) := by decide +kernel
theorem d_M_count_9 : decode prog_8_method_75_code 9 = .ok (.iconst 0, 1) := by decide +kernel
theorem d_M_count_10 : decode prog_8_method_75_code 10 = .ok (.istore 4, 2) := by decide +kernel
theorem d_M_count_12 : decode prog_8_method_75_code 12 = .ok (.iload 4, 2) := by decide +kernel
theorem d_M_count_14 : decode prog_8_method_75_code 14 = .ok (.aload_n 0, 1) := by decide +kernel
theorem d_M_count_15 : decode prog_8_method_75_code 15 = .ok (.getfield 105, 3) := by decide +kernel
theorem d_M_count_18 : decode prog_8_method_75_code 18 = .ok (.if_icmp .ge 39, 3) := by decide +kernel
theorem d_M_count_21 : decode prog_8_method_75_code 21 = .ok (.iload_n 2, 1) := by decide +kernel
theorem d_M_count_22 : decode prog_8_method_75_code 22 = .ok (.aload_n 0, 1) := by decide +kernel
theorem d_M_count_23 : decode prog_8_method_75_code 23 = .ok (.getfield 20, 3) := by decide +kernel
theorem d_M_count_26 : decode prog_8_method_75_code 26 = .ok (.iload 4, 2) := by decide +kernel
theorem d_M_count_28 : decode prog_8_method_75_code 28 = .ok (.iaload, 1) := by decide +kernel
theorem d_M_count_29 : decode prog_8_method_75_code 29 = .ok (.iadd, 1) := by decide +kernel
theorem d_M_count_30 : decode prog_8_method_75_code 30 = .ok (.istore_n 2, 1) := by decide +kernel
theorem d_M_count_31 : decode prog_8_method_75_code 31 = .ok (.iload_n 3, 1) := by decide +kernel
theorem d_M_count_32 : decode prog_8_method_75_code 32 = .ok (.aload_n 0, 1) := by decide +kernel
theorem d_M_count_33 : decode prog_8_method_75_code 33 = .ok (.getfield 23, 3) := by decide +kernel
theorem d_M_count_36 : decode prog_8_method_75_code 36 = .ok (.iload 4, 2) := by decide +kernel
theorem d_M_count_38 : decode prog_8_method_75_code 38 = .ok (.iaload, 1) := by decide +kernel
theorem d_M_count_39 : decode prog_8_method_75_code 39 = .ok (.bipush 20, 2) := by decide +kernel
theorem d_M_count_41 : decode prog_8_method_75_code 41 = .ok (.if_icmp .ne 7, 3) := by decide +kernel
theorem d_M_count_44 : decode prog_8_method_75_code 44 = .ok (.iconst 1, 1) := by decide +kernel
theorem d_M_count_45 : decode prog_8_method_75_code 45 = .ok (.goto 4, 3) := by decide +kernel
theorem d_M_count_48 : decode prog_8_method_75_code 48 = .ok (.iconst 0, 1) := by decide +kernel
theorem d_M_count_49 : decode prog_8_method_75_code 49 = .ok (.iadd, 1) := by decide +kernel
theorem d_M_count_50 : decode prog_8_method_75_code 50 = .ok (.istore_n 3, 1) := by decide +kernel
theorem d_M_count_51 : decode prog_8_method_75_code 51 = .ok (.iinc 4 1, 3) := by decide +kernel
theorem d_M_count_54 : decode prog_8_method_75_code 54 = .ok (.goto (-42), 3) := by decide +kernel
theorem d_M_count_57 : decode prog_8_method_75_code 57 = .ok (.iload_n 1, 1) := by decide +kernel
theorem d_M_count_58 : decode prog_8_method_75_code 58 = .ok (.tableswitch 71 0 6 #[42, 47, 52, 57, 62, 64, 69], 42) := by decide +kernel
theorem d_M_count_100 : decode prog_8_method_75_code 100 = .ok (.aload_n 0, 1) := by decide +kernel
theorem d_M_count_101 : decode prog_8_method_75_code 101 = .ok (.getfield 105, 3) := by decide +kernel
theorem d_M_count_104 : decode prog_8_method_75_code 104 = .ok (.ireturn, 1) := by decide +kernel
theorem d_M_count_105 : decode prog_8_method_75_code 105 = .ok (.aload_n 0, 1) := by decide +kernel
theorem d_M_count_106 : decode prog_8_method_75_code 106 = .ok (.getfield 112, 3) := by decide +kernel
theorem d_M_count_109 : decode prog_8_method_75_code 109 = .ok (.ireturn, 1) := by decide +kernel
theorem d_M_count_110 : decode prog_8_method_75_code 110 = .ok (.aload_n 0, 1) := by decide +kernel
theorem d_M_count_111 : decode prog_8_method_75_code 111 = .ok (.getfield 7, 3) := by decide +kernel
theorem d_M_count_114 : decode prog_8_method_75_code 114 = .ok (.ireturn, 1) := by decide +kernel
theorem d_M_count_115 : decode prog_8_method_75_code 115 = .ok (.aload_n 0, 1) := by decide +kernel
theorem d_M_count_116 : decode prog_8_method_75_code 116 = .ok (.getfield 133, 3) := by decide +kernel
theorem d_M_count_119 : decode prog_8_method_75_code 119 = .ok (.ireturn, 1) := by decide +kernel
theorem d_M_count_120 : decode prog_8_method_75_code 120 = .ok (.iload_n 2, 1) := by decide +kernel
theorem d_M_count_121 : decode prog_8_method_75_code 121 = .ok (.ireturn, 1) := by decide +kernel
theorem d_M_count_122 : decode prog_8_method_75_code 122 = .ok (.aload_n 0, 1) := by decide +kernel
theorem d_M_count_123 : decode prog_8_method_75_code 123 = .ok (.invokevirtual 285, 3) := by decide +kernel
theorem d_M_count_126 : decode prog_8_method_75_code 126 = .ok (.ireturn, 1) := by decide +kernel
theorem d_M_count_127 : decode prog_8_method_75_code 127 = .ok (.iload_n 3, 1) := by decide +kernel
theorem d_M_count_128 : decode prog_8_method_75_code 128 = .ok (.ireturn, 1) := by decide +kernel
theorem d_M_count_129 : decode prog_8_method_75_code 129 = .ok (.iconst (-1), 1) := by decide +kernel
theorem d_M_count_130 : decode prog_8_method_75_code 130 = .ok (.ireturn, 1) := by decide +kernel
theorem gc_M_count_285 : GoodIn yGW (wsV "WhoseGlassModel" 285 yR5 m_M_coldBits ws_M_coldBits) := y_gV g_1168 g_1170 gs_45 g_6 g_1171
set_option maxHeartbeats 4000000 in
set_option maxRecDepth 100000 in
def f_M_count_L12 (F : Nat) (a0 : Option Nat) (a1 : Int32) (k : Mm → Int32 → Int32 → Option (Int32 × Mm)) : Nat → Mm → Int32 → Int32 → Int32 → Option (Int32 × Mm)
  | 0, _, _, _, _ => none
  | n + 1, u, a2, a3, a4 => ob (jgi YM 5 0 u a0) fun (x2 : Int32) => (if x2 ≤ a4 then k u a2 a3 else ob (jgr YM 5 6 a0) fun (r4 : Option Nat) => ob (jal YM u r4 a4) fun (x5 : Int32) => ob (some (a2 + x5)) fun (x6 : Int32) => ob (jgr YM 5 7 a0) fun (r7 : Option Nat) => ob (jal YM u r7 a4) fun (x8 : Int32) => ob ((if x8 = (20 : Int32) then some (1 : Int32) else some (0 : Int32)) : Option (Int32)) fun q9 => ob (some (a3 + q9)) fun (x11 : Int32) => ob (some (a4 + (1 : Int32))) fun (x12 : Int32) => f_M_count_L12 F a0 a1 k n u x6 x11 x12)
set_option maxHeartbeats 4000000 in
set_option maxRecDepth 100000 in
theorem w_M_count_L12 {p : Program} {l : Launch} {e : Env} {s : State} {m : MethodId} {args : Array Value} {below : List Frame} {meth : Method} {c : Code} {w : WP} {Q : State → Prop} (F : Nat) (C : yX p e ({ frames := 1, cells := 0, slots := 0, locals := 22 } : Room) s m args c YM w 5 prog_8_method_75_code "WhoseGlassModel") (hr : meth.sig.returnType = (some .int)) (hlocks : meth.locks = false) (a0 : Option Nat) (a1 : Int32) {out : Int32 × Mm} (k : Mm → Int32 → Int32 → Option (Int32 × Mm)) (hk : ∀ (u : Mm) (a2 : Int32) (a3 : Int32), k u a2 a3 = some out → yG p l e ({ frames := 1, cells := 0, slots := 0, locals := 22 } : Room) s m args below meth c YM w 5 Q u 57 [(0, va_re w.1 a0), (1, .int a1), (2, .int a2), (3, .int a3)] []) : ∀ (n : Nat) (u : Mm) (a2 : Int32) (a3 : Int32) (a4 : Int32), f_M_count_L12 F a0 a1 k n u a2 a3 a4 = some out → yG p l e ({ frames := 1, cells := 0, slots := 0, locals := 22 } : Room) s m args below meth c YM w 5 Q u 12 [(0, va_re w.1 a0), (1, .int a1), (2, .int a2), (3, .int a3), (4, .int a4)] [] := by
  intro n
  induction n with
  | zero => intro u a2 a3 a4 h; rw [f_M_count_L12] at h; cases h
  | succ n ih =>
    intro u a2 a3 a4 h
    rw [f_M_count_L12] at h
    refine y_iload C (i := 4) 4 d_M_count_12 rfl ?_
    refine y_aload_n C (i := 0) 0 d_M_count_14 rfl rfl ?_
    refine y_gi C (q := (yR5, yT5, 46)) (ci := 5) (k := 0) rfl (by decide) rfl g_784 d_M_count_15 h (fun x2 h => ?_)
    refine y_ic_ge C 57 d_M_count_18 (by decide) h (fun k3 h => ?_) (fun k3 h => ?_)
    · exact y_sub [0, 1, 2, 3] rfl (hk _ _ _ h)
    · refine y_iload_n C (i := 2) 2 d_M_count_21 rfl rfl ?_
      refine y_aload_n C (i := 0) 0 d_M_count_22 rfl rfl ?_
      refine y_gr C (q := (yR5, yT5, 46)) (ci := 5) (k := 6) rfl (by decide) rfl (by decide) g_790 d_M_count_23 h (fun r4 h => ?_)
      refine y_iload C (i := 4) 4 d_M_count_26 rfl ?_
      refine y_al C d_M_count_28 h (fun x5 h => ?_)
      refine y_iadd C d_M_count_29 ?_
      refine y_istore_nB C (i := 2) (lvp := [(0, va_re w.1 a0), (1, .int a1), (3, .int a3), (4, .int a4)]) d_M_count_30 rfl (by decide) rfl h (fun x6 h => ?_)
      refine y_iload_n C (i := 3) 3 d_M_count_31 rfl rfl ?_
      refine y_aload_n C (i := 0) 1 d_M_count_32 rfl rfl ?_
      refine y_gr C (q := (yR5, yT5, 46)) (ci := 5) (k := 7) rfl (by decide) rfl (by decide) g_791 d_M_count_33 h (fun r7 h => ?_)
      refine y_iload C (i := 4) 4 d_M_count_36 rfl ?_
      refine y_al C d_M_count_38 h (fun x8 h => ?_)
      refine y_bipush C (v := 20) d_M_count_39 (by decide) ?_
      obtain ⟨q9, hq9, h⟩ := ob_e h
      have hJq9 : yG p l e ({ frames := 1, cells := 0, slots := 0, locals := 22 } : Room) s m args below meth c YM w 5 Q u 49 [(0, va_re w.1 a0), (1, .int a1), (2, .int x6), (4, .int a4)] [.int q9, .int a3] := by
        refine y_iadd C d_M_count_49 ?_
        refine y_istore_nB C (i := 3) (lvp := [(0, va_re w.1 a0), (1, .int a1), (2, .int x6), (4, .int a4)]) d_M_count_50 rfl (by decide) rfl h (fun x11 h => ?_)
        refine y_iinc C (j := 4) (v := 1) (lvp := [(3, .int x11), (0, va_re w.1 a0), (1, .int a1), (2, .int x6)]) d_M_count_51 rfl (by decide) (by decide) rfl h (fun x12 h => ?_)
        refine y_goto C (tgt := 12) d_M_count_54 (by decide) ?_
        exact y_sub [2, 3, 4, 1, 0] rfl (ih _ _ _ _ h)
      refine y_ic_ne C 48 d_M_count_41 (by decide) hq9 (fun k10 hq9 => ?_) (fun k10 hq9 => ?_)
      · refine y_iconst C (v := 1) d_M_count_44 (by decide) ?_
        refine y_goto C (tgt := 49) d_M_count_45 (by decide) ?_
        cases hq9
        exact y_sub [1, 2, 0, 4] rfl hJq9
      · refine y_iconst C (v := 0) d_M_count_48 (by decide) ?_
        cases hq9
        exact y_sub [1, 2, 0, 4] rfl hJq9
set_option maxRecDepth 100000 in
def f_M_count (F : Nat) (u : Mm) (o : Nat) (a1 : Int32) : Option (Int32 × Mm) := ob (jpi YM 5 23 u (some o) (0 : Int32)) fun (u1 : Mm) => f_M_count_L12 F (some o) a1 (fun (u13 : Mm) (x14 : Int32) (x15 : Int32) => (if a1 = (0 : Int32) then ob (jgi YM 5 0 u13 (some o)) fun (x17 : Int32) => some (x17, u13) else (if a1 = (1 : Int32) then ob (jgi YM 5 1 u13 (some o)) fun (x19 : Int32) => some (x19, u13) else (if a1 = (2 : Int32) then ob (jgi YM 5 2 u13 (some o)) fun (x21 : Int32) => some (x21, u13) else (if a1 = (3 : Int32) then ob (jgi YM 5 3 u13 (some o)) fun (x23 : Int32) => some (x23, u13) else (if a1 = (4 : Int32) then some (x14, u13) else (if a1 = (5 : Int32) then ob (jk YM 5 (some o)) fun t => yb (f_M_coldBits F u13 t ) fun x26 u27 => some (x26, u27) else (if a1 = (6 : Int32) then some (x15, u13) else some ((-1 : Int32), u13))))))))) F u1 (0 : Int32) (0 : Int32) (0 : Int32)
set_option maxHeartbeats 4000000 in
set_option maxRecDepth 100000 in
theorem c_M_count (l : Launch) (w : WP) (F : Nat) (u : Mm) (o : Nat) (a1 : Int32) (out : Int32 × Mm) (h : f_M_count F u o a1 = some out) : yMet l m_M_count ws_M_count ({ frames := 1, cells := 0, slots := 0, locals := 22 } : Room) YM w u [va_re w.1 (some o), .int a1] yfi out := by
  refine y_entry (own := "WhoseGlassModel") (lv := [(0, va_re w.1 (some o)), (1, .int a1)]) (by decide +kernel) rfl (by simp [lv_args, y_cat, y_catI, y_catJ]) (by simp [lg_sl, y_cat, y_catI, y_catJ]) ?_
  intro p e s m args below meth c C hr hlocks
  unfold f_M_count at h
  refine y_aload_n C (i := 0) 0 d_M_count_0 rfl rfl ?_
  refine y_iconst C (v := 0) d_M_count_1 (by decide) ?_
  refine y_pi C (q := (yR5, yT5, 46)) (ci := 5) (k := 23) rfl (by decide) rfl rfl (by decide +kernel) g_807 d_M_count_2 h (fun u1 h => ?_)
  refine y_iconst C (v := 0) d_M_count_5 (by decide) ?_
  refine y_istore_n C (i := 2) (lvp := [(0, va_re w.1 (some o)), (1, .int a1)]) d_M_count_6 rfl (by decide) rfl ?_
  refine y_iconst C (v := 0) d_M_count_7 (by decide) ?_
  refine y_istore_n C (i := 3) (lvp := [(2, .int (0 : Int32)), (0, va_re w.1 (some o)), (1, .int a1)]) d_M_count_8 rfl (by decide) rfl ?_
  refine y_iconst C (v := 0) d_M_count_9 (by decide) ?_
  refine y_istore C (i := 4) (lvp := [(3, .int (0 : Int32)), (2, .int (0 : Int32)), (0, va_re w.1 (some o)), (1, .int a1)]) d_M_count_10 (by decide) rfl ?_
  refine y_sub [3, 4, 2, 1, 0] rfl (w_M_count_L12 F C hr hlocks _ _ _ (fun u13 x14 x15 h => ?_) _ _ _ _ _ h)
  refine y_iload_n C (i := 1) 1 d_M_count_57 rfl rfl ?_
  refine y_sp h (fun k16 h => ?_) (fun k16 h => ?_)
  · refine y_tsw C (off := 42) 100 d_M_count_58 (Or.inr ⟨by rw [k16]; decide, by rw [k16]; decide, by rw [k16]; rfl⟩) (by decide) ?_
    refine y_aload_n C (i := 0) 0 d_M_count_100 rfl rfl ?_
    refine y_gi C (q := (yR5, yT5, 46)) (ci := 5) (k := 0) rfl (by decide) rfl g_784 d_M_count_101 h (fun x17 h => ?_)
    exact y_iret C hr hlocks d_M_count_104 h
  refine y_sp h (fun k18 h => ?_) (fun k18 h => ?_)
  · refine y_tsw C (off := 47) 105 d_M_count_58 (Or.inr ⟨by rw [k18]; decide, by rw [k18]; decide, by rw [k18]; rfl⟩) (by decide) ?_
    refine y_aload_n C (i := 0) 0 d_M_count_105 rfl rfl ?_
    refine y_gi C (q := (yR5, yT5, 46)) (ci := 5) (k := 1) rfl (by decide) rfl g_785 d_M_count_106 h (fun x19 h => ?_)
    exact y_iret C hr hlocks d_M_count_109 h
  refine y_sp h (fun k20 h => ?_) (fun k20 h => ?_)
  · refine y_tsw C (off := 52) 110 d_M_count_58 (Or.inr ⟨by rw [k20]; decide, by rw [k20]; decide, by rw [k20]; rfl⟩) (by decide) ?_
    refine y_aload_n C (i := 0) 0 d_M_count_110 rfl rfl ?_
    refine y_gi C (q := (yR5, yT5, 46)) (ci := 5) (k := 2) rfl (by decide) rfl g_786 d_M_count_111 h (fun x21 h => ?_)
    exact y_iret C hr hlocks d_M_count_114 h
  refine y_sp h (fun k22 h => ?_) (fun k22 h => ?_)
  · refine y_tsw C (off := 57) 115 d_M_count_58 (Or.inr ⟨by rw [k22]; decide, by rw [k22]; decide, by rw [k22]; rfl⟩) (by decide) ?_
    refine y_aload_n C (i := 0) 0 d_M_count_115 rfl rfl ?_
    refine y_gi C (q := (yR5, yT5, 46)) (ci := 5) (k := 3) rfl (by decide) rfl g_787 d_M_count_116 h (fun x23 h => ?_)
    exact y_iret C hr hlocks d_M_count_119 h
  refine y_sp h (fun k24 h => ?_) (fun k24 h => ?_)
  · refine y_tsw C (off := 62) 120 d_M_count_58 (Or.inr ⟨by rw [k24]; decide, by rw [k24]; decide, by rw [k24]; rfl⟩) (by decide) ?_
    refine y_iload_n C (i := 2) 2 d_M_count_120 rfl rfl ?_
    exact y_iret C hr hlocks d_M_count_121 h
  refine y_sp h (fun k25 h => ?_) (fun k25 h => ?_)
  · refine y_tsw C (off := 64) 122 d_M_count_58 (Or.inr ⟨by rw [k25]; decide, by rw [k25]; decide, by rw [k25]; rfl⟩) (by decide) ?_
    refine y_aload_n C (i := 0) 0 d_M_count_122 rfl rfl ?_
    refine y_callV 0 C (q := (yR5, yT5, 46)) (ci := 5) (fun t out hh => c_M_coldBits l w F u13 t out hh) gc_M_count_285 rfl (by decide) hd_M_coldBits ⟨Nat.le_of_ble_eq_true rfl, Nat.le_of_ble_eq_true rfl⟩ rfl rfl rfl rfl (by simp [y_cat, y_catI, y_catJ]) d_M_count_123 h (fun x26 u27 h => ?_)
    refine y_stk (stp0 := [.int x26]) rfl ?_
    exact y_iret C hr hlocks d_M_count_126 h
  refine y_sp h (fun k28 h => ?_) (fun k28 h => ?_)
  · refine y_tsw C (off := 69) 127 d_M_count_58 (Or.inr ⟨by rw [k28]; decide, by rw [k28]; decide, by rw [k28]; rfl⟩) (by decide) ?_
    refine y_iload_n C (i := 3) 3 d_M_count_127 rfl rfl ?_
    exact y_iret C hr hlocks d_M_count_128 h
  refine y_tsw C (off := 71) 129 d_M_count_58 (Or.inl ⟨by have ak16 := lv_neT (a := 0) k16 rfl; have ak18 := lv_neT (a := 1) k18 rfl; have ak20 := lv_neT (a := 2) k20 rfl; have ak22 := lv_neT (a := 3) k22 rfl; have ak24 := lv_neT (a := 4) k24 rfl; have ak25 := lv_neT (a := 5) k25 rfl; have ak28 := lv_neT (a := 6) k28 rfl; omega, rfl⟩) (by decide) ?_
  refine y_iconst C (v := -1) d_M_count_129 (by decide) ?_
  exact y_iret C hr hlocks d_M_count_130 h
