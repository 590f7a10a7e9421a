/-! M_go -/
theorem d_M_go_0 : decode prog_8_method_43_code 0 = .ok (.aload_n 0, 1) := by decide +kernel
theorem d_M_go_1 : decode prog_8_method_43_code 1 = .ok (.iconst 0, 1) := by decide +kernel
theorem d_M_go_2 : decode prog_8_method_43_code 2 = .ok (.putfield 102, 3) := by decide +kernel
theorem d_M_go_5 : decode prog_8_method_43_code 5 = .ok (.aload_n 0, 1) := by decide +kernel
theorem d_M_go_6 : decode prog_8_method_43_code 6 = .ok (.iload_n 1, 1) := by decide +kernel
theorem d_M_go_7 : decode prog_8_method_43_code 7 = .ok (.invokevirtual 228, 3) := by decide +kernel
theorem d_M_go_10 : decode prog_8_method_43_code 10 = .ok (.ifCond .eq 10, 3) := by decide +kernel
theorem d_M_go_13 : decode prog_8_method_43_code 13 = .ok (.iload_n 2, 1) := by decide +kernel
theorem d_M_go_14 : decode prog_8_method_43_code 14 = .ok (.invokestatic 265, 3) := by decide +kernel
theorem d_M_go_17 : decode prog_8_method_43_code 17 = .ok (.ifCond .ne 5, 3) := by decide +kernel
theorem d_M_go_20 : decode prog_8_method_43_code 20 = .ok (.iconst (-1), 1) := by decide +kernel
theorem d_M_go_21 : decode prog_8_method_43_code 21 = .ok (.ireturn, 1) := by decide +kernel
theorem d_M_go_22 : decode prog_8_method_43_code 22 = .ok (.aload_n 0, 1) := by decide +kernel
theorem d_M_go_23 : decode prog_8_method_43_code 23 = .ok (.getfield 47, 3) := by decide +kernel
theorem d_M_go_26 : decode prog_8_method_43_code 26 = .ok (.iload_n 1, 1) := by decide +kernel
theorem d_M_go_27 : decode prog_8_method_43_code 27 = .ok (.iaload, 1) := by decide +kernel
theorem d_M_go_28 : decode prog_8_method_43_code 28 = .ok (.istore_n 3, 1) := by decide +kernel
theorem d_M_go_29 : decode prog_8_method_43_code 29 = .ok (.aload_n 0, 1) := by decide +kernel
theorem d_M_go_30 : decode prog_8_method_43_code 30 = .ok (.getfield 47, 3) := by decide +kernel
theorem d_M_go_33 : decode prog_8_method_43_code 33 = .ok (.iload_n 1, 1) := by decide +kernel
theorem d_M_go_34 : decode prog_8_method_43_code 34 = .ok (.iload_n 2, 1) := by decide +kernel
theorem d_M_go_35 : decode prog_8_method_43_code 35 = .ok (.iastore, 1) := by decide +kernel
theorem d_M_go_36 : decode prog_8_method_43_code 36 = .ok (.iload_n 3, 1) := by decide +kernel
theorem d_M_go_37 : decode prog_8_method_43_code 37 = .ok (.ireturn, 1) := by decide +kernel
theorem gc_M_go_228 : GoodIn yGW (wsV "WhoseGlassModel" 228 yR5 m_M_isGuest ws_M_isGuest) := y_gV g_1002 g_1004 gs_25 g_6 g_1005
set_option maxRecDepth 100000 in
def f_M_go (F : Nat) (u : Mm) (o : Nat) (a1 : Int32) (a2 : Int32) : Option (Int32 × Mm) := ob (jpi YM 5 23 u (some o) (0 : Int32)) fun (u1 : Mm) => ob (jk YM 5 (some o)) fun t => yb (f_M_isGuest F u1 t a1) fun x2 u3 => (if x2 = 0 then some ((-1 : Int32), u3) else yb (f_M_isPlace F u3 a2) fun x5 u6 => (if x5 = 0 then some ((-1 : Int32), u6) else ob (jgr YM 5 15 (some o)) fun (r8 : Option Nat) => ob (jal YM u6 r8 a1) fun (x9 : Int32) => ob (jgr YM 5 15 (some o)) fun (r10 : Option Nat) => ob (jas YM u6 r10 a1 a2) fun (u11 : Mm) => some (x9, u11)))
set_option maxHeartbeats 4000000 in
set_option maxRecDepth 100000 in
theorem c_M_go (l : Launch) (w : WP) (F : Nat) (u : Mm) (o : Nat) (a1 : Int32) (a2 : Int32) (out : Int32 × Mm) (h : f_M_go F u o a1 a2 = some out) : yMet l m_M_go ws_M_go ({ frames := 2, cells := 0, slots := 0, locals := 46 } : Room) YM w u [va_re w.1 (some o), .int a1, .int a2] yfi out := by
  refine y_entry (own := "WhoseGlassModel") (lv := [(0, va_re w.1 (some o)), (1, .int a1), (2, .int a2)]) (by decide +kernel) rfl (by simp [lv_args, y_cat, y_catI, y_catJ]) (by simp [lg_sl, y_cat, y_catI, y_catJ]) ?_
  intro p e s m args below meth c C hr hlocks
  unfold f_M_go at h
  refine y_aload_n C (i := 0) 0 d_M_go_0 rfl rfl ?_
  refine y_iconst C (v := 0) d_M_go_1 (by decide) ?_
  refine y_pi C (q := (yR5, yT5, 46)) (ci := 5) (k := 23) rfl (by decide) rfl rfl (by decide +kernel) g_807 d_M_go_2 h (fun u1 h => ?_)
  refine y_aload_n C (i := 0) 0 d_M_go_5 rfl rfl ?_
  refine y_iload_n C (i := 1) 1 d_M_go_6 rfl rfl ?_
  refine y_callV 1 C (q := (yR5, yT5, 46)) (ci := 5) (fun t out hh => c_M_isGuest l w F u1 t a1 out hh) gc_M_go_228 rfl (by decide) hd_M_isGuest ⟨Nat.le_of_ble_eq_true rfl, Nat.le_of_ble_eq_true rfl⟩ rfl rfl rfl rfl (by simp [y_cat, y_catI, y_catJ]) d_M_go_7 h (fun x2 u3 h => ?_)
  refine y_stk (stp0 := [.int x2]) rfl ?_
  refine y_if_eq C 20 d_M_go_10 (by decide) h (fun k4 h => ?_) (fun k4 h => ?_)
  · refine y_iconst C (v := -1) d_M_go_20 (by decide) ?_
    exact y_iret C hr hlocks d_M_go_21 h
  · refine y_iload_n C (i := 2) 2 d_M_go_13 rfl rfl ?_
    refine y_callS 1 C (fun out hh => c_M_isPlace l w F u3 a2 out hh) (y_gc g_1086) g_1084 g_6 g_1085 hn_M_isPlace ⟨Nat.le_of_ble_eq_true rfl, Nat.le_of_ble_eq_true rfl⟩ rfl rfl rfl rfl (by simp [y_cat, y_catI, y_catJ]) d_M_go_14 h (fun x5 u6 h => ?_)
    refine y_stk (stp0 := [.int x5]) rfl ?_
    refine y_if_ne C 22 d_M_go_17 (by decide) h (fun k7 h => ?_) (fun k7 h => ?_)
    · refine y_iconst C (v := -1) d_M_go_20 (by decide) ?_
      exact y_iret C hr hlocks d_M_go_21 h
    · refine y_aload_n C (i := 0) 0 d_M_go_22 rfl rfl ?_
      refine y_gr C (q := (yR5, yT5, 46)) (ci := 5) (k := 15) rfl (by decide) rfl (by decide) g_799 d_M_go_23 h (fun r8 h => ?_)
      refine y_iload_n C (i := 1) 1 d_M_go_26 rfl rfl ?_
      refine y_al C d_M_go_27 h (fun x9 h => ?_)
      refine y_istore_n C (i := 3) (lvp := [(0, va_re w.1 (some o)), (1, .int a1), (2, .int a2)]) d_M_go_28 rfl (by decide) rfl ?_
      refine y_aload_n C (i := 0) 1 d_M_go_29 rfl rfl ?_
      refine y_gr C (q := (yR5, yT5, 46)) (ci := 5) (k := 15) rfl (by decide) rfl (by decide) g_799 d_M_go_30 h (fun r10 h => ?_)
      refine y_iload_n C (i := 1) 2 d_M_go_33 rfl rfl ?_
      refine y_iload_n C (i := 2) 3 d_M_go_34 rfl rfl ?_
      refine y_as C d_M_go_35 h (fun u11 h => ?_)
      refine y_iload_n C (i := 3) 0 d_M_go_36 rfl rfl ?_
      exact y_iret C hr hlocks d_M_go_37 h
/-! M_sip -/
theorem d_M_sip_0 : decode prog_8_method_44_code 0 = .ok (.aload_n 0, 1) := by decide +kernel
theorem d_M_sip_1 : decode prog_8_method_44_code 1 = .ok (.iconst 0, 1) := by decide +kernel
theorem d_M_sip_2 : decode prog_8_method_44_code 2 = .ok (.putfield 102, 3) := by decide +kernel
theorem d_M_sip_5 : decode prog_8_method_44_code 5 = .ok (.aload_n 0, 1) := by decide +kernel
theorem d_M_sip_6 : decode prog_8_method_44_code 6 = .ok (.iload_n 1, 1) := by decide +kernel
theorem d_M_sip_7 : decode prog_8_method_44_code 7 = .ok (.invokevirtual 228, 3) := by decide +kernel
theorem d_M_sip_10 : decode prog_8_method_44_code 10 = .ok (.ifCond .ne 5, 3) := by decide +kernel
theorem d_M_sip_13 : decode prog_8_method_44_code 13 = .ok (.iconst (-1), 1) := by decide +kernel
theorem d_M_sip_14 : decode prog_8_method_44_code 14 = .ok (.ireturn, 1) := by decide +kernel
theorem d_M_sip_15 : decode prog_8_method_44_code 15 = .ok (.aload_n 0, 1) := by decide +kernel
theorem d_M_sip_16 : decode prog_8_method_44_code 16 = .ok (.getfield 50, 3) := by decide +kernel
theorem d_M_sip_19 : decode prog_8_method_44_code 19 = .ok (.iload_n 1, 1) := by decide +kernel
theorem d_M_sip_20 : decode prog_8_method_44_code 20 = .ok (.iaload, 1) := by decide +kernel
theorem d_M_sip_21 : decode prog_8_method_44_code 21 = .ok (.ifCond .lt 17, 3) := by decide +kernel
theorem d_M_sip_24 : decode prog_8_method_44_code 24 = .ok (.aload_n 0, 1) := by decide +kernel
theorem d_M_sip_25 : decode prog_8_method_44_code 25 = .ok (.getfield 20, 3) := by decide +kernel
theorem d_M_sip_28 : decode prog_8_method_44_code 28 = .ok (.aload_n 0, 1) := by decide +kernel
theorem d_M_sip_29 : decode prog_8_method_44_code 29 = .ok (.getfield 50, 3) := by decide +kernel
theorem d_M_sip_32 : decode prog_8_method_44_code 32 = .ok (.iload_n 1, 1) := by decide +kernel
theorem d_M_sip_33 : decode prog_8_method_44_code 33 = .ok (.iaload, 1) := by decide +kernel
theorem d_M_sip_34 : decode prog_8_method_44_code 34 = .ok (.iaload, 1) := by decide +kernel
theorem d_M_sip_35 : decode prog_8_method_44_code 35 = .ok (.ifCond .ne 8, 3) := by decide +kernel
theorem d_M_sip_38 : decode prog_8_method_44_code 38 = .ok (.bipush (-3), 2) := by decide +kernel
theorem d_M_sip_40 : decode prog_8_method_44_code 40 = .ok (.goto 8, 3) := by decide +kernel
theorem d_M_sip_43 : decode prog_8_method_44_code 43 = .ok (.aload_n 0, 1) := by decide +kernel
theorem d_M_sip_44 : decode prog_8_method_44_code 44 = .ok (.iload_n 1, 1) := by decide +kernel
theorem d_M_sip_45 : decode prog_8_method_44_code 45 = .ok (.invokevirtual 167, 3) := by decide +kernel
theorem d_M_sip_48 : decode prog_8_method_44_code 48 = .ok (.ireturn, 1) := by decide +kernel
theorem gc_M_sip_228 : GoodIn yGW (wsV "WhoseGlassModel" 228 yR5 m_M_isGuest ws_M_isGuest) := y_gV g_1002 g_1004 gs_25 g_6 g_1005
theorem gc_M_sip_167 : GoodIn yGW (wsV "WhoseGlassModel" 167 yR5 m_M_sipOne ws_M_sipOne) := y_gV g_1054 g_1056 gs_38 g_6 g_1057
set_option maxRecDepth 100000 in
def f_M_sip (F : Nat) (u : Mm) (o : Nat) (a1 : Int32) : Option (Int32 × Mm) := ob (jpi YM 5 23 u (some o) (0 : Int32)) fun (u1 : Mm) => ob (jk YM 5 (some o)) fun t => yb (f_M_isGuest F u1 t a1) fun x2 u3 => (if x2 = 0 then some ((-1 : Int32), u3) else ob (jgr YM 5 16 (some o)) fun (r5 : Option Nat) => ob (jal YM u3 r5 a1) fun (x6 : Int32) => (if x6 < 0 then some ((-3 : Int32), u3) else ob (jgr YM 5 6 (some o)) fun (r8 : Option Nat) => ob (jgr YM 5 16 (some o)) fun (r9 : Option Nat) => ob (jal YM u3 r9 a1) fun (x10 : Int32) => ob (jal YM u3 r8 x10) fun (x11 : Int32) => (if x11 = 0 then some ((-3 : Int32), u3) else ob (jk YM 5 (some o)) fun t => yb (f_M_sipOne F u3 t a1) fun x13 u14 => some (x13, u14))))
set_option maxHeartbeats 4000000 in
set_option maxRecDepth 100000 in
theorem c_M_sip (l : Launch) (w : WP) (F : Nat) (u : Mm) (o : Nat) (a1 : Int32) (out : Int32 × Mm) (h : f_M_sip F u o a1 = some out) : yMet l m_M_sip ws_M_sip ({ frames := 2, cells := 0, slots := 0, locals := 46 } : Room) YM w u [va_re w.1 (some o), .int a1] yfi out := by
  refine y_entry (own := "WhoseGlassModel") (lv := [(0, va_re w.1 (some o)), (1, .int a1)]) (by decide +kernel) rfl (by simp [lv_args, y_cat, y_catI, y_catJ]) (by simp [lg_sl, y_cat, y_catI, y_catJ]) ?_
  intro p e s m args below meth c C hr hlocks
  unfold f_M_sip at h
  refine y_aload_n C (i := 0) 0 d_M_sip_0 rfl rfl ?_
  refine y_iconst C (v := 0) d_M_sip_1 (by decide) ?_
  refine y_pi C (q := (yR5, yT5, 46)) (ci := 5) (k := 23) rfl (by decide) rfl rfl (by decide +kernel) g_807 d_M_sip_2 h (fun u1 h => ?_)
  refine y_aload_n C (i := 0) 0 d_M_sip_5 rfl rfl ?_
  refine y_iload_n C (i := 1) 1 d_M_sip_6 rfl rfl ?_
  refine y_callV 1 C (q := (yR5, yT5, 46)) (ci := 5) (fun t out hh => c_M_isGuest l w F u1 t a1 out hh) gc_M_sip_228 rfl (by decide) hd_M_isGuest ⟨Nat.le_of_ble_eq_true rfl, Nat.le_of_ble_eq_true rfl⟩ rfl rfl rfl rfl (by simp [y_cat, y_catI, y_catJ]) d_M_sip_7 h (fun x2 u3 h => ?_)
  refine y_stk (stp0 := [.int x2]) rfl ?_
  refine y_if_ne C 15 d_M_sip_10 (by decide) h (fun k4 h => ?_) (fun k4 h => ?_)
  · refine y_iconst C (v := -1) d_M_sip_13 (by decide) ?_
    exact y_iret C hr hlocks d_M_sip_14 h
  · refine y_aload_n C (i := 0) 0 d_M_sip_15 rfl rfl ?_
    refine y_gr C (q := (yR5, yT5, 46)) (ci := 5) (k := 16) rfl (by decide) rfl (by decide) g_800 d_M_sip_16 h (fun r5 h => ?_)
    refine y_iload_n C (i := 1) 1 d_M_sip_19 rfl rfl ?_
    refine y_al C d_M_sip_20 h (fun x6 h => ?_)
    refine y_if_lt C 38 d_M_sip_21 (by decide) h (fun k7 h => ?_) (fun k7 h => ?_)
    · refine y_bipush C (v := -3) d_M_sip_38 (by decide) ?_
      refine y_goto C (tgt := 48) d_M_sip_40 (by decide) ?_
      exact y_iret C hr hlocks d_M_sip_48 h
    · refine y_aload_n C (i := 0) 0 d_M_sip_24 rfl rfl ?_
      refine y_gr C (q := (yR5, yT5, 46)) (ci := 5) (k := 6) rfl (by decide) rfl (by decide) g_790 d_M_sip_25 h (fun r8 h => ?_)
      refine y_aload_n C (i := 0) 0 d_M_sip_28 rfl rfl ?_
      refine y_gr C (q := (yR5, yT5, 46)) (ci := 5) (k := 16) rfl (by decide) rfl (by decide) g_800 d_M_sip_29 h (fun r9 h => ?_)
      refine y_iload_n C (i := 1) 1 d_M_sip_32 rfl rfl ?_
      refine y_al C d_M_sip_33 h (fun x10 h => ?_)
      refine y_al C d_M_sip_34 h (fun x11 h => ?_)
      refine y_if_ne C 43 d_M_sip_35 (by decide) h (fun k12 h => ?_) (fun k12 h => ?_)
      · refine y_bipush C (v := -3) d_M_sip_38 (by decide) ?_
        refine y_goto C (tgt := 48) d_M_sip_40 (by decide) ?_
        exact y_iret C hr hlocks d_M_sip_48 h
      · refine y_aload_n C (i := 0) 0 d_M_sip_43 rfl rfl ?_
        refine y_iload_n C (i := 1) 1 d_M_sip_44 rfl rfl ?_
        refine y_callV 1 C (q := (yR5, yT5, 46)) (ci := 5) (fun t out hh => c_M_sipOne l w F u3 t a1 out hh) gc_M_sip_167 rfl (by decide) hd_M_sipOne ⟨Nat.le_of_ble_eq_true rfl, Nat.le_of_ble_eq_true rfl⟩ rfl rfl rfl rfl (by simp [y_cat, y_catI, y_catJ]) d_M_sip_45 h (fun x13 u14 h => ?_)
        refine y_stk (stp0 := [.int x13]) rfl ?_
        exact y_iret C hr hlocks d_M_sip_48 h
/-! M_lay -/
theorem d_M_lay_0 : decode prog_8_method_45_code 0 = .ok (.aload_n 0, 1) := by decide +kernel
theorem d_M_lay_1 : decode prog_8_method_45_code 1 = .ok (.iconst 0, 1) := by decide +kernel
theorem d_M_lay_2 : decode prog_8_method_45_code 2 = .ok (.putfield 102, 3) := by decide +kernel
theorem d_M_lay_5 : decode prog_8_method_45_code 5 = .ok (.aload_n 0, 1) := by decide +kernel
theorem d_M_lay_6 : decode prog_8_method_45_code 6 = .ok (.iload_n 1, 1) := by decide +kernel
theorem d_M_lay_7 : decode prog_8_method_45_code 7 = .ok (.invokevirtual 228, 3) := by decide +kernel
theorem d_M_lay_10 : decode prog_8_method_45_code 10 = .ok (.ifCond .ne 5, 3) := by decide +kernel
theorem d_M_lay_13 : decode prog_8_method_45_code 13 = .ok (.iconst (-1), 1) := by decide +kernel
theorem d_M_lay_14 : decode prog_8_method_45_code 14 = .ok (.ireturn, 1) := by decide +kernel
theorem d_M_lay_15 : decode prog_8_method_45_code 15 = .ok (.aload_n 0, 1) := by decide +kernel
theorem d_M_lay_16 : decode prog_8_method_45_code 16 = .ok (.getfield 50, 3) := by decide +kernel
theorem d_M_lay_19 : decode prog_8_method_45_code 19 = .ok (.iload_n 1, 1) := by decide +kernel
theorem d_M_lay_20 : decode prog_8_method_45_code 20 = .ok (.iaload, 1) := by decide +kernel
theorem d_M_lay_21 : decode prog_8_method_45_code 21 = .ok (.ifCond .ge 8, 3) := by decide +kernel
theorem d_M_lay_24 : decode prog_8_method_45_code 24 = .ok (.bipush (-3), 2) := by decide +kernel
theorem d_M_lay_26 : decode prog_8_method_45_code 26 = .ok (.goto 8, 3) := by decide +kernel
theorem d_M_lay_29 : decode prog_8_method_45_code 29 = .ok (.aload_n 0, 1) := by decide +kernel
theorem d_M_lay_30 : decode prog_8_method_45_code 30 = .ok (.iload_n 1, 1) := by decide +kernel
theorem d_M_lay_31 : decode prog_8_method_45_code 31 = .ok (.invokevirtual 170, 3) := by decide +kernel
theorem d_M_lay_34 : decode prog_8_method_45_code 34 = .ok (.ireturn, 1) := by decide +kernel
theorem gc_M_lay_228 : GoodIn yGW (wsV "WhoseGlassModel" 228 yR5 m_M_isGuest ws_M_isGuest) := y_gV g_1002 g_1004 gs_25 g_6 g_1005
theorem gc_M_lay_170 : GoodIn yGW (wsV "WhoseGlassModel" 170 yR5 m_M_layOne ws_M_layOne) := y_gV g_1062 g_1064 gs_40 g_6 g_1065
set_option maxRecDepth 100000 in
def f_M_lay (F : Nat) (u : Mm) (o : Nat) (a1 : Int32) : Option (Int32 × Mm) := ob (jpi YM 5 23 u (some o) (0 : Int32)) fun (u1 : Mm) => ob (jk YM 5 (some o)) fun t => yb (f_M_isGuest F u1 t a1) fun x2 u3 => (if x2 = 0 then some ((-1 : Int32), u3) else ob (jgr YM 5 16 (some o)) fun (r5 : Option Nat) => ob (jal YM u3 r5 a1) fun (x6 : Int32) => (if 0 ≤ x6 then ob (jk YM 5 (some o)) fun t => yb (f_M_layOne F u3 t a1) fun x8 u9 => some (x8, u9) else some ((-3 : Int32), u3)))
set_option maxHeartbeats 4000000 in
set_option maxRecDepth 100000 in
theorem c_M_lay (l : Launch) (w : WP) (F : Nat) (u : Mm) (o : Nat) (a1 : Int32) (out : Int32 × Mm) (h : f_M_lay F u o a1 = some out) : yMet l m_M_lay ws_M_lay ({ frames := 2, cells := 0, slots := 0, locals := 46 } : Room) YM w u [va_re w.1 (some o), .int a1] yfi out := by
  refine y_entry (own := "WhoseGlassModel") (lv := [(0, va_re w.1 (some o)), (1, .int a1)]) (by decide +kernel) rfl (by simp [lv_args, y_cat, y_catI, y_catJ]) (by simp [lg_sl, y_cat, y_catI, y_catJ]) ?_
  intro p e s m args below meth c C hr hlocks
  unfold f_M_lay at h
  refine y_aload_n C (i := 0) 0 d_M_lay_0 rfl rfl ?_
  refine y_iconst C (v := 0) d_M_lay_1 (by decide) ?_
  refine y_pi C (q := (yR5, yT5, 46)) (ci := 5) (k := 23) rfl (by decide) rfl rfl (by decide +kernel) g_807 d_M_lay_2 h (fun u1 h => ?_)
  refine y_aload_n C (i := 0) 0 d_M_lay_5 rfl rfl ?_
  refine y_iload_n C (i := 1) 1 d_M_lay_6 rfl rfl ?_
  refine y_callV 1 C (q := (yR5, yT5, 46)) (ci := 5) (fun t out hh => c_M_isGuest l w F u1 t a1 out hh) gc_M_lay_228 rfl (by decide) hd_M_isGuest ⟨Nat.le_of_ble_eq_true rfl, Nat.le_of_ble_eq_true rfl⟩ rfl rfl rfl rfl (by simp [y_cat, y_catI, y_catJ]) d_M_lay_7 h (fun x2 u3 h => ?_)
  refine y_stk (stp0 := [.int x2]) rfl ?_
  refine y_if_ne C 15 d_M_lay_10 (by decide) h (fun k4 h => ?_) (fun k4 h => ?_)
  · refine y_iconst C (v := -1) d_M_lay_13 (by decide) ?_
    exact y_iret C hr hlocks d_M_lay_14 h
  · refine y_aload_n C (i := 0) 0 d_M_lay_15 rfl rfl ?_
    refine y_gr C (q := (yR5, yT5, 46)) (ci := 5) (k := 16) rfl (by decide) rfl (by decide) g_800 d_M_lay_16 h (fun r5 h => ?_)
    refine y_iload_n C (i := 1) 1 d_M_lay_19 rfl rfl ?_
    refine y_al C d_M_lay_20 h (fun x6 h => ?_)
    refine y_if_ge C 29 d_M_lay_21 (by decide) h (fun k7 h => ?_) (fun k7 h => ?_)
    · refine y_aload_n C (i := 0) 0 d_M_lay_29 rfl rfl ?_
      refine y_iload_n C (i := 1) 1 d_M_lay_30 rfl rfl ?_
      refine y_callV 1 C (q := (yR5, yT5, 46)) (ci := 5) (fun t out hh => c_M_layOne l w F u3 t a1 out hh) gc_M_lay_170 rfl (by decide) hd_M_layOne ⟨Nat.le_of_ble_eq_true rfl, Nat.le_of_ble_eq_true rfl⟩ rfl rfl rfl rfl (by simp [y_cat, y_catI, y_catJ]) d_M_lay_31 h (fun x8 u9 h => ?_)
      refine y_stk (stp0 := [.int x8]) rfl ?_
      exact y_iret C hr hlocks d_M_lay_34 h
    · refine y_bipush C (v := -3) d_M_lay_24 (by decide) ?_
      refine y_goto C (tgt := 34) d_M_lay_26 (by decide) ?_
      exact y_iret C hr hlocks d_M_lay_34 h
/-! M_take -/
theorem d_M_take_0 : decode prog_8_method_46_code 0 = .ok (.aload_n 0, 1) := by decide +kernel
theorem d_M_take_1 : decode prog_8_method_46_code 1 = .ok (.iconst 0, 1) := by decide +kernel
theorem d_M_take_2 : decode prog_8_method_46_code 2 = .ok (.putfield 102, 3) := by decide +kernel
theorem d_M_take_5 : decode prog_8_method_46_code 5 = .ok (.aload_n 0, 1) := by decide +kernel
theorem d_M_take_6 : decode prog_8_method_46_code 6 = .ok (.iload_n 1, 1) := by decide +kernel
theorem d_M_take_7 : decode prog_8_method_46_code 7 = .ok (.invokevirtual 228, 3) := by decide +kernel
theorem d_M_take_10 : decode prog_8_method_46_code 10 = .ok (.ifCond .ne 5, 3) := by decide +kernel
theorem d_M_take_13 : decode prog_8_method_46_code 13 = .ok (.iconst (-1), 1) := by decide +kernel
theorem d_M_take_14 : decode prog_8_method_46_code 14 = .ok (.ireturn, 1) := by decide +kernel
theorem d_M_take_15 : decode prog_8_method_46_code 15 = .ok (.aload_n 0, 1) := by decide +kernel
theorem d_M_take_16 : decode prog_8_method_46_code 16 = .ok (.getfield 50, 3) := by decide +kernel
theorem d_M_take_19 : decode prog_8_method_46_code 19 = .ok (.iload_n 1, 1) := by decide +kernel
theorem d_M_take_20 : decode prog_8_method_46_code 20 = .ok (.iaload, 1) := by decide +kernel
theorem d_M_take_21 : decode prog_8_method_46_code 21 = .ok (.ifCond .lt 8, 3) := by decide +kernel
theorem d_M_take_24 : decode prog_8_method_46_code 24 = .ok (.bipush (-3), 2) := by decide +kernel
theorem d_M_take_26 : decode prog_8_method_46_code 26 = .ok (.goto 8, 3) := by decide +kernel
theorem d_M_take_29 : decode prog_8_method_46_code 29 = .ok (.aload_n 0, 1) := by decide +kernel
theorem d_M_take_30 : decode prog_8_method_46_code 30 = .ok (.iload_n 1, 1) := by decide +kernel
theorem d_M_take_31 : decode prog_8_method_46_code 31 = .ok (.invokevirtual 164, 3) := by decide +kernel
theorem d_M_take_34 : decode prog_8_method_46_code 34 = .ok (.ireturn, 1) := by decide +kernel
theorem gc_M_take_228 : GoodIn yGW (wsV "WhoseGlassModel" 228 yR5 m_M_isGuest ws_M_isGuest) := y_gV g_1002 g_1004 gs_25 g_6 g_1005
theorem gc_M_take_164 : GoodIn yGW (wsV "WhoseGlassModel" 164 yR5 m_M_takeOne ws_M_takeOne) := y_gV g_1026 g_1028 gs_31 g_6 g_1029
set_option maxRecDepth 100000 in
def f_M_take (F : Nat) (u : Mm) (o : Nat) (a1 : Int32) : Option (Int32 × Mm) := ob (jpi YM 5 23 u (some o) (0 : Int32)) fun (u1 : Mm) => ob (jk YM 5 (some o)) fun t => yb (f_M_isGuest F u1 t a1) fun x2 u3 => (if x2 = 0 then some ((-1 : Int32), u3) else ob (jgr YM 5 16 (some o)) fun (r5 : Option Nat) => ob (jal YM u3 r5 a1) fun (x6 : Int32) => (if x6 < 0 then ob (jk YM 5 (some o)) fun t => yb (f_M_takeOne F u3 t a1) fun x8 u9 => some (x8, u9) else some ((-3 : Int32), u3)))
set_option maxHeartbeats 4000000 in
set_option maxRecDepth 100000 in
theorem c_M_take (l : Launch) (w : WP) (F : Nat) (u : Mm) (o : Nat) (a1 : Int32) (out : Int32 × Mm) (h : f_M_take F u o a1 = some out) : yMet l m_M_take ws_M_take ({ frames := 5, cells := 0, slots := 0, locals := 117 } : Room) YM w u [va_re w.1 (some o), .int a1] yfi out := by
  refine y_entry (own := "WhoseGlassModel") (lv := [(0, va_re w.1 (some o)), (1, .int a1)]) (by decide +kernel) rfl (by simp [lv_args, y_cat, y_catI, y_catJ]) (by simp [lg_sl, y_cat, y_catI, y_catJ]) ?_
  intro p e s m args below meth c C hr hlocks
  unfold f_M_take at h
  refine y_aload_n C (i := 0) 0 d_M_take_0 rfl rfl ?_
  refine y_iconst C (v := 0) d_M_take_1 (by decide) ?_
  refine y_pi C (q := (yR5, yT5, 46)) (ci := 5) (k := 23) rfl (by decide) rfl rfl (by decide +kernel) g_807 d_M_take_2 h (fun u1 h => ?_)
  refine y_aload_n C (i := 0) 0 d_M_take_5 rfl rfl ?_
  refine y_iload_n C (i := 1) 1 d_M_take_6 rfl rfl ?_
  refine y_callV 1 C (q := (yR5, yT5, 46)) (ci := 5) (fun t out hh => c_M_isGuest l w F u1 t a1 out hh) gc_M_take_228 rfl (by decide) hd_M_isGuest ⟨Nat.le_of_ble_eq_true rfl, Nat.le_of_ble_eq_true rfl⟩ rfl rfl rfl rfl (by simp [y_cat, y_catI, y_catJ]) d_M_take_7 h (fun x2 u3 h => ?_)
  refine y_stk (stp0 := [.int x2]) rfl ?_
  refine y_if_ne C 15 d_M_take_10 (by decide) h (fun k4 h => ?_) (fun k4 h => ?_)
  · refine y_iconst C (v := -1) d_M_take_13 (by decide) ?_
    exact y_iret C hr hlocks d_M_take_14 h
  · refine y_aload_n C (i := 0) 0 d_M_take_15 rfl rfl ?_
    refine y_gr C (q := (yR5, yT5, 46)) (ci := 5) (k := 16) rfl (by decide) rfl (by decide) g_800 d_M_take_16 h (fun r5 h => ?_)
    refine y_iload_n C (i := 1) 1 d_M_take_19 rfl rfl ?_
    refine y_al C d_M_take_20 h (fun x6 h => ?_)
    refine y_if_lt C 29 d_M_take_21 (by decide) h (fun k7 h => ?_) (fun k7 h => ?_)
    · refine y_aload_n C (i := 0) 0 d_M_take_29 rfl rfl ?_
      refine y_iload_n C (i := 1) 1 d_M_take_30 rfl rfl ?_
      refine y_callV 1 C (q := (yR5, yT5, 46)) (ci := 5) (fun t out hh => c_M_takeOne l w F u3 t a1 out hh) gc_M_take_164 rfl (by decide) hd_M_takeOne ⟨Nat.le_of_ble_eq_true rfl, Nat.le_of_ble_eq_true rfl⟩ rfl rfl rfl rfl (by simp [y_cat, y_catI, y_catJ]) d_M_take_31 h (fun x8 u9 h => ?_)
      refine y_stk (stp0 := [.int x8]) rfl ?_
      exact y_iret C hr hlocks d_M_take_34 h
    · refine y_bipush C (v := -3) d_M_take_24 (by decide) ?_
      refine y_goto C (tgt := 34) d_M_take_26 (by decide) ?_
      exact y_iret C hr hlocks d_M_take_34 h
/-! M_fill -/
theorem d_M_fill_0 : decode prog_8_method_47_code 0 = .ok (.aload_n 0, 1) := by decide +kernel
theorem d_M_fill_1 : decode prog_8_method_47_code 1 = .ok (.iconst 0, 1) := by decide +kernel
theorem d_M_fill_2 : decode prog_8_method_47_code 2 = .ok (.putfield 102, 3) := by decide +kernel
theorem d_M_fill_5 : decode prog_8_method_47_code 5 = .ok (.iload_n 1, 1) := by decide +kernel
theorem d_M_fill_6 : decode prog_8_method_47_code 6 = .ok (.invokestatic 265, 3) := by decide +kernel
theorem d_M_fill_9 : decode prog_8_method_47_code 9 = .ok (.ifCond .ne 5, 3) := by decide +kernel
theorem d_M_fill_12 : decode prog_8_method_47_code 12 = .ok (.iconst (-1), 1) := by decide +kernel
theorem d_M_fill_13 : decode prog_8_method_47_code 13 = .ok (.ireturn, 1) := by decide +kernel
theorem d_M_fill_14 : decode prog_8_method_47_code 14 = .ok (.iconst 0, 1) := by decide +kernel
theorem d_M_fill_15 : decode prog_8_method_47_code 15 = .ok (.istore_n 2, 1) := by decide +kernel
theorem d_M_fill_16 : decode prog_8_method_47_code 16 = .ok (.iconst 0, 1) := by decide +kernel
theorem d_M_fill_17 : decode prog_8_method_47_code 17 = .ok (.istore_n 3, 1) := by decide +kernel
theorem d_M_fill_18 : decode prog_8_method_47_code 18 = .ok (.iload_n 3, 1) := by decide +kernel
theorem d_M_fill_19 : decode prog_8_method_47_code 19 = .ok (.aload_n 0, 1) := by decide +kernel
theorem d_M_fill_20 : decode prog_8_method_47_code 20 = .ok (.getfield 105, 3) := by decide +kernel
theorem d_M_fill_23 : decode prog_8_method_47_code 23 = .ok (.if_icmp .ge 71, 3) := by decide +kernel
theorem d_M_fill_26 : decode prog_8_method_47_code 26 = .ok (.aload_n 0, 1) := by decide +kernel
theorem d_M_fill_27 : decode prog_8_method_47_code 27 = .ok (.getfield 23, 3) := by decide +kernel
theorem d_M_fill_30 : decode prog_8_method_47_code 30 = .ok (.iload_n 3, 1) := by decide +kernel
theorem d_M_fill_31 : decode prog_8_method_47_code 31 = .ok (.iaload, 1) := by decide +kernel
theorem d_M_fill_32 : decode prog_8_method_47_code 32 = .ok (.iload_n 1, 1) := by decide +kernel
theorem d_M_fill_33 : decode prog_8_method_47_code 33 = .ok (.if_icmp .ne 17, 3) := by decide +kernel
theorem d_M_fill_36 : decode prog_8_method_47_code 36 = .ok (.aload_n 0, 1) := by decide +kernel
theorem d_M_fill_37 : decode prog_8_method_47_code 37 = .ok (.getfield 20, 3) := by decide +kernel
theorem d_M_fill_40 : decode prog_8_method_47_code 40 = .ok (.iload_n 3, 1) := by decide +kernel
theorem d_M_fill_41 : decode prog_8_method_47_code 41 = .ok (.iaload, 1) := by decide +kernel
theorem d_M_fill_42 : decode prog_8_method_47_code 42 = .ok (.iconst 5, 1) := by decide +kernel
theorem d_M_fill_43 : decode prog_8_method_47_code 43 = .ok (.if_icmp .ge 7, 3) := by decide +kernel
theorem d_M_fill_46 : decode prog_8_method_47_code 46 = .ok (.iconst 1, 1) := by decide +kernel
theorem d_M_fill_47 : decode prog_8_method_47_code 47 = .ok (.goto 4, 3) := by decide +kernel
theorem d_M_fill_50 : decode prog_8_method_47_code 50 = .ok (.iconst 0, 1) := by decide +kernel
theorem d_M_fill_51 : decode prog_8_method_47_code 51 = .ok (.istore 4, 2) := by decide +kernel
theorem d_M_fill_53 : decode prog_8_method_47_code 53 = .ok (.aload_n 0, 1) := by decide +kernel
theorem d_M_fill_54 : decode prog_8_method_47_code 54 = .ok (.getfield 20, 3) := by decide +kernel
theorem d_M_fill_57 : decode prog_8_method_47_code 57 = .ok (.iload_n 3, 1) := by decide +kernel
theorem d_M_fill_58 : decode prog_8_method_47_code 58 = .ok (.iload 4, 2) := by decide +kernel
theorem d_M_fill_60 : decode prog_8_method_47_code 60 = .ok (.ifCond .eq 8, 3) := by decide +kernel
theorem d_M_fill_63 : decode prog_8_method_47_code 63 = .ok (.bipush 9, 2) := by decide +kernel
theorem d_M_fill_65 : decode prog_8_method_47_code 65 = .ok (.goto 9, 3) := by decide +kernel
theorem d_M_fill_68 : decode prog_8_method_47_code 68 = .ok (.aload_n 0, 1) := by decide +kernel
theorem d_M_fill_69 : decode prog_8_method_47_code 69 = .ok (.getfield 20, 3) := by decide +kernel
theorem d_M_fill_72 : decode prog_8_method_47_code 72 = .ok (.iload_n 3, 1) := by decide +kernel
theorem d_M_fill_73 : decode prog_8_method_47_code 73 = .ok (.iaload, 1) := by decide +kernel
theorem d_M_fill_74 : decode prog_8_method_47_code 74 = .ok (.iastore, 1) := by decide +kernel
theorem d_M_fill_75 : decode prog_8_method_47_code 75 = .ok (.iload_n 2, 1) := by decide +kernel
theorem d_M_fill_76 : decode prog_8_method_47_code 76 = .ok (.iload 4, 2) := by decide +kernel
theorem d_M_fill_78 : decode prog_8_method_47_code 78 = .ok (.ifCond .eq 7, 3) := by decide +kernel
theorem d_M_fill_81 : decode prog_8_method_47_code 81 = .ok (.iconst 1, 1) := by decide +kernel
theorem d_M_fill_82 : decode prog_8_method_47_code 82 = .ok (.goto 4, 3) := by decide +kernel
theorem d_M_fill_85 : decode prog_8_method_47_code 85 = .ok (.iconst 0, 1) := by decide +kernel
theorem d_M_fill_86 : decode prog_8_method_47_code 86 = .ok (.iadd, 1) := by decide +kernel
theorem d_M_fill_87 : decode prog_8_method_47_code 87 = .ok (.istore_n 2, 1) := by decide +kernel
theorem d_M_fill_88 : decode prog_8_method_47_code 88 = .ok (.iinc 3 1, 3) := by decide +kernel
theorem d_M_fill_91 : decode prog_8_method_47_code 91 = .ok (.goto (-73), 3) := by decide +kernel
theorem d_M_fill_94 : decode prog_8_method_47_code 94 = .ok (.iload_n 2, 1) := by decide +kernel
theorem d_M_fill_95 : decode prog_8_method_47_code 95 = .ok (.ireturn, 1) := by decide +kernel
set_option maxHeartbeats 4000000 in
set_option maxRecDepth 100000 in
def f_M_fill_L18 (F : Nat) (a0 : Option Nat) (a1 : Int32) (k : Mm → Int32 → Option (Int32 × Mm)) : Nat → Mm → Int32 → Int32 → Option (Int32 × Mm)
  | 0, _, _, _ => none
  | n + 1, u, a2, a3 => ob (jgi YM 5 0 u a0) fun (x5 : Int32) => (if x5 ≤ a3 then k u a2 else ob (jgr YM 5 7 a0) fun (r7 : Option Nat) => ob (jal YM u r7 a3) fun (x8 : Int32) => ob ((if x8 = a1 then ob (jgr YM 5 6 a0) fun (r11 : Option Nat) => ob (jal YM u r11 a3) fun (x12 : Int32) => (if (5 : Int32) ≤ x12 then some (0 : Int32) else some (1 : Int32)) else some (0 : Int32)) : Option (Int32)) fun q9 => ob (jgr YM 5 6 a0) fun (r14 : Option Nat) => ob ((if q9 = 0 then ob (jgr YM 5 6 a0) fun (r17 : Option Nat) => ob (jal YM u r17 a3) fun (x18 : Int32) => some x18 else some (9 : Int32)) : Option (Int32)) fun q15 => ob (jas YM u r14 a3 q15) fun (u19 : Mm) => ob ((if q9 = 0 then some (0 : Int32) else some (1 : Int32)) : Option (Int32)) fun q20 => ob (some (a2 + q20)) fun (x22 : Int32) => ob (some (a3 + (1 : Int32))) fun (x23 : Int32) => f_M_fill_L18 F a0 a1 k n u19 x22 x23)
set_option maxHeartbeats 4000000 in
set_option maxRecDepth 100000 in
theorem w_M_fill_L18 {p : Program} {l : Launch} {e : Env} {s : State} {m : MethodId} {args : Array Value} {below : List Frame} {meth : Method} {c : Code} {w : WP} {Q : State → Prop} (F : Nat) (C : yX p e ({ frames := 2, cells := 0, slots := 0, locals := 45 } : Room) s m args c YM w 5 prog_8_method_47_code "WhoseGlassModel") (hr : meth.sig.returnType = (some .int)) (hlocks : meth.locks = false) (a0 : Option Nat) (a1 : Int32) {out : Int32 × Mm} (k : Mm → Int32 → Option (Int32 × Mm)) (hk : ∀ (u : Mm) (a2 : Int32), k u a2 = some out → yG p l e ({ frames := 2, cells := 0, slots := 0, locals := 45 } : Room) s m args below meth c YM w 5 Q u 94 [(2, .int a2)] []) : ∀ (n : Nat) (u : Mm) (a2 : Int32) (a3 : Int32), f_M_fill_L18 F a0 a1 k n u a2 a3 = some out → yG p l e ({ frames := 2, cells := 0, slots := 0, locals := 45 } : Room) s m args below meth c YM w 5 Q u 18 [(0, va_re w.1 a0), (1, .int a1), (2, .int a2), (3, .int a3)] [] := by
  intro n
  induction n with
  | zero => intro u a2 a3 h; rw [f_M_fill_L18] at h; cases h
  | succ n ih =>
    intro u a2 a3 h
    rw [f_M_fill_L18] at h
    refine y_iload_n C (i := 3) 3 d_M_fill_18 rfl rfl ?_
    refine y_aload_n C (i := 0) 0 d_M_fill_19 rfl rfl ?_
    refine y_gi C (q := (yR5, yT5, 46)) (ci := 5) (k := 0) rfl (by decide) rfl g_784 d_M_fill_20 h (fun x5 h => ?_)
    refine y_ic_ge C 94 d_M_fill_23 (by decide) h (fun k6 h => ?_) (fun k6 h => ?_)
    · exact y_sub [2] rfl (hk _ _ h)
    · refine y_aload_n C (i := 0) 0 d_M_fill_26 rfl rfl ?_
      refine y_gr C (q := (yR5, yT5, 46)) (ci := 5) (k := 7) rfl (by decide) rfl (by decide) g_791 d_M_fill_27 h (fun r7 h => ?_)
      refine y_iload_n C (i := 3) 3 d_M_fill_30 rfl rfl ?_
      refine y_al C d_M_fill_31 h (fun x8 h => ?_)
      refine y_iload_n C (i := 1) 1 d_M_fill_32 rfl rfl ?_
      obtain ⟨q9, hq9, h⟩ := ob_e h
      have hJq9 : yG p l e ({ frames := 2, cells := 0, slots := 0, locals := 45 } : Room) s m args below meth c YM w 5 Q u 51 [(0, va_re w.1 a0), (1, .int a1), (2, .int a2), (3, .int a3)] [.int q9] := by
        refine y_istore C (i := 4) (lvp := [(0, va_re w.1 a0), (1, .int a1), (2, .int a2), (3, .int a3)]) d_M_fill_51 (by decide) rfl ?_
        refine y_aload_n C (i := 0) 1 d_M_fill_53 rfl rfl ?_
        refine y_gr C (q := (yR5, yT5, 46)) (ci := 5) (k := 6) rfl (by decide) rfl (by decide) g_790 d_M_fill_54 h (fun r14 h => ?_)
        refine y_iload_n C (i := 3) 4 d_M_fill_57 rfl rfl ?_
        refine y_iload C (i := 4) 0 d_M_fill_58 rfl ?_
        obtain ⟨q15, hq15, h⟩ := ob_e h
        have hJq15 : yG p l e ({ frames := 2, cells := 0, slots := 0, locals := 45 } : Room) s m args below meth c YM w 5 Q u 74 [(0, va_re w.1 a0), (1, .int a1), (2, .int a2), (3, .int a3), (4, .int q9)] [.int q15, .int a3, va_re w.1 r14] := by
          refine y_as C d_M_fill_74 h (fun u19 h => ?_)
          refine y_iload_n C (i := 2) 2 d_M_fill_75 rfl rfl ?_
          refine y_iload C (i := 4) 4 d_M_fill_76 rfl ?_
          obtain ⟨q20, hq20, h⟩ := ob_e h
          have hJq20 : yG p l e ({ frames := 2, cells := 0, slots := 0, locals := 45 } : Room) s m args below meth c YM w 5 Q u19 86 [(0, va_re w.1 a0), (1, .int a1), (3, .int a3)] [.int q20, .int a2] := by
            refine y_iadd C d_M_fill_86 ?_
            refine y_istore_nB C (i := 2) (lvp := [(0, va_re w.1 a0), (1, .int a1), (3, .int a3)]) d_M_fill_87 rfl (by decide) rfl h (fun x22 h => ?_)
            refine y_iinc C (j := 3) (v := 1) (lvp := [(2, .int x22), (0, va_re w.1 a0), (1, .int a1)]) d_M_fill_88 rfl (by decide) (by decide) rfl h (fun x23 h => ?_)
            refine y_goto C (tgt := 18) d_M_fill_91 (by decide) ?_
            exact y_sub [2, 3, 1, 0] rfl (ih _ _ _ h)
          refine y_if_eq C 85 d_M_fill_78 (by decide) hq20 (fun k21 hq20 => ?_) (fun k21 hq20 => ?_)
          · refine y_iconst C (v := 0) d_M_fill_85 (by decide) ?_
            cases hq20
            exact y_sub [0, 1, 3] rfl hJq20
          · refine y_iconst C (v := 1) d_M_fill_81 (by decide) ?_
            refine y_goto C (tgt := 86) d_M_fill_82 (by decide) ?_
            cases hq20
            exact y_sub [0, 1, 3] rfl hJq20
        refine y_if_eq C 68 d_M_fill_60 (by decide) hq15 (fun k16 hq15 => ?_) (fun k16 hq15 => ?_)
        · refine y_aload_n C (i := 0) 1 d_M_fill_68 rfl rfl ?_
          refine y_gr C (q := (yR5, yT5, 46)) (ci := 5) (k := 6) rfl (by decide) rfl (by decide) g_790 d_M_fill_69 hq15 (fun r17 hq15 => ?_)
          refine y_iload_n C (i := 3) 4 d_M_fill_72 rfl rfl ?_
          refine y_al C d_M_fill_73 hq15 (fun x18 hq15 => ?_)
          cases hq15
          exact y_sub [1, 2, 3, 4, 0] rfl hJq15
        · refine y_bipush C (v := 9) d_M_fill_63 (by decide) ?_
          refine y_goto C (tgt := 74) d_M_fill_65 (by decide) ?_
          cases hq15
          exact y_sub [1, 2, 3, 4, 0] rfl hJq15
      refine y_ic_ne C 50 d_M_fill_33 (by decide) hq9 (fun k10 hq9 => ?_) (fun k10 hq9 => ?_)
      · refine y_aload_n C (i := 0) 0 d_M_fill_36 rfl rfl ?_
        refine y_gr C (q := (yR5, yT5, 46)) (ci := 5) (k := 6) rfl (by decide) rfl (by decide) g_790 d_M_fill_37 hq9 (fun r11 hq9 => ?_)
        refine y_iload_n C (i := 3) 3 d_M_fill_40 rfl rfl ?_
        refine y_al C d_M_fill_41 hq9 (fun x12 hq9 => ?_)
        refine y_iconst C (v := 5) d_M_fill_42 (by decide) ?_
        refine y_ic_ge C 50 d_M_fill_43 (by decide) hq9 (fun k13 hq9 => ?_) (fun k13 hq9 => ?_)
        · refine y_iconst C (v := 0) d_M_fill_50 (by decide) ?_
          cases hq9
          exact y_sub [0, 1, 2, 3] rfl hJq9
        · refine y_iconst C (v := 1) d_M_fill_46 (by decide) ?_
          refine y_goto C (tgt := 51) d_M_fill_47 (by decide) ?_
          cases hq9
          exact y_sub [0, 1, 2, 3] rfl hJq9
      · refine y_iconst C (v := 0) d_M_fill_50 (by decide) ?_
        cases hq9
        exact y_sub [0, 1, 2, 3] rfl hJq9
set_option maxRecDepth 100000 in
def f_M_fill (F : Nat) (u : Mm) (o : Nat) (a1 : Int32) : Option (Int32 × Mm) := ob (jpi YM 5 23 u (some o) (0 : Int32)) fun (u1 : Mm) => yb (f_M_isPlace F u1 a1) fun x2 u3 => (if x2 = 0 then some ((-1 : Int32), u3) else f_M_fill_L18 F (some o) a1 (fun (u24 : Mm) (x25 : Int32) => some (x25, u24)) F u3 (0 : Int32) (0 : Int32))
set_option maxHeartbeats 4000000 in
set_option maxRecDepth 100000 in
theorem c_M_fill (l : Launch) (w : WP) (F : Nat) (u : Mm) (o : Nat) (a1 : Int32) (out : Int32 × Mm) (h : f_M_fill F u o a1 = some out) : yMet l m_M_fill ws_M_fill ({ frames := 2, cells := 0, slots := 0, locals := 45 } : Room) YM w u [va_re w.1 (some o), .int a1] yfi out := by
  refine y_entry (own := "WhoseGlassModel") (lv := [(0, va_re w.1 (some o)), (1, .int a1)]) (by decide +kernel) rfl (by simp [lv_args, y_cat, y_catI, y_catJ]) (by simp [lg_sl, y_cat, y_catI, y_catJ]) ?_
  intro p e s m args below meth c C hr hlocks
  unfold f_M_fill at h
  refine y_aload_n C (i := 0) 0 d_M_fill_0 rfl rfl ?_
  refine y_iconst C (v := 0) d_M_fill_1 (by decide) ?_
  refine y_pi C (q := (yR5, yT5, 46)) (ci := 5) (k := 23) rfl (by decide) rfl rfl (by decide +kernel) g_807 d_M_fill_2 h (fun u1 h => ?_)
  refine y_iload_n C (i := 1) 1 d_M_fill_5 rfl rfl ?_
  refine y_callS 1 C (fun out hh => c_M_isPlace l w F u1 a1 out hh) (y_gc g_1086) g_1084 g_6 g_1085 hn_M_isPlace ⟨Nat.le_of_ble_eq_true rfl, Nat.le_of_ble_eq_true rfl⟩ rfl rfl rfl rfl (by simp [y_cat, y_catI, y_catJ]) d_M_fill_6 h (fun x2 u3 h => ?_)
  refine y_stk (stp0 := [.int x2]) rfl ?_
  refine y_if_ne C 14 d_M_fill_9 (by decide) h (fun k4 h => ?_) (fun k4 h => ?_)
  · refine y_iconst C (v := -1) d_M_fill_12 (by decide) ?_
    exact y_iret C hr hlocks d_M_fill_13 h
  · refine y_iconst C (v := 0) d_M_fill_14 (by decide) ?_
    refine y_istore_n C (i := 2) (lvp := [(0, va_re w.1 (some o)), (1, .int a1)]) d_M_fill_15 rfl (by decide) rfl ?_
    refine y_iconst C (v := 0) d_M_fill_16 (by decide) ?_
    refine y_istore_n C (i := 3) (lvp := [(2, .int (0 : Int32)), (0, va_re w.1 (some o)), (1, .int a1)]) d_M_fill_17 rfl (by decide) rfl ?_
    refine y_sub [2, 3, 1, 0] rfl (w_M_fill_L18 F C hr hlocks _ _ _ (fun u24 x25 h => ?_) _ _ _ _ h)
    refine y_iload_n C (i := 2) 0 d_M_fill_94 rfl rfl ?_
    exact y_iret C hr hlocks d_M_fill_95 h
/-! M_sink -/
theorem d_M_sink_0 : decode prog_8_method_48_code 0 = .ok (.aload_n 0, 1) := by decide +kernel
theorem d_M_sink_1 : decode prog_8_method_48_code 1 = .ok (.getfield 23, 3) := by decide +kernel
theorem d_M_sink_4 : decode prog_8_method_48_code 4 = .ok (.iload_n 1, 1) := by decide +kernel
theorem d_M_sink_5 : decode prog_8_method_48_code 5 = .ok (.bipush 20, 2) := by decide +kernel
theorem d_M_sink_7 : decode prog_8_method_48_code 7 = .ok (.iastore, 1) := by decide +kernel
theorem d_M_sink_8 : decode prog_8_method_48_code 8 = .ok (.aload_n 0, 1) := by decide +kernel
theorem d_M_sink_9 : decode prog_8_method_48_code 9 = .ok (.getfield 26, 3) := by decide +kernel
theorem d_M_sink_12 : decode prog_8_method_48_code 12 = .ok (.iload_n 1, 1) := by decide +kernel
theorem d_M_sink_13 : decode prog_8_method_48_code 13 = .ok (.bipush (-4), 2) := by decide +kernel
theorem d_M_sink_15 : decode prog_8_method_48_code 15 = .ok (.iastore, 1) := by decide +kernel
theorem d_M_sink_16 : decode prog_8_method_48_code 16 = .ok (.aload_n 0, 1) := by decide +kernel
theorem d_M_sink_17 : decode prog_8_method_48_code 17 = .ok (.getfield 29, 3) := by decide +kernel
theorem d_M_sink_20 : decode prog_8_method_48_code 20 = .ok (.iload_n 1, 1) := by decide +kernel
theorem d_M_sink_21 : decode prog_8_method_48_code 21 = .ok (.iconst 0, 1) := by decide +kernel
theorem d_M_sink_22 : decode prog_8_method_48_code 22 = .ok (.iastore, 1) := by decide +kernel
theorem d_M_sink_23 : decode prog_8_method_48_code 23 = .ok (.aload_n 0, 1) := by decide +kernel
theorem d_M_sink_24 : decode prog_8_method_48_code 24 = .ok (.getfield 32, 3) := by decide +kernel
theorem d_M_sink_27 : decode prog_8_method_48_code 27 = .ok (.iload_n 1, 1) := by decide +kernel
theorem d_M_sink_28 : decode prog_8_method_48_code 28 = .ok (.iconst 0, 1) := by decide +kernel
theorem d_M_sink_29 : decode prog_8_method_48_code 29 = .ok (.iastore, 1) := by decide +kernel
theorem d_M_sink_30 : decode prog_8_method_48_code 30 = .ok (.aload_n 0, 1) := by decide +kernel
theorem d_M_sink_31 : decode prog_8_method_48_code 31 = .ok (.getfield 20, 3) := by decide +kernel
theorem d_M_sink_34 : decode prog_8_method_48_code 34 = .ok (.iload_n 1, 1) := by decide +kernel
theorem d_M_sink_35 : decode prog_8_method_48_code 35 = .ok (.iconst 0, 1) := by decide +kernel
theorem d_M_sink_36 : decode prog_8_method_48_code 36 = .ok (.iastore, 1) := by decide +kernel
theorem d_M_sink_37 : decode prog_8_method_48_code 37 = .ok (.return_, 1) := by decide +kernel
set_option maxRecDepth 100000 in
def f_M_sink (F : Nat) (u : Mm) (o : Nat) (a1 : Int32) : Option (Unit × Mm) := ob (jgr YM 5 7 (some o)) fun (r1 : Option Nat) => ob (jas YM u r1 a1 (20 : Int32)) fun (u2 : Mm) => ob (jgr YM 5 8 (some o)) fun (r3 : Option Nat) => ob (jas YM u2 r3 a1 (-4 : Int32)) fun (u4 : Mm) => ob (jgr YM 5 9 (some o)) fun (r5 : Option Nat) => ob (jas YM u4 r5 a1 (0 : Int32)) fun (u6 : Mm) => ob (jgr YM 5 10 (some o)) fun (r7 : Option Nat) => ob (jas YM u6 r7 a1 (0 : Int32)) fun (u8 : Mm) => ob (jgr YM 5 6 (some o)) fun (r9 : Option Nat) => ob (jas YM u8 r9 a1 (0 : Int32)) fun (u10 : Mm) => some ((), u10)
set_option maxHeartbeats 4000000 in
set_option maxRecDepth 100000 in
theorem c_M_sink (l : Launch) (w : WP) (F : Nat) (u : Mm) (o : Nat) (a1 : Int32) (out : Unit × Mm) (h : f_M_sink F u o a1 = some out) : yMet l m_M_sink ws_M_sink ({ frames := 0, cells := 0, slots := 0, locals := 0 } : Room) YM w u [va_re w.1 (some o), .int a1] yfv out := by
  refine y_entry (own := "WhoseGlassModel") (lv := [(0, va_re w.1 (some o)), (1, .int a1)]) (by decide +kernel) rfl (by simp [lv_args, y_cat, y_catI, y_catJ]) (by simp [lg_sl, y_cat, y_catI, y_catJ]) ?_
  intro p e s m args below meth c C hr hlocks
  unfold f_M_sink at h
  refine y_aload_n C (i := 0) 0 d_M_sink_0 rfl rfl ?_
  refine y_gr C (q := (yR5, yT5, 46)) (ci := 5) (k := 7) rfl (by decide) rfl (by decide) g_791 d_M_sink_1 h (fun r1 h => ?_)
  refine y_iload_n C (i := 1) 1 d_M_sink_4 rfl rfl ?_
  refine y_bipush C (v := 20) d_M_sink_5 (by decide) ?_
  refine y_as C d_M_sink_7 h (fun u2 h => ?_)
  refine y_aload_n C (i := 0) 0 d_M_sink_8 rfl rfl ?_
  refine y_gr C (q := (yR5, yT5, 46)) (ci := 5) (k := 8) rfl (by decide) rfl (by decide) g_792 d_M_sink_9 h (fun r3 h => ?_)
  refine y_iload_n C (i := 1) 1 d_M_sink_12 rfl rfl ?_
  refine y_bipush C (v := -4) d_M_sink_13 (by decide) ?_
  refine y_as C d_M_sink_15 h (fun u4 h => ?_)
  refine y_aload_n C (i := 0) 0 d_M_sink_16 rfl rfl ?_
  refine y_gr C (q := (yR5, yT5, 46)) (ci := 5) (k := 9) rfl (by decide) rfl (by decide) g_793 d_M_sink_17 h (fun r5 h => ?_)
  refine y_iload_n C (i := 1) 1 d_M_sink_20 rfl rfl ?_
  refine y_iconst C (v := 0) d_M_sink_21 (by decide) ?_
  refine y_as C d_M_sink_22 h (fun u6 h => ?_)
  refine y_aload_n C (i := 0) 0 d_M_sink_23 rfl rfl ?_
  refine y_gr C (q := (yR5, yT5, 46)) (ci := 5) (k := 10) rfl (by decide) rfl (by decide) g_794 d_M_sink_24 h (fun r7 h => ?_)
  refine y_iload_n C (i := 1) 1 d_M_sink_27 rfl rfl ?_
  refine y_iconst C (v := 0) d_M_sink_28 (by decide) ?_
  refine y_as C d_M_sink_29 h (fun u8 h => ?_)
  refine y_aload_n C (i := 0) 0 d_M_sink_30 rfl rfl ?_
  refine y_gr C (q := (yR5, yT5, 46)) (ci := 5) (k := 6) rfl (by decide) rfl (by decide) g_790 d_M_sink_31 h (fun r9 h => ?_)
  refine y_iload_n C (i := 1) 1 d_M_sink_34 rfl rfl ?_
  refine y_iconst C (v := 0) d_M_sink_35 (by decide) ?_
  refine y_as C d_M_sink_36 h (fun u10 h => ?_)
  exact y_vret C hr hlocks d_M_sink_37 h
/-! M_clear -/
theorem d_M_clear_0 : decode prog_8_method_49_code 0 = .ok (.aload_n 0, 1) := by decide +kernel
theorem d_M_clear_1 : decode prog_8_method_49_code 1 = .ok (.iconst 0, 1) := by decide +kernel
theorem d_M_clear_2 : decode prog_8_method_49_code 2 = .ok (.putfield 102, 3) := by decide +kernel
theorem d_M_clear_5 : decode prog_8_method_49_code 5 = .ok (.iload_n 1, 1) := by decide +kernel
theorem d_M_clear_6 : decode prog_8_method_49_code 6 = .ok (.invokestatic 265, 3) := by decide +kernel
theorem d_M_clear_9 : decode prog_8_method_49_code 9 = .ok (.ifCond .eq 15, 3) := by decide +kernel
theorem d_M_clear_12 : decode prog_8_method_49_code 12 = .ok (.iload_n 2, 1) := by decide +kernel
theorem d_M_clear_13 : decode prog_8_method_49_code 13 = .ok (.i2l, 1) := by decide +kernel
theorem d_M_clear_14 : decode prog_8_method_49_code 14 = .ok (.lconst 0, 1) := by decide +kernel
theorem d_M_clear_15 : decode prog_8_method_49_code 15 = .ok (.ldc2_w 271, 3) := by decide +kernel
theorem d_M_clear_18 : decode prog_8_method_49_code 18 = .ok (.invokestatic 108, 3) := by decide +kernel
theorem d_M_clear_21 : decode prog_8_method_49_code 21 = .ok (.ifCond .ne 5, 3) := by decide +kernel
theorem d_M_clear_24 : decode prog_8_method_49_code 24 = .ok (.iconst (-1), 1) := by decide +kernel
theorem d_M_clear_25 : decode prog_8_method_49_code 25 = .ok (.ireturn, 1) := by decide +kernel
theorem d_M_clear_26 : decode prog_8_method_49_code 26 = .ok (.iconst 0, 1) := by decide +kernel
theorem d_M_clear_27 : decode prog_8_method_49_code 27 = .ok (.istore_n 3, 1) := by decide +kernel
theorem d_M_clear_28 : decode prog_8_method_49_code 28 = .ok (.iconst 0, 1) := by decide +kernel
theorem d_M_clear_29 : decode prog_8_method_49_code 29 = .ok (.istore 4, 2) := by decide +kernel
theorem d_M_clear_31 : decode prog_8_method_49_code 31 = .ok (.iload 4, 2) := by decide +kernel
theorem d_M_clear_33 : decode prog_8_method_49_code 33 = .ok (.aload_n 0, 1) := by decide +kernel
theorem d_M_clear_34 : decode prog_8_method_49_code 34 = .ok (.getfield 105, 3) := by decide +kernel
theorem d_M_clear_37 : decode prog_8_method_49_code 37 = .ok (.if_icmp .ge 45, 3) := by decide +kernel
theorem d_M_clear_40 : decode prog_8_method_49_code 40 = .ok (.aload_n 0, 1) := by decide +kernel
theorem d_M_clear_41 : decode prog_8_method_49_code 41 = .ok (.getfield 23, 3) := by decide +kernel
theorem d_M_clear_44 : decode prog_8_method_49_code 44 = .ok (.iload 4, 2) := by decide +kernel
theorem d_M_clear_46 : decode prog_8_method_49_code 46 = .ok (.iaload, 1) := by decide +kernel
theorem d_M_clear_47 : decode prog_8_method_49_code 47 = .ok (.iload_n 1, 1) := by decide +kernel
theorem d_M_clear_48 : decode prog_8_method_49_code 48 = .ok (.if_icmp .ne 28, 3) := by decide +kernel
theorem d_M_clear_51 : decode prog_8_method_49_code 51 = .ok (.aload_n 0, 1) := by decide +kernel
theorem d_M_clear_52 : decode prog_8_method_49_code 52 = .ok (.getfield 133, 3) := by decide +kernel
theorem d_M_clear_55 : decode prog_8_method_49_code 55 = .ok (.aload_n 0, 1) := by decide +kernel
theorem d_M_clear_56 : decode prog_8_method_49_code 56 = .ok (.getfield 26, 3) := by decide +kernel
theorem d_M_clear_59 : decode prog_8_method_49_code 59 = .ok (.iload 4, 2) := by decide +kernel
theorem d_M_clear_61 : decode prog_8_method_49_code 61 = .ok (.iaload, 1) := by decide +kernel
theorem d_M_clear_62 : decode prog_8_method_49_code 62 = .ok (.isub, 1) := by decide +kernel
theorem d_M_clear_63 : decode prog_8_method_49_code 63 = .ok (.iload_n 2, 1) := by decide +kernel
theorem d_M_clear_64 : decode prog_8_method_49_code 64 = .ok (.if_icmp .lt 12, 3) := by decide +kernel
theorem d_M_clear_67 : decode prog_8_method_49_code 67 = .ok (.aload_n 0, 1) := by decide +kernel
theorem d_M_clear_68 : decode prog_8_method_49_code 68 = .ok (.iload 4, 2) := by decide +kernel
theorem d_M_clear_70 : decode prog_8_method_49_code 70 = .ok (.invokevirtual 273, 3) := by decide +kernel
theorem d_M_clear_73 : decode prog_8_method_49_code 73 = .ok (.iinc 3 1, 3) := by decide +kernel
theorem d_M_clear_76 : decode prog_8_method_49_code 76 = .ok (.iinc 4 1, 3) := by decide +kernel
theorem d_M_clear_79 : decode prog_8_method_49_code 79 = .ok (.goto (-48), 3) := by decide +kernel
theorem d_M_clear_82 : decode prog_8_method_49_code 82 = .ok (.iload_n 3, 1) := by decide +kernel
theorem d_M_clear_83 : decode prog_8_method_49_code 83 = .ok (.ireturn, 1) := by decide +kernel
theorem gc_M_clear_273 : GoodIn yGW (wsV "WhoseGlassModel" 273 yR5 m_M_sink ws_M_sink) := y_gV g_1117 g_1119 gs_43 g_6 g_1120
set_option maxHeartbeats 4000000 in
set_option maxRecDepth 100000 in
def f_M_clear_L31 (F : Nat) (a0 : Option Nat) (a1 : Int32) (a2 : Int32) (k : Mm → Int32 → Option (Int32 × Mm)) : Nat → Mm → Int32 → Int32 → Option (Int32 × Mm)
  | 0, _, _, _ => none
  | n + 1, u, a3, a4 => ob (jgi YM 5 0 u a0) fun (x8 : Int32) => (if x8 ≤ a4 then k u a3 else ob (jgr YM 5 7 a0) fun (r10 : Option Nat) => ob (jal YM u r10 a4) fun (x11 : Int32) => ob ((if x11 = a1 then ob (jgi YM 5 3 u a0) fun (x14 : Int32) => ob (jgr YM 5 8 a0) fun (r15 : Option Nat) => ob (jal YM u r15 a4) fun (x16 : Int32) => (if (x14 - x16) < a2 then some (a3, u) else ob (jk YM 5 a0) fun t => yb (f_M_sink F u t a4) fun v18 u19 => ob (some (a3 + (1 : Int32))) fun (x20 : Int32) => some (x20, u19)) else some (a3, u)) : Option (Int32 × Mm)) fun q12 => ob (some (a4 + (1 : Int32))) fun (x21 : Int32) => f_M_clear_L31 F a0 a1 a2 k n q12.2 q12.1 x21)
set_option maxHeartbeats 4000000 in
set_option maxRecDepth 100000 in
theorem w_M_clear_L31 {p : Program} {l : Launch} {e : Env} {s : State} {m : MethodId} {args : Array Value} {below : List Frame} {meth : Method} {c : Code} {w : WP} {Q : State → Prop} (F : Nat) (C : yX p e ({ frames := 2, cells := 0, slots := 0, locals := 45 } : Room) s m args c YM w 5 prog_8_method_49_code "WhoseGlassModel") (hr : meth.sig.returnType = (some .int)) (hlocks : meth.locks = false) (a0 : Option Nat) (a1 : Int32) (a2 : Int32) {out : Int32 × Mm} (k : Mm → Int32 → Option (Int32 × Mm)) (hk : ∀ (u : Mm) (a3 : Int32), k u a3 = some out → yG p l e ({ frames := 2, cells := 0, slots := 0, locals := 45 } : Room) s m args below meth c YM w 5 Q u 82 [(3, .int a3)] []) : ∀ (n : Nat) (u : Mm) (a3 : Int32) (a4 : Int32), f_M_clear_L31 F a0 a1 a2 k n u a3 a4 = some out → yG p l e ({ frames := 2, cells := 0, slots := 0, locals := 45 } : Room) s m args below meth c YM w 5 Q u 31 [(0, va_re w.1 a0), (1, .int a1), (2, .int a2), (3, .int a3), (4, .int a4)] [] := by
  intro n
  induction n with
  | zero => intro u a3 a4 h; rw [f_M_clear_L31] at h; cases h
  | succ n ih =>
    intro u a3 a4 h
    rw [f_M_clear_L31] at h
    refine y_iload C (i := 4) 4 d_M_clear_31 rfl ?_
    refine y_aload_n C (i := 0) 0 d_M_clear_33 rfl rfl ?_
    refine y_gi C (q := (yR5, yT5, 46)) (ci := 5) (k := 0) rfl (by decide) rfl g_784 d_M_clear_34 h (fun x8 h => ?_)
    refine y_ic_ge C 82 d_M_clear_37 (by decide) h (fun k9 h => ?_) (fun k9 h => ?_)
    · exact y_sub [3] rfl (hk _ _ h)
    · refine y_aload_n C (i := 0) 0 d_M_clear_40 rfl rfl ?_
      refine y_gr C (q := (yR5, yT5, 46)) (ci := 5) (k := 7) rfl (by decide) rfl (by decide) g_791 d_M_clear_41 h (fun r10 h => ?_)
      refine y_iload C (i := 4) 4 d_M_clear_44 rfl ?_
      refine y_al C d_M_clear_46 h (fun x11 h => ?_)
      refine y_iload_n C (i := 1) 1 d_M_clear_47 rfl rfl ?_
      obtain ⟨q12, hq12, h⟩ := ob_e h
      have hJq12 : yG p l e ({ frames := 2, cells := 0, slots := 0, locals := 45 } : Room) s m args below meth c YM w 5 Q q12.2 76 [(0, va_re w.1 a0), (1, .int a1), (2, .int a2), (3, .int q12.1), (4, .int a4)] [] := by
        refine y_iinc C (j := 4) (v := 1) (lvp := [(0, va_re w.1 a0), (1, .int a1), (2, .int a2), (3, .int q12.1)]) d_M_clear_76 rfl (by decide) (by decide) rfl h (fun x21 h => ?_)
        refine y_goto C (tgt := 31) d_M_clear_79 (by decide) ?_
        exact y_sub [1, 2, 3, 4, 0] rfl (ih _ _ _ h)
      refine y_ic_ne C 76 d_M_clear_48 (by decide) hq12 (fun k13 hq12 => ?_) (fun k13 hq12 => ?_)
      · refine y_aload_n C (i := 0) 0 d_M_clear_51 rfl rfl ?_
        refine y_gi C (q := (yR5, yT5, 46)) (ci := 5) (k := 3) rfl (by decide) rfl g_787 d_M_clear_52 hq12 (fun x14 hq12 => ?_)
        refine y_aload_n C (i := 0) 0 d_M_clear_55 rfl rfl ?_
        refine y_gr C (q := (yR5, yT5, 46)) (ci := 5) (k := 8) rfl (by decide) rfl (by decide) g_792 d_M_clear_56 hq12 (fun r15 hq12 => ?_)
        refine y_iload C (i := 4) 4 d_M_clear_59 rfl ?_
        refine y_al C d_M_clear_61 hq12 (fun x16 hq12 => ?_)
        refine y_isub C d_M_clear_62 ?_
        refine y_iload_n C (i := 2) 2 d_M_clear_63 rfl rfl ?_
        refine y_ic_lt C 76 d_M_clear_64 (by decide) hq12 (fun k17 hq12 => ?_) (fun k17 hq12 => ?_)
        · cases hq12
          exact y_sub [0, 1, 2, 3, 4] rfl hJq12
        · refine y_aload_n C (i := 0) 0 d_M_clear_67 rfl rfl ?_
          refine y_iload C (i := 4) 4 d_M_clear_68 rfl ?_
          refine y_callV 1 C (q := (yR5, yT5, 46)) (ci := 5) (fun t out hh => c_M_sink l w F u t a4 out hh) gc_M_clear_273 rfl (by decide) hd_M_sink ⟨Nat.le_of_ble_eq_true rfl, Nat.le_of_ble_eq_true rfl⟩ rfl rfl rfl rfl (by simp [y_cat, y_catI, y_catJ]) d_M_clear_70 hq12 (fun v18 u19 hq12 => ?_)
          refine y_stk (stp0 := []) rfl ?_
          refine y_iinc C (j := 3) (v := 1) (lvp := [(0, va_re w.1 a0), (1, .int a1), (2, .int a2), (4, .int a4)]) d_M_clear_73 rfl (by decide) (by decide) rfl hq12 (fun x20 hq12 => ?_)
          cases hq12
          exact y_sub [1, 2, 3, 0, 4] rfl hJq12
      · cases hq12
        exact y_sub [0, 1, 2, 3, 4] rfl hJq12
set_option maxRecDepth 100000 in
def f_M_clear (F : Nat) (u : Mm) (o : Nat) (a1 : Int32) (a2 : Int32) : Option (Int32 × Mm) := ob (jpi YM 5 23 u (some o) (0 : Int32)) fun (u1 : Mm) => yb (f_M_isPlace F u1 a1) fun x2 u3 => (if x2 = 0 then some ((-1 : Int32), u3) else yb (f_M_in F u3 (a2.toInt64) (0 : Int64) (99 : Int64)) fun x5 u6 => (if x5 = 0 then some ((-1 : Int32), u6) else f_M_clear_L31 F (some o) a1 a2 (fun (u22 : Mm) (x23 : Int32) => some (x23, u22)) F u6 (0 : Int32) (0 : Int32)))
set_option maxHeartbeats 4000000 in
set_option maxRecDepth 100000 in
theorem c_M_clear (l : Launch) (w : WP) (F : Nat) (u : Mm) (o : Nat) (a1 : Int32) (a2 : Int32) (out : Int32 × Mm) (h : f_M_clear F u o a1 a2 = some out) : yMet l m_M_clear ws_M_clear ({ frames := 2, cells := 0, slots := 0, locals := 45 } : Room) YM w u [va_re w.1 (some o), .int a1, .int a2] yfi out := by
  refine y_entry (own := "WhoseGlassModel") (lv := [(0, va_re w.1 (some o)), (1, .int a1), (2, .int a2)]) (by decide +kernel) rfl (by simp [lv_args, y_cat, y_catI, y_catJ]) (by simp [lg_sl, y_cat, y_catI, y_catJ]) ?_
  intro p e s m args below meth c C hr hlocks
  unfold f_M_clear at h
  refine y_aload_n C (i := 0) 0 d_M_clear_0 rfl rfl ?_
  refine y_iconst C (v := 0) d_M_clear_1 (by decide) ?_
  refine y_pi C (q := (yR5, yT5, 46)) (ci := 5) (k := 23) rfl (by decide) rfl rfl (by decide +kernel) g_807 d_M_clear_2 h (fun u1 h => ?_)
  refine y_iload_n C (i := 1) 1 d_M_clear_5 rfl rfl ?_
  refine y_callS 1 C (fun out hh => c_M_isPlace l w F u1 a1 out hh) (y_gc g_1086) g_1084 g_6 g_1085 hn_M_isPlace ⟨Nat.le_of_ble_eq_true rfl, Nat.le_of_ble_eq_true rfl⟩ rfl rfl rfl rfl (by simp [y_cat, y_catI, y_catJ]) d_M_clear_6 h (fun x2 u3 h => ?_)
  refine y_stk (stp0 := [.int x2]) rfl ?_
  refine y_if_eq C 24 d_M_clear_9 (by decide) h (fun k4 h => ?_) (fun k4 h => ?_)
  · refine y_iconst C (v := -1) d_M_clear_24 (by decide) ?_
    exact y_iret C hr hlocks d_M_clear_25 h
  · refine y_iload_n C (i := 2) 2 d_M_clear_12 rfl rfl ?_
    refine y_i2l C d_M_clear_13 ?_
    refine y_lconst C (v := 0) d_M_clear_14 (by decide) ?_
    refine y_ldc2 C d_M_clear_15 g_1116 ?_
    refine y_callS 3 C (fun out hh => c_M_in l w F u3 (a2.toInt64) (0 : Int64) (99 : Int64) out hh) (y_gc g_959) g_957 g_6 g_958 hn_M_in ⟨Nat.le_of_ble_eq_true rfl, Nat.le_of_ble_eq_true rfl⟩ rfl rfl rfl rfl (by simp [y_cat, y_catI, y_catJ]) d_M_clear_18 h (fun x5 u6 h => ?_)
    refine y_stk (stp0 := [.int x5]) rfl ?_
    refine y_if_ne C 26 d_M_clear_21 (by decide) h (fun k7 h => ?_) (fun k7 h => ?_)
    · refine y_iconst C (v := -1) d_M_clear_24 (by decide) ?_
      exact y_iret C hr hlocks d_M_clear_25 h
    · refine y_iconst C (v := 0) d_M_clear_26 (by decide) ?_
      refine y_istore_n C (i := 3) (lvp := [(0, va_re w.1 (some o)), (1, .int a1), (2, .int a2)]) d_M_clear_27 rfl (by decide) rfl ?_
      refine y_iconst C (v := 0) d_M_clear_28 (by decide) ?_
      refine y_istore C (i := 4) (lvp := [(3, .int (0 : Int32)), (0, va_re w.1 (some o)), (1, .int a1), (2, .int a2)]) d_M_clear_29 (by decide) rfl ?_
      refine y_sub [2, 3, 4, 1, 0] rfl (w_M_clear_L31 F C hr hlocks _ _ _ _ (fun u22 x23 h => ?_) _ _ _ _ h)
      refine y_iload_n C (i := 3) 0 d_M_clear_82 rfl rfl ?_
      exact y_iret C hr hlocks d_M_clear_83 h
/-! M_goThrough -/
theorem d_M_goThrough_0 : decode prog_8_method_27_code 0 = .ok (.aload_n 0, 1) := by decide +kernel
theorem d_M_goThrough_1 : decode prog_8_method_27_code 1 = .ok (.iconst 0, 1) := by decide +kernel
theorem d_M_goThrough_2 : decode prog_8_method_27_code 2 = .ok (.putfield 146, 3) := by decide +kernel
theorem d_M_goThrough_5 : decode prog_8_method_27_code 5 = .ok (.aload_n 0, 1) := by decide +kernel
theorem d_M_goThrough_6 : decode prog_8_method_27_code 6 = .ok (.iconst 0, 1) := by decide +kernel
theorem d_M_goThrough_7 : decode prog_8_method_27_code 7 = .ok (.putfield 157, 3) := by decide +kernel
theorem d_M_goThrough_10 : decode prog_8_method_27_code 10 = .ok (.iconst 0, 1) := by decide +kernel
theorem d_M_goThrough_11 : decode prog_8_method_27_code 11 = .ok (.istore_n 2, 1) := by decide +kernel
theorem d_M_goThrough_12 : decode prog_8_method_27_code 12 = .ok (.iload_n 2, 1) := by decide +kernel
theorem d_M_goThrough_13 : decode prog_8_method_27_code 13 = .ok (.iload_n 1, 1) := by decide +kernel
theorem d_M_goThrough_14 : decode prog_8_method_27_code 14 = .ok (.if_icmp .ge 13, 3) := by decide +kernel
theorem d_M_goThrough_17 : decode prog_8_method_27_code 17 = .ok (.aload_n 0, 1) := by decide +kernel
theorem d_M_goThrough_18 : decode prog_8_method_27_code 18 = .ok (.invokevirtual 193, 3) := by decide +kernel
theorem d_M_goThrough_21 : decode prog_8_method_27_code 21 = .ok (.iinc 2 1, 3) := by decide +kernel
theorem d_M_goThrough_24 : decode prog_8_method_27_code 24 = .ok (.goto (-12), 3) := by decide +kernel
theorem d_M_goThrough_27 : decode prog_8_method_27_code 27 = .ok (.return_, 1) := by decide +kernel
theorem gc_M_goThrough_193 : GoodIn yGW (wsV "WhoseGlassModel" 193 yR5 m_M_minuteOn ws_M_minuteOn) := y_gV g_1014 g_1016 gs_28 g_6 g_1017
set_option maxHeartbeats 4000000 in
set_option maxRecDepth 100000 in
def f_M_goThrough_L12 (F : Nat) (a0 : Option Nat) (a1 : Int32) (k : Mm → Option (Unit × Mm)) : Nat → Mm → Int32 → Option (Unit × Mm)
  | 0, _, _ => none
  | n + 1, u, a2 => (if a1 ≤ a2 then k u  else ob (jk YM 5 a0) fun t => yb (f_M_minuteOn F u t ) fun v4 u5 => ob (some (a2 + (1 : Int32))) fun (x6 : Int32) => f_M_goThrough_L12 F a0 a1 k n u5 x6)
set_option maxHeartbeats 4000000 in
set_option maxRecDepth 100000 in
theorem w_M_goThrough_L12 {p : Program} {l : Launch} {e : Env} {s : State} {m : MethodId} {args : Array Value} {below : List Frame} {meth : Method} {c : Code} {w : WP} {Q : State → Prop} (F : Nat) (C : yX p e ({ frames := 7, cells := 0, slots := 0, locals := 159 } : Room) s m args c YM w 3 prog_8_method_27_code "WhoseGlassModel") (hr : meth.sig.returnType = none) (hlocks : meth.locks = false) (a0 : Option Nat) (a1 : Int32) {out : Unit × Mm} (k : Mm → Option (Unit × Mm)) (hk : ∀ (u : Mm), k u  = some out → yG p l e ({ frames := 7, cells := 0, slots := 0, locals := 159 } : Room) s m args below meth c YM w 3 Q u 27 [] []) : ∀ (n : Nat) (u : Mm) (a2 : Int32), f_M_goThrough_L12 F a0 a1 k n u a2 = some out → yG p l e ({ frames := 7, cells := 0, slots := 0, locals := 159 } : Room) s m args below meth c YM w 3 Q u 12 [(0, va_re w.1 a0), (1, .int a1), (2, .int a2)] [] := by
  intro n
  induction n with
  | zero => intro u a2 h; rw [f_M_goThrough_L12] at h; cases h
  | succ n ih =>
    intro u a2 h
    rw [f_M_goThrough_L12] at h
    refine y_iload_n C (i := 2) 2 d_M_goThrough_12 rfl rfl ?_
    refine y_iload_n C (i := 1) 1 d_M_goThrough_13 rfl rfl ?_
    refine y_ic_ge C 27 d_M_goThrough_14 (by decide) h (fun k3 h => ?_) (fun k3 h => ?_)
    · exact y_sub [] rfl (hk _ h)
    · refine y_aload_n C (i := 0) 0 d_M_goThrough_17 rfl rfl ?_
      refine y_callV 0 C (q := (yR5, yT5, 46)) (ci := 5) (fun t out hh => c_M_minuteOn l w F u t out hh) gc_M_goThrough_193 rfl (by decide) hd_M_minuteOn ⟨Nat.le_of_ble_eq_true rfl, Nat.le_of_ble_eq_true rfl⟩ rfl rfl rfl rfl (by simp [y_cat, y_catI, y_catJ]) d_M_goThrough_18 h (fun v4 u5 h => ?_)
      refine y_stk (stp0 := []) rfl ?_
      refine y_iinc C (j := 2) (v := 1) (lvp := [(0, va_re w.1 a0), (1, .int a1)]) d_M_goThrough_21 rfl (by decide) (by decide) rfl h (fun x6 h => ?_)
      refine y_goto C (tgt := 12) d_M_goThrough_24 (by decide) ?_
      exact y_sub [1, 2, 0] rfl (ih _ _ h)
set_option maxRecDepth 100000 in
def f_M_goThrough (F : Nat) (u : Mm) (o : Nat) (a1 : Int32) : Option (Unit × Mm) := ob (jpi YM 5 20 u (some o) (0 : Int32)) fun (u1 : Mm) => ob (jpi YM 5 21 u1 (some o) (0 : Int32)) fun (u2 : Mm) => f_M_goThrough_L12 F (some o) a1 (fun (u7 : Mm) => some ((), u7)) F u2 (0 : Int32)
set_option maxHeartbeats 4000000 in
set_option maxRecDepth 100000 in
theorem c_M_goThrough (l : Launch) (w : WP) (F : Nat) (u : Mm) (o : Nat) (a1 : Int32) (out : Unit × Mm) (h : f_M_goThrough F u o a1 = some out) : yMet l m_M_goThrough ws_M_goThrough ({ frames := 7, cells := 0, slots := 0, locals := 159 } : Room) YM w u [va_re w.1 (some o), .int a1] yfv out := by
  refine y_entry (own := "WhoseGlassModel") (lv := [(0, va_re w.1 (some o)), (1, .int a1)]) (by decide +kernel) rfl (by simp [lv_args, y_cat, y_catI, y_catJ]) (by simp [lg_sl, y_cat, y_catI, y_catJ]) ?_
  intro p e s m args below meth c C hr hlocks
  unfold f_M_goThrough at h
  refine y_aload_n C (i := 0) 0 d_M_goThrough_0 rfl rfl ?_
  refine y_iconst C (v := 0) d_M_goThrough_1 (by decide) ?_
  refine y_pi C (q := (yR5, yT5, 46)) (ci := 5) (k := 20) rfl (by decide) rfl rfl (by decide +kernel) g_804 d_M_goThrough_2 h (fun u1 h => ?_)
  refine y_aload_n C (i := 0) 0 d_M_goThrough_5 rfl rfl ?_
  refine y_iconst C (v := 0) d_M_goThrough_6 (by decide) ?_
  refine y_pi C (q := (yR5, yT5, 46)) (ci := 5) (k := 21) rfl (by decide) rfl rfl (by decide +kernel) g_805 d_M_goThrough_7 h (fun u2 h => ?_)
  refine y_iconst C (v := 0) d_M_goThrough_10 (by decide) ?_
  refine y_istore_n C (i := 2) (lvp := [(0, va_re w.1 (some o)), (1, .int a1)]) d_M_goThrough_11 rfl (by decide) rfl ?_
  refine y_sub [1, 2, 0] rfl (w_M_goThrough_L12 F C hr hlocks _ _ _ (fun u7 h => ?_) _ _ _ h)
  exact y_vret C hr hlocks d_M_goThrough_27 h
/-! M_minutes -/
theorem d_M_minutes_0 : decode prog_8_method_50_code 0 = .ok (.aload_n 0, 1) := by decide +kernel
theorem d_M_minutes_1 : decode prog_8_method_50_code 1 = .ok (.iconst 0, 1) := by decide +kernel
theorem d_M_minutes_2 : decode prog_8_method_50_code 2 = .ok (.putfield 102, 3) := by decide +kernel
theorem d_M_minutes_5 : decode prog_8_method_50_code 5 = .ok (.iload_n 1, 1) := by decide +kernel
theorem d_M_minutes_6 : decode prog_8_method_50_code 6 = .ok (.i2l, 1) := by decide +kernel
theorem d_M_minutes_7 : decode prog_8_method_50_code 7 = .ok (.lconst 1, 1) := by decide +kernel
theorem d_M_minutes_8 : decode prog_8_method_50_code 8 = .ok (.ldc2_w 271, 3) := by decide +kernel
theorem d_M_minutes_11 : decode prog_8_method_50_code 11 = .ok (.invokestatic 108, 3) := by decide +kernel
theorem d_M_minutes_14 : decode prog_8_method_50_code 14 = .ok (.ifCond .ne 5, 3) := by decide +kernel
theorem d_M_minutes_17 : decode prog_8_method_50_code 17 = .ok (.iconst (-1), 1) := by decide +kernel
theorem d_M_minutes_18 : decode prog_8_method_50_code 18 = .ok (.ireturn, 1) := by decide +kernel
theorem d_M_minutes_19 : decode prog_8_method_50_code 19 = .ok (.aload_n 0, 1) := by decide +kernel
theorem d_M_minutes_20 : decode prog_8_method_50_code 20 = .ok (.getfield 133, 3) := by decide +kernel
theorem d_M_minutes_23 : decode prog_8_method_50_code 23 = .ok (.iload_n 1, 1) := by decide +kernel
theorem d_M_minutes_24 : decode prog_8_method_50_code 24 = .ok (.iadd, 1) := by decide +kernel
theorem d_M_minutes_25 : decode prog_8_method_50_code 25 = .ok (.sipush 999, 3) := by decide +kernel
theorem d_M_minutes_28 : decode prog_8_method_50_code 28 = .ok (.if_icmp .le 6, 3) := by decide +kernel
theorem d_M_minutes_31 : decode prog_8_method_50_code 31 = .ok (.bipush (-2), 2) := by decide +kernel
theorem d_M_minutes_33 : decode prog_8_method_50_code 33 = .ok (.ireturn, 1) := by decide +kernel
theorem d_M_minutes_34 : decode prog_8_method_50_code 34 = .ok (.aload_n 0, 1) := by decide +kernel
theorem d_M_minutes_35 : decode prog_8_method_50_code 35 = .ok (.iload_n 1, 1) := by decide +kernel
theorem d_M_minutes_36 : decode prog_8_method_50_code 36 = .ok (.invokevirtual 276, 3) := by decide +kernel
theorem d_M_minutes_39 : decode prog_8_method_50_code 39 = .ok (.aload_n 0, 1) := by decide +kernel
theorem d_M_minutes_40 : decode prog_8_method_50_code 40 = .ok (.getfield 133, 3) := by decide +kernel
theorem d_M_minutes_43 : decode prog_8_method_50_code 43 = .ok (.ireturn, 1) := by decide +kernel
theorem gc_M_minutes_276 : GoodIn yGW (wsV "WhoseGlassModel" 276 yR5 m_M_goThrough ws_M_goThrough) := y_gV g_1125 g_1127 gs_44 g_6 g_1128
set_option maxRecDepth 100000 in
def f_M_minutes (F : Nat) (u : Mm) (o : Nat) (a1 : Int32) : Option (Int32 × Mm) := ob (jpi YM 5 23 u (some o) (0 : Int32)) fun (u1 : Mm) => yb (f_M_in F u1 (a1.toInt64) (1 : Int64) (99 : Int64)) fun x2 u3 => (if x2 = 0 then some ((-1 : Int32), u3) else ob (jgi YM 5 3 u3 (some o)) fun (x5 : Int32) => (if (x5 + a1) ≤ (999 : Int32) then ob (jk YM 5 (some o)) fun t => yb (f_M_goThrough F u3 t a1) fun v7 u8 => ob (jgi YM 5 3 u8 (some o)) fun (x9 : Int32) => some (x9, u8) else some ((-2 : Int32), u3)))
set_option maxHeartbeats 4000000 in
set_option maxRecDepth 100000 in
theorem c_M_minutes (l : Launch) (w : WP) (F : Nat) (u : Mm) (o : Nat) (a1 : Int32) (out : Int32 × Mm) (h : f_M_minutes F u o a1 = some out) : yMet l m_M_minutes ws_M_minutes ({ frames := 8, cells := 0, slots := 0, locals := 181 } : Room) YM w u [va_re w.1 (some o), .int a1] yfi out := by
  refine y_entry (own := "WhoseGlassModel") (lv := [(0, va_re w.1 (some o)), (1, .int a1)]) (by decide +kernel) rfl (by simp [lv_args, y_cat, y_catI, y_catJ]) (by simp [lg_sl, y_cat, y_catI, y_catJ]) ?_
  intro p e s m args below meth c C hr hlocks
  unfold f_M_minutes at h
  refine y_aload_n C (i := 0) 0 d_M_minutes_0 rfl rfl ?_
  refine y_iconst C (v := 0) d_M_minutes_1 (by decide) ?_
  refine y_pi C (q := (yR5, yT5, 46)) (ci := 5) (k := 23) rfl (by decide) rfl rfl (by decide +kernel) g_807 d_M_minutes_2 h (fun u1 h => ?_)
  refine y_iload_n C (i := 1) 1 d_M_minutes_5 rfl rfl ?_
  refine y_i2l C d_M_minutes_6 ?_
  refine y_lconst C (v := 1) d_M_minutes_7 (by decide) ?_
  refine y_ldc2 C d_M_minutes_8 g_1116 ?_
  refine y_callS 3 C (fun out hh => c_M_in l w F u1 (a1.toInt64) (1 : Int64) (99 : Int64) out hh) (y_gc g_959) g_957 g_6 g_958 hn_M_in ⟨Nat.le_of_ble_eq_true rfl, Nat.le_of_ble_eq_true rfl⟩ rfl rfl rfl rfl (by simp [y_cat, y_catI, y_catJ]) d_M_minutes_11 h (fun x2 u3 h => ?_)
  refine y_stk (stp0 := [.int x2]) rfl ?_
  refine y_if_ne C 19 d_M_minutes_14 (by decide) h (fun k4 h => ?_) (fun k4 h => ?_)
  · refine y_iconst C (v := -1) d_M_minutes_17 (by decide) ?_
    exact y_iret C hr hlocks d_M_minutes_18 h
  · refine y_aload_n C (i := 0) 0 d_M_minutes_19 rfl rfl ?_
    refine y_gi C (q := (yR5, yT5, 46)) (ci := 5) (k := 3) rfl (by decide) rfl g_787 d_M_minutes_20 h (fun x5 h => ?_)
    refine y_iload_n C (i := 1) 1 d_M_minutes_23 rfl rfl ?_
    refine y_iadd C d_M_minutes_24 ?_
    refine y_sipush C (v := 999) d_M_minutes_25 (by decide) ?_
    refine y_ic_le C 34 d_M_minutes_28 (by decide) h (fun k6 h => ?_) (fun k6 h => ?_)
    · refine y_aload_n C (i := 0) 0 d_M_minutes_34 rfl rfl ?_
      refine y_iload_n C (i := 1) 1 d_M_minutes_35 rfl rfl ?_
      refine y_callV 1 C (q := (yR5, yT5, 46)) (ci := 5) (fun t out hh => c_M_goThrough l w F u3 t a1 out hh) gc_M_minutes_276 rfl (by decide) hd_M_goThrough ⟨Nat.le_of_ble_eq_true rfl, Nat.le_of_ble_eq_true rfl⟩ rfl rfl rfl rfl (by simp [y_cat, y_catI, y_catJ]) d_M_minutes_36 h (fun v7 u8 h => ?_)
      refine y_stk (stp0 := []) rfl ?_
      refine y_aload_n C (i := 0) 0 d_M_minutes_39 rfl rfl ?_
      refine y_gi C (q := (yR5, yT5, 46)) (ci := 5) (k := 3) rfl (by decide) rfl g_787 d_M_minutes_40 h (fun x9 h => ?_)
      exact y_iret C hr hlocks d_M_minutes_43 h
    · refine y_bipush C (v := -2) d_M_minutes_31 (by decide) ?_
      exact y_iret C hr hlocks d_M_minutes_33 h
/-! M_like -/
theorem d_M_like_0 : decode prog_8_method_51_code 0 = .ok (.aload_n 0, 1) := by decide +kernel
theorem d_M_like_1 : decode prog_8_method_51_code 1 = .ok (.iconst 0, 1) := by decide +kernel
theorem d_M_like_2 : decode prog_8_method_51_code 2 = .ok (.putfield 102, 3) := by decide +kernel
theorem d_M_like_5 : decode prog_8_method_51_code 5 = .ok (.aload_n 0, 1) := by decide +kernel
theorem d_M_like_6 : decode prog_8_method_51_code 6 = .ok (.iload_n 1, 1) := by decide +kernel
theorem d_M_like_7 : decode prog_8_method_51_code 7 = .ok (.invokevirtual 232, 3) := by decide +kernel
theorem d_M_like_10 : decode prog_8_method_51_code 10 = .ok (.ifCond .eq 20, 3) := by decide +kernel
theorem d_M_like_13 : decode prog_8_method_51_code 13 = .ok (.aload_n 0, 1) := by decide +kernel
theorem d_M_like_14 : decode prog_8_method_51_code 14 = .ok (.iload_n 2, 1) := by decide +kernel
theorem d_M_like_15 : decode prog_8_method_51_code 15 = .ok (.invokevirtual 232, 3) := by decide +kernel
theorem d_M_like_18 : decode prog_8_method_51_code 18 = .ok (.ifCond .eq 12, 3) := by decide +kernel
theorem d_M_like_21 : decode prog_8_method_51_code 21 = .ok (.aload_n 0, 1) := by decide +kernel
theorem d_M_like_22 : decode prog_8_method_51_code 22 = .ok (.iload_n 1, 1) := by decide +kernel
theorem d_M_like_23 : decode prog_8_method_51_code 23 = .ok (.iload_n 2, 1) := by decide +kernel
theorem d_M_like_24 : decode prog_8_method_51_code 24 = .ok (.invokevirtual 136, 3) := by decide +kernel
theorem d_M_like_27 : decode prog_8_method_51_code 27 = .ok (.goto 4, 3) := by decide +kernel
theorem d_M_like_30 : decode prog_8_method_51_code 30 = .ok (.iconst (-1), 1) := by decide +kernel
theorem d_M_like_31 : decode prog_8_method_51_code 31 = .ok (.ireturn, 1) := by decide +kernel
theorem gc_M_like_232 : GoodIn yGW (wsV "WhoseGlassModel" 232 yR5 m_M_isGlass ws_M_isGlass) := y_gV g_1006 g_1008 gs_26 g_6 g_1009
theorem gc_M_like_136 : GoodIn yGW (wsV "WhoseGlassModel" 136 yR5 m_M_likeOf ws_M_likeOf) := y_gV g_1034 g_1036 gs_33 g_6 g_1037
set_option maxRecDepth 100000 in
def f_M_like (F : Nat) (u : Mm) (o : Nat) (a1 : Int32) (a2 : Int32) : Option (Int32 × Mm) := ob (jpi YM 5 23 u (some o) (0 : Int32)) fun (u1 : Mm) => ob (jk YM 5 (some o)) fun t => yb (f_M_isGlass F u1 t a1) fun x2 u3 => (if x2 = 0 then some ((-1 : Int32), u3) else ob (jk YM 5 (some o)) fun t => yb (f_M_isGlass F u3 t a2) fun x5 u6 => (if x5 = 0 then some ((-1 : Int32), u6) else ob (jk YM 5 (some o)) fun t => yb (f_M_likeOf F u6 t a1 a2) fun x8 u9 => some (x8, u9)))
set_option maxHeartbeats 4000000 in
set_option maxRecDepth 100000 in
theorem c_M_like (l : Launch) (w : WP) (F : Nat) (u : Mm) (o : Nat) (a1 : Int32) (a2 : Int32) (out : Int32 × Mm) (h : f_M_like F u o a1 a2 = some out) : yMet l m_M_like ws_M_like ({ frames := 3, cells := 0, slots := 0, locals := 67 } : Room) YM w u [va_re w.1 (some o), .int a1, .int a2] yfi out := by
  refine y_entry (own := "WhoseGlassModel") (lv := [(0, va_re w.1 (some o)), (1, .int a1), (2, .int a2)]) (by decide +kernel) rfl (by simp [lv_args, y_cat, y_catI, y_catJ]) (by simp [lg_sl, y_cat, y_catI, y_catJ]) ?_
  intro p e s m args below meth c C hr hlocks
  unfold f_M_like at h
  refine y_aload_n C (i := 0) 0 d_M_like_0 rfl rfl ?_
  refine y_iconst C (v := 0) d_M_like_1 (by decide) ?_
  refine y_pi C (q := (yR5, yT5, 46)) (ci := 5) (k := 23) rfl (by decide) rfl rfl (by decide +kernel) g_807 d_M_like_2 h (fun u1 h => ?_)
  refine y_aload_n C (i := 0) 0 d_M_like_5 rfl rfl ?_
  refine y_iload_n C (i := 1) 1 d_M_like_6 rfl rfl ?_
  refine y_callV 1 C (q := (yR5, yT5, 46)) (ci := 5) (fun t out hh => c_M_isGlass l w F u1 t a1 out hh) gc_M_like_232 rfl (by decide) hd_M_isGlass ⟨Nat.le_of_ble_eq_true rfl, Nat.le_of_ble_eq_true rfl⟩ rfl rfl rfl rfl (by simp [y_cat, y_catI, y_catJ]) d_M_like_7 h (fun x2 u3 h => ?_)
  refine y_stk (stp0 := [.int x2]) rfl ?_
  refine y_if_eq C 30 d_M_like_10 (by decide) h (fun k4 h => ?_) (fun k4 h => ?_)
  · refine y_iconst C (v := -1) d_M_like_30 (by decide) ?_
    exact y_iret C hr hlocks d_M_like_31 h
  · refine y_aload_n C (i := 0) 0 d_M_like_13 rfl rfl ?_
    refine y_iload_n C (i := 2) 2 d_M_like_14 rfl rfl ?_
    refine y_callV 1 C (q := (yR5, yT5, 46)) (ci := 5) (fun t out hh => c_M_isGlass l w F u3 t a2 out hh) gc_M_like_232 rfl (by decide) hd_M_isGlass ⟨Nat.le_of_ble_eq_true rfl, Nat.le_of_ble_eq_true rfl⟩ rfl rfl rfl rfl (by simp [y_cat, y_catI, y_catJ]) d_M_like_15 h (fun x5 u6 h => ?_)
    refine y_stk (stp0 := [.int x5]) rfl ?_
    refine y_if_eq C 30 d_M_like_18 (by decide) h (fun k7 h => ?_) (fun k7 h => ?_)
    · refine y_iconst C (v := -1) d_M_like_30 (by decide) ?_
      exact y_iret C hr hlocks d_M_like_31 h
    · refine y_aload_n C (i := 0) 0 d_M_like_21 rfl rfl ?_
      refine y_iload_n C (i := 1) 1 d_M_like_22 rfl rfl ?_
      refine y_iload_n C (i := 2) 2 d_M_like_23 rfl rfl ?_
      refine y_callV 2 C (q := (yR5, yT5, 46)) (ci := 5) (fun t out hh => c_M_likeOf l w F u6 t a1 a2 out hh) gc_M_like_136 rfl (by decide) hd_M_likeOf ⟨Nat.le_of_ble_eq_true rfl, Nat.le_of_ble_eq_true rfl⟩ rfl rfl rfl rfl (by simp [y_cat, y_catI, y_catJ]) d_M_like_24 h (fun x8 u9 h => ?_)
      refine y_stk (stp0 := [.int x8]) rfl ?_
      refine y_goto C (tgt := 31) d_M_like_27 (by decide) ?_
      exact y_iret C hr hlocks d_M_like_31 h
/-! M_mine -/
theorem d_M_mine_0 : decode prog_8_method_52_code 0 = .ok (.aload_n 0, 1) := by decide +kernel
theorem d_M_mine_1 : decode prog_8_method_52_code 1 = .ok (.iconst 0, 1) := by decide +kernel
theorem d_M_mine_2 : decode prog_8_method_52_code 2 = .ok (.putfield 102, 3) := by decide +kernel
theorem d_M_mine_5 : decode prog_8_method_52_code 5 = .ok (.aload_n 0, 1) := by decide +kernel
theorem d_M_mine_6 : decode prog_8_method_52_code 6 = .ok (.iload_n 1, 1) := by decide +kernel
theorem d_M_mine_7 : decode prog_8_method_52_code 7 = .ok (.invokevirtual 228, 3) := by decide +kernel
theorem d_M_mine_10 : decode prog_8_method_52_code 10 = .ok (.ifCond .eq 11, 3) := by decide +kernel
theorem d_M_mine_13 : decode prog_8_method_52_code 13 = .ok (.aload_n 0, 1) := by decide +kernel
theorem d_M_mine_14 : decode prog_8_method_52_code 14 = .ok (.iload_n 1, 1) := by decide +kernel
theorem d_M_mine_15 : decode prog_8_method_52_code 15 = .ok (.invokevirtual 143, 3) := by decide +kernel
theorem d_M_mine_18 : decode prog_8_method_52_code 18 = .ok (.goto 4, 3) := by decide +kernel
theorem d_M_mine_21 : decode prog_8_method_52_code 21 = .ok (.iconst (-1), 1) := by decide +kernel
theorem d_M_mine_22 : decode prog_8_method_52_code 22 = .ok (.ireturn, 1) := by decide +kernel
theorem gc_M_mine_228 : GoodIn yGW (wsV "WhoseGlassModel" 228 yR5 m_M_isGuest ws_M_isGuest) := y_gV g_1002 g_1004 gs_25 g_6 g_1005
theorem gc_M_mine_143 : GoodIn yGW (wsV "WhoseGlassModel" 143 yR5 m_M_wouldTake ws_M_wouldTake) := y_gV g_1030 g_1032 gs_32 g_6 g_1033
set_option maxRecDepth 100000 in
def f_M_mine (F : Nat) (u : Mm) (o : Nat) (a1 : Int32) : Option (Int32 × Mm) := ob (jpi YM 5 23 u (some o) (0 : Int32)) fun (u1 : Mm) => ob (jk YM 5 (some o)) fun t => yb (f_M_isGuest F u1 t a1) fun x2 u3 => (if x2 = 0 then some ((-1 : Int32), u3) else ob (jk YM 5 (some o)) fun t => yb (f_M_wouldTake F u3 t a1) fun x5 u6 => some (x5, u6))
set_option maxHeartbeats 4000000 in
set_option maxRecDepth 100000 in
theorem c_M_mine (l : Launch) (w : WP) (F : Nat) (u : Mm) (o : Nat) (a1 : Int32) (out : Int32 × Mm) (h : f_M_mine F u o a1 = some out) : yMet l m_M_mine ws_M_mine ({ frames := 4, cells := 0, slots := 0, locals := 95 } : Room) YM w u [va_re w.1 (some o), .int a1] yfi out := by
  refine y_entry (own := "WhoseGlassModel") (lv := [(0, va_re w.1 (some o)), (1, .int a1)]) (by decide +kernel) rfl (by simp [lv_args, y_cat, y_catI, y_catJ]) (by simp [lg_sl, y_cat, y_catI, y_catJ]) ?_
  intro p e s m args below meth c C hr hlocks
  unfold f_M_mine at h
  refine y_aload_n C (i := 0) 0 d_M_mine_0 rfl rfl ?_
  refine y_iconst C (v := 0) d_M_mine_1 (by decide) ?_
  refine y_pi C (q := (yR5, yT5, 46)) (ci := 5) (k := 23) rfl (by decide) rfl rfl (by decide +kernel) g_807 d_M_mine_2 h (fun u1 h => ?_)
  refine y_aload_n C (i := 0) 0 d_M_mine_5 rfl rfl ?_
  refine y_iload_n C (i := 1) 1 d_M_mine_6 rfl rfl ?_
  refine y_callV 1 C (q := (yR5, yT5, 46)) (ci := 5) (fun t out hh => c_M_isGuest l w F u1 t a1 out hh) gc_M_mine_228 rfl (by decide) hd_M_isGuest ⟨Nat.le_of_ble_eq_true rfl, Nat.le_of_ble_eq_true rfl⟩ rfl rfl rfl rfl (by simp [y_cat, y_catI, y_catJ]) d_M_mine_7 h (fun x2 u3 h => ?_)
  refine y_stk (stp0 := [.int x2]) rfl ?_
  refine y_if_eq C 21 d_M_mine_10 (by decide) h (fun k4 h => ?_) (fun k4 h => ?_)
  · refine y_iconst C (v := -1) d_M_mine_21 (by decide) ?_
    exact y_iret C hr hlocks d_M_mine_22 h
  · refine y_aload_n C (i := 0) 0 d_M_mine_13 rfl rfl ?_
    refine y_iload_n C (i := 1) 1 d_M_mine_14 rfl rfl ?_
    refine y_callV 1 C (q := (yR5, yT5, 46)) (ci := 5) (fun t out hh => c_M_wouldTake l w F u3 t a1 out hh) gc_M_mine_143 rfl (by decide) hd_M_wouldTake ⟨Nat.le_of_ble_eq_true rfl, Nat.le_of_ble_eq_true rfl⟩ rfl rfl rfl rfl (by simp [y_cat, y_catI, y_catJ]) d_M_mine_15 h (fun x5 u6 h => ?_)
    refine y_stk (stp0 := [.int x5]) rfl ?_
    refine y_goto C (tgt := 22) d_M_mine_18 (by decide) ?_
    exact y_iret C hr hlocks d_M_mine_22 h
/-! M_divisor -/
theorem d_M_divisor_0 : decode prog_8_method_53_code 0 = .ok (.iload_n 0, 1) := by decide +kernel
theorem d_M_divisor_1 : decode prog_8_method_53_code 1 = .ok (.istore_n 2, 1) := by decide +kernel
theorem d_M_divisor_2 : decode prog_8_method_53_code 2 = .ok (.iload_n 1, 1) := by decide +kernel
theorem d_M_divisor_3 : decode prog_8_method_53_code 3 = .ok (.istore_n 3, 1) := by decide +kernel
theorem d_M_divisor_4 : decode prog_8_method_53_code 4 = .ok (.iload_n 3, 1) := by decide +kernel
theorem d_M_divisor_5 : decode prog_8_method_53_code 5 = .ok (.ifCond .eq 16, 3) := by decide +kernel
theorem d_M_divisor_8 : decode prog_8_method_53_code 8 = .ok (.iload_n 2, 1) := by decide +kernel
theorem d_M_divisor_9 : decode prog_8_method_53_code 9 = .ok (.iload_n 3, 1) := by decide +kernel
theorem d_M_divisor_10 : decode prog_8_method_53_code 10 = .ok (.irem, 1) := by decide +kernel
theorem d_M_divisor_11 : decode prog_8_method_53_code 11 = .ok (.istore 4, 2) := by decide +kernel
theorem d_M_divisor_13 : decode prog_8_method_53_code 13 = .ok (.iload_n 3, 1) := by decide +kernel
theorem d_M_divisor_14 : decode prog_8_method_53_code 14 = .ok (.istore_n 2, 1) := by decide +kernel
theorem d_M_divisor_15 : decode prog_8_method_53_code 15 = .ok (.iload 4, 2) := by decide +kernel
theorem d_M_divisor_17 : decode prog_8_method_53_code 17 = .ok (.istore_n 3, 1) := by decide +kernel
theorem d_M_divisor_18 : decode prog_8_method_53_code 18 = .ok (.goto (-14), 3) := by decide +kernel
theorem d_M_divisor_21 : decode prog_8_method_53_code 21 = .ok (.iload_n 2, 1) := by decide +kernel
theorem d_M_divisor_22 : decode prog_8_method_53_code 22 = .ok (.ireturn, 1) := by decide +kernel
set_option maxHeartbeats 4000000 in
set_option maxRecDepth 100000 in
def f_M_divisor_L4 (F : Nat)  (k : Mm → Int32 → Option (Int32 × Mm)) : Nat → Mm → Int32 → Int32 → Option (Int32 × Mm)
  | 0, _, _, _ => none
  | n + 1, u, a2, a3 => (if a3 = 0 then k u a2 else ob (jrm a2 a3) fun (x2 : Int32) => f_M_divisor_L4 F k n u a3 x2)
set_option maxHeartbeats 4000000 in
set_option maxRecDepth 100000 in
theorem w_M_divisor_L4 {p : Program} {l : Launch} {e : Env} {s : State} {m : MethodId} {args : Array Value} {below : List Frame} {meth : Method} {c : Code} {w : WP} {Q : State → Prop} (F : Nat) (C : yX p e ({ frames := 0, cells := 0, slots := 0, locals := 0 } : Room) s m args c YM w 5 prog_8_method_53_code "WhoseGlassModel") (hr : meth.sig.returnType = (some .int)) (hlocks : meth.locks = false)  {out : Int32 × Mm} (k : Mm → Int32 → Option (Int32 × Mm)) (hk : ∀ (u : Mm) (a2 : Int32), k u a2 = some out → yG p l e ({ frames := 0, cells := 0, slots := 0, locals := 0 } : Room) s m args below meth c YM w 5 Q u 21 [(2, .int a2)] []) : ∀ (n : Nat) (u : Mm) (a2 : Int32) (a3 : Int32), f_M_divisor_L4 F  k n u a2 a3 = some out → yG p l e ({ frames := 0, cells := 0, slots := 0, locals := 0 } : Room) s m args below meth c YM w 5 Q u 4 [(2, .int a2), (3, .int a3)] [] := by
  intro n
  induction n with
  | zero => intro u a2 a3 h; rw [f_M_divisor_L4] at h; cases h
  | succ n ih =>
    intro u a2 a3 h
    rw [f_M_divisor_L4] at h
    refine y_iload_n C (i := 3) 1 d_M_divisor_4 rfl rfl ?_
    refine y_if_eq C 21 d_M_divisor_5 (by decide) h (fun k1 h => ?_) (fun k1 h => ?_)
    · exact y_sub [0] rfl (hk _ _ h)
    · refine y_iload_n C (i := 2) 0 d_M_divisor_8 rfl rfl ?_
      refine y_iload_n C (i := 3) 1 d_M_divisor_9 rfl rfl ?_
      refine y_irem C d_M_divisor_10 h (fun x2 h => ?_)
      refine y_istore C (i := 4) (lvp := [(2, .int a2), (3, .int a3)]) d_M_divisor_11 (by decide) rfl ?_
      refine y_iload_n C (i := 3) 2 d_M_divisor_13 rfl rfl ?_
      refine y_istore_n C (i := 2) (lvp := [(4, .int x2), (3, .int a3)]) d_M_divisor_14 rfl (by decide) rfl ?_
      refine y_iload C (i := 4) 1 d_M_divisor_15 rfl ?_
      refine y_istore_n C (i := 3) (lvp := [(2, .int a3), (4, .int x2)]) d_M_divisor_17 rfl (by decide) rfl ?_
      refine y_goto C (tgt := 4) d_M_divisor_18 (by decide) ?_
      exact y_sub [1, 0] rfl (ih _ _ _ h)
set_option maxRecDepth 100000 in
def f_M_divisor (F : Nat) (u : Mm) (a0 : Int32) (a1 : Int32) : Option (Int32 × Mm) := f_M_divisor_L4 F  (fun (u3 : Mm) (x4 : Int32) => some (x4, u3)) F u a0 a1
set_option maxHeartbeats 4000000 in
set_option maxRecDepth 100000 in
theorem c_M_divisor (l : Launch) (w : WP) (F : Nat) (u : Mm) (a0 : Int32) (a1 : Int32) (out : Int32 × Mm) (h : f_M_divisor F u a0 a1 = some out) : yMet l m_M_divisor ws_M_divisor ({ frames := 0, cells := 0, slots := 0, locals := 0 } : Room) YM w u [.int a0, .int a1] yfi out := by
  refine y_entry (own := "WhoseGlassModel") (lv := [(0, .int a0), (1, .int a1)]) (by decide +kernel) rfl (by simp [lv_args, y_cat, y_catI, y_catJ]) (by simp [lg_sl, y_cat, y_catI, y_catJ]) ?_
  intro p e s m args below meth c C hr hlocks
  unfold f_M_divisor at h
  refine y_iload_n C (i := 0) 0 d_M_divisor_0 rfl rfl ?_
  refine y_istore_n C (i := 2) (lvp := [(0, .int a0), (1, .int a1)]) d_M_divisor_1 rfl (by decide) rfl ?_
  refine y_iload_n C (i := 1) 2 d_M_divisor_2 rfl rfl ?_
  refine y_istore_n C (i := 3) (lvp := [(2, .int a0), (0, .int a0), (1, .int a1)]) d_M_divisor_3 rfl (by decide) rfl ?_
  refine y_sub [1, 0] rfl (w_M_divisor_L4 F C hr hlocks _ (fun u3 x4 h => ?_) _ _ _ _ h)
  refine y_iload_n C (i := 2) 0 d_M_divisor_21 rfl rfl ?_
  exact y_iret C hr hlocks d_M_divisor_22 h
/-! M_likely -/
theorem d_M_likely_0 : decode prog_8_method_54_code 0 = .ok (.aload_n 0, 1) := by decide +kernel
theorem d_M_likely_1 : decode prog_8_method_54_code 1 = .ok (.iconst 0, 1) := by decide +kernel
theorem d_M_likely_2 : decode prog_8_method_54_code 2 = .ok (.putfield 102, 3) := by decide +kernel
theorem d_M_likely_5 : decode prog_8_method_54_code 5 = .ok (.aload_n 0, 1) := by decide +kernel
theorem d_M_likely_6 : decode prog_8_method_54_code 6 = .ok (.iload_n 1, 1) := by decide +kernel
theorem d_M_likely_7 : decode prog_8_method_54_code 7 = .ok (.invokevirtual 228, 3) := by decide +kernel
theorem d_M_likely_10 : decode prog_8_method_54_code 10 = .ok (.ifCond .eq 21, 3) := by decide +kernel
theorem d_M_likely_13 : decode prog_8_method_54_code 13 = .ok (.aload_n 0, 1) := by decide +kernel
theorem d_M_likely_14 : decode prog_8_method_54_code 14 = .ok (.iload_n 2, 1) := by decide +kernel
theorem d_M_likely_15 : decode prog_8_method_54_code 15 = .ok (.invokevirtual 232, 3) := by decide +kernel
theorem d_M_likely_18 : decode prog_8_method_54_code 18 = .ok (.ifCond .eq 13, 3) := by decide +kernel
theorem d_M_likely_21 : decode prog_8_method_54_code 21 = .ok (.iload_n 3, 1) := by decide +kernel
theorem d_M_likely_22 : decode prog_8_method_54_code 22 = .ok (.i2l, 1) := by decide +kernel
theorem d_M_likely_23 : decode prog_8_method_54_code 23 = .ok (.lconst 0, 1) := by decide +kernel
theorem d_M_likely_24 : decode prog_8_method_54_code 24 = .ok (.lconst 1, 1) := by decide +kernel
theorem d_M_likely_25 : decode prog_8_method_54_code 25 = .ok (.invokestatic 108, 3) := by decide +kernel
theorem d_M_likely_28 : decode prog_8_method_54_code 28 = .ok (.ifCond .ne 5, 3) := by decide +kernel
theorem d_M_likely_31 : decode prog_8_method_54_code 31 = .ok (.iconst (-1), 1) := by decide +kernel
theorem d_M_likely_32 : decode prog_8_method_54_code 32 = .ok (.ireturn, 1) := by decide +kernel
theorem d_M_likely_33 : decode prog_8_method_54_code 33 = .ok (.aload_n 0, 1) := by decide +kernel
theorem d_M_likely_34 : decode prog_8_method_54_code 34 = .ok (.getfield 53, 3) := by decide +kernel
theorem d_M_likely_37 : decode prog_8_method_54_code 37 = .ok (.iload_n 1, 1) := by decide +kernel
theorem d_M_likely_38 : decode prog_8_method_54_code 38 = .ok (.iaload, 1) := by decide +kernel
theorem d_M_likely_39 : decode prog_8_method_54_code 39 = .ok (.ifCond .lt 18, 3) := by decide +kernel
theorem d_M_likely_42 : decode prog_8_method_54_code 42 = .ok (.aload_n 0, 1) := by decide +kernel
theorem d_M_likely_43 : decode prog_8_method_54_code 43 = .ok (.getfield 23, 3) := by decide +kernel
theorem d_M_likely_46 : decode prog_8_method_54_code 46 = .ok (.iload_n 2, 1) := by decide +kernel
theorem d_M_likely_47 : decode prog_8_method_54_code 47 = .ok (.iaload, 1) := by decide +kernel
theorem d_M_likely_48 : decode prog_8_method_54_code 48 = .ok (.aload_n 0, 1) := by decide +kernel
theorem d_M_likely_49 : decode prog_8_method_54_code 49 = .ok (.getfield 47, 3) := by decide +kernel
theorem d_M_likely_52 : decode prog_8_method_54_code 52 = .ok (.iload_n 1, 1) := by decide +kernel
theorem d_M_likely_53 : decode prog_8_method_54_code 53 = .ok (.iaload, 1) := by decide +kernel
theorem d_M_likely_54 : decode prog_8_method_54_code 54 = .ok (.if_icmp .eq 6, 3) := by decide +kernel
theorem d_M_likely_57 : decode prog_8_method_54_code 57 = .ok (.bipush (-3), 2) := by decide +kernel
theorem d_M_likely_59 : decode prog_8_method_54_code 59 = .ok (.ireturn, 1) := by decide +kernel
theorem d_M_likely_60 : decode prog_8_method_54_code 60 = .ok (.iconst 0, 1) := by decide +kernel
theorem d_M_likely_61 : decode prog_8_method_54_code 61 = .ok (.istore 4, 2) := by decide +kernel
theorem d_M_likely_63 : decode prog_8_method_54_code 63 = .ok (.iconst 0, 1) := by decide +kernel
theorem d_M_likely_64 : decode prog_8_method_54_code 64 = .ok (.istore 5, 2) := by decide +kernel
theorem d_M_likely_66 : decode prog_8_method_54_code 66 = .ok (.iload 5, 2) := by decide +kernel
theorem d_M_likely_68 : decode prog_8_method_54_code 68 = .ok (.aload_n 0, 1) := by decide +kernel
theorem d_M_likely_69 : decode prog_8_method_54_code 69 = .ok (.getfield 105, 3) := by decide +kernel
theorem d_M_likely_72 : decode prog_8_method_54_code 72 = .ok (.if_icmp .ge 46, 3) := by decide +kernel
theorem d_M_likely_75 : decode prog_8_method_54_code 75 = .ok (.iload 4, 2) := by decide +kernel
theorem d_M_likely_77 : decode prog_8_method_54_code 77 = .ok (.aload_n 0, 1) := by decide +kernel
theorem d_M_likely_78 : decode prog_8_method_54_code 78 = .ok (.getfield 23, 3) := by decide +kernel
theorem d_M_likely_81 : decode prog_8_method_54_code 81 = .ok (.iload 5, 2) := by decide +kernel
theorem d_M_likely_83 : decode prog_8_method_54_code 83 = .ok (.iaload, 1) := by decide +kernel
theorem d_M_likely_84 : decode prog_8_method_54_code 84 = .ok (.aload_n 0, 1) := by decide +kernel
theorem d_M_likely_85 : decode prog_8_method_54_code 85 = .ok (.getfield 47, 3) := by decide +kernel
theorem d_M_likely_88 : decode prog_8_method_54_code 88 = .ok (.iload_n 1, 1) := by decide +kernel
theorem d_M_likely_89 : decode prog_8_method_54_code 89 = .ok (.iaload, 1) := by decide +kernel
theorem d_M_likely_90 : decode prog_8_method_54_code 90 = .ok (.if_icmp .ne 18, 3) := by decide +kernel
theorem d_M_likely_93 : decode prog_8_method_54_code 93 = .ok (.aload_n 0, 1) := by decide +kernel
theorem d_M_likely_94 : decode prog_8_method_54_code 94 = .ok (.aload_n 0, 1) := by decide +kernel
theorem d_M_likely_95 : decode prog_8_method_54_code 95 = .ok (.getfield 53, 3) := by decide +kernel
theorem d_M_likely_98 : decode prog_8_method_54_code 98 = .ok (.iload_n 1, 1) := by decide +kernel
theorem d_M_likely_99 : decode prog_8_method_54_code 99 = .ok (.iaload, 1) := by decide +kernel
theorem d_M_likely_100 : decode prog_8_method_54_code 100 = .ok (.iload 5, 2) := by decide +kernel
theorem d_M_likely_102 : decode prog_8_method_54_code 102 = .ok (.invokevirtual 136, 3) := by decide +kernel
theorem d_M_likely_105 : decode prog_8_method_54_code 105 = .ok (.goto 4, 3) := by decide +kernel
theorem d_M_likely_108 : decode prog_8_method_54_code 108 = .ok (.iconst 0, 1) := by decide +kernel
theorem d_M_likely_109 : decode prog_8_method_54_code 109 = .ok (.iadd, 1) := by decide +kernel
theorem d_M_likely_110 : decode prog_8_method_54_code 110 = .ok (.istore 4, 2) := by decide +kernel
theorem d_M_likely_112 : decode prog_8_method_54_code 112 = .ok (.iinc 5 1, 3) := by decide +kernel
theorem d_M_likely_115 : decode prog_8_method_54_code 115 = .ok (.goto (-49), 3) := by decide +kernel
theorem d_M_likely_118 : decode prog_8_method_54_code 118 = .ok (.aload_n 0, 1) := by decide +kernel
theorem d_M_likely_119 : decode prog_8_method_54_code 119 = .ok (.aload_n 0, 1) := by decide +kernel
theorem d_M_likely_120 : decode prog_8_method_54_code 120 = .ok (.getfield 53, 3) := by decide +kernel
theorem d_M_likely_123 : decode prog_8_method_54_code 123 = .ok (.iload_n 1, 1) := by decide +kernel
theorem d_M_likely_124 : decode prog_8_method_54_code 124 = .ok (.iaload, 1) := by decide +kernel
theorem d_M_likely_125 : decode prog_8_method_54_code 125 = .ok (.iload_n 2, 1) := by decide +kernel
theorem d_M_likely_126 : decode prog_8_method_54_code 126 = .ok (.invokevirtual 136, 3) := by decide +kernel
theorem d_M_likely_129 : decode prog_8_method_54_code 129 = .ok (.istore 5, 2) := by decide +kernel
theorem d_M_likely_131 : decode prog_8_method_54_code 131 = .ok (.iload 5, 2) := by decide +kernel
theorem d_M_likely_133 : decode prog_8_method_54_code 133 = .ok (.ifCond .ne 5, 3) := by decide +kernel
theorem d_M_likely_136 : decode prog_8_method_54_code 136 = .ok (.iload_n 3, 1) := by decide +kernel
theorem d_M_likely_137 : decode prog_8_method_54_code 137 = .ok (.ireturn, 1) := by decide +kernel
theorem d_M_likely_138 : decode prog_8_method_54_code 138 = .ok (.iload 4, 2) := by decide +kernel
theorem d_M_likely_140 : decode prog_8_method_54_code 140 = .ok (.iload 5, 2) := by decide +kernel
theorem d_M_likely_142 : decode prog_8_method_54_code 142 = .ok (.invokestatic 279, 3) := by decide +kernel
theorem d_M_likely_145 : decode prog_8_method_54_code 145 = .ok (.istore 6, 2) := by decide +kernel
theorem d_M_likely_147 : decode prog_8_method_54_code 147 = .ok (.iload_n 3, 1) := by decide +kernel
theorem d_M_likely_148 : decode prog_8_method_54_code 148 = .ok (.ifCond .ne 11, 3) := by decide +kernel
theorem d_M_likely_151 : decode prog_8_method_54_code 151 = .ok (.iload 5, 2) := by decide +kernel
theorem d_M_likely_153 : decode prog_8_method_54_code 153 = .ok (.iload 6, 2) := by decide +kernel
theorem d_M_likely_155 : decode prog_8_method_54_code 155 = .ok (.idiv, 1) := by decide +kernel
theorem d_M_likely_156 : decode prog_8_method_54_code 156 = .ok (.goto 8, 3) := by decide +kernel
theorem d_M_likely_159 : decode prog_8_method_54_code 159 = .ok (.iload 4, 2) := by decide +kernel
theorem d_M_likely_161 : decode prog_8_method_54_code 161 = .ok (.iload 6, 2) := by decide +kernel
theorem d_M_likely_163 : decode prog_8_method_54_code 163 = .ok (.idiv, 1) := by decide +kernel
theorem d_M_likely_164 : decode prog_8_method_54_code 164 = .ok (.ireturn, 1) := by decide +kernel
theorem gc_M_likely_228 : GoodIn yGW (wsV "WhoseGlassModel" 228 yR5 m_M_isGuest ws_M_isGuest) := y_gV g_1002 g_1004 gs_25 g_6 g_1005
theorem gc_M_likely_232 : GoodIn yGW (wsV "WhoseGlassModel" 232 yR5 m_M_isGlass ws_M_isGlass) := y_gV g_1006 g_1008 gs_26 g_6 g_1009
theorem gc_M_likely_136 : GoodIn yGW (wsV "WhoseGlassModel" 136 yR5 m_M_likeOf ws_M_likeOf) := y_gV g_1034 g_1036 gs_33 g_6 g_1037
set_option maxHeartbeats 4000000 in
set_option maxRecDepth 100000 in
def f_M_likely_L66 (F : Nat) (a0 : Option Nat) (a1 : Int32) (a2 : Int32) (a3 : Int32) (k : Mm → Int32 → Option (Int32 × Mm)) : Nat → Mm → Int32 → Int32 → Option (Int32 × Mm)
  | 0, _, _, _ => none
  | n + 1, u, a4, a5 => ob (jgi YM 5 0 u a0) fun (x19 : Int32) => (if x19 ≤ a5 then k u a4 else ob (jgr YM 5 7 a0) fun (r21 : Option Nat) => ob (jal YM u r21 a5) fun (x22 : Int32) => ob (jgr YM 5 15 a0) fun (r23 : Option Nat) => ob (jal YM u r23 a1) fun (x24 : Int32) => ob ((if x22 = x24 then ob (jgr YM 5 17 a0) fun (r27 : Option Nat) => ob (jal YM u r27 a1) fun (x28 : Int32) => ob (jk YM 5 a0) fun t => yb (f_M_likeOf F u t x28 a5) fun x29 u30 => some (x29, u30) else some ((0 : Int32), u)) : Option (Int32 × Mm)) fun q25 => ob (some (a4 + q25.1)) fun (x31 : Int32) => ob (some (a5 + (1 : Int32))) fun (x32 : Int32) => f_M_likely_L66 F a0 a1 a2 a3 k n q25.2 x31 x32)
set_option maxHeartbeats 4000000 in
set_option maxRecDepth 100000 in
theorem w_M_likely_L66 {p : Program} {l : Launch} {e : Env} {s : State} {m : MethodId} {args : Array Value} {below : List Frame} {meth : Method} {c : Code} {w : WP} {Q : State → Prop} (F : Nat) (C : yX p e ({ frames := 3, cells := 0, slots := 0, locals := 67 } : Room) s m args c YM w 7 prog_8_method_54_code "WhoseGlassModel") (hr : meth.sig.returnType = (some .int)) (hlocks : meth.locks = false) (a0 : Option Nat) (a1 : Int32) (a2 : Int32) (a3 : Int32) {out : Int32 × Mm} (k : Mm → Int32 → Option (Int32 × Mm)) (hk : ∀ (u : Mm) (a4 : Int32), k u a4 = some out → yG p l e ({ frames := 3, cells := 0, slots := 0, locals := 67 } : Room) s m args below meth c YM w 7 Q u 118 [(0, va_re w.1 a0), (1, .int a1), (2, .int a2), (3, .int a3), (4, .int a4)] []) : ∀ (n : Nat) (u : Mm) (a4 : Int32) (a5 : Int32), f_M_likely_L66 F a0 a1 a2 a3 k n u a4 a5 = some out → yG p l e ({ frames := 3, cells := 0, slots := 0, locals := 67 } : Room) s m args below meth c YM w 7 Q u 66 [(0, va_re w.1 a0), (1, .int a1), (2, .int a2), (3, .int a3), (4, .int a4), (5, .int a5)] [] := by
  intro n
  induction n with
  | zero => intro u a4 a5 h; rw [f_M_likely_L66] at h; cases h
  | succ n ih =>
    intro u a4 a5 h
    rw [f_M_likely_L66] at h
    refine y_iload C (i := 5) 5 d_M_likely_66 rfl ?_
    refine y_aload_n C (i := 0) 0 d_M_likely_68 rfl rfl ?_
    refine y_gi C (q := (yR5, yT5, 46)) (ci := 5) (k := 0) rfl (by decide) rfl g_784 d_M_likely_69 h (fun x19 h => ?_)
    refine y_ic_ge C 118 d_M_likely_72 (by decide) h (fun k20 h => ?_) (fun k20 h => ?_)
    · exact y_sub [0, 1, 2, 3, 4] rfl (hk _ _ h)
    · refine y_iload C (i := 4) 4 d_M_likely_75 rfl ?_
      refine y_aload_n C (i := 0) 0 d_M_likely_77 rfl rfl ?_
      refine y_gr C (q := (yR5, yT5, 46)) (ci := 5) (k := 7) rfl (by decide) rfl (by decide) g_791 d_M_likely_78 h (fun r21 h => ?_)
      refine y_iload C (i := 5) 5 d_M_likely_81 rfl ?_
      refine y_al C d_M_likely_83 h (fun x22 h => ?_)
      refine y_aload_n C (i := 0) 0 d_M_likely_84 rfl rfl ?_
      refine y_gr C (q := (yR5, yT5, 46)) (ci := 5) (k := 15) rfl (by decide) rfl (by decide) g_799 d_M_likely_85 h (fun r23 h => ?_)
      refine y_iload_n C (i := 1) 1 d_M_likely_88 rfl rfl ?_
      refine y_al C d_M_likely_89 h (fun x24 h => ?_)
      obtain ⟨q25, hq25, h⟩ := ob_e h
      have hJq25 : yG p l e ({ frames := 3, cells := 0, slots := 0, locals := 67 } : Room) s m args below meth c YM w 7 Q q25.2 109 [(0, va_re w.1 a0), (1, .int a1), (2, .int a2), (3, .int a3), (5, .int a5)] [.int q25.1, .int a4] := by
        refine y_iadd C d_M_likely_109 ?_
        refine y_istoreB C (i := 4) (lvp := [(0, va_re w.1 a0), (1, .int a1), (2, .int a2), (3, .int a3), (5, .int a5)]) d_M_likely_110 (by decide) rfl h (fun x31 h => ?_)
        refine y_iinc C (j := 5) (v := 1) (lvp := [(4, .int x31), (0, va_re w.1 a0), (1, .int a1), (2, .int a2), (3, .int a3)]) d_M_likely_112 rfl (by decide) (by decide) rfl h (fun x32 h => ?_)
        refine y_goto C (tgt := 66) d_M_likely_115 (by decide) ?_
        exact y_sub [2, 3, 4, 5, 1, 0] rfl (ih _ _ _ h)
      refine y_ic_ne C 108 d_M_likely_90 (by decide) hq25 (fun k26 hq25 => ?_) (fun k26 hq25 => ?_)
      · refine y_aload_n C (i := 0) 0 d_M_likely_93 rfl rfl ?_
        refine y_aload_n C (i := 0) 0 d_M_likely_94 rfl rfl ?_
        refine y_gr C (q := (yR5, yT5, 46)) (ci := 5) (k := 17) rfl (by decide) rfl (by decide) g_801 d_M_likely_95 hq25 (fun r27 hq25 => ?_)
        refine y_iload_n C (i := 1) 1 d_M_likely_98 rfl rfl ?_
        refine y_al C d_M_likely_99 hq25 (fun x28 hq25 => ?_)
        refine y_iload C (i := 5) 5 d_M_likely_100 rfl ?_
        refine y_callV 2 C (q := (yR5, yT5, 46)) (ci := 5) (fun t out hh => c_M_likeOf l w F u t x28 a5 out hh) gc_M_likely_136 rfl (by decide) hd_M_likeOf ⟨Nat.le_of_ble_eq_true rfl, Nat.le_of_ble_eq_true rfl⟩ rfl rfl rfl rfl (by simp [y_cat, y_catI, y_catJ]) d_M_likely_102 hq25 (fun x29 u30 hq25 => ?_)
        refine y_stk (stp0 := [.int x29, .int a4]) rfl ?_
        refine y_goto C (tgt := 109) d_M_likely_105 (by decide) ?_
        cases hq25
        exact y_sub [0, 1, 2, 3, 5] rfl hJq25
      · refine y_iconst C (v := 0) d_M_likely_108 (by decide) ?_
        cases hq25
        exact y_sub [0, 1, 2, 3, 5] rfl hJq25
set_option maxRecDepth 100000 in
def f_M_likely (F : Nat) (u : Mm) (o : Nat) (a1 : Int32) (a2 : Int32) (a3 : Int32) : Option (Int32 × Mm) := ob (jpi YM 5 23 u (some o) (0 : Int32)) fun (u1 : Mm) => ob (jk YM 5 (some o)) fun t => yb (f_M_isGuest F u1 t a1) fun x2 u3 => (if x2 = 0 then some ((-1 : Int32), u3) else ob (jk YM 5 (some o)) fun t => yb (f_M_isGlass F u3 t a2) fun x5 u6 => (if x5 = 0 then some ((-1 : Int32), u6) else yb (f_M_in F u6 (a3.toInt64) (0 : Int64) (1 : Int64)) fun x8 u9 => (if x8 = 0 then some ((-1 : Int32), u9) else ob (jgr YM 5 17 (some o)) fun (r11 : Option Nat) => ob (jal YM u9 r11 a1) fun (x12 : Int32) => (if x12 < 0 then some ((-3 : Int32), u9) else ob (jgr YM 5 7 (some o)) fun (r14 : Option Nat) => ob (jal YM u9 r14 a2) fun (x15 : Int32) => ob (jgr YM 5 15 (some o)) fun (r16 : Option Nat) => ob (jal YM u9 r16 a1) fun (x17 : Int32) => (if x15 = x17 then f_M_likely_L66 F (some o) a1 a2 a3 (fun (u33 : Mm) (x34 : Int32) => ob (jgr YM 5 17 (some o)) fun (r35 : Option Nat) => ob (jal YM u33 r35 a1) fun (x36 : Int32) => ob (jk YM 5 (some o)) fun t => yb (f_M_likeOf F u33 t x36 a2) fun x37 u38 => (if x37 = 0 then some (a3, u38) else yb (f_M_divisor F u38 x34 x37) fun x40 u41 => (if a3 = 0 then ob (jdv x37 x40) fun (x43 : Int32) => some (x43, u41) else ob (jdv x34 x40) fun (x44 : Int32) => some (x44, u41)))) F u9 (0 : Int32) (0 : Int32) else some ((-3 : Int32), u9))))))
set_option maxHeartbeats 4000000 in
set_option maxRecDepth 100000 in
theorem c_M_likely (l : Launch) (w : WP) (F : Nat) (u : Mm) (o : Nat) (a1 : Int32) (a2 : Int32) (a3 : Int32) (out : Int32 × Mm) (h : f_M_likely F u o a1 a2 a3 = some out) : yMet l m_M_likely ws_M_likely ({ frames := 3, cells := 0, slots := 0, locals := 67 } : Room) YM w u [va_re w.1 (some o), .int a1, .int a2, .int a3] yfi out := by
  refine y_entry (own := "WhoseGlassModel") (lv := [(0, va_re w.1 (some o)), (1, .int a1), (2, .int a2), (3, .int a3)]) (by decide +kernel) rfl (by simp [lv_args, y_cat, y_catI, y_catJ]) (by simp [lg_sl, y_cat, y_catI, y_catJ]) ?_
  intro p e s m args below meth c C hr hlocks
  unfold f_M_likely at h
  refine y_aload_n C (i := 0) 0 d_M_likely_0 rfl rfl ?_
  refine y_iconst C (v := 0) d_M_likely_1 (by decide) ?_
  refine y_pi C (q := (yR5, yT5, 46)) (ci := 5) (k := 23) rfl (by decide) rfl rfl (by decide +kernel) g_807 d_M_likely_2 h (fun u1 h => ?_)
  refine y_aload_n C (i := 0) 0 d_M_likely_5 rfl rfl ?_
  refine y_iload_n C (i := 1) 1 d_M_likely_6 rfl rfl ?_
  refine y_callV 1 C (q := (yR5, yT5, 46)) (ci := 5) (fun t out hh => c_M_isGuest l w F u1 t a1 out hh) gc_M_likely_228 rfl (by decide) hd_M_isGuest ⟨Nat.le_of_ble_eq_true rfl, Nat.le_of_ble_eq_true rfl⟩ rfl rfl rfl rfl (by simp [y_cat, y_catI, y_catJ]) d_M_likely_7 h (fun x2 u3 h => ?_)
  refine y_stk (stp0 := [.int x2]) rfl ?_
  refine y_if_eq C 31 d_M_likely_10 (by decide) h (fun k4 h => ?_) (fun k4 h => ?_)
  · refine y_iconst C (v := -1) d_M_likely_31 (by decide) ?_
    exact y_iret C hr hlocks d_M_likely_32 h
  · refine y_aload_n C (i := 0) 0 d_M_likely_13 rfl rfl ?_
    refine y_iload_n C (i := 2) 2 d_M_likely_14 rfl rfl ?_
    refine y_callV 1 C (q := (yR5, yT5, 46)) (ci := 5) (fun t out hh => c_M_isGlass l w F u3 t a2 out hh) gc_M_likely_232 rfl (by decide) hd_M_isGlass ⟨Nat.le_of_ble_eq_true rfl, Nat.le_of_ble_eq_true rfl⟩ rfl rfl rfl rfl (by simp [y_cat, y_catI, y_catJ]) d_M_likely_15 h (fun x5 u6 h => ?_)
    refine y_stk (stp0 := [.int x5]) rfl ?_
    refine y_if_eq C 31 d_M_likely_18 (by decide) h (fun k7 h => ?_) (fun k7 h => ?_)
    · refine y_iconst C (v := -1) d_M_likely_31 (by decide) ?_
      exact y_iret C hr hlocks d_M_likely_32 h
    · refine y_iload_n C (i := 3) 3 d_M_likely_21 rfl rfl ?_
      refine y_i2l C d_M_likely_22 ?_
      refine y_lconst C (v := 0) d_M_likely_23 (by decide) ?_
      refine y_lconst C (v := 1) d_M_likely_24 (by decide) ?_
      refine y_callS 3 C (fun out hh => c_M_in l w F u6 (a3.toInt64) (0 : Int64) (1 : Int64) out hh) (y_gc g_959) g_957 g_6 g_958 hn_M_in ⟨Nat.le_of_ble_eq_true rfl, Nat.le_of_ble_eq_true rfl⟩ rfl rfl rfl rfl (by simp [y_cat, y_catI, y_catJ]) d_M_likely_25 h (fun x8 u9 h => ?_)
      refine y_stk (stp0 := [.int x8]) rfl ?_
      refine y_if_ne C 33 d_M_likely_28 (by decide) h (fun k10 h => ?_) (fun k10 h => ?_)
      · refine y_iconst C (v := -1) d_M_likely_31 (by decide) ?_
        exact y_iret C hr hlocks d_M_likely_32 h
      · refine y_aload_n C (i := 0) 0 d_M_likely_33 rfl rfl ?_
        refine y_gr C (q := (yR5, yT5, 46)) (ci := 5) (k := 17) rfl (by decide) rfl (by decide) g_801 d_M_likely_34 h (fun r11 h => ?_)
        refine y_iload_n C (i := 1) 1 d_M_likely_37 rfl rfl ?_
        refine y_al C d_M_likely_38 h (fun x12 h => ?_)
        refine y_if_lt C 57 d_M_likely_39 (by decide) h (fun k13 h => ?_) (fun k13 h => ?_)
        · refine y_bipush C (v := -3) d_M_likely_57 (by decide) ?_
          exact y_iret C hr hlocks d_M_likely_59 h
        · refine y_aload_n C (i := 0) 0 d_M_likely_42 rfl rfl ?_
          refine y_gr C (q := (yR5, yT5, 46)) (ci := 5) (k := 7) rfl (by decide) rfl (by decide) g_791 d_M_likely_43 h (fun r14 h => ?_)
          refine y_iload_n C (i := 2) 2 d_M_likely_46 rfl rfl ?_
          refine y_al C d_M_likely_47 h (fun x15 h => ?_)
          refine y_aload_n C (i := 0) 0 d_M_likely_48 rfl rfl ?_
          refine y_gr C (q := (yR5, yT5, 46)) (ci := 5) (k := 15) rfl (by decide) rfl (by decide) g_799 d_M_likely_49 h (fun r16 h => ?_)
          refine y_iload_n C (i := 1) 1 d_M_likely_52 rfl rfl ?_
          refine y_al C d_M_likely_53 h (fun x17 h => ?_)
          refine y_ic_eq C 60 d_M_likely_54 (by decide) h (fun k18 h => ?_) (fun k18 h => ?_)
          · refine y_iconst C (v := 0) d_M_likely_60 (by decide) ?_
            refine y_istore C (i := 4) (lvp := [(0, va_re w.1 (some o)), (1, .int a1), (2, .int a2), (3, .int a3)]) d_M_likely_61 (by decide) rfl ?_
            refine y_iconst C (v := 0) d_M_likely_63 (by decide) ?_
            refine y_istore C (i := 5) (lvp := [(4, .int (0 : Int32)), (0, va_re w.1 (some o)), (1, .int a1), (2, .int a2), (3, .int a3)]) d_M_likely_64 (by decide) rfl ?_
            refine y_sub [2, 3, 4, 5, 1, 0] rfl (w_M_likely_L66 F C hr hlocks _ _ _ _ _ (fun u33 x34 h => ?_) _ _ _ _ h)
            refine y_aload_n C (i := 0) 0 d_M_likely_118 rfl rfl ?_
            refine y_aload_n C (i := 0) 0 d_M_likely_119 rfl rfl ?_
            refine y_gr C (q := (yR5, yT5, 46)) (ci := 5) (k := 17) rfl (by decide) rfl (by decide) g_801 d_M_likely_120 h (fun r35 h => ?_)
            refine y_iload_n C (i := 1) 1 d_M_likely_123 rfl rfl ?_
            refine y_al C d_M_likely_124 h (fun x36 h => ?_)
            refine y_iload_n C (i := 2) 2 d_M_likely_125 rfl rfl ?_
            refine y_callV 2 C (q := (yR5, yT5, 46)) (ci := 5) (fun t out hh => c_M_likeOf l w F u33 t x36 a2 out hh) gc_M_likely_136 rfl (by decide) hd_M_likeOf ⟨Nat.le_of_ble_eq_true rfl, Nat.le_of_ble_eq_true rfl⟩ rfl rfl rfl rfl (by simp [y_cat, y_catI, y_catJ]) d_M_likely_126 h (fun x37 u38 h => ?_)
            refine y_stk (stp0 := [.int x37]) rfl ?_
            refine y_istore C (i := 5) (lvp := [(0, va_re w.1 (some o)), (1, .int a1), (2, .int a2), (3, .int a3), (4, .int x34)]) d_M_likely_129 (by decide) rfl ?_
            refine y_iload C (i := 5) 0 d_M_likely_131 rfl ?_
            refine y_if_ne C 138 d_M_likely_133 (by decide) h (fun k39 h => ?_) (fun k39 h => ?_)
            · refine y_iload_n C (i := 3) 4 d_M_likely_136 rfl rfl ?_
              exact y_iret C hr hlocks d_M_likely_137 h
            · refine y_iload C (i := 4) 5 d_M_likely_138 rfl ?_
              refine y_iload C (i := 5) 0 d_M_likely_140 rfl ?_
              refine y_callS 2 C (fun out hh => c_M_divisor l w F u38 x34 x37 out hh) (y_gc g_1143) g_1141 g_6 g_1142 hn_M_divisor ⟨Nat.le_of_ble_eq_true rfl, Nat.le_of_ble_eq_true rfl⟩ rfl rfl rfl rfl (by simp [y_cat, y_catI, y_catJ]) d_M_likely_142 h (fun x40 u41 h => ?_)
              refine y_stk (stp0 := [.int x40]) rfl ?_
              refine y_istore C (i := 6) (lvp := [(5, .int x37), (0, va_re w.1 (some o)), (1, .int a1), (2, .int a2), (3, .int a3), (4, .int x34)]) d_M_likely_145 (by decide) rfl ?_
              refine y_iload_n C (i := 3) 5 d_M_likely_147 rfl rfl ?_
              refine y_if_ne C 159 d_M_likely_148 (by decide) h (fun k42 h => ?_) (fun k42 h => ?_)
              · refine y_iload C (i := 5) 1 d_M_likely_151 rfl ?_
                refine y_iload C (i := 6) 0 d_M_likely_153 rfl ?_
                refine y_idiv C d_M_likely_155 h (fun x43 h => ?_)
                refine y_goto C (tgt := 164) d_M_likely_156 (by decide) ?_
                exact y_iret C hr hlocks d_M_likely_164 h
              · refine y_iload C (i := 4) 6 d_M_likely_159 rfl ?_
                refine y_iload C (i := 6) 0 d_M_likely_161 rfl ?_
                refine y_idiv C d_M_likely_163 h (fun x44 h => ?_)
                exact y_iret C hr hlocks d_M_likely_164 h
          · refine y_bipush C (v := -3) d_M_likely_57 (by decide) ?_
            exact y_iret C hr hlocks d_M_likely_59 h
/-! M_idle -/
theorem d_M_idle_0 : decode prog_8_method_55_code 0 = .ok (.aload_n 0, 1) := by decide +kernel
theorem d_M_idle_1 : decode prog_8_method_55_code 1 = .ok (.iconst 0, 1) := by decide +kernel
theorem d_M_idle_2 : decode prog_8_method_55_code 2 = .ok (.putfield 102, 3) := by decide +kernel
theorem d_M_idle_5 : decode prog_8_method_55_code 5 = .ok (.iload_n 1, 1) := by decide +kernel
theorem d_M_idle_6 : decode prog_8_method_55_code 6 = .ok (.invokestatic 265, 3) := by decide +kernel
theorem d_M_idle_9 : decode prog_8_method_55_code 9 = .ok (.ifCond .ne 5, 3) := by decide +kernel
theorem d_M_idle_12 : decode prog_8_method_55_code 12 = .ok (.iconst (-1), 1) := by decide +kernel
theorem d_M_idle_13 : decode prog_8_method_55_code 13 = .ok (.ireturn, 1) := by decide +kernel
theorem d_M_idle_14 : decode prog_8_method_55_code 14 = .ok (.iconst 0, 1) := by decide +kernel
theorem d_M_idle_15 : decode prog_8_method_55_code 15 = .ok (.istore_n 2, 1) := by decide +kernel
theorem d_M_idle_16 : decode prog_8_method_55_code 16 = .ok (.iconst 0, 1) := by decide +kernel
theorem d_M_idle_17 : decode prog_8_method_55_code 17 = .ok (.istore_n 3, 1) := by decide +kernel
theorem d_M_idle_18 : decode prog_8_method_55_code 18 = .ok (.iload_n 3, 1) := by decide +kernel
theorem d_M_idle_19 : decode prog_8_method_55_code 19 = .ok (.aload_n 0, 1) := by decide +kernel
theorem d_M_idle_20 : decode prog_8_method_55_code 20 = .ok (.getfield 105, 3) := by decide +kernel
theorem d_M_idle_23 : decode prog_8_method_55_code 23 = .ok (.if_icmp .ge 80, 3) := by decide +kernel
theorem d_M_idle_26 : decode prog_8_method_55_code 26 = .ok (.aload_n 0, 1) := by decide +kernel
theorem d_M_idle_27 : decode prog_8_method_55_code 27 = .ok (.getfield 23, 3) := by decide +kernel
theorem d_M_idle_30 : decode prog_8_method_55_code 30 = .ok (.iload_n 3, 1) := by decide +kernel
theorem d_M_idle_31 : decode prog_8_method_55_code 31 = .ok (.iaload, 1) := by decide +kernel
theorem d_M_idle_32 : decode prog_8_method_55_code 32 = .ok (.iload_n 1, 1) := by decide +kernel
theorem d_M_idle_33 : decode prog_8_method_55_code 33 = .ok (.if_icmp .ne 7, 3) := by decide +kernel
theorem d_M_idle_36 : decode prog_8_method_55_code 36 = .ok (.iconst 1, 1) := by decide +kernel
theorem d_M_idle_37 : decode prog_8_method_55_code 37 = .ok (.goto 4, 3) := by decide +kernel
theorem d_M_idle_40 : decode prog_8_method_55_code 40 = .ok (.iconst 0, 1) := by decide +kernel
theorem d_M_idle_41 : decode prog_8_method_55_code 41 = .ok (.istore 4, 2) := by decide +kernel
theorem d_M_idle_43 : decode prog_8_method_55_code 43 = .ok (.iconst 0, 1) := by decide +kernel
theorem d_M_idle_44 : decode prog_8_method_55_code 44 = .ok (.istore 5, 2) := by decide +kernel
theorem d_M_idle_46 : decode prog_8_method_55_code 46 = .ok (.iload 5, 2) := by decide +kernel
theorem d_M_idle_48 : decode prog_8_method_55_code 48 = .ok (.aload_n 0, 1) := by decide +kernel
theorem d_M_idle_49 : decode prog_8_method_55_code 49 = .ok (.getfield 112, 3) := by decide +kernel
theorem d_M_idle_52 : decode prog_8_method_55_code 52 = .ok (.if_icmp .ge 32, 3) := by decide +kernel
theorem d_M_idle_55 : decode prog_8_method_55_code 55 = .ok (.iload 4, 2) := by decide +kernel
theorem d_M_idle_57 : decode prog_8_method_55_code 57 = .ok (.ifCond .eq 18, 3) := by decide +kernel
theorem d_M_idle_60 : decode prog_8_method_55_code 60 = .ok (.aload_n 0, 1) := by decide +kernel
theorem d_M_idle_61 : decode prog_8_method_55_code 61 = .ok (.getfield 53, 3) := by decide +kernel
theorem d_M_idle_64 : decode prog_8_method_55_code 64 = .ok (.iload 5, 2) := by decide +kernel
theorem d_M_idle_66 : decode prog_8_method_55_code 66 = .ok (.iaload, 1) := by decide +kernel
theorem d_M_idle_67 : decode prog_8_method_55_code 67 = .ok (.iload_n 3, 1) := by decide +kernel
theorem d_M_idle_68 : decode prog_8_method_55_code 68 = .ok (.if_icmp .eq 7, 3) := by decide +kernel
theorem d_M_idle_71 : decode prog_8_method_55_code 71 = .ok (.iconst 1, 1) := by decide +kernel
theorem d_M_idle_72 : decode prog_8_method_55_code 72 = .ok (.goto 4, 3) := by decide +kernel
theorem d_M_idle_75 : decode prog_8_method_55_code 75 = .ok (.iconst 0, 1) := by decide +kernel
theorem d_M_idle_76 : decode prog_8_method_55_code 76 = .ok (.istore 4, 2) := by decide +kernel
theorem d_M_idle_78 : decode prog_8_method_55_code 78 = .ok (.iinc 5 1, 3) := by decide +kernel
theorem d_M_idle_81 : decode prog_8_method_55_code 81 = .ok (.goto (-35), 3) := by decide +kernel
theorem d_M_idle_84 : decode prog_8_method_55_code 84 = .ok (.iload_n 2, 1) := by decide +kernel
theorem d_M_idle_85 : decode prog_8_method_55_code 85 = .ok (.iload 4, 2) := by decide +kernel
theorem d_M_idle_87 : decode prog_8_method_55_code 87 = .ok (.ifCond .eq 7, 3) := by decide +kernel
theorem d_M_idle_90 : decode prog_8_method_55_code 90 = .ok (.iconst 1, 1) := by decide +kernel
theorem d_M_idle_91 : decode prog_8_method_55_code 91 = .ok (.goto 4, 3) := by decide +kernel
theorem d_M_idle_94 : decode prog_8_method_55_code 94 = .ok (.iconst 0, 1) := by decide +kernel
theorem d_M_idle_95 : decode prog_8_method_55_code 95 = .ok (.iadd, 1) := by decide +kernel
theorem d_M_idle_96 : decode prog_8_method_55_code 96 = .ok (.istore_n 2, 1) := by decide +kernel
theorem d_M_idle_97 : decode prog_8_method_55_code 97 = .ok (.iinc 3 1, 3) := by decide +kernel
theorem d_M_idle_100 : decode prog_8_method_55_code 100 = .ok (.goto (-82), 3) := by decide +kernel
theorem d_M_idle_103 : decode prog_8_method_55_code 103 = .ok (.iload_n 2, 1) := by decide +kernel
theorem d_M_idle_104 : decode prog_8_method_55_code 104 = .ok (.ireturn, 1) := by decide +kernel
set_option maxHeartbeats 4000000 in
set_option maxRecDepth 100000 in
def f_M_idle_L46 (F : Nat) (a0 : Option Nat) (a1 : Int32) (a2 : Int32) (a3 : Int32) (k : Mm → Int32 → Option (Int32 × Mm)) : Nat → Mm → Int32 → Int32 → Option (Int32 × Mm)
  | 0, _, _, _ => none
  | n + 1, u, a4, a5 => ob (jgi YM 5 1 u a0) fun (x11 : Int32) => (if x11 ≤ a5 then k u a4 else ob ((if a4 = 0 then some (0 : Int32) else ob (jgr YM 5 17 a0) fun (r15 : Option Nat) => ob (jal YM u r15 a5) fun (x16 : Int32) => (if x16 = a3 then some (0 : Int32) else some (1 : Int32))) : Option (Int32)) fun q13 => ob (some (a5 + (1 : Int32))) fun (x18 : Int32) => f_M_idle_L46 F a0 a1 a2 a3 k n u q13 x18)
set_option maxHeartbeats 4000000 in
set_option maxRecDepth 100000 in
theorem w_M_idle_L46 {p : Program} {l : Launch} {e : Env} {s : State} {m : MethodId} {args : Array Value} {below : List Frame} {meth : Method} {c : Code} {w : WP} {Q : State → Prop} (F : Nat) (C : yX p e ({ frames := 2, cells := 0, slots := 0, locals := 45 } : Room) s m args c YM w 6 prog_8_method_55_code "WhoseGlassModel") (hr : meth.sig.returnType = (some .int)) (hlocks : meth.locks = false) (a0 : Option Nat) (a1 : Int32) (a2 : Int32) (a3 : Int32) {out : Int32 × Mm} (k : Mm → Int32 → Option (Int32 × Mm)) (hk : ∀ (u : Mm) (a4 : Int32), k u a4 = some out → yG p l e ({ frames := 2, cells := 0, slots := 0, locals := 45 } : Room) s m args below meth c YM w 6 Q u 84 [(0, va_re w.1 a0), (1, .int a1), (2, .int a2), (3, .int a3), (4, .int a4)] []) : ∀ (n : Nat) (u : Mm) (a4 : Int32) (a5 : Int32), f_M_idle_L46 F a0 a1 a2 a3 k n u a4 a5 = some out → yG p l e ({ frames := 2, cells := 0, slots := 0, locals := 45 } : Room) s m args below meth c YM w 6 Q u 46 [(0, va_re w.1 a0), (1, .int a1), (2, .int a2), (3, .int a3), (4, .int a4), (5, .int a5)] [] := by
  intro n
  induction n with
  | zero => intro u a4 a5 h; rw [f_M_idle_L46] at h; cases h
  | succ n ih =>
    intro u a4 a5 h
    rw [f_M_idle_L46] at h
    refine y_iload C (i := 5) 5 d_M_idle_46 rfl ?_
    refine y_aload_n C (i := 0) 0 d_M_idle_48 rfl rfl ?_
    refine y_gi C (q := (yR5, yT5, 46)) (ci := 5) (k := 1) rfl (by decide) rfl g_785 d_M_idle_49 h (fun x11 h => ?_)
    refine y_ic_ge C 84 d_M_idle_52 (by decide) h (fun k12 h => ?_) (fun k12 h => ?_)
    · exact y_sub [0, 1, 2, 3, 4] rfl (hk _ _ h)
    · refine y_iload C (i := 4) 4 d_M_idle_55 rfl ?_
      obtain ⟨q13, hq13, h⟩ := ob_e h
      have hJq13 : yG p l e ({ frames := 2, cells := 0, slots := 0, locals := 45 } : Room) s m args below meth c YM w 6 Q u 76 [(0, va_re w.1 a0), (1, .int a1), (2, .int a2), (3, .int a3), (5, .int a5)] [.int q13] := by
        refine y_istore C (i := 4) (lvp := [(0, va_re w.1 a0), (1, .int a1), (2, .int a2), (3, .int a3), (5, .int a5)]) d_M_idle_76 (by decide) rfl ?_
        refine y_iinc C (j := 5) (v := 1) (lvp := [(4, .int q13), (0, va_re w.1 a0), (1, .int a1), (2, .int a2), (3, .int a3)]) d_M_idle_78 rfl (by decide) (by decide) rfl h (fun x18 h => ?_)
        refine y_goto C (tgt := 46) d_M_idle_81 (by decide) ?_
        exact y_sub [2, 3, 4, 5, 1, 0] rfl (ih _ _ _ h)
      refine y_if_eq C 75 d_M_idle_57 (by decide) hq13 (fun k14 hq13 => ?_) (fun k14 hq13 => ?_)
      · refine y_iconst C (v := 0) d_M_idle_75 (by decide) ?_
        cases hq13
        exact y_sub [0, 1, 2, 3, 5] rfl hJq13
      · refine y_aload_n C (i := 0) 0 d_M_idle_60 rfl rfl ?_
        refine y_gr C (q := (yR5, yT5, 46)) (ci := 5) (k := 17) rfl (by decide) rfl (by decide) g_801 d_M_idle_61 hq13 (fun r15 hq13 => ?_)
        refine y_iload C (i := 5) 5 d_M_idle_64 rfl ?_
        refine y_al C d_M_idle_66 hq13 (fun x16 hq13 => ?_)
        refine y_iload_n C (i := 3) 3 d_M_idle_67 rfl rfl ?_
        refine y_ic_eq C 75 d_M_idle_68 (by decide) hq13 (fun k17 hq13 => ?_) (fun k17 hq13 => ?_)
        · refine y_iconst C (v := 0) d_M_idle_75 (by decide) ?_
          cases hq13
          exact y_sub [0, 1, 2, 3, 5] rfl hJq13
        · refine y_iconst C (v := 1) d_M_idle_71 (by decide) ?_
          refine y_goto C (tgt := 76) d_M_idle_72 (by decide) ?_
          cases hq13
          exact y_sub [0, 1, 2, 3, 5] rfl hJq13
set_option maxHeartbeats 4000000 in
set_option maxRecDepth 100000 in
def f_M_idle_L18 (F : Nat) (a0 : Option Nat) (a1 : Int32) (k : Mm → Int32 → Option (Int32 × Mm)) : Nat → Mm → Int32 → Int32 → Option (Int32 × Mm)
  | 0, _, _, _ => none
  | n + 1, u, a2, a3 => ob (jgi YM 5 0 u a0) fun (x5 : Int32) => (if x5 ≤ a3 then k u a2 else ob (jgr YM 5 7 a0) fun (r7 : Option Nat) => ob (jal YM u r7 a3) fun (x8 : Int32) => ob ((if x8 = a1 then some (1 : Int32) else some (0 : Int32)) : Option (Int32)) fun q9 => f_M_idle_L46 F a0 a1 a2 a3 (fun (u19 : Mm) (x20 : Int32) => ob ((if x20 = 0 then some (0 : Int32) else some (1 : Int32)) : Option (Int32)) fun q21 => ob (some (a2 + q21)) fun (x23 : Int32) => ob (some (a3 + (1 : Int32))) fun (x24 : Int32) => f_M_idle_L18 F a0 a1 k n u19 x23 x24) F u q9 (0 : Int32))
set_option maxHeartbeats 4000000 in
set_option maxRecDepth 100000 in
theorem w_M_idle_L18 {p : Program} {l : Launch} {e : Env} {s : State} {m : MethodId} {args : Array Value} {below : List Frame} {meth : Method} {c : Code} {w : WP} {Q : State → Prop} (F : Nat) (C : yX p e ({ frames := 2, cells := 0, slots := 0, locals := 45 } : Room) s m args c YM w 6 prog_8_method_55_code "WhoseGlassModel") (hr : meth.sig.returnType = (some .int)) (hlocks : meth.locks = false) (a0 : Option Nat) (a1 : Int32) {out : Int32 × Mm} (k : Mm → Int32 → Option (Int32 × Mm)) (hk : ∀ (u : Mm) (a2 : Int32), k u a2 = some out → yG p l e ({ frames := 2, cells := 0, slots := 0, locals := 45 } : Room) s m args below meth c YM w 6 Q u 103 [(2, .int a2)] []) : ∀ (n : Nat) (u : Mm) (a2 : Int32) (a3 : Int32), f_M_idle_L18 F a0 a1 k n u a2 a3 = some out → yG p l e ({ frames := 2, cells := 0, slots := 0, locals := 45 } : Room) s m args below meth c YM w 6 Q u 18 [(0, va_re w.1 a0), (1, .int a1), (2, .int a2), (3, .int a3)] [] := by
  intro n
  induction n with
  | zero => intro u a2 a3 h; rw [f_M_idle_L18] at h; cases h
  | succ n ih =>
    intro u a2 a3 h
    rw [f_M_idle_L18] at h
    refine y_iload_n C (i := 3) 3 d_M_idle_18 rfl rfl ?_
    refine y_aload_n C (i := 0) 0 d_M_idle_19 rfl rfl ?_
    refine y_gi C (q := (yR5, yT5, 46)) (ci := 5) (k := 0) rfl (by decide) rfl g_784 d_M_idle_20 h (fun x5 h => ?_)
    refine y_ic_ge C 103 d_M_idle_23 (by decide) h (fun k6 h => ?_) (fun k6 h => ?_)
    · exact y_sub [2] rfl (hk _ _ h)
    · refine y_aload_n C (i := 0) 0 d_M_idle_26 rfl rfl ?_
      refine y_gr C (q := (yR5, yT5, 46)) (ci := 5) (k := 7) rfl (by decide) rfl (by decide) g_791 d_M_idle_27 h (fun r7 h => ?_)
      refine y_iload_n C (i := 3) 3 d_M_idle_30 rfl rfl ?_
      refine y_al C d_M_idle_31 h (fun x8 h => ?_)
      refine y_iload_n C (i := 1) 1 d_M_idle_32 rfl rfl ?_
      obtain ⟨q9, hq9, h⟩ := ob_e h
      have hJq9 : yG p l e ({ frames := 2, cells := 0, slots := 0, locals := 45 } : Room) s m args below meth c YM w 6 Q u 41 [(0, va_re w.1 a0), (1, .int a1), (2, .int a2), (3, .int a3)] [.int q9] := by
        refine y_istore C (i := 4) (lvp := [(0, va_re w.1 a0), (1, .int a1), (2, .int a2), (3, .int a3)]) d_M_idle_41 (by decide) rfl ?_
        refine y_iconst C (v := 0) d_M_idle_43 (by decide) ?_
        refine y_istore C (i := 5) (lvp := [(4, .int q9), (0, va_re w.1 a0), (1, .int a1), (2, .int a2), (3, .int a3)]) d_M_idle_44 (by decide) rfl ?_
        refine y_sub [2, 3, 4, 5, 1, 0] rfl (w_M_idle_L46 F C hr hlocks _ _ _ _ _ (fun u19 x20 h => ?_) _ _ _ _ h)
        refine y_iload_n C (i := 2) 2 d_M_idle_84 rfl rfl ?_
        refine y_iload C (i := 4) 4 d_M_idle_85 rfl ?_
        obtain ⟨q21, hq21, h⟩ := ob_e h
        have hJq21 : yG p l e ({ frames := 2, cells := 0, slots := 0, locals := 45 } : Room) s m args below meth c YM w 6 Q u19 95 [(0, va_re w.1 a0), (1, .int a1), (3, .int a3)] [.int q21, .int a2] := by
          refine y_iadd C d_M_idle_95 ?_
          refine y_istore_nB C (i := 2) (lvp := [(0, va_re w.1 a0), (1, .int a1), (3, .int a3)]) d_M_idle_96 rfl (by decide) rfl h (fun x23 h => ?_)
          refine y_iinc C (j := 3) (v := 1) (lvp := [(2, .int x23), (0, va_re w.1 a0), (1, .int a1)]) d_M_idle_97 rfl (by decide) (by decide) rfl h (fun x24 h => ?_)
          refine y_goto C (tgt := 18) d_M_idle_100 (by decide) ?_
          exact y_sub [2, 3, 1, 0] rfl (ih _ _ _ h)
        refine y_if_eq C 94 d_M_idle_87 (by decide) hq21 (fun k22 hq21 => ?_) (fun k22 hq21 => ?_)
        · refine y_iconst C (v := 0) d_M_idle_94 (by decide) ?_
          cases hq21
          exact y_sub [0, 1, 3] rfl hJq21
        · refine y_iconst C (v := 1) d_M_idle_90 (by decide) ?_
          refine y_goto C (tgt := 95) d_M_idle_91 (by decide) ?_
          cases hq21
          exact y_sub [0, 1, 3] rfl hJq21
      refine y_ic_ne C 40 d_M_idle_33 (by decide) hq9 (fun k10 hq9 => ?_) (fun k10 hq9 => ?_)
      · refine y_iconst C (v := 1) d_M_idle_36 (by decide) ?_
        refine y_goto C (tgt := 41) d_M_idle_37 (by decide) ?_
        cases hq9
        exact y_sub [0, 1, 2, 3] rfl hJq9
      · refine y_iconst C (v := 0) d_M_idle_40 (by decide) ?_
        cases hq9
        exact y_sub [0, 1, 2, 3] rfl hJq9
set_option maxRecDepth 100000 in
def f_M_idle (F : Nat) (u : Mm) (o : Nat) (a1 : Int32) : Option (Int32 × Mm) := ob (jpi YM 5 23 u (some o) (0 : Int32)) fun (u1 : Mm) => yb (f_M_isPlace F u1 a1) fun x2 u3 => (if x2 = 0 then some ((-1 : Int32), u3) else f_M_idle_L18 F (some o) a1 (fun (u25 : Mm) (x26 : Int32) => some (x26, u25)) F u3 (0 : Int32) (0 : Int32))
set_option maxHeartbeats 4000000 in
set_option maxRecDepth 100000 in
theorem c_M_idle (l : Launch) (w : WP) (F : Nat) (u : Mm) (o : Nat) (a1 : Int32) (out : Int32 × Mm) (h : f_M_idle F u o a1 = some out) : yMet l m_M_idle ws_M_idle ({ frames := 2, cells := 0, slots := 0, locals := 45 } : Room) YM w u [va_re w.1 (some o), .int a1] yfi out := by
  refine y_entry (own := "WhoseGlassModel") (lv := [(0, va_re w.1 (some o)), (1, .int a1)]) (by decide +kernel) rfl (by simp [lv_args, y_cat, y_catI, y_catJ]) (by simp [lg_sl, y_cat, y_catI, y_catJ]) ?_
  intro p e s m args below meth c C hr hlocks
  unfold f_M_idle at h
  refine y_aload_n C (i := 0) 0 d_M_idle_0 rfl rfl ?_
  refine y_iconst C (v := 0) d_M_idle_1 (by decide) ?_
  refine y_pi C (q := (yR5, yT5, 46)) (ci := 5) (k := 23) rfl (by decide) rfl rfl (by decide +kernel) g_807 d_M_idle_2 h (fun u1 h => ?_)
  refine y_iload_n C (i := 1) 1 d_M_idle_5 rfl rfl ?_
  refine y_callS 1 C (fun out hh => c_M_isPlace l w F u1 a1 out hh) (y_gc g_1086) g_1084 g_6 g_1085 hn_M_isPlace ⟨Nat.le_of_ble_eq_true rfl, Nat.le_of_ble_eq_true rfl⟩ rfl rfl rfl rfl (by simp [y_cat, y_catI, y_catJ]) d_M_idle_6 h (fun x2 u3 h => ?_)
  refine y_stk (stp0 := [.int x2]) rfl ?_
  refine y_if_ne C 14 d_M_idle_9 (by decide) h (fun k4 h => ?_) (fun k4 h => ?_)
  · refine y_iconst C (v := -1) d_M_idle_12 (by decide) ?_
    exact y_iret C hr hlocks d_M_idle_13 h
  · refine y_iconst C (v := 0) d_M_idle_14 (by decide) ?_
    refine y_istore_n C (i := 2) (lvp := [(0, va_re w.1 (some o)), (1, .int a1)]) d_M_idle_15 rfl (by decide) rfl ?_
    refine y_iconst C (v := 0) d_M_idle_16 (by decide) ?_
    refine y_istore_n C (i := 3) (lvp := [(2, .int (0 : Int32)), (0, va_re w.1 (some o)), (1, .int a1)]) d_M_idle_17 rfl (by decide) rfl ?_
    refine y_sub [2, 3, 1, 0] rfl (w_M_idle_L18 F C hr hlocks _ _ _ (fun u25 x26 h => ?_) _ _ _ _ h)
    refine y_iload_n C (i := 2) 0 d_M_idle_103 rfl rfl ?_
    exact y_iret C hr hlocks d_M_idle_104 h
