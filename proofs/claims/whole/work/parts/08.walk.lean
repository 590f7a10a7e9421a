/-! U_begin -/
theorem d_U_begin_0 : decode prog_3_method_2_code 0 = .ok (.aload_n 0, 1) := by decide +kernel
theorem d_U_begin_1 : decode prog_3_method_2_code 1 = .ok (.iload_n 1, 1) := by decide +kernel
theorem d_U_begin_2 : decode prog_3_method_2_code 2 = .ok (.putfield 15, 3) := by decide +kernel
theorem d_U_begin_5 : decode prog_3_method_2_code 5 = .ok (.aload_n 0, 1) := by decide +kernel
theorem d_U_begin_6 : decode prog_3_method_2_code 6 = .ok (.iload_n 2, 1) := by decide +kernel
theorem d_U_begin_7 : decode prog_3_method_2_code 7 = .ok (.putfield 18, 3) := by decide +kernel
theorem d_U_begin_10 : decode prog_3_method_2_code 10 = .ok (.aload_n 0, 1) := by decide +kernel
theorem d_U_begin_11 : decode prog_3_method_2_code 11 = .ok (.iload_n 3, 1) := by decide +kernel
theorem d_U_begin_12 : decode prog_3_method_2_code 12 = .ok (.putfield 21, 3) := by decide +kernel
theorem d_U_begin_15 : decode prog_3_method_2_code 15 = .ok (.aload_n 0, 1) := by decide +kernel
theorem d_U_begin_16 : decode prog_3_method_2_code 16 = .ok (.iload 4, 2) := by decide +kernel
theorem d_U_begin_18 : decode prog_3_method_2_code 18 = .ok (.putfield 24, 3) := by decide +kernel
theorem d_U_begin_21 : decode prog_3_method_2_code 21 = .ok (.aload_n 0, 1) := by decide +kernel
theorem d_U_begin_22 : decode prog_3_method_2_code 22 = .ok (.iload 5, 2) := by decide +kernel
theorem d_U_begin_24 : decode prog_3_method_2_code 24 = .ok (.putfield 27, 3) := by decide +kernel
theorem d_U_begin_27 : decode prog_3_method_2_code 27 = .ok (.aload_n 0, 1) := by decide +kernel
theorem d_U_begin_28 : decode prog_3_method_2_code 28 = .ok (.bipush (-4), 2) := by decide +kernel
theorem d_U_begin_30 : decode prog_3_method_2_code 30 = .ok (.putfield 30, 3) := by decide +kernel
theorem d_U_begin_33 : decode prog_3_method_2_code 33 = .ok (.aload_n 0, 1) := by decide +kernel
theorem d_U_begin_34 : decode prog_3_method_2_code 34 = .ok (.bipush (-4), 2) := by decide +kernel
theorem d_U_begin_36 : decode prog_3_method_2_code 36 = .ok (.putfield 33, 3) := by decide +kernel
theorem d_U_begin_39 : decode prog_3_method_2_code 39 = .ok (.aload_n 0, 1) := by decide +kernel
theorem d_U_begin_40 : decode prog_3_method_2_code 40 = .ok (.iconst 0, 1) := by decide +kernel
theorem d_U_begin_41 : decode prog_3_method_2_code 41 = .ok (.putfield 36, 3) := by decide +kernel
theorem d_U_begin_44 : decode prog_3_method_2_code 44 = .ok (.aload_n 0, 1) := by decide +kernel
theorem d_U_begin_45 : decode prog_3_method_2_code 45 = .ok (.iconst 0, 1) := by decide +kernel
theorem d_U_begin_46 : decode prog_3_method_2_code 46 = .ok (.putfield 39, 3) := by decide +kernel
theorem d_U_begin_49 : decode prog_3_method_2_code 49 = .ok (.return_, 1) := by decide +kernel
set_option maxRecDepth 100000 in
def f_U_begin (F : Nat) (u : Mm) (o : Nat) (a1 : Int32) (a2 : Int32) (a3 : Int32) (a4 : Int32) (a5 : Int32) : Option (Unit × Mm) := ob (jpi YX 1 1 u (some o) a1) fun (u1 : Mm) => ob (jpi YX 1 2 u1 (some o) a2) fun (u2 : Mm) => ob (jpi YX 1 3 u2 (some o) a3) fun (u3 : Mm) => ob (jpi YX 1 4 u3 (some o) a4) fun (u4 : Mm) => ob (jpi YX 1 5 u4 (some o) a5) fun (u5 : Mm) => ob (jpi YX 1 6 u5 (some o) (-4 : Int32)) fun (u6 : Mm) => ob (jpi YX 1 7 u6 (some o) (-4 : Int32)) fun (u7 : Mm) => ob (jpi YX 1 8 u7 (some o) (0 : Int32)) fun (u8 : Mm) => ob (jpz YX 1 9 u8 (some o) (0 : Int32)) fun (u9 : Mm) => some ((), u9)
set_option maxHeartbeats 4000000 in
set_option maxRecDepth 100000 in
theorem c_U_begin (l : Launch) (w : WP) (F : Nat) (u : Mm) (o : Nat) (a1 : Int32) (a2 : Int32) (a3 : Int32) (a4 : Int32) (a5 : Int32) (out : Unit × Mm) (h : f_U_begin F u o a1 a2 a3 a4 a5 = some out) : yMet l m_U_begin ws_U_begin ({ frames := 0, cells := 0, slots := 0, locals := 0 } : Room) YX w u [va_re w.1 (some o), .int a1, .int a2, .int a3, .int a4, .int a5] yfv out := by
  refine y_entry (own := "WhoseGlass$Guest") (lv := [(0, va_re w.1 (some o)), (1, .int a1), (2, .int a2), (3, .int a3), (4, .int a4), (5, .int a5)]) (by decide +kernel) rfl (by simp [lv_args, y_cat, y_catI, y_catJ]) (by simp [lg_sl, y_cat, y_catI, y_catJ]) ?_
  intro p e s m args below meth c C hr hlocks
  unfold f_U_begin at h
  refine y_aload_n C (i := 0) 0 d_U_begin_0 rfl rfl ?_
  refine y_iload_n C (i := 1) 1 d_U_begin_1 rfl rfl ?_
  refine y_pi C (q := (yR1, yT1, 10)) (ci := 1) (k := 1) rfl (by decide) rfl rfl (by decide +kernel) g_86 d_U_begin_2 h (fun u1 h => ?_)
  refine y_aload_n C (i := 0) 0 d_U_begin_5 rfl rfl ?_
  refine y_iload_n C (i := 2) 2 d_U_begin_6 rfl rfl ?_
  refine y_pi C (q := (yR1, yT1, 10)) (ci := 1) (k := 2) rfl (by decide) rfl rfl (by decide +kernel) g_88 d_U_begin_7 h (fun u2 h => ?_)
  refine y_aload_n C (i := 0) 0 d_U_begin_10 rfl rfl ?_
  refine y_iload_n C (i := 3) 3 d_U_begin_11 rfl rfl ?_
  refine y_pi C (q := (yR1, yT1, 10)) (ci := 1) (k := 3) rfl (by decide) rfl rfl (by decide +kernel) g_90 d_U_begin_12 h (fun u3 h => ?_)
  refine y_aload_n C (i := 0) 0 d_U_begin_15 rfl rfl ?_
  refine y_iload C (i := 4) 4 d_U_begin_16 rfl ?_
  refine y_pi C (q := (yR1, yT1, 10)) (ci := 1) (k := 4) rfl (by decide) rfl rfl (by decide +kernel) g_92 d_U_begin_18 h (fun u4 h => ?_)
  refine y_aload_n C (i := 0) 0 d_U_begin_21 rfl rfl ?_
  refine y_iload C (i := 5) 5 d_U_begin_22 rfl ?_
  refine y_pi C (q := (yR1, yT1, 10)) (ci := 1) (k := 5) rfl (by decide) rfl rfl (by decide +kernel) g_94 d_U_begin_24 h (fun u5 h => ?_)
  refine y_aload_n C (i := 0) 0 d_U_begin_27 rfl rfl ?_
  refine y_bipush C (v := -4) d_U_begin_28 (by decide) ?_
  refine y_pi C (q := (yR1, yT1, 10)) (ci := 1) (k := 6) rfl (by decide) rfl rfl (by decide +kernel) g_97 d_U_begin_30 h (fun u6 h => ?_)
  refine y_aload_n C (i := 0) 0 d_U_begin_33 rfl rfl ?_
  refine y_bipush C (v := -4) d_U_begin_34 (by decide) ?_
  refine y_pi C (q := (yR1, yT1, 10)) (ci := 1) (k := 7) rfl (by decide) rfl rfl (by decide +kernel) g_101 d_U_begin_36 h (fun u7 h => ?_)
  refine y_aload_n C (i := 0) 0 d_U_begin_39 rfl rfl ?_
  refine y_iconst C (v := 0) d_U_begin_40 (by decide) ?_
  refine y_pi C (q := (yR1, yT1, 10)) (ci := 1) (k := 8) rfl (by decide) rfl rfl (by decide +kernel) g_104 d_U_begin_41 h (fun u8 h => ?_)
  refine y_aload_n C (i := 0) 0 d_U_begin_44 rfl rfl ?_
  refine y_iconst C (v := 0) d_U_begin_45 (by decide) ?_
  refine y_pz C (q := (yR1, yT1, 10)) (ci := 1) (k := 9) rfl (by decide) rfl rfl (by decide +kernel) g_107 d_U_begin_46 h (fun u9 h => ?_)
  exact y_vret C hr hlocks d_U_begin_49 h
/-! H_addGuest -/
theorem d_H_addGuest_0 : decode prog_4_method_6_code 0 = .ok (.aload_n 0, 1) := by decide +kernel
theorem d_H_addGuest_1 : decode prog_4_method_6_code 1 = .ok (.getfield 37, 3) := by decide +kernel
theorem d_H_addGuest_4 : decode prog_4_method_6_code 4 = .ok (.bipush 6, 2) := by decide +kernel
theorem d_H_addGuest_6 : decode prog_4_method_6_code 6 = .ok (.if_icmp .lt 5, 3) := by decide +kernel
theorem d_H_addGuest_9 : decode prog_4_method_6_code 9 = .ok (.aconst_null, 1) := by decide +kernel
theorem d_H_addGuest_10 : decode prog_4_method_6_code 10 = .ok (.areturn, 1) := by decide +kernel
theorem d_H_addGuest_11 : decode prog_4_method_6_code 11 = .ok (.aload_n 0, 1) := by decide +kernel
theorem d_H_addGuest_12 : decode prog_4_method_6_code 12 = .ok (.dup, 1) := by decide +kernel
theorem d_H_addGuest_13 : decode prog_4_method_6_code 13 = .ok (.getfield 37, 3) := by decide +kernel
theorem d_H_addGuest_16 : decode prog_4_method_6_code 16 = .ok (.iconst 1, 1) := by decide +kernel
theorem d_H_addGuest_17 : decode prog_4_method_6_code 17 = .ok (.iadd, 1) := by decide +kernel
theorem d_H_addGuest_18 : decode prog_4_method_6_code 18 = .ok (.putfield 37, 3) := by decide +kernel
theorem d_H_addGuest_21 : decode prog_4_method_6_code 21 = .ok (.aload_n 0, 1) := by decide +kernel
theorem d_H_addGuest_22 : decode prog_4_method_6_code 22 = .ok (.aload_n 0, 1) := by decide +kernel
theorem d_H_addGuest_23 : decode prog_4_method_6_code 23 = .ok (.getfield 37, 3) := by decide +kernel
theorem d_H_addGuest_26 : decode prog_4_method_6_code 26 = .ok (.iconst 1, 1) := by decide +kernel
theorem d_H_addGuest_27 : decode prog_4_method_6_code 27 = .ok (.isub, 1) := by decide +kernel
theorem d_H_addGuest_28 : decode prog_4_method_6_code 28 = .ok (.invokevirtual 57, 3) := by decide +kernel
theorem d_H_addGuest_31 : decode prog_4_method_6_code 31 = .ok (.astore 6, 2) := by decide +kernel
theorem d_H_addGuest_33 : decode prog_4_method_6_code 33 = .ok (.aload 6, 2) := by decide +kernel
theorem d_H_addGuest_35 : decode prog_4_method_6_code 35 = .ok (.ifnull 15, 3) := by decide +kernel
theorem d_H_addGuest_38 : decode prog_4_method_6_code 38 = .ok (.aload 6, 2) := by decide +kernel
theorem d_H_addGuest_40 : decode prog_4_method_6_code 40 = .ok (.iload_n 1, 1) := by decide +kernel
theorem d_H_addGuest_41 : decode prog_4_method_6_code 41 = .ok (.iload_n 2, 1) := by decide +kernel
theorem d_H_addGuest_42 : decode prog_4_method_6_code 42 = .ok (.iload_n 3, 1) := by decide +kernel
theorem d_H_addGuest_43 : decode prog_4_method_6_code 43 = .ok (.iload 4, 2) := by decide +kernel
theorem d_H_addGuest_45 : decode prog_4_method_6_code 45 = .ok (.iload 5, 2) := by decide +kernel
theorem d_H_addGuest_47 : decode prog_4_method_6_code 47 = .ok (.invokevirtual 68, 3) := by decide +kernel
theorem d_H_addGuest_50 : decode prog_4_method_6_code 50 = .ok (.aload 6, 2) := by decide +kernel
theorem d_H_addGuest_52 : decode prog_4_method_6_code 52 = .ok (.areturn, 1) := by decide +kernel
theorem gc_H_addGuest_57 : GoodIn yGW (wsV "WhoseGlass$House" 57 yR2 m_H_guestAt ws_H_guestAt) := y_gV g_267 g_268 g_269 g_2 g_270
theorem gc_H_addGuest_68 : GoodIn yGW (wsV "WhoseGlass$House" 68 yR1 m_U_begin ws_U_begin) := y_gV g_354 g_355 g_356 g_4 g_357
set_option maxRecDepth 100000 in
def f_H_addGuest (F : Nat) (u : Mm) (o : Nat) (a1 : Int32) (a2 : Int32) (a3 : Int32) (a4 : Int32) (a5 : Int32) : Option (Option Nat × Mm) := ob (jgi YX 2 3 u (some o)) fun (x1 : Int32) => (if x1 < (6 : Int32) then ob (jgi YX 2 3 u (some o)) fun (x3 : Int32) => ob (jpi YX 2 3 u (some o) (x3 + (1 : Int32))) fun (u4 : Mm) => ob (jgi YX 2 3 u4 (some o)) fun (x5 : Int32) => ob (jk YX 2 (some o)) fun t => yb (f_H_guestAt F u4 t (x5 - (1 : Int32))) fun r6 u7 => ob ((if r6 = none then some u7 else ob (jk YX 1 r6) fun t => yb (f_U_begin F u7 t a1 a2 a3 a4 a5) fun v10 u11 => some u11) : Option (Mm)) fun q8 => some (r6, q8) else some (none, u))
set_option maxHeartbeats 4000000 in
set_option maxRecDepth 100000 in
theorem c_H_addGuest (l : Launch) (w : WP) (F : Nat) (u : Mm) (o : Nat) (a1 : Int32) (a2 : Int32) (a3 : Int32) (a4 : Int32) (a5 : Int32) (out : Option Nat × Mm) (h : f_H_addGuest F u o a1 a2 a3 a4 a5 = some out) : yMet l m_H_addGuest ws_H_addGuest ({ frames := 1, cells := 0, slots := 0, locals := 25 } : Room) YX w u [va_re w.1 (some o), .int a1, .int a2, .int a3, .int a4, .int a5] (yfr w) out := by
  refine y_entry (own := "WhoseGlass$House") (lv := [(0, va_re w.1 (some o)), (1, .int a1), (2, .int a2), (3, .int a3), (4, .int a4), (5, .int a5)]) (by decide +kernel) rfl (by simp [lv_args, y_cat, y_catI, y_catJ]) (by simp [lg_sl, y_cat, y_catI, y_catJ]) ?_
  intro p e s m args below meth c C hr hlocks
  unfold f_H_addGuest at h
  refine y_aload_n C (i := 0) 0 d_H_addGuest_0 rfl rfl ?_
  refine y_gi C (q := (yR2, yT2, 9)) (ci := 2) (k := 3) rfl (by decide) rfl g_135 d_H_addGuest_1 h (fun x1 h => ?_)
  refine y_bipush C (v := 6) d_H_addGuest_4 (by decide) ?_
  refine y_ic_lt C 11 d_H_addGuest_6 (by decide) h (fun k2 h => ?_) (fun k2 h => ?_)
  · refine y_aload_n C (i := 0) 0 d_H_addGuest_11 rfl rfl ?_
    refine y_dup C d_H_addGuest_12 (y_cat _ _) ?_
    refine y_gi C (q := (yR2, yT2, 9)) (ci := 2) (k := 3) rfl (by decide) rfl g_135 d_H_addGuest_13 h (fun x3 h => ?_)
    refine y_iconst C (v := 1) d_H_addGuest_16 (by decide) ?_
    refine y_iadd C d_H_addGuest_17 ?_
    refine y_pi C (q := (yR2, yT2, 9)) (ci := 2) (k := 3) rfl (by decide) rfl rfl (by decide +kernel) g_135 d_H_addGuest_18 h (fun u4 h => ?_)
    refine y_aload_n C (i := 0) 0 d_H_addGuest_21 rfl rfl ?_
    refine y_aload_n C (i := 0) 0 d_H_addGuest_22 rfl rfl ?_
    refine y_gi C (q := (yR2, yT2, 9)) (ci := 2) (k := 3) rfl (by decide) rfl g_135 d_H_addGuest_23 h (fun x5 h => ?_)
    refine y_iconst C (v := 1) d_H_addGuest_26 (by decide) ?_
    refine y_isub C d_H_addGuest_27 ?_
    refine y_callV 1 C (q := (yR2, yT2, 9)) (ci := 2) (fun t out hh => c_H_guestAt l w F u4 t (x5 - (1 : Int32)) out hh) gc_H_addGuest_57 rfl (by decide) hd_H_guestAt ⟨Nat.le_of_ble_eq_true rfl, Nat.le_of_ble_eq_true rfl⟩ rfl rfl rfl rfl (by simp [y_cat, y_catI, y_catJ]) d_H_addGuest_28 h (fun r6 u7 h => ?_)
    refine y_stk (stp0 := [va_re w.1 r6]) rfl ?_
    refine y_astore C (i := 6) (lvp := [(0, va_re w.1 (some o)), (1, .int a1), (2, .int a2), (3, .int a3), (4, .int a4), (5, .int a5)]) d_H_addGuest_31 (by decide) (by simp [List.filter, y_cat, y_catI, y_catJ]) ?_
    refine y_aload C (i := 6) 0 d_H_addGuest_33 rfl ?_
    obtain ⟨q8, hq8, h⟩ := ob_e h
    have hJq8 : yG p l e ({ frames := 1, cells := 0, slots := 0, locals := 25 } : Room) s m args below meth c YX w 7 (MQ below (yQ YX w (yfr w) out) args s 0 0 (yA YX w)) q8 50 [(6, va_re w.1 r6)] [] := by
      refine y_aload C (i := 6) 0 d_H_addGuest_50 rfl ?_
      exact y_aret C hr hlocks d_H_addGuest_52 h
    refine y_ifnull C 50 d_H_addGuest_35 (by decide) hq8 (fun k9 hq8 => ?_) (fun k9 hq8 => ?_)
    · cases hq8
      exact y_sub [0] rfl hJq8
    · refine y_aload C (i := 6) 0 d_H_addGuest_38 rfl ?_
      refine y_iload_n C (i := 1) 2 d_H_addGuest_40 rfl rfl ?_
      refine y_iload_n C (i := 2) 3 d_H_addGuest_41 rfl rfl ?_
      refine y_iload_n C (i := 3) 4 d_H_addGuest_42 rfl rfl ?_
      refine y_iload C (i := 4) 5 d_H_addGuest_43 rfl ?_
      refine y_iload C (i := 5) 6 d_H_addGuest_45 rfl ?_
      refine y_callV 5 C (q := (yR1, yT1, 10)) (ci := 1) (fun t out hh => c_U_begin l w F u7 t a1 a2 a3 a4 a5 out hh) gc_H_addGuest_68 rfl (by decide) hd_U_begin ⟨Nat.le_of_ble_eq_true rfl, Nat.le_of_ble_eq_true rfl⟩ rfl rfl rfl rfl (by simp [y_cat, y_catI, y_catJ]) d_H_addGuest_47 hq8 (fun v10 u11 hq8 => ?_)
      refine y_stk (stp0 := []) rfl ?_
      cases hq8
      exact y_sub [0] rfl hJq8
  · refine y_null C d_H_addGuest_9 ?_
    exact y_aret C hr hlocks d_H_addGuest_10 h
/-! T_guestEnters -/
theorem d_T_guestEnters_0 : decode prog_5_method_14_code 0 = .ok (.aload_n 0, 1) := by decide +kernel
theorem d_T_guestEnters_1 : decode prog_5_method_14_code 1 = .ok (.iload_n 1, 1) := by decide +kernel
theorem d_T_guestEnters_2 : decode prog_5_method_14_code 2 = .ok (.iconst 1, 1) := by decide +kernel
theorem d_T_guestEnters_3 : decode prog_5_method_14_code 3 = .ok (.iadd, 1) := by decide +kernel
theorem d_T_guestEnters_4 : decode prog_5_method_14_code 4 = .ok (.invokestatic 73, 3) := by decide +kernel
theorem d_T_guestEnters_7 : decode prog_5_method_14_code 7 = .ok (.istore_n 3, 1) := by decide +kernel
theorem d_T_guestEnters_8 : decode prog_5_method_14_code 8 = .ok (.aload_n 0, 1) := by decide +kernel
theorem d_T_guestEnters_9 : decode prog_5_method_14_code 9 = .ok (.iload_n 1, 1) := by decide +kernel
theorem d_T_guestEnters_10 : decode prog_5_method_14_code 10 = .ok (.iconst 2, 1) := by decide +kernel
theorem d_T_guestEnters_11 : decode prog_5_method_14_code 11 = .ok (.iadd, 1) := by decide +kernel
theorem d_T_guestEnters_12 : decode prog_5_method_14_code 12 = .ok (.invokestatic 73, 3) := by decide +kernel
theorem d_T_guestEnters_15 : decode prog_5_method_14_code 15 = .ok (.istore 4, 2) := by decide +kernel
theorem d_T_guestEnters_17 : decode prog_5_method_14_code 17 = .ok (.aload_n 0, 1) := by decide +kernel
theorem d_T_guestEnters_18 : decode prog_5_method_14_code 18 = .ok (.iload_n 1, 1) := by decide +kernel
theorem d_T_guestEnters_19 : decode prog_5_method_14_code 19 = .ok (.iconst 5, 1) := by decide +kernel
theorem d_T_guestEnters_20 : decode prog_5_method_14_code 20 = .ok (.iadd, 1) := by decide +kernel
theorem d_T_guestEnters_21 : decode prog_5_method_14_code 21 = .ok (.invokestatic 73, 3) := by decide +kernel
theorem d_T_guestEnters_24 : decode prog_5_method_14_code 24 = .ok (.istore 5, 2) := by decide +kernel
theorem d_T_guestEnters_26 : decode prog_5_method_14_code 26 = .ok (.iload_n 3, 1) := by decide +kernel
theorem d_T_guestEnters_27 : decode prog_5_method_14_code 27 = .ok (.iconst 1, 1) := by decide +kernel
theorem d_T_guestEnters_28 : decode prog_5_method_14_code 28 = .ok (.if_icmp .lt 19, 3) := by decide +kernel
theorem d_T_guestEnters_31 : decode prog_5_method_14_code 31 = .ok (.iload 4, 2) := by decide +kernel
theorem d_T_guestEnters_33 : decode prog_5_method_14_code 33 = .ok (.iconst 1, 1) := by decide +kernel
theorem d_T_guestEnters_34 : decode prog_5_method_14_code 34 = .ok (.if_icmp .lt 13, 3) := by decide +kernel
theorem d_T_guestEnters_37 : decode prog_5_method_14_code 37 = .ok (.iload 5, 2) := by decide +kernel
theorem d_T_guestEnters_39 : decode prog_5_method_14_code 39 = .ok (.bipush 6, 2) := by decide +kernel
theorem d_T_guestEnters_41 : decode prog_5_method_14_code 41 = .ok (.invokestatic 76, 3) := by decide +kernel
theorem d_T_guestEnters_44 : decode prog_5_method_14_code 44 = .ok (.ifCond .ne 5, 3) := by decide +kernel
theorem d_T_guestEnters_47 : decode prog_5_method_14_code 47 = .ok (.iconst 0, 1) := by decide +kernel
theorem d_T_guestEnters_48 : decode prog_5_method_14_code 48 = .ok (.ireturn, 1) := by decide +kernel
theorem d_T_guestEnters_49 : decode prog_5_method_14_code 49 = .ok (.aload_n 0, 1) := by decide +kernel
theorem d_T_guestEnters_50 : decode prog_5_method_14_code 50 = .ok (.iload_n 1, 1) := by decide +kernel
theorem d_T_guestEnters_51 : decode prog_5_method_14_code 51 = .ok (.iconst 3, 1) := by decide +kernel
theorem d_T_guestEnters_52 : decode prog_5_method_14_code 52 = .ok (.iadd, 1) := by decide +kernel
theorem d_T_guestEnters_53 : decode prog_5_method_14_code 53 = .ok (.invokestatic 73, 3) := by decide +kernel
theorem d_T_guestEnters_56 : decode prog_5_method_14_code 56 = .ok (.istore 6, 2) := by decide +kernel
theorem d_T_guestEnters_58 : decode prog_5_method_14_code 58 = .ok (.aload_n 0, 1) := by decide +kernel
theorem d_T_guestEnters_59 : decode prog_5_method_14_code 59 = .ok (.iload_n 1, 1) := by decide +kernel
theorem d_T_guestEnters_60 : decode prog_5_method_14_code 60 = .ok (.iconst 4, 1) := by decide +kernel
theorem d_T_guestEnters_61 : decode prog_5_method_14_code 61 = .ok (.iadd, 1) := by decide +kernel
theorem d_T_guestEnters_62 : decode prog_5_method_14_code 62 = .ok (.invokestatic 73, 3) := by decide +kernel
theorem d_T_guestEnters_65 : decode prog_5_method_14_code 65 = .ok (.istore 7, 2) := by decide +kernel
theorem d_T_guestEnters_67 : decode prog_5_method_14_code 67 = .ok (.aload_n 2, 1) := by decide +kernel
theorem d_T_guestEnters_68 : decode prog_5_method_14_code 68 = .ok (.iload_n 3, 1) := by decide +kernel
theorem d_T_guestEnters_69 : decode prog_5_method_14_code 69 = .ok (.iload 4, 2) := by decide +kernel
theorem d_T_guestEnters_71 : decode prog_5_method_14_code 71 = .ok (.iload 6, 2) := by decide +kernel
theorem d_T_guestEnters_73 : decode prog_5_method_14_code 73 = .ok (.iload 7, 2) := by decide +kernel
theorem d_T_guestEnters_75 : decode prog_5_method_14_code 75 = .ok (.iload 5, 2) := by decide +kernel
theorem d_T_guestEnters_77 : decode prog_5_method_14_code 77 = .ok (.invokevirtual 90, 3) := by decide +kernel
theorem d_T_guestEnters_80 : decode prog_5_method_14_code 80 = .ok (.ifnull 7, 3) := by decide +kernel
theorem d_T_guestEnters_83 : decode prog_5_method_14_code 83 = .ok (.iconst 1, 1) := by decide +kernel
theorem d_T_guestEnters_84 : decode prog_5_method_14_code 84 = .ok (.goto 4, 3) := by decide +kernel
theorem d_T_guestEnters_87 : decode prog_5_method_14_code 87 = .ok (.iconst 0, 1) := by decide +kernel
theorem d_T_guestEnters_88 : decode prog_5_method_14_code 88 = .ok (.ireturn, 1) := by decide +kernel
theorem gc_T_guestEnters_90 : GoodIn yGW (wsV "WhoseGlass$HouseText" 90 yR2 m_H_addGuest ws_H_addGuest) := y_gV g_350 g_351 g_352 g_2 g_353
set_option maxRecDepth 100000 in
def f_T_guestEnters (F : Nat) (u : Mm) (a0 : Option Nat) (a1 : Int32) (a2 : Option Nat) : Option (Int32 × Mm) := yb (f_T_digit F u a0 (a1 + (1 : Int32))) fun x1 u2 => yb (f_T_digit F u2 a0 (a1 + (2 : Int32))) fun x3 u4 => yb (f_T_digit F u4 a0 (a1 + (5 : Int32))) fun x5 u6 => (if x1 < (1 : Int32) then ob (jz (0 : Int32)) (fun v => some (v, u6)) else (if x3 < (1 : Int32) then ob (jz (0 : Int32)) (fun v => some (v, u6)) else yb (f_X_isBelow F u6 x5 (6 : Int32)) fun x9 u10 => (if x9 = 0 then ob (jz (0 : Int32)) (fun v => some (v, u10)) else yb (f_T_digit F u10 a0 (a1 + (3 : Int32))) fun x12 u13 => yb (f_T_digit F u13 a0 (a1 + (4 : Int32))) fun x14 u15 => ob (jk YX 2 a2) fun t => yb (f_H_addGuest F u15 t x1 x3 x12 x14 x5) fun r16 u17 => (if r16 = none then ob (jz (0 : Int32)) (fun v => some (v, u17)) else ob (jz (1 : Int32)) (fun v => some (v, u17))))))
set_option maxHeartbeats 4000000 in
set_option maxRecDepth 100000 in
theorem c_T_guestEnters (l : Launch) (w : WP) (F : Nat) (u : Mm) (a0 : Option Nat) (a1 : Int32) (a2 : Option Nat) (out : Int32 × Mm) (h : f_T_guestEnters F u a0 a1 a2 = some out) : yMet l m_T_guestEnters ws_T_guestEnters ({ frames := 2, cells := 0, slots := 0, locals := 51 } : Room) YX w u [va_re w.1 a0, .int a1, va_re w.1 a2] yfi out := by
  refine y_entry (own := "WhoseGlass$HouseText") (lv := [(0, va_re w.1 a0), (1, .int a1), (2, va_re w.1 a2)]) (by decide +kernel) rfl (by simp [lv_args, y_cat, y_catI, y_catJ]) (by simp [lg_sl, y_cat, y_catI, y_catJ]) ?_
  intro p e s m args below meth c C hr hlocks
  unfold f_T_guestEnters at h
  refine y_aload_n C (i := 0) 0 d_T_guestEnters_0 rfl rfl ?_
  refine y_iload_n C (i := 1) 1 d_T_guestEnters_1 rfl rfl ?_
  refine y_iconst C (v := 1) d_T_guestEnters_2 (by decide) ?_
  refine y_iadd C d_T_guestEnters_3 ?_
  refine y_callS 2 C (fun out hh => c_T_digit l w F u a0 (a1 + (1 : Int32)) out hh) (y_gc g_341) g_339 g_7 g_340 hn_T_digit ⟨Nat.le_of_ble_eq_true rfl, Nat.le_of_ble_eq_true rfl⟩ rfl rfl rfl rfl (by simp [y_cat, y_catI, y_catJ]) d_T_guestEnters_4 h (fun x1 u2 h => ?_)
  refine y_stk (stp0 := [.int x1]) rfl ?_
  refine y_istore_n C (i := 3) (lvp := [(0, va_re w.1 a0), (1, .int a1), (2, va_re w.1 a2)]) d_T_guestEnters_7 rfl (by decide) (by simp [List.filter, y_cat, y_catI, y_catJ]) ?_
  refine y_aload_n C (i := 0) 1 d_T_guestEnters_8 rfl rfl ?_
  refine y_iload_n C (i := 1) 2 d_T_guestEnters_9 rfl rfl ?_
  refine y_iconst C (v := 2) d_T_guestEnters_10 (by decide) ?_
  refine y_iadd C d_T_guestEnters_11 ?_
  refine y_callS 2 C (fun out hh => c_T_digit l w F u2 a0 (a1 + (2 : Int32)) out hh) (y_gc g_341) g_339 g_7 g_340 hn_T_digit ⟨Nat.le_of_ble_eq_true rfl, Nat.le_of_ble_eq_true rfl⟩ rfl rfl rfl rfl (by simp [y_cat, y_catI, y_catJ]) d_T_guestEnters_12 h (fun x3 u4 h => ?_)
  refine y_stk (stp0 := [.int x3]) rfl ?_
  refine y_istore C (i := 4) (lvp := [(3, .int x1), (0, va_re w.1 a0), (1, .int a1), (2, va_re w.1 a2)]) d_T_guestEnters_15 (by decide) rfl ?_
  refine y_aload_n C (i := 0) 2 d_T_guestEnters_17 rfl rfl ?_
  refine y_iload_n C (i := 1) 3 d_T_guestEnters_18 rfl rfl ?_
  refine y_iconst C (v := 5) d_T_guestEnters_19 (by decide) ?_
  refine y_iadd C d_T_guestEnters_20 ?_
  refine y_callS 2 C (fun out hh => c_T_digit l w F u4 a0 (a1 + (5 : Int32)) out hh) (y_gc g_341) g_339 g_7 g_340 hn_T_digit ⟨Nat.le_of_ble_eq_true rfl, Nat.le_of_ble_eq_true rfl⟩ rfl rfl rfl rfl (by simp [y_cat, y_catI, y_catJ]) d_T_guestEnters_21 h (fun x5 u6 h => ?_)
  refine y_stk (stp0 := [.int x5]) rfl ?_
  refine y_istore C (i := 5) (lvp := [(4, .int x3), (3, .int x1), (0, va_re w.1 a0), (1, .int a1), (2, va_re w.1 a2)]) d_T_guestEnters_24 (by decide) rfl ?_
  refine y_iload_n C (i := 3) 2 d_T_guestEnters_26 rfl rfl ?_
  refine y_iconst C (v := 1) d_T_guestEnters_27 (by decide) ?_
  refine y_ic_lt C 47 d_T_guestEnters_28 (by decide) h (fun k7 h => ?_) (fun k7 h => ?_)
  · refine y_iconst C (v := 0) d_T_guestEnters_47 (by decide) ?_
    exact y_zret C hr hlocks d_T_guestEnters_48 h
  · refine y_iload C (i := 4) 1 d_T_guestEnters_31 rfl ?_
    refine y_iconst C (v := 1) d_T_guestEnters_33 (by decide) ?_
    refine y_ic_lt C 47 d_T_guestEnters_34 (by decide) h (fun k8 h => ?_) (fun k8 h => ?_)
    · refine y_iconst C (v := 0) d_T_guestEnters_47 (by decide) ?_
      exact y_zret C hr hlocks d_T_guestEnters_48 h
    · refine y_iload C (i := 5) 0 d_T_guestEnters_37 rfl ?_
      refine y_bipush C (v := 6) d_T_guestEnters_39 (by decide) ?_
      refine y_callN 2 C (host := "WhoseGlass") (fun out hh => c_X_isBelow l w F u6 x5 (6 : Int32) out hh) (y_gc g_344) (by decide +kernel) g_1 g_343 hn_X_isBelow ⟨Nat.le_of_ble_eq_true rfl, Nat.le_of_ble_eq_true rfl⟩ rfl rfl rfl rfl (by simp [y_cat, y_catI, y_catJ]) d_T_guestEnters_41 h (fun x9 u10 h => ?_)
      refine y_stk (stp0 := [.int x9]) rfl ?_
      refine y_if_ne C 49 d_T_guestEnters_44 (by decide) h (fun k11 h => ?_) (fun k11 h => ?_)
      · refine y_iconst C (v := 0) d_T_guestEnters_47 (by decide) ?_
        exact y_zret C hr hlocks d_T_guestEnters_48 h
      · refine y_aload_n C (i := 0) 3 d_T_guestEnters_49 rfl rfl ?_
        refine y_iload_n C (i := 1) 4 d_T_guestEnters_50 rfl rfl ?_
        refine y_iconst C (v := 3) d_T_guestEnters_51 (by decide) ?_
        refine y_iadd C d_T_guestEnters_52 ?_
        refine y_callS 2 C (fun out hh => c_T_digit l w F u10 a0 (a1 + (3 : Int32)) out hh) (y_gc g_341) g_339 g_7 g_340 hn_T_digit ⟨Nat.le_of_ble_eq_true rfl, Nat.le_of_ble_eq_true rfl⟩ rfl rfl rfl rfl (by simp [y_cat, y_catI, y_catJ]) d_T_guestEnters_53 h (fun x12 u13 h => ?_)
        refine y_stk (stp0 := [.int x12]) rfl ?_
        refine y_istore C (i := 6) (lvp := [(5, .int x5), (4, .int x3), (3, .int x1), (0, va_re w.1 a0), (1, .int a1), (2, va_re w.1 a2)]) d_T_guestEnters_56 (by decide) rfl ?_
        refine y_aload_n C (i := 0) 4 d_T_guestEnters_58 rfl rfl ?_
        refine y_iload_n C (i := 1) 5 d_T_guestEnters_59 rfl rfl ?_
        refine y_iconst C (v := 4) d_T_guestEnters_60 (by decide) ?_
        refine y_iadd C d_T_guestEnters_61 ?_
        refine y_callS 2 C (fun out hh => c_T_digit l w F u13 a0 (a1 + (4 : Int32)) out hh) (y_gc g_341) g_339 g_7 g_340 hn_T_digit ⟨Nat.le_of_ble_eq_true rfl, Nat.le_of_ble_eq_true rfl⟩ rfl rfl rfl rfl (by simp [y_cat, y_catI, y_catJ]) d_T_guestEnters_62 h (fun x14 u15 h => ?_)
        refine y_stk (stp0 := [.int x14]) rfl ?_
        refine y_istore C (i := 7) (lvp := [(6, .int x12), (5, .int x5), (4, .int x3), (3, .int x1), (0, va_re w.1 a0), (1, .int a1), (2, va_re w.1 a2)]) d_T_guestEnters_65 (by decide) rfl ?_
        refine y_aload_n C (i := 2) 7 d_T_guestEnters_67 rfl rfl ?_
        refine y_iload_n C (i := 3) 4 d_T_guestEnters_68 rfl rfl ?_
        refine y_iload C (i := 4) 3 d_T_guestEnters_69 rfl ?_
        refine y_iload C (i := 6) 1 d_T_guestEnters_71 rfl ?_
        refine y_iload C (i := 7) 0 d_T_guestEnters_73 rfl ?_
        refine y_iload C (i := 5) 2 d_T_guestEnters_75 rfl ?_
        refine y_callV 5 C (q := (yR2, yT2, 9)) (ci := 2) (fun t out hh => c_H_addGuest l w F u15 t x1 x3 x12 x14 x5 out hh) gc_T_guestEnters_90 rfl (by decide) hd_H_addGuest ⟨Nat.le_of_ble_eq_true rfl, Nat.le_of_ble_eq_true rfl⟩ rfl rfl rfl rfl (by simp [y_cat, y_catI, y_catJ]) d_T_guestEnters_77 h (fun r16 u17 h => ?_)
        refine y_stk (stp0 := [va_re w.1 r16]) rfl ?_
        refine y_ifnull C 87 d_T_guestEnters_80 (by decide) h (fun k18 h => ?_) (fun k18 h => ?_)
        · refine y_iconst C (v := 0) d_T_guestEnters_87 (by decide) ?_
          exact y_zret C hr hlocks d_T_guestEnters_88 h
        · refine y_iconst C (v := 1) d_T_guestEnters_83 (by decide) ?_
          refine y_goto C (tgt := 88) d_T_guestEnters_84 (by decide) ?_
          exact y_zret C hr hlocks d_T_guestEnters_88 h
/-! G_isLaid -/
theorem d_G_isLaid_0 : decode prog_2_method_6_code 0 = .ok (.aload_n 0, 1) := by decide +kernel
theorem d_G_isLaid_1 : decode prog_2_method_6_code 1 = .ok (.getfield 31, 3) := by decide +kernel
theorem d_G_isLaid_4 : decode prog_2_method_6_code 4 = .ok (.bipush 6, 2) := by decide +kernel
theorem d_G_isLaid_6 : decode prog_2_method_6_code 6 = .ok (.if_icmp .ge 7, 3) := by decide +kernel
theorem d_G_isLaid_9 : decode prog_2_method_6_code 9 = .ok (.iconst 1, 1) := by decide +kernel
theorem d_G_isLaid_10 : decode prog_2_method_6_code 10 = .ok (.goto 4, 3) := by decide +kernel
theorem d_G_isLaid_13 : decode prog_2_method_6_code 13 = .ok (.iconst 0, 1) := by decide +kernel
theorem d_G_isLaid_14 : decode prog_2_method_6_code 14 = .ok (.ireturn, 1) := by decide +kernel
set_option maxRecDepth 100000 in
def f_G_isLaid (F : Nat) (u : Mm) (o : Nat) : Option (Int32 × Mm) := ob (jgi YX 0 4 u (some o)) fun (x1 : Int32) => (if (6 : Int32) ≤ x1 then ob (jz (0 : Int32)) (fun v => some (v, u)) else ob (jz (1 : Int32)) (fun v => some (v, u)))
set_option maxHeartbeats 4000000 in
set_option maxRecDepth 100000 in
theorem c_G_isLaid (l : Launch) (w : WP) (F : Nat) (u : Mm) (o : Nat) (out : Int32 × Mm) (h : f_G_isLaid F u o = some out) : yMet l m_G_isLaid ws_G_isLaid ({ frames := 0, cells := 0, slots := 0, locals := 0 } : Room) YX w u [va_re w.1 (some o)] yfi out := by
  refine y_entry (own := "WhoseGlass$Glass") (lv := [(0, va_re w.1 (some o))]) (by decide +kernel) rfl (by simp [lv_args, y_cat, y_catI, y_catJ]) (by simp [lg_sl, y_cat, y_catI, y_catJ]) ?_
  intro p e s m args below meth c C hr hlocks
  unfold f_G_isLaid at h
  refine y_aload_n C (i := 0) 0 d_G_isLaid_0 rfl rfl ?_
  refine y_gi C (q := (yR0, yT0, 8)) (ci := 0) (k := 4) rfl (by decide) rfl g_50 d_G_isLaid_1 h (fun x1 h => ?_)
  refine y_bipush C (v := 6) d_G_isLaid_4 (by decide) ?_
  refine y_ic_ge C 13 d_G_isLaid_6 (by decide) h (fun k2 h => ?_) (fun k2 h => ?_)
  · refine y_iconst C (v := 0) d_G_isLaid_13 (by decide) ?_
    exact y_zret C hr hlocks d_G_isLaid_14 h
  · refine y_iconst C (v := 1) d_G_isLaid_9 (by decide) ?_
    refine y_goto C (tgt := 14) d_G_isLaid_10 (by decide) ?_
    exact y_zret C hr hlocks d_G_isLaid_14 h
/-! T_guestHolds -/
theorem d_T_guestHolds_0 : decode prog_5_method_15_code 0 = .ok (.aload_n 2, 1) := by decide +kernel
theorem d_T_guestHolds_1 : decode prog_5_method_15_code 1 = .ok (.aload_n 0, 1) := by decide +kernel
theorem d_T_guestHolds_2 : decode prog_5_method_15_code 2 = .ok (.iload_n 1, 1) := by decide +kernel
theorem d_T_guestHolds_3 : decode prog_5_method_15_code 3 = .ok (.iconst 1, 1) := by decide +kernel
theorem d_T_guestHolds_4 : decode prog_5_method_15_code 4 = .ok (.iadd, 1) := by decide +kernel
theorem d_T_guestHolds_5 : decode prog_5_method_15_code 5 = .ok (.invokestatic 73, 3) := by decide +kernel
theorem d_T_guestHolds_8 : decode prog_5_method_15_code 8 = .ok (.invokevirtual 94, 3) := by decide +kernel
theorem d_T_guestHolds_11 : decode prog_5_method_15_code 11 = .ok (.astore_n 3, 1) := by decide +kernel
theorem d_T_guestHolds_12 : decode prog_5_method_15_code 12 = .ok (.aload_n 2, 1) := by decide +kernel
theorem d_T_guestHolds_13 : decode prog_5_method_15_code 13 = .ok (.bipush 10, 2) := by decide +kernel
theorem d_T_guestHolds_15 : decode prog_5_method_15_code 15 = .ok (.aload_n 0, 1) := by decide +kernel
theorem d_T_guestHolds_16 : decode prog_5_method_15_code 16 = .ok (.iload_n 1, 1) := by decide +kernel
theorem d_T_guestHolds_17 : decode prog_5_method_15_code 17 = .ok (.iconst 2, 1) := by decide +kernel
theorem d_T_guestHolds_18 : decode prog_5_method_15_code 18 = .ok (.iadd, 1) := by decide +kernel
theorem d_T_guestHolds_19 : decode prog_5_method_15_code 19 = .ok (.invokestatic 73, 3) := by decide +kernel
theorem d_T_guestHolds_22 : decode prog_5_method_15_code 22 = .ok (.imul, 1) := by decide +kernel
theorem d_T_guestHolds_23 : decode prog_5_method_15_code 23 = .ok (.aload_n 0, 1) := by decide +kernel
theorem d_T_guestHolds_24 : decode prog_5_method_15_code 24 = .ok (.iload_n 1, 1) := by decide +kernel
theorem d_T_guestHolds_25 : decode prog_5_method_15_code 25 = .ok (.iconst 3, 1) := by decide +kernel
theorem d_T_guestHolds_26 : decode prog_5_method_15_code 26 = .ok (.iadd, 1) := by decide +kernel
theorem d_T_guestHolds_27 : decode prog_5_method_15_code 27 = .ok (.invokestatic 73, 3) := by decide +kernel
theorem d_T_guestHolds_30 : decode prog_5_method_15_code 30 = .ok (.iadd, 1) := by decide +kernel
theorem d_T_guestHolds_31 : decode prog_5_method_15_code 31 = .ok (.invokevirtual 98, 3) := by decide +kernel
theorem d_T_guestHolds_34 : decode prog_5_method_15_code 34 = .ok (.astore 4, 2) := by decide +kernel
theorem d_T_guestHolds_36 : decode prog_5_method_15_code 36 = .ok (.aload_n 3, 1) := by decide +kernel
theorem d_T_guestHolds_37 : decode prog_5_method_15_code 37 = .ok (.ifnull 25, 3) := by decide +kernel
theorem d_T_guestHolds_40 : decode prog_5_method_15_code 40 = .ok (.aload 4, 2) := by decide +kernel
theorem d_T_guestHolds_42 : decode prog_5_method_15_code 42 = .ok (.ifnull 20, 3) := by decide +kernel
theorem d_T_guestHolds_45 : decode prog_5_method_15_code 45 = .ok (.aload_n 3, 1) := by decide +kernel
theorem d_T_guestHolds_46 : decode prog_5_method_15_code 46 = .ok (.getfield 102, 3) := by decide +kernel
theorem d_T_guestHolds_49 : decode prog_5_method_15_code 49 = .ok (.bipush (-4), 2) := by decide +kernel
theorem d_T_guestHolds_51 : decode prog_5_method_15_code 51 = .ok (.if_icmp .ne 11, 3) := by decide +kernel
theorem d_T_guestHolds_54 : decode prog_5_method_15_code 54 = .ok (.aload 4, 2) := by decide +kernel
theorem d_T_guestHolds_56 : decode prog_5_method_15_code 56 = .ok (.invokevirtual 107, 3) := by decide +kernel
theorem d_T_guestHolds_59 : decode prog_5_method_15_code 59 = .ok (.ifCond .ne 5, 3) := by decide +kernel
theorem d_T_guestHolds_62 : decode prog_5_method_15_code 62 = .ok (.iconst 0, 1) := by decide +kernel
theorem d_T_guestHolds_63 : decode prog_5_method_15_code 63 = .ok (.ireturn, 1) := by decide +kernel
theorem d_T_guestHolds_64 : decode prog_5_method_15_code 64 = .ok (.aload_n 3, 1) := by decide +kernel
theorem d_T_guestHolds_65 : decode prog_5_method_15_code 65 = .ok (.aload 4, 2) := by decide +kernel
theorem d_T_guestHolds_67 : decode prog_5_method_15_code 67 = .ok (.invokevirtual 111, 3) := by decide +kernel
theorem d_T_guestHolds_70 : decode prog_5_method_15_code 70 = .ok (.iconst 1, 1) := by decide +kernel
theorem d_T_guestHolds_71 : decode prog_5_method_15_code 71 = .ok (.ireturn, 1) := by decide +kernel
theorem gc_T_guestHolds_94 : GoodIn yGW (wsV "WhoseGlass$HouseText" 94 yR2 m_H_guestAt ws_H_guestAt) := y_gV g_361 g_268 g_269 g_2 g_270
theorem gc_T_guestHolds_98 : GoodIn yGW (wsV "WhoseGlass$HouseText" 98 yR2 m_H_glassAt ws_H_glassAt) := y_gV g_362 g_260 g_261 g_2 g_262
theorem gc_T_guestHolds_107 : GoodIn yGW (wsV "WhoseGlass$HouseText" 107 yR0 m_G_isLaid ws_G_isLaid) := y_gV g_363 g_364 g_365 g_3 g_366
theorem gc_T_guestHolds_111 : GoodIn yGW (wsV "WhoseGlass$HouseText" 111 yR1 m_U_hold ws_U_hold) := y_gV g_367 g_306 g_307 g_4 g_308
set_option maxRecDepth 100000 in
def f_T_guestHolds (F : Nat) (u : Mm) (a0 : Option Nat) (a1 : Int32) (a2 : Option Nat) : Option (Int32 × Mm) := yb (f_T_digit F u a0 (a1 + (1 : Int32))) fun x1 u2 => ob (jk YX 2 a2) fun t => yb (f_H_guestAt F u2 t x1) fun r3 u4 => yb (f_T_digit F u4 a0 (a1 + (2 : Int32))) fun x5 u6 => yb (f_T_digit F u6 a0 (a1 + (3 : Int32))) fun x7 u8 => ob (jk YX 2 a2) fun t => yb (f_H_glassAt F u8 t (((10 : Int32) * x5) + x7)) fun r9 u10 => (if r3 = none then ob (jz (0 : Int32)) (fun v => some (v, u10)) else (if r9 = none then ob (jz (0 : Int32)) (fun v => some (v, u10)) else ob (jgi YX 1 6 u10 r3) fun (x13 : Int32) => (if x13 = (-4 : Int32) then ob (jk YX 0 r9) fun t => yb (f_G_isLaid F u10 t ) fun x15 u16 => (if x15 = 0 then ob (jz (0 : Int32)) (fun v => some (v, u16)) else ob (jk YX 1 r3) fun t => yb (f_U_hold F u16 t r9) fun v18 u19 => ob (jz (1 : Int32)) (fun v => some (v, u19))) else ob (jz (0 : Int32)) (fun v => some (v, u10)))))
set_option maxHeartbeats 4000000 in
set_option maxRecDepth 100000 in
theorem c_T_guestHolds (l : Launch) (w : WP) (F : Nat) (u : Mm) (a0 : Option Nat) (a1 : Int32) (a2 : Option Nat) (out : Int32 × Mm) (h : f_T_guestHolds F u a0 a1 a2 = some out) : yMet l m_T_guestHolds ws_T_guestHolds ({ frames := 2, cells := 0, slots := 0, locals := 42 } : Room) YX w u [va_re w.1 a0, .int a1, va_re w.1 a2] yfi out := by
  refine y_entry (own := "WhoseGlass$HouseText") (lv := [(0, va_re w.1 a0), (1, .int a1), (2, va_re w.1 a2)]) (by decide +kernel) rfl (by simp [lv_args, y_cat, y_catI, y_catJ]) (by simp [lg_sl, y_cat, y_catI, y_catJ]) ?_
  intro p e s m args below meth c C hr hlocks
  unfold f_T_guestHolds at h
  refine y_aload_n C (i := 2) 2 d_T_guestHolds_0 rfl rfl ?_
  refine y_aload_n C (i := 0) 0 d_T_guestHolds_1 rfl rfl ?_
  refine y_iload_n C (i := 1) 1 d_T_guestHolds_2 rfl rfl ?_
  refine y_iconst C (v := 1) d_T_guestHolds_3 (by decide) ?_
  refine y_iadd C d_T_guestHolds_4 ?_
  refine y_callS 2 C (fun out hh => c_T_digit l w F u a0 (a1 + (1 : Int32)) out hh) (y_gc g_341) g_339 g_7 g_340 hn_T_digit ⟨Nat.le_of_ble_eq_true rfl, Nat.le_of_ble_eq_true rfl⟩ rfl rfl rfl rfl (by simp [y_cat, y_catI, y_catJ]) d_T_guestHolds_5 h (fun x1 u2 h => ?_)
  refine y_stk (stp0 := [.int x1, va_re w.1 a2]) rfl ?_
  refine y_callV 1 C (q := (yR2, yT2, 9)) (ci := 2) (fun t out hh => c_H_guestAt l w F u2 t x1 out hh) gc_T_guestHolds_94 rfl (by decide) hd_H_guestAt ⟨Nat.le_of_ble_eq_true rfl, Nat.le_of_ble_eq_true rfl⟩ rfl rfl rfl rfl (by simp [y_cat, y_catI, y_catJ]) d_T_guestHolds_8 h (fun r3 u4 h => ?_)
  refine y_stk (stp0 := [va_re w.1 r3]) rfl ?_
  refine y_astore_n C (i := 3) (lvp := [(0, va_re w.1 a0), (1, .int a1), (2, va_re w.1 a2)]) d_T_guestHolds_11 rfl (by decide) (by simp [List.filter, y_cat, y_catI, y_catJ]) ?_
  refine y_aload_n C (i := 2) 3 d_T_guestHolds_12 rfl rfl ?_
  refine y_bipush C (v := 10) d_T_guestHolds_13 (by decide) ?_
  refine y_aload_n C (i := 0) 1 d_T_guestHolds_15 rfl rfl ?_
  refine y_iload_n C (i := 1) 2 d_T_guestHolds_16 rfl rfl ?_
  refine y_iconst C (v := 2) d_T_guestHolds_17 (by decide) ?_
  refine y_iadd C d_T_guestHolds_18 ?_
  refine y_callS 2 C (fun out hh => c_T_digit l w F u4 a0 (a1 + (2 : Int32)) out hh) (y_gc g_341) g_339 g_7 g_340 hn_T_digit ⟨Nat.le_of_ble_eq_true rfl, Nat.le_of_ble_eq_true rfl⟩ rfl rfl rfl rfl (by simp [y_cat, y_catI, y_catJ]) d_T_guestHolds_19 h (fun x5 u6 h => ?_)
  refine y_stk (stp0 := [.int x5, .int (10 : Int32), va_re w.1 a2]) rfl ?_
  refine y_imul C d_T_guestHolds_22 ?_
  refine y_aload_n C (i := 0) 1 d_T_guestHolds_23 rfl rfl ?_
  refine y_iload_n C (i := 1) 2 d_T_guestHolds_24 rfl rfl ?_
  refine y_iconst C (v := 3) d_T_guestHolds_25 (by decide) ?_
  refine y_iadd C d_T_guestHolds_26 ?_
  refine y_callS 2 C (fun out hh => c_T_digit l w F u6 a0 (a1 + (3 : Int32)) out hh) (y_gc g_341) g_339 g_7 g_340 hn_T_digit ⟨Nat.le_of_ble_eq_true rfl, Nat.le_of_ble_eq_true rfl⟩ rfl rfl rfl rfl (by simp [y_cat, y_catI, y_catJ]) d_T_guestHolds_27 h (fun x7 u8 h => ?_)
  refine y_stk (stp0 := [.int x7, .int ((10 : Int32) * x5), va_re w.1 a2]) rfl ?_
  refine y_iadd C d_T_guestHolds_30 ?_
  refine y_callV 1 C (q := (yR2, yT2, 9)) (ci := 2) (fun t out hh => c_H_glassAt l w F u8 t (((10 : Int32) * x5) + x7) out hh) gc_T_guestHolds_98 rfl (by decide) hd_H_glassAt ⟨Nat.le_of_ble_eq_true rfl, Nat.le_of_ble_eq_true rfl⟩ rfl rfl rfl rfl (by simp [y_cat, y_catI, y_catJ]) d_T_guestHolds_31 h (fun r9 u10 h => ?_)
  refine y_stk (stp0 := [va_re w.1 r9]) rfl ?_
  refine y_astore C (i := 4) (lvp := [(3, va_re w.1 r3), (0, va_re w.1 a0), (1, .int a1), (2, va_re w.1 a2)]) d_T_guestHolds_34 (by decide) (by simp [List.filter, y_cat, y_catI, y_catJ]) ?_
  refine y_aload_n C (i := 3) 1 d_T_guestHolds_36 rfl rfl ?_
  refine y_ifnull C 62 d_T_guestHolds_37 (by decide) h (fun k11 h => ?_) (fun k11 h => ?_)
  · refine y_iconst C (v := 0) d_T_guestHolds_62 (by decide) ?_
    exact y_zret C hr hlocks d_T_guestHolds_63 h
  · refine y_aload C (i := 4) 0 d_T_guestHolds_40 rfl ?_
    refine y_ifnull C 62 d_T_guestHolds_42 (by decide) h (fun k12 h => ?_) (fun k12 h => ?_)
    · refine y_iconst C (v := 0) d_T_guestHolds_62 (by decide) ?_
      exact y_zret C hr hlocks d_T_guestHolds_63 h
    · refine y_aload_n C (i := 3) 1 d_T_guestHolds_45 rfl rfl ?_
      refine y_gi C (q := (yR1, yT1, 10)) (ci := 1) (k := 6) rfl (by decide) rfl g_100 d_T_guestHolds_46 h (fun x13 h => ?_)
      refine y_bipush C (v := -4) d_T_guestHolds_49 (by decide) ?_
      refine y_ic_ne C 62 d_T_guestHolds_51 (by decide) h (fun k14 h => ?_) (fun k14 h => ?_)
      · refine y_aload C (i := 4) 0 d_T_guestHolds_54 rfl ?_
        refine y_callV 0 C (q := (yR0, yT0, 8)) (ci := 0) (fun t out hh => c_G_isLaid l w F u10 t out hh) gc_T_guestHolds_107 rfl (by decide) hd_G_isLaid ⟨Nat.le_of_ble_eq_true rfl, Nat.le_of_ble_eq_true rfl⟩ rfl rfl rfl rfl (by simp [y_cat, y_catI, y_catJ]) d_T_guestHolds_56 h (fun x15 u16 h => ?_)
        refine y_stk (stp0 := [.int x15]) rfl ?_
        refine y_if_ne C 64 d_T_guestHolds_59 (by decide) h (fun k17 h => ?_) (fun k17 h => ?_)
        · refine y_iconst C (v := 0) d_T_guestHolds_62 (by decide) ?_
          exact y_zret C hr hlocks d_T_guestHolds_63 h
        · refine y_aload_n C (i := 3) 1 d_T_guestHolds_64 rfl rfl ?_
          refine y_aload C (i := 4) 0 d_T_guestHolds_65 rfl ?_
          refine y_callV 1 C (q := (yR1, yT1, 10)) (ci := 1) (fun t out hh => c_U_hold l w F u16 t r9 out hh) gc_T_guestHolds_111 rfl (by decide) hd_U_hold ⟨Nat.le_of_ble_eq_true rfl, Nat.le_of_ble_eq_true rfl⟩ rfl rfl rfl rfl (by simp [y_cat, y_catI, y_catJ]) d_T_guestHolds_67 h (fun v18 u19 h => ?_)
          refine y_stk (stp0 := []) rfl ?_
          refine y_iconst C (v := 1) d_T_guestHolds_70 (by decide) ?_
          exact y_zret C hr hlocks d_T_guestHolds_71 h
      · refine y_iconst C (v := 0) d_T_guestHolds_62 (by decide) ?_
        exact y_zret C hr hlocks d_T_guestHolds_63 h
/-! T_coldTurns -/
theorem d_T_coldTurns_0 : decode prog_5_method_16_code 0 = .ok (.aload_n 2, 1) := by decide +kernel
theorem d_T_coldTurns_1 : decode prog_5_method_16_code 1 = .ok (.aload_n 0, 1) := by decide +kernel
theorem d_T_coldTurns_2 : decode prog_5_method_16_code 2 = .ok (.iload_n 1, 1) := by decide +kernel
theorem d_T_coldTurns_3 : decode prog_5_method_16_code 3 = .ok (.iconst 1, 1) := by decide +kernel
theorem d_T_coldTurns_4 : decode prog_5_method_16_code 4 = .ok (.iadd, 1) := by decide +kernel
theorem d_T_coldTurns_5 : decode prog_5_method_16_code 5 = .ok (.invokestatic 73, 3) := by decide +kernel
theorem d_T_coldTurns_8 : decode prog_5_method_16_code 8 = .ok (.invokevirtual 94, 3) := by decide +kernel
theorem d_T_coldTurns_11 : decode prog_5_method_16_code 11 = .ok (.astore_n 3, 1) := by decide +kernel
theorem d_T_coldTurns_12 : decode prog_5_method_16_code 12 = .ok (.aload_n 3, 1) := by decide +kernel
theorem d_T_coldTurns_13 : decode prog_5_method_16_code 13 = .ok (.ifnonnull 5, 3) := by decide +kernel
theorem d_T_coldTurns_16 : decode prog_5_method_16_code 16 = .ok (.iconst 0, 1) := by decide +kernel
theorem d_T_coldTurns_17 : decode prog_5_method_16_code 17 = .ok (.ireturn, 1) := by decide +kernel
theorem d_T_coldTurns_18 : decode prog_5_method_16_code 18 = .ok (.aload_n 3, 1) := by decide +kernel
theorem d_T_coldTurns_19 : decode prog_5_method_16_code 19 = .ok (.aload_n 3, 1) := by decide +kernel
theorem d_T_coldTurns_20 : decode prog_5_method_16_code 20 = .ok (.getfield 115, 3) := by decide +kernel
theorem d_T_coldTurns_23 : decode prog_5_method_16_code 23 = .ok (.ifCond .ne 7, 3) := by decide +kernel
theorem d_T_coldTurns_26 : decode prog_5_method_16_code 26 = .ok (.iconst 1, 1) := by decide +kernel
theorem d_T_coldTurns_27 : decode prog_5_method_16_code 27 = .ok (.goto 4, 3) := by decide +kernel
theorem d_T_coldTurns_30 : decode prog_5_method_16_code 30 = .ok (.iconst 0, 1) := by decide +kernel
theorem d_T_coldTurns_31 : decode prog_5_method_16_code 31 = .ok (.putfield 115, 3) := by decide +kernel
theorem d_T_coldTurns_34 : decode prog_5_method_16_code 34 = .ok (.iconst 1, 1) := by decide +kernel
theorem d_T_coldTurns_35 : decode prog_5_method_16_code 35 = .ok (.ireturn, 1) := by decide +kernel
theorem gc_T_coldTurns_94 : GoodIn yGW (wsV "WhoseGlass$HouseText" 94 yR2 m_H_guestAt ws_H_guestAt) := y_gV g_361 g_268 g_269 g_2 g_270
set_option maxRecDepth 100000 in
def f_T_coldTurns (F : Nat) (u : Mm) (a0 : Option Nat) (a1 : Int32) (a2 : Option Nat) : Option (Int32 × Mm) := yb (f_T_digit F u a0 (a1 + (1 : Int32))) fun x1 u2 => ob (jk YX 2 a2) fun t => yb (f_H_guestAt F u2 t x1) fun r3 u4 => (if r3 = none then ob (jz (0 : Int32)) (fun v => some (v, u4)) else ob (jgi YX 1 9 u4 r3) fun (x6 : Int32) => ob ((if x6 = 0 then some (1 : Int32) else some (0 : Int32)) : Option (Int32)) fun q7 => ob (jpz YX 1 9 u4 r3 q7) fun (u9 : Mm) => ob (jz (1 : Int32)) (fun v => some (v, u9)))
set_option maxHeartbeats 4000000 in
set_option maxRecDepth 100000 in
theorem c_T_coldTurns (l : Launch) (w : WP) (F : Nat) (u : Mm) (a0 : Option Nat) (a1 : Int32) (a2 : Option Nat) (out : Int32 × Mm) (h : f_T_coldTurns F u a0 a1 a2 = some out) : yMet l m_T_coldTurns ws_T_coldTurns ({ frames := 2, cells := 0, slots := 0, locals := 42 } : Room) YX w u [va_re w.1 a0, .int a1, va_re w.1 a2] yfi out := by
  refine y_entry (own := "WhoseGlass$HouseText") (lv := [(0, va_re w.1 a0), (1, .int a1), (2, va_re w.1 a2)]) (by decide +kernel) rfl (by simp [lv_args, y_cat, y_catI, y_catJ]) (by simp [lg_sl, y_cat, y_catI, y_catJ]) ?_
  intro p e s m args below meth c C hr hlocks
  unfold f_T_coldTurns at h
  refine y_aload_n C (i := 2) 2 d_T_coldTurns_0 rfl rfl ?_
  refine y_aload_n C (i := 0) 0 d_T_coldTurns_1 rfl rfl ?_
  refine y_iload_n C (i := 1) 1 d_T_coldTurns_2 rfl rfl ?_
  refine y_iconst C (v := 1) d_T_coldTurns_3 (by decide) ?_
  refine y_iadd C d_T_coldTurns_4 ?_
  refine y_callS 2 C (fun out hh => c_T_digit l w F u a0 (a1 + (1 : Int32)) out hh) (y_gc g_341) g_339 g_7 g_340 hn_T_digit ⟨Nat.le_of_ble_eq_true rfl, Nat.le_of_ble_eq_true rfl⟩ rfl rfl rfl rfl (by simp [y_cat, y_catI, y_catJ]) d_T_coldTurns_5 h (fun x1 u2 h => ?_)
  refine y_stk (stp0 := [.int x1, va_re w.1 a2]) rfl ?_
  refine y_callV 1 C (q := (yR2, yT2, 9)) (ci := 2) (fun t out hh => c_H_guestAt l w F u2 t x1 out hh) gc_T_coldTurns_94 rfl (by decide) hd_H_guestAt ⟨Nat.le_of_ble_eq_true rfl, Nat.le_of_ble_eq_true rfl⟩ rfl rfl rfl rfl (by simp [y_cat, y_catI, y_catJ]) d_T_coldTurns_8 h (fun r3 u4 h => ?_)
  refine y_stk (stp0 := [va_re w.1 r3]) rfl ?_
  refine y_astore_n C (i := 3) (lvp := [(0, va_re w.1 a0), (1, .int a1), (2, va_re w.1 a2)]) d_T_coldTurns_11 rfl (by decide) (by simp [List.filter, y_cat, y_catI, y_catJ]) ?_
  refine y_aload_n C (i := 3) 0 d_T_coldTurns_12 rfl rfl ?_
  refine y_ifnonnull C 18 d_T_coldTurns_13 (by decide) h (fun k5 h => ?_) (fun k5 h => ?_)
  · refine y_iconst C (v := 0) d_T_coldTurns_16 (by decide) ?_
    exact y_zret C hr hlocks d_T_coldTurns_17 h
  · refine y_aload_n C (i := 3) 0 d_T_coldTurns_18 rfl rfl ?_
    refine y_aload_n C (i := 3) 0 d_T_coldTurns_19 rfl rfl ?_
    refine y_gi C (q := (yR1, yT1, 10)) (ci := 1) (k := 9) rfl (by decide) rfl g_108 d_T_coldTurns_20 h (fun x6 h => ?_)
    obtain ⟨q7, hq7, h⟩ := ob_e h
    have hJq7 : yG p l e ({ frames := 2, cells := 0, slots := 0, locals := 42 } : Room) s m args below meth c YX w 4 (MQ below (yQ YX w yfi out) args s 0 0 (yA YX w)) u4 31 [] [.int q7, va_re w.1 r3] := by
      refine y_pz C (q := (yR1, yT1, 10)) (ci := 1) (k := 9) rfl (by decide) rfl rfl (by decide +kernel) g_108 d_T_coldTurns_31 h (fun u9 h => ?_)
      refine y_iconst C (v := 1) d_T_coldTurns_34 (by decide) ?_
      exact y_zret C hr hlocks d_T_coldTurns_35 h
    refine y_if_ne C 30 d_T_coldTurns_23 (by decide) hq7 (fun k8 hq7 => ?_) (fun k8 hq7 => ?_)
    · refine y_iconst C (v := 1) d_T_coldTurns_26 (by decide) ?_
      refine y_goto C (tgt := 31) d_T_coldTurns_27 (by decide) ?_
      cases hq7
      exact y_sub [] rfl hJq7
    · refine y_iconst C (v := 0) d_T_coldTurns_30 (by decide) ?_
      cases hq7
      exact y_sub [] rfl hJq7
/-! T_setTray -/
theorem d_T_setTray_0 : decode prog_5_method_17_code 0 = .ok (.aload_n 0, 1) := by decide +kernel
theorem d_T_setTray_1 : decode prog_5_method_17_code 1 = .ok (.iload_n 1, 1) := by decide +kernel
theorem d_T_setTray_2 : decode prog_5_method_17_code 2 = .ok (.iconst 1, 1) := by decide +kernel
theorem d_T_setTray_3 : decode prog_5_method_17_code 3 = .ok (.iadd, 1) := by decide +kernel
theorem d_T_setTray_4 : decode prog_5_method_17_code 4 = .ok (.invokestatic 73, 3) := by decide +kernel
theorem d_T_setTray_7 : decode prog_5_method_17_code 7 = .ok (.istore_n 3, 1) := by decide +kernel
theorem d_T_setTray_8 : decode prog_5_method_17_code 8 = .ok (.aload_n 0, 1) := by decide +kernel
theorem d_T_setTray_9 : decode prog_5_method_17_code 9 = .ok (.iload_n 1, 1) := by decide +kernel
theorem d_T_setTray_10 : decode prog_5_method_17_code 10 = .ok (.iconst 2, 1) := by decide +kernel
theorem d_T_setTray_11 : decode prog_5_method_17_code 11 = .ok (.iadd, 1) := by decide +kernel
theorem d_T_setTray_12 : decode prog_5_method_17_code 12 = .ok (.bipush 59, 2) := by decide +kernel
theorem d_T_setTray_14 : decode prog_5_method_17_code 14 = .ok (.invokestatic 32, 3) := by decide +kernel
theorem d_T_setTray_17 : decode prog_5_method_17_code 17 = .ok (.istore 4, 2) := by decide +kernel
theorem d_T_setTray_19 : decode prog_5_method_17_code 19 = .ok (.aload_n 2, 1) := by decide +kernel
theorem d_T_setTray_20 : decode prog_5_method_17_code 20 = .ok (.iload 4, 2) := by decide +kernel
theorem d_T_setTray_22 : decode prog_5_method_17_code 22 = .ok (.ifCond .eq 7, 3) := by decide +kernel
theorem d_T_setTray_25 : decode prog_5_method_17_code 25 = .ok (.iload_n 3, 1) := by decide +kernel
theorem d_T_setTray_26 : decode prog_5_method_17_code 26 = .ok (.goto 15, 3) := by decide +kernel
theorem d_T_setTray_29 : decode prog_5_method_17_code 29 = .ok (.bipush 10, 2) := by decide +kernel
theorem d_T_setTray_31 : decode prog_5_method_17_code 31 = .ok (.iload_n 3, 1) := by decide +kernel
theorem d_T_setTray_32 : decode prog_5_method_17_code 32 = .ok (.imul, 1) := by decide +kernel
theorem d_T_setTray_33 : decode prog_5_method_17_code 33 = .ok (.aload_n 0, 1) := by decide +kernel
theorem d_T_setTray_34 : decode prog_5_method_17_code 34 = .ok (.iload_n 1, 1) := by decide +kernel
theorem d_T_setTray_35 : decode prog_5_method_17_code 35 = .ok (.iconst 2, 1) := by decide +kernel
theorem d_T_setTray_36 : decode prog_5_method_17_code 36 = .ok (.iadd, 1) := by decide +kernel
theorem d_T_setTray_37 : decode prog_5_method_17_code 37 = .ok (.invokestatic 73, 3) := by decide +kernel
theorem d_T_setTray_40 : decode prog_5_method_17_code 40 = .ok (.iadd, 1) := by decide +kernel
theorem d_T_setTray_41 : decode prog_5_method_17_code 41 = .ok (.putfield 119, 3) := by decide +kernel
theorem d_T_setTray_44 : decode prog_5_method_17_code 44 = .ok (.return_, 1) := by decide +kernel
set_option maxRecDepth 100000 in
def f_T_setTray (F : Nat) (u : Mm) (a0 : Option Nat) (a1 : Int32) (a2 : Option Nat) : Option (Unit × Mm) := yb (f_T_digit F u a0 (a1 + (1 : Int32))) fun x1 u2 => yb (f_T_isAt F u2 a0 (a1 + (2 : Int32)) (59 : Int32)) fun x3 u4 => ob ((if x3 = 0 then yb (f_T_digit F u4 a0 (a1 + (2 : Int32))) fun x7 u8 => some ((((10 : Int32) * x1) + x7), u8) else some (x1, u4)) : Option (Int32 × Mm)) fun q5 => ob (jpi YX 2 4 q5.2 a2 q5.1) fun (u9 : Mm) => some ((), u9)
set_option maxHeartbeats 4000000 in
set_option maxRecDepth 100000 in
theorem c_T_setTray (l : Launch) (w : WP) (F : Nat) (u : Mm) (a0 : Option Nat) (a1 : Int32) (a2 : Option Nat) (out : Unit × Mm) (h : f_T_setTray F u a0 a1 a2 = some out) : yMet l m_T_setTray ws_T_setTray ({ frames := 2, cells := 0, slots := 0, locals := 43 } : Room) YX w u [va_re w.1 a0, .int a1, va_re w.1 a2] yfv out := by
  refine y_entry (own := "WhoseGlass$HouseText") (lv := [(0, va_re w.1 a0), (1, .int a1), (2, va_re w.1 a2)]) (by decide +kernel) rfl (by simp [lv_args, y_cat, y_catI, y_catJ]) (by simp [lg_sl, y_cat, y_catI, y_catJ]) ?_
  intro p e s m args below meth c C hr hlocks
  unfold f_T_setTray at h
  refine y_aload_n C (i := 0) 0 d_T_setTray_0 rfl rfl ?_
  refine y_iload_n C (i := 1) 1 d_T_setTray_1 rfl rfl ?_
  refine y_iconst C (v := 1) d_T_setTray_2 (by decide) ?_
  refine y_iadd C d_T_setTray_3 ?_
  refine y_callS 2 C (fun out hh => c_T_digit l w F u a0 (a1 + (1 : Int32)) out hh) (y_gc g_341) g_339 g_7 g_340 hn_T_digit ⟨Nat.le_of_ble_eq_true rfl, Nat.le_of_ble_eq_true rfl⟩ rfl rfl rfl rfl (by simp [y_cat, y_catI, y_catJ]) d_T_setTray_4 h (fun x1 u2 h => ?_)
  refine y_stk (stp0 := [.int x1]) rfl ?_
  refine y_istore_n C (i := 3) (lvp := [(0, va_re w.1 a0), (1, .int a1), (2, va_re w.1 a2)]) d_T_setTray_7 rfl (by decide) (by simp [List.filter, y_cat, y_catI, y_catJ]) ?_
  refine y_aload_n C (i := 0) 1 d_T_setTray_8 rfl rfl ?_
  refine y_iload_n C (i := 1) 2 d_T_setTray_9 rfl rfl ?_
  refine y_iconst C (v := 2) d_T_setTray_10 (by decide) ?_
  refine y_iadd C d_T_setTray_11 ?_
  refine y_bipush C (v := 59) d_T_setTray_12 (by decide) ?_
  refine y_callS 3 C (fun out hh => c_T_isAt l w F u2 a0 (a1 + (2 : Int32)) (59 : Int32) out hh) (y_gc g_254) g_252 g_7 g_253 hn_T_isAt ⟨Nat.le_of_ble_eq_true rfl, Nat.le_of_ble_eq_true rfl⟩ rfl rfl rfl rfl (by simp [y_cat, y_catI, y_catJ]) d_T_setTray_14 h (fun x3 u4 h => ?_)
  refine y_stk (stp0 := [.int x3]) rfl ?_
  refine y_istore C (i := 4) (lvp := [(3, .int x1), (0, va_re w.1 a0), (1, .int a1), (2, va_re w.1 a2)]) d_T_setTray_17 (by decide) rfl ?_
  refine y_aload_n C (i := 2) 4 d_T_setTray_19 rfl rfl ?_
  refine y_iload C (i := 4) 0 d_T_setTray_20 rfl ?_
  obtain ⟨q5, hq5, h⟩ := ob_e h
  have hJq5 : yG p l e ({ frames := 2, cells := 0, slots := 0, locals := 43 } : Room) s m args below meth c YX w 5 (MQ below (yQ YX w yfv out) args s 0 0 (yA YX w)) q5.2 41 [] [.int q5.1, va_re w.1 a2] := by
    refine y_pi C (q := (yR2, yT2, 9)) (ci := 2) (k := 4) rfl (by decide) rfl rfl (by decide +kernel) g_138 d_T_setTray_41 h (fun u9 h => ?_)
    exact y_vret C hr hlocks d_T_setTray_44 h
  refine y_if_eq C 29 d_T_setTray_22 (by decide) hq5 (fun k6 hq5 => ?_) (fun k6 hq5 => ?_)
  · refine y_bipush C (v := 10) d_T_setTray_29 (by decide) ?_
    refine y_iload_n C (i := 3) 1 d_T_setTray_31 rfl rfl ?_
    refine y_imul C d_T_setTray_32 ?_
    refine y_aload_n C (i := 0) 2 d_T_setTray_33 rfl rfl ?_
    refine y_iload_n C (i := 1) 3 d_T_setTray_34 rfl rfl ?_
    refine y_iconst C (v := 2) d_T_setTray_35 (by decide) ?_
    refine y_iadd C d_T_setTray_36 ?_
    refine y_callS 2 C (fun out hh => c_T_digit l w F u4 a0 (a1 + (2 : Int32)) out hh) (y_gc g_341) g_339 g_7 g_340 hn_T_digit ⟨Nat.le_of_ble_eq_true rfl, Nat.le_of_ble_eq_true rfl⟩ rfl rfl rfl rfl (by simp [y_cat, y_catI, y_catJ]) d_T_setTray_37 hq5 (fun x7 u8 hq5 => ?_)
    refine y_stk (stp0 := [.int x7, .int ((10 : Int32) * x1), va_re w.1 a2]) rfl ?_
    refine y_iadd C d_T_setTray_40 ?_
    cases hq5
    exact y_sub [] rfl hJq5
  · refine y_iload_n C (i := 3) 1 d_T_setTray_25 rfl rfl ?_
    refine y_goto C (tgt := 41) d_T_setTray_26 (by decide) ?_
    cases hq5
    exact y_sub [] rfl hJq5
/-! T_obeys -/
theorem d_T_obeys_0 : decode prog_5_method_12_code 0 = .ok (.aload_n 1, 1) := by decide +kernel
theorem d_T_obeys_1 : decode prog_5_method_12_code 1 = .ok (.iload_n 2, 1) := by decide +kernel
theorem d_T_obeys_2 : decode prog_5_method_12_code 2 = .ok (.invokevirtual 25, 3) := by decide +kernel
theorem d_T_obeys_5 : decode prog_5_method_12_code 5 = .ok (.lookupswitch 87 #[(99, 72), (103, 51), (104, 65), (112, 58), (116, 79)], 51) := by decide +kernel
theorem d_T_obeys_56 : decode prog_5_method_12_code 56 = .ok (.aload_n 1, 1) := by decide +kernel
theorem d_T_obeys_57 : decode prog_5_method_12_code 57 = .ok (.iload_n 2, 1) := by decide +kernel
theorem d_T_obeys_58 : decode prog_5_method_12_code 58 = .ok (.aload_n 0, 1) := by decide +kernel
theorem d_T_obeys_59 : decode prog_5_method_12_code 59 = .ok (.invokestatic 56, 3) := by decide +kernel
theorem d_T_obeys_62 : decode prog_5_method_12_code 62 = .ok (.ireturn, 1) := by decide +kernel
theorem d_T_obeys_63 : decode prog_5_method_12_code 63 = .ok (.aload_n 1, 1) := by decide +kernel
theorem d_T_obeys_64 : decode prog_5_method_12_code 64 = .ok (.iload_n 2, 1) := by decide +kernel
theorem d_T_obeys_65 : decode prog_5_method_12_code 65 = .ok (.aload_n 0, 1) := by decide +kernel
theorem d_T_obeys_66 : decode prog_5_method_12_code 66 = .ok (.invokestatic 60, 3) := by decide +kernel
theorem d_T_obeys_69 : decode prog_5_method_12_code 69 = .ok (.ireturn, 1) := by decide +kernel
theorem d_T_obeys_70 : decode prog_5_method_12_code 70 = .ok (.aload_n 1, 1) := by decide +kernel
theorem d_T_obeys_71 : decode prog_5_method_12_code 71 = .ok (.iload_n 2, 1) := by decide +kernel
theorem d_T_obeys_72 : decode prog_5_method_12_code 72 = .ok (.aload_n 0, 1) := by decide +kernel
theorem d_T_obeys_73 : decode prog_5_method_12_code 73 = .ok (.invokestatic 63, 3) := by decide +kernel
theorem d_T_obeys_76 : decode prog_5_method_12_code 76 = .ok (.ireturn, 1) := by decide +kernel
theorem d_T_obeys_77 : decode prog_5_method_12_code 77 = .ok (.aload_n 1, 1) := by decide +kernel
theorem d_T_obeys_78 : decode prog_5_method_12_code 78 = .ok (.iload_n 2, 1) := by decide +kernel
theorem d_T_obeys_79 : decode prog_5_method_12_code 79 = .ok (.aload_n 0, 1) := by decide +kernel
theorem d_T_obeys_80 : decode prog_5_method_12_code 80 = .ok (.invokestatic 66, 3) := by decide +kernel
theorem d_T_obeys_83 : decode prog_5_method_12_code 83 = .ok (.ireturn, 1) := by decide +kernel
theorem d_T_obeys_84 : decode prog_5_method_12_code 84 = .ok (.aload_n 1, 1) := by decide +kernel
theorem d_T_obeys_85 : decode prog_5_method_12_code 85 = .ok (.iload_n 2, 1) := by decide +kernel
theorem d_T_obeys_86 : decode prog_5_method_12_code 86 = .ok (.aload_n 0, 1) := by decide +kernel
theorem d_T_obeys_87 : decode prog_5_method_12_code 87 = .ok (.invokestatic 69, 3) := by decide +kernel
theorem d_T_obeys_90 : decode prog_5_method_12_code 90 = .ok (.iconst 1, 1) := by decide +kernel
theorem d_T_obeys_91 : decode prog_5_method_12_code 91 = .ok (.ireturn, 1) := by decide +kernel
theorem d_T_obeys_92 : decode prog_5_method_12_code 92 = .ok (.iconst 0, 1) := by decide +kernel
theorem d_T_obeys_93 : decode prog_5_method_12_code 93 = .ok (.ireturn, 1) := by decide +kernel
theorem gc_T_obeys_25 : GoodIn yGW (wsV "WhoseGlass$HouseText" 25 yR3 m_S_elementAt ws_S_elementAt) := y_gV g_236 g_237 g_238 g_5 g_239
set_option maxRecDepth 100000 in
def f_T_obeys (F : Nat) (u : Mm) (a0 : Option Nat) (a1 : Option Nat) (a2 : Int32) : Option (Int32 × Mm) := ob (jk YX 3 a1) fun t => yb (f_S_elementAt F u t a2) fun x1 u2 => (if x1 = (99 : Int32) then yb (f_T_coldTurns F u2 a1 a2 a0) fun x4 u5 => ob (jz x4) (fun v => some (v, u5)) else (if x1 = (103 : Int32) then yb (f_T_glassStands F u2 a1 a2 a0) fun x7 u8 => ob (jz x7) (fun v => some (v, u8)) else (if x1 = (104 : Int32) then yb (f_T_guestHolds F u2 a1 a2 a0) fun x10 u11 => ob (jz x10) (fun v => some (v, u11)) else (if x1 = (112 : Int32) then yb (f_T_guestEnters F u2 a1 a2 a0) fun x13 u14 => ob (jz x13) (fun v => some (v, u14)) else (if x1 = (116 : Int32) then yb (f_T_setTray F u2 a1 a2 a0) fun v16 u17 => ob (jz (1 : Int32)) (fun v => some (v, u17)) else ob (jz (0 : Int32)) (fun v => some (v, u2)))))))
set_option maxHeartbeats 4000000 in
set_option maxRecDepth 100000 in
theorem c_T_obeys (l : Launch) (w : WP) (F : Nat) (u : Mm) (a0 : Option Nat) (a1 : Option Nat) (a2 : Int32) (out : Int32 × Mm) (h : f_T_obeys F u a0 a1 a2 = some out) : yMet l m_T_obeys ws_T_obeys ({ frames := 3, cells := 0, slots := 0, locals := 78 } : Room) YX w u [va_re w.1 a0, va_re w.1 a1, .int a2] yfi out := by
  refine y_entry (own := "WhoseGlass$HouseText") (lv := [(0, va_re w.1 a0), (1, va_re w.1 a1), (2, .int a2)]) (by decide +kernel) rfl (by simp [lv_args, y_cat, y_catI, y_catJ]) (by simp [lg_sl, y_cat, y_catI, y_catJ]) ?_
  intro p e s m args below meth c C hr hlocks
  unfold f_T_obeys at h
  refine y_aload_n C (i := 1) 1 d_T_obeys_0 rfl rfl ?_
  refine y_iload_n C (i := 2) 2 d_T_obeys_1 rfl rfl ?_
  refine y_callV 1 C (q := (yR3, yT3, 6)) (ci := 3) (fun t out hh => c_S_elementAt l w F u t a2 out hh) gc_T_obeys_25 rfl (by decide) hd_S_elementAt ⟨Nat.le_of_ble_eq_true rfl, Nat.le_of_ble_eq_true rfl⟩ rfl rfl rfl rfl (by simp [y_cat, y_catI, y_catJ]) d_T_obeys_2 h (fun x1 u2 h => ?_)
  refine y_stk (stp0 := [.int x1]) rfl ?_
  refine y_sp h (fun k3 h => ?_) (fun k3 h => ?_)
  · refine y_lsw C (off := 72) 77 d_T_obeys_5 (by decide) (by rw [k3]; decide +kernel) (by decide) ?_
    refine y_aload_n C (i := 1) 1 d_T_obeys_77 rfl rfl ?_
    refine y_iload_n C (i := 2) 2 d_T_obeys_78 rfl rfl ?_
    refine y_aload_n C (i := 0) 0 d_T_obeys_79 rfl rfl ?_
    refine y_callS 3 C (fun out hh => c_T_coldTurns l w F u2 a1 a2 a0 out hh) (y_gc g_370) g_368 g_7 g_369 hn_T_coldTurns ⟨Nat.le_of_ble_eq_true rfl, Nat.le_of_ble_eq_true rfl⟩ rfl rfl rfl rfl (by simp [y_cat, y_catI, y_catJ]) d_T_obeys_80 h (fun x4 u5 h => ?_)
    refine y_stk (stp0 := [.int x4]) rfl ?_
    exact y_zret C hr hlocks d_T_obeys_83 h
  refine y_sp h (fun k6 h => ?_) (fun k6 h => ?_)
  · refine y_lsw C (off := 51) 56 d_T_obeys_5 (by decide) (by rw [k6]; decide +kernel) (by decide) ?_
    refine y_aload_n C (i := 1) 1 d_T_obeys_56 rfl rfl ?_
    refine y_iload_n C (i := 2) 2 d_T_obeys_57 rfl rfl ?_
    refine y_aload_n C (i := 0) 0 d_T_obeys_58 rfl rfl ?_
    refine y_callS 3 C (fun out hh => c_T_glassStands l w F u2 a1 a2 a0 out hh) (y_gc g_338) g_336 g_7 g_337 hn_T_glassStands ⟨Nat.le_of_ble_eq_true rfl, Nat.le_of_ble_eq_true rfl⟩ rfl rfl rfl rfl (by simp [y_cat, y_catI, y_catJ]) d_T_obeys_59 h (fun x7 u8 h => ?_)
    refine y_stk (stp0 := [.int x7]) rfl ?_
    exact y_zret C hr hlocks d_T_obeys_62 h
  refine y_sp h (fun k9 h => ?_) (fun k9 h => ?_)
  · refine y_lsw C (off := 65) 70 d_T_obeys_5 (by decide) (by rw [k9]; decide +kernel) (by decide) ?_
    refine y_aload_n C (i := 1) 1 d_T_obeys_70 rfl rfl ?_
    refine y_iload_n C (i := 2) 2 d_T_obeys_71 rfl rfl ?_
    refine y_aload_n C (i := 0) 0 d_T_obeys_72 rfl rfl ?_
    refine y_callS 3 C (fun out hh => c_T_guestHolds l w F u2 a1 a2 a0 out hh) (y_gc g_360) g_358 g_7 g_359 hn_T_guestHolds ⟨Nat.le_of_ble_eq_true rfl, Nat.le_of_ble_eq_true rfl⟩ rfl rfl rfl rfl (by simp [y_cat, y_catI, y_catJ]) d_T_obeys_73 h (fun x10 u11 h => ?_)
    refine y_stk (stp0 := [.int x10]) rfl ?_
    exact y_zret C hr hlocks d_T_obeys_76 h
  refine y_sp h (fun k12 h => ?_) (fun k12 h => ?_)
  · refine y_lsw C (off := 58) 63 d_T_obeys_5 (by decide) (by rw [k12]; decide +kernel) (by decide) ?_
    refine y_aload_n C (i := 1) 1 d_T_obeys_63 rfl rfl ?_
    refine y_iload_n C (i := 2) 2 d_T_obeys_64 rfl rfl ?_
    refine y_aload_n C (i := 0) 0 d_T_obeys_65 rfl rfl ?_
    refine y_callS 3 C (fun out hh => c_T_guestEnters l w F u2 a1 a2 a0 out hh) (y_gc g_349) g_347 g_7 g_348 hn_T_guestEnters ⟨Nat.le_of_ble_eq_true rfl, Nat.le_of_ble_eq_true rfl⟩ rfl rfl rfl rfl (by simp [y_cat, y_catI, y_catJ]) d_T_obeys_66 h (fun x13 u14 h => ?_)
    refine y_stk (stp0 := [.int x13]) rfl ?_
    exact y_zret C hr hlocks d_T_obeys_69 h
  refine y_sp h (fun k15 h => ?_) (fun k15 h => ?_)
  · refine y_lsw C (off := 79) 84 d_T_obeys_5 (by decide) (by rw [k15]; decide +kernel) (by decide) ?_
    refine y_aload_n C (i := 1) 1 d_T_obeys_84 rfl rfl ?_
    refine y_iload_n C (i := 2) 2 d_T_obeys_85 rfl rfl ?_
    refine y_aload_n C (i := 0) 0 d_T_obeys_86 rfl rfl ?_
    refine y_callS 3 C (fun out hh => c_T_setTray l w F u2 a1 a2 a0 out hh) (y_gc g_373) g_371 g_7 g_372 hn_T_setTray ⟨Nat.le_of_ble_eq_true rfl, Nat.le_of_ble_eq_true rfl⟩ rfl rfl rfl rfl (by simp [y_cat, y_catI, y_catJ]) d_T_obeys_87 h (fun v16 u17 h => ?_)
    refine y_stk (stp0 := []) rfl ?_
    refine y_iconst C (v := 1) d_T_obeys_90 (by decide) ?_
    exact y_zret C hr hlocks d_T_obeys_91 h
  refine y_lsw C (off := 87) 92 d_T_obeys_5 (by decide) (by show Op.lookupswitch.offset [(99, 72), (103, 51), (104, 65), (112, 58), (116, 79)] 87 _ = _; rw [lv_osw (a := 99) k3 rfl, lv_osw (a := 103) k6 rfl, lv_osw (a := 104) k9 rfl, lv_osw (a := 112) k12 rfl, lv_osw (a := 116) k15 rfl]; rfl) (by decide) ?_
  refine y_iconst C (v := 0) d_T_obeys_92 (by decide) ?_
  exact y_zret C hr hlocks d_T_obeys_93 h
/-! T_build -/
theorem d_T_build_0 : decode prog_5_method_4_code 0 = .ok (.iconst 0, 1) := by decide +kernel
theorem d_T_build_1 : decode prog_5_method_4_code 1 = .ok (.istore_n 2, 1) := by decide +kernel
theorem d_T_build_2 : decode prog_5_method_4_code 2 = .ok (.iconst 0, 1) := by decide +kernel
theorem d_T_build_3 : decode prog_5_method_4_code 3 = .ok (.istore_n 3, 1) := by decide +kernel
theorem d_T_build_4 : decode prog_5_method_4_code 4 = .ok (.iload_n 3, 1) := by decide +kernel
theorem d_T_build_5 : decode prog_5_method_4_code 5 = .ok (.aload_n 0, 1) := by decide +kernel
theorem d_T_build_6 : decode prog_5_method_4_code 6 = .ok (.getfield 9, 3) := by decide +kernel
theorem d_T_build_9 : decode prog_5_method_4_code 9 = .ok (.if_icmp .ge 64, 3) := by decide +kernel
theorem d_T_build_12 : decode prog_5_method_4_code 12 = .ok (.iload_n 2, 1) := by decide +kernel
theorem d_T_build_13 : decode prog_5_method_4_code 13 = .ok (.aload_n 0, 1) := by decide +kernel
theorem d_T_build_14 : decode prog_5_method_4_code 14 = .ok (.getfield 9, 3) := by decide +kernel
theorem d_T_build_17 : decode prog_5_method_4_code 17 = .ok (.if_icmp .ge 56, 3) := by decide +kernel
theorem d_T_build_20 : decode prog_5_method_4_code 20 = .ok (.aload_n 0, 1) := by decide +kernel
theorem d_T_build_21 : decode prog_5_method_4_code 21 = .ok (.iload_n 2, 1) := by decide +kernel
theorem d_T_build_22 : decode prog_5_method_4_code 22 = .ok (.bipush 109, 2) := by decide +kernel
theorem d_T_build_24 : decode prog_5_method_4_code 24 = .ok (.invokestatic 32, 3) := by decide +kernel
theorem d_T_build_27 : decode prog_5_method_4_code 27 = .ok (.ifCond .eq 21, 3) := by decide +kernel
theorem d_T_build_30 : decode prog_5_method_4_code 30 = .ok (.aload_n 1, 1) := by decide +kernel
theorem d_T_build_31 : decode prog_5_method_4_code 31 = .ok (.getfield 36, 3) := by decide +kernel
theorem d_T_build_34 : decode prog_5_method_4_code 34 = .ok (.sipush 999, 3) := by decide +kernel
theorem d_T_build_37 : decode prog_5_method_4_code 37 = .ok (.if_icmp .ge 11, 3) := by decide +kernel
theorem d_T_build_40 : decode prog_5_method_4_code 40 = .ok (.aload_n 1, 1) := by decide +kernel
theorem d_T_build_41 : decode prog_5_method_4_code 41 = .ok (.iconst 1, 1) := by decide +kernel
theorem d_T_build_42 : decode prog_5_method_4_code 42 = .ok (.invokevirtual 41, 3) := by decide +kernel
theorem d_T_build_45 : decode prog_5_method_4_code 45 = .ok (.goto 14, 3) := by decide +kernel
theorem d_T_build_48 : decode prog_5_method_4_code 48 = .ok (.aload_n 1, 1) := by decide +kernel
theorem d_T_build_49 : decode prog_5_method_4_code 49 = .ok (.aload_n 0, 1) := by decide +kernel
theorem d_T_build_50 : decode prog_5_method_4_code 50 = .ok (.iload_n 2, 1) := by decide +kernel
theorem d_T_build_51 : decode prog_5_method_4_code 51 = .ok (.invokestatic 45, 3) := by decide +kernel
theorem d_T_build_54 : decode prog_5_method_4_code 54 = .ok (.ifCond .ne 5, 3) := by decide +kernel
theorem d_T_build_57 : decode prog_5_method_4_code 57 = .ok (.iload_n 2, 1) := by decide +kernel
theorem d_T_build_58 : decode prog_5_method_4_code 58 = .ok (.ireturn, 1) := by decide +kernel
theorem d_T_build_59 : decode prog_5_method_4_code 59 = .ok (.aload_n 0, 1) := by decide +kernel
theorem d_T_build_60 : decode prog_5_method_4_code 60 = .ok (.iload_n 2, 1) := by decide +kernel
theorem d_T_build_61 : decode prog_5_method_4_code 61 = .ok (.invokestatic 15, 3) := by decide +kernel
theorem d_T_build_64 : decode prog_5_method_4_code 64 = .ok (.iconst 1, 1) := by decide +kernel
theorem d_T_build_65 : decode prog_5_method_4_code 65 = .ok (.iadd, 1) := by decide +kernel
theorem d_T_build_66 : decode prog_5_method_4_code 66 = .ok (.istore_n 2, 1) := by decide +kernel
theorem d_T_build_67 : decode prog_5_method_4_code 67 = .ok (.iinc 3 1, 3) := by decide +kernel
theorem d_T_build_70 : decode prog_5_method_4_code 70 = .ok (.goto (-66), 3) := by decide +kernel
theorem d_T_build_73 : decode prog_5_method_4_code 73 = .ok (.bipush (-4), 2) := by decide +kernel
theorem d_T_build_75 : decode prog_5_method_4_code 75 = .ok (.ireturn, 1) := by decide +kernel
theorem gc_T_build_41 : GoodIn yGW (wsV "WhoseGlass$HouseText" 41 yR2 m_H_passMinutes ws_H_passMinutes) := y_gV g_278 g_279 g_280 g_2 g_281
set_option maxHeartbeats 4000000 in
set_option maxRecDepth 100000 in
def f_T_build_L4 (F : Nat) (a0 : Option Nat) (a1 : Option Nat) (k : Mm → Option (Int32 × Mm)) : Nat → Mm → Int32 → Int32 → Option (Int32 × Mm)
  | 0, _, _, _ => none
  | n + 1, u, a2, a3 => ob (jgi YX 3 4 u a0) fun (x1 : Int32) => (if x1 ≤ a3 then k u  else ob (jgi YX 3 4 u a0) fun (x3 : Int32) => (if x3 ≤ a2 then k u  else yb (f_T_isAt F u a0 a2 (109 : Int32)) fun x5 u6 => (if x5 = 0 then yb (f_T_obeys F u6 a1 a0 a2) fun x8 u9 => (if x8 = 0 then some (a2, u9) else yb (f_T_digitsEnd F u9 a0 a2) fun x11 u12 => ob (some (x11 + (1 : Int32))) fun (x13 : Int32) => ob (some (a3 + (1 : Int32))) fun (x14 : Int32) => f_T_build_L4 F a0 a1 k n u12 x13 x14) else ob (jgi YX 2 5 u6 a1) fun (x15 : Int32) => (if (999 : Int32) ≤ x15 then yb (f_T_obeys F u6 a1 a0 a2) fun x17 u18 => (if x17 = 0 then some (a2, u18) else yb (f_T_digitsEnd F u18 a0 a2) fun x20 u21 => ob (some (x20 + (1 : Int32))) fun (x22 : Int32) => ob (some (a3 + (1 : Int32))) fun (x23 : Int32) => f_T_build_L4 F a0 a1 k n u21 x22 x23) else ob (jk YX 2 a1) fun t => yb (f_H_passMinutes F u6 t (1 : Int32)) fun v24 u25 => yb (f_T_digitsEnd F u25 a0 a2) fun x26 u27 => ob (some (x26 + (1 : Int32))) fun (x28 : Int32) => ob (some (a3 + (1 : Int32))) fun (x29 : Int32) => f_T_build_L4 F a0 a1 k n u27 x28 x29))))
set_option maxHeartbeats 4000000 in
set_option maxRecDepth 100000 in
theorem w_T_build_L4 {p : Program} {l : Launch} {e : Env} {s : State} {m : MethodId} {args : Array Value} {below : List Frame} {meth : Method} {c : Code} {w : WP} (F : Nat) (C : yX p e ({ frames := 5, cells := 0, slots := 0, locals := 125 } : Room) s m args c YX w 4 prog_5_method_4_code "WhoseGlass$HouseText") (hr : meth.sig.returnType = (some .int)) (hlocks : meth.locks = false) (a0 : Option Nat) (a1 : Option Nat) {out : Int32 × Mm} (k : Mm → Option (Int32 × Mm)) (hk : ∀ (u : Mm), k u  = some out → yG p l e ({ frames := 5, cells := 0, slots := 0, locals := 125 } : Room) s m args below meth c YX w 4 (MQ below (yQ YX w yfi out) args s 0 0 (yA YX w)) u 73 [] []) : ∀ (n : Nat) (u : Mm) (a2 : Int32) (a3 : Int32), f_T_build_L4 F a0 a1 k n u a2 a3 = some out → yG p l e ({ frames := 5, cells := 0, slots := 0, locals := 125 } : Room) s m args below meth c YX w 4 (MQ below (yQ YX w yfi out) args s 0 0 (yA YX w)) u 4 [(0, va_re w.1 a0), (1, va_re w.1 a1), (2, .int a2), (3, .int a3)] [] := by
  intro n
  induction n with
  | zero => intro u a2 a3 h; rw [f_T_build_L4] at h; cases h
  | succ n ih =>
    intro u a2 a3 h
    rw [f_T_build_L4] at h
    refine y_iload_n C (i := 3) 3 d_T_build_4 rfl rfl ?_
    refine y_aload_n C (i := 0) 0 d_T_build_5 rfl rfl ?_
    refine y_gi C (q := (yR3, yT3, 6)) (ci := 3) (k := 4) rfl (by decide) rfl g_183 d_T_build_6 h (fun x1 h => ?_)
    refine y_ic_ge C 73 d_T_build_9 (by decide) h (fun k2 h => ?_) (fun k2 h => ?_)
    · exact y_sub [] rfl (hk _ h)
    · refine y_iload_n C (i := 2) 2 d_T_build_12 rfl rfl ?_
      refine y_aload_n C (i := 0) 0 d_T_build_13 rfl rfl ?_
      refine y_gi C (q := (yR3, yT3, 6)) (ci := 3) (k := 4) rfl (by decide) rfl g_183 d_T_build_14 h (fun x3 h => ?_)
      refine y_ic_ge C 73 d_T_build_17 (by decide) h (fun k4 h => ?_) (fun k4 h => ?_)
      · exact y_sub [] rfl (hk _ h)
      · refine y_aload_n C (i := 0) 0 d_T_build_20 rfl rfl ?_
        refine y_iload_n C (i := 2) 2 d_T_build_21 rfl rfl ?_
        refine y_bipush C (v := 109) d_T_build_22 (by decide) ?_
        refine y_callS 3 C (fun out hh => c_T_isAt l w F u a0 a2 (109 : Int32) out hh) (y_gc g_254) g_252 g_7 g_253 hn_T_isAt ⟨Nat.le_of_ble_eq_true rfl, Nat.le_of_ble_eq_true rfl⟩ rfl rfl rfl rfl (by simp [y_cat, y_catI, y_catJ]) d_T_build_24 h (fun x5 u6 h => ?_)
        refine y_stk (stp0 := [.int x5]) rfl ?_
        refine y_if_eq C 48 d_T_build_27 (by decide) h (fun k7 h => ?_) (fun k7 h => ?_)
        · refine y_aload_n C (i := 1) 1 d_T_build_48 rfl rfl ?_
          refine y_aload_n C (i := 0) 0 d_T_build_49 rfl rfl ?_
          refine y_iload_n C (i := 2) 2 d_T_build_50 rfl rfl ?_
          refine y_callS 3 C (fun out hh => c_T_obeys l w F u6 a1 a0 a2 out hh) (y_gc g_335) g_333 g_7 g_334 hn_T_obeys ⟨Nat.le_of_ble_eq_true rfl, Nat.le_of_ble_eq_true rfl⟩ rfl rfl rfl rfl (by simp [y_cat, y_catI, y_catJ]) d_T_build_51 h (fun x8 u9 h => ?_)
          refine y_stk (stp0 := [.int x8]) rfl ?_
          refine y_if_ne C 59 d_T_build_54 (by decide) h (fun k10 h => ?_) (fun k10 h => ?_)
          · refine y_iload_n C (i := 2) 2 d_T_build_57 rfl rfl ?_
            exact y_iret C hr hlocks d_T_build_58 h
          · refine y_aload_n C (i := 0) 0 d_T_build_59 rfl rfl ?_
            refine y_iload_n C (i := 2) 2 d_T_build_60 rfl rfl ?_
            refine y_callS 2 C (fun out hh => c_T_digitsEnd l w F u9 a0 a2 out hh) (y_gc g_235) g_233 g_7 g_234 hn_T_digitsEnd ⟨Nat.le_of_ble_eq_true rfl, Nat.le_of_ble_eq_true rfl⟩ rfl rfl rfl rfl (by simp [y_cat, y_catI, y_catJ]) d_T_build_61 h (fun x11 u12 h => ?_)
            refine y_stk (stp0 := [.int x11]) rfl ?_
            refine y_iconst C (v := 1) d_T_build_64 (by decide) ?_
            refine y_iadd C d_T_build_65 ?_
            refine y_istore_nB C (i := 2) (lvp := [(0, va_re w.1 a0), (1, va_re w.1 a1), (3, .int a3)]) d_T_build_66 rfl (by decide) (by simp [List.filter, y_cat, y_catI, y_catJ]) h (fun x13 h => ?_)
            refine y_iinc C (j := 3) (v := 1) (lvp := [(2, .int x13), (0, va_re w.1 a0), (1, va_re w.1 a1)]) d_T_build_67 rfl (by decide) (by decide) rfl h (fun x14 h => ?_)
            refine y_goto C (tgt := 4) d_T_build_70 (by decide) ?_
            exact y_sub [2, 3, 1, 0] rfl (ih _ _ _ h)
        · refine y_aload_n C (i := 1) 1 d_T_build_30 rfl rfl ?_
          refine y_gi C (q := (yR2, yT2, 9)) (ci := 2) (k := 5) rfl (by decide) rfl g_141 d_T_build_31 h (fun x15 h => ?_)
          refine y_sipush C (v := 999) d_T_build_34 (by decide) ?_
          refine y_ic_ge C 48 d_T_build_37 (by decide) h (fun k16 h => ?_) (fun k16 h => ?_)
          · refine y_aload_n C (i := 1) 1 d_T_build_48 rfl rfl ?_
            refine y_aload_n C (i := 0) 0 d_T_build_49 rfl rfl ?_
            refine y_iload_n C (i := 2) 2 d_T_build_50 rfl rfl ?_
            refine y_callS 3 C (fun out hh => c_T_obeys l w F u6 a1 a0 a2 out hh) (y_gc g_335) g_333 g_7 g_334 hn_T_obeys ⟨Nat.le_of_ble_eq_true rfl, Nat.le_of_ble_eq_true rfl⟩ rfl rfl rfl rfl (by simp [y_cat, y_catI, y_catJ]) d_T_build_51 h (fun x17 u18 h => ?_)
            refine y_stk (stp0 := [.int x17]) rfl ?_
            refine y_if_ne C 59 d_T_build_54 (by decide) h (fun k19 h => ?_) (fun k19 h => ?_)
            · refine y_iload_n C (i := 2) 2 d_T_build_57 rfl rfl ?_
              exact y_iret C hr hlocks d_T_build_58 h
            · refine y_aload_n C (i := 0) 0 d_T_build_59 rfl rfl ?_
              refine y_iload_n C (i := 2) 2 d_T_build_60 rfl rfl ?_
              refine y_callS 2 C (fun out hh => c_T_digitsEnd l w F u18 a0 a2 out hh) (y_gc g_235) g_233 g_7 g_234 hn_T_digitsEnd ⟨Nat.le_of_ble_eq_true rfl, Nat.le_of_ble_eq_true rfl⟩ rfl rfl rfl rfl (by simp [y_cat, y_catI, y_catJ]) d_T_build_61 h (fun x20 u21 h => ?_)
              refine y_stk (stp0 := [.int x20]) rfl ?_
              refine y_iconst C (v := 1) d_T_build_64 (by decide) ?_
              refine y_iadd C d_T_build_65 ?_
              refine y_istore_nB C (i := 2) (lvp := [(0, va_re w.1 a0), (1, va_re w.1 a1), (3, .int a3)]) d_T_build_66 rfl (by decide) (by simp [List.filter, y_cat, y_catI, y_catJ]) h (fun x22 h => ?_)
              refine y_iinc C (j := 3) (v := 1) (lvp := [(2, .int x22), (0, va_re w.1 a0), (1, va_re w.1 a1)]) d_T_build_67 rfl (by decide) (by decide) rfl h (fun x23 h => ?_)
              refine y_goto C (tgt := 4) d_T_build_70 (by decide) ?_
              exact y_sub [2, 3, 1, 0] rfl (ih _ _ _ h)
          · refine y_aload_n C (i := 1) 1 d_T_build_40 rfl rfl ?_
            refine y_iconst C (v := 1) d_T_build_41 (by decide) ?_
            refine y_callV 1 C (q := (yR2, yT2, 9)) (ci := 2) (fun t out hh => c_H_passMinutes l w F u6 t (1 : Int32) out hh) gc_T_build_41 rfl (by decide) hd_H_passMinutes ⟨Nat.le_of_ble_eq_true rfl, Nat.le_of_ble_eq_true rfl⟩ rfl rfl rfl rfl (by simp [y_cat, y_catI, y_catJ]) d_T_build_42 h (fun v24 u25 h => ?_)
            refine y_stk (stp0 := []) rfl ?_
            refine y_goto C (tgt := 59) d_T_build_45 (by decide) ?_
            refine y_aload_n C (i := 0) 0 d_T_build_59 rfl rfl ?_
            refine y_iload_n C (i := 2) 2 d_T_build_60 rfl rfl ?_
            refine y_callS 2 C (fun out hh => c_T_digitsEnd l w F u25 a0 a2 out hh) (y_gc g_235) g_233 g_7 g_234 hn_T_digitsEnd ⟨Nat.le_of_ble_eq_true rfl, Nat.le_of_ble_eq_true rfl⟩ rfl rfl rfl rfl (by simp [y_cat, y_catI, y_catJ]) d_T_build_61 h (fun x26 u27 h => ?_)
            refine y_stk (stp0 := [.int x26]) rfl ?_
            refine y_iconst C (v := 1) d_T_build_64 (by decide) ?_
            refine y_iadd C d_T_build_65 ?_
            refine y_istore_nB C (i := 2) (lvp := [(0, va_re w.1 a0), (1, va_re w.1 a1), (3, .int a3)]) d_T_build_66 rfl (by decide) (by simp [List.filter, y_cat, y_catI, y_catJ]) h (fun x28 h => ?_)
            refine y_iinc C (j := 3) (v := 1) (lvp := [(2, .int x28), (0, va_re w.1 a0), (1, va_re w.1 a1)]) d_T_build_67 rfl (by decide) (by decide) rfl h (fun x29 h => ?_)
            refine y_goto C (tgt := 4) d_T_build_70 (by decide) ?_
            exact y_sub [2, 3, 1, 0] rfl (ih _ _ _ h)
set_option maxRecDepth 100000 in
def f_T_build (F : Nat) (u : Mm) (a0 : Option Nat) (a1 : Option Nat) : Option (Int32 × Mm) := f_T_build_L4 F a0 a1 (fun (u30 : Mm) => some ((-4 : Int32), u30)) F u (0 : Int32) (0 : Int32)
set_option maxHeartbeats 4000000 in
set_option maxRecDepth 100000 in
theorem c_T_build (l : Launch) (w : WP) (F : Nat) (u : Mm) (a0 : Option Nat) (a1 : Option Nat) (out : Int32 × Mm) (h : f_T_build F u a0 a1 = some out) : yMet l m_T_build ws_T_build ({ frames := 5, cells := 0, slots := 0, locals := 125 } : Room) YX w u [va_re w.1 a0, va_re w.1 a1] yfi out := by
  refine y_entry (own := "WhoseGlass$HouseText") (lv := [(0, va_re w.1 a0), (1, va_re w.1 a1)]) (by decide +kernel) rfl (by simp [lv_args, y_cat, y_catI, y_catJ]) (by simp [lg_sl, y_cat, y_catI, y_catJ]) ?_
  intro p e s m args below meth c C hr hlocks
  unfold f_T_build at h
  refine y_iconst C (v := 0) d_T_build_0 (by decide) ?_
  refine y_istore_n C (i := 2) (lvp := [(0, va_re w.1 a0), (1, va_re w.1 a1)]) d_T_build_1 rfl (by decide) (by simp [List.filter, y_cat, y_catI, y_catJ]) ?_
  refine y_iconst C (v := 0) d_T_build_2 (by decide) ?_
  refine y_istore_n C (i := 3) (lvp := [(2, .int (0 : Int32)), (0, va_re w.1 a0), (1, va_re w.1 a1)]) d_T_build_3 rfl (by decide) rfl ?_
  refine y_sub [2, 3, 1, 0] rfl (w_T_build_L4 F C hr hlocks _ _ _ (fun u30 h => ?_) _ _ _ _ h)
  refine y_bipush C (v := -4) d_T_build_73 (by decide) ?_
  exact y_iret C hr hlocks d_T_build_75 h
/-! T_statementsIn -/
theorem d_T_statementsIn_0 : decode prog_5_method_5_code 0 = .ok (.iconst 0, 1) := by decide +kernel
theorem d_T_statementsIn_1 : decode prog_5_method_5_code 1 = .ok (.istore_n 1, 1) := by decide +kernel
theorem d_T_statementsIn_2 : decode prog_5_method_5_code 2 = .ok (.iconst 0, 1) := by decide +kernel
theorem d_T_statementsIn_3 : decode prog_5_method_5_code 3 = .ok (.istore_n 2, 1) := by decide +kernel
theorem d_T_statementsIn_4 : decode prog_5_method_5_code 4 = .ok (.iload_n 2, 1) := by decide +kernel
theorem d_T_statementsIn_5 : decode prog_5_method_5_code 5 = .ok (.aload_n 0, 1) := by decide +kernel
theorem d_T_statementsIn_6 : decode prog_5_method_5_code 6 = .ok (.getfield 9, 3) := by decide +kernel
theorem d_T_statementsIn_9 : decode prog_5_method_5_code 9 = .ok (.if_icmp .ge 22, 3) := by decide +kernel
theorem d_T_statementsIn_12 : decode prog_5_method_5_code 12 = .ok (.aload_n 0, 1) := by decide +kernel
theorem d_T_statementsIn_13 : decode prog_5_method_5_code 13 = .ok (.iload_n 2, 1) := by decide +kernel
theorem d_T_statementsIn_14 : decode prog_5_method_5_code 14 = .ok (.bipush 59, 2) := by decide +kernel
theorem d_T_statementsIn_16 : decode prog_5_method_5_code 16 = .ok (.invokestatic 32, 3) := by decide +kernel
theorem d_T_statementsIn_19 : decode prog_5_method_5_code 19 = .ok (.ifCond .eq 6, 3) := by decide +kernel
theorem d_T_statementsIn_22 : decode prog_5_method_5_code 22 = .ok (.iinc 1 1, 3) := by decide +kernel
theorem d_T_statementsIn_25 : decode prog_5_method_5_code 25 = .ok (.iinc 2 1, 3) := by decide +kernel
theorem d_T_statementsIn_28 : decode prog_5_method_5_code 28 = .ok (.goto (-24), 3) := by decide +kernel
theorem d_T_statementsIn_31 : decode prog_5_method_5_code 31 = .ok (.iload_n 1, 1) := by decide +kernel
theorem d_T_statementsIn_32 : decode prog_5_method_5_code 32 = .ok (.ireturn, 1) := by decide +kernel
set_option maxHeartbeats 4000000 in
set_option maxRecDepth 100000 in
def f_T_statementsIn_L4 (F : Nat) (a0 : Option Nat) (k : Mm → Int32 → Option (Int32 × Mm)) : Nat → Mm → Int32 → Int32 → Option (Int32 × Mm)
  | 0, _, _, _ => none
  | n + 1, u, a1, a2 => ob (jgi YX 3 4 u a0) fun (x1 : Int32) => (if x1 ≤ a2 then k u a1 else yb (f_T_isAt F u a0 a2 (59 : Int32)) fun x3 u4 => ob ((if x3 = 0 then some a1 else ob (some (a1 + (1 : Int32))) fun (x7 : Int32) => some x7) : Option (Int32)) fun q5 => ob (some (a2 + (1 : Int32))) fun (x8 : Int32) => f_T_statementsIn_L4 F a0 k n u4 q5 x8)
set_option maxHeartbeats 4000000 in
set_option maxRecDepth 100000 in
theorem w_T_statementsIn_L4 {p : Program} {l : Launch} {e : Env} {s : State} {m : MethodId} {args : Array Value} {below : List Frame} {meth : Method} {c : Code} {w : WP} {Q : State → Prop} (F : Nat) (C : yX p e ({ frames := 2, cells := 0, slots := 0, locals := 43 } : Room) s m args c YX w 3 prog_5_method_5_code "WhoseGlass$HouseText") (hr : meth.sig.returnType = (some .int)) (hlocks : meth.locks = false) (a0 : Option Nat) {out : Int32 × Mm} (k : Mm → Int32 → Option (Int32 × Mm)) (hk : ∀ (u : Mm) (a1 : Int32), k u a1 = some out → yG p l e ({ frames := 2, cells := 0, slots := 0, locals := 43 } : Room) s m args below meth c YX w 3 Q u 31 [(1, .int a1)] []) : ∀ (n : Nat) (u : Mm) (a1 : Int32) (a2 : Int32), f_T_statementsIn_L4 F a0 k n u a1 a2 = some out → yG p l e ({ frames := 2, cells := 0, slots := 0, locals := 43 } : Room) s m args below meth c YX w 3 Q u 4 [(0, va_re w.1 a0), (1, .int a1), (2, .int a2)] [] := by
  intro n
  induction n with
  | zero => intro u a1 a2 h; rw [f_T_statementsIn_L4] at h; cases h
  | succ n ih =>
    intro u a1 a2 h
    rw [f_T_statementsIn_L4] at h
    refine y_iload_n C (i := 2) 2 d_T_statementsIn_4 rfl rfl ?_
    refine y_aload_n C (i := 0) 0 d_T_statementsIn_5 rfl rfl ?_
    refine y_gi C (q := (yR3, yT3, 6)) (ci := 3) (k := 4) rfl (by decide) rfl g_183 d_T_statementsIn_6 h (fun x1 h => ?_)
    refine y_ic_ge C 31 d_T_statementsIn_9 (by decide) h (fun k2 h => ?_) (fun k2 h => ?_)
    · exact y_sub [1] rfl (hk _ _ h)
    · refine y_aload_n C (i := 0) 0 d_T_statementsIn_12 rfl rfl ?_
      refine y_iload_n C (i := 2) 2 d_T_statementsIn_13 rfl rfl ?_
      refine y_bipush C (v := 59) d_T_statementsIn_14 (by decide) ?_
      refine y_callS 3 C (fun out hh => c_T_isAt l w F u a0 a2 (59 : Int32) out hh) (y_gc g_254) g_252 g_7 g_253 hn_T_isAt ⟨Nat.le_of_ble_eq_true rfl, Nat.le_of_ble_eq_true rfl⟩ rfl rfl rfl rfl (by simp [y_cat, y_catI, y_catJ]) d_T_statementsIn_16 h (fun x3 u4 h => ?_)
      refine y_stk (stp0 := [.int x3]) rfl ?_
      obtain ⟨q5, hq5, h⟩ := ob_e h
      have hJq5 : yG p l e ({ frames := 2, cells := 0, slots := 0, locals := 43 } : Room) s m args below meth c YX w 3 Q u4 25 [(0, va_re w.1 a0), (1, .int q5), (2, .int a2)] [] := by
        refine y_iinc C (j := 2) (v := 1) (lvp := [(0, va_re w.1 a0), (1, .int q5)]) d_T_statementsIn_25 rfl (by decide) (by decide) rfl h (fun x8 h => ?_)
        refine y_goto C (tgt := 4) d_T_statementsIn_28 (by decide) ?_
        exact y_sub [1, 2, 0] rfl (ih _ _ _ h)
      refine y_if_eq C 25 d_T_statementsIn_19 (by decide) hq5 (fun k6 hq5 => ?_) (fun k6 hq5 => ?_)
      · cases hq5
        exact y_sub [0, 1, 2] rfl hJq5
      · refine y_iinc C (j := 1) (v := 1) (lvp := [(0, va_re w.1 a0), (2, .int a2)]) d_T_statementsIn_22 rfl (by decide) (by decide) (by simp [List.filter, y_cat, y_catI, y_catJ]) hq5 (fun x7 hq5 => ?_)
        cases hq5
        exact y_sub [1, 0, 2] rfl hJq5
set_option maxRecDepth 100000 in
def f_T_statementsIn (F : Nat) (u : Mm) (a0 : Option Nat) : Option (Int32 × Mm) := f_T_statementsIn_L4 F a0 (fun (u9 : Mm) (x10 : Int32) => some (x10, u9)) F u (0 : Int32) (0 : Int32)
set_option maxHeartbeats 4000000 in
set_option maxRecDepth 100000 in
theorem c_T_statementsIn (l : Launch) (w : WP) (F : Nat) (u : Mm) (a0 : Option Nat) (out : Int32 × Mm) (h : f_T_statementsIn F u a0 = some out) : yMet l m_T_statementsIn ws_T_statementsIn ({ frames := 2, cells := 0, slots := 0, locals := 43 } : Room) YX w u [va_re w.1 a0] yfi out := by
  refine y_entry (own := "WhoseGlass$HouseText") (lv := [(0, va_re w.1 a0)]) (by decide +kernel) rfl (by simp [lv_args, y_cat, y_catI, y_catJ]) (by simp [lg_sl, y_cat, y_catI, y_catJ]) ?_
  intro p e s m args below meth c C hr hlocks
  unfold f_T_statementsIn at h
  refine y_iconst C (v := 0) d_T_statementsIn_0 (by decide) ?_
  refine y_istore_n C (i := 1) (lvp := [(0, va_re w.1 a0)]) d_T_statementsIn_1 rfl (by decide) (by simp [List.filter, y_cat, y_catI, y_catJ]) ?_
  refine y_iconst C (v := 0) d_T_statementsIn_2 (by decide) ?_
  refine y_istore_n C (i := 2) (lvp := [(1, .int (0 : Int32)), (0, va_re w.1 a0)]) d_T_statementsIn_3 rfl (by decide) rfl ?_
  refine y_sub [2, 1, 0] rfl (w_T_statementsIn_L4 F C hr hlocks _ _ (fun u9 x10 h => ?_) _ _ _ _ h)
  refine y_iload_n C (i := 1) 0 d_T_statementsIn_31 rfl rfl ?_
  exact y_iret C hr hlocks d_T_statementsIn_32 h
/-! X_house -/
theorem d_X_house_0 : decode prog_1_method_2_code 0 = .ok (.aload_n 0, 1) := by decide +kernel
theorem d_X_house_1 : decode prog_1_method_2_code 1 = .ok (.iload_n 1, 1) := by decide +kernel
theorem d_X_house_2 : decode prog_1_method_2_code 2 = .ok (.invokevirtual 29, 3) := by decide +kernel
theorem d_X_house_5 : decode prog_1_method_2_code 5 = .ok (.astore_n 2, 1) := by decide +kernel
theorem d_X_house_6 : decode prog_1_method_2_code 6 = .ok (.aload_n 2, 1) := by decide +kernel
theorem d_X_house_7 : decode prog_1_method_2_code 7 = .ok (.ifnonnull 5, 3) := by decide +kernel
theorem d_X_house_10 : decode prog_1_method_2_code 10 = .ok (.iconst (-1), 1) := by decide +kernel
theorem d_X_house_11 : decode prog_1_method_2_code 11 = .ok (.ireturn, 1) := by decide +kernel
theorem d_X_house_12 : decode prog_1_method_2_code 12 = .ok (.aload_n 2, 1) := by decide +kernel
theorem d_X_house_13 : decode prog_1_method_2_code 13 = .ok (.getfield 33, 3) := by decide +kernel
theorem d_X_house_16 : decode prog_1_method_2_code 16 = .ok (.iconst 2, 1) := by decide +kernel
theorem d_X_house_17 : decode prog_1_method_2_code 17 = .ok (.if_icmp .ne 10, 3) := by decide +kernel
theorem d_X_house_20 : decode prog_1_method_2_code 20 = .ok (.aload_n 2, 1) := by decide +kernel
theorem d_X_house_21 : decode prog_1_method_2_code 21 = .ok (.getfield 37, 3) := by decide +kernel
theorem d_X_house_24 : decode prog_1_method_2_code 24 = .ok (.ifCond .eq 8, 3) := by decide +kernel
theorem d_X_house_27 : decode prog_1_method_2_code 27 = .ok (.aload_n 2, 1) := by decide +kernel
theorem d_X_house_28 : decode prog_1_method_2_code 28 = .ok (.invokevirtual 40, 3) := by decide +kernel
theorem d_X_house_31 : decode prog_1_method_2_code 31 = .ok (.ireturn, 1) := by decide +kernel
theorem d_X_house_32 : decode prog_1_method_2_code 32 = .ok (.aload_n 2, 1) := by decide +kernel
theorem d_X_house_33 : decode prog_1_method_2_code 33 = .ok (.invokestatic 44, 3) := by decide +kernel
theorem d_X_house_36 : decode prog_1_method_2_code 36 = .ok (.istore_n 3, 1) := by decide +kernel
theorem d_X_house_37 : decode prog_1_method_2_code 37 = .ok (.iload_n 3, 1) := by decide +kernel
theorem d_X_house_38 : decode prog_1_method_2_code 38 = .ok (.bipush (-4), 2) := by decide +kernel
theorem d_X_house_40 : decode prog_1_method_2_code 40 = .ok (.if_icmp .eq 9, 3) := by decide +kernel
theorem d_X_house_43 : decode prog_1_method_2_code 43 = .ok (.sipush (-1000), 3) := by decide +kernel
theorem d_X_house_46 : decode prog_1_method_2_code 46 = .ok (.iload_n 3, 1) := by decide +kernel
theorem d_X_house_47 : decode prog_1_method_2_code 47 = .ok (.isub, 1) := by decide +kernel
theorem d_X_house_48 : decode prog_1_method_2_code 48 = .ok (.ireturn, 1) := by decide +kernel
theorem d_X_house_49 : decode prog_1_method_2_code 49 = .ok (.aload_n 0, 1) := by decide +kernel
theorem d_X_house_50 : decode prog_1_method_2_code 50 = .ok (.getfield 16, 3) := by decide +kernel
theorem d_X_house_53 : decode prog_1_method_2_code 53 = .ok (.aload_n 0, 1) := by decide +kernel
theorem d_X_house_54 : decode prog_1_method_2_code 54 = .ok (.getfield 10, 3) := by decide +kernel
theorem d_X_house_57 : decode prog_1_method_2_code 57 = .ok (.invokevirtual 50, 3) := by decide +kernel
theorem d_X_house_60 : decode prog_1_method_2_code 60 = .ok (.aload_n 2, 1) := by decide +kernel
theorem d_X_house_61 : decode prog_1_method_2_code 61 = .ok (.aload_n 0, 1) := by decide +kernel
theorem d_X_house_62 : decode prog_1_method_2_code 62 = .ok (.getfield 16, 3) := by decide +kernel
theorem d_X_house_65 : decode prog_1_method_2_code 65 = .ok (.invokestatic 54, 3) := by decide +kernel
theorem d_X_house_68 : decode prog_1_method_2_code 68 = .ok (.istore 4, 2) := by decide +kernel
theorem d_X_house_70 : decode prog_1_method_2_code 70 = .ok (.iload 4, 2) := by decide +kernel
theorem d_X_house_72 : decode prog_1_method_2_code 72 = .ok (.bipush (-4), 2) := by decide +kernel
theorem d_X_house_74 : decode prog_1_method_2_code 74 = .ok (.if_icmp .eq 10, 3) := by decide +kernel
theorem d_X_house_77 : decode prog_1_method_2_code 77 = .ok (.sipush (-2000), 3) := by decide +kernel
theorem d_X_house_80 : decode prog_1_method_2_code 80 = .ok (.iload 4, 2) := by decide +kernel
theorem d_X_house_82 : decode prog_1_method_2_code 82 = .ok (.isub, 1) := by decide +kernel
theorem d_X_house_83 : decode prog_1_method_2_code 83 = .ok (.ireturn, 1) := by decide +kernel
theorem d_X_house_84 : decode prog_1_method_2_code 84 = .ok (.aload_n 0, 1) := by decide +kernel
theorem d_X_house_85 : decode prog_1_method_2_code 85 = .ok (.getfield 10, 3) := by decide +kernel
theorem d_X_house_88 : decode prog_1_method_2_code 88 = .ok (.aload_n 0, 1) := by decide +kernel
theorem d_X_house_89 : decode prog_1_method_2_code 89 = .ok (.getfield 16, 3) := by decide +kernel
theorem d_X_house_92 : decode prog_1_method_2_code 92 = .ok (.invokevirtual 50, 3) := by decide +kernel
theorem d_X_house_95 : decode prog_1_method_2_code 95 = .ok (.aload_n 2, 1) := by decide +kernel
theorem d_X_house_96 : decode prog_1_method_2_code 96 = .ok (.invokestatic 58, 3) := by decide +kernel
theorem d_X_house_99 : decode prog_1_method_2_code 99 = .ok (.ireturn, 1) := by decide +kernel
theorem gc_X_house_29 : GoodIn yGW (wsV "WhoseGlass" 29 yR4 m_X_shelfAt ws_X_shelfAt) := y_gV g_222 g_224 gs_0 g_1 g_225
theorem gc_X_house_50 : GoodIn yGW (wsV "WhoseGlass" 50 yR2 m_H_become ws_H_become) := y_gV g_255 g_256 g_257 g_2 g_258
theorem gc_X_house_40 : GoodIn yGW (wsV "WhoseGlass" 40 yR3 m_S_whyNot ws_S_whyNot) := y_gV g_226 g_227 g_228 g_5 g_229
set_option maxRecDepth 100000 in
def f_X_house (F : Nat) (u : Mm) (o : Nat) (a1 : Int32) : Option (Int32 × Mm) := ob (jk YX 4 (some o)) fun t => yb (f_X_shelfAt F u t a1) fun r1 u2 => (if r1 = none then some ((-1 : Int32), u2) else ob (jgi YX 3 0 u2 r1) fun (x4 : Int32) => (if x4 = (2 : Int32) then ob (jgi YX 3 3 u2 r1) fun (x6 : Int32) => (if x6 = 0 then yb (f_T_breakIn F u2 r1) fun x8 u9 => (if x8 = (-4 : Int32) then ob (jgr YX 4 1 (some o)) fun (r11 : Option Nat) => ob (jgr YX 4 0 (some o)) fun (r12 : Option Nat) => ob (jk YX 2 r11) fun t => yb (f_H_become F u9 t r12) fun v13 u14 => ob (jgr YX 4 1 (some o)) fun (r15 : Option Nat) => yb (f_T_build F u14 r1 r15) fun x16 u17 => (if x16 = (-4 : Int32) then ob (jgr YX 4 0 (some o)) fun (r19 : Option Nat) => ob (jgr YX 4 1 (some o)) fun (r20 : Option Nat) => ob (jk YX 2 r19) fun t => yb (f_H_become F u17 t r20) fun v21 u22 => yb (f_T_statementsIn F u22 r1) fun x23 u24 => some (x23, u24) else some (((-2000 : Int32) - x16), u17)) else some (((-1000 : Int32) - x8), u9)) else ob (jk YX 3 r1) fun t => yb (f_S_whyNot F u2 t ) fun x25 u26 => some (x25, u26)) else ob (jk YX 3 r1) fun t => yb (f_S_whyNot F u2 t ) fun x27 u28 => some (x27, u28)))
set_option maxHeartbeats 4000000 in
set_option maxRecDepth 100000 in
theorem c_X_house (l : Launch) (w : WP) (F : Nat) (u : Mm) (o : Nat) (a1 : Int32) (out : Int32 × Mm) (h : f_X_house F u o a1 = some out) : yMet l m_X_house ws_X_house ({ frames := 6, cells := 0, slots := 0, locals := 148 } : Room) YX w u [va_re w.1 (some o), .int a1] yfi out := by
  refine y_entry (own := "WhoseGlass") (lv := [(0, va_re w.1 (some o)), (1, .int a1)]) (by decide +kernel) rfl (by simp [lv_args, y_cat, y_catI, y_catJ]) (by simp [lg_sl, y_cat, y_catI, y_catJ]) ?_
  intro p e s m args below meth c C hr hlocks
  unfold f_X_house at h
  refine y_aload_n C (i := 0) 0 d_X_house_0 rfl rfl ?_
  refine y_iload_n C (i := 1) 1 d_X_house_1 rfl rfl ?_
  refine y_callV 1 C (q := (yR4, yT4, 5)) (ci := 4) (fun t out hh => c_X_shelfAt l w F u t a1 out hh) gc_X_house_29 rfl (by decide) hd_X_shelfAt ⟨Nat.le_of_ble_eq_true rfl, Nat.le_of_ble_eq_true rfl⟩ rfl rfl rfl rfl (by simp [y_cat, y_catI, y_catJ]) d_X_house_2 h (fun r1 u2 h => ?_)
  refine y_stk (stp0 := [va_re w.1 r1]) rfl ?_
  refine y_astore_n C (i := 2) (lvp := [(0, va_re w.1 (some o)), (1, .int a1)]) d_X_house_5 rfl (by decide) (by simp [List.filter, y_cat, y_catI, y_catJ]) ?_
  refine y_aload_n C (i := 2) 0 d_X_house_6 rfl rfl ?_
  refine y_ifnonnull C 12 d_X_house_7 (by decide) h (fun k3 h => ?_) (fun k3 h => ?_)
  · refine y_iconst C (v := -1) d_X_house_10 (by decide) ?_
    exact y_iret C hr hlocks d_X_house_11 h
  · refine y_aload_n C (i := 2) 0 d_X_house_12 rfl rfl ?_
    refine y_gi C (q := (yR3, yT3, 6)) (ci := 3) (k := 0) rfl (by decide) rfl g_176 d_X_house_13 h (fun x4 h => ?_)
    refine y_iconst C (v := 2) d_X_house_16 (by decide) ?_
    refine y_ic_ne C 27 d_X_house_17 (by decide) h (fun k5 h => ?_) (fun k5 h => ?_)
    · refine y_aload_n C (i := 2) 0 d_X_house_20 rfl rfl ?_
      refine y_gi C (q := (yR3, yT3, 6)) (ci := 3) (k := 3) rfl (by decide) rfl g_181 d_X_house_21 h (fun x6 h => ?_)
      refine y_if_eq C 32 d_X_house_24 (by decide) h (fun k7 h => ?_) (fun k7 h => ?_)
      · refine y_aload_n C (i := 2) 0 d_X_house_32 rfl rfl ?_
        refine y_callS 1 C (fun out hh => c_T_breakIn l w F u2 r1 out hh) (y_gc g_232) g_230 g_7 g_231 hn_T_breakIn ⟨Nat.le_of_ble_eq_true rfl, Nat.le_of_ble_eq_true rfl⟩ rfl rfl rfl rfl (by simp [y_cat, y_catI, y_catJ]) d_X_house_33 h (fun x8 u9 h => ?_)
        refine y_stk (stp0 := [.int x8]) rfl ?_
        refine y_istore_n C (i := 3) (lvp := [(2, va_re w.1 r1), (0, va_re w.1 (some o)), (1, .int a1)]) d_X_house_36 rfl (by decide) (by simp [List.filter, y_cat, y_catI, y_catJ]) ?_
        refine y_iload_n C (i := 3) 0 d_X_house_37 rfl rfl ?_
        refine y_bipush C (v := -4) d_X_house_38 (by decide) ?_
        refine y_ic_eq C 49 d_X_house_40 (by decide) h (fun k10 h => ?_) (fun k10 h => ?_)
        · refine y_aload_n C (i := 0) 2 d_X_house_49 rfl rfl ?_
          refine y_gr C (q := (yR4, yT4, 5)) (ci := 4) (k := 1) rfl (by decide) rfl (by decide) g_203 d_X_house_50 h (fun r11 h => ?_)
          refine y_aload_n C (i := 0) 2 d_X_house_53 rfl rfl ?_
          refine y_gr C (q := (yR4, yT4, 5)) (ci := 4) (k := 0) rfl (by decide) rfl (by decide) g_202 d_X_house_54 h (fun r12 h => ?_)
          refine y_callV 1 C (q := (yR2, yT2, 9)) (ci := 2) (fun t out hh => c_H_become l w F u9 t r12 out hh) gc_X_house_50 rfl (by decide) hd_H_become ⟨Nat.le_of_ble_eq_true rfl, Nat.le_of_ble_eq_true rfl⟩ rfl rfl rfl rfl (by simp [y_cat, y_catI, y_catJ]) d_X_house_57 h (fun v13 u14 h => ?_)
          refine y_stk (stp0 := []) rfl ?_
          refine y_aload_n C (i := 2) 1 d_X_house_60 rfl rfl ?_
          refine y_aload_n C (i := 0) 2 d_X_house_61 rfl rfl ?_
          refine y_gr C (q := (yR4, yT4, 5)) (ci := 4) (k := 1) rfl (by decide) rfl (by decide) g_203 d_X_house_62 h (fun r15 h => ?_)
          refine y_callS 2 C (fun out hh => c_T_build l w F u14 r1 r15 out hh) (y_gc g_277) g_275 g_7 g_276 hn_T_build ⟨Nat.le_of_ble_eq_true rfl, Nat.le_of_ble_eq_true rfl⟩ rfl rfl rfl rfl (by simp [y_cat, y_catI, y_catJ]) d_X_house_65 h (fun x16 u17 h => ?_)
          refine y_stk (stp0 := [.int x16]) rfl ?_
          refine y_istore C (i := 4) (lvp := [(3, .int x8), (2, va_re w.1 r1), (0, va_re w.1 (some o)), (1, .int a1)]) d_X_house_68 (by decide) rfl ?_
          refine y_iload C (i := 4) 0 d_X_house_70 rfl ?_
          refine y_bipush C (v := -4) d_X_house_72 (by decide) ?_
          refine y_ic_eq C 84 d_X_house_74 (by decide) h (fun k18 h => ?_) (fun k18 h => ?_)
          · refine y_aload_n C (i := 0) 3 d_X_house_84 rfl rfl ?_
            refine y_gr C (q := (yR4, yT4, 5)) (ci := 4) (k := 0) rfl (by decide) rfl (by decide) g_202 d_X_house_85 h (fun r19 h => ?_)
            refine y_aload_n C (i := 0) 3 d_X_house_88 rfl rfl ?_
            refine y_gr C (q := (yR4, yT4, 5)) (ci := 4) (k := 1) rfl (by decide) rfl (by decide) g_203 d_X_house_89 h (fun r20 h => ?_)
            refine y_callV 1 C (q := (yR2, yT2, 9)) (ci := 2) (fun t out hh => c_H_become l w F u17 t r20 out hh) gc_X_house_50 rfl (by decide) hd_H_become ⟨Nat.le_of_ble_eq_true rfl, Nat.le_of_ble_eq_true rfl⟩ rfl rfl rfl rfl (by simp [y_cat, y_catI, y_catJ]) d_X_house_92 h (fun v21 u22 h => ?_)
            refine y_stk (stp0 := []) rfl ?_
            refine y_aload_n C (i := 2) 2 d_X_house_95 rfl rfl ?_
            refine y_callS 1 C (fun out hh => c_T_statementsIn l w F u22 r1 out hh) (y_gc g_376) g_374 g_7 g_375 hn_T_statementsIn ⟨Nat.le_of_ble_eq_true rfl, Nat.le_of_ble_eq_true rfl⟩ rfl rfl rfl rfl (by simp [y_cat, y_catI, y_catJ]) d_X_house_96 h (fun x23 u24 h => ?_)
            refine y_stk (stp0 := [.int x23]) rfl ?_
            exact y_iret C hr hlocks d_X_house_99 h
          · refine y_sipush C (v := -2000) d_X_house_77 (by decide) ?_
            refine y_iload C (i := 4) 0 d_X_house_80 rfl ?_
            refine y_isub C d_X_house_82 ?_
            exact y_iret C hr hlocks d_X_house_83 h
        · refine y_sipush C (v := -1000) d_X_house_43 (by decide) ?_
          refine y_iload_n C (i := 3) 0 d_X_house_46 rfl rfl ?_
          refine y_isub C d_X_house_47 ?_
          exact y_iret C hr hlocks d_X_house_48 h
      · refine y_aload_n C (i := 2) 0 d_X_house_27 rfl rfl ?_
        refine y_callV 0 C (q := (yR3, yT3, 6)) (ci := 3) (fun t out hh => c_S_whyNot l w F u2 t out hh) gc_X_house_40 rfl (by decide) hd_S_whyNot ⟨Nat.le_of_ble_eq_true rfl, Nat.le_of_ble_eq_true rfl⟩ rfl rfl rfl rfl (by simp [y_cat, y_catI, y_catJ]) d_X_house_28 h (fun x25 u26 h => ?_)
        refine y_stk (stp0 := [.int x25]) rfl ?_
        exact y_iret C hr hlocks d_X_house_31 h
    · refine y_aload_n C (i := 2) 0 d_X_house_27 rfl rfl ?_
      refine y_callV 0 C (q := (yR3, yT3, 6)) (ci := 3) (fun t out hh => c_S_whyNot l w F u2 t out hh) gc_X_house_40 rfl (by decide) hd_S_whyNot ⟨Nat.le_of_ble_eq_true rfl, Nat.le_of_ble_eq_true rfl⟩ rfl rfl rfl rfl (by simp [y_cat, y_catI, y_catJ]) d_X_house_28 h (fun x27 u28 h => ?_)
      refine y_stk (stp0 := [.int x27]) rfl ?_
      exact y_iret C hr hlocks d_X_house_31 h
/-! G_told -/
theorem d_G_told_0 : decode prog_2_method_7_code 0 = .ok (.iload_n 1, 1) := by decide +kernel
theorem d_G_told_1 : decode prog_2_method_7_code 1 = .ok (.tableswitch 98 0 6 #[43, 48, 53, 58, 63, 68, 81], 43) := by decide +kernel
theorem d_G_told_44 : decode prog_2_method_7_code 44 = .ok (.aload_n 0, 1) := by decide +kernel
theorem d_G_told_45 : decode prog_2_method_7_code 45 = .ok (.getfield 15, 3) := by decide +kernel
theorem d_G_told_48 : decode prog_2_method_7_code 48 = .ok (.ireturn, 1) := by decide +kernel
theorem d_G_told_49 : decode prog_2_method_7_code 49 = .ok (.aload_n 0, 1) := by decide +kernel
theorem d_G_told_50 : decode prog_2_method_7_code 50 = .ok (.getfield 18, 3) := by decide +kernel
theorem d_G_told_53 : decode prog_2_method_7_code 53 = .ok (.ireturn, 1) := by decide +kernel
theorem d_G_told_54 : decode prog_2_method_7_code 54 = .ok (.aload_n 0, 1) := by decide +kernel
theorem d_G_told_55 : decode prog_2_method_7_code 55 = .ok (.getfield 21, 3) := by decide +kernel
theorem d_G_told_58 : decode prog_2_method_7_code 58 = .ok (.ireturn, 1) := by decide +kernel
theorem d_G_told_59 : decode prog_2_method_7_code 59 = .ok (.aload_n 0, 1) := by decide +kernel
theorem d_G_told_60 : decode prog_2_method_7_code 60 = .ok (.getfield 31, 3) := by decide +kernel
theorem d_G_told_63 : decode prog_2_method_7_code 63 = .ok (.ireturn, 1) := by decide +kernel
theorem d_G_told_64 : decode prog_2_method_7_code 64 = .ok (.aload_n 0, 1) := by decide +kernel
theorem d_G_told_65 : decode prog_2_method_7_code 65 = .ok (.getfield 24, 3) := by decide +kernel
theorem d_G_told_68 : decode prog_2_method_7_code 68 = .ok (.ireturn, 1) := by decide +kernel
theorem d_G_told_69 : decode prog_2_method_7_code 69 = .ok (.aload_n 0, 1) := by decide +kernel
theorem d_G_told_70 : decode prog_2_method_7_code 70 = .ok (.getfield 27, 3) := by decide +kernel
theorem d_G_told_73 : decode prog_2_method_7_code 73 = .ok (.ifCond .eq 7, 3) := by decide +kernel
theorem d_G_told_76 : decode prog_2_method_7_code 76 = .ok (.iconst 1, 1) := by decide +kernel
theorem d_G_told_77 : decode prog_2_method_7_code 77 = .ok (.goto 4, 3) := by decide +kernel
theorem d_G_told_80 : decode prog_2_method_7_code 80 = .ok (.iconst 0, 1) := by decide +kernel
theorem d_G_told_81 : decode prog_2_method_7_code 81 = .ok (.ireturn, 1) := by decide +kernel
theorem d_G_told_82 : decode prog_2_method_7_code 82 = .ok (.aload_n 0, 1) := by decide +kernel
theorem d_G_told_83 : decode prog_2_method_7_code 83 = .ok (.invokevirtual 37, 3) := by decide +kernel
theorem d_G_told_86 : decode prog_2_method_7_code 86 = .ok (.ifCond .eq 10, 3) := by decide +kernel
theorem d_G_told_89 : decode prog_2_method_7_code 89 = .ok (.aload_n 0, 1) := by decide +kernel
theorem d_G_told_90 : decode prog_2_method_7_code 90 = .ok (.getfield 34, 3) := by decide +kernel
theorem d_G_told_93 : decode prog_2_method_7_code 93 = .ok (.goto 5, 3) := by decide +kernel
theorem d_G_told_96 : decode prog_2_method_7_code 96 = .ok (.bipush (-4), 2) := by decide +kernel
theorem d_G_told_98 : decode prog_2_method_7_code 98 = .ok (.ireturn, 1) := by decide +kernel
theorem d_G_told_99 : decode prog_2_method_7_code 99 = .ok (.iconst (-1), 1) := by decide +kernel
theorem d_G_told_100 : decode prog_2_method_7_code 100 = .ok (.ireturn, 1) := by decide +kernel
theorem gc_G_told_37 : GoodIn yGW (wsV "WhoseGlass$Glass" 37 yR0 m_G_isLaid ws_G_isLaid) := y_gV g_386 g_364 g_365 g_3 g_366
set_option maxRecDepth 100000 in
def f_G_told (F : Nat) (u : Mm) (o : Nat) (a1 : Int32) : Option (Int32 × Mm) := (if a1 = (0 : Int32) then ob (jgi YX 0 1 u (some o)) fun (x2 : Int32) => some (x2, u) else (if a1 = (1 : Int32) then ob (jgi YX 0 2 u (some o)) fun (x4 : Int32) => some (x4, u) else (if a1 = (2 : Int32) then ob (jgi YX 0 3 u (some o)) fun (x6 : Int32) => some (x6, u) else (if a1 = (3 : Int32) then ob (jgi YX 0 4 u (some o)) fun (x8 : Int32) => some (x8, u) else (if a1 = (4 : Int32) then ob (jgi YX 0 6 u (some o)) fun (x10 : Int32) => some (x10, u) else (if a1 = (5 : Int32) then ob (jgi YX 0 7 u (some o)) fun (x12 : Int32) => (if x12 = 0 then some ((0 : Int32), u) else some ((1 : Int32), u)) else (if a1 = (6 : Int32) then ob (jk YX 0 (some o)) fun t => yb (f_G_isLaid F u t ) fun x15 u16 => (if x15 = 0 then some ((-4 : Int32), u16) else ob (jgi YX 0 5 u16 (some o)) fun (x18 : Int32) => some (x18, u16)) else some ((-1 : Int32), u))))))))
set_option maxHeartbeats 4000000 in
set_option maxRecDepth 100000 in
theorem c_G_told (l : Launch) (w : WP) (F : Nat) (u : Mm) (o : Nat) (a1 : Int32) (out : Int32 × Mm) (h : f_G_told F u o a1 = some out) : yMet l m_G_told ws_G_told ({ frames := 1, cells := 0, slots := 0, locals := 20 } : Room) YX w u [va_re w.1 (some o), .int a1] yfi out := by
  refine y_entry (own := "WhoseGlass$Glass") (lv := [(0, va_re w.1 (some o)), (1, .int a1)]) (by decide +kernel) rfl (by simp [lv_args, y_cat, y_catI, y_catJ]) (by simp [lg_sl, y_cat, y_catI, y_catJ]) ?_
  intro p e s m args below meth c C hr hlocks
  unfold f_G_told at h
  refine y_iload_n C (i := 1) 1 d_G_told_0 rfl rfl ?_
  refine y_sp h (fun k1 h => ?_) (fun k1 h => ?_)
  · refine y_tsw C (off := 43) 44 d_G_told_1 (Or.inr ⟨by rw [k1]; decide, by rw [k1]; decide, by rw [k1]; rfl⟩) (by decide) ?_
    refine y_aload_n C (i := 0) 0 d_G_told_44 rfl rfl ?_
    refine y_gi C (q := (yR0, yT0, 8)) (ci := 0) (k := 1) rfl (by decide) rfl g_43 d_G_told_45 h (fun x2 h => ?_)
    exact y_iret C hr hlocks d_G_told_48 h
  refine y_sp h (fun k3 h => ?_) (fun k3 h => ?_)
  · refine y_tsw C (off := 48) 49 d_G_told_1 (Or.inr ⟨by rw [k3]; decide, by rw [k3]; decide, by rw [k3]; rfl⟩) (by decide) ?_
    refine y_aload_n C (i := 0) 0 d_G_told_49 rfl rfl ?_
    refine y_gi C (q := (yR0, yT0, 8)) (ci := 0) (k := 2) rfl (by decide) rfl g_45 d_G_told_50 h (fun x4 h => ?_)
    exact y_iret C hr hlocks d_G_told_53 h
  refine y_sp h (fun k5 h => ?_) (fun k5 h => ?_)
  · refine y_tsw C (off := 53) 54 d_G_told_1 (Or.inr ⟨by rw [k5]; decide, by rw [k5]; decide, by rw [k5]; rfl⟩) (by decide) ?_
    refine y_aload_n C (i := 0) 0 d_G_told_54 rfl rfl ?_
    refine y_gi C (q := (yR0, yT0, 8)) (ci := 0) (k := 3) rfl (by decide) rfl g_46 d_G_told_55 h (fun x6 h => ?_)
    exact y_iret C hr hlocks d_G_told_58 h
  refine y_sp h (fun k7 h => ?_) (fun k7 h => ?_)
  · refine y_tsw C (off := 58) 59 d_G_told_1 (Or.inr ⟨by rw [k7]; decide, by rw [k7]; decide, by rw [k7]; rfl⟩) (by decide) ?_
    refine y_aload_n C (i := 0) 0 d_G_told_59 rfl rfl ?_
    refine y_gi C (q := (yR0, yT0, 8)) (ci := 0) (k := 4) rfl (by decide) rfl g_50 d_G_told_60 h (fun x8 h => ?_)
    exact y_iret C hr hlocks d_G_told_63 h
  refine y_sp h (fun k9 h => ?_) (fun k9 h => ?_)
  · refine y_tsw C (off := 63) 64 d_G_told_1 (Or.inr ⟨by rw [k9]; decide, by rw [k9]; decide, by rw [k9]; rfl⟩) (by decide) ?_
    refine y_aload_n C (i := 0) 0 d_G_told_64 rfl rfl ?_
    refine y_gi C (q := (yR0, yT0, 8)) (ci := 0) (k := 6) rfl (by decide) rfl g_57 d_G_told_65 h (fun x10 h => ?_)
    exact y_iret C hr hlocks d_G_told_68 h
  refine y_sp h (fun k11 h => ?_) (fun k11 h => ?_)
  · refine y_tsw C (off := 68) 69 d_G_told_1 (Or.inr ⟨by rw [k11]; decide, by rw [k11]; decide, by rw [k11]; rfl⟩) (by decide) ?_
    refine y_aload_n C (i := 0) 0 d_G_told_69 rfl rfl ?_
    refine y_gi C (q := (yR0, yT0, 8)) (ci := 0) (k := 7) rfl (by decide) rfl g_59 d_G_told_70 h (fun x12 h => ?_)
    refine y_if_eq C 80 d_G_told_73 (by decide) h (fun k13 h => ?_) (fun k13 h => ?_)
    · refine y_iconst C (v := 0) d_G_told_80 (by decide) ?_
      exact y_iret C hr hlocks d_G_told_81 h
    · refine y_iconst C (v := 1) d_G_told_76 (by decide) ?_
      refine y_goto C (tgt := 81) d_G_told_77 (by decide) ?_
      exact y_iret C hr hlocks d_G_told_81 h
  refine y_sp h (fun k14 h => ?_) (fun k14 h => ?_)
  · refine y_tsw C (off := 81) 82 d_G_told_1 (Or.inr ⟨by rw [k14]; decide, by rw [k14]; decide, by rw [k14]; rfl⟩) (by decide) ?_
    refine y_aload_n C (i := 0) 0 d_G_told_82 rfl rfl ?_
    refine y_callV 0 C (q := (yR0, yT0, 8)) (ci := 0) (fun t out hh => c_G_isLaid l w F u t out hh) gc_G_told_37 rfl (by decide) hd_G_isLaid ⟨Nat.le_of_ble_eq_true rfl, Nat.le_of_ble_eq_true rfl⟩ rfl rfl rfl rfl (by simp [y_cat, y_catI, y_catJ]) d_G_told_83 h (fun x15 u16 h => ?_)
    refine y_stk (stp0 := [.int x15]) rfl ?_
    refine y_if_eq C 96 d_G_told_86 (by decide) h (fun k17 h => ?_) (fun k17 h => ?_)
    · refine y_bipush C (v := -4) d_G_told_96 (by decide) ?_
      exact y_iret C hr hlocks d_G_told_98 h
    · refine y_aload_n C (i := 0) 0 d_G_told_89 rfl rfl ?_
      refine y_gi C (q := (yR0, yT0, 8)) (ci := 0) (k := 5) rfl (by decide) rfl g_54 d_G_told_90 h (fun x18 h => ?_)
      refine y_goto C (tgt := 98) d_G_told_93 (by decide) ?_
      exact y_iret C hr hlocks d_G_told_98 h
  refine y_tsw C (off := 98) 99 d_G_told_1 (Or.inl ⟨by have ak1 := lv_neT (a := 0) k1 rfl; have ak3 := lv_neT (a := 1) k3 rfl; have ak5 := lv_neT (a := 2) k5 rfl; have ak7 := lv_neT (a := 3) k7 rfl; have ak9 := lv_neT (a := 4) k9 rfl; have ak11 := lv_neT (a := 5) k11 rfl; have ak14 := lv_neT (a := 6) k14 rfl; omega, rfl⟩) (by decide) ?_
  refine y_iconst C (v := -1) d_G_told_99 (by decide) ?_
  exact y_iret C hr hlocks d_G_told_100 h
/-! X_glass -/
theorem d_X_glass_0 : decode prog_1_method_3_code 0 = .ok (.aload_n 0, 1) := by decide +kernel
theorem d_X_glass_1 : decode prog_1_method_3_code 1 = .ok (.getfield 10, 3) := by decide +kernel
theorem d_X_glass_4 : decode prog_1_method_3_code 4 = .ok (.iload_n 1, 1) := by decide +kernel
theorem d_X_glass_5 : decode prog_1_method_3_code 5 = .ok (.invokevirtual 61, 3) := by decide +kernel
theorem d_X_glass_8 : decode prog_1_method_3_code 8 = .ok (.astore_n 3, 1) := by decide +kernel
theorem d_X_glass_9 : decode prog_1_method_3_code 9 = .ok (.aload_n 3, 1) := by decide +kernel
theorem d_X_glass_10 : decode prog_1_method_3_code 10 = .ok (.ifnonnull 7, 3) := by decide +kernel
theorem d_X_glass_13 : decode prog_1_method_3_code 13 = .ok (.iconst (-1), 1) := by decide +kernel
theorem d_X_glass_14 : decode prog_1_method_3_code 14 = .ok (.goto 8, 3) := by decide +kernel
theorem d_X_glass_17 : decode prog_1_method_3_code 17 = .ok (.aload_n 3, 1) := by decide +kernel
theorem d_X_glass_18 : decode prog_1_method_3_code 18 = .ok (.iload_n 2, 1) := by decide +kernel
theorem d_X_glass_19 : decode prog_1_method_3_code 19 = .ok (.invokevirtual 65, 3) := by decide +kernel
theorem d_X_glass_22 : decode prog_1_method_3_code 22 = .ok (.ireturn, 1) := by decide +kernel
theorem gc_X_glass_61 : GoodIn yGW (wsV "WhoseGlass" 61 yR2 m_H_glassAt ws_H_glassAt) := y_gV g_381 g_260 g_261 g_2 g_262
theorem gc_X_glass_65 : GoodIn yGW (wsV "WhoseGlass" 65 yR0 m_G_told ws_G_told) := y_gV g_382 g_383 g_384 g_3 g_385
set_option maxRecDepth 100000 in
def f_X_glass (F : Nat) (u : Mm) (o : Nat) (a1 : Int32) (a2 : Int32) : Option (Int32 × Mm) := ob (jgr YX 4 0 (some o)) fun (r1 : Option Nat) => ob (jk YX 2 r1) fun t => yb (f_H_glassAt F u t a1) fun r2 u3 => (if r2 = none then some ((-1 : Int32), u3) else ob (jk YX 0 r2) fun t => yb (f_G_told F u3 t a2) fun x5 u6 => some (x5, u6))
set_option maxHeartbeats 4000000 in
set_option maxRecDepth 100000 in
theorem c_X_glass (l : Launch) (w : WP) (F : Nat) (u : Mm) (o : Nat) (a1 : Int32) (a2 : Int32) (out : Int32 × Mm) (h : f_X_glass F u o a1 a2 = some out) : yMet l m_X_glass ws_X_glass ({ frames := 2, cells := 0, slots := 0, locals := 41 } : Room) YX w u [va_re w.1 (some o), .int a1, .int a2] yfi out := by
  refine y_entry (own := "WhoseGlass") (lv := [(0, va_re w.1 (some o)), (1, .int a1), (2, .int a2)]) (by decide +kernel) rfl (by simp [lv_args, y_cat, y_catI, y_catJ]) (by simp [lg_sl, y_cat, y_catI, y_catJ]) ?_
  intro p e s m args below meth c C hr hlocks
  unfold f_X_glass at h
  refine y_aload_n C (i := 0) 0 d_X_glass_0 rfl rfl ?_
  refine y_gr C (q := (yR4, yT4, 5)) (ci := 4) (k := 0) rfl (by decide) rfl (by decide) g_202 d_X_glass_1 h (fun r1 h => ?_)
  refine y_iload_n C (i := 1) 1 d_X_glass_4 rfl rfl ?_
  refine y_callV 1 C (q := (yR2, yT2, 9)) (ci := 2) (fun t out hh => c_H_glassAt l w F u t a1 out hh) gc_X_glass_61 rfl (by decide) hd_H_glassAt ⟨Nat.le_of_ble_eq_true rfl, Nat.le_of_ble_eq_true rfl⟩ rfl rfl rfl rfl (by simp [y_cat, y_catI, y_catJ]) d_X_glass_5 h (fun r2 u3 h => ?_)
  refine y_stk (stp0 := [va_re w.1 r2]) rfl ?_
  refine y_astore_n C (i := 3) (lvp := [(0, va_re w.1 (some o)), (1, .int a1), (2, .int a2)]) d_X_glass_8 rfl (by decide) (by simp [List.filter, y_cat, y_catI, y_catJ]) ?_
  refine y_aload_n C (i := 3) 0 d_X_glass_9 rfl rfl ?_
  refine y_ifnonnull C 17 d_X_glass_10 (by decide) h (fun k4 h => ?_) (fun k4 h => ?_)
  · refine y_iconst C (v := -1) d_X_glass_13 (by decide) ?_
    refine y_goto C (tgt := 22) d_X_glass_14 (by decide) ?_
    exact y_iret C hr hlocks d_X_glass_22 h
  · refine y_aload_n C (i := 3) 0 d_X_glass_17 rfl rfl ?_
    refine y_iload_n C (i := 2) 3 d_X_glass_18 rfl rfl ?_
    refine y_callV 1 C (q := (yR0, yT0, 8)) (ci := 0) (fun t out hh => c_G_told l w F u3 t a2 out hh) gc_X_glass_65 rfl (by decide) hd_G_told ⟨Nat.le_of_ble_eq_true rfl, Nat.le_of_ble_eq_true rfl⟩ rfl rfl rfl rfl (by simp [y_cat, y_catI, y_catJ]) d_X_glass_19 h (fun x5 u6 h => ?_)
    refine y_stk (stp0 := [.int x5]) rfl ?_
    exact y_iret C hr hlocks d_X_glass_22 h
