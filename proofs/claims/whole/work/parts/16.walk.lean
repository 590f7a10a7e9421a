/-! M_layOne -/
theorem d_M_layOne_0 : decode prog_8_method_14_code 0 = .ok (.aload_n 0, 1) := by decide +kernel
theorem d_M_layOne_1 : decode prog_8_method_14_code 1 = .ok (.getfield 50, 3) := by decide +kernel
theorem d_M_layOne_4 : decode prog_8_method_14_code 4 = .ok (.iload_n 1, 1) := by decide +kernel
theorem d_M_layOne_5 : decode prog_8_method_14_code 5 = .ok (.iaload, 1) := by decide +kernel
theorem d_M_layOne_6 : decode prog_8_method_14_code 6 = .ok (.istore_n 2, 1) := by decide +kernel
theorem d_M_layOne_7 : decode prog_8_method_14_code 7 = .ok (.aload_n 0, 1) := by decide +kernel
theorem d_M_layOne_8 : decode prog_8_method_14_code 8 = .ok (.getfield 23, 3) := by decide +kernel
theorem d_M_layOne_11 : decode prog_8_method_14_code 11 = .ok (.iload_n 2, 1) := by decide +kernel
theorem d_M_layOne_12 : decode prog_8_method_14_code 12 = .ok (.aload_n 0, 1) := by decide +kernel
theorem d_M_layOne_13 : decode prog_8_method_14_code 13 = .ok (.getfield 47, 3) := by decide +kernel
theorem d_M_layOne_16 : decode prog_8_method_14_code 16 = .ok (.iload_n 1, 1) := by decide +kernel
theorem d_M_layOne_17 : decode prog_8_method_14_code 17 = .ok (.iaload, 1) := by decide +kernel
theorem d_M_layOne_18 : decode prog_8_method_14_code 18 = .ok (.iastore, 1) := by decide +kernel
theorem d_M_layOne_19 : decode prog_8_method_14_code 19 = .ok (.aload_n 0, 1) := by decide +kernel
theorem d_M_layOne_20 : decode prog_8_method_14_code 20 = .ok (.getfield 26, 3) := by decide +kernel
theorem d_M_layOne_23 : decode prog_8_method_14_code 23 = .ok (.iload_n 2, 1) := by decide +kernel
theorem d_M_layOne_24 : decode prog_8_method_14_code 24 = .ok (.aload_n 0, 1) := by decide +kernel
theorem d_M_layOne_25 : decode prog_8_method_14_code 25 = .ok (.getfield 133, 3) := by decide +kernel
theorem d_M_layOne_28 : decode prog_8_method_14_code 28 = .ok (.iastore, 1) := by decide +kernel
theorem d_M_layOne_29 : decode prog_8_method_14_code 29 = .ok (.aload_n 0, 1) := by decide +kernel
theorem d_M_layOne_30 : decode prog_8_method_14_code 30 = .ok (.getfield 50, 3) := by decide +kernel
theorem d_M_layOne_33 : decode prog_8_method_14_code 33 = .ok (.iload_n 1, 1) := by decide +kernel
theorem d_M_layOne_34 : decode prog_8_method_14_code 34 = .ok (.bipush (-4), 2) := by decide +kernel
theorem d_M_layOne_36 : decode prog_8_method_14_code 36 = .ok (.iastore, 1) := by decide +kernel
theorem d_M_layOne_37 : decode prog_8_method_14_code 37 = .ok (.iload_n 2, 1) := by decide +kernel
theorem d_M_layOne_38 : decode prog_8_method_14_code 38 = .ok (.ireturn, 1) := by decide +kernel
set_option maxRecDepth 100000 in
def f_M_layOne (F : Nat) (u : Mm) (o : Nat) (a1 : Int32) : Option (Int32 × Mm) := ob (jgr YM 5 16 (some o)) fun (r1 : Option Nat) => ob (jal YM u r1 a1) fun (x2 : Int32) => ob (jgr YM 5 7 (some o)) fun (r3 : Option Nat) => ob (jgr YM 5 15 (some o)) fun (r4 : Option Nat) => ob (jal YM u r4 a1) fun (x5 : Int32) => ob (jas YM u r3 x2 x5) fun (u6 : Mm) => ob (jgr YM 5 8 (some o)) fun (r7 : Option Nat) => ob (jgi YM 5 3 u6 (some o)) fun (x8 : Int32) => ob (jas YM u6 r7 x2 x8) fun (u9 : Mm) => ob (jgr YM 5 16 (some o)) fun (r10 : Option Nat) => ob (jas YM u9 r10 a1 (-4 : Int32)) fun (u11 : Mm) => some (x2, u11)
set_option maxHeartbeats 4000000 in
set_option maxRecDepth 100000 in
theorem c_M_layOne (l : Launch) (w : WP) (F : Nat) (u : Mm) (o : Nat) (a1 : Int32) (out : Int32 × Mm) (h : f_M_layOne F u o a1 = some out) : yMet l m_M_layOne ws_M_layOne ({ frames := 0, cells := 0, slots := 0, locals := 0 } : Room) YM w u [va_re w.1 (some o), .int a1] yfi out := by
  refine y_entry (own := "WhoseGlassModel") (lv := [(0, va_re w.1 (some o)), (1, .int a1)]) (by decide +kernel) rfl (by simp [lv_args, y_cat, y_catI, y_catJ]) (by simp [lg_sl, y_cat, y_catI, y_catJ]) ?_
  intro p e s m args below meth c C hr hlocks
  unfold f_M_layOne at h
  refine y_aload_n C (i := 0) 0 d_M_layOne_0 rfl rfl ?_
  refine y_gr C (q := (yR5, yT5, 46)) (ci := 5) (k := 16) rfl (by decide) rfl (by decide) g_800 d_M_layOne_1 h (fun r1 h => ?_)
  refine y_iload_n C (i := 1) 1 d_M_layOne_4 rfl rfl ?_
  refine y_al C d_M_layOne_5 h (fun x2 h => ?_)
  refine y_istore_n C (i := 2) (lvp := [(0, va_re w.1 (some o)), (1, .int a1)]) d_M_layOne_6 rfl (by decide) rfl ?_
  refine y_aload_n C (i := 0) 1 d_M_layOne_7 rfl rfl ?_
  refine y_gr C (q := (yR5, yT5, 46)) (ci := 5) (k := 7) rfl (by decide) rfl (by decide) g_791 d_M_layOne_8 h (fun r3 h => ?_)
  refine y_iload_n C (i := 2) 0 d_M_layOne_11 rfl rfl ?_
  refine y_aload_n C (i := 0) 1 d_M_layOne_12 rfl rfl ?_
  refine y_gr C (q := (yR5, yT5, 46)) (ci := 5) (k := 15) rfl (by decide) rfl (by decide) g_799 d_M_layOne_13 h (fun r4 h => ?_)
  refine y_iload_n C (i := 1) 2 d_M_layOne_16 rfl rfl ?_
  refine y_al C d_M_layOne_17 h (fun x5 h => ?_)
  refine y_as C d_M_layOne_18 h (fun u6 h => ?_)
  refine y_aload_n C (i := 0) 1 d_M_layOne_19 rfl rfl ?_
  refine y_gr C (q := (yR5, yT5, 46)) (ci := 5) (k := 8) rfl (by decide) rfl (by decide) g_792 d_M_layOne_20 h (fun r7 h => ?_)
  refine y_iload_n C (i := 2) 0 d_M_layOne_23 rfl rfl ?_
  refine y_aload_n C (i := 0) 1 d_M_layOne_24 rfl rfl ?_
  refine y_gi C (q := (yR5, yT5, 46)) (ci := 5) (k := 3) rfl (by decide) rfl g_787 d_M_layOne_25 h (fun x8 h => ?_)
  refine y_as C d_M_layOne_28 h (fun u9 h => ?_)
  refine y_aload_n C (i := 0) 1 d_M_layOne_29 rfl rfl ?_
  refine y_gr C (q := (yR5, yT5, 46)) (ci := 5) (k := 16) rfl (by decide) rfl (by decide) g_800 d_M_layOne_30 h (fun r10 h => ?_)
  refine y_iload_n C (i := 1) 2 d_M_layOne_33 rfl rfl ?_
  refine y_bipush C (v := -4) d_M_layOne_34 (by decide) ?_
  refine y_as C d_M_layOne_36 h (fun u11 h => ?_)
  refine y_iload_n C (i := 2) 0 d_M_layOne_37 rfl rfl ?_
  exact y_iret C hr hlocks d_M_layOne_38 h
/-! M_guestOn -/
theorem d_M_guestOn_0 : decode prog_8_method_21_code 0 = .ok (.aload_n 0, 1) := by decide +kernel
theorem d_M_guestOn_1 : decode prog_8_method_21_code 1 = .ok (.getfield 41, 3) := by decide +kernel
theorem d_M_guestOn_4 : decode prog_8_method_21_code 4 = .ok (.iload_n 1, 1) := by decide +kernel
theorem d_M_guestOn_5 : decode prog_8_method_21_code 5 = .ok (.iaload, 1) := by decide +kernel
theorem d_M_guestOn_6 : decode prog_8_method_21_code 6 = .ok (.ifCond .le 29, 3) := by decide +kernel
theorem d_M_guestOn_9 : decode prog_8_method_21_code 9 = .ok (.aload_n 0, 1) := by decide +kernel
theorem d_M_guestOn_10 : decode prog_8_method_21_code 10 = .ok (.getfield 133, 3) := by decide +kernel
theorem d_M_guestOn_13 : decode prog_8_method_21_code 13 = .ok (.ifCond .le 22, 3) := by decide +kernel
theorem d_M_guestOn_16 : decode prog_8_method_21_code 16 = .ok (.aload_n 0, 1) := by decide +kernel
theorem d_M_guestOn_17 : decode prog_8_method_21_code 17 = .ok (.getfield 133, 3) := by decide +kernel
theorem d_M_guestOn_20 : decode prog_8_method_21_code 20 = .ok (.aload_n 0, 1) := by decide +kernel
theorem d_M_guestOn_21 : decode prog_8_method_21_code 21 = .ok (.getfield 41, 3) := by decide +kernel
theorem d_M_guestOn_24 : decode prog_8_method_21_code 24 = .ok (.iload_n 1, 1) := by decide +kernel
theorem d_M_guestOn_25 : decode prog_8_method_21_code 25 = .ok (.iaload, 1) := by decide +kernel
theorem d_M_guestOn_26 : decode prog_8_method_21_code 26 = .ok (.irem, 1) := by decide +kernel
theorem d_M_guestOn_27 : decode prog_8_method_21_code 27 = .ok (.ifCond .ne 8, 3) := by decide +kernel
theorem d_M_guestOn_30 : decode prog_8_method_21_code 30 = .ok (.aload_n 0, 1) := by decide +kernel
theorem d_M_guestOn_31 : decode prog_8_method_21_code 31 = .ok (.iload_n 1, 1) := by decide +kernel
theorem d_M_guestOn_32 : decode prog_8_method_21_code 32 = .ok (.invokevirtual 160, 3) := by decide +kernel
theorem d_M_guestOn_35 : decode prog_8_method_21_code 35 = .ok (.aload_n 0, 1) := by decide +kernel
theorem d_M_guestOn_36 : decode prog_8_method_21_code 36 = .ok (.getfield 50, 3) := by decide +kernel
theorem d_M_guestOn_39 : decode prog_8_method_21_code 39 = .ok (.iload_n 1, 1) := by decide +kernel
theorem d_M_guestOn_40 : decode prog_8_method_21_code 40 = .ok (.iaload, 1) := by decide +kernel
theorem d_M_guestOn_41 : decode prog_8_method_21_code 41 = .ok (.ifCond .ge 10, 3) := by decide +kernel
theorem d_M_guestOn_44 : decode prog_8_method_21_code 44 = .ok (.aload_n 0, 1) := by decide +kernel
theorem d_M_guestOn_45 : decode prog_8_method_21_code 45 = .ok (.iload_n 1, 1) := by decide +kernel
theorem d_M_guestOn_46 : decode prog_8_method_21_code 46 = .ok (.invokevirtual 164, 3) := by decide +kernel
theorem d_M_guestOn_49 : decode prog_8_method_21_code 49 = .ok (.pop, 1) := by decide +kernel
theorem d_M_guestOn_50 : decode prog_8_method_21_code 50 = .ok (.return_, 1) := by decide +kernel
theorem d_M_guestOn_51 : decode prog_8_method_21_code 51 = .ok (.aload_n 0, 1) := by decide +kernel
theorem d_M_guestOn_52 : decode prog_8_method_21_code 52 = .ok (.getfield 133, 3) := by decide +kernel
theorem d_M_guestOn_55 : decode prog_8_method_21_code 55 = .ok (.aload_n 0, 1) := by decide +kernel
theorem d_M_guestOn_56 : decode prog_8_method_21_code 56 = .ok (.getfield 35, 3) := by decide +kernel
theorem d_M_guestOn_59 : decode prog_8_method_21_code 59 = .ok (.iload_n 1, 1) := by decide +kernel
theorem d_M_guestOn_60 : decode prog_8_method_21_code 60 = .ok (.iaload, 1) := by decide +kernel
theorem d_M_guestOn_61 : decode prog_8_method_21_code 61 = .ok (.irem, 1) := by decide +kernel
theorem d_M_guestOn_62 : decode prog_8_method_21_code 62 = .ok (.ifCond .ne 23, 3) := by decide +kernel
theorem d_M_guestOn_65 : decode prog_8_method_21_code 65 = .ok (.aload_n 0, 1) := by decide +kernel
theorem d_M_guestOn_66 : decode prog_8_method_21_code 66 = .ok (.getfield 20, 3) := by decide +kernel
theorem d_M_guestOn_69 : decode prog_8_method_21_code 69 = .ok (.aload_n 0, 1) := by decide +kernel
theorem d_M_guestOn_70 : decode prog_8_method_21_code 70 = .ok (.getfield 50, 3) := by decide +kernel
theorem d_M_guestOn_73 : decode prog_8_method_21_code 73 = .ok (.iload_n 1, 1) := by decide +kernel
theorem d_M_guestOn_74 : decode prog_8_method_21_code 74 = .ok (.iaload, 1) := by decide +kernel
theorem d_M_guestOn_75 : decode prog_8_method_21_code 75 = .ok (.iaload, 1) := by decide +kernel
theorem d_M_guestOn_76 : decode prog_8_method_21_code 76 = .ok (.ifCond .le 9, 3) := by decide +kernel
theorem d_M_guestOn_79 : decode prog_8_method_21_code 79 = .ok (.aload_n 0, 1) := by decide +kernel
theorem d_M_guestOn_80 : decode prog_8_method_21_code 80 = .ok (.iload_n 1, 1) := by decide +kernel
theorem d_M_guestOn_81 : decode prog_8_method_21_code 81 = .ok (.invokevirtual 167, 3) := by decide +kernel
theorem d_M_guestOn_84 : decode prog_8_method_21_code 84 = .ok (.pop, 1) := by decide +kernel
theorem d_M_guestOn_85 : decode prog_8_method_21_code 85 = .ok (.aload_n 0, 1) := by decide +kernel
theorem d_M_guestOn_86 : decode prog_8_method_21_code 86 = .ok (.getfield 133, 3) := by decide +kernel
theorem d_M_guestOn_89 : decode prog_8_method_21_code 89 = .ok (.ifCond .le 23, 3) := by decide +kernel
theorem d_M_guestOn_92 : decode prog_8_method_21_code 92 = .ok (.aload_n 0, 1) := by decide +kernel
theorem d_M_guestOn_93 : decode prog_8_method_21_code 93 = .ok (.getfield 133, 3) := by decide +kernel
theorem d_M_guestOn_96 : decode prog_8_method_21_code 96 = .ok (.aload_n 0, 1) := by decide +kernel
theorem d_M_guestOn_97 : decode prog_8_method_21_code 97 = .ok (.getfield 38, 3) := by decide +kernel
theorem d_M_guestOn_100 : decode prog_8_method_21_code 100 = .ok (.iload_n 1, 1) := by decide +kernel
theorem d_M_guestOn_101 : decode prog_8_method_21_code 101 = .ok (.iaload, 1) := by decide +kernel
theorem d_M_guestOn_102 : decode prog_8_method_21_code 102 = .ok (.irem, 1) := by decide +kernel
theorem d_M_guestOn_103 : decode prog_8_method_21_code 103 = .ok (.ifCond .ne 9, 3) := by decide +kernel
theorem d_M_guestOn_106 : decode prog_8_method_21_code 106 = .ok (.aload_n 0, 1) := by decide +kernel
theorem d_M_guestOn_107 : decode prog_8_method_21_code 107 = .ok (.iload_n 1, 1) := by decide +kernel
theorem d_M_guestOn_108 : decode prog_8_method_21_code 108 = .ok (.invokevirtual 170, 3) := by decide +kernel
theorem d_M_guestOn_111 : decode prog_8_method_21_code 111 = .ok (.pop, 1) := by decide +kernel
theorem d_M_guestOn_112 : decode prog_8_method_21_code 112 = .ok (.return_, 1) := by decide +kernel
theorem gc_M_guestOn_160 : GoodIn yGW (wsV "WhoseGlassModel" 160 yR5 m_M_goOn ws_M_goOn) := y_gV g_1022 g_1024 gs_30 g_6 g_1025
theorem gc_M_guestOn_167 : GoodIn yGW (wsV "WhoseGlassModel" 167 yR5 m_M_sipOne ws_M_sipOne) := y_gV g_1054 g_1056 gs_38 g_6 g_1057
theorem gc_M_guestOn_170 : GoodIn yGW (wsV "WhoseGlassModel" 170 yR5 m_M_layOne ws_M_layOne) := y_gV g_1062 g_1064 gs_40 g_6 g_1065
theorem gc_M_guestOn_164 : GoodIn yGW (wsV "WhoseGlassModel" 164 yR5 m_M_takeOne ws_M_takeOne) := y_gV g_1026 g_1028 gs_31 g_6 g_1029
set_option maxRecDepth 100000 in
def f_M_guestOn (F : Nat) (u : Mm) (o : Nat) (a1 : Int32) : Option (Unit × Mm) := ob (jgr YM 5 13 (some o)) fun (r1 : Option Nat) => ob (jal YM u r1 a1) fun (x2 : Int32) => ob ((if x2 ≤ 0 then some u else ob (jgi YM 5 3 u (some o)) fun (x5 : Int32) => (if x5 ≤ 0 then some u else ob (jgi YM 5 3 u (some o)) fun (x7 : Int32) => ob (jgr YM 5 13 (some o)) fun (r8 : Option Nat) => ob (jal YM u r8 a1) fun (x9 : Int32) => ob (jrm x7 x9) fun (x10 : Int32) => (if x10 = 0 then ob (jk YM 5 (some o)) fun t => yb (f_M_goOn F u t a1) fun v12 u13 => some u13 else some u))) : Option (Mm)) fun q3 => ob (jgr YM 5 16 (some o)) fun (r14 : Option Nat) => ob (jal YM q3 r14 a1) fun (x15 : Int32) => (if 0 ≤ x15 then ob (jgi YM 5 3 q3 (some o)) fun (x17 : Int32) => ob (jgr YM 5 11 (some o)) fun (r18 : Option Nat) => ob (jal YM q3 r18 a1) fun (x19 : Int32) => ob (jrm x17 x19) fun (x20 : Int32) => ob ((if x20 = 0 then ob (jgr YM 5 6 (some o)) fun (r23 : Option Nat) => ob (jgr YM 5 16 (some o)) fun (r24 : Option Nat) => ob (jal YM q3 r24 a1) fun (x25 : Int32) => ob (jal YM q3 r23 x25) fun (x26 : Int32) => (if x26 ≤ 0 then some q3 else ob (jk YM 5 (some o)) fun t => yb (f_M_sipOne F q3 t a1) fun x28 u29 => some u29) else some q3) : Option (Mm)) fun q21 => ob (jgi YM 5 3 q21 (some o)) fun (x30 : Int32) => (if x30 ≤ 0 then some ((), q21) else ob (jgi YM 5 3 q21 (some o)) fun (x32 : Int32) => ob (jgr YM 5 12 (some o)) fun (r33 : Option Nat) => ob (jal YM q21 r33 a1) fun (x34 : Int32) => ob (jrm x32 x34) fun (x35 : Int32) => (if x35 = 0 then ob (jk YM 5 (some o)) fun t => yb (f_M_layOne F q21 t a1) fun x37 u38 => some ((), u38) else some ((), q21))) else ob (jk YM 5 (some o)) fun t => yb (f_M_takeOne F q3 t a1) fun x39 u40 => some ((), u40))
set_option maxHeartbeats 4000000 in
set_option maxRecDepth 100000 in
theorem c_M_guestOn (l : Launch) (w : WP) (F : Nat) (u : Mm) (o : Nat) (a1 : Int32) (out : Unit × Mm) (h : f_M_guestOn F u o a1 = some out) : yMet l m_M_guestOn ws_M_guestOn ({ frames := 5, cells := 0, slots := 0, locals := 117 } : Room) YM w u [va_re w.1 (some o), .int a1] yfv out := by
  refine y_entry (own := "WhoseGlassModel") (lv := [(0, va_re w.1 (some o)), (1, .int a1)]) (by decide +kernel) rfl (by simp [lv_args, y_cat, y_catI, y_catJ]) (by simp [lg_sl, y_cat, y_catI, y_catJ]) ?_
  intro p e s m args below meth c C hr hlocks
  unfold f_M_guestOn at h
  refine y_aload_n C (i := 0) 0 d_M_guestOn_0 rfl rfl ?_
  refine y_gr C (q := (yR5, yT5, 46)) (ci := 5) (k := 13) rfl (by decide) rfl (by decide) g_797 d_M_guestOn_1 h (fun r1 h => ?_)
  refine y_iload_n C (i := 1) 1 d_M_guestOn_4 rfl rfl ?_
  refine y_al C d_M_guestOn_5 h (fun x2 h => ?_)
  obtain ⟨q3, hq3, h⟩ := ob_e h
  have hJq3 : yG p l e ({ frames := 5, cells := 0, slots := 0, locals := 117 } : Room) s m args below meth c YM w 2 (MQ below (yQ YM w yfv out) args s 0 0 (yA YM w)) q3 35 [(0, va_re w.1 (some o)), (1, .int a1)] [] := by
    refine y_aload_n C (i := 0) 0 d_M_guestOn_35 rfl rfl ?_
    refine y_gr C (q := (yR5, yT5, 46)) (ci := 5) (k := 16) rfl (by decide) rfl (by decide) g_800 d_M_guestOn_36 h (fun r14 h => ?_)
    refine y_iload_n C (i := 1) 1 d_M_guestOn_39 rfl rfl ?_
    refine y_al C d_M_guestOn_40 h (fun x15 h => ?_)
    refine y_if_ge C 51 d_M_guestOn_41 (by decide) h (fun k16 h => ?_) (fun k16 h => ?_)
    · refine y_aload_n C (i := 0) 0 d_M_guestOn_51 rfl rfl ?_
      refine y_gi C (q := (yR5, yT5, 46)) (ci := 5) (k := 3) rfl (by decide) rfl g_787 d_M_guestOn_52 h (fun x17 h => ?_)
      refine y_aload_n C (i := 0) 0 d_M_guestOn_55 rfl rfl ?_
      refine y_gr C (q := (yR5, yT5, 46)) (ci := 5) (k := 11) rfl (by decide) rfl (by decide) g_795 d_M_guestOn_56 h (fun r18 h => ?_)
      refine y_iload_n C (i := 1) 1 d_M_guestOn_59 rfl rfl ?_
      refine y_al C d_M_guestOn_60 h (fun x19 h => ?_)
      refine y_irem C d_M_guestOn_61 h (fun x20 h => ?_)
      obtain ⟨q21, hq21, h⟩ := ob_e h
      have hJq21 : yG p l e ({ frames := 5, cells := 0, slots := 0, locals := 117 } : Room) s m args below meth c YM w 2 (MQ below (yQ YM w yfv out) args s 0 0 (yA YM w)) q21 85 [(0, va_re w.1 (some o)), (1, .int a1)] [] := by
        refine y_aload_n C (i := 0) 0 d_M_guestOn_85 rfl rfl ?_
        refine y_gi C (q := (yR5, yT5, 46)) (ci := 5) (k := 3) rfl (by decide) rfl g_787 d_M_guestOn_86 h (fun x30 h => ?_)
        refine y_if_le C 112 d_M_guestOn_89 (by decide) h (fun k31 h => ?_) (fun k31 h => ?_)
        · exact y_vret C hr hlocks d_M_guestOn_112 h
        · refine y_aload_n C (i := 0) 0 d_M_guestOn_92 rfl rfl ?_
          refine y_gi C (q := (yR5, yT5, 46)) (ci := 5) (k := 3) rfl (by decide) rfl g_787 d_M_guestOn_93 h (fun x32 h => ?_)
          refine y_aload_n C (i := 0) 0 d_M_guestOn_96 rfl rfl ?_
          refine y_gr C (q := (yR5, yT5, 46)) (ci := 5) (k := 12) rfl (by decide) rfl (by decide) g_796 d_M_guestOn_97 h (fun r33 h => ?_)
          refine y_iload_n C (i := 1) 1 d_M_guestOn_100 rfl rfl ?_
          refine y_al C d_M_guestOn_101 h (fun x34 h => ?_)
          refine y_irem C d_M_guestOn_102 h (fun x35 h => ?_)
          refine y_if_ne C 112 d_M_guestOn_103 (by decide) h (fun k36 h => ?_) (fun k36 h => ?_)
          · refine y_aload_n C (i := 0) 0 d_M_guestOn_106 rfl rfl ?_
            refine y_iload_n C (i := 1) 1 d_M_guestOn_107 rfl rfl ?_
            refine y_callV 1 C (q := (yR5, yT5, 46)) (ci := 5) (fun t out hh => c_M_layOne l w F q21 t a1 out hh) gc_M_guestOn_170 rfl (by decide) hd_M_layOne ⟨Nat.le_of_ble_eq_true rfl, Nat.le_of_ble_eq_true rfl⟩ rfl rfl rfl rfl (by simp [y_cat, y_catI, y_catJ]) d_M_guestOn_108 h (fun x37 u38 h => ?_)
            refine y_stk (stp0 := [.int x37]) rfl ?_
            refine y_pop C d_M_guestOn_111 rfl ?_
            exact y_vret C hr hlocks d_M_guestOn_112 h
          · exact y_vret C hr hlocks d_M_guestOn_112 h
      refine y_if_ne C 85 d_M_guestOn_62 (by decide) hq21 (fun k22 hq21 => ?_) (fun k22 hq21 => ?_)
      · refine y_aload_n C (i := 0) 0 d_M_guestOn_65 rfl rfl ?_
        refine y_gr C (q := (yR5, yT5, 46)) (ci := 5) (k := 6) rfl (by decide) rfl (by decide) g_790 d_M_guestOn_66 hq21 (fun r23 hq21 => ?_)
        refine y_aload_n C (i := 0) 0 d_M_guestOn_69 rfl rfl ?_
        refine y_gr C (q := (yR5, yT5, 46)) (ci := 5) (k := 16) rfl (by decide) rfl (by decide) g_800 d_M_guestOn_70 hq21 (fun r24 hq21 => ?_)
        refine y_iload_n C (i := 1) 1 d_M_guestOn_73 rfl rfl ?_
        refine y_al C d_M_guestOn_74 hq21 (fun x25 hq21 => ?_)
        refine y_al C d_M_guestOn_75 hq21 (fun x26 hq21 => ?_)
        refine y_if_le C 85 d_M_guestOn_76 (by decide) hq21 (fun k27 hq21 => ?_) (fun k27 hq21 => ?_)
        · cases hq21
          exact y_sub [0, 1] rfl hJq21
        · refine y_aload_n C (i := 0) 0 d_M_guestOn_79 rfl rfl ?_
          refine y_iload_n C (i := 1) 1 d_M_guestOn_80 rfl rfl ?_
          refine y_callV 1 C (q := (yR5, yT5, 46)) (ci := 5) (fun t out hh => c_M_sipOne l w F q3 t a1 out hh) gc_M_guestOn_167 rfl (by decide) hd_M_sipOne ⟨Nat.le_of_ble_eq_true rfl, Nat.le_of_ble_eq_true rfl⟩ rfl rfl rfl rfl (by simp [y_cat, y_catI, y_catJ]) d_M_guestOn_81 hq21 (fun x28 u29 hq21 => ?_)
          refine y_stk (stp0 := [.int x28]) rfl ?_
          refine y_pop C d_M_guestOn_84 rfl ?_
          cases hq21
          exact y_sub [0, 1] rfl hJq21
      · cases hq21
        exact y_sub [0, 1] rfl hJq21
    · refine y_aload_n C (i := 0) 0 d_M_guestOn_44 rfl rfl ?_
      refine y_iload_n C (i := 1) 1 d_M_guestOn_45 rfl rfl ?_
      refine y_callV 1 C (q := (yR5, yT5, 46)) (ci := 5) (fun t out hh => c_M_takeOne l w F q3 t a1 out hh) gc_M_guestOn_164 rfl (by decide) hd_M_takeOne ⟨Nat.le_of_ble_eq_true rfl, Nat.le_of_ble_eq_true rfl⟩ rfl rfl rfl rfl (by simp [y_cat, y_catI, y_catJ]) d_M_guestOn_46 h (fun x39 u40 h => ?_)
      refine y_stk (stp0 := [.int x39]) rfl ?_
      refine y_pop C d_M_guestOn_49 rfl ?_
      exact y_vret C hr hlocks d_M_guestOn_50 h
  refine y_if_le C 35 d_M_guestOn_6 (by decide) hq3 (fun k4 hq3 => ?_) (fun k4 hq3 => ?_)
  · cases hq3
    exact y_sub [0, 1] rfl hJq3
  · refine y_aload_n C (i := 0) 0 d_M_guestOn_9 rfl rfl ?_
    refine y_gi C (q := (yR5, yT5, 46)) (ci := 5) (k := 3) rfl (by decide) rfl g_787 d_M_guestOn_10 hq3 (fun x5 hq3 => ?_)
    refine y_if_le C 35 d_M_guestOn_13 (by decide) hq3 (fun k6 hq3 => ?_) (fun k6 hq3 => ?_)
    · cases hq3
      exact y_sub [0, 1] rfl hJq3
    · refine y_aload_n C (i := 0) 0 d_M_guestOn_16 rfl rfl ?_
      refine y_gi C (q := (yR5, yT5, 46)) (ci := 5) (k := 3) rfl (by decide) rfl g_787 d_M_guestOn_17 hq3 (fun x7 hq3 => ?_)
      refine y_aload_n C (i := 0) 0 d_M_guestOn_20 rfl rfl ?_
      refine y_gr C (q := (yR5, yT5, 46)) (ci := 5) (k := 13) rfl (by decide) rfl (by decide) g_797 d_M_guestOn_21 hq3 (fun r8 hq3 => ?_)
      refine y_iload_n C (i := 1) 1 d_M_guestOn_24 rfl rfl ?_
      refine y_al C d_M_guestOn_25 hq3 (fun x9 hq3 => ?_)
      refine y_irem C d_M_guestOn_26 hq3 (fun x10 hq3 => ?_)
      refine y_if_ne C 35 d_M_guestOn_27 (by decide) hq3 (fun k11 hq3 => ?_) (fun k11 hq3 => ?_)
      · refine y_aload_n C (i := 0) 0 d_M_guestOn_30 rfl rfl ?_
        refine y_iload_n C (i := 1) 1 d_M_guestOn_31 rfl rfl ?_
        refine y_callV 1 C (q := (yR5, yT5, 46)) (ci := 5) (fun t out hh => c_M_goOn l w F u t a1 out hh) gc_M_guestOn_160 rfl (by decide) hd_M_goOn ⟨Nat.le_of_ble_eq_true rfl, Nat.le_of_ble_eq_true rfl⟩ rfl rfl rfl rfl (by simp [y_cat, y_catI, y_catJ]) d_M_guestOn_32 hq3 (fun v12 u13 hq3 => ?_)
        refine y_stk (stp0 := []) rfl ?_
        cases hq3
        exact y_sub [0, 1] rfl hJq3
      · cases hq3
        exact y_sub [0, 1] rfl hJq3
/-! M_minuteOn -/
theorem d_M_minuteOn_0 : decode prog_8_method_22_code 0 = .ok (.iconst 0, 1) := by decide +kernel
theorem d_M_minuteOn_1 : decode prog_8_method_22_code 1 = .ok (.istore_n 1, 1) := by decide +kernel
theorem d_M_minuteOn_2 : decode prog_8_method_22_code 2 = .ok (.iload_n 1, 1) := by decide +kernel
theorem d_M_minuteOn_3 : decode prog_8_method_22_code 3 = .ok (.aload_n 0, 1) := by decide +kernel
theorem d_M_minuteOn_4 : decode prog_8_method_22_code 4 = .ok (.getfield 112, 3) := by decide +kernel
theorem d_M_minuteOn_7 : decode prog_8_method_22_code 7 = .ok (.if_icmp .ge 14, 3) := by decide +kernel
theorem d_M_minuteOn_10 : decode prog_8_method_22_code 10 = .ok (.aload_n 0, 1) := by decide +kernel
theorem d_M_minuteOn_11 : decode prog_8_method_22_code 11 = .ok (.iload_n 1, 1) := by decide +kernel
theorem d_M_minuteOn_12 : decode prog_8_method_22_code 12 = .ok (.invokevirtual 173, 3) := by decide +kernel
theorem d_M_minuteOn_15 : decode prog_8_method_22_code 15 = .ok (.iinc 1 1, 3) := by decide +kernel
theorem d_M_minuteOn_18 : decode prog_8_method_22_code 18 = .ok (.goto (-16), 3) := by decide +kernel
theorem d_M_minuteOn_21 : decode prog_8_method_22_code 21 = .ok (.aload_n 0, 1) := by decide +kernel
theorem d_M_minuteOn_22 : decode prog_8_method_22_code 22 = .ok (.dup, 1) := by decide +kernel
theorem d_M_minuteOn_23 : decode prog_8_method_22_code 23 = .ok (.getfield 133, 3) := by decide +kernel
theorem d_M_minuteOn_26 : decode prog_8_method_22_code 26 = .ok (.iconst 1, 1) := by decide +kernel
theorem d_M_minuteOn_27 : decode prog_8_method_22_code 27 = .ok (.iadd, 1) := by decide +kernel
theorem d_M_minuteOn_28 : decode prog_8_method_22_code 28 = .ok (.putfield 133, 3) := by decide +kernel
theorem d_M_minuteOn_31 : decode prog_8_method_22_code 31 = .ok (.return_, 1) := by decide +kernel
theorem gc_M_minuteOn_173 : GoodIn yGW (wsV "WhoseGlassModel" 173 yR5 m_M_guestOn ws_M_guestOn) := y_gV g_1018 g_1020 gs_29 g_6 g_1021
set_option maxHeartbeats 4000000 in
set_option maxRecDepth 100000 in
def f_M_minuteOn_L2 (F : Nat) (a0 : Option Nat) (k : Mm → Option (Unit × Mm)) : Nat → Mm → Int32 → Option (Unit × Mm)
  | 0, _, _ => none
  | n + 1, u, a1 => ob (jgi YM 5 1 u a0) fun (x1 : Int32) => (if x1 ≤ a1 then k u  else ob (jk YM 5 a0) fun t => yb (f_M_guestOn F u t a1) fun v3 u4 => ob (some (a1 + (1 : Int32))) fun (x5 : Int32) => f_M_minuteOn_L2 F a0 k n u4 x5)
set_option maxHeartbeats 4000000 in
set_option maxRecDepth 100000 in
theorem w_M_minuteOn_L2 {p : Program} {l : Launch} {e : Env} {s : State} {m : MethodId} {args : Array Value} {below : List Frame} {meth : Method} {c : Code} {w : WP} {Q : State → Prop} (F : Nat) (C : yX p e ({ frames := 6, cells := 0, slots := 0, locals := 138 } : Room) s m args c YM w 2 prog_8_method_22_code "WhoseGlassModel") (hr : meth.sig.returnType = none) (hlocks : meth.locks = false) (a0 : Option Nat) {out : Unit × Mm} (k : Mm → Option (Unit × Mm)) (hk : ∀ (u : Mm), k u  = some out → yG p l e ({ frames := 6, cells := 0, slots := 0, locals := 138 } : Room) s m args below meth c YM w 2 Q u 21 [(0, va_re w.1 a0)] []) : ∀ (n : Nat) (u : Mm) (a1 : Int32), f_M_minuteOn_L2 F a0 k n u a1 = some out → yG p l e ({ frames := 6, cells := 0, slots := 0, locals := 138 } : Room) s m args below meth c YM w 2 Q u 2 [(0, va_re w.1 a0), (1, .int a1)] [] := by
  intro n
  induction n with
  | zero => intro u a1 h; rw [f_M_minuteOn_L2] at h; cases h
  | succ n ih =>
    intro u a1 h
    rw [f_M_minuteOn_L2] at h
    refine y_iload_n C (i := 1) 1 d_M_minuteOn_2 rfl rfl ?_
    refine y_aload_n C (i := 0) 0 d_M_minuteOn_3 rfl rfl ?_
    refine y_gi C (q := (yR5, yT5, 46)) (ci := 5) (k := 1) rfl (by decide) rfl g_785 d_M_minuteOn_4 h (fun x1 h => ?_)
    refine y_ic_ge C 21 d_M_minuteOn_7 (by decide) h (fun k2 h => ?_) (fun k2 h => ?_)
    · exact y_sub [0] rfl (hk _ h)
    · refine y_aload_n C (i := 0) 0 d_M_minuteOn_10 rfl rfl ?_
      refine y_iload_n C (i := 1) 1 d_M_minuteOn_11 rfl rfl ?_
      refine y_callV 1 C (q := (yR5, yT5, 46)) (ci := 5) (fun t out hh => c_M_guestOn l w F u t a1 out hh) gc_M_minuteOn_173 rfl (by decide) hd_M_guestOn ⟨Nat.le_of_ble_eq_true rfl, Nat.le_of_ble_eq_true rfl⟩ rfl rfl rfl rfl (by simp [y_cat, y_catI, y_catJ]) d_M_minuteOn_12 h (fun v3 u4 h => ?_)
      refine y_stk (stp0 := []) rfl ?_
      refine y_iinc C (j := 1) (v := 1) (lvp := [(0, va_re w.1 a0)]) d_M_minuteOn_15 rfl (by decide) (by decide) (by simp [List.filter, y_cat, y_catI, y_catJ]) h (fun x5 h => ?_)
      refine y_goto C (tgt := 2) d_M_minuteOn_18 (by decide) ?_
      exact y_sub [1, 0] rfl (ih _ _ h)
set_option maxRecDepth 100000 in
def f_M_minuteOn (F : Nat) (u : Mm) (o : Nat) : Option (Unit × Mm) := f_M_minuteOn_L2 F (some o) (fun (u6 : Mm) => ob (jgi YM 5 3 u6 (some o)) fun (x7 : Int32) => ob (jpi YM 5 3 u6 (some o) (x7 + (1 : Int32))) fun (u8 : Mm) => some ((), u8)) F u (0 : Int32)
set_option maxHeartbeats 4000000 in
set_option maxRecDepth 100000 in
theorem c_M_minuteOn (l : Launch) (w : WP) (F : Nat) (u : Mm) (o : Nat) (out : Unit × Mm) (h : f_M_minuteOn F u o = some out) : yMet l m_M_minuteOn ws_M_minuteOn ({ frames := 6, cells := 0, slots := 0, locals := 138 } : Room) YM w u [va_re w.1 (some o)] yfv out := by
  refine y_entry (own := "WhoseGlassModel") (lv := [(0, va_re w.1 (some o))]) (by decide +kernel) rfl (by simp [lv_args, y_cat, y_catI, y_catJ]) (by simp [lg_sl, y_cat, y_catI, y_catJ]) ?_
  intro p e s m args below meth c C hr hlocks
  unfold f_M_minuteOn at h
  refine y_iconst C (v := 0) d_M_minuteOn_0 (by decide) ?_
  refine y_istore_n C (i := 1) (lvp := [(0, va_re w.1 (some o))]) d_M_minuteOn_1 rfl (by decide) (by simp [List.filter, y_cat, y_catI, y_catJ]) ?_
  refine y_sub [1, 0] rfl (w_M_minuteOn_L2 F C hr hlocks _ _ (fun u6 h => ?_) _ _ _ h)
  refine y_aload_n C (i := 0) 0 d_M_minuteOn_21 rfl rfl ?_
  refine y_dup C d_M_minuteOn_22 (y_cat _ _) ?_
  refine y_gi C (q := (yR5, yT5, 46)) (ci := 5) (k := 3) rfl (by decide) rfl g_787 d_M_minuteOn_23 h (fun x7 h => ?_)
  refine y_iconst C (v := 1) d_M_minuteOn_26 (by decide) ?_
  refine y_iadd C d_M_minuteOn_27 ?_
  refine y_pi C (q := (yR5, yT5, 46)) (ci := 5) (k := 3) rfl (by decide) rfl rfl (by decide +kernel) g_787 d_M_minuteOn_28 h (fun u8 h => ?_)
  exact y_vret C hr hlocks d_M_minuteOn_31 h
/-! M_comesAll -/
theorem d_M_comesAll_0 : decode prog_8_method_37_code 0 = .ok (.iconst 5, 1) := by decide +kernel
theorem d_M_comesAll_1 : decode prog_8_method_37_code 1 = .ok (.iload_n 1, 1) := by decide +kernel
theorem d_M_comesAll_2 : decode prog_8_method_37_code 2 = .ok (.imul, 1) := by decide +kernel
theorem d_M_comesAll_3 : decode prog_8_method_37_code 3 = .ok (.istore_n 2, 1) := by decide +kernel
theorem d_M_comesAll_4 : decode prog_8_method_37_code 4 = .ok (.aload_n 0, 1) := by decide +kernel
theorem d_M_comesAll_5 : decode prog_8_method_37_code 5 = .ok (.getfield 74, 3) := by decide +kernel
theorem d_M_comesAll_8 : decode prog_8_method_37_code 8 = .ok (.iload_n 1, 1) := by decide +kernel
theorem d_M_comesAll_9 : decode prog_8_method_37_code 9 = .ok (.iaload, 1) := by decide +kernel
theorem d_M_comesAll_10 : decode prog_8_method_37_code 10 = .ok (.lookupswitch 141 #[(99, 81), (103, 50), (104, 62), (112, 56), (116, 129)], 50) := by decide +kernel
theorem d_M_comesAll_60 : decode prog_8_method_37_code 60 = .ok (.aload_n 0, 1) := by decide +kernel
theorem d_M_comesAll_61 : decode prog_8_method_37_code 61 = .ok (.iload_n 2, 1) := by decide +kernel
theorem d_M_comesAll_62 : decode prog_8_method_37_code 62 = .ok (.invokevirtual 235, 3) := by decide +kernel
theorem d_M_comesAll_65 : decode prog_8_method_37_code 65 = .ok (.ireturn, 1) := by decide +kernel
theorem d_M_comesAll_66 : decode prog_8_method_37_code 66 = .ok (.aload_n 0, 1) := by decide +kernel
theorem d_M_comesAll_67 : decode prog_8_method_37_code 67 = .ok (.iload_n 2, 1) := by decide +kernel
theorem d_M_comesAll_68 : decode prog_8_method_37_code 68 = .ok (.invokevirtual 238, 3) := by decide +kernel
theorem d_M_comesAll_71 : decode prog_8_method_37_code 71 = .ok (.ireturn, 1) := by decide +kernel
theorem d_M_comesAll_72 : decode prog_8_method_37_code 72 = .ok (.aload_n 0, 1) := by decide +kernel
theorem d_M_comesAll_73 : decode prog_8_method_37_code 73 = .ok (.aload_n 0, 1) := by decide +kernel
theorem d_M_comesAll_74 : decode prog_8_method_37_code 74 = .ok (.getfield 77, 3) := by decide +kernel
theorem d_M_comesAll_77 : decode prog_8_method_37_code 77 = .ok (.iload_n 2, 1) := by decide +kernel
theorem d_M_comesAll_78 : decode prog_8_method_37_code 78 = .ok (.iaload, 1) := by decide +kernel
theorem d_M_comesAll_79 : decode prog_8_method_37_code 79 = .ok (.aload_n 0, 1) := by decide +kernel
theorem d_M_comesAll_80 : decode prog_8_method_37_code 80 = .ok (.getfield 77, 3) := by decide +kernel
theorem d_M_comesAll_83 : decode prog_8_method_37_code 83 = .ok (.iload_n 2, 1) := by decide +kernel
theorem d_M_comesAll_84 : decode prog_8_method_37_code 84 = .ok (.iconst 1, 1) := by decide +kernel
theorem d_M_comesAll_85 : decode prog_8_method_37_code 85 = .ok (.iadd, 1) := by decide +kernel
theorem d_M_comesAll_86 : decode prog_8_method_37_code 86 = .ok (.iaload, 1) := by decide +kernel
theorem d_M_comesAll_87 : decode prog_8_method_37_code 87 = .ok (.invokevirtual 241, 3) := by decide +kernel
theorem d_M_comesAll_90 : decode prog_8_method_37_code 90 = .ok (.ireturn, 1) := by decide +kernel
theorem d_M_comesAll_91 : decode prog_8_method_37_code 91 = .ok (.aload_n 0, 1) := by decide +kernel
theorem d_M_comesAll_92 : decode prog_8_method_37_code 92 = .ok (.aload_n 0, 1) := by decide +kernel
theorem d_M_comesAll_93 : decode prog_8_method_37_code 93 = .ok (.getfield 77, 3) := by decide +kernel
theorem d_M_comesAll_96 : decode prog_8_method_37_code 96 = .ok (.iload_n 2, 1) := by decide +kernel
theorem d_M_comesAll_97 : decode prog_8_method_37_code 97 = .ok (.iaload, 1) := by decide +kernel
theorem d_M_comesAll_98 : decode prog_8_method_37_code 98 = .ok (.invokevirtual 228, 3) := by decide +kernel
theorem d_M_comesAll_101 : decode prog_8_method_37_code 101 = .ok (.ifCond .eq 27, 3) := by decide +kernel
theorem d_M_comesAll_104 : decode prog_8_method_37_code 104 = .ok (.aload_n 0, 1) := by decide +kernel
theorem d_M_comesAll_105 : decode prog_8_method_37_code 105 = .ok (.getfield 59, 3) := by decide +kernel
theorem d_M_comesAll_108 : decode prog_8_method_37_code 108 = .ok (.aload_n 0, 1) := by decide +kernel
theorem d_M_comesAll_109 : decode prog_8_method_37_code 109 = .ok (.getfield 77, 3) := by decide +kernel
theorem d_M_comesAll_112 : decode prog_8_method_37_code 112 = .ok (.iload_n 2, 1) := by decide +kernel
theorem d_M_comesAll_113 : decode prog_8_method_37_code 113 = .ok (.iaload, 1) := by decide +kernel
theorem d_M_comesAll_114 : decode prog_8_method_37_code 114 = .ok (.iconst 1, 1) := by decide +kernel
theorem d_M_comesAll_115 : decode prog_8_method_37_code 115 = .ok (.aload_n 0, 1) := by decide +kernel
theorem d_M_comesAll_116 : decode prog_8_method_37_code 116 = .ok (.getfield 59, 3) := by decide +kernel
theorem d_M_comesAll_119 : decode prog_8_method_37_code 119 = .ok (.aload_n 0, 1) := by decide +kernel
theorem d_M_comesAll_120 : decode prog_8_method_37_code 120 = .ok (.getfield 77, 3) := by decide +kernel
theorem d_M_comesAll_123 : decode prog_8_method_37_code 123 = .ok (.iload_n 2, 1) := by decide +kernel
theorem d_M_comesAll_124 : decode prog_8_method_37_code 124 = .ok (.iaload, 1) := by decide +kernel
theorem d_M_comesAll_125 : decode prog_8_method_37_code 125 = .ok (.iaload, 1) := by decide +kernel
theorem d_M_comesAll_126 : decode prog_8_method_37_code 126 = .ok (.isub, 1) := by decide +kernel
theorem d_M_comesAll_127 : decode prog_8_method_37_code 127 = .ok (.iastore, 1) := by decide +kernel
theorem d_M_comesAll_128 : decode prog_8_method_37_code 128 = .ok (.aload_n 0, 1) := by decide +kernel
theorem d_M_comesAll_129 : decode prog_8_method_37_code 129 = .ok (.aload_n 0, 1) := by decide +kernel
theorem d_M_comesAll_130 : decode prog_8_method_37_code 130 = .ok (.getfield 77, 3) := by decide +kernel
theorem d_M_comesAll_133 : decode prog_8_method_37_code 133 = .ok (.iload_n 2, 1) := by decide +kernel
theorem d_M_comesAll_134 : decode prog_8_method_37_code 134 = .ok (.iaload, 1) := by decide +kernel
theorem d_M_comesAll_135 : decode prog_8_method_37_code 135 = .ok (.invokevirtual 228, 3) := by decide +kernel
theorem d_M_comesAll_138 : decode prog_8_method_37_code 138 = .ok (.ireturn, 1) := by decide +kernel
theorem d_M_comesAll_139 : decode prog_8_method_37_code 139 = .ok (.aload_n 0, 1) := by decide +kernel
theorem d_M_comesAll_140 : decode prog_8_method_37_code 140 = .ok (.aload_n 0, 1) := by decide +kernel
theorem d_M_comesAll_141 : decode prog_8_method_37_code 141 = .ok (.getfield 77, 3) := by decide +kernel
theorem d_M_comesAll_144 : decode prog_8_method_37_code 144 = .ok (.iload_n 2, 1) := by decide +kernel
theorem d_M_comesAll_145 : decode prog_8_method_37_code 145 = .ok (.iaload, 1) := by decide +kernel
theorem d_M_comesAll_146 : decode prog_8_method_37_code 146 = .ok (.putfield 7, 3) := by decide +kernel
theorem d_M_comesAll_149 : decode prog_8_method_37_code 149 = .ok (.iconst 1, 1) := by decide +kernel
theorem d_M_comesAll_150 : decode prog_8_method_37_code 150 = .ok (.ireturn, 1) := by decide +kernel
theorem d_M_comesAll_151 : decode prog_8_method_37_code 151 = .ok (.aload_n 0, 1) := by decide +kernel
theorem d_M_comesAll_152 : decode prog_8_method_37_code 152 = .ok (.invokevirtual 193, 3) := by decide +kernel
theorem d_M_comesAll_155 : decode prog_8_method_37_code 155 = .ok (.aload_n 0, 1) := by decide +kernel
theorem d_M_comesAll_156 : decode prog_8_method_37_code 156 = .ok (.getfield 133, 3) := by decide +kernel
theorem d_M_comesAll_159 : decode prog_8_method_37_code 159 = .ok (.sipush 999, 3) := by decide +kernel
theorem d_M_comesAll_162 : decode prog_8_method_37_code 162 = .ok (.if_icmp .gt 7, 3) := by decide +kernel
theorem d_M_comesAll_165 : decode prog_8_method_37_code 165 = .ok (.iconst 1, 1) := by decide +kernel
theorem d_M_comesAll_166 : decode prog_8_method_37_code 166 = .ok (.goto 4, 3) := by decide +kernel
theorem d_M_comesAll_169 : decode prog_8_method_37_code 169 = .ok (.iconst 0, 1) := by decide +kernel
theorem d_M_comesAll_170 : decode prog_8_method_37_code 170 = .ok (.ireturn, 1) := by decide +kernel
theorem gc_M_comesAll_228 : GoodIn yGW (wsV "WhoseGlassModel" 228 yR5 m_M_isGuest ws_M_isGuest) := y_gV g_1002 g_1004 gs_25 g_6 g_1005
theorem gc_M_comesAll_235 : GoodIn yGW (wsV "WhoseGlassModel" 235 yR5 m_M_glassComes ws_M_glassComes) := y_gV g_986 g_988 gs_21 g_6 g_989
theorem gc_M_comesAll_241 : GoodIn yGW (wsV "WhoseGlassModel" 241 yR5 m_M_holdComes ws_M_holdComes) := y_gV g_998 g_1000 gs_24 g_6 g_1001
theorem gc_M_comesAll_238 : GoodIn yGW (wsV "WhoseGlassModel" 238 yR5 m_M_guestComes ws_M_guestComes) := y_gV g_994 g_996 gs_23 g_6 g_997
theorem gc_M_comesAll_193 : GoodIn yGW (wsV "WhoseGlassModel" 193 yR5 m_M_minuteOn ws_M_minuteOn) := y_gV g_1014 g_1016 gs_28 g_6 g_1017
set_option maxRecDepth 100000 in
def f_M_comesAll (F : Nat) (u : Mm) (o : Nat) (a1 : Int32) : Option (Int32 × Mm) := ob (some ((5 : Int32) * a1)) fun (x1 : Int32) => ob (jgr YM 5 36 (some o)) fun (r2 : Option Nat) => ob (jal YM u r2 a1) fun (x3 : Int32) => (if x3 = (99 : Int32) then ob (jgr YM 5 37 (some o)) fun (r5 : Option Nat) => ob (jal YM u r5 x1) fun (x6 : Int32) => ob (jk YM 5 (some o)) fun t => yb (f_M_isGuest F u t x6) fun x7 u8 => ob ((if x7 = 0 then some u8 else ob (jgr YM 5 19 (some o)) fun (r11 : Option Nat) => ob (jgr YM 5 37 (some o)) fun (r12 : Option Nat) => ob (jal YM u8 r12 x1) fun (x13 : Int32) => ob (jgr YM 5 19 (some o)) fun (r14 : Option Nat) => ob (jgr YM 5 37 (some o)) fun (r15 : Option Nat) => ob (jal YM u8 r15 x1) fun (x16 : Int32) => ob (jal YM u8 r14 x16) fun (x17 : Int32) => ob (jas YM u8 r11 x13 ((1 : Int32) - x17)) fun (u18 : Mm) => some u18) : Option (Mm)) fun q9 => ob (jgr YM 5 37 (some o)) fun (r19 : Option Nat) => ob (jal YM q9 r19 x1) fun (x20 : Int32) => ob (jk YM 5 (some o)) fun t => yb (f_M_isGuest F q9 t x20) fun x21 u22 => ob (jz x21) (fun v => some (v, u22)) else (if x3 = (103 : Int32) then ob (jk YM 5 (some o)) fun t => yb (f_M_glassComes F u t x1) fun x24 u25 => ob (jz x24) (fun v => some (v, u25)) else (if x3 = (104 : Int32) then ob (jgr YM 5 37 (some o)) fun (r27 : Option Nat) => ob (jal YM u r27 x1) fun (x28 : Int32) => ob (jgr YM 5 37 (some o)) fun (r29 : Option Nat) => ob (jal YM u r29 (x1 + (1 : Int32))) fun (x30 : Int32) => ob (jk YM 5 (some o)) fun t => yb (f_M_holdComes F u t x28 x30) fun x31 u32 => ob (jz x31) (fun v => some (v, u32)) else (if x3 = (112 : Int32) then ob (jk YM 5 (some o)) fun t => yb (f_M_guestComes F u t x1) fun x34 u35 => ob (jz x34) (fun v => some (v, u35)) else (if x3 = (116 : Int32) then ob (jgr YM 5 37 (some o)) fun (r37 : Option Nat) => ob (jal YM u r37 x1) fun (x38 : Int32) => ob (jpi YM 5 2 u (some o) x38) fun (u39 : Mm) => ob (jz (1 : Int32)) (fun v => some (v, u39)) else ob (jk YM 5 (some o)) fun t => yb (f_M_minuteOn F u t ) fun v40 u41 => ob (jgi YM 5 3 u41 (some o)) fun (x42 : Int32) => (if (999 : Int32) < x42 then ob (jz (0 : Int32)) (fun v => some (v, u41)) else ob (jz (1 : Int32)) (fun v => some (v, u41))))))))
set_option maxHeartbeats 4000000 in
set_option maxRecDepth 100000 in
theorem c_M_comesAll (l : Launch) (w : WP) (F : Nat) (u : Mm) (o : Nat) (a1 : Int32) (out : Int32 × Mm) (h : f_M_comesAll F u o a1 = some out) : yMet l m_M_comesAll ws_M_comesAll ({ frames := 7, cells := 0, slots := 0, locals := 159 } : Room) YM w u [va_re w.1 (some o), .int a1] yfi out := by
  refine y_entry (own := "WhoseGlassModel") (lv := [(0, va_re w.1 (some o)), (1, .int a1)]) (by decide +kernel) rfl (by simp [lv_args, y_cat, y_catI, y_catJ]) (by simp [lg_sl, y_cat, y_catI, y_catJ]) ?_
  intro p e s m args below meth c C hr hlocks
  unfold f_M_comesAll at h
  refine y_iconst C (v := 5) d_M_comesAll_0 (by decide) ?_
  refine y_iload_n C (i := 1) 1 d_M_comesAll_1 rfl rfl ?_
  refine y_imul C d_M_comesAll_2 ?_
  refine y_istore_nB C (i := 2) (lvp := [(0, va_re w.1 (some o)), (1, .int a1)]) d_M_comesAll_3 rfl (by decide) rfl h (fun x1 h => ?_)
  refine y_aload_n C (i := 0) 1 d_M_comesAll_4 rfl rfl ?_
  refine y_gr C (q := (yR5, yT5, 46)) (ci := 5) (k := 36) rfl (by decide) rfl (by decide) g_820 d_M_comesAll_5 h (fun r2 h => ?_)
  refine y_iload_n C (i := 1) 2 d_M_comesAll_8 rfl rfl ?_
  refine y_al C d_M_comesAll_9 h (fun x3 h => ?_)
  refine y_sp h (fun k4 h => ?_) (fun k4 h => ?_)
  · refine y_lsw C (off := 81) 91 d_M_comesAll_10 (by decide) (by rw [k4]; decide +kernel) (by decide) ?_
    refine y_aload_n C (i := 0) 1 d_M_comesAll_91 rfl rfl ?_
    refine y_aload_n C (i := 0) 1 d_M_comesAll_92 rfl rfl ?_
    refine y_gr C (q := (yR5, yT5, 46)) (ci := 5) (k := 37) rfl (by decide) rfl (by decide) g_821 d_M_comesAll_93 h (fun r5 h => ?_)
    refine y_iload_n C (i := 2) 0 d_M_comesAll_96 rfl rfl ?_
    refine y_al C d_M_comesAll_97 h (fun x6 h => ?_)
    refine y_callV 1 C (q := (yR5, yT5, 46)) (ci := 5) (fun t out hh => c_M_isGuest l w F u t x6 out hh) gc_M_comesAll_228 rfl (by decide) hd_M_isGuest ⟨Nat.le_of_ble_eq_true rfl, Nat.le_of_ble_eq_true rfl⟩ rfl rfl rfl rfl (by simp [y_cat, y_catI, y_catJ]) d_M_comesAll_98 h (fun x7 u8 h => ?_)
    refine y_stk (stp0 := [.int x7]) rfl ?_
    obtain ⟨q9, hq9, h⟩ := ob_e h
    have hJq9 : yG p l e ({ frames := 7, cells := 0, slots := 0, locals := 159 } : Room) s m args below meth c YM w 3 (MQ below (yQ YM w yfi out) args s 0 0 (yA YM w)) q9 128 [(0, va_re w.1 (some o)), (2, .int x1)] [] := by
      refine y_aload_n C (i := 0) 0 d_M_comesAll_128 rfl rfl ?_
      refine y_aload_n C (i := 0) 0 d_M_comesAll_129 rfl rfl ?_
      refine y_gr C (q := (yR5, yT5, 46)) (ci := 5) (k := 37) rfl (by decide) rfl (by decide) g_821 d_M_comesAll_130 h (fun r19 h => ?_)
      refine y_iload_n C (i := 2) 1 d_M_comesAll_133 rfl rfl ?_
      refine y_al C d_M_comesAll_134 h (fun x20 h => ?_)
      refine y_callV 1 C (q := (yR5, yT5, 46)) (ci := 5) (fun t out hh => c_M_isGuest l w F q9 t x20 out hh) gc_M_comesAll_228 rfl (by decide) hd_M_isGuest ⟨Nat.le_of_ble_eq_true rfl, Nat.le_of_ble_eq_true rfl⟩ rfl rfl rfl rfl (by simp [y_cat, y_catI, y_catJ]) d_M_comesAll_135 h (fun x21 u22 h => ?_)
      refine y_stk (stp0 := [.int x21]) rfl ?_
      exact y_zret C hr hlocks d_M_comesAll_138 h
    refine y_if_eq C 128 d_M_comesAll_101 (by decide) hq9 (fun k10 hq9 => ?_) (fun k10 hq9 => ?_)
    · cases hq9
      exact y_sub [1, 0] rfl hJq9
    · refine y_aload_n C (i := 0) 1 d_M_comesAll_104 rfl rfl ?_
      refine y_gr C (q := (yR5, yT5, 46)) (ci := 5) (k := 19) rfl (by decide) rfl (by decide) g_803 d_M_comesAll_105 hq9 (fun r11 hq9 => ?_)
      refine y_aload_n C (i := 0) 1 d_M_comesAll_108 rfl rfl ?_
      refine y_gr C (q := (yR5, yT5, 46)) (ci := 5) (k := 37) rfl (by decide) rfl (by decide) g_821 d_M_comesAll_109 hq9 (fun r12 hq9 => ?_)
      refine y_iload_n C (i := 2) 0 d_M_comesAll_112 rfl rfl ?_
      refine y_al C d_M_comesAll_113 hq9 (fun x13 hq9 => ?_)
      refine y_iconst C (v := 1) d_M_comesAll_114 (by decide) ?_
      refine y_aload_n C (i := 0) 1 d_M_comesAll_115 rfl rfl ?_
      refine y_gr C (q := (yR5, yT5, 46)) (ci := 5) (k := 19) rfl (by decide) rfl (by decide) g_803 d_M_comesAll_116 hq9 (fun r14 hq9 => ?_)
      refine y_aload_n C (i := 0) 1 d_M_comesAll_119 rfl rfl ?_
      refine y_gr C (q := (yR5, yT5, 46)) (ci := 5) (k := 37) rfl (by decide) rfl (by decide) g_821 d_M_comesAll_120 hq9 (fun r15 hq9 => ?_)
      refine y_iload_n C (i := 2) 0 d_M_comesAll_123 rfl rfl ?_
      refine y_al C d_M_comesAll_124 hq9 (fun x16 hq9 => ?_)
      refine y_al C d_M_comesAll_125 hq9 (fun x17 hq9 => ?_)
      refine y_isub C d_M_comesAll_126 ?_
      refine y_as C d_M_comesAll_127 hq9 (fun u18 hq9 => ?_)
      cases hq9
      exact y_sub [1, 0] rfl hJq9
  refine y_sp h (fun k23 h => ?_) (fun k23 h => ?_)
  · refine y_lsw C (off := 50) 60 d_M_comesAll_10 (by decide) (by rw [k23]; decide +kernel) (by decide) ?_
    refine y_aload_n C (i := 0) 1 d_M_comesAll_60 rfl rfl ?_
    refine y_iload_n C (i := 2) 0 d_M_comesAll_61 rfl rfl ?_
    refine y_callV 1 C (q := (yR5, yT5, 46)) (ci := 5) (fun t out hh => c_M_glassComes l w F u t x1 out hh) gc_M_comesAll_235 rfl (by decide) hd_M_glassComes ⟨Nat.le_of_ble_eq_true rfl, Nat.le_of_ble_eq_true rfl⟩ rfl rfl rfl rfl (by simp [y_cat, y_catI, y_catJ]) d_M_comesAll_62 h (fun x24 u25 h => ?_)
    refine y_stk (stp0 := [.int x24]) rfl ?_
    exact y_zret C hr hlocks d_M_comesAll_65 h
  refine y_sp h (fun k26 h => ?_) (fun k26 h => ?_)
  · refine y_lsw C (off := 62) 72 d_M_comesAll_10 (by decide) (by rw [k26]; decide +kernel) (by decide) ?_
    refine y_aload_n C (i := 0) 1 d_M_comesAll_72 rfl rfl ?_
    refine y_aload_n C (i := 0) 1 d_M_comesAll_73 rfl rfl ?_
    refine y_gr C (q := (yR5, yT5, 46)) (ci := 5) (k := 37) rfl (by decide) rfl (by decide) g_821 d_M_comesAll_74 h (fun r27 h => ?_)
    refine y_iload_n C (i := 2) 0 d_M_comesAll_77 rfl rfl ?_
    refine y_al C d_M_comesAll_78 h (fun x28 h => ?_)
    refine y_aload_n C (i := 0) 1 d_M_comesAll_79 rfl rfl ?_
    refine y_gr C (q := (yR5, yT5, 46)) (ci := 5) (k := 37) rfl (by decide) rfl (by decide) g_821 d_M_comesAll_80 h (fun r29 h => ?_)
    refine y_iload_n C (i := 2) 0 d_M_comesAll_83 rfl rfl ?_
    refine y_iconst C (v := 1) d_M_comesAll_84 (by decide) ?_
    refine y_iadd C d_M_comesAll_85 ?_
    refine y_al C d_M_comesAll_86 h (fun x30 h => ?_)
    refine y_callV 2 C (q := (yR5, yT5, 46)) (ci := 5) (fun t out hh => c_M_holdComes l w F u t x28 x30 out hh) gc_M_comesAll_241 rfl (by decide) hd_M_holdComes ⟨Nat.le_of_ble_eq_true rfl, Nat.le_of_ble_eq_true rfl⟩ rfl rfl rfl rfl (by simp [y_cat, y_catI, y_catJ]) d_M_comesAll_87 h (fun x31 u32 h => ?_)
    refine y_stk (stp0 := [.int x31]) rfl ?_
    exact y_zret C hr hlocks d_M_comesAll_90 h
  refine y_sp h (fun k33 h => ?_) (fun k33 h => ?_)
  · refine y_lsw C (off := 56) 66 d_M_comesAll_10 (by decide) (by rw [k33]; decide +kernel) (by decide) ?_
    refine y_aload_n C (i := 0) 1 d_M_comesAll_66 rfl rfl ?_
    refine y_iload_n C (i := 2) 0 d_M_comesAll_67 rfl rfl ?_
    refine y_callV 1 C (q := (yR5, yT5, 46)) (ci := 5) (fun t out hh => c_M_guestComes l w F u t x1 out hh) gc_M_comesAll_238 rfl (by decide) hd_M_guestComes ⟨Nat.le_of_ble_eq_true rfl, Nat.le_of_ble_eq_true rfl⟩ rfl rfl rfl rfl (by simp [y_cat, y_catI, y_catJ]) d_M_comesAll_68 h (fun x34 u35 h => ?_)
    refine y_stk (stp0 := [.int x34]) rfl ?_
    exact y_zret C hr hlocks d_M_comesAll_71 h
  refine y_sp h (fun k36 h => ?_) (fun k36 h => ?_)
  · refine y_lsw C (off := 129) 139 d_M_comesAll_10 (by decide) (by rw [k36]; decide +kernel) (by decide) ?_
    refine y_aload_n C (i := 0) 1 d_M_comesAll_139 rfl rfl ?_
    refine y_aload_n C (i := 0) 1 d_M_comesAll_140 rfl rfl ?_
    refine y_gr C (q := (yR5, yT5, 46)) (ci := 5) (k := 37) rfl (by decide) rfl (by decide) g_821 d_M_comesAll_141 h (fun r37 h => ?_)
    refine y_iload_n C (i := 2) 0 d_M_comesAll_144 rfl rfl ?_
    refine y_al C d_M_comesAll_145 h (fun x38 h => ?_)
    refine y_pi C (q := (yR5, yT5, 46)) (ci := 5) (k := 2) rfl (by decide) rfl rfl (by decide +kernel) g_786 d_M_comesAll_146 h (fun u39 h => ?_)
    refine y_iconst C (v := 1) d_M_comesAll_149 (by decide) ?_
    exact y_zret C hr hlocks d_M_comesAll_150 h
  refine y_lsw C (off := 141) 151 d_M_comesAll_10 (by decide) (by show Op.lookupswitch.offset [(99, 81), (103, 50), (104, 62), (112, 56), (116, 129)] 141 _ = _; rw [lv_osw (a := 99) k4 rfl, lv_osw (a := 103) k23 rfl, lv_osw (a := 104) k26 rfl, lv_osw (a := 112) k33 rfl, lv_osw (a := 116) k36 rfl]; rfl) (by decide) ?_
  refine y_aload_n C (i := 0) 1 d_M_comesAll_151 rfl rfl ?_
  refine y_callV 0 C (q := (yR5, yT5, 46)) (ci := 5) (fun t out hh => c_M_minuteOn l w F u t out hh) gc_M_comesAll_193 rfl (by decide) hd_M_minuteOn ⟨Nat.le_of_ble_eq_true rfl, Nat.le_of_ble_eq_true rfl⟩ rfl rfl rfl rfl (by simp [y_cat, y_catI, y_catJ]) d_M_comesAll_152 h (fun v40 u41 h => ?_)
  refine y_stk (stp0 := []) rfl ?_
  refine y_aload_n C (i := 0) 1 d_M_comesAll_155 rfl rfl ?_
  refine y_gi C (q := (yR5, yT5, 46)) (ci := 5) (k := 3) rfl (by decide) rfl g_787 d_M_comesAll_156 h (fun x42 h => ?_)
  refine y_sipush C (v := 999) d_M_comesAll_159 (by decide) ?_
  refine y_ic_gt C 169 d_M_comesAll_162 (by decide) h (fun k43 h => ?_) (fun k43 h => ?_)
  · refine y_iconst C (v := 0) d_M_comesAll_169 (by decide) ?_
    exact y_zret C hr hlocks d_M_comesAll_170 h
  · refine y_iconst C (v := 1) d_M_comesAll_165 (by decide) ?_
    refine y_goto C (tgt := 170) d_M_comesAll_166 (by decide) ?_
    exact y_zret C hr hlocks d_M_comesAll_170 h
/-! M_again -/
theorem d_M_again_0 : decode prog_8_method_26_code 0 = .ok (.aload_n 0, 1) := by decide +kernel
theorem d_M_again_1 : decode prog_8_method_26_code 1 = .ok (.aload_n 0, 1) := by decide +kernel
theorem d_M_again_2 : decode prog_8_method_26_code 2 = .ok (.getfield 65, 3) := by decide +kernel
theorem d_M_again_5 : decode prog_8_method_26_code 5 = .ok (.iconst 0, 1) := by decide +kernel
theorem d_M_again_6 : decode prog_8_method_26_code 6 = .ok (.invokevirtual 189, 3) := by decide +kernel
theorem d_M_again_9 : decode prog_8_method_26_code 9 = .ok (.return_, 1) := by decide +kernel
theorem gc_M_again_189 : GoodIn yGW (wsV "WhoseGlassModel" 189 yR5 m_M_carryAll ws_M_carryAll) := y_gV g_932 g_934 gs_11 g_6 g_935
set_option maxRecDepth 100000 in
def f_M_again (F : Nat) (u : Mm) (o : Nat) : Option (Unit × Mm) := ob (jgr YM 5 24 (some o)) fun (r1 : Option Nat) => ob (jk YM 5 (some o)) fun t => yb (f_M_carryAll F u t r1 (0 : Int32)) fun v2 u3 => some ((), u3)
set_option maxHeartbeats 4000000 in
set_option maxRecDepth 100000 in
theorem c_M_again (l : Launch) (w : WP) (F : Nat) (u : Mm) (o : Nat) (out : Unit × Mm) (h : f_M_again F u o = some out) : yMet l m_M_again ws_M_again ({ frames := 2, cells := 0, slots := 0, locals := 44 } : Room) YM w u [va_re w.1 (some o)] yfv out := by
  refine y_entry (own := "WhoseGlassModel") (lv := [(0, va_re w.1 (some o))]) (by decide +kernel) rfl (by simp [lv_args, y_cat, y_catI, y_catJ]) (by simp [lg_sl, y_cat, y_catI, y_catJ]) ?_
  intro p e s m args below meth c C hr hlocks
  unfold f_M_again at h
  refine y_aload_n C (i := 0) 0 d_M_again_0 rfl rfl ?_
  refine y_aload_n C (i := 0) 0 d_M_again_1 rfl rfl ?_
  refine y_gr C (q := (yR5, yT5, 46)) (ci := 5) (k := 24) rfl (by decide) rfl (by decide) g_808 d_M_again_2 h (fun r1 h => ?_)
  refine y_iconst C (v := 0) d_M_again_5 (by decide) ?_
  refine y_callV 2 C (q := (yR5, yT5, 46)) (ci := 5) (fun t out hh => c_M_carryAll l w F u t r1 (0 : Int32) out hh) gc_M_again_189 rfl (by decide) hd_M_carryAll ⟨Nat.le_of_ble_eq_true rfl, Nat.le_of_ble_eq_true rfl⟩ rfl rfl rfl rfl (by simp [y_cat, y_catI, y_catJ]) d_M_again_6 h (fun v2 u3 h => ?_)
  refine y_stk (stp0 := []) rfl ?_
  exact y_vret C hr hlocks d_M_again_9 h
/-! M_house -/
theorem d_M_house_0 : decode prog_8_method_38_code 0 = .ok (.aload_n 0, 1) := by decide +kernel
theorem d_M_house_1 : decode prog_8_method_38_code 1 = .ok (.iconst 0, 1) := by decide +kernel
theorem d_M_house_2 : decode prog_8_method_38_code 2 = .ok (.putfield 102, 3) := by decide +kernel
theorem d_M_house_5 : decode prog_8_method_38_code 5 = .ok (.aload_n 0, 1) := by decide +kernel
theorem d_M_house_6 : decode prog_8_method_38_code 6 = .ok (.iload_n 1, 1) := by decide +kernel
theorem d_M_house_7 : decode prog_8_method_38_code 7 = .ok (.iconst 0, 1) := by decide +kernel
theorem d_M_house_8 : decode prog_8_method_38_code 8 = .ok (.invokevirtual 244, 3) := by decide +kernel
theorem d_M_house_11 : decode prog_8_method_38_code 11 = .ok (.istore_n 2, 1) := by decide +kernel
theorem d_M_house_12 : decode prog_8_method_38_code 12 = .ok (.iload_n 2, 1) := by decide +kernel
theorem d_M_house_13 : decode prog_8_method_38_code 13 = .ok (.ifCond .ge 5, 3) := by decide +kernel
theorem d_M_house_16 : decode prog_8_method_38_code 16 = .ok (.iload_n 2, 1) := by decide +kernel
theorem d_M_house_17 : decode prog_8_method_38_code 17 = .ok (.ireturn, 1) := by decide +kernel
theorem d_M_house_18 : decode prog_8_method_38_code 18 = .ok (.aload_n 0, 1) := by decide +kernel
theorem d_M_house_19 : decode prog_8_method_38_code 19 = .ok (.bipush 100, 2) := by decide +kernel
theorem d_M_house_21 : decode prog_8_method_38_code 21 = .ok (.iload_n 1, 1) := by decide +kernel
theorem d_M_house_22 : decode prog_8_method_38_code 22 = .ok (.imul, 1) := by decide +kernel
theorem d_M_house_23 : decode prog_8_method_38_code 23 = .ok (.putfield 205, 3) := by decide +kernel
theorem d_M_house_26 : decode prog_8_method_38_code 26 = .ok (.aload_n 0, 1) := by decide +kernel
theorem d_M_house_27 : decode prog_8_method_38_code 27 = .ok (.aload_n 0, 1) := by decide +kernel
theorem d_M_house_28 : decode prog_8_method_38_code 28 = .ok (.getfield 92, 3) := by decide +kernel
theorem d_M_house_31 : decode prog_8_method_38_code 31 = .ok (.iload_n 1, 1) := by decide +kernel
theorem d_M_house_32 : decode prog_8_method_38_code 32 = .ok (.iaload, 1) := by decide +kernel
theorem d_M_house_33 : decode prog_8_method_38_code 33 = .ok (.putfield 202, 3) := by decide +kernel
theorem d_M_house_36 : decode prog_8_method_38_code 36 = .ok (.aload_n 0, 1) := by decide +kernel
theorem d_M_house_37 : decode prog_8_method_38_code 37 = .ok (.iconst 0, 1) := by decide +kernel
theorem d_M_house_38 : decode prog_8_method_38_code 38 = .ok (.putfield 199, 3) := by decide +kernel
theorem d_M_house_41 : decode prog_8_method_38_code 41 = .ok (.aload_n 0, 1) := by decide +kernel
theorem d_M_house_42 : decode prog_8_method_38_code 42 = .ok (.iconst 0, 1) := by decide +kernel
theorem d_M_house_43 : decode prog_8_method_38_code 43 = .ok (.putfield 208, 3) := by decide +kernel
theorem d_M_house_46 : decode prog_8_method_38_code 46 = .ok (.aload_n 0, 1) := by decide +kernel
theorem d_M_house_47 : decode prog_8_method_38_code 47 = .ok (.iconst 0, 1) := by decide +kernel
theorem d_M_house_48 : decode prog_8_method_38_code 48 = .ok (.putfield 222, 3) := by decide +kernel
theorem d_M_house_51 : decode prog_8_method_38_code 51 = .ok (.aload_n 0, 1) := by decide +kernel
theorem d_M_house_52 : decode prog_8_method_38_code 52 = .ok (.getfield 208, 3) := by decide +kernel
theorem d_M_house_55 : decode prog_8_method_38_code 55 = .ok (.ifCond .ne 28, 3) := by decide +kernel
theorem d_M_house_58 : decode prog_8_method_38_code 58 = .ok (.aload_n 0, 1) := by decide +kernel
theorem d_M_house_59 : decode prog_8_method_38_code 59 = .ok (.getfield 222, 3) := by decide +kernel
theorem d_M_house_62 : decode prog_8_method_38_code 62 = .ok (.ifCond .eq 14, 3) := by decide +kernel
theorem d_M_house_65 : decode prog_8_method_38_code 65 = .ok (.aload_n 0, 1) := by decide +kernel
theorem d_M_house_66 : decode prog_8_method_38_code 66 = .ok (.getfield 199, 3) := by decide +kernel
theorem d_M_house_69 : decode prog_8_method_38_code 69 = .ok (.aload_n 0, 1) := by decide +kernel
theorem d_M_house_70 : decode prog_8_method_38_code 70 = .ok (.getfield 202, 3) := by decide +kernel
theorem d_M_house_73 : decode prog_8_method_38_code 73 = .ok (.if_icmp .ge 10, 3) := by decide +kernel
theorem d_M_house_76 : decode prog_8_method_38_code 76 = .ok (.aload_n 0, 1) := by decide +kernel
theorem d_M_house_77 : decode prog_8_method_38_code 77 = .ok (.invokevirtual 247, 3) := by decide +kernel
theorem d_M_house_80 : decode prog_8_method_38_code 80 = .ok (.goto (-29), 3) := by decide +kernel
theorem d_M_house_83 : decode prog_8_method_38_code 83 = .ok (.aload_n 0, 1) := by decide +kernel
theorem d_M_house_84 : decode prog_8_method_38_code 84 = .ok (.getfield 208, 3) := by decide +kernel
theorem d_M_house_87 : decode prog_8_method_38_code 87 = .ok (.ifCond .eq 12, 3) := by decide +kernel
theorem d_M_house_90 : decode prog_8_method_38_code 90 = .ok (.sipush (-1000), 3) := by decide +kernel
theorem d_M_house_93 : decode prog_8_method_38_code 93 = .ok (.aload_n 0, 1) := by decide +kernel
theorem d_M_house_94 : decode prog_8_method_38_code 94 = .ok (.getfield 199, 3) := by decide +kernel
theorem d_M_house_97 : decode prog_8_method_38_code 97 = .ok (.isub, 1) := by decide +kernel
theorem d_M_house_98 : decode prog_8_method_38_code 98 = .ok (.ireturn, 1) := by decide +kernel
theorem d_M_house_99 : decode prog_8_method_38_code 99 = .ok (.aload_n 0, 1) := by decide +kernel
theorem d_M_house_100 : decode prog_8_method_38_code 100 = .ok (.invokevirtual 250, 3) := by decide +kernel
theorem d_M_house_103 : decode prog_8_method_38_code 103 = .ok (.iconst 0, 1) := by decide +kernel
theorem d_M_house_104 : decode prog_8_method_38_code 104 = .ok (.istore_n 3, 1) := by decide +kernel
theorem d_M_house_105 : decode prog_8_method_38_code 105 = .ok (.iload_n 3, 1) := by decide +kernel
theorem d_M_house_106 : decode prog_8_method_38_code 106 = .ok (.aload_n 0, 1) := by decide +kernel
theorem d_M_house_107 : decode prog_8_method_38_code 107 = .ok (.getfield 222, 3) := by decide +kernel
theorem d_M_house_110 : decode prog_8_method_38_code 110 = .ok (.if_icmp .ge 32, 3) := by decide +kernel
theorem d_M_house_113 : decode prog_8_method_38_code 113 = .ok (.aload_n 0, 1) := by decide +kernel
theorem d_M_house_114 : decode prog_8_method_38_code 114 = .ok (.iload_n 3, 1) := by decide +kernel
theorem d_M_house_115 : decode prog_8_method_38_code 115 = .ok (.invokevirtual 253, 3) := by decide +kernel
theorem d_M_house_118 : decode prog_8_method_38_code 118 = .ok (.ifCond .ne 18, 3) := by decide +kernel
theorem d_M_house_121 : decode prog_8_method_38_code 121 = .ok (.aload_n 0, 1) := by decide +kernel
theorem d_M_house_122 : decode prog_8_method_38_code 122 = .ok (.invokevirtual 256, 3) := by decide +kernel
theorem d_M_house_125 : decode prog_8_method_38_code 125 = .ok (.sipush (-2000), 3) := by decide +kernel
theorem d_M_house_128 : decode prog_8_method_38_code 128 = .ok (.aload_n 0, 1) := by decide +kernel
theorem d_M_house_129 : decode prog_8_method_38_code 129 = .ok (.getfield 71, 3) := by decide +kernel
theorem d_M_house_132 : decode prog_8_method_38_code 132 = .ok (.iload_n 3, 1) := by decide +kernel
theorem d_M_house_133 : decode prog_8_method_38_code 133 = .ok (.iaload, 1) := by decide +kernel
theorem d_M_house_134 : decode prog_8_method_38_code 134 = .ok (.isub, 1) := by decide +kernel
theorem d_M_house_135 : decode prog_8_method_38_code 135 = .ok (.ireturn, 1) := by decide +kernel
theorem d_M_house_136 : decode prog_8_method_38_code 136 = .ok (.iinc 3 1, 3) := by decide +kernel
theorem d_M_house_139 : decode prog_8_method_38_code 139 = .ok (.goto (-34), 3) := by decide +kernel
theorem d_M_house_142 : decode prog_8_method_38_code 142 = .ok (.aload_n 0, 1) := by decide +kernel
theorem d_M_house_143 : decode prog_8_method_38_code 143 = .ok (.getfield 222, 3) := by decide +kernel
theorem d_M_house_146 : decode prog_8_method_38_code 146 = .ok (.ireturn, 1) := by decide +kernel
theorem gc_M_house_244 : GoodIn yGW (wsV "WhoseGlassModel" 244 yR5 m_M_wrongSort ws_M_wrongSort) := y_gV g_948 g_950 gs_13 g_6 g_951
theorem gc_M_house_247 : GoodIn yGW (wsV "WhoseGlassModel" 247 yR5 m_M_readStatement ws_M_readStatement) := y_gV g_960 g_962 gs_15 g_6 g_963
theorem gc_M_house_250 : GoodIn yGW (wsV "WhoseGlassModel" 250 yR5 m_M_open ws_M_open) := y_gV g_978 g_980 gs_19 g_6 g_981
theorem gc_M_house_253 : GoodIn yGW (wsV "WhoseGlassModel" 253 yR5 m_M_comesAll ws_M_comesAll) := y_gV g_982 g_984 gs_20 g_6 g_985
theorem gc_M_house_256 : GoodIn yGW (wsV "WhoseGlassModel" 256 yR5 m_M_again ws_M_again) := y_gV g_1066 g_1068 gs_41 g_6 g_1069
set_option maxHeartbeats 4000000 in
set_option maxRecDepth 100000 in
def f_M_house_L51 (F : Nat) (a0 : Option Nat) (k : Mm → Option (Int32 × Mm)) : Nat → Mm → Option (Int32 × Mm)
  | 0, _ => none
  | n + 1, u => ob (jgi YM 5 33 u a0) fun (x12 : Int32) => (if x12 = 0 then ob (jgi YM 5 34 u a0) fun (x14 : Int32) => (if x14 = 0 then ob (jk YM 5 a0) fun t => yb (f_M_readStatement F u t ) fun v16 u17 => f_M_house_L51 F a0 k n u17  else ob (jgi YM 5 32 u a0) fun (x18 : Int32) => ob (jgi YM 5 31 u a0) fun (x19 : Int32) => (if x19 ≤ x18 then k u  else ob (jk YM 5 a0) fun t => yb (f_M_readStatement F u t ) fun v21 u22 => f_M_house_L51 F a0 k n u22 )) else k u )
set_option maxHeartbeats 4000000 in
set_option maxRecDepth 100000 in
theorem w_M_house_L51 {p : Program} {l : Launch} {e : Env} {s : State} {m : MethodId} {args : Array Value} {below : List Frame} {meth : Method} {c : Code} {w : WP} {Q : State → Prop} (F : Nat) (C : yX p e ({ frames := 8, cells := 0, slots := 0, locals := 181 } : Room) s m args c YM w 4 prog_8_method_38_code "WhoseGlassModel") (hr : meth.sig.returnType = (some .int)) (hlocks : meth.locks = false) (a0 : Option Nat) {out : Int32 × Mm} (k : Mm → Option (Int32 × Mm)) (hk : ∀ (u : Mm), k u  = some out → yG p l e ({ frames := 8, cells := 0, slots := 0, locals := 181 } : Room) s m args below meth c YM w 4 Q u 83 [(0, va_re w.1 a0)] []) : ∀ (n : Nat) (u : Mm) , f_M_house_L51 F a0 k n u  = some out → yG p l e ({ frames := 8, cells := 0, slots := 0, locals := 181 } : Room) s m args below meth c YM w 4 Q u 51 [(0, va_re w.1 a0)] [] := by
  intro n
  induction n with
  | zero => intro u  h; rw [f_M_house_L51] at h; cases h
  | succ n ih =>
    intro u  h
    rw [f_M_house_L51] at h
    refine y_aload_n C (i := 0) 0 d_M_house_51 rfl rfl ?_
    refine y_gi C (q := (yR5, yT5, 46)) (ci := 5) (k := 33) rfl (by decide) rfl g_817 d_M_house_52 h (fun x12 h => ?_)
    refine y_if_ne C 83 d_M_house_55 (by decide) h (fun k13 h => ?_) (fun k13 h => ?_)
    · refine y_aload_n C (i := 0) 0 d_M_house_58 rfl rfl ?_
      refine y_gi C (q := (yR5, yT5, 46)) (ci := 5) (k := 34) rfl (by decide) rfl g_818 d_M_house_59 h (fun x14 h => ?_)
      refine y_if_eq C 76 d_M_house_62 (by decide) h (fun k15 h => ?_) (fun k15 h => ?_)
      · refine y_aload_n C (i := 0) 0 d_M_house_76 rfl rfl ?_
        refine y_callV 0 C (q := (yR5, yT5, 46)) (ci := 5) (fun t out hh => c_M_readStatement l w F u t out hh) gc_M_house_247 rfl (by decide) hd_M_readStatement ⟨Nat.le_of_ble_eq_true rfl, Nat.le_of_ble_eq_true rfl⟩ rfl rfl rfl rfl (by simp [y_cat, y_catI, y_catJ]) d_M_house_77 h (fun v16 u17 h => ?_)
        refine y_stk (stp0 := []) rfl ?_
        refine y_goto C (tgt := 51) d_M_house_80 (by decide) ?_
        exact y_sub [0] rfl (ih _ h)
      · refine y_aload_n C (i := 0) 0 d_M_house_65 rfl rfl ?_
        refine y_gi C (q := (yR5, yT5, 46)) (ci := 5) (k := 32) rfl (by decide) rfl g_816 d_M_house_66 h (fun x18 h => ?_)
        refine y_aload_n C (i := 0) 0 d_M_house_69 rfl rfl ?_
        refine y_gi C (q := (yR5, yT5, 46)) (ci := 5) (k := 31) rfl (by decide) rfl g_815 d_M_house_70 h (fun x19 h => ?_)
        refine y_ic_ge C 83 d_M_house_73 (by decide) h (fun k20 h => ?_) (fun k20 h => ?_)
        · exact y_sub [0] rfl (hk _ h)
        · refine y_aload_n C (i := 0) 0 d_M_house_76 rfl rfl ?_
          refine y_callV 0 C (q := (yR5, yT5, 46)) (ci := 5) (fun t out hh => c_M_readStatement l w F u t out hh) gc_M_house_247 rfl (by decide) hd_M_readStatement ⟨Nat.le_of_ble_eq_true rfl, Nat.le_of_ble_eq_true rfl⟩ rfl rfl rfl rfl (by simp [y_cat, y_catI, y_catJ]) d_M_house_77 h (fun v21 u22 h => ?_)
          refine y_stk (stp0 := []) rfl ?_
          refine y_goto C (tgt := 51) d_M_house_80 (by decide) ?_
          exact y_sub [0] rfl (ih _ h)
    · exact y_sub [0] rfl (hk _ h)
set_option maxHeartbeats 4000000 in
set_option maxRecDepth 100000 in
def f_M_house_L105 (F : Nat) (a0 : Option Nat) (k : Mm → Option (Int32 × Mm)) : Nat → Mm → Int32 → Option (Int32 × Mm)
  | 0, _, _ => none
  | n + 1, u, a3 => ob (jgi YM 5 34 u a0) fun (x28 : Int32) => (if x28 ≤ a3 then k u  else ob (jk YM 5 a0) fun t => yb (f_M_comesAll F u t a3) fun x30 u31 => (if x30 = 0 then ob (jk YM 5 a0) fun t => yb (f_M_again F u31 t ) fun v33 u34 => ob (jgr YM 5 35 a0) fun (r35 : Option Nat) => ob (jal YM u34 r35 a3) fun (x36 : Int32) => some (((-2000 : Int32) - x36), u34) else ob (some (a3 + (1 : Int32))) fun (x37 : Int32) => f_M_house_L105 F a0 k n u31 x37))
set_option maxHeartbeats 4000000 in
set_option maxRecDepth 100000 in
theorem w_M_house_L105 {p : Program} {l : Launch} {e : Env} {s : State} {m : MethodId} {args : Array Value} {below : List Frame} {meth : Method} {c : Code} {w : WP} (F : Nat) (C : yX p e ({ frames := 8, cells := 0, slots := 0, locals := 181 } : Room) s m args c YM w 4 prog_8_method_38_code "WhoseGlassModel") (hr : meth.sig.returnType = (some .int)) (hlocks : meth.locks = false) (a0 : Option Nat) {out : Int32 × Mm} (k : Mm → Option (Int32 × Mm)) (hk : ∀ (u : Mm), k u  = some out → yG p l e ({ frames := 8, cells := 0, slots := 0, locals := 181 } : Room) s m args below meth c YM w 4 (MQ below (yQ YM w yfi out) args s 0 0 (yA YM w)) u 142 [(0, va_re w.1 a0)] []) : ∀ (n : Nat) (u : Mm) (a3 : Int32), f_M_house_L105 F a0 k n u a3 = some out → yG p l e ({ frames := 8, cells := 0, slots := 0, locals := 181 } : Room) s m args below meth c YM w 4 (MQ below (yQ YM w yfi out) args s 0 0 (yA YM w)) u 105 [(0, va_re w.1 a0), (3, .int a3)] [] := by
  intro n
  induction n with
  | zero => intro u a3 h; rw [f_M_house_L105] at h; cases h
  | succ n ih =>
    intro u a3 h
    rw [f_M_house_L105] at h
    refine y_iload_n C (i := 3) 1 d_M_house_105 rfl rfl ?_
    refine y_aload_n C (i := 0) 0 d_M_house_106 rfl rfl ?_
    refine y_gi C (q := (yR5, yT5, 46)) (ci := 5) (k := 34) rfl (by decide) rfl g_818 d_M_house_107 h (fun x28 h => ?_)
    refine y_ic_ge C 142 d_M_house_110 (by decide) h (fun k29 h => ?_) (fun k29 h => ?_)
    · exact y_sub [0] rfl (hk _ h)
    · refine y_aload_n C (i := 0) 0 d_M_house_113 rfl rfl ?_
      refine y_iload_n C (i := 3) 1 d_M_house_114 rfl rfl ?_
      refine y_callV 1 C (q := (yR5, yT5, 46)) (ci := 5) (fun t out hh => c_M_comesAll l w F u t a3 out hh) gc_M_house_253 rfl (by decide) hd_M_comesAll ⟨Nat.le_of_ble_eq_true rfl, Nat.le_of_ble_eq_true rfl⟩ rfl rfl rfl rfl (by simp [y_cat, y_catI, y_catJ]) d_M_house_115 h (fun x30 u31 h => ?_)
      refine y_stk (stp0 := [.int x30]) rfl ?_
      refine y_if_ne C 136 d_M_house_118 (by decide) h (fun k32 h => ?_) (fun k32 h => ?_)
      · refine y_aload_n C (i := 0) 0 d_M_house_121 rfl rfl ?_
        refine y_callV 0 C (q := (yR5, yT5, 46)) (ci := 5) (fun t out hh => c_M_again l w F u31 t out hh) gc_M_house_256 rfl (by decide) hd_M_again ⟨Nat.le_of_ble_eq_true rfl, Nat.le_of_ble_eq_true rfl⟩ rfl rfl rfl rfl (by simp [y_cat, y_catI, y_catJ]) d_M_house_122 h (fun v33 u34 h => ?_)
        refine y_stk (stp0 := []) rfl ?_
        refine y_sipush C (v := -2000) d_M_house_125 (by decide) ?_
        refine y_aload_n C (i := 0) 0 d_M_house_128 rfl rfl ?_
        refine y_gr C (q := (yR5, yT5, 46)) (ci := 5) (k := 35) rfl (by decide) rfl (by decide) g_819 d_M_house_129 h (fun r35 h => ?_)
        refine y_iload_n C (i := 3) 1 d_M_house_132 rfl rfl ?_
        refine y_al C d_M_house_133 h (fun x36 h => ?_)
        refine y_isub C d_M_house_134 ?_
        exact y_iret C hr hlocks d_M_house_135 h
      · refine y_iinc C (j := 1) (v := 1) (lvp := [(0, va_re w.1 a0)]) d_M_house_136 rfl (by decide) (by decide) rfl h (fun x37 h => ?_)
        refine y_goto C (tgt := 105) d_M_house_139 (by decide) ?_
        exact y_sub [1, 0] rfl (ih _ _ h)
set_option maxRecDepth 100000 in
def f_M_house (F : Nat) (u : Mm) (o : Nat) (a1 : Int32) : Option (Int32 × Mm) := ob (jpi YM 5 23 u (some o) (0 : Int32)) fun (u1 : Mm) => ob (jk YM 5 (some o)) fun t => yb (f_M_wrongSort F u1 t a1 (0 : Int32)) fun x2 u3 => (if 0 ≤ x2 then ob (jpi YM 5 30 u3 (some o) ((100 : Int32) * a1)) fun (u5 : Mm) => ob (jgr YM 5 43 (some o)) fun (r6 : Option Nat) => ob (jal YM u5 r6 a1) fun (x7 : Int32) => ob (jpi YM 5 31 u5 (some o) x7) fun (u8 : Mm) => ob (jpi YM 5 32 u8 (some o) (0 : Int32)) fun (u9 : Mm) => ob (jpz YM 5 33 u9 (some o) (0 : Int32)) fun (u10 : Mm) => ob (jpi YM 5 34 u10 (some o) (0 : Int32)) fun (u11 : Mm) => f_M_house_L51 F (some o) (fun (u23 : Mm) => ob (jgi YM 5 33 u23 (some o)) fun (x24 : Int32) => (if x24 = 0 then ob (jk YM 5 (some o)) fun t => yb (f_M_open F u23 t ) fun v26 u27 => f_M_house_L105 F (some o) (fun (u38 : Mm) => ob (jgi YM 5 34 u38 (some o)) fun (x39 : Int32) => some (x39, u38)) F u27 (0 : Int32) else ob (jgi YM 5 32 u23 (some o)) fun (x40 : Int32) => some (((-1000 : Int32) - x40), u23))) F u11  else some (x2, u3))
set_option maxHeartbeats 4000000 in
set_option maxRecDepth 100000 in
theorem c_M_house (l : Launch) (w : WP) (F : Nat) (u : Mm) (o : Nat) (a1 : Int32) (out : Int32 × Mm) (h : f_M_house F u o a1 = some out) : yMet l m_M_house ws_M_house ({ frames := 8, cells := 0, slots := 0, locals := 181 } : Room) YM w u [va_re w.1 (some o), .int a1] yfi out := by
  refine y_entry (own := "WhoseGlassModel") (lv := [(0, va_re w.1 (some o)), (1, .int a1)]) (by decide +kernel) rfl (by simp [lv_args, y_cat, y_catI, y_catJ]) (by simp [lg_sl, y_cat, y_catI, y_catJ]) ?_
  intro p e s m args below meth c C hr hlocks
  unfold f_M_house at h
  refine y_aload_n C (i := 0) 0 d_M_house_0 rfl rfl ?_
  refine y_iconst C (v := 0) d_M_house_1 (by decide) ?_
  refine y_pi C (q := (yR5, yT5, 46)) (ci := 5) (k := 23) rfl (by decide) rfl rfl (by decide +kernel) g_807 d_M_house_2 h (fun u1 h => ?_)
  refine y_aload_n C (i := 0) 0 d_M_house_5 rfl rfl ?_
  refine y_iload_n C (i := 1) 1 d_M_house_6 rfl rfl ?_
  refine y_iconst C (v := 0) d_M_house_7 (by decide) ?_
  refine y_callV 2 C (q := (yR5, yT5, 46)) (ci := 5) (fun t out hh => c_M_wrongSort l w F u1 t a1 (0 : Int32) out hh) gc_M_house_244 rfl (by decide) hd_M_wrongSort ⟨Nat.le_of_ble_eq_true rfl, Nat.le_of_ble_eq_true rfl⟩ rfl rfl rfl rfl (by simp [y_cat, y_catI, y_catJ]) d_M_house_8 h (fun x2 u3 h => ?_)
  refine y_stk (stp0 := [.int x2]) rfl ?_
  refine y_istore_n C (i := 2) (lvp := [(0, va_re w.1 (some o)), (1, .int a1)]) d_M_house_11 rfl (by decide) rfl ?_
  refine y_iload_n C (i := 2) 0 d_M_house_12 rfl rfl ?_
  refine y_if_ge C 18 d_M_house_13 (by decide) h (fun k4 h => ?_) (fun k4 h => ?_)
  · refine y_aload_n C (i := 0) 1 d_M_house_18 rfl rfl ?_
    refine y_bipush C (v := 100) d_M_house_19 (by decide) ?_
    refine y_iload_n C (i := 1) 2 d_M_house_21 rfl rfl ?_
    refine y_imul C d_M_house_22 ?_
    refine y_pi C (q := (yR5, yT5, 46)) (ci := 5) (k := 30) rfl (by decide) rfl rfl (by decide +kernel) g_814 d_M_house_23 h (fun u5 h => ?_)
    refine y_aload_n C (i := 0) 1 d_M_house_26 rfl rfl ?_
    refine y_aload_n C (i := 0) 1 d_M_house_27 rfl rfl ?_
    refine y_gr C (q := (yR5, yT5, 46)) (ci := 5) (k := 43) rfl (by decide) rfl (by decide) g_827 d_M_house_28 h (fun r6 h => ?_)
    refine y_iload_n C (i := 1) 2 d_M_house_31 rfl rfl ?_
    refine y_al C d_M_house_32 h (fun x7 h => ?_)
    refine y_pi C (q := (yR5, yT5, 46)) (ci := 5) (k := 31) rfl (by decide) rfl rfl (by decide +kernel) g_815 d_M_house_33 h (fun u8 h => ?_)
    refine y_aload_n C (i := 0) 1 d_M_house_36 rfl rfl ?_
    refine y_iconst C (v := 0) d_M_house_37 (by decide) ?_
    refine y_pi C (q := (yR5, yT5, 46)) (ci := 5) (k := 32) rfl (by decide) rfl rfl (by decide +kernel) g_816 d_M_house_38 h (fun u9 h => ?_)
    refine y_aload_n C (i := 0) 1 d_M_house_41 rfl rfl ?_
    refine y_iconst C (v := 0) d_M_house_42 (by decide) ?_
    refine y_pz C (q := (yR5, yT5, 46)) (ci := 5) (k := 33) rfl (by decide) rfl rfl (by decide +kernel) g_817 d_M_house_43 h (fun u10 h => ?_)
    refine y_aload_n C (i := 0) 1 d_M_house_46 rfl rfl ?_
    refine y_iconst C (v := 0) d_M_house_47 (by decide) ?_
    refine y_pi C (q := (yR5, yT5, 46)) (ci := 5) (k := 34) rfl (by decide) rfl rfl (by decide +kernel) g_818 d_M_house_48 h (fun u11 h => ?_)
    refine y_sub [1] rfl (w_M_house_L51 F C hr hlocks _ _ (fun u23 h => ?_) _ _ h)
    refine y_aload_n C (i := 0) 0 d_M_house_83 rfl rfl ?_
    refine y_gi C (q := (yR5, yT5, 46)) (ci := 5) (k := 33) rfl (by decide) rfl g_817 d_M_house_84 h (fun x24 h => ?_)
    refine y_if_eq C 99 d_M_house_87 (by decide) h (fun k25 h => ?_) (fun k25 h => ?_)
    · refine y_aload_n C (i := 0) 0 d_M_house_99 rfl rfl ?_
      refine y_callV 0 C (q := (yR5, yT5, 46)) (ci := 5) (fun t out hh => c_M_open l w F u23 t out hh) gc_M_house_250 rfl (by decide) hd_M_open ⟨Nat.le_of_ble_eq_true rfl, Nat.le_of_ble_eq_true rfl⟩ rfl rfl rfl rfl (by simp [y_cat, y_catI, y_catJ]) d_M_house_100 h (fun v26 u27 h => ?_)
      refine y_stk (stp0 := []) rfl ?_
      refine y_iconst C (v := 0) d_M_house_103 (by decide) ?_
      refine y_istore_n C (i := 3) (lvp := [(0, va_re w.1 (some o))]) d_M_house_104 rfl (by decide) rfl ?_
      refine y_sub [1, 0] rfl (w_M_house_L105 F C hr hlocks _ _ (fun u38 h => ?_) _ _ _ h)
      refine y_aload_n C (i := 0) 0 d_M_house_142 rfl rfl ?_
      refine y_gi C (q := (yR5, yT5, 46)) (ci := 5) (k := 34) rfl (by decide) rfl g_818 d_M_house_143 h (fun x39 h => ?_)
      exact y_iret C hr hlocks d_M_house_146 h
    · refine y_sipush C (v := -1000) d_M_house_90 (by decide) ?_
      refine y_aload_n C (i := 0) 0 d_M_house_93 rfl rfl ?_
      refine y_gi C (q := (yR5, yT5, 46)) (ci := 5) (k := 32) rfl (by decide) rfl g_816 d_M_house_94 h (fun x40 h => ?_)
      refine y_isub C d_M_house_97 ?_
      exact y_iret C hr hlocks d_M_house_98 h
  · refine y_iload_n C (i := 2) 0 d_M_house_16 rfl rfl ?_
    exact y_iret C hr hlocks d_M_house_17 h
/-! M_glass -/
theorem d_M_glass_0 : decode prog_8_method_39_code 0 = .ok (.aload_n 0, 1) := by decide +kernel
theorem d_M_glass_1 : decode prog_8_method_39_code 1 = .ok (.iconst 0, 1) := by decide +kernel
theorem d_M_glass_2 : decode prog_8_method_39_code 2 = .ok (.putfield 102, 3) := by decide +kernel
theorem d_M_glass_5 : decode prog_8_method_39_code 5 = .ok (.aload_n 0, 1) := by decide +kernel
theorem d_M_glass_6 : decode prog_8_method_39_code 6 = .ok (.iload_n 1, 1) := by decide +kernel
theorem d_M_glass_7 : decode prog_8_method_39_code 7 = .ok (.invokevirtual 232, 3) := by decide +kernel
theorem d_M_glass_10 : decode prog_8_method_39_code 10 = .ok (.ifCond .eq 15, 3) := by decide +kernel
theorem d_M_glass_13 : decode prog_8_method_39_code 13 = .ok (.iload_n 2, 1) := by decide +kernel
theorem d_M_glass_14 : decode prog_8_method_39_code 14 = .ok (.i2l, 1) := by decide +kernel
theorem d_M_glass_15 : decode prog_8_method_39_code 15 = .ok (.lconst 0, 1) := by decide +kernel
theorem d_M_glass_16 : decode prog_8_method_39_code 16 = .ok (.ldc2_w 259, 3) := by decide +kernel
theorem d_M_glass_19 : decode prog_8_method_39_code 19 = .ok (.invokestatic 108, 3) := by decide +kernel
theorem d_M_glass_22 : decode prog_8_method_39_code 22 = .ok (.ifCond .ne 5, 3) := by decide +kernel
theorem d_M_glass_25 : decode prog_8_method_39_code 25 = .ok (.iconst (-1), 1) := by decide +kernel
theorem d_M_glass_26 : decode prog_8_method_39_code 26 = .ok (.ireturn, 1) := by decide +kernel
theorem d_M_glass_27 : decode prog_8_method_39_code 27 = .ok (.iload_n 2, 1) := by decide +kernel
theorem d_M_glass_28 : decode prog_8_method_39_code 28 = .ok (.tableswitch 82 0 5 #[40, 47, 54, 61, 68, 75], 40) := by decide +kernel
theorem d_M_glass_68 : decode prog_8_method_39_code 68 = .ok (.aload_n 0, 1) := by decide +kernel
theorem d_M_glass_69 : decode prog_8_method_39_code 69 = .ok (.getfield 13, 3) := by decide +kernel
theorem d_M_glass_72 : decode prog_8_method_39_code 72 = .ok (.iload_n 1, 1) := by decide +kernel
theorem d_M_glass_73 : decode prog_8_method_39_code 73 = .ok (.iaload, 1) := by decide +kernel
theorem d_M_glass_74 : decode prog_8_method_39_code 74 = .ok (.ireturn, 1) := by decide +kernel
theorem d_M_glass_75 : decode prog_8_method_39_code 75 = .ok (.aload_n 0, 1) := by decide +kernel
theorem d_M_glass_76 : decode prog_8_method_39_code 76 = .ok (.getfield 17, 3) := by decide +kernel
theorem d_M_glass_79 : decode prog_8_method_39_code 79 = .ok (.iload_n 1, 1) := by decide +kernel
theorem d_M_glass_80 : decode prog_8_method_39_code 80 = .ok (.iaload, 1) := by decide +kernel
theorem d_M_glass_81 : decode prog_8_method_39_code 81 = .ok (.ireturn, 1) := by decide +kernel
theorem d_M_glass_82 : decode prog_8_method_39_code 82 = .ok (.aload_n 0, 1) := by decide +kernel
theorem d_M_glass_83 : decode prog_8_method_39_code 83 = .ok (.getfield 20, 3) := by decide +kernel
theorem d_M_glass_86 : decode prog_8_method_39_code 86 = .ok (.iload_n 1, 1) := by decide +kernel
theorem d_M_glass_87 : decode prog_8_method_39_code 87 = .ok (.iaload, 1) := by decide +kernel
theorem d_M_glass_88 : decode prog_8_method_39_code 88 = .ok (.ireturn, 1) := by decide +kernel
theorem d_M_glass_89 : decode prog_8_method_39_code 89 = .ok (.aload_n 0, 1) := by decide +kernel
theorem d_M_glass_90 : decode prog_8_method_39_code 90 = .ok (.getfield 23, 3) := by decide +kernel
theorem d_M_glass_93 : decode prog_8_method_39_code 93 = .ok (.iload_n 1, 1) := by decide +kernel
theorem d_M_glass_94 : decode prog_8_method_39_code 94 = .ok (.iaload, 1) := by decide +kernel
theorem d_M_glass_95 : decode prog_8_method_39_code 95 = .ok (.ireturn, 1) := by decide +kernel
theorem d_M_glass_96 : decode prog_8_method_39_code 96 = .ok (.aload_n 0, 1) := by decide +kernel
theorem d_M_glass_97 : decode prog_8_method_39_code 97 = .ok (.getfield 29, 3) := by decide +kernel
theorem d_M_glass_100 : decode prog_8_method_39_code 100 = .ok (.iload_n 1, 1) := by decide +kernel
theorem d_M_glass_101 : decode prog_8_method_39_code 101 = .ok (.iaload, 1) := by decide +kernel
theorem d_M_glass_102 : decode prog_8_method_39_code 102 = .ok (.ireturn, 1) := by decide +kernel
theorem d_M_glass_103 : decode prog_8_method_39_code 103 = .ok (.aload_n 0, 1) := by decide +kernel
theorem d_M_glass_104 : decode prog_8_method_39_code 104 = .ok (.getfield 32, 3) := by decide +kernel
theorem d_M_glass_107 : decode prog_8_method_39_code 107 = .ok (.iload_n 1, 1) := by decide +kernel
theorem d_M_glass_108 : decode prog_8_method_39_code 108 = .ok (.iaload, 1) := by decide +kernel
theorem d_M_glass_109 : decode prog_8_method_39_code 109 = .ok (.ireturn, 1) := by decide +kernel
theorem d_M_glass_110 : decode prog_8_method_39_code 110 = .ok (.aload_n 0, 1) := by decide +kernel
theorem d_M_glass_111 : decode prog_8_method_39_code 111 = .ok (.getfield 26, 3) := by decide +kernel
theorem d_M_glass_114 : decode prog_8_method_39_code 114 = .ok (.iload_n 1, 1) := by decide +kernel
theorem d_M_glass_115 : decode prog_8_method_39_code 115 = .ok (.iaload, 1) := by decide +kernel
theorem d_M_glass_116 : decode prog_8_method_39_code 116 = .ok (.ireturn, 1) := by decide +kernel
theorem gc_M_glass_232 : GoodIn yGW (wsV "WhoseGlassModel" 232 yR5 m_M_isGlass ws_M_isGlass) := y_gV g_1006 g_1008 gs_26 g_6 g_1009
set_option maxRecDepth 100000 in
def f_M_glass (F : Nat) (u : Mm) (o : Nat) (a1 : Int32) (a2 : Int32) : Option (Int32 × Mm) := ob (jpi YM 5 23 u (some o) (0 : Int32)) fun (u1 : Mm) => ob (jk YM 5 (some o)) fun t => yb (f_M_isGlass F u1 t a1) fun x2 u3 => (if x2 = 0 then some ((-1 : Int32), u3) else yb (f_M_in F u3 (a2.toInt64) (0 : Int64) (6 : Int64)) fun x5 u6 => (if x5 = 0 then some ((-1 : Int32), u6) else (if a2 = (0 : Int32) then ob (jgr YM 5 4 (some o)) fun (r9 : Option Nat) => ob (jal YM u6 r9 a1) fun (x10 : Int32) => some (x10, u6) else (if a2 = (1 : Int32) then ob (jgr YM 5 5 (some o)) fun (r12 : Option Nat) => ob (jal YM u6 r12 a1) fun (x13 : Int32) => some (x13, u6) else (if a2 = (2 : Int32) then ob (jgr YM 5 6 (some o)) fun (r15 : Option Nat) => ob (jal YM u6 r15 a1) fun (x16 : Int32) => some (x16, u6) else (if a2 = (3 : Int32) then ob (jgr YM 5 7 (some o)) fun (r18 : Option Nat) => ob (jal YM u6 r18 a1) fun (x19 : Int32) => some (x19, u6) else (if a2 = (4 : Int32) then ob (jgr YM 5 9 (some o)) fun (r21 : Option Nat) => ob (jal YM u6 r21 a1) fun (x22 : Int32) => some (x22, u6) else (if a2 = (5 : Int32) then ob (jgr YM 5 10 (some o)) fun (r24 : Option Nat) => ob (jal YM u6 r24 a1) fun (x25 : Int32) => some (x25, u6) else ob (jgr YM 5 8 (some o)) fun (r26 : Option Nat) => ob (jal YM u6 r26 a1) fun (x27 : Int32) => some (x27, u6)))))))))
set_option maxHeartbeats 4000000 in
set_option maxRecDepth 100000 in
theorem c_M_glass (l : Launch) (w : WP) (F : Nat) (u : Mm) (o : Nat) (a1 : Int32) (a2 : Int32) (out : Int32 × Mm) (h : f_M_glass F u o a1 a2 = some out) : yMet l m_M_glass ws_M_glass ({ frames := 2, cells := 0, slots := 0, locals := 46 } : Room) YM w u [va_re w.1 (some o), .int a1, .int a2] yfi out := by
  refine y_entry (own := "WhoseGlassModel") (lv := [(0, va_re w.1 (some o)), (1, .int a1), (2, .int a2)]) (by decide +kernel) rfl (by simp [lv_args, y_cat, y_catI, y_catJ]) (by simp [lg_sl, y_cat, y_catI, y_catJ]) ?_
  intro p e s m args below meth c C hr hlocks
  unfold f_M_glass at h
  refine y_aload_n C (i := 0) 0 d_M_glass_0 rfl rfl ?_
  refine y_iconst C (v := 0) d_M_glass_1 (by decide) ?_
  refine y_pi C (q := (yR5, yT5, 46)) (ci := 5) (k := 23) rfl (by decide) rfl rfl (by decide +kernel) g_807 d_M_glass_2 h (fun u1 h => ?_)
  refine y_aload_n C (i := 0) 0 d_M_glass_5 rfl rfl ?_
  refine y_iload_n C (i := 1) 1 d_M_glass_6 rfl rfl ?_
  refine y_callV 1 C (q := (yR5, yT5, 46)) (ci := 5) (fun t out hh => c_M_isGlass l w F u1 t a1 out hh) gc_M_glass_232 rfl (by decide) hd_M_isGlass ⟨Nat.le_of_ble_eq_true rfl, Nat.le_of_ble_eq_true rfl⟩ rfl rfl rfl rfl (by simp [y_cat, y_catI, y_catJ]) d_M_glass_7 h (fun x2 u3 h => ?_)
  refine y_stk (stp0 := [.int x2]) rfl ?_
  refine y_if_eq C 25 d_M_glass_10 (by decide) h (fun k4 h => ?_) (fun k4 h => ?_)
  · refine y_iconst C (v := -1) d_M_glass_25 (by decide) ?_
    exact y_iret C hr hlocks d_M_glass_26 h
  · refine y_iload_n C (i := 2) 2 d_M_glass_13 rfl rfl ?_
    refine y_i2l C d_M_glass_14 ?_
    refine y_lconst C (v := 0) d_M_glass_15 (by decide) ?_
    refine y_ldc2 C d_M_glass_16 g_1074 ?_
    refine y_callS 3 C (fun out hh => c_M_in l w F u3 (a2.toInt64) (0 : Int64) (6 : Int64) out hh) (y_gc g_959) g_957 g_6 g_958 hn_M_in ⟨Nat.le_of_ble_eq_true rfl, Nat.le_of_ble_eq_true rfl⟩ rfl rfl rfl rfl (by simp [y_cat, y_catI, y_catJ]) d_M_glass_19 h (fun x5 u6 h => ?_)
    refine y_stk (stp0 := [.int x5]) rfl ?_
    refine y_if_ne C 27 d_M_glass_22 (by decide) h (fun k7 h => ?_) (fun k7 h => ?_)
    · refine y_iconst C (v := -1) d_M_glass_25 (by decide) ?_
      exact y_iret C hr hlocks d_M_glass_26 h
    · refine y_iload_n C (i := 2) 2 d_M_glass_27 rfl rfl ?_
      refine y_sp h (fun k8 h => ?_) (fun k8 h => ?_)
      · refine y_tsw C (off := 40) 68 d_M_glass_28 (Or.inr ⟨by rw [k8]; decide, by rw [k8]; decide, by rw [k8]; rfl⟩) (by decide) ?_
        refine y_aload_n C (i := 0) 0 d_M_glass_68 rfl rfl ?_
        refine y_gr C (q := (yR5, yT5, 46)) (ci := 5) (k := 4) rfl (by decide) rfl (by decide) g_788 d_M_glass_69 h (fun r9 h => ?_)
        refine y_iload_n C (i := 1) 1 d_M_glass_72 rfl rfl ?_
        refine y_al C d_M_glass_73 h (fun x10 h => ?_)
        exact y_iret C hr hlocks d_M_glass_74 h
      refine y_sp h (fun k11 h => ?_) (fun k11 h => ?_)
      · refine y_tsw C (off := 47) 75 d_M_glass_28 (Or.inr ⟨by rw [k11]; decide, by rw [k11]; decide, by rw [k11]; rfl⟩) (by decide) ?_
        refine y_aload_n C (i := 0) 0 d_M_glass_75 rfl rfl ?_
        refine y_gr C (q := (yR5, yT5, 46)) (ci := 5) (k := 5) rfl (by decide) rfl (by decide) g_789 d_M_glass_76 h (fun r12 h => ?_)
        refine y_iload_n C (i := 1) 1 d_M_glass_79 rfl rfl ?_
        refine y_al C d_M_glass_80 h (fun x13 h => ?_)
        exact y_iret C hr hlocks d_M_glass_81 h
      refine y_sp h (fun k14 h => ?_) (fun k14 h => ?_)
      · refine y_tsw C (off := 54) 82 d_M_glass_28 (Or.inr ⟨by rw [k14]; decide, by rw [k14]; decide, by rw [k14]; rfl⟩) (by decide) ?_
        refine y_aload_n C (i := 0) 0 d_M_glass_82 rfl rfl ?_
        refine y_gr C (q := (yR5, yT5, 46)) (ci := 5) (k := 6) rfl (by decide) rfl (by decide) g_790 d_M_glass_83 h (fun r15 h => ?_)
        refine y_iload_n C (i := 1) 1 d_M_glass_86 rfl rfl ?_
        refine y_al C d_M_glass_87 h (fun x16 h => ?_)
        exact y_iret C hr hlocks d_M_glass_88 h
      refine y_sp h (fun k17 h => ?_) (fun k17 h => ?_)
      · refine y_tsw C (off := 61) 89 d_M_glass_28 (Or.inr ⟨by rw [k17]; decide, by rw [k17]; decide, by rw [k17]; rfl⟩) (by decide) ?_
        refine y_aload_n C (i := 0) 0 d_M_glass_89 rfl rfl ?_
        refine y_gr C (q := (yR5, yT5, 46)) (ci := 5) (k := 7) rfl (by decide) rfl (by decide) g_791 d_M_glass_90 h (fun r18 h => ?_)
        refine y_iload_n C (i := 1) 1 d_M_glass_93 rfl rfl ?_
        refine y_al C d_M_glass_94 h (fun x19 h => ?_)
        exact y_iret C hr hlocks d_M_glass_95 h
      refine y_sp h (fun k20 h => ?_) (fun k20 h => ?_)
      · refine y_tsw C (off := 68) 96 d_M_glass_28 (Or.inr ⟨by rw [k20]; decide, by rw [k20]; decide, by rw [k20]; rfl⟩) (by decide) ?_
        refine y_aload_n C (i := 0) 0 d_M_glass_96 rfl rfl ?_
        refine y_gr C (q := (yR5, yT5, 46)) (ci := 5) (k := 9) rfl (by decide) rfl (by decide) g_793 d_M_glass_97 h (fun r21 h => ?_)
        refine y_iload_n C (i := 1) 1 d_M_glass_100 rfl rfl ?_
        refine y_al C d_M_glass_101 h (fun x22 h => ?_)
        exact y_iret C hr hlocks d_M_glass_102 h
      refine y_sp h (fun k23 h => ?_) (fun k23 h => ?_)
      · refine y_tsw C (off := 75) 103 d_M_glass_28 (Or.inr ⟨by rw [k23]; decide, by rw [k23]; decide, by rw [k23]; rfl⟩) (by decide) ?_
        refine y_aload_n C (i := 0) 0 d_M_glass_103 rfl rfl ?_
        refine y_gr C (q := (yR5, yT5, 46)) (ci := 5) (k := 10) rfl (by decide) rfl (by decide) g_794 d_M_glass_104 h (fun r24 h => ?_)
        refine y_iload_n C (i := 1) 1 d_M_glass_107 rfl rfl ?_
        refine y_al C d_M_glass_108 h (fun x25 h => ?_)
        exact y_iret C hr hlocks d_M_glass_109 h
      refine y_tsw C (off := 82) 110 d_M_glass_28 (Or.inl ⟨by have ak8 := lv_neT (a := 0) k8 rfl; have ak11 := lv_neT (a := 1) k11 rfl; have ak14 := lv_neT (a := 2) k14 rfl; have ak17 := lv_neT (a := 3) k17 rfl; have ak20 := lv_neT (a := 4) k20 rfl; have ak23 := lv_neT (a := 5) k23 rfl; omega, rfl⟩) (by decide) ?_
      refine y_aload_n C (i := 0) 0 d_M_glass_110 rfl rfl ?_
      refine y_gr C (q := (yR5, yT5, 46)) (ci := 5) (k := 8) rfl (by decide) rfl (by decide) g_792 d_M_glass_111 h (fun r26 h => ?_)
      refine y_iload_n C (i := 1) 1 d_M_glass_114 rfl rfl ?_
      refine y_al C d_M_glass_115 h (fun x27 h => ?_)
      exact y_iret C hr hlocks d_M_glass_116 h
/-! M_guest -/
theorem d_M_guest_0 : decode prog_8_method_40_code 0 = .ok (.aload_n 0, 1) := by decide +kernel
theorem d_M_guest_1 : decode prog_8_method_40_code 1 = .ok (.iconst 0, 1) := by decide +kernel
theorem d_M_guest_2 : decode prog_8_method_40_code 2 = .ok (.putfield 102, 3) := by decide +kernel
theorem d_M_guest_5 : decode prog_8_method_40_code 5 = .ok (.aload_n 0, 1) := by decide +kernel
theorem d_M_guest_6 : decode prog_8_method_40_code 6 = .ok (.iload_n 1, 1) := by decide +kernel
theorem d_M_guest_7 : decode prog_8_method_40_code 7 = .ok (.invokevirtual 228, 3) := by decide +kernel
theorem d_M_guest_10 : decode prog_8_method_40_code 10 = .ok (.ifCond .eq 15, 3) := by decide +kernel
theorem d_M_guest_13 : decode prog_8_method_40_code 13 = .ok (.iload_n 2, 1) := by decide +kernel
theorem d_M_guest_14 : decode prog_8_method_40_code 14 = .ok (.i2l, 1) := by decide +kernel
theorem d_M_guest_15 : decode prog_8_method_40_code 15 = .ok (.lconst 0, 1) := by decide +kernel
theorem d_M_guest_16 : decode prog_8_method_40_code 16 = .ok (.ldc2_w 261, 3) := by decide +kernel
theorem d_M_guest_19 : decode prog_8_method_40_code 19 = .ok (.invokestatic 108, 3) := by decide +kernel
theorem d_M_guest_22 : decode prog_8_method_40_code 22 = .ok (.ifCond .ne 5, 3) := by decide +kernel
theorem d_M_guest_25 : decode prog_8_method_40_code 25 = .ok (.iconst (-1), 1) := by decide +kernel
theorem d_M_guest_26 : decode prog_8_method_40_code 26 = .ok (.ireturn, 1) := by decide +kernel
theorem d_M_guest_27 : decode prog_8_method_40_code 27 = .ok (.iload_n 2, 1) := by decide +kernel
theorem d_M_guest_28 : decode prog_8_method_40_code 28 = .ok (.tableswitch 104 0 7 #[48, 55, 62, 69, 76, 83, 90, 97], 48) := by decide +kernel
theorem d_M_guest_76 : decode prog_8_method_40_code 76 = .ok (.aload_n 0, 1) := by decide +kernel
theorem d_M_guest_77 : decode prog_8_method_40_code 77 = .ok (.getfield 35, 3) := by decide +kernel
theorem d_M_guest_80 : decode prog_8_method_40_code 80 = .ok (.iload_n 1, 1) := by decide +kernel
theorem d_M_guest_81 : decode prog_8_method_40_code 81 = .ok (.iaload, 1) := by decide +kernel
theorem d_M_guest_82 : decode prog_8_method_40_code 82 = .ok (.ireturn, 1) := by decide +kernel
theorem d_M_guest_83 : decode prog_8_method_40_code 83 = .ok (.aload_n 0, 1) := by decide +kernel
theorem d_M_guest_84 : decode prog_8_method_40_code 84 = .ok (.getfield 38, 3) := by decide +kernel
theorem d_M_guest_87 : decode prog_8_method_40_code 87 = .ok (.iload_n 1, 1) := by decide +kernel
theorem d_M_guest_88 : decode prog_8_method_40_code 88 = .ok (.iaload, 1) := by decide +kernel
theorem d_M_guest_89 : decode prog_8_method_40_code 89 = .ok (.ireturn, 1) := by decide +kernel
theorem d_M_guest_90 : decode prog_8_method_40_code 90 = .ok (.aload_n 0, 1) := by decide +kernel
theorem d_M_guest_91 : decode prog_8_method_40_code 91 = .ok (.getfield 41, 3) := by decide +kernel
theorem d_M_guest_94 : decode prog_8_method_40_code 94 = .ok (.iload_n 1, 1) := by decide +kernel
theorem d_M_guest_95 : decode prog_8_method_40_code 95 = .ok (.iaload, 1) := by decide +kernel
theorem d_M_guest_96 : decode prog_8_method_40_code 96 = .ok (.ireturn, 1) := by decide +kernel
theorem d_M_guest_97 : decode prog_8_method_40_code 97 = .ok (.aload_n 0, 1) := by decide +kernel
theorem d_M_guest_98 : decode prog_8_method_40_code 98 = .ok (.getfield 44, 3) := by decide +kernel
theorem d_M_guest_101 : decode prog_8_method_40_code 101 = .ok (.iload_n 1, 1) := by decide +kernel
theorem d_M_guest_102 : decode prog_8_method_40_code 102 = .ok (.iaload, 1) := by decide +kernel
theorem d_M_guest_103 : decode prog_8_method_40_code 103 = .ok (.ireturn, 1) := by decide +kernel
theorem d_M_guest_104 : decode prog_8_method_40_code 104 = .ok (.aload_n 0, 1) := by decide +kernel
theorem d_M_guest_105 : decode prog_8_method_40_code 105 = .ok (.getfield 47, 3) := by decide +kernel
theorem d_M_guest_108 : decode prog_8_method_40_code 108 = .ok (.iload_n 1, 1) := by decide +kernel
theorem d_M_guest_109 : decode prog_8_method_40_code 109 = .ok (.iaload, 1) := by decide +kernel
theorem d_M_guest_110 : decode prog_8_method_40_code 110 = .ok (.ireturn, 1) := by decide +kernel
theorem d_M_guest_111 : decode prog_8_method_40_code 111 = .ok (.aload_n 0, 1) := by decide +kernel
theorem d_M_guest_112 : decode prog_8_method_40_code 112 = .ok (.getfield 50, 3) := by decide +kernel
theorem d_M_guest_115 : decode prog_8_method_40_code 115 = .ok (.iload_n 1, 1) := by decide +kernel
theorem d_M_guest_116 : decode prog_8_method_40_code 116 = .ok (.iaload, 1) := by decide +kernel
theorem d_M_guest_117 : decode prog_8_method_40_code 117 = .ok (.ireturn, 1) := by decide +kernel
theorem d_M_guest_118 : decode prog_8_method_40_code 118 = .ok (.aload_n 0, 1) := by decide +kernel
theorem d_M_guest_119 : decode prog_8_method_40_code 119 = .ok (.getfield 53, 3) := by decide +kernel
theorem d_M_guest_122 : decode prog_8_method_40_code 122 = .ok (.iload_n 1, 1) := by decide +kernel
theorem d_M_guest_123 : decode prog_8_method_40_code 123 = .ok (.iaload, 1) := by decide +kernel
theorem d_M_guest_124 : decode prog_8_method_40_code 124 = .ok (.ireturn, 1) := by decide +kernel
theorem d_M_guest_125 : decode prog_8_method_40_code 125 = .ok (.aload_n 0, 1) := by decide +kernel
theorem d_M_guest_126 : decode prog_8_method_40_code 126 = .ok (.getfield 56, 3) := by decide +kernel
theorem d_M_guest_129 : decode prog_8_method_40_code 129 = .ok (.iload_n 1, 1) := by decide +kernel
theorem d_M_guest_130 : decode prog_8_method_40_code 130 = .ok (.iaload, 1) := by decide +kernel
theorem d_M_guest_131 : decode prog_8_method_40_code 131 = .ok (.ireturn, 1) := by decide +kernel
theorem d_M_guest_132 : decode prog_8_method_40_code 132 = .ok (.aload_n 0, 1) := by decide +kernel
theorem d_M_guest_133 : decode prog_8_method_40_code 133 = .ok (.getfield 59, 3) := by decide +kernel
theorem d_M_guest_136 : decode prog_8_method_40_code 136 = .ok (.iload_n 1, 1) := by decide +kernel
theorem d_M_guest_137 : decode prog_8_method_40_code 137 = .ok (.iaload, 1) := by decide +kernel
theorem d_M_guest_138 : decode prog_8_method_40_code 138 = .ok (.ireturn, 1) := by decide +kernel
theorem gc_M_guest_228 : GoodIn yGW (wsV "WhoseGlassModel" 228 yR5 m_M_isGuest ws_M_isGuest) := y_gV g_1002 g_1004 gs_25 g_6 g_1005
set_option maxRecDepth 100000 in
def f_M_guest (F : Nat) (u : Mm) (o : Nat) (a1 : Int32) (a2 : Int32) : Option (Int32 × Mm) := ob (jpi YM 5 23 u (some o) (0 : Int32)) fun (u1 : Mm) => ob (jk YM 5 (some o)) fun t => yb (f_M_isGuest F u1 t a1) fun x2 u3 => (if x2 = 0 then some ((-1 : Int32), u3) else yb (f_M_in F u3 (a2.toInt64) (0 : Int64) (8 : Int64)) fun x5 u6 => (if x5 = 0 then some ((-1 : Int32), u6) else (if a2 = (0 : Int32) then ob (jgr YM 5 11 (some o)) fun (r9 : Option Nat) => ob (jal YM u6 r9 a1) fun (x10 : Int32) => some (x10, u6) else (if a2 = (1 : Int32) then ob (jgr YM 5 12 (some o)) fun (r12 : Option Nat) => ob (jal YM u6 r12 a1) fun (x13 : Int32) => some (x13, u6) else (if a2 = (2 : Int32) then ob (jgr YM 5 13 (some o)) fun (r15 : Option Nat) => ob (jal YM u6 r15 a1) fun (x16 : Int32) => some (x16, u6) else (if a2 = (3 : Int32) then ob (jgr YM 5 14 (some o)) fun (r18 : Option Nat) => ob (jal YM u6 r18 a1) fun (x19 : Int32) => some (x19, u6) else (if a2 = (4 : Int32) then ob (jgr YM 5 15 (some o)) fun (r21 : Option Nat) => ob (jal YM u6 r21 a1) fun (x22 : Int32) => some (x22, u6) else (if a2 = (5 : Int32) then ob (jgr YM 5 16 (some o)) fun (r24 : Option Nat) => ob (jal YM u6 r24 a1) fun (x25 : Int32) => some (x25, u6) else (if a2 = (6 : Int32) then ob (jgr YM 5 17 (some o)) fun (r27 : Option Nat) => ob (jal YM u6 r27 a1) fun (x28 : Int32) => some (x28, u6) else (if a2 = (7 : Int32) then ob (jgr YM 5 18 (some o)) fun (r30 : Option Nat) => ob (jal YM u6 r30 a1) fun (x31 : Int32) => some (x31, u6) else ob (jgr YM 5 19 (some o)) fun (r32 : Option Nat) => ob (jal YM u6 r32 a1) fun (x33 : Int32) => some (x33, u6)))))))))))
set_option maxHeartbeats 4000000 in
set_option maxRecDepth 100000 in
theorem c_M_guest (l : Launch) (w : WP) (F : Nat) (u : Mm) (o : Nat) (a1 : Int32) (a2 : Int32) (out : Int32 × Mm) (h : f_M_guest F u o a1 a2 = some out) : yMet l m_M_guest ws_M_guest ({ frames := 2, cells := 0, slots := 0, locals := 46 } : Room) YM w u [va_re w.1 (some o), .int a1, .int a2] yfi out := by
  refine y_entry (own := "WhoseGlassModel") (lv := [(0, va_re w.1 (some o)), (1, .int a1), (2, .int a2)]) (by decide +kernel) rfl (by simp [lv_args, y_cat, y_catI, y_catJ]) (by simp [lg_sl, y_cat, y_catI, y_catJ]) ?_
  intro p e s m args below meth c C hr hlocks
  unfold f_M_guest at h
  refine y_aload_n C (i := 0) 0 d_M_guest_0 rfl rfl ?_
  refine y_iconst C (v := 0) d_M_guest_1 (by decide) ?_
  refine y_pi C (q := (yR5, yT5, 46)) (ci := 5) (k := 23) rfl (by decide) rfl rfl (by decide +kernel) g_807 d_M_guest_2 h (fun u1 h => ?_)
  refine y_aload_n C (i := 0) 0 d_M_guest_5 rfl rfl ?_
  refine y_iload_n C (i := 1) 1 d_M_guest_6 rfl rfl ?_
  refine y_callV 1 C (q := (yR5, yT5, 46)) (ci := 5) (fun t out hh => c_M_isGuest l w F u1 t a1 out hh) gc_M_guest_228 rfl (by decide) hd_M_isGuest ⟨Nat.le_of_ble_eq_true rfl, Nat.le_of_ble_eq_true rfl⟩ rfl rfl rfl rfl (by simp [y_cat, y_catI, y_catJ]) d_M_guest_7 h (fun x2 u3 h => ?_)
  refine y_stk (stp0 := [.int x2]) rfl ?_
  refine y_if_eq C 25 d_M_guest_10 (by decide) h (fun k4 h => ?_) (fun k4 h => ?_)
  · refine y_iconst C (v := -1) d_M_guest_25 (by decide) ?_
    exact y_iret C hr hlocks d_M_guest_26 h
  · refine y_iload_n C (i := 2) 2 d_M_guest_13 rfl rfl ?_
    refine y_i2l C d_M_guest_14 ?_
    refine y_lconst C (v := 0) d_M_guest_15 (by decide) ?_
    refine y_ldc2 C d_M_guest_16 g_1079 ?_
    refine y_callS 3 C (fun out hh => c_M_in l w F u3 (a2.toInt64) (0 : Int64) (8 : Int64) out hh) (y_gc g_959) g_957 g_6 g_958 hn_M_in ⟨Nat.le_of_ble_eq_true rfl, Nat.le_of_ble_eq_true rfl⟩ rfl rfl rfl rfl (by simp [y_cat, y_catI, y_catJ]) d_M_guest_19 h (fun x5 u6 h => ?_)
    refine y_stk (stp0 := [.int x5]) rfl ?_
    refine y_if_ne C 27 d_M_guest_22 (by decide) h (fun k7 h => ?_) (fun k7 h => ?_)
    · refine y_iconst C (v := -1) d_M_guest_25 (by decide) ?_
      exact y_iret C hr hlocks d_M_guest_26 h
    · refine y_iload_n C (i := 2) 2 d_M_guest_27 rfl rfl ?_
      refine y_sp h (fun k8 h => ?_) (fun k8 h => ?_)
      · refine y_tsw C (off := 48) 76 d_M_guest_28 (Or.inr ⟨by rw [k8]; decide, by rw [k8]; decide, by rw [k8]; rfl⟩) (by decide) ?_
        refine y_aload_n C (i := 0) 0 d_M_guest_76 rfl rfl ?_
        refine y_gr C (q := (yR5, yT5, 46)) (ci := 5) (k := 11) rfl (by decide) rfl (by decide) g_795 d_M_guest_77 h (fun r9 h => ?_)
        refine y_iload_n C (i := 1) 1 d_M_guest_80 rfl rfl ?_
        refine y_al C d_M_guest_81 h (fun x10 h => ?_)
        exact y_iret C hr hlocks d_M_guest_82 h
      refine y_sp h (fun k11 h => ?_) (fun k11 h => ?_)
      · refine y_tsw C (off := 55) 83 d_M_guest_28 (Or.inr ⟨by rw [k11]; decide, by rw [k11]; decide, by rw [k11]; rfl⟩) (by decide) ?_
        refine y_aload_n C (i := 0) 0 d_M_guest_83 rfl rfl ?_
        refine y_gr C (q := (yR5, yT5, 46)) (ci := 5) (k := 12) rfl (by decide) rfl (by decide) g_796 d_M_guest_84 h (fun r12 h => ?_)
        refine y_iload_n C (i := 1) 1 d_M_guest_87 rfl rfl ?_
        refine y_al C d_M_guest_88 h (fun x13 h => ?_)
        exact y_iret C hr hlocks d_M_guest_89 h
      refine y_sp h (fun k14 h => ?_) (fun k14 h => ?_)
      · refine y_tsw C (off := 62) 90 d_M_guest_28 (Or.inr ⟨by rw [k14]; decide, by rw [k14]; decide, by rw [k14]; rfl⟩) (by decide) ?_
        refine y_aload_n C (i := 0) 0 d_M_guest_90 rfl rfl ?_
        refine y_gr C (q := (yR5, yT5, 46)) (ci := 5) (k := 13) rfl (by decide) rfl (by decide) g_797 d_M_guest_91 h (fun r15 h => ?_)
        refine y_iload_n C (i := 1) 1 d_M_guest_94 rfl rfl ?_
        refine y_al C d_M_guest_95 h (fun x16 h => ?_)
        exact y_iret C hr hlocks d_M_guest_96 h
      refine y_sp h (fun k17 h => ?_) (fun k17 h => ?_)
      · refine y_tsw C (off := 69) 97 d_M_guest_28 (Or.inr ⟨by rw [k17]; decide, by rw [k17]; decide, by rw [k17]; rfl⟩) (by decide) ?_
        refine y_aload_n C (i := 0) 0 d_M_guest_97 rfl rfl ?_
        refine y_gr C (q := (yR5, yT5, 46)) (ci := 5) (k := 14) rfl (by decide) rfl (by decide) g_798 d_M_guest_98 h (fun r18 h => ?_)
        refine y_iload_n C (i := 1) 1 d_M_guest_101 rfl rfl ?_
        refine y_al C d_M_guest_102 h (fun x19 h => ?_)
        exact y_iret C hr hlocks d_M_guest_103 h
      refine y_sp h (fun k20 h => ?_) (fun k20 h => ?_)
      · refine y_tsw C (off := 76) 104 d_M_guest_28 (Or.inr ⟨by rw [k20]; decide, by rw [k20]; decide, by rw [k20]; rfl⟩) (by decide) ?_
        refine y_aload_n C (i := 0) 0 d_M_guest_104 rfl rfl ?_
        refine y_gr C (q := (yR5, yT5, 46)) (ci := 5) (k := 15) rfl (by decide) rfl (by decide) g_799 d_M_guest_105 h (fun r21 h => ?_)
        refine y_iload_n C (i := 1) 1 d_M_guest_108 rfl rfl ?_
        refine y_al C d_M_guest_109 h (fun x22 h => ?_)
        exact y_iret C hr hlocks d_M_guest_110 h
      refine y_sp h (fun k23 h => ?_) (fun k23 h => ?_)
      · refine y_tsw C (off := 83) 111 d_M_guest_28 (Or.inr ⟨by rw [k23]; decide, by rw [k23]; decide, by rw [k23]; rfl⟩) (by decide) ?_
        refine y_aload_n C (i := 0) 0 d_M_guest_111 rfl rfl ?_
        refine y_gr C (q := (yR5, yT5, 46)) (ci := 5) (k := 16) rfl (by decide) rfl (by decide) g_800 d_M_guest_112 h (fun r24 h => ?_)
        refine y_iload_n C (i := 1) 1 d_M_guest_115 rfl rfl ?_
        refine y_al C d_M_guest_116 h (fun x25 h => ?_)
        exact y_iret C hr hlocks d_M_guest_117 h
      refine y_sp h (fun k26 h => ?_) (fun k26 h => ?_)
      · refine y_tsw C (off := 90) 118 d_M_guest_28 (Or.inr ⟨by rw [k26]; decide, by rw [k26]; decide, by rw [k26]; rfl⟩) (by decide) ?_
        refine y_aload_n C (i := 0) 0 d_M_guest_118 rfl rfl ?_
        refine y_gr C (q := (yR5, yT5, 46)) (ci := 5) (k := 17) rfl (by decide) rfl (by decide) g_801 d_M_guest_119 h (fun r27 h => ?_)
        refine y_iload_n C (i := 1) 1 d_M_guest_122 rfl rfl ?_
        refine y_al C d_M_guest_123 h (fun x28 h => ?_)
        exact y_iret C hr hlocks d_M_guest_124 h
      refine y_sp h (fun k29 h => ?_) (fun k29 h => ?_)
      · refine y_tsw C (off := 97) 125 d_M_guest_28 (Or.inr ⟨by rw [k29]; decide, by rw [k29]; decide, by rw [k29]; rfl⟩) (by decide) ?_
        refine y_aload_n C (i := 0) 0 d_M_guest_125 rfl rfl ?_
        refine y_gr C (q := (yR5, yT5, 46)) (ci := 5) (k := 18) rfl (by decide) rfl (by decide) g_802 d_M_guest_126 h (fun r30 h => ?_)
        refine y_iload_n C (i := 1) 1 d_M_guest_129 rfl rfl ?_
        refine y_al C d_M_guest_130 h (fun x31 h => ?_)
        exact y_iret C hr hlocks d_M_guest_131 h
      refine y_tsw C (off := 104) 132 d_M_guest_28 (Or.inl ⟨by have ak8 := lv_neT (a := 0) k8 rfl; have ak11 := lv_neT (a := 1) k11 rfl; have ak14 := lv_neT (a := 2) k14 rfl; have ak17 := lv_neT (a := 3) k17 rfl; have ak20 := lv_neT (a := 4) k20 rfl; have ak23 := lv_neT (a := 5) k23 rfl; have ak26 := lv_neT (a := 6) k26 rfl; have ak29 := lv_neT (a := 7) k29 rfl; omega, rfl⟩) (by decide) ?_
      refine y_aload_n C (i := 0) 0 d_M_guest_132 rfl rfl ?_
      refine y_gr C (q := (yR5, yT5, 46)) (ci := 5) (k := 19) rfl (by decide) rfl (by decide) g_803 d_M_guest_133 h (fun r32 h => ?_)
      refine y_iload_n C (i := 1) 1 d_M_guest_136 rfl rfl ?_
      refine y_al C d_M_guest_137 h (fun x33 h => ?_)
      exact y_iret C hr hlocks d_M_guest_138 h
/-! M_isPlace -/
theorem d_M_isPlace_0 : decode prog_8_method_6_code 0 = .ok (.iload_n 0, 1) := by decide +kernel
theorem d_M_isPlace_1 : decode prog_8_method_6_code 1 = .ok (.i2l, 1) := by decide +kernel
theorem d_M_isPlace_2 : decode prog_8_method_6_code 2 = .ok (.lconst 0, 1) := by decide +kernel
theorem d_M_isPlace_3 : decode prog_8_method_6_code 3 = .ok (.ldc2_w 115, 3) := by decide +kernel
theorem d_M_isPlace_6 : decode prog_8_method_6_code 6 = .ok (.invokestatic 108, 3) := by decide +kernel
theorem d_M_isPlace_9 : decode prog_8_method_6_code 9 = .ok (.ireturn, 1) := by decide +kernel
set_option maxRecDepth 100000 in
def f_M_isPlace (F : Nat) (u : Mm) (a0 : Int32) : Option (Int32 × Mm) := yb (f_M_in F u (a0.toInt64) (0 : Int64) (5 : Int64)) fun x1 u2 => ob (jz x1) (fun v => some (v, u2))
set_option maxHeartbeats 4000000 in
set_option maxRecDepth 100000 in
theorem c_M_isPlace (l : Launch) (w : WP) (F : Nat) (u : Mm) (a0 : Int32) (out : Int32 × Mm) (h : f_M_isPlace F u a0 = some out) : yMet l m_M_isPlace ws_M_isPlace ({ frames := 1, cells := 0, slots := 0, locals := 25 } : Room) YM w u [.int a0] yfi out := by
  refine y_entry (own := "WhoseGlassModel") (lv := [(0, .int a0)]) (by decide +kernel) rfl (by simp [lv_args, y_cat, y_catI, y_catJ]) (by simp [lg_sl, y_cat, y_catI, y_catJ]) ?_
  intro p e s m args below meth c C hr hlocks
  unfold f_M_isPlace at h
  refine y_iload_n C (i := 0) 0 d_M_isPlace_0 rfl rfl ?_
  refine y_i2l C d_M_isPlace_1 ?_
  refine y_lconst C (v := 0) d_M_isPlace_2 (by decide) ?_
  refine y_ldc2 C d_M_isPlace_3 g_1087 ?_
  refine y_callS 3 C (fun out hh => c_M_in l w F u (a0.toInt64) (0 : Int64) (5 : Int64) out hh) (y_gc g_959) g_957 g_6 g_958 hn_M_in ⟨Nat.le_of_ble_eq_true rfl, Nat.le_of_ble_eq_true rfl⟩ rfl rfl rfl rfl (by simp [y_cat, y_catI, y_catJ]) d_M_isPlace_6 h (fun x1 u2 h => ?_)
  refine y_stk (stp0 := [.int x1]) rfl ?_
  exact y_zret C hr hlocks d_M_isPlace_9 h
/-! M_wrongKept -/
theorem d_M_wrongKept_0 : decode prog_8_method_41_code 0 = .ok (.iload_n 1, 1) := by decide +kernel
theorem d_M_wrongKept_1 : decode prog_8_method_41_code 1 = .ok (.i2l, 1) := by decide +kernel
theorem d_M_wrongKept_2 : decode prog_8_method_41_code 2 = .ok (.lconst 0, 1) := by decide +kernel
theorem d_M_wrongKept_3 : decode prog_8_method_41_code 3 = .ok (.ldc2_w 263, 3) := by decide +kernel
theorem d_M_wrongKept_6 : decode prog_8_method_41_code 6 = .ok (.invokestatic 108, 3) := by decide +kernel
theorem d_M_wrongKept_9 : decode prog_8_method_41_code 9 = .ok (.ifCond .ne 7, 3) := by decide +kernel
theorem d_M_wrongKept_12 : decode prog_8_method_41_code 12 = .ok (.iconst (-1), 1) := by decide +kernel
theorem d_M_wrongKept_13 : decode prog_8_method_41_code 13 = .ok (.goto 33, 3) := by decide +kernel
theorem d_M_wrongKept_16 : decode prog_8_method_41_code 16 = .ok (.aload_n 0, 1) := by decide +kernel
theorem d_M_wrongKept_17 : decode prog_8_method_41_code 17 = .ok (.getfield 80, 3) := by decide +kernel
theorem d_M_wrongKept_20 : decode prog_8_method_41_code 20 = .ok (.iload_n 1, 1) := by decide +kernel
theorem d_M_wrongKept_21 : decode prog_8_method_41_code 21 = .ok (.iaload, 1) := by decide +kernel
theorem d_M_wrongKept_22 : decode prog_8_method_41_code 22 = .ok (.ifCond .ne 8, 3) := by decide +kernel
theorem d_M_wrongKept_25 : decode prog_8_method_41_code 25 = .ok (.bipush (-11), 2) := by decide +kernel
theorem d_M_wrongKept_27 : decode prog_8_method_41_code 27 = .ok (.goto 19, 3) := by decide +kernel
theorem d_M_wrongKept_30 : decode prog_8_method_41_code 30 = .ok (.aload_n 0, 1) := by decide +kernel
theorem d_M_wrongKept_31 : decode prog_8_method_41_code 31 = .ok (.getfield 80, 3) := by decide +kernel
theorem d_M_wrongKept_34 : decode prog_8_method_41_code 34 = .ok (.iload_n 1, 1) := by decide +kernel
theorem d_M_wrongKept_35 : decode prog_8_method_41_code 35 = .ok (.iaload, 1) := by decide +kernel
theorem d_M_wrongKept_36 : decode prog_8_method_41_code 36 = .ok (.iconst 1, 1) := by decide +kernel
theorem d_M_wrongKept_37 : decode prog_8_method_41_code 37 = .ok (.if_icmp .eq 8, 3) := by decide +kernel
theorem d_M_wrongKept_40 : decode prog_8_method_41_code 40 = .ok (.bipush (-12), 2) := by decide +kernel
theorem d_M_wrongKept_42 : decode prog_8_method_41_code 42 = .ok (.goto 4, 3) := by decide +kernel
theorem d_M_wrongKept_45 : decode prog_8_method_41_code 45 = .ok (.iconst 0, 1) := by decide +kernel
theorem d_M_wrongKept_46 : decode prog_8_method_41_code 46 = .ok (.ireturn, 1) := by decide +kernel
set_option maxRecDepth 100000 in
def f_M_wrongKept (F : Nat) (u : Mm) (o : Nat) (a1 : Int32) : Option (Int32 × Mm) := yb (f_M_in F u (a1.toInt64) (0 : Int64) (7 : Int64)) fun x1 u2 => (if x1 = 0 then some ((-1 : Int32), u2) else ob (jgr YM 5 39 (some o)) fun (r4 : Option Nat) => ob (jal YM u2 r4 a1) fun (x5 : Int32) => (if x5 = 0 then some ((-11 : Int32), u2) else ob (jgr YM 5 39 (some o)) fun (r7 : Option Nat) => ob (jal YM u2 r7 a1) fun (x8 : Int32) => (if x8 = (1 : Int32) then some ((0 : Int32), u2) else some ((-12 : Int32), u2))))
set_option maxHeartbeats 4000000 in
set_option maxRecDepth 100000 in
theorem c_M_wrongKept (l : Launch) (w : WP) (F : Nat) (u : Mm) (o : Nat) (a1 : Int32) (out : Int32 × Mm) (h : f_M_wrongKept F u o a1 = some out) : yMet l m_M_wrongKept ws_M_wrongKept ({ frames := 1, cells := 0, slots := 0, locals := 25 } : Room) YM w u [va_re w.1 (some o), .int a1] yfi out := by
  refine y_entry (own := "WhoseGlassModel") (lv := [(0, va_re w.1 (some o)), (1, .int a1)]) (by decide +kernel) rfl (by simp [lv_args, y_cat, y_catI, y_catJ]) (by simp [lg_sl, y_cat, y_catI, y_catJ]) ?_
  intro p e s m args below meth c C hr hlocks
  unfold f_M_wrongKept at h
  refine y_iload_n C (i := 1) 1 d_M_wrongKept_0 rfl rfl ?_
  refine y_i2l C d_M_wrongKept_1 ?_
  refine y_lconst C (v := 0) d_M_wrongKept_2 (by decide) ?_
  refine y_ldc2 C d_M_wrongKept_3 g_956 ?_
  refine y_callS 3 C (fun out hh => c_M_in l w F u (a1.toInt64) (0 : Int64) (7 : Int64) out hh) (y_gc g_959) g_957 g_6 g_958 hn_M_in ⟨Nat.le_of_ble_eq_true rfl, Nat.le_of_ble_eq_true rfl⟩ rfl rfl rfl rfl (by simp [y_cat, y_catI, y_catJ]) d_M_wrongKept_6 h (fun x1 u2 h => ?_)
  refine y_stk (stp0 := [.int x1]) rfl ?_
  refine y_if_ne C 16 d_M_wrongKept_9 (by decide) h (fun k3 h => ?_) (fun k3 h => ?_)
  · refine y_iconst C (v := -1) d_M_wrongKept_12 (by decide) ?_
    refine y_goto C (tgt := 46) d_M_wrongKept_13 (by decide) ?_
    exact y_iret C hr hlocks d_M_wrongKept_46 h
  · refine y_aload_n C (i := 0) 0 d_M_wrongKept_16 rfl rfl ?_
    refine y_gr C (q := (yR5, yT5, 46)) (ci := 5) (k := 39) rfl (by decide) rfl (by decide) g_823 d_M_wrongKept_17 h (fun r4 h => ?_)
    refine y_iload_n C (i := 1) 1 d_M_wrongKept_20 rfl rfl ?_
    refine y_al C d_M_wrongKept_21 h (fun x5 h => ?_)
    refine y_if_ne C 30 d_M_wrongKept_22 (by decide) h (fun k6 h => ?_) (fun k6 h => ?_)
    · refine y_bipush C (v := -11) d_M_wrongKept_25 (by decide) ?_
      refine y_goto C (tgt := 46) d_M_wrongKept_27 (by decide) ?_
      exact y_iret C hr hlocks d_M_wrongKept_46 h
    · refine y_aload_n C (i := 0) 0 d_M_wrongKept_30 rfl rfl ?_
      refine y_gr C (q := (yR5, yT5, 46)) (ci := 5) (k := 39) rfl (by decide) rfl (by decide) g_823 d_M_wrongKept_31 h (fun r7 h => ?_)
      refine y_iload_n C (i := 1) 1 d_M_wrongKept_34 rfl rfl ?_
      refine y_al C d_M_wrongKept_35 h (fun x8 h => ?_)
      refine y_iconst C (v := 1) d_M_wrongKept_36 (by decide) ?_
      refine y_ic_eq C 45 d_M_wrongKept_37 (by decide) h (fun k9 h => ?_) (fun k9 h => ?_)
      · refine y_iconst C (v := 0) d_M_wrongKept_45 (by decide) ?_
        exact y_iret C hr hlocks d_M_wrongKept_46 h
      · refine y_bipush C (v := -12) d_M_wrongKept_40 (by decide) ?_
        refine y_goto C (tgt := 46) d_M_wrongKept_42 (by decide) ?_
        exact y_iret C hr hlocks d_M_wrongKept_46 h
/-! M_comes -/
theorem d_M_comes_0 : decode prog_8_method_42_code 0 = .ok (.aload_n 0, 1) := by decide +kernel
theorem d_M_comes_1 : decode prog_8_method_42_code 1 = .ok (.iconst 0, 1) := by decide +kernel
theorem d_M_comes_2 : decode prog_8_method_42_code 2 = .ok (.putfield 102, 3) := by decide +kernel
theorem d_M_comes_5 : decode prog_8_method_42_code 5 = .ok (.iload_n 2, 1) := by decide +kernel
theorem d_M_comes_6 : decode prog_8_method_42_code 6 = .ok (.invokestatic 265, 3) := by decide +kernel
theorem d_M_comes_9 : decode prog_8_method_42_code 9 = .ok (.ifCond .eq 11, 3) := by decide +kernel
theorem d_M_comes_12 : decode prog_8_method_42_code 12 = .ok (.aload_n 0, 1) := by decide +kernel
theorem d_M_comes_13 : decode prog_8_method_42_code 13 = .ok (.iload_n 1, 1) := by decide +kernel
theorem d_M_comes_14 : decode prog_8_method_42_code 14 = .ok (.invokevirtual 268, 3) := by decide +kernel
theorem d_M_comes_17 : decode prog_8_method_42_code 17 = .ok (.goto 4, 3) := by decide +kernel
theorem d_M_comes_20 : decode prog_8_method_42_code 20 = .ok (.iconst (-1), 1) := by decide +kernel
theorem d_M_comes_21 : decode prog_8_method_42_code 21 = .ok (.istore_n 3, 1) := by decide +kernel
theorem d_M_comes_22 : decode prog_8_method_42_code 22 = .ok (.iload_n 3, 1) := by decide +kernel
theorem d_M_comes_23 : decode prog_8_method_42_code 23 = .ok (.ifCond .ne 17, 3) := by decide +kernel
theorem d_M_comes_26 : decode prog_8_method_42_code 26 = .ok (.aload_n 0, 1) := by decide +kernel
theorem d_M_comes_27 : decode prog_8_method_42_code 27 = .ok (.getfield 105, 3) := by decide +kernel
theorem d_M_comes_30 : decode prog_8_method_42_code 30 = .ok (.bipush 12, 2) := by decide +kernel
theorem d_M_comes_32 : decode prog_8_method_42_code 32 = .ok (.if_icmp .ne 8, 3) := by decide +kernel
theorem d_M_comes_35 : decode prog_8_method_42_code 35 = .ok (.bipush (-2), 2) := by decide +kernel
theorem d_M_comes_37 : decode prog_8_method_42_code 37 = .ok (.goto 4, 3) := by decide +kernel
theorem d_M_comes_40 : decode prog_8_method_42_code 40 = .ok (.iload_n 3, 1) := by decide +kernel
theorem d_M_comes_41 : decode prog_8_method_42_code 41 = .ok (.istore_n 3, 1) := by decide +kernel
theorem d_M_comes_42 : decode prog_8_method_42_code 42 = .ok (.iload_n 3, 1) := by decide +kernel
theorem d_M_comes_43 : decode prog_8_method_42_code 43 = .ok (.ifCond .ge 7, 3) := by decide +kernel
theorem d_M_comes_46 : decode prog_8_method_42_code 46 = .ok (.iload_n 3, 1) := by decide +kernel
theorem d_M_comes_47 : decode prog_8_method_42_code 47 = .ok (.goto 22, 3) := by decide +kernel
theorem d_M_comes_50 : decode prog_8_method_42_code 50 = .ok (.aload_n 0, 1) := by decide +kernel
theorem d_M_comes_51 : decode prog_8_method_42_code 51 = .ok (.aload_n 0, 1) := by decide +kernel
theorem d_M_comes_52 : decode prog_8_method_42_code 52 = .ok (.getfield 83, 3) := by decide +kernel
theorem d_M_comes_55 : decode prog_8_method_42_code 55 = .ok (.iload_n 1, 1) := by decide +kernel
theorem d_M_comes_56 : decode prog_8_method_42_code 56 = .ok (.iaload, 1) := by decide +kernel
theorem d_M_comes_57 : decode prog_8_method_42_code 57 = .ok (.aload_n 0, 1) := by decide +kernel
theorem d_M_comes_58 : decode prog_8_method_42_code 58 = .ok (.getfield 86, 3) := by decide +kernel
theorem d_M_comes_61 : decode prog_8_method_42_code 61 = .ok (.iload_n 1, 1) := by decide +kernel
theorem d_M_comes_62 : decode prog_8_method_42_code 62 = .ok (.iaload, 1) := by decide +kernel
theorem d_M_comes_63 : decode prog_8_method_42_code 63 = .ok (.bipush 9, 2) := by decide +kernel
theorem d_M_comes_65 : decode prog_8_method_42_code 65 = .ok (.iload_n 2, 1) := by decide +kernel
theorem d_M_comes_66 : decode prog_8_method_42_code 66 = .ok (.invokevirtual 153, 3) := by decide +kernel
theorem d_M_comes_69 : decode prog_8_method_42_code 69 = .ok (.ireturn, 1) := by decide +kernel
theorem gc_M_comes_268 : GoodIn yGW (wsV "WhoseGlassModel" 268 yR5 m_M_wrongKept ws_M_wrongKept) := y_gV g_1088 g_1090 gs_42 g_6 g_1091
theorem gc_M_comes_153 : GoodIn yGW (wsV "WhoseGlassModel" 153 yR5 m_M_bring ws_M_bring) := y_gV g_990 g_992 gs_22 g_6 g_993
set_option maxRecDepth 100000 in
def f_M_comes (F : Nat) (u : Mm) (o : Nat) (a1 : Int32) (a2 : Int32) : Option (Int32 × Mm) := ob (jpi YM 5 23 u (some o) (0 : Int32)) fun (u1 : Mm) => yb (f_M_isPlace F u1 a2) fun x2 u3 => ob ((if x2 = 0 then some ((-1 : Int32), u3) else ob (jk YM 5 (some o)) fun t => yb (f_M_wrongKept F u3 t a1) fun x6 u7 => some (x6, u7)) : Option (Int32 × Mm)) fun q4 => ob ((if q4.1 = 0 then ob (jgi YM 5 0 q4.2 (some o)) fun (x10 : Int32) => (if x10 = (12 : Int32) then some (-2 : Int32) else some q4.1) else some q4.1) : Option (Int32)) fun q8 => (if 0 ≤ q8 then ob (jgr YM 5 40 (some o)) fun (r13 : Option Nat) => ob (jal YM q4.2 r13 a1) fun (x14 : Int32) => ob (jgr YM 5 41 (some o)) fun (r15 : Option Nat) => ob (jal YM q4.2 r15 a1) fun (x16 : Int32) => ob (jk YM 5 (some o)) fun t => yb (f_M_bring F q4.2 t x14 x16 (9 : Int32) a2) fun x17 u18 => some (x17, u18) else some (q8, q4.2))
set_option maxHeartbeats 4000000 in
set_option maxRecDepth 100000 in
theorem c_M_comes (l : Launch) (w : WP) (F : Nat) (u : Mm) (o : Nat) (a1 : Int32) (a2 : Int32) (out : Int32 × Mm) (h : f_M_comes F u o a1 a2 = some out) : yMet l m_M_comes ws_M_comes ({ frames := 2, cells := 0, slots := 0, locals := 46 } : Room) YM w u [va_re w.1 (some o), .int a1, .int a2] yfi out := by
  refine y_entry (own := "WhoseGlassModel") (lv := [(0, va_re w.1 (some o)), (1, .int a1), (2, .int a2)]) (by decide +kernel) rfl (by simp [lv_args, y_cat, y_catI, y_catJ]) (by simp [lg_sl, y_cat, y_catI, y_catJ]) ?_
  intro p e s m args below meth c C hr hlocks
  unfold f_M_comes at h
  refine y_aload_n C (i := 0) 0 d_M_comes_0 rfl rfl ?_
  refine y_iconst C (v := 0) d_M_comes_1 (by decide) ?_
  refine y_pi C (q := (yR5, yT5, 46)) (ci := 5) (k := 23) rfl (by decide) rfl rfl (by decide +kernel) g_807 d_M_comes_2 h (fun u1 h => ?_)
  refine y_iload_n C (i := 2) 2 d_M_comes_5 rfl rfl ?_
  refine y_callS 1 C (fun out hh => c_M_isPlace l w F u1 a2 out hh) (y_gc g_1086) g_1084 g_6 g_1085 hn_M_isPlace ⟨Nat.le_of_ble_eq_true rfl, Nat.le_of_ble_eq_true rfl⟩ rfl rfl rfl rfl (by simp [y_cat, y_catI, y_catJ]) d_M_comes_6 h (fun x2 u3 h => ?_)
  refine y_stk (stp0 := [.int x2]) rfl ?_
  obtain ⟨q4, hq4, h⟩ := ob_e h
  have hJq4 : yG p l e ({ frames := 2, cells := 0, slots := 0, locals := 46 } : Room) s m args below meth c YM w 4 (MQ below (yQ YM w yfi out) args s 0 0 (yA YM w)) q4.2 21 [(0, va_re w.1 (some o)), (1, .int a1), (2, .int a2)] [.int q4.1] := by
    refine y_istore_n C (i := 3) (lvp := [(0, va_re w.1 (some o)), (1, .int a1), (2, .int a2)]) d_M_comes_21 rfl (by decide) rfl ?_
    refine y_iload_n C (i := 3) 0 d_M_comes_22 rfl rfl ?_
    obtain ⟨q8, hq8, h⟩ := ob_e h
    have hJq8 : yG p l e ({ frames := 2, cells := 0, slots := 0, locals := 46 } : Room) s m args below meth c YM w 4 (MQ below (yQ YM w yfi out) args s 0 0 (yA YM w)) q4.2 41 [(0, va_re w.1 (some o)), (1, .int a1), (2, .int a2)] [.int q8] := by
      refine y_istore_n C (i := 3) (lvp := [(0, va_re w.1 (some o)), (1, .int a1), (2, .int a2)]) d_M_comes_41 rfl (by decide) rfl ?_
      refine y_iload_n C (i := 3) 0 d_M_comes_42 rfl rfl ?_
      refine y_if_ge C 50 d_M_comes_43 (by decide) h (fun k12 h => ?_) (fun k12 h => ?_)
      · refine y_aload_n C (i := 0) 1 d_M_comes_50 rfl rfl ?_
        refine y_aload_n C (i := 0) 1 d_M_comes_51 rfl rfl ?_
        refine y_gr C (q := (yR5, yT5, 46)) (ci := 5) (k := 40) rfl (by decide) rfl (by decide) g_824 d_M_comes_52 h (fun r13 h => ?_)
        refine y_iload_n C (i := 1) 2 d_M_comes_55 rfl rfl ?_
        refine y_al C d_M_comes_56 h (fun x14 h => ?_)
        refine y_aload_n C (i := 0) 1 d_M_comes_57 rfl rfl ?_
        refine y_gr C (q := (yR5, yT5, 46)) (ci := 5) (k := 41) rfl (by decide) rfl (by decide) g_825 d_M_comes_58 h (fun r15 h => ?_)
        refine y_iload_n C (i := 1) 2 d_M_comes_61 rfl rfl ?_
        refine y_al C d_M_comes_62 h (fun x16 h => ?_)
        refine y_bipush C (v := 9) d_M_comes_63 (by decide) ?_
        refine y_iload_n C (i := 2) 3 d_M_comes_65 rfl rfl ?_
        refine y_callV 4 C (q := (yR5, yT5, 46)) (ci := 5) (fun t out hh => c_M_bring l w F q4.2 t x14 x16 (9 : Int32) a2 out hh) gc_M_comes_153 rfl (by decide) hd_M_bring ⟨Nat.le_of_ble_eq_true rfl, Nat.le_of_ble_eq_true rfl⟩ rfl rfl rfl rfl (by simp [y_cat, y_catI, y_catJ]) d_M_comes_66 h (fun x17 u18 h => ?_)
        refine y_stk (stp0 := [.int x17]) rfl ?_
        exact y_iret C hr hlocks d_M_comes_69 h
      · refine y_iload_n C (i := 3) 0 d_M_comes_46 rfl rfl ?_
        refine y_goto C (tgt := 69) d_M_comes_47 (by decide) ?_
        exact y_iret C hr hlocks d_M_comes_69 h
    refine y_if_ne C 40 d_M_comes_23 (by decide) hq8 (fun k9 hq8 => ?_) (fun k9 hq8 => ?_)
    · refine y_aload_n C (i := 0) 1 d_M_comes_26 rfl rfl ?_
      refine y_gi C (q := (yR5, yT5, 46)) (ci := 5) (k := 0) rfl (by decide) rfl g_784 d_M_comes_27 hq8 (fun x10 hq8 => ?_)
      refine y_bipush C (v := 12) d_M_comes_30 (by decide) ?_
      refine y_ic_ne C 40 d_M_comes_32 (by decide) hq8 (fun k11 hq8 => ?_) (fun k11 hq8 => ?_)
      · refine y_bipush C (v := -2) d_M_comes_35 (by decide) ?_
        refine y_goto C (tgt := 41) d_M_comes_37 (by decide) ?_
        cases hq8
        exact y_sub [1, 2, 3] rfl hJq8
      · refine y_iload_n C (i := 3) 0 d_M_comes_40 rfl rfl ?_
        cases hq8
        exact y_sub [1, 2, 3] rfl hJq8
    · refine y_iload_n C (i := 3) 0 d_M_comes_40 rfl rfl ?_
      cases hq8
      exact y_sub [1, 2, 3] rfl hJq8
  refine y_if_eq C 20 d_M_comes_9 (by decide) hq4 (fun k5 hq4 => ?_) (fun k5 hq4 => ?_)
  · refine y_iconst C (v := -1) d_M_comes_20 (by decide) ?_
    cases hq4
    exact y_sub [0, 1, 2] rfl hJq4
  · refine y_aload_n C (i := 0) 0 d_M_comes_12 rfl rfl ?_
    refine y_iload_n C (i := 1) 1 d_M_comes_13 rfl rfl ?_
    refine y_callV 1 C (q := (yR5, yT5, 46)) (ci := 5) (fun t out hh => c_M_wrongKept l w F u3 t a1 out hh) gc_M_comes_268 rfl (by decide) hd_M_wrongKept ⟨Nat.le_of_ble_eq_true rfl, Nat.le_of_ble_eq_true rfl⟩ rfl rfl rfl rfl (by simp [y_cat, y_catI, y_catJ]) d_M_comes_14 hq4 (fun x6 u7 hq4 => ?_)
    refine y_stk (stp0 := [.int x6]) rfl ?_
    refine y_goto C (tgt := 21) d_M_comes_17 (by decide) ?_
    cases hq4
    exact y_sub [0, 1, 2] rfl hJq4
