/-! M_goOn -/
theorem d_M_goOn_0 : decode prog_8_method_20_code 0 = .ok (.aload_n 0, 1) := by decide +kernel
theorem d_M_goOn_1 : decode prog_8_method_20_code 1 = .ok (.getfield 47, 3) := by decide +kernel
theorem d_M_goOn_4 : decode prog_8_method_20_code 4 = .ok (.iload_n 1, 1) := by decide +kernel
theorem d_M_goOn_5 : decode prog_8_method_20_code 5 = .ok (.iaload, 1) := by decide +kernel
theorem d_M_goOn_6 : decode prog_8_method_20_code 6 = .ok (.iconst 1, 1) := by decide +kernel
theorem d_M_goOn_7 : decode prog_8_method_20_code 7 = .ok (.iadd, 1) := by decide +kernel
theorem d_M_goOn_8 : decode prog_8_method_20_code 8 = .ok (.bipush 6, 2) := by decide +kernel
theorem d_M_goOn_10 : decode prog_8_method_20_code 10 = .ok (.irem, 1) := by decide +kernel
theorem d_M_goOn_11 : decode prog_8_method_20_code 11 = .ok (.istore_n 2, 1) := by decide +kernel
theorem d_M_goOn_12 : decode prog_8_method_20_code 12 = .ok (.aload_n 0, 1) := by decide +kernel
theorem d_M_goOn_13 : decode prog_8_method_20_code 13 = .ok (.getfield 47, 3) := by decide +kernel
theorem d_M_goOn_16 : decode prog_8_method_20_code 16 = .ok (.iload_n 1, 1) := by decide +kernel
theorem d_M_goOn_17 : decode prog_8_method_20_code 17 = .ok (.iload_n 2, 1) := by decide +kernel
theorem d_M_goOn_18 : decode prog_8_method_20_code 18 = .ok (.aload_n 0, 1) := by decide +kernel
theorem d_M_goOn_19 : decode prog_8_method_20_code 19 = .ok (.getfield 62, 3) := by decide +kernel
theorem d_M_goOn_22 : decode prog_8_method_20_code 22 = .ok (.if_icmp .ne 12, 3) := by decide +kernel
theorem d_M_goOn_25 : decode prog_8_method_20_code 25 = .ok (.iload_n 2, 1) := by decide +kernel
theorem d_M_goOn_26 : decode prog_8_method_20_code 26 = .ok (.iconst 1, 1) := by decide +kernel
theorem d_M_goOn_27 : decode prog_8_method_20_code 27 = .ok (.iadd, 1) := by decide +kernel
theorem d_M_goOn_28 : decode prog_8_method_20_code 28 = .ok (.bipush 6, 2) := by decide +kernel
theorem d_M_goOn_30 : decode prog_8_method_20_code 30 = .ok (.irem, 1) := by decide +kernel
theorem d_M_goOn_31 : decode prog_8_method_20_code 31 = .ok (.goto 4, 3) := by decide +kernel
theorem d_M_goOn_34 : decode prog_8_method_20_code 34 = .ok (.iload_n 2, 1) := by decide +kernel
theorem d_M_goOn_35 : decode prog_8_method_20_code 35 = .ok (.iastore, 1) := by decide +kernel
theorem d_M_goOn_36 : decode prog_8_method_20_code 36 = .ok (.return_, 1) := by decide +kernel
set_option maxRecDepth 100000 in
def f_M_goOn (F : Nat) (u : Mm) (o : Nat) (a1 : Int32) : Option (Unit × Mm) := ob (jgr YM 5 15 (some o)) fun (r1 : Option Nat) => ob (jal YM u r1 a1) fun (x2 : Int32) => ob (jrm (x2 + (1 : Int32)) (6 : Int32)) fun (x3 : Int32) => ob (jgr YM 5 15 (some o)) fun (r4 : Option Nat) => ob (jgi YM 5 22 u (some o)) fun (x5 : Int32) => ob ((if x3 = x5 then ob (jrm (x3 + (1 : Int32)) (6 : Int32)) fun (x8 : Int32) => some x8 else some x3) : Option (Int32)) fun q6 => ob (jas YM u r4 a1 q6) fun (u9 : Mm) => some ((), u9)
set_option maxHeartbeats 4000000 in
set_option maxRecDepth 100000 in
theorem c_M_goOn (l : Launch) (w : WP) (F : Nat) (u : Mm) (o : Nat) (a1 : Int32) (out : Unit × Mm) (h : f_M_goOn F u o a1 = some out) : yMet l m_M_goOn ws_M_goOn ({ frames := 0, cells := 0, slots := 0, locals := 0 } : Room) YM w u [va_re w.1 (some o), .int a1] yfv out := by
  refine y_entry (own := "WhoseGlassModel") (lv := [(0, va_re w.1 (some o)), (1, .int a1)]) (by decide +kernel) rfl (by simp [lv_args, y_cat, y_catI, y_catJ]) (by simp [lg_sl, y_cat, y_catI, y_catJ]) ?_
  intro p e s m args below meth c C hr hlocks
  unfold f_M_goOn at h
  refine y_aload_n C (i := 0) 0 d_M_goOn_0 rfl rfl ?_
  refine y_gr C (q := (yR5, yT5, 46)) (ci := 5) (k := 15) rfl (by decide) rfl (by decide) g_799 d_M_goOn_1 h (fun r1 h => ?_)
  refine y_iload_n C (i := 1) 1 d_M_goOn_4 rfl rfl ?_
  refine y_al C d_M_goOn_5 h (fun x2 h => ?_)
  refine y_iconst C (v := 1) d_M_goOn_6 (by decide) ?_
  refine y_iadd C d_M_goOn_7 ?_
  refine y_bipush C (v := 6) d_M_goOn_8 (by decide) ?_
  refine y_irem C d_M_goOn_10 h (fun x3 h => ?_)
  refine y_istore_n C (i := 2) (lvp := [(0, va_re w.1 (some o)), (1, .int a1)]) d_M_goOn_11 rfl (by decide) rfl ?_
  refine y_aload_n C (i := 0) 1 d_M_goOn_12 rfl rfl ?_
  refine y_gr C (q := (yR5, yT5, 46)) (ci := 5) (k := 15) rfl (by decide) rfl (by decide) g_799 d_M_goOn_13 h (fun r4 h => ?_)
  refine y_iload_n C (i := 1) 2 d_M_goOn_16 rfl rfl ?_
  refine y_iload_n C (i := 2) 0 d_M_goOn_17 rfl rfl ?_
  refine y_aload_n C (i := 0) 1 d_M_goOn_18 rfl rfl ?_
  refine y_gi C (q := (yR5, yT5, 46)) (ci := 5) (k := 22) rfl (by decide) rfl g_806 d_M_goOn_19 h (fun x5 h => ?_)
  obtain ⟨q6, hq6, h⟩ := ob_e h
  have hJq6 : yG p l e ({ frames := 0, cells := 0, slots := 0, locals := 0 } : Room) s m args below meth c YM w 3 (MQ below (yQ YM w yfv out) args s 0 0 (yA YM w)) u 35 [] [.int q6, .int a1, va_re w.1 r4] := by
    refine y_as C d_M_goOn_35 h (fun u9 h => ?_)
    exact y_vret C hr hlocks d_M_goOn_36 h
  refine y_ic_ne C 34 d_M_goOn_22 (by decide) hq6 (fun k7 hq6 => ?_) (fun k7 hq6 => ?_)
  · refine y_iload_n C (i := 2) 0 d_M_goOn_25 rfl rfl ?_
    refine y_iconst C (v := 1) d_M_goOn_26 (by decide) ?_
    refine y_iadd C d_M_goOn_27 ?_
    refine y_bipush C (v := 6) d_M_goOn_28 (by decide) ?_
    refine y_irem C d_M_goOn_30 hq6 (fun x8 hq6 => ?_)
    refine y_goto C (tgt := 35) d_M_goOn_31 (by decide) ?_
    cases hq6
    exact y_sub [] rfl hJq6
  · refine y_iload_n C (i := 2) 0 d_M_goOn_34 rfl rfl ?_
    cases hq6
    exact y_sub [] rfl hJq6
/-! M_plainly -/
theorem d_M_plainly_0 : decode prog_8_method_8_code 0 = .ok (.aload_n 0, 1) := by decide +kernel
theorem d_M_plainly_1 : decode prog_8_method_8_code 1 = .ok (.getfield 17, 3) := by decide +kernel
theorem d_M_plainly_4 : decode prog_8_method_8_code 4 = .ok (.iload_n 1, 1) := by decide +kernel
theorem d_M_plainly_5 : decode prog_8_method_8_code 5 = .ok (.iaload, 1) := by decide +kernel
theorem d_M_plainly_6 : decode prog_8_method_8_code 6 = .ok (.aload_n 0, 1) := by decide +kernel
theorem d_M_plainly_7 : decode prog_8_method_8_code 7 = .ok (.getfield 17, 3) := by decide +kernel
theorem d_M_plainly_10 : decode prog_8_method_8_code 10 = .ok (.iload_n 2, 1) := by decide +kernel
theorem d_M_plainly_11 : decode prog_8_method_8_code 11 = .ok (.iaload, 1) := by decide +kernel
theorem d_M_plainly_12 : decode prog_8_method_8_code 12 = .ok (.if_icmp .ne 7, 3) := by decide +kernel
theorem d_M_plainly_15 : decode prog_8_method_8_code 15 = .ok (.iconst 3, 1) := by decide +kernel
theorem d_M_plainly_16 : decode prog_8_method_8_code 16 = .ok (.goto 4, 3) := by decide +kernel
theorem d_M_plainly_19 : decode prog_8_method_8_code 19 = .ok (.iconst 1, 1) := by decide +kernel
theorem d_M_plainly_20 : decode prog_8_method_8_code 20 = .ok (.ireturn, 1) := by decide +kernel
set_option maxRecDepth 100000 in
def f_M_plainly (F : Nat) (u : Mm) (o : Nat) (a1 : Int32) (a2 : Int32) : Option (Int32 × Mm) := ob (jgr YM 5 5 (some o)) fun (r1 : Option Nat) => ob (jal YM u r1 a1) fun (x2 : Int32) => ob (jgr YM 5 5 (some o)) fun (r3 : Option Nat) => ob (jal YM u r3 a2) fun (x4 : Int32) => (if x2 = x4 then some ((3 : Int32), u) else some ((1 : Int32), u))
set_option maxHeartbeats 4000000 in
set_option maxRecDepth 100000 in
theorem c_M_plainly (l : Launch) (w : WP) (F : Nat) (u : Mm) (o : Nat) (a1 : Int32) (a2 : Int32) (out : Int32 × Mm) (h : f_M_plainly F u o a1 a2 = some out) : yMet l m_M_plainly ws_M_plainly ({ frames := 0, cells := 0, slots := 0, locals := 0 } : Room) YM w u [va_re w.1 (some o), .int a1, .int a2] yfi out := by
  refine y_entry (own := "WhoseGlassModel") (lv := [(0, va_re w.1 (some o)), (1, .int a1), (2, .int a2)]) (by decide +kernel) rfl (by simp [lv_args, y_cat, y_catI, y_catJ]) (by simp [lg_sl, y_cat, y_catI, y_catJ]) ?_
  intro p e s m args below meth c C hr hlocks
  unfold f_M_plainly at h
  refine y_aload_n C (i := 0) 0 d_M_plainly_0 rfl rfl ?_
  refine y_gr C (q := (yR5, yT5, 46)) (ci := 5) (k := 5) rfl (by decide) rfl (by decide) g_789 d_M_plainly_1 h (fun r1 h => ?_)
  refine y_iload_n C (i := 1) 1 d_M_plainly_4 rfl rfl ?_
  refine y_al C d_M_plainly_5 h (fun x2 h => ?_)
  refine y_aload_n C (i := 0) 0 d_M_plainly_6 rfl rfl ?_
  refine y_gr C (q := (yR5, yT5, 46)) (ci := 5) (k := 5) rfl (by decide) rfl (by decide) g_789 d_M_plainly_7 h (fun r3 h => ?_)
  refine y_iload_n C (i := 2) 2 d_M_plainly_10 rfl rfl ?_
  refine y_al C d_M_plainly_11 h (fun x4 h => ?_)
  refine y_ic_ne C 19 d_M_plainly_12 (by decide) h (fun k5 h => ?_) (fun k5 h => ?_)
  · refine y_iconst C (v := 3) d_M_plainly_15 (by decide) ?_
    refine y_goto C (tgt := 20) d_M_plainly_16 (by decide) ?_
    exact y_iret C hr hlocks d_M_plainly_20 h
  · refine y_iconst C (v := 1) d_M_plainly_19 (by decide) ?_
    exact y_iret C hr hlocks d_M_plainly_20 h
/-! M_tally -/
theorem d_M_tally_0 : decode prog_8_method_10_code 0 = .ok (.aload_n 0, 1) := by decide +kernel
theorem d_M_tally_1 : decode prog_8_method_10_code 1 = .ok (.iload_n 1, 1) := by decide +kernel
theorem d_M_tally_2 : decode prog_8_method_10_code 2 = .ok (.iload_n 2, 1) := by decide +kernel
theorem d_M_tally_3 : decode prog_8_method_10_code 3 = .ok (.invokevirtual 119, 3) := by decide +kernel
theorem d_M_tally_6 : decode prog_8_method_10_code 6 = .ok (.aload_n 0, 1) := by decide +kernel
theorem d_M_tally_7 : decode prog_8_method_10_code 7 = .ok (.getfield 13, 3) := by decide +kernel
theorem d_M_tally_10 : decode prog_8_method_10_code 10 = .ok (.iload_n 2, 1) := by decide +kernel
theorem d_M_tally_11 : decode prog_8_method_10_code 11 = .ok (.iaload, 1) := by decide +kernel
theorem d_M_tally_12 : decode prog_8_method_10_code 12 = .ok (.iconst 2, 1) := by decide +kernel
theorem d_M_tally_13 : decode prog_8_method_10_code 13 = .ok (.if_icmp .eq 13, 3) := by decide +kernel
theorem d_M_tally_16 : decode prog_8_method_10_code 16 = .ok (.aload_n 0, 1) := by decide +kernel
theorem d_M_tally_17 : decode prog_8_method_10_code 17 = .ok (.getfield 13, 3) := by decide +kernel
theorem d_M_tally_20 : decode prog_8_method_10_code 20 = .ok (.iload_n 2, 1) := by decide +kernel
theorem d_M_tally_21 : decode prog_8_method_10_code 21 = .ok (.iaload, 1) := by decide +kernel
theorem d_M_tally_22 : decode prog_8_method_10_code 22 = .ok (.iconst 4, 1) := by decide +kernel
theorem d_M_tally_23 : decode prog_8_method_10_code 23 = .ok (.if_icmp .ne 7, 3) := by decide +kernel
theorem d_M_tally_26 : decode prog_8_method_10_code 26 = .ok (.iconst 3, 1) := by decide +kernel
theorem d_M_tally_27 : decode prog_8_method_10_code 27 = .ok (.goto 4, 3) := by decide +kernel
theorem d_M_tally_30 : decode prog_8_method_10_code 30 = .ok (.iconst 0, 1) := by decide +kernel
theorem d_M_tally_31 : decode prog_8_method_10_code 31 = .ok (.iadd, 1) := by decide +kernel
theorem d_M_tally_32 : decode prog_8_method_10_code 32 = .ok (.ireturn, 1) := by decide +kernel
theorem gc_M_tally_119 : GoodIn yGW (wsV "WhoseGlassModel" 119 yR5 m_M_plainly ws_M_plainly) := y_gV g_1038 g_1040 gs_34 g_6 g_1041
set_option maxRecDepth 100000 in
def f_M_tally (F : Nat) (u : Mm) (o : Nat) (a1 : Int32) (a2 : Int32) : Option (Int32 × Mm) := ob (jk YM 5 (some o)) fun t => yb (f_M_plainly F u t a1 a2) fun x1 u2 => ob (jgr YM 5 4 (some o)) fun (r3 : Option Nat) => ob (jal YM u2 r3 a2) fun (x4 : Int32) => ob ((if x4 = (2 : Int32) then some (3 : Int32) else ob (jgr YM 5 4 (some o)) fun (r7 : Option Nat) => ob (jal YM u2 r7 a2) fun (x8 : Int32) => (if x8 = (4 : Int32) then some (3 : Int32) else some (0 : Int32))) : Option (Int32)) fun q5 => some ((x1 + q5), u2)
set_option maxHeartbeats 4000000 in
set_option maxRecDepth 100000 in
theorem c_M_tally (l : Launch) (w : WP) (F : Nat) (u : Mm) (o : Nat) (a1 : Int32) (a2 : Int32) (out : Int32 × Mm) (h : f_M_tally F u o a1 a2 = some out) : yMet l m_M_tally ws_M_tally ({ frames := 1, cells := 0, slots := 0, locals := 22 } : Room) YM w u [va_re w.1 (some o), .int a1, .int a2] yfi out := by
  refine y_entry (own := "WhoseGlassModel") (lv := [(0, va_re w.1 (some o)), (1, .int a1), (2, .int a2)]) (by decide +kernel) rfl (by simp [lv_args, y_cat, y_catI, y_catJ]) (by simp [lg_sl, y_cat, y_catI, y_catJ]) ?_
  intro p e s m args below meth c C hr hlocks
  unfold f_M_tally at h
  refine y_aload_n C (i := 0) 0 d_M_tally_0 rfl rfl ?_
  refine y_iload_n C (i := 1) 1 d_M_tally_1 rfl rfl ?_
  refine y_iload_n C (i := 2) 2 d_M_tally_2 rfl rfl ?_
  refine y_callV 2 C (q := (yR5, yT5, 46)) (ci := 5) (fun t out hh => c_M_plainly l w F u t a1 a2 out hh) gc_M_tally_119 rfl (by decide) hd_M_plainly ⟨Nat.le_of_ble_eq_true rfl, Nat.le_of_ble_eq_true rfl⟩ rfl rfl rfl rfl (by simp [y_cat, y_catI, y_catJ]) d_M_tally_3 h (fun x1 u2 h => ?_)
  refine y_stk (stp0 := [.int x1]) rfl ?_
  refine y_aload_n C (i := 0) 0 d_M_tally_6 rfl rfl ?_
  refine y_gr C (q := (yR5, yT5, 46)) (ci := 5) (k := 4) rfl (by decide) rfl (by decide) g_788 d_M_tally_7 h (fun r3 h => ?_)
  refine y_iload_n C (i := 2) 2 d_M_tally_10 rfl rfl ?_
  refine y_al C d_M_tally_11 h (fun x4 h => ?_)
  refine y_iconst C (v := 2) d_M_tally_12 (by decide) ?_
  obtain ⟨q5, hq5, h⟩ := ob_e h
  have hJq5 : yG p l e ({ frames := 1, cells := 0, slots := 0, locals := 22 } : Room) s m args below meth c YM w 3 (MQ below (yQ YM w yfi out) args s 0 0 (yA YM w)) u2 31 [] [.int q5, .int x1] := by
    refine y_iadd C d_M_tally_31 ?_
    exact y_iret C hr hlocks d_M_tally_32 h
  refine y_ic_eq C 26 d_M_tally_13 (by decide) hq5 (fun k6 hq5 => ?_) (fun k6 hq5 => ?_)
  · refine y_iconst C (v := 3) d_M_tally_26 (by decide) ?_
    refine y_goto C (tgt := 31) d_M_tally_27 (by decide) ?_
    cases hq5
    exact y_sub [] rfl hJq5
  · refine y_aload_n C (i := 0) 0 d_M_tally_16 rfl rfl ?_
    refine y_gr C (q := (yR5, yT5, 46)) (ci := 5) (k := 4) rfl (by decide) rfl (by decide) g_788 d_M_tally_17 hq5 (fun r7 hq5 => ?_)
    refine y_iload_n C (i := 2) 2 d_M_tally_20 rfl rfl ?_
    refine y_al C d_M_tally_21 hq5 (fun x8 hq5 => ?_)
    refine y_iconst C (v := 4) d_M_tally_22 (by decide) ?_
    refine y_ic_ne C 30 d_M_tally_23 (by decide) hq5 (fun k9 hq5 => ?_) (fun k9 hq5 => ?_)
    · refine y_iconst C (v := 3) d_M_tally_26 (by decide) ?_
      refine y_goto C (tgt := 31) d_M_tally_27 (by decide) ?_
      cases hq5
      exact y_sub [] rfl hJq5
    · refine y_iconst C (v := 0) d_M_tally_30 (by decide) ?_
      cases hq5
      exact y_sub [] rfl hJq5
/-! M_redly -/
theorem d_M_redly_0 : decode prog_8_method_9_code 0 = .ok (.aload_n 0, 1) := by decide +kernel
theorem d_M_redly_1 : decode prog_8_method_9_code 1 = .ok (.getfield 13, 3) := by decide +kernel
theorem d_M_redly_4 : decode prog_8_method_9_code 4 = .ok (.iload_n 2, 1) := by decide +kernel
theorem d_M_redly_5 : decode prog_8_method_9_code 5 = .ok (.iaload, 1) := by decide +kernel
theorem d_M_redly_6 : decode prog_8_method_9_code 6 = .ok (.iconst 3, 1) := by decide +kernel
theorem d_M_redly_7 : decode prog_8_method_9_code 7 = .ok (.if_icmp .eq 25, 3) := by decide +kernel
theorem d_M_redly_10 : decode prog_8_method_9_code 10 = .ok (.aload_n 0, 1) := by decide +kernel
theorem d_M_redly_11 : decode prog_8_method_9_code 11 = .ok (.getfield 13, 3) := by decide +kernel
theorem d_M_redly_14 : decode prog_8_method_9_code 14 = .ok (.iload_n 2, 1) := by decide +kernel
theorem d_M_redly_15 : decode prog_8_method_9_code 15 = .ok (.iaload, 1) := by decide +kernel
theorem d_M_redly_16 : decode prog_8_method_9_code 16 = .ok (.bipush 6, 2) := by decide +kernel
theorem d_M_redly_18 : decode prog_8_method_9_code 18 = .ok (.if_icmp .eq 14, 3) := by decide +kernel
theorem d_M_redly_21 : decode prog_8_method_9_code 21 = .ok (.aload_n 0, 1) := by decide +kernel
theorem d_M_redly_22 : decode prog_8_method_9_code 22 = .ok (.getfield 13, 3) := by decide +kernel
theorem d_M_redly_25 : decode prog_8_method_9_code 25 = .ok (.iload_n 2, 1) := by decide +kernel
theorem d_M_redly_26 : decode prog_8_method_9_code 26 = .ok (.iaload, 1) := by decide +kernel
theorem d_M_redly_27 : decode prog_8_method_9_code 27 = .ok (.bipush 7, 2) := by decide +kernel
theorem d_M_redly_29 : decode prog_8_method_9_code 29 = .ok (.if_icmp .ne 7, 3) := by decide +kernel
theorem d_M_redly_32 : decode prog_8_method_9_code 32 = .ok (.iconst 1, 1) := by decide +kernel
theorem d_M_redly_33 : decode prog_8_method_9_code 33 = .ok (.goto 4, 3) := by decide +kernel
theorem d_M_redly_36 : decode prog_8_method_9_code 36 = .ok (.iconst 0, 1) := by decide +kernel
theorem d_M_redly_37 : decode prog_8_method_9_code 37 = .ok (.istore_n 3, 1) := by decide +kernel
theorem d_M_redly_38 : decode prog_8_method_9_code 38 = .ok (.aload_n 0, 1) := by decide +kernel
theorem d_M_redly_39 : decode prog_8_method_9_code 39 = .ok (.iload_n 1, 1) := by decide +kernel
theorem d_M_redly_40 : decode prog_8_method_9_code 40 = .ok (.iload_n 2, 1) := by decide +kernel
theorem d_M_redly_41 : decode prog_8_method_9_code 41 = .ok (.invokevirtual 119, 3) := by decide +kernel
theorem d_M_redly_44 : decode prog_8_method_9_code 44 = .ok (.iload_n 3, 1) := by decide +kernel
theorem d_M_redly_45 : decode prog_8_method_9_code 45 = .ok (.ifCond .eq 7, 3) := by decide +kernel
theorem d_M_redly_48 : decode prog_8_method_9_code 48 = .ok (.iconst 4, 1) := by decide +kernel
theorem d_M_redly_49 : decode prog_8_method_9_code 49 = .ok (.goto 4, 3) := by decide +kernel
theorem d_M_redly_52 : decode prog_8_method_9_code 52 = .ok (.iconst 0, 1) := by decide +kernel
theorem d_M_redly_53 : decode prog_8_method_9_code 53 = .ok (.iadd, 1) := by decide +kernel
theorem d_M_redly_54 : decode prog_8_method_9_code 54 = .ok (.ireturn, 1) := by decide +kernel
theorem gc_M_redly_119 : GoodIn yGW (wsV "WhoseGlassModel" 119 yR5 m_M_plainly ws_M_plainly) := y_gV g_1038 g_1040 gs_34 g_6 g_1041
set_option maxRecDepth 100000 in
def f_M_redly (F : Nat) (u : Mm) (o : Nat) (a1 : Int32) (a2 : Int32) : Option (Int32 × Mm) := ob (jgr YM 5 4 (some o)) fun (r1 : Option Nat) => ob (jal YM u r1 a2) fun (x2 : Int32) => ob ((if x2 = (3 : Int32) then some (1 : Int32) else ob (jgr YM 5 4 (some o)) fun (r5 : Option Nat) => ob (jal YM u r5 a2) fun (x6 : Int32) => (if x6 = (6 : Int32) then some (1 : Int32) else ob (jgr YM 5 4 (some o)) fun (r8 : Option Nat) => ob (jal YM u r8 a2) fun (x9 : Int32) => (if x9 = (7 : Int32) then some (1 : Int32) else some (0 : Int32)))) : Option (Int32)) fun q3 => ob (jk YM 5 (some o)) fun t => yb (f_M_plainly F u t a1 a2) fun x11 u12 => ob ((if q3 = 0 then some (0 : Int32) else some (4 : Int32)) : Option (Int32)) fun q13 => some ((x11 + q13), u12)
set_option maxHeartbeats 4000000 in
set_option maxRecDepth 100000 in
theorem c_M_redly (l : Launch) (w : WP) (F : Nat) (u : Mm) (o : Nat) (a1 : Int32) (a2 : Int32) (out : Int32 × Mm) (h : f_M_redly F u o a1 a2 = some out) : yMet l m_M_redly ws_M_redly ({ frames := 1, cells := 0, slots := 0, locals := 22 } : Room) YM w u [va_re w.1 (some o), .int a1, .int a2] yfi out := by
  refine y_entry (own := "WhoseGlassModel") (lv := [(0, va_re w.1 (some o)), (1, .int a1), (2, .int a2)]) (by decide +kernel) rfl (by simp [lv_args, y_cat, y_catI, y_catJ]) (by simp [lg_sl, y_cat, y_catI, y_catJ]) ?_
  intro p e s m args below meth c C hr hlocks
  unfold f_M_redly at h
  refine y_aload_n C (i := 0) 0 d_M_redly_0 rfl rfl ?_
  refine y_gr C (q := (yR5, yT5, 46)) (ci := 5) (k := 4) rfl (by decide) rfl (by decide) g_788 d_M_redly_1 h (fun r1 h => ?_)
  refine y_iload_n C (i := 2) 2 d_M_redly_4 rfl rfl ?_
  refine y_al C d_M_redly_5 h (fun x2 h => ?_)
  refine y_iconst C (v := 3) d_M_redly_6 (by decide) ?_
  obtain ⟨q3, hq3, h⟩ := ob_e h
  have hJq3 : yG p l e ({ frames := 1, cells := 0, slots := 0, locals := 22 } : Room) s m args below meth c YM w 4 (MQ below (yQ YM w yfi out) args s 0 0 (yA YM w)) u 37 [(0, va_re w.1 (some o)), (1, .int a1), (2, .int a2)] [.int q3] := by
    refine y_istore_n C (i := 3) (lvp := [(0, va_re w.1 (some o)), (1, .int a1), (2, .int a2)]) d_M_redly_37 rfl (by decide) rfl ?_
    refine y_aload_n C (i := 0) 1 d_M_redly_38 rfl rfl ?_
    refine y_iload_n C (i := 1) 2 d_M_redly_39 rfl rfl ?_
    refine y_iload_n C (i := 2) 3 d_M_redly_40 rfl rfl ?_
    refine y_callV 2 C (q := (yR5, yT5, 46)) (ci := 5) (fun t out hh => c_M_plainly l w F u t a1 a2 out hh) gc_M_redly_119 rfl (by decide) hd_M_plainly ⟨Nat.le_of_ble_eq_true rfl, Nat.le_of_ble_eq_true rfl⟩ rfl rfl rfl rfl (by simp [y_cat, y_catI, y_catJ]) d_M_redly_41 h (fun x11 u12 h => ?_)
    refine y_stk (stp0 := [.int x11]) rfl ?_
    refine y_iload_n C (i := 3) 0 d_M_redly_44 rfl rfl ?_
    obtain ⟨q13, hq13, h⟩ := ob_e h
    have hJq13 : yG p l e ({ frames := 1, cells := 0, slots := 0, locals := 22 } : Room) s m args below meth c YM w 4 (MQ below (yQ YM w yfi out) args s 0 0 (yA YM w)) u12 53 [] [.int q13, .int x11] := by
      refine y_iadd C d_M_redly_53 ?_
      exact y_iret C hr hlocks d_M_redly_54 h
    refine y_if_eq C 52 d_M_redly_45 (by decide) hq13 (fun k14 hq13 => ?_) (fun k14 hq13 => ?_)
    · refine y_iconst C (v := 0) d_M_redly_52 (by decide) ?_
      cases hq13
      exact y_sub [] rfl hJq13
    · refine y_iconst C (v := 4) d_M_redly_48 (by decide) ?_
      refine y_goto C (tgt := 53) d_M_redly_49 (by decide) ?_
      cases hq13
      exact y_sub [] rfl hJq13
  refine y_ic_eq C 32 d_M_redly_7 (by decide) hq3 (fun k4 hq3 => ?_) (fun k4 hq3 => ?_)
  · refine y_iconst C (v := 1) d_M_redly_32 (by decide) ?_
    refine y_goto C (tgt := 37) d_M_redly_33 (by decide) ?_
    cases hq3
    exact y_sub [0, 1, 2] rfl hJq3
  · refine y_aload_n C (i := 0) 0 d_M_redly_10 rfl rfl ?_
    refine y_gr C (q := (yR5, yT5, 46)) (ci := 5) (k := 4) rfl (by decide) rfl (by decide) g_788 d_M_redly_11 hq3 (fun r5 hq3 => ?_)
    refine y_iload_n C (i := 2) 2 d_M_redly_14 rfl rfl ?_
    refine y_al C d_M_redly_15 hq3 (fun x6 hq3 => ?_)
    refine y_bipush C (v := 6) d_M_redly_16 (by decide) ?_
    refine y_ic_eq C 32 d_M_redly_18 (by decide) hq3 (fun k7 hq3 => ?_) (fun k7 hq3 => ?_)
    · refine y_iconst C (v := 1) d_M_redly_32 (by decide) ?_
      refine y_goto C (tgt := 37) d_M_redly_33 (by decide) ?_
      cases hq3
      exact y_sub [0, 1, 2] rfl hJq3
    · refine y_aload_n C (i := 0) 0 d_M_redly_21 rfl rfl ?_
      refine y_gr C (q := (yR5, yT5, 46)) (ci := 5) (k := 4) rfl (by decide) rfl (by decide) g_788 d_M_redly_22 hq3 (fun r8 hq3 => ?_)
      refine y_iload_n C (i := 2) 2 d_M_redly_25 rfl rfl ?_
      refine y_al C d_M_redly_26 hq3 (fun x9 hq3 => ?_)
      refine y_bipush C (v := 7) d_M_redly_27 (by decide) ?_
      refine y_ic_ne C 36 d_M_redly_29 (by decide) hq3 (fun k10 hq3 => ?_) (fun k10 hq3 => ?_)
      · refine y_iconst C (v := 1) d_M_redly_32 (by decide) ?_
        refine y_goto C (tgt := 37) d_M_redly_33 (by decide) ?_
        cases hq3
        exact y_sub [0, 1, 2] rfl hJq3
      · refine y_iconst C (v := 0) d_M_redly_36 (by decide) ?_
        cases hq3
        exact y_sub [0, 1, 2] rfl hJq3
/-! M_likeOf -/
theorem d_M_likeOf_0 : decode prog_8_method_11_code 0 = .ok (.aload_n 0, 1) := by decide +kernel
theorem d_M_likeOf_1 : decode prog_8_method_11_code 1 = .ok (.getfield 13, 3) := by decide +kernel
theorem d_M_likeOf_4 : decode prog_8_method_11_code 4 = .ok (.iload_n 1, 1) := by decide +kernel
theorem d_M_likeOf_5 : decode prog_8_method_11_code 5 = .ok (.iaload, 1) := by decide +kernel
theorem d_M_likeOf_6 : decode prog_8_method_11_code 6 = .ok (.tableswitch 142 0 6 #[42, 49, 61, 68, 75, 98, 124], 42) := by decide +kernel
theorem d_M_likeOf_48 : decode prog_8_method_11_code 48 = .ok (.aload_n 0, 1) := by decide +kernel
theorem d_M_likeOf_49 : decode prog_8_method_11_code 49 = .ok (.iload_n 1, 1) := by decide +kernel
theorem d_M_likeOf_50 : decode prog_8_method_11_code 50 = .ok (.iload_n 2, 1) := by decide +kernel
theorem d_M_likeOf_51 : decode prog_8_method_11_code 51 = .ok (.invokevirtual 119, 3) := by decide +kernel
theorem d_M_likeOf_54 : decode prog_8_method_11_code 54 = .ok (.ireturn, 1) := by decide +kernel
theorem d_M_likeOf_55 : decode prog_8_method_11_code 55 = .ok (.iload_n 1, 1) := by decide +kernel
theorem d_M_likeOf_56 : decode prog_8_method_11_code 56 = .ok (.iload_n 2, 1) := by decide +kernel
theorem d_M_likeOf_57 : decode prog_8_method_11_code 57 = .ok (.if_icmp .ne 8, 3) := by decide +kernel
theorem d_M_likeOf_60 : decode prog_8_method_11_code 60 = .ok (.bipush 20, 2) := by decide +kernel
theorem d_M_likeOf_62 : decode prog_8_method_11_code 62 = .ok (.goto 4, 3) := by decide +kernel
theorem d_M_likeOf_65 : decode prog_8_method_11_code 65 = .ok (.iconst 0, 1) := by decide +kernel
theorem d_M_likeOf_66 : decode prog_8_method_11_code 66 = .ok (.ireturn, 1) := by decide +kernel
theorem d_M_likeOf_67 : decode prog_8_method_11_code 67 = .ok (.aload_n 0, 1) := by decide +kernel
theorem d_M_likeOf_68 : decode prog_8_method_11_code 68 = .ok (.iload_n 1, 1) := by decide +kernel
theorem d_M_likeOf_69 : decode prog_8_method_11_code 69 = .ok (.iload_n 2, 1) := by decide +kernel
theorem d_M_likeOf_70 : decode prog_8_method_11_code 70 = .ok (.invokevirtual 123, 3) := by decide +kernel
theorem d_M_likeOf_73 : decode prog_8_method_11_code 73 = .ok (.ireturn, 1) := by decide +kernel
theorem d_M_likeOf_74 : decode prog_8_method_11_code 74 = .ok (.aload_n 0, 1) := by decide +kernel
theorem d_M_likeOf_75 : decode prog_8_method_11_code 75 = .ok (.iload_n 1, 1) := by decide +kernel
theorem d_M_likeOf_76 : decode prog_8_method_11_code 76 = .ok (.iload_n 2, 1) := by decide +kernel
theorem d_M_likeOf_77 : decode prog_8_method_11_code 77 = .ok (.invokevirtual 126, 3) := by decide +kernel
theorem d_M_likeOf_80 : decode prog_8_method_11_code 80 = .ok (.ireturn, 1) := by decide +kernel
theorem d_M_likeOf_81 : decode prog_8_method_11_code 81 = .ok (.aload_n 0, 1) := by decide +kernel
theorem d_M_likeOf_82 : decode prog_8_method_11_code 82 = .ok (.iload_n 1, 1) := by decide +kernel
theorem d_M_likeOf_83 : decode prog_8_method_11_code 83 = .ok (.iload_n 2, 1) := by decide +kernel
theorem d_M_likeOf_84 : decode prog_8_method_11_code 84 = .ok (.invokevirtual 123, 3) := by decide +kernel
theorem d_M_likeOf_87 : decode prog_8_method_11_code 87 = .ok (.aload_n 0, 1) := by decide +kernel
theorem d_M_likeOf_88 : decode prog_8_method_11_code 88 = .ok (.getfield 13, 3) := by decide +kernel
theorem d_M_likeOf_91 : decode prog_8_method_11_code 91 = .ok (.iload_n 2, 1) := by decide +kernel
theorem d_M_likeOf_92 : decode prog_8_method_11_code 92 = .ok (.iaload, 1) := by decide +kernel
theorem d_M_likeOf_93 : decode prog_8_method_11_code 93 = .ok (.iconst 4, 1) := by decide +kernel
theorem d_M_likeOf_94 : decode prog_8_method_11_code 94 = .ok (.if_icmp .ne 7, 3) := by decide +kernel
theorem d_M_likeOf_97 : decode prog_8_method_11_code 97 = .ok (.iconst 1, 1) := by decide +kernel
theorem d_M_likeOf_98 : decode prog_8_method_11_code 98 = .ok (.goto 4, 3) := by decide +kernel
theorem d_M_likeOf_101 : decode prog_8_method_11_code 101 = .ok (.iconst 0, 1) := by decide +kernel
theorem d_M_likeOf_102 : decode prog_8_method_11_code 102 = .ok (.iadd, 1) := by decide +kernel
theorem d_M_likeOf_103 : decode prog_8_method_11_code 103 = .ok (.ireturn, 1) := by decide +kernel
theorem d_M_likeOf_104 : decode prog_8_method_11_code 104 = .ok (.iload_n 1, 1) := by decide +kernel
theorem d_M_likeOf_105 : decode prog_8_method_11_code 105 = .ok (.iload_n 2, 1) := by decide +kernel
theorem d_M_likeOf_106 : decode prog_8_method_11_code 106 = .ok (.if_icmp .ne 8, 3) := by decide +kernel
theorem d_M_likeOf_109 : decode prog_8_method_11_code 109 = .ok (.bipush 20, 2) := by decide +kernel
theorem d_M_likeOf_111 : decode prog_8_method_11_code 111 = .ok (.goto 18, 3) := by decide +kernel
theorem d_M_likeOf_114 : decode prog_8_method_11_code 114 = .ok (.aload_n 0, 1) := by decide +kernel
theorem d_M_likeOf_115 : decode prog_8_method_11_code 115 = .ok (.getfield 13, 3) := by decide +kernel
theorem d_M_likeOf_118 : decode prog_8_method_11_code 118 = .ok (.iload_n 2, 1) := by decide +kernel
theorem d_M_likeOf_119 : decode prog_8_method_11_code 119 = .ok (.iaload, 1) := by decide +kernel
theorem d_M_likeOf_120 : decode prog_8_method_11_code 120 = .ok (.iconst 5, 1) := by decide +kernel
theorem d_M_likeOf_121 : decode prog_8_method_11_code 121 = .ok (.if_icmp .ne 7, 3) := by decide +kernel
theorem d_M_likeOf_124 : decode prog_8_method_11_code 124 = .ok (.iconst 5, 1) := by decide +kernel
theorem d_M_likeOf_125 : decode prog_8_method_11_code 125 = .ok (.goto 4, 3) := by decide +kernel
theorem d_M_likeOf_128 : decode prog_8_method_11_code 128 = .ok (.iconst 0, 1) := by decide +kernel
theorem d_M_likeOf_129 : decode prog_8_method_11_code 129 = .ok (.ireturn, 1) := by decide +kernel
theorem d_M_likeOf_130 : decode prog_8_method_11_code 130 = .ok (.aload_n 0, 1) := by decide +kernel
theorem d_M_likeOf_131 : decode prog_8_method_11_code 131 = .ok (.iload_n 1, 1) := by decide +kernel
theorem d_M_likeOf_132 : decode prog_8_method_11_code 132 = .ok (.iload_n 2, 1) := by decide +kernel
theorem d_M_likeOf_133 : decode prog_8_method_11_code 133 = .ok (.invokevirtual 126, 3) := by decide +kernel
theorem d_M_likeOf_136 : decode prog_8_method_11_code 136 = .ok (.iload_n 1, 1) := by decide +kernel
theorem d_M_likeOf_137 : decode prog_8_method_11_code 137 = .ok (.iload_n 2, 1) := by decide +kernel
theorem d_M_likeOf_138 : decode prog_8_method_11_code 138 = .ok (.if_icmp .ne 7, 3) := by decide +kernel
theorem d_M_likeOf_141 : decode prog_8_method_11_code 141 = .ok (.iconst 2, 1) := by decide +kernel
theorem d_M_likeOf_142 : decode prog_8_method_11_code 142 = .ok (.goto 4, 3) := by decide +kernel
theorem d_M_likeOf_145 : decode prog_8_method_11_code 145 = .ok (.iconst 1, 1) := by decide +kernel
theorem d_M_likeOf_146 : decode prog_8_method_11_code 146 = .ok (.imul, 1) := by decide +kernel
theorem d_M_likeOf_147 : decode prog_8_method_11_code 147 = .ok (.ireturn, 1) := by decide +kernel
theorem d_M_likeOf_148 : decode prog_8_method_11_code 148 = .ok (.aload_n 0, 1) := by decide +kernel
theorem d_M_likeOf_149 : decode prog_8_method_11_code 149 = .ok (.getfield 20, 3) := by decide +kernel
theorem d_M_likeOf_152 : decode prog_8_method_11_code 152 = .ok (.iload_n 2, 1) := by decide +kernel
theorem d_M_likeOf_153 : decode prog_8_method_11_code 153 = .ok (.iaload, 1) := by decide +kernel
theorem d_M_likeOf_154 : decode prog_8_method_11_code 154 = .ok (.ifCond .ne 7, 3) := by decide +kernel
theorem d_M_likeOf_157 : decode prog_8_method_11_code 157 = .ok (.iconst 0, 1) := by decide +kernel
theorem d_M_likeOf_158 : decode prog_8_method_11_code 158 = .ok (.goto 9, 3) := by decide +kernel
theorem d_M_likeOf_161 : decode prog_8_method_11_code 161 = .ok (.aload_n 0, 1) := by decide +kernel
theorem d_M_likeOf_162 : decode prog_8_method_11_code 162 = .ok (.iload_n 1, 1) := by decide +kernel
theorem d_M_likeOf_163 : decode prog_8_method_11_code 163 = .ok (.iload_n 2, 1) := by decide +kernel
theorem d_M_likeOf_164 : decode prog_8_method_11_code 164 = .ok (.invokevirtual 126, 3) := by decide +kernel
theorem d_M_likeOf_167 : decode prog_8_method_11_code 167 = .ok (.ireturn, 1) := by decide +kernel
theorem gc_M_likeOf_119 : GoodIn yGW (wsV "WhoseGlassModel" 119 yR5 m_M_plainly ws_M_plainly) := y_gV g_1038 g_1040 gs_34 g_6 g_1041
theorem gc_M_likeOf_123 : GoodIn yGW (wsV "WhoseGlassModel" 123 yR5 m_M_tally ws_M_tally) := y_gV g_1042 g_1044 gs_35 g_6 g_1045
theorem gc_M_likeOf_126 : GoodIn yGW (wsV "WhoseGlassModel" 126 yR5 m_M_redly ws_M_redly) := y_gV g_1046 g_1048 gs_36 g_6 g_1049
set_option maxRecDepth 100000 in
def f_M_likeOf (F : Nat) (u : Mm) (o : Nat) (a1 : Int32) (a2 : Int32) : Option (Int32 × Mm) := ob (jgr YM 5 4 (some o)) fun (r1 : Option Nat) => ob (jal YM u r1 a1) fun (x2 : Int32) => (if x2 = (0 : Int32) then ob (jk YM 5 (some o)) fun t => yb (f_M_plainly F u t a1 a2) fun x4 u5 => some (x4, u5) else (if x2 = (1 : Int32) then (if a1 = a2 then some ((20 : Int32), u) else some ((0 : Int32), u)) else (if x2 = (2 : Int32) then ob (jk YM 5 (some o)) fun t => yb (f_M_tally F u t a1 a2) fun x9 u10 => some (x9, u10) else (if x2 = (3 : Int32) then ob (jk YM 5 (some o)) fun t => yb (f_M_redly F u t a1 a2) fun x12 u13 => some (x12, u13) else (if x2 = (4 : Int32) then ob (jk YM 5 (some o)) fun t => yb (f_M_tally F u t a1 a2) fun x15 u16 => ob (jgr YM 5 4 (some o)) fun (r17 : Option Nat) => ob (jal YM u16 r17 a2) fun (x18 : Int32) => ob ((if x18 = (4 : Int32) then some (1 : Int32) else some (0 : Int32)) : Option (Int32)) fun q19 => some ((x15 + q19), u16) else (if x2 = (5 : Int32) then (if a1 = a2 then some ((20 : Int32), u) else ob (jgr YM 5 4 (some o)) fun (r23 : Option Nat) => ob (jal YM u r23 a2) fun (x24 : Int32) => (if x24 = (5 : Int32) then some ((5 : Int32), u) else some ((0 : Int32), u))) else (if x2 = (6 : Int32) then ob (jk YM 5 (some o)) fun t => yb (f_M_redly F u t a1 a2) fun x27 u28 => ob ((if a1 = a2 then some (2 : Int32) else some (1 : Int32)) : Option (Int32)) fun q29 => some ((x27 * q29), u28) else ob (jgr YM 5 6 (some o)) fun (r31 : Option Nat) => ob (jal YM u r31 a2) fun (x32 : Int32) => (if x32 = 0 then some ((0 : Int32), u) else ob (jk YM 5 (some o)) fun t => yb (f_M_redly F u t a1 a2) fun x34 u35 => some (x34, u35)))))))))
set_option maxHeartbeats 4000000 in
set_option maxRecDepth 100000 in
theorem c_M_likeOf (l : Launch) (w : WP) (F : Nat) (u : Mm) (o : Nat) (a1 : Int32) (a2 : Int32) (out : Int32 × Mm) (h : f_M_likeOf F u o a1 a2 = some out) : yMet l m_M_likeOf ws_M_likeOf ({ frames := 2, cells := 0, slots := 0, locals := 45 } : Room) YM w u [va_re w.1 (some o), .int a1, .int a2] yfi out := by
  refine y_entry (own := "WhoseGlassModel") (lv := [(0, va_re w.1 (some o)), (1, .int a1), (2, .int a2)]) (by decide +kernel) rfl (by simp [lv_args, y_cat, y_catI, y_catJ]) (by simp [lg_sl, y_cat, y_catI, y_catJ]) ?_
  intro p e s m args below meth c C hr hlocks
  unfold f_M_likeOf at h
  refine y_aload_n C (i := 0) 0 d_M_likeOf_0 rfl rfl ?_
  refine y_gr C (q := (yR5, yT5, 46)) (ci := 5) (k := 4) rfl (by decide) rfl (by decide) g_788 d_M_likeOf_1 h (fun r1 h => ?_)
  refine y_iload_n C (i := 1) 1 d_M_likeOf_4 rfl rfl ?_
  refine y_al C d_M_likeOf_5 h (fun x2 h => ?_)
  refine y_sp h (fun k3 h => ?_) (fun k3 h => ?_)
  · refine y_tsw C (off := 42) 48 d_M_likeOf_6 (Or.inr ⟨by rw [k3]; decide, by rw [k3]; decide, by rw [k3]; rfl⟩) (by decide) ?_
    refine y_aload_n C (i := 0) 0 d_M_likeOf_48 rfl rfl ?_
    refine y_iload_n C (i := 1) 1 d_M_likeOf_49 rfl rfl ?_
    refine y_iload_n C (i := 2) 2 d_M_likeOf_50 rfl rfl ?_
    refine y_callV 2 C (q := (yR5, yT5, 46)) (ci := 5) (fun t out hh => c_M_plainly l w F u t a1 a2 out hh) gc_M_likeOf_119 rfl (by decide) hd_M_plainly ⟨Nat.le_of_ble_eq_true rfl, Nat.le_of_ble_eq_true rfl⟩ rfl rfl rfl rfl (by simp [y_cat, y_catI, y_catJ]) d_M_likeOf_51 h (fun x4 u5 h => ?_)
    refine y_stk (stp0 := [.int x4]) rfl ?_
    exact y_iret C hr hlocks d_M_likeOf_54 h
  refine y_sp h (fun k6 h => ?_) (fun k6 h => ?_)
  · refine y_tsw C (off := 49) 55 d_M_likeOf_6 (Or.inr ⟨by rw [k6]; decide, by rw [k6]; decide, by rw [k6]; rfl⟩) (by decide) ?_
    refine y_iload_n C (i := 1) 1 d_M_likeOf_55 rfl rfl ?_
    refine y_iload_n C (i := 2) 2 d_M_likeOf_56 rfl rfl ?_
    refine y_ic_ne C 65 d_M_likeOf_57 (by decide) h (fun k7 h => ?_) (fun k7 h => ?_)
    · refine y_bipush C (v := 20) d_M_likeOf_60 (by decide) ?_
      refine y_goto C (tgt := 66) d_M_likeOf_62 (by decide) ?_
      exact y_iret C hr hlocks d_M_likeOf_66 h
    · refine y_iconst C (v := 0) d_M_likeOf_65 (by decide) ?_
      exact y_iret C hr hlocks d_M_likeOf_66 h
  refine y_sp h (fun k8 h => ?_) (fun k8 h => ?_)
  · refine y_tsw C (off := 61) 67 d_M_likeOf_6 (Or.inr ⟨by rw [k8]; decide, by rw [k8]; decide, by rw [k8]; rfl⟩) (by decide) ?_
    refine y_aload_n C (i := 0) 0 d_M_likeOf_67 rfl rfl ?_
    refine y_iload_n C (i := 1) 1 d_M_likeOf_68 rfl rfl ?_
    refine y_iload_n C (i := 2) 2 d_M_likeOf_69 rfl rfl ?_
    refine y_callV 2 C (q := (yR5, yT5, 46)) (ci := 5) (fun t out hh => c_M_tally l w F u t a1 a2 out hh) gc_M_likeOf_123 rfl (by decide) hd_M_tally ⟨Nat.le_of_ble_eq_true rfl, Nat.le_of_ble_eq_true rfl⟩ rfl rfl rfl rfl (by simp [y_cat, y_catI, y_catJ]) d_M_likeOf_70 h (fun x9 u10 h => ?_)
    refine y_stk (stp0 := [.int x9]) rfl ?_
    exact y_iret C hr hlocks d_M_likeOf_73 h
  refine y_sp h (fun k11 h => ?_) (fun k11 h => ?_)
  · refine y_tsw C (off := 68) 74 d_M_likeOf_6 (Or.inr ⟨by rw [k11]; decide, by rw [k11]; decide, by rw [k11]; rfl⟩) (by decide) ?_
    refine y_aload_n C (i := 0) 0 d_M_likeOf_74 rfl rfl ?_
    refine y_iload_n C (i := 1) 1 d_M_likeOf_75 rfl rfl ?_
    refine y_iload_n C (i := 2) 2 d_M_likeOf_76 rfl rfl ?_
    refine y_callV 2 C (q := (yR5, yT5, 46)) (ci := 5) (fun t out hh => c_M_redly l w F u t a1 a2 out hh) gc_M_likeOf_126 rfl (by decide) hd_M_redly ⟨Nat.le_of_ble_eq_true rfl, Nat.le_of_ble_eq_true rfl⟩ rfl rfl rfl rfl (by simp [y_cat, y_catI, y_catJ]) d_M_likeOf_77 h (fun x12 u13 h => ?_)
    refine y_stk (stp0 := [.int x12]) rfl ?_
    exact y_iret C hr hlocks d_M_likeOf_80 h
  refine y_sp h (fun k14 h => ?_) (fun k14 h => ?_)
  · refine y_tsw C (off := 75) 81 d_M_likeOf_6 (Or.inr ⟨by rw [k14]; decide, by rw [k14]; decide, by rw [k14]; rfl⟩) (by decide) ?_
    refine y_aload_n C (i := 0) 0 d_M_likeOf_81 rfl rfl ?_
    refine y_iload_n C (i := 1) 1 d_M_likeOf_82 rfl rfl ?_
    refine y_iload_n C (i := 2) 2 d_M_likeOf_83 rfl rfl ?_
    refine y_callV 2 C (q := (yR5, yT5, 46)) (ci := 5) (fun t out hh => c_M_tally l w F u t a1 a2 out hh) gc_M_likeOf_123 rfl (by decide) hd_M_tally ⟨Nat.le_of_ble_eq_true rfl, Nat.le_of_ble_eq_true rfl⟩ rfl rfl rfl rfl (by simp [y_cat, y_catI, y_catJ]) d_M_likeOf_84 h (fun x15 u16 h => ?_)
    refine y_stk (stp0 := [.int x15]) rfl ?_
    refine y_aload_n C (i := 0) 0 d_M_likeOf_87 rfl rfl ?_
    refine y_gr C (q := (yR5, yT5, 46)) (ci := 5) (k := 4) rfl (by decide) rfl (by decide) g_788 d_M_likeOf_88 h (fun r17 h => ?_)
    refine y_iload_n C (i := 2) 2 d_M_likeOf_91 rfl rfl ?_
    refine y_al C d_M_likeOf_92 h (fun x18 h => ?_)
    refine y_iconst C (v := 4) d_M_likeOf_93 (by decide) ?_
    obtain ⟨q19, hq19, h⟩ := ob_e h
    have hJq19 : yG p l e ({ frames := 2, cells := 0, slots := 0, locals := 45 } : Room) s m args below meth c YM w 3 (MQ below (yQ YM w yfi out) args s 0 0 (yA YM w)) u16 102 [] [.int q19, .int x15] := by
      refine y_iadd C d_M_likeOf_102 ?_
      exact y_iret C hr hlocks d_M_likeOf_103 h
    refine y_ic_ne C 101 d_M_likeOf_94 (by decide) hq19 (fun k20 hq19 => ?_) (fun k20 hq19 => ?_)
    · refine y_iconst C (v := 1) d_M_likeOf_97 (by decide) ?_
      refine y_goto C (tgt := 102) d_M_likeOf_98 (by decide) ?_
      cases hq19
      exact y_sub [] rfl hJq19
    · refine y_iconst C (v := 0) d_M_likeOf_101 (by decide) ?_
      cases hq19
      exact y_sub [] rfl hJq19
  refine y_sp h (fun k21 h => ?_) (fun k21 h => ?_)
  · refine y_tsw C (off := 98) 104 d_M_likeOf_6 (Or.inr ⟨by rw [k21]; decide, by rw [k21]; decide, by rw [k21]; rfl⟩) (by decide) ?_
    refine y_iload_n C (i := 1) 1 d_M_likeOf_104 rfl rfl ?_
    refine y_iload_n C (i := 2) 2 d_M_likeOf_105 rfl rfl ?_
    refine y_ic_ne C 114 d_M_likeOf_106 (by decide) h (fun k22 h => ?_) (fun k22 h => ?_)
    · refine y_bipush C (v := 20) d_M_likeOf_109 (by decide) ?_
      refine y_goto C (tgt := 129) d_M_likeOf_111 (by decide) ?_
      exact y_iret C hr hlocks d_M_likeOf_129 h
    · refine y_aload_n C (i := 0) 0 d_M_likeOf_114 rfl rfl ?_
      refine y_gr C (q := (yR5, yT5, 46)) (ci := 5) (k := 4) rfl (by decide) rfl (by decide) g_788 d_M_likeOf_115 h (fun r23 h => ?_)
      refine y_iload_n C (i := 2) 2 d_M_likeOf_118 rfl rfl ?_
      refine y_al C d_M_likeOf_119 h (fun x24 h => ?_)
      refine y_iconst C (v := 5) d_M_likeOf_120 (by decide) ?_
      refine y_ic_ne C 128 d_M_likeOf_121 (by decide) h (fun k25 h => ?_) (fun k25 h => ?_)
      · refine y_iconst C (v := 5) d_M_likeOf_124 (by decide) ?_
        refine y_goto C (tgt := 129) d_M_likeOf_125 (by decide) ?_
        exact y_iret C hr hlocks d_M_likeOf_129 h
      · refine y_iconst C (v := 0) d_M_likeOf_128 (by decide) ?_
        exact y_iret C hr hlocks d_M_likeOf_129 h
  refine y_sp h (fun k26 h => ?_) (fun k26 h => ?_)
  · refine y_tsw C (off := 124) 130 d_M_likeOf_6 (Or.inr ⟨by rw [k26]; decide, by rw [k26]; decide, by rw [k26]; rfl⟩) (by decide) ?_
    refine y_aload_n C (i := 0) 0 d_M_likeOf_130 rfl rfl ?_
    refine y_iload_n C (i := 1) 1 d_M_likeOf_131 rfl rfl ?_
    refine y_iload_n C (i := 2) 2 d_M_likeOf_132 rfl rfl ?_
    refine y_callV 2 C (q := (yR5, yT5, 46)) (ci := 5) (fun t out hh => c_M_redly l w F u t a1 a2 out hh) gc_M_likeOf_126 rfl (by decide) hd_M_redly ⟨Nat.le_of_ble_eq_true rfl, Nat.le_of_ble_eq_true rfl⟩ rfl rfl rfl rfl (by simp [y_cat, y_catI, y_catJ]) d_M_likeOf_133 h (fun x27 u28 h => ?_)
    refine y_stk (stp0 := [.int x27]) rfl ?_
    refine y_iload_n C (i := 1) 1 d_M_likeOf_136 rfl rfl ?_
    refine y_iload_n C (i := 2) 2 d_M_likeOf_137 rfl rfl ?_
    obtain ⟨q29, hq29, h⟩ := ob_e h
    have hJq29 : yG p l e ({ frames := 2, cells := 0, slots := 0, locals := 45 } : Room) s m args below meth c YM w 3 (MQ below (yQ YM w yfi out) args s 0 0 (yA YM w)) u28 146 [] [.int q29, .int x27] := by
      refine y_imul C d_M_likeOf_146 ?_
      exact y_iret C hr hlocks d_M_likeOf_147 h
    refine y_ic_ne C 145 d_M_likeOf_138 (by decide) hq29 (fun k30 hq29 => ?_) (fun k30 hq29 => ?_)
    · refine y_iconst C (v := 2) d_M_likeOf_141 (by decide) ?_
      refine y_goto C (tgt := 146) d_M_likeOf_142 (by decide) ?_
      cases hq29
      exact y_sub [] rfl hJq29
    · refine y_iconst C (v := 1) d_M_likeOf_145 (by decide) ?_
      cases hq29
      exact y_sub [] rfl hJq29
  refine y_tsw C (off := 142) 148 d_M_likeOf_6 (Or.inl ⟨by have ak3 := lv_neT (a := 0) k3 rfl; have ak6 := lv_neT (a := 1) k6 rfl; have ak8 := lv_neT (a := 2) k8 rfl; have ak11 := lv_neT (a := 3) k11 rfl; have ak14 := lv_neT (a := 4) k14 rfl; have ak21 := lv_neT (a := 5) k21 rfl; have ak26 := lv_neT (a := 6) k26 rfl; omega, rfl⟩) (by decide) ?_
  refine y_aload_n C (i := 0) 0 d_M_likeOf_148 rfl rfl ?_
  refine y_gr C (q := (yR5, yT5, 46)) (ci := 5) (k := 6) rfl (by decide) rfl (by decide) g_790 d_M_likeOf_149 h (fun r31 h => ?_)
  refine y_iload_n C (i := 2) 2 d_M_likeOf_152 rfl rfl ?_
  refine y_al C d_M_likeOf_153 h (fun x32 h => ?_)
  refine y_if_ne C 161 d_M_likeOf_154 (by decide) h (fun k33 h => ?_) (fun k33 h => ?_)
  · refine y_iconst C (v := 0) d_M_likeOf_157 (by decide) ?_
    refine y_goto C (tgt := 167) d_M_likeOf_158 (by decide) ?_
    exact y_iret C hr hlocks d_M_likeOf_167 h
  · refine y_aload_n C (i := 0) 0 d_M_likeOf_161 rfl rfl ?_
    refine y_iload_n C (i := 1) 1 d_M_likeOf_162 rfl rfl ?_
    refine y_iload_n C (i := 2) 2 d_M_likeOf_163 rfl rfl ?_
    refine y_callV 2 C (q := (yR5, yT5, 46)) (ci := 5) (fun t out hh => c_M_redly l w F u t a1 a2 out hh) gc_M_likeOf_126 rfl (by decide) hd_M_redly ⟨Nat.le_of_ble_eq_true rfl, Nat.le_of_ble_eq_true rfl⟩ rfl rfl rfl rfl (by simp [y_cat, y_catI, y_catJ]) d_M_likeOf_164 h (fun x34 u35 h => ?_)
    refine y_stk (stp0 := [.int x34]) rfl ?_
    exact y_iret C hr hlocks d_M_likeOf_167 h
/-! M_isLater -/
theorem d_M_isLater_0 : decode prog_8_method_15_code 0 = .ok (.aload_n 0, 1) := by decide +kernel
theorem d_M_isLater_1 : decode prog_8_method_15_code 1 = .ok (.getfield 26, 3) := by decide +kernel
theorem d_M_isLater_4 : decode prog_8_method_15_code 4 = .ok (.iload_n 1, 1) := by decide +kernel
theorem d_M_isLater_5 : decode prog_8_method_15_code 5 = .ok (.iaload, 1) := by decide +kernel
theorem d_M_isLater_6 : decode prog_8_method_15_code 6 = .ok (.aload_n 0, 1) := by decide +kernel
theorem d_M_isLater_7 : decode prog_8_method_15_code 7 = .ok (.getfield 26, 3) := by decide +kernel
theorem d_M_isLater_10 : decode prog_8_method_15_code 10 = .ok (.iload_n 2, 1) := by decide +kernel
theorem d_M_isLater_11 : decode prog_8_method_15_code 11 = .ok (.iaload, 1) := by decide +kernel
theorem d_M_isLater_12 : decode prog_8_method_15_code 12 = .ok (.if_icmp .le 7, 3) := by decide +kernel
theorem d_M_isLater_15 : decode prog_8_method_15_code 15 = .ok (.iconst 1, 1) := by decide +kernel
theorem d_M_isLater_16 : decode prog_8_method_15_code 16 = .ok (.goto 4, 3) := by decide +kernel
theorem d_M_isLater_19 : decode prog_8_method_15_code 19 = .ok (.iconst 0, 1) := by decide +kernel
theorem d_M_isLater_20 : decode prog_8_method_15_code 20 = .ok (.ireturn, 1) := by decide +kernel
set_option maxRecDepth 100000 in
def f_M_isLater (F : Nat) (u : Mm) (o : Nat) (a1 : Int32) (a2 : Int32) : Option (Int32 × Mm) := ob (jgr YM 5 8 (some o)) fun (r1 : Option Nat) => ob (jal YM u r1 a1) fun (x2 : Int32) => ob (jgr YM 5 8 (some o)) fun (r3 : Option Nat) => ob (jal YM u r3 a2) fun (x4 : Int32) => (if x2 ≤ x4 then ob (jz (0 : Int32)) (fun v => some (v, u)) else ob (jz (1 : Int32)) (fun v => some (v, u)))
set_option maxHeartbeats 4000000 in
set_option maxRecDepth 100000 in
theorem c_M_isLater (l : Launch) (w : WP) (F : Nat) (u : Mm) (o : Nat) (a1 : Int32) (a2 : Int32) (out : Int32 × Mm) (h : f_M_isLater F u o a1 a2 = some out) : yMet l m_M_isLater ws_M_isLater ({ frames := 0, cells := 0, slots := 0, locals := 0 } : Room) YM w u [va_re w.1 (some o), .int a1, .int a2] yfi out := by
  refine y_entry (own := "WhoseGlassModel") (lv := [(0, va_re w.1 (some o)), (1, .int a1), (2, .int a2)]) (by decide +kernel) rfl (by simp [lv_args, y_cat, y_catI, y_catJ]) (by simp [lg_sl, y_cat, y_catI, y_catJ]) ?_
  intro p e s m args below meth c C hr hlocks
  unfold f_M_isLater at h
  refine y_aload_n C (i := 0) 0 d_M_isLater_0 rfl rfl ?_
  refine y_gr C (q := (yR5, yT5, 46)) (ci := 5) (k := 8) rfl (by decide) rfl (by decide) g_792 d_M_isLater_1 h (fun r1 h => ?_)
  refine y_iload_n C (i := 1) 1 d_M_isLater_4 rfl rfl ?_
  refine y_al C d_M_isLater_5 h (fun x2 h => ?_)
  refine y_aload_n C (i := 0) 0 d_M_isLater_6 rfl rfl ?_
  refine y_gr C (q := (yR5, yT5, 46)) (ci := 5) (k := 8) rfl (by decide) rfl (by decide) g_792 d_M_isLater_7 h (fun r3 h => ?_)
  refine y_iload_n C (i := 2) 2 d_M_isLater_10 rfl rfl ?_
  refine y_al C d_M_isLater_11 h (fun x4 h => ?_)
  refine y_ic_le C 19 d_M_isLater_12 (by decide) h (fun k5 h => ?_) (fun k5 h => ?_)
  · refine y_iconst C (v := 0) d_M_isLater_19 (by decide) ?_
    exact y_zret C hr hlocks d_M_isLater_20 h
  · refine y_iconst C (v := 1) d_M_isLater_15 (by decide) ?_
    refine y_goto C (tgt := 20) d_M_isLater_16 (by decide) ?_
    exact y_zret C hr hlocks d_M_isLater_20 h
/-! M_wouldTake -/
theorem d_M_wouldTake_0 : decode prog_8_method_16_code 0 = .ok (.aload_n 0, 1) := by decide +kernel
theorem d_M_wouldTake_1 : decode prog_8_method_16_code 1 = .ok (.getfield 53, 3) := by decide +kernel
theorem d_M_wouldTake_4 : decode prog_8_method_16_code 4 = .ok (.iload_n 1, 1) := by decide +kernel
theorem d_M_wouldTake_5 : decode prog_8_method_16_code 5 = .ok (.iaload, 1) := by decide +kernel
theorem d_M_wouldTake_6 : decode prog_8_method_16_code 6 = .ok (.istore_n 2, 1) := by decide +kernel
theorem d_M_wouldTake_7 : decode prog_8_method_16_code 7 = .ok (.iload_n 2, 1) := by decide +kernel
theorem d_M_wouldTake_8 : decode prog_8_method_16_code 8 = .ok (.ifCond .lt 14, 3) := by decide +kernel
theorem d_M_wouldTake_11 : decode prog_8_method_16_code 11 = .ok (.aload_n 0, 1) := by decide +kernel
theorem d_M_wouldTake_12 : decode prog_8_method_16_code 12 = .ok (.getfield 23, 3) := by decide +kernel
theorem d_M_wouldTake_15 : decode prog_8_method_16_code 15 = .ok (.iload_n 2, 1) := by decide +kernel
theorem d_M_wouldTake_16 : decode prog_8_method_16_code 16 = .ok (.iaload, 1) := by decide +kernel
theorem d_M_wouldTake_17 : decode prog_8_method_16_code 17 = .ok (.bipush 20, 2) := by decide +kernel
theorem d_M_wouldTake_19 : decode prog_8_method_16_code 19 = .ok (.if_icmp .ne 6, 3) := by decide +kernel
theorem d_M_wouldTake_22 : decode prog_8_method_16_code 22 = .ok (.bipush (-4), 2) := by decide +kernel
theorem d_M_wouldTake_24 : decode prog_8_method_16_code 24 = .ok (.ireturn, 1) := by decide +kernel
theorem d_M_wouldTake_25 : decode prog_8_method_16_code 25 = .ok (.bipush (-4), 2) := by decide +kernel
theorem d_M_wouldTake_27 : decode prog_8_method_16_code 27 = .ok (.istore_n 3, 1) := by decide +kernel
theorem d_M_wouldTake_28 : decode prog_8_method_16_code 28 = .ok (.iconst 0, 1) := by decide +kernel
theorem d_M_wouldTake_29 : decode prog_8_method_16_code 29 = .ok (.istore 4, 2) := by decide +kernel
theorem d_M_wouldTake_31 : decode prog_8_method_16_code 31 = .ok (.iload 4, 2) := by decide +kernel
theorem d_M_wouldTake_33 : decode prog_8_method_16_code 33 = .ok (.aload_n 0, 1) := by decide +kernel
theorem d_M_wouldTake_34 : decode prog_8_method_16_code 34 = .ok (.getfield 105, 3) := by decide +kernel
theorem d_M_wouldTake_37 : decode prog_8_method_16_code 37 = .ok (.if_icmp .ge 130, 3) := by decide +kernel
theorem d_M_wouldTake_40 : decode prog_8_method_16_code 40 = .ok (.aload_n 0, 1) := by decide +kernel
theorem d_M_wouldTake_41 : decode prog_8_method_16_code 41 = .ok (.getfield 23, 3) := by decide +kernel
theorem d_M_wouldTake_44 : decode prog_8_method_16_code 44 = .ok (.iload 4, 2) := by decide +kernel
theorem d_M_wouldTake_46 : decode prog_8_method_16_code 46 = .ok (.iaload, 1) := by decide +kernel
theorem d_M_wouldTake_47 : decode prog_8_method_16_code 47 = .ok (.aload_n 0, 1) := by decide +kernel
theorem d_M_wouldTake_48 : decode prog_8_method_16_code 48 = .ok (.getfield 47, 3) := by decide +kernel
theorem d_M_wouldTake_51 : decode prog_8_method_16_code 51 = .ok (.iload_n 1, 1) := by decide +kernel
theorem d_M_wouldTake_52 : decode prog_8_method_16_code 52 = .ok (.iaload, 1) := by decide +kernel
theorem d_M_wouldTake_53 : decode prog_8_method_16_code 53 = .ok (.if_icmp .ne 7, 3) := by decide +kernel
theorem d_M_wouldTake_56 : decode prog_8_method_16_code 56 = .ok (.iconst 1, 1) := by decide +kernel
theorem d_M_wouldTake_57 : decode prog_8_method_16_code 57 = .ok (.goto 4, 3) := by decide +kernel
theorem d_M_wouldTake_60 : decode prog_8_method_16_code 60 = .ok (.iconst 0, 1) := by decide +kernel
theorem d_M_wouldTake_61 : decode prog_8_method_16_code 61 = .ok (.istore 5, 2) := by decide +kernel
theorem d_M_wouldTake_63 : decode prog_8_method_16_code 63 = .ok (.iload 5, 2) := by decide +kernel
theorem d_M_wouldTake_65 : decode prog_8_method_16_code 65 = .ok (.ifCond .eq 13, 3) := by decide +kernel
theorem d_M_wouldTake_68 : decode prog_8_method_16_code 68 = .ok (.aload_n 0, 1) := by decide +kernel
theorem d_M_wouldTake_69 : decode prog_8_method_16_code 69 = .ok (.iload_n 2, 1) := by decide +kernel
theorem d_M_wouldTake_70 : decode prog_8_method_16_code 70 = .ok (.iload 4, 2) := by decide +kernel
theorem d_M_wouldTake_72 : decode prog_8_method_16_code 72 = .ok (.invokevirtual 136, 3) := by decide +kernel
theorem d_M_wouldTake_75 : decode prog_8_method_16_code 75 = .ok (.goto 4, 3) := by decide +kernel
theorem d_M_wouldTake_78 : decode prog_8_method_16_code 78 = .ok (.iconst 0, 1) := by decide +kernel
theorem d_M_wouldTake_79 : decode prog_8_method_16_code 79 = .ok (.istore 6, 2) := by decide +kernel
theorem d_M_wouldTake_81 : decode prog_8_method_16_code 81 = .ok (.iload 5, 2) := by decide +kernel
theorem d_M_wouldTake_83 : decode prog_8_method_16_code 83 = .ok (.ifCond .eq 23, 3) := by decide +kernel
theorem d_M_wouldTake_86 : decode prog_8_method_16_code 86 = .ok (.iload 6, 2) := by decide +kernel
theorem d_M_wouldTake_88 : decode prog_8_method_16_code 88 = .ok (.ifCond .le 18, 3) := by decide +kernel
theorem d_M_wouldTake_91 : decode prog_8_method_16_code 91 = .ok (.iload 6, 2) := by decide +kernel
theorem d_M_wouldTake_93 : decode prog_8_method_16_code 93 = .ok (.aload_n 0, 1) := by decide +kernel
theorem d_M_wouldTake_94 : decode prog_8_method_16_code 94 = .ok (.getfield 44, 3) := by decide +kernel
theorem d_M_wouldTake_97 : decode prog_8_method_16_code 97 = .ok (.iload_n 1, 1) := by decide +kernel
theorem d_M_wouldTake_98 : decode prog_8_method_16_code 98 = .ok (.iaload, 1) := by decide +kernel
theorem d_M_wouldTake_99 : decode prog_8_method_16_code 99 = .ok (.if_icmp .lt 7, 3) := by decide +kernel
theorem d_M_wouldTake_102 : decode prog_8_method_16_code 102 = .ok (.iconst 1, 1) := by decide +kernel
theorem d_M_wouldTake_103 : decode prog_8_method_16_code 103 = .ok (.goto 4, 3) := by decide +kernel
theorem d_M_wouldTake_106 : decode prog_8_method_16_code 106 = .ok (.iconst 0, 1) := by decide +kernel
theorem d_M_wouldTake_107 : decode prog_8_method_16_code 107 = .ok (.istore 7, 2) := by decide +kernel
theorem d_M_wouldTake_109 : decode prog_8_method_16_code 109 = .ok (.iload_n 3, 1) := by decide +kernel
theorem d_M_wouldTake_110 : decode prog_8_method_16_code 110 = .ok (.ifCond .ge 7, 3) := by decide +kernel
theorem d_M_wouldTake_113 : decode prog_8_method_16_code 113 = .ok (.iconst 0, 1) := by decide +kernel
theorem d_M_wouldTake_114 : decode prog_8_method_16_code 114 = .ok (.goto 9, 3) := by decide +kernel
theorem d_M_wouldTake_117 : decode prog_8_method_16_code 117 = .ok (.aload_n 0, 1) := by decide +kernel
theorem d_M_wouldTake_118 : decode prog_8_method_16_code 118 = .ok (.iload_n 2, 1) := by decide +kernel
theorem d_M_wouldTake_119 : decode prog_8_method_16_code 119 = .ok (.iload_n 3, 1) := by decide +kernel
theorem d_M_wouldTake_120 : decode prog_8_method_16_code 120 = .ok (.invokevirtual 136, 3) := by decide +kernel
theorem d_M_wouldTake_123 : decode prog_8_method_16_code 123 = .ok (.istore 8, 2) := by decide +kernel
theorem d_M_wouldTake_125 : decode prog_8_method_16_code 125 = .ok (.iload 7, 2) := by decide +kernel
theorem d_M_wouldTake_127 : decode prog_8_method_16_code 127 = .ok (.ifCond .eq 32, 3) := by decide +kernel
theorem d_M_wouldTake_130 : decode prog_8_method_16_code 130 = .ok (.iload 6, 2) := by decide +kernel
theorem d_M_wouldTake_132 : decode prog_8_method_16_code 132 = .ok (.iload 8, 2) := by decide +kernel
theorem d_M_wouldTake_134 : decode prog_8_method_16_code 134 = .ok (.if_icmp .gt 20, 3) := by decide +kernel
theorem d_M_wouldTake_137 : decode prog_8_method_16_code 137 = .ok (.iload 6, 2) := by decide +kernel
theorem d_M_wouldTake_139 : decode prog_8_method_16_code 139 = .ok (.iload 8, 2) := by decide +kernel
theorem d_M_wouldTake_141 : decode prog_8_method_16_code 141 = .ok (.if_icmp .ne 18, 3) := by decide +kernel
theorem d_M_wouldTake_144 : decode prog_8_method_16_code 144 = .ok (.aload_n 0, 1) := by decide +kernel
theorem d_M_wouldTake_145 : decode prog_8_method_16_code 145 = .ok (.iload 4, 2) := by decide +kernel
theorem d_M_wouldTake_147 : decode prog_8_method_16_code 147 = .ok (.iload_n 3, 1) := by decide +kernel
theorem d_M_wouldTake_148 : decode prog_8_method_16_code 148 = .ok (.invokevirtual 139, 3) := by decide +kernel
theorem d_M_wouldTake_151 : decode prog_8_method_16_code 151 = .ok (.ifCond .eq 8, 3) := by decide +kernel
theorem d_M_wouldTake_154 : decode prog_8_method_16_code 154 = .ok (.iload 4, 2) := by decide +kernel
theorem d_M_wouldTake_156 : decode prog_8_method_16_code 156 = .ok (.goto 4, 3) := by decide +kernel
theorem d_M_wouldTake_159 : decode prog_8_method_16_code 159 = .ok (.iload_n 3, 1) := by decide +kernel
theorem d_M_wouldTake_160 : decode prog_8_method_16_code 160 = .ok (.istore_n 3, 1) := by decide +kernel
theorem d_M_wouldTake_161 : decode prog_8_method_16_code 161 = .ok (.iinc 4 1, 3) := by decide +kernel
theorem d_M_wouldTake_164 : decode prog_8_method_16_code 164 = .ok (.goto (-133), 3) := by decide +kernel
theorem d_M_wouldTake_167 : decode prog_8_method_16_code 167 = .ok (.iload_n 3, 1) := by decide +kernel
theorem d_M_wouldTake_168 : decode prog_8_method_16_code 168 = .ok (.ireturn, 1) := by decide +kernel
theorem gc_M_wouldTake_136 : GoodIn yGW (wsV "WhoseGlassModel" 136 yR5 m_M_likeOf ws_M_likeOf) := y_gV g_1034 g_1036 gs_33 g_6 g_1037
theorem gc_M_wouldTake_139 : GoodIn yGW (wsV "WhoseGlassModel" 139 yR5 m_M_isLater ws_M_isLater) := y_gV g_1050 g_1052 gs_37 g_6 g_1053
set_option maxHeartbeats 4000000 in
set_option maxRecDepth 100000 in
def f_M_wouldTake_L31 (F : Nat) (a0 : Option Nat) (a1 : Int32) (a2 : Int32) (k : Mm → Int32 → Option (Int32 × Mm)) : Nat → Mm → Int32 → Int32 → Option (Int32 × Mm)
  | 0, _, _, _ => none
  | n + 1, u, a3, a4 => ob (jgi YM 5 0 u a0) fun (x7 : Int32) => (if x7 ≤ a4 then k u a3 else ob (jgr YM 5 7 a0) fun (r9 : Option Nat) => ob (jal YM u r9 a4) fun (x10 : Int32) => ob (jgr YM 5 15 a0) fun (r11 : Option Nat) => ob (jal YM u r11 a1) fun (x12 : Int32) => ob ((if x10 = x12 then some (1 : Int32) else some (0 : Int32)) : Option (Int32)) fun q13 => ob ((if q13 = 0 then some ((0 : Int32), u) else ob (jk YM 5 a0) fun t => yb (f_M_likeOf F u t a2 a4) fun x17 u18 => some (x17, u18)) : Option (Int32 × Mm)) fun q15 => ob ((if q13 = 0 then some (0 : Int32) else (if q15.1 ≤ 0 then some (0 : Int32) else ob (jgr YM 5 14 a0) fun (r22 : Option Nat) => ob (jal YM q15.2 r22 a1) fun (x23 : Int32) => (if q15.1 < x23 then some (0 : Int32) else some (1 : Int32)))) : Option (Int32)) fun q19 => ob ((if 0 ≤ a3 then ob (jk YM 5 a0) fun t => yb (f_M_likeOf F q15.2 t a2 a3) fun x27 u28 => some (x27, u28) else some ((0 : Int32), q15.2)) : Option (Int32 × Mm)) fun q25 => ob ((if q19 = 0 then some (a3, q25.2) else (if q25.1 < q15.1 then some (a4, q25.2) else (if q15.1 = q25.1 then ob (jk YM 5 a0) fun t => yb (f_M_isLater F q25.2 t a4 a3) fun x33 u34 => (if x33 = 0 then some (a3, u34) else some (a4, u34)) else some (a3, q25.2)))) : Option (Int32 × Mm)) fun q29 => ob (some (a4 + (1 : Int32))) fun (x36 : Int32) => f_M_wouldTake_L31 F a0 a1 a2 k n q29.2 q29.1 x36)
set_option maxHeartbeats 4000000 in
set_option maxRecDepth 100000 in
theorem w_M_wouldTake_L31 {p : Program} {l : Launch} {e : Env} {s : State} {m : MethodId} {args : Array Value} {below : List Frame} {meth : Method} {c : Code} {w : WP} {Q : State → Prop} (F : Nat) (C : yX p e ({ frames := 3, cells := 0, slots := 0, locals := 67 } : Room) s m args c YM w 9 prog_8_method_16_code "WhoseGlassModel") (hr : meth.sig.returnType = (some .int)) (hlocks : meth.locks = false) (a0 : Option Nat) (a1 : Int32) (a2 : Int32) {out : Int32 × Mm} (k : Mm → Int32 → Option (Int32 × Mm)) (hk : ∀ (u : Mm) (a3 : Int32), k u a3 = some out → yG p l e ({ frames := 3, cells := 0, slots := 0, locals := 67 } : Room) s m args below meth c YM w 9 Q u 167 [(3, .int a3)] []) : ∀ (n : Nat) (u : Mm) (a3 : Int32) (a4 : Int32), f_M_wouldTake_L31 F a0 a1 a2 k n u a3 a4 = some out → yG p l e ({ frames := 3, cells := 0, slots := 0, locals := 67 } : Room) s m args below meth c YM w 9 Q u 31 [(0, va_re w.1 a0), (1, .int a1), (2, .int a2), (3, .int a3), (4, .int a4)] [] := by
  intro n
  induction n with
  | zero => intro u a3 a4 h; rw [f_M_wouldTake_L31] at h; cases h
  | succ n ih =>
    intro u a3 a4 h
    rw [f_M_wouldTake_L31] at h
    refine y_iload C (i := 4) 4 d_M_wouldTake_31 rfl ?_
    refine y_aload_n C (i := 0) 0 d_M_wouldTake_33 rfl rfl ?_
    refine y_gi C (q := (yR5, yT5, 46)) (ci := 5) (k := 0) rfl (by decide) rfl g_784 d_M_wouldTake_34 h (fun x7 h => ?_)
    refine y_ic_ge C 167 d_M_wouldTake_37 (by decide) h (fun k8 h => ?_) (fun k8 h => ?_)
    · exact y_sub [3] rfl (hk _ _ h)
    · refine y_aload_n C (i := 0) 0 d_M_wouldTake_40 rfl rfl ?_
      refine y_gr C (q := (yR5, yT5, 46)) (ci := 5) (k := 7) rfl (by decide) rfl (by decide) g_791 d_M_wouldTake_41 h (fun r9 h => ?_)
      refine y_iload C (i := 4) 4 d_M_wouldTake_44 rfl ?_
      refine y_al C d_M_wouldTake_46 h (fun x10 h => ?_)
      refine y_aload_n C (i := 0) 0 d_M_wouldTake_47 rfl rfl ?_
      refine y_gr C (q := (yR5, yT5, 46)) (ci := 5) (k := 15) rfl (by decide) rfl (by decide) g_799 d_M_wouldTake_48 h (fun r11 h => ?_)
      refine y_iload_n C (i := 1) 1 d_M_wouldTake_51 rfl rfl ?_
      refine y_al C d_M_wouldTake_52 h (fun x12 h => ?_)
      obtain ⟨q13, hq13, h⟩ := ob_e h
      have hJq13 : yG p l e ({ frames := 3, cells := 0, slots := 0, locals := 67 } : Room) s m args below meth c YM w 9 Q u 61 [(0, va_re w.1 a0), (1, .int a1), (2, .int a2), (3, .int a3), (4, .int a4)] [.int q13] := by
        refine y_istore C (i := 5) (lvp := [(0, va_re w.1 a0), (1, .int a1), (2, .int a2), (3, .int a3), (4, .int a4)]) d_M_wouldTake_61 (by decide) rfl ?_
        refine y_iload C (i := 5) 0 d_M_wouldTake_63 rfl ?_
        obtain ⟨q15, hq15, h⟩ := ob_e h
        have hJq15 : yG p l e ({ frames := 3, cells := 0, slots := 0, locals := 67 } : Room) s m args below meth c YM w 9 Q q15.2 79 [(0, va_re w.1 a0), (1, .int a1), (2, .int a2), (3, .int a3), (4, .int a4), (5, .int q13)] [.int q15.1] := by
          refine y_istore C (i := 6) (lvp := [(0, va_re w.1 a0), (1, .int a1), (2, .int a2), (3, .int a3), (4, .int a4), (5, .int q13)]) d_M_wouldTake_79 (by decide) rfl ?_
          refine y_iload C (i := 5) 6 d_M_wouldTake_81 rfl ?_
          obtain ⟨q19, hq19, h⟩ := ob_e h
          have hJq19 : yG p l e ({ frames := 3, cells := 0, slots := 0, locals := 67 } : Room) s m args below meth c YM w 9 Q q15.2 107 [(0, va_re w.1 a0), (1, .int a1), (2, .int a2), (3, .int a3), (4, .int a4), (6, .int q15.1)] [.int q19] := by
            refine y_istore C (i := 7) (lvp := [(0, va_re w.1 a0), (1, .int a1), (2, .int a2), (3, .int a3), (4, .int a4), (6, .int q15.1)]) d_M_wouldTake_107 (by decide) rfl ?_
            refine y_iload_n C (i := 3) 4 d_M_wouldTake_109 rfl rfl ?_
            obtain ⟨q25, hq25, h⟩ := ob_e h
            have hJq25 : yG p l e ({ frames := 3, cells := 0, slots := 0, locals := 67 } : Room) s m args below meth c YM w 9 Q q25.2 123 [(0, va_re w.1 a0), (1, .int a1), (2, .int a2), (3, .int a3), (4, .int a4), (6, .int q15.1), (7, .int q19)] [.int q25.1] := by
              refine y_istore C (i := 8) (lvp := [(0, va_re w.1 a0), (1, .int a1), (2, .int a2), (3, .int a3), (4, .int a4), (6, .int q15.1), (7, .int q19)]) d_M_wouldTake_123 (by decide) rfl ?_
              refine y_iload C (i := 7) 7 d_M_wouldTake_125 rfl ?_
              obtain ⟨q29, hq29, h⟩ := ob_e h
              have hJq29 : yG p l e ({ frames := 3, cells := 0, slots := 0, locals := 67 } : Room) s m args below meth c YM w 9 Q q29.2 160 [(0, va_re w.1 a0), (1, .int a1), (2, .int a2), (4, .int a4)] [.int q29.1] := by
                refine y_istore_n C (i := 3) (lvp := [(0, va_re w.1 a0), (1, .int a1), (2, .int a2), (4, .int a4)]) d_M_wouldTake_160 rfl (by decide) rfl ?_
                refine y_iinc C (j := 4) (v := 1) (lvp := [(3, .int q29.1), (0, va_re w.1 a0), (1, .int a1), (2, .int a2)]) d_M_wouldTake_161 rfl (by decide) (by decide) rfl h (fun x36 h => ?_)
                refine y_goto C (tgt := 31) d_M_wouldTake_164 (by decide) ?_
                exact y_sub [2, 3, 4, 1, 0] rfl (ih _ _ _ h)
              refine y_if_eq C 159 d_M_wouldTake_127 (by decide) hq29 (fun k30 hq29 => ?_) (fun k30 hq29 => ?_)
              · refine y_iload_n C (i := 3) 4 d_M_wouldTake_159 rfl rfl ?_
                cases hq29
                exact y_sub [1, 2, 3, 5] rfl hJq29
              · refine y_iload C (i := 6) 6 d_M_wouldTake_130 rfl ?_
                refine y_iload C (i := 8) 0 d_M_wouldTake_132 rfl ?_
                refine y_ic_gt C 154 d_M_wouldTake_134 (by decide) hq29 (fun k31 hq29 => ?_) (fun k31 hq29 => ?_)
                · refine y_iload C (i := 4) 5 d_M_wouldTake_154 rfl ?_
                  refine y_goto C (tgt := 160) d_M_wouldTake_156 (by decide) ?_
                  cases hq29
                  exact y_sub [1, 2, 3, 5] rfl hJq29
                · refine y_iload C (i := 6) 6 d_M_wouldTake_137 rfl ?_
                  refine y_iload C (i := 8) 0 d_M_wouldTake_139 rfl ?_
                  refine y_ic_ne C 159 d_M_wouldTake_141 (by decide) hq29 (fun k32 hq29 => ?_) (fun k32 hq29 => ?_)
                  · refine y_aload_n C (i := 0) 1 d_M_wouldTake_144 rfl rfl ?_
                    refine y_iload C (i := 4) 5 d_M_wouldTake_145 rfl ?_
                    refine y_iload_n C (i := 3) 4 d_M_wouldTake_147 rfl rfl ?_
                    refine y_callV 2 C (q := (yR5, yT5, 46)) (ci := 5) (fun t out hh => c_M_isLater l w F q25.2 t a4 a3 out hh) gc_M_wouldTake_139 rfl (by decide) hd_M_isLater ⟨Nat.le_of_ble_eq_true rfl, Nat.le_of_ble_eq_true rfl⟩ rfl rfl rfl rfl (by simp [y_cat, y_catI, y_catJ]) d_M_wouldTake_148 hq29 (fun x33 u34 hq29 => ?_)
                    refine y_stk (stp0 := [.int x33]) rfl ?_
                    refine y_if_eq C 159 d_M_wouldTake_151 (by decide) hq29 (fun k35 hq29 => ?_) (fun k35 hq29 => ?_)
                    · refine y_iload_n C (i := 3) 4 d_M_wouldTake_159 rfl rfl ?_
                      cases hq29
                      exact y_sub [1, 2, 3, 5] rfl hJq29
                    · refine y_iload C (i := 4) 5 d_M_wouldTake_154 rfl ?_
                      refine y_goto C (tgt := 160) d_M_wouldTake_156 (by decide) ?_
                      cases hq29
                      exact y_sub [1, 2, 3, 5] rfl hJq29
                  · refine y_iload_n C (i := 3) 4 d_M_wouldTake_159 rfl rfl ?_
                    cases hq29
                    exact y_sub [1, 2, 3, 5] rfl hJq29
            refine y_if_ge C 117 d_M_wouldTake_110 (by decide) hq25 (fun k26 hq25 => ?_) (fun k26 hq25 => ?_)
            · refine y_aload_n C (i := 0) 1 d_M_wouldTake_117 rfl rfl ?_
              refine y_iload_n C (i := 2) 3 d_M_wouldTake_118 rfl rfl ?_
              refine y_iload_n C (i := 3) 4 d_M_wouldTake_119 rfl rfl ?_
              refine y_callV 2 C (q := (yR5, yT5, 46)) (ci := 5) (fun t out hh => c_M_likeOf l w F q15.2 t a2 a3 out hh) gc_M_wouldTake_136 rfl (by decide) hd_M_likeOf ⟨Nat.le_of_ble_eq_true rfl, Nat.le_of_ble_eq_true rfl⟩ rfl rfl rfl rfl (by simp [y_cat, y_catI, y_catJ]) d_M_wouldTake_120 hq25 (fun x27 u28 hq25 => ?_)
              refine y_stk (stp0 := [.int x27]) rfl ?_
              cases hq25
              exact y_sub [1, 2, 3, 4, 5, 6, 0] rfl hJq25
            · refine y_iconst C (v := 0) d_M_wouldTake_113 (by decide) ?_
              refine y_goto C (tgt := 123) d_M_wouldTake_114 (by decide) ?_
              cases hq25
              exact y_sub [1, 2, 3, 4, 5, 6, 0] rfl hJq25
          refine y_if_eq C 106 d_M_wouldTake_83 (by decide) hq19 (fun k20 hq19 => ?_) (fun k20 hq19 => ?_)
          · refine y_iconst C (v := 0) d_M_wouldTake_106 (by decide) ?_
            cases hq19
            exact y_sub [1, 2, 3, 4, 5, 0] rfl hJq19
          · refine y_iload C (i := 6) 0 d_M_wouldTake_86 rfl ?_
            refine y_if_le C 106 d_M_wouldTake_88 (by decide) hq19 (fun k21 hq19 => ?_) (fun k21 hq19 => ?_)
            · refine y_iconst C (v := 0) d_M_wouldTake_106 (by decide) ?_
              cases hq19
              exact y_sub [1, 2, 3, 4, 5, 0] rfl hJq19
            · refine y_iload C (i := 6) 0 d_M_wouldTake_91 rfl ?_
              refine y_aload_n C (i := 0) 1 d_M_wouldTake_93 rfl rfl ?_
              refine y_gr C (q := (yR5, yT5, 46)) (ci := 5) (k := 14) rfl (by decide) rfl (by decide) g_798 d_M_wouldTake_94 hq19 (fun r22 hq19 => ?_)
              refine y_iload_n C (i := 1) 2 d_M_wouldTake_97 rfl rfl ?_
              refine y_al C d_M_wouldTake_98 hq19 (fun x23 hq19 => ?_)
              refine y_ic_lt C 106 d_M_wouldTake_99 (by decide) hq19 (fun k24 hq19 => ?_) (fun k24 hq19 => ?_)
              · refine y_iconst C (v := 0) d_M_wouldTake_106 (by decide) ?_
                cases hq19
                exact y_sub [1, 2, 3, 4, 5, 0] rfl hJq19
              · refine y_iconst C (v := 1) d_M_wouldTake_102 (by decide) ?_
                refine y_goto C (tgt := 107) d_M_wouldTake_103 (by decide) ?_
                cases hq19
                exact y_sub [1, 2, 3, 4, 5, 0] rfl hJq19
        refine y_if_eq C 78 d_M_wouldTake_65 (by decide) hq15 (fun k16 hq15 => ?_) (fun k16 hq15 => ?_)
        · refine y_iconst C (v := 0) d_M_wouldTake_78 (by decide) ?_
          cases hq15
          exact y_sub [1, 2, 3, 4, 5, 0] rfl hJq15
        · refine y_aload_n C (i := 0) 1 d_M_wouldTake_68 rfl rfl ?_
          refine y_iload_n C (i := 2) 3 d_M_wouldTake_69 rfl rfl ?_
          refine y_iload C (i := 4) 5 d_M_wouldTake_70 rfl ?_
          refine y_callV 2 C (q := (yR5, yT5, 46)) (ci := 5) (fun t out hh => c_M_likeOf l w F u t a2 a4 out hh) gc_M_wouldTake_136 rfl (by decide) hd_M_likeOf ⟨Nat.le_of_ble_eq_true rfl, Nat.le_of_ble_eq_true rfl⟩ rfl rfl rfl rfl (by simp [y_cat, y_catI, y_catJ]) d_M_wouldTake_72 hq15 (fun x17 u18 hq15 => ?_)
          refine y_stk (stp0 := [.int x17]) rfl ?_
          refine y_goto C (tgt := 79) d_M_wouldTake_75 (by decide) ?_
          cases hq15
          exact y_sub [1, 2, 3, 4, 5, 0] rfl hJq15
      refine y_ic_ne C 60 d_M_wouldTake_53 (by decide) hq13 (fun k14 hq13 => ?_) (fun k14 hq13 => ?_)
      · refine y_iconst C (v := 1) d_M_wouldTake_56 (by decide) ?_
        refine y_goto C (tgt := 61) d_M_wouldTake_57 (by decide) ?_
        cases hq13
        exact y_sub [0, 1, 2, 3, 4] rfl hJq13
      · refine y_iconst C (v := 0) d_M_wouldTake_60 (by decide) ?_
        cases hq13
        exact y_sub [0, 1, 2, 3, 4] rfl hJq13
set_option maxRecDepth 100000 in
def f_M_wouldTake (F : Nat) (u : Mm) (o : Nat) (a1 : Int32) : Option (Int32 × Mm) := ob (jgr YM 5 17 (some o)) fun (r1 : Option Nat) => ob (jal YM u r1 a1) fun (x2 : Int32) => (if x2 < 0 then some ((-4 : Int32), u) else ob (jgr YM 5 7 (some o)) fun (r4 : Option Nat) => ob (jal YM u r4 x2) fun (x5 : Int32) => (if x5 = (20 : Int32) then some ((-4 : Int32), u) else f_M_wouldTake_L31 F (some o) a1 x2 (fun (u37 : Mm) (x38 : Int32) => some (x38, u37)) F u (-4 : Int32) (0 : Int32)))
set_option maxHeartbeats 4000000 in
set_option maxRecDepth 100000 in
theorem c_M_wouldTake (l : Launch) (w : WP) (F : Nat) (u : Mm) (o : Nat) (a1 : Int32) (out : Int32 × Mm) (h : f_M_wouldTake F u o a1 = some out) : yMet l m_M_wouldTake ws_M_wouldTake ({ frames := 3, cells := 0, slots := 0, locals := 67 } : Room) YM w u [va_re w.1 (some o), .int a1] yfi out := by
  refine y_entry (own := "WhoseGlassModel") (lv := [(0, va_re w.1 (some o)), (1, .int a1)]) (by decide +kernel) rfl (by simp [lv_args, y_cat, y_catI, y_catJ]) (by simp [lg_sl, y_cat, y_catI, y_catJ]) ?_
  intro p e s m args below meth c C hr hlocks
  unfold f_M_wouldTake at h
  refine y_aload_n C (i := 0) 0 d_M_wouldTake_0 rfl rfl ?_
  refine y_gr C (q := (yR5, yT5, 46)) (ci := 5) (k := 17) rfl (by decide) rfl (by decide) g_801 d_M_wouldTake_1 h (fun r1 h => ?_)
  refine y_iload_n C (i := 1) 1 d_M_wouldTake_4 rfl rfl ?_
  refine y_al C d_M_wouldTake_5 h (fun x2 h => ?_)
  refine y_istore_n C (i := 2) (lvp := [(0, va_re w.1 (some o)), (1, .int a1)]) d_M_wouldTake_6 rfl (by decide) rfl ?_
  refine y_iload_n C (i := 2) 0 d_M_wouldTake_7 rfl rfl ?_
  refine y_if_lt C 22 d_M_wouldTake_8 (by decide) h (fun k3 h => ?_) (fun k3 h => ?_)
  · refine y_bipush C (v := -4) d_M_wouldTake_22 (by decide) ?_
    exact y_iret C hr hlocks d_M_wouldTake_24 h
  · refine y_aload_n C (i := 0) 1 d_M_wouldTake_11 rfl rfl ?_
    refine y_gr C (q := (yR5, yT5, 46)) (ci := 5) (k := 7) rfl (by decide) rfl (by decide) g_791 d_M_wouldTake_12 h (fun r4 h => ?_)
    refine y_iload_n C (i := 2) 0 d_M_wouldTake_15 rfl rfl ?_
    refine y_al C d_M_wouldTake_16 h (fun x5 h => ?_)
    refine y_bipush C (v := 20) d_M_wouldTake_17 (by decide) ?_
    refine y_ic_ne C 25 d_M_wouldTake_19 (by decide) h (fun k6 h => ?_) (fun k6 h => ?_)
    · refine y_bipush C (v := -4) d_M_wouldTake_22 (by decide) ?_
      exact y_iret C hr hlocks d_M_wouldTake_24 h
    · refine y_bipush C (v := -4) d_M_wouldTake_25 (by decide) ?_
      refine y_istore_n C (i := 3) (lvp := [(2, .int x2), (0, va_re w.1 (some o)), (1, .int a1)]) d_M_wouldTake_27 rfl (by decide) rfl ?_
      refine y_iconst C (v := 0) d_M_wouldTake_28 (by decide) ?_
      refine y_istore C (i := 4) (lvp := [(3, .int (-4 : Int32)), (2, .int x2), (0, va_re w.1 (some o)), (1, .int a1)]) d_M_wouldTake_29 (by decide) rfl ?_
      refine y_sub [3, 4, 2, 1, 0] rfl (w_M_wouldTake_L31 F C hr hlocks _ _ _ _ (fun u37 x38 h => ?_) _ _ _ _ h)
      refine y_iload_n C (i := 3) 0 d_M_wouldTake_167 rfl rfl ?_
      exact y_iret C hr hlocks d_M_wouldTake_168 h
/-! M_takeOne -/
theorem d_M_takeOne_0 : decode prog_8_method_19_code 0 = .ok (.aload_n 0, 1) := by decide +kernel
theorem d_M_takeOne_1 : decode prog_8_method_19_code 1 = .ok (.iload_n 1, 1) := by decide +kernel
theorem d_M_takeOne_2 : decode prog_8_method_19_code 2 = .ok (.invokevirtual 143, 3) := by decide +kernel
theorem d_M_takeOne_5 : decode prog_8_method_19_code 5 = .ok (.istore_n 2, 1) := by decide +kernel
theorem d_M_takeOne_6 : decode prog_8_method_19_code 6 = .ok (.iload_n 2, 1) := by decide +kernel
theorem d_M_takeOne_7 : decode prog_8_method_19_code 7 = .ok (.ifCond .lt 35, 3) := by decide +kernel
theorem d_M_takeOne_10 : decode prog_8_method_19_code 10 = .ok (.aload_n 0, 1) := by decide +kernel
theorem d_M_takeOne_11 : decode prog_8_method_19_code 11 = .ok (.dup, 1) := by decide +kernel
theorem d_M_takeOne_12 : decode prog_8_method_19_code 12 = .ok (.getfield 146, 3) := by decide +kernel
theorem d_M_takeOne_15 : decode prog_8_method_19_code 15 = .ok (.iload_n 2, 1) := by decide +kernel
theorem d_M_takeOne_16 : decode prog_8_method_19_code 16 = .ok (.aload_n 0, 1) := by decide +kernel
theorem d_M_takeOne_17 : decode prog_8_method_19_code 17 = .ok (.getfield 53, 3) := by decide +kernel
theorem d_M_takeOne_20 : decode prog_8_method_19_code 20 = .ok (.iload_n 1, 1) := by decide +kernel
theorem d_M_takeOne_21 : decode prog_8_method_19_code 21 = .ok (.iaload, 1) := by decide +kernel
theorem d_M_takeOne_22 : decode prog_8_method_19_code 22 = .ok (.if_icmp .ne 7, 3) := by decide +kernel
theorem d_M_takeOne_25 : decode prog_8_method_19_code 25 = .ok (.iconst 0, 1) := by decide +kernel
theorem d_M_takeOne_26 : decode prog_8_method_19_code 26 = .ok (.goto 4, 3) := by decide +kernel
theorem d_M_takeOne_29 : decode prog_8_method_19_code 29 = .ok (.iconst 1, 1) := by decide +kernel
theorem d_M_takeOne_30 : decode prog_8_method_19_code 30 = .ok (.iadd, 1) := by decide +kernel
theorem d_M_takeOne_31 : decode prog_8_method_19_code 31 = .ok (.putfield 146, 3) := by decide +kernel
theorem d_M_takeOne_34 : decode prog_8_method_19_code 34 = .ok (.aload_n 0, 1) := by decide +kernel
theorem d_M_takeOne_35 : decode prog_8_method_19_code 35 = .ok (.iload_n 1, 1) := by decide +kernel
theorem d_M_takeOne_36 : decode prog_8_method_19_code 36 = .ok (.iload_n 2, 1) := by decide +kernel
theorem d_M_takeOne_37 : decode prog_8_method_19_code 37 = .ok (.invokevirtual 149, 3) := by decide +kernel
theorem d_M_takeOne_40 : decode prog_8_method_19_code 40 = .ok (.iload_n 2, 1) := by decide +kernel
theorem d_M_takeOne_41 : decode prog_8_method_19_code 41 = .ok (.ireturn, 1) := by decide +kernel
theorem d_M_takeOne_42 : decode prog_8_method_19_code 42 = .ok (.aload_n 0, 1) := by decide +kernel
theorem d_M_takeOne_43 : decode prog_8_method_19_code 43 = .ok (.getfield 7, 3) := by decide +kernel
theorem d_M_takeOne_46 : decode prog_8_method_19_code 46 = .ok (.ifCond .eq 12, 3) := by decide +kernel
theorem d_M_takeOne_49 : decode prog_8_method_19_code 49 = .ok (.aload_n 0, 1) := by decide +kernel
theorem d_M_takeOne_50 : decode prog_8_method_19_code 50 = .ok (.getfield 105, 3) := by decide +kernel
theorem d_M_takeOne_53 : decode prog_8_method_19_code 53 = .ok (.bipush 12, 2) := by decide +kernel
theorem d_M_takeOne_55 : decode prog_8_method_19_code 55 = .ok (.if_icmp .ne 6, 3) := by decide +kernel
theorem d_M_takeOne_58 : decode prog_8_method_19_code 58 = .ok (.bipush (-4), 2) := by decide +kernel
theorem d_M_takeOne_60 : decode prog_8_method_19_code 60 = .ok (.ireturn, 1) := by decide +kernel
theorem d_M_takeOne_61 : decode prog_8_method_19_code 61 = .ok (.aload_n 0, 1) := by decide +kernel
theorem d_M_takeOne_62 : decode prog_8_method_19_code 62 = .ok (.dup, 1) := by decide +kernel
theorem d_M_takeOne_63 : decode prog_8_method_19_code 63 = .ok (.getfield 7, 3) := by decide +kernel
theorem d_M_takeOne_66 : decode prog_8_method_19_code 66 = .ok (.iconst 1, 1) := by decide +kernel
theorem d_M_takeOne_67 : decode prog_8_method_19_code 67 = .ok (.isub, 1) := by decide +kernel
theorem d_M_takeOne_68 : decode prog_8_method_19_code 68 = .ok (.putfield 7, 3) := by decide +kernel
theorem d_M_takeOne_71 : decode prog_8_method_19_code 71 = .ok (.aload_n 0, 1) := by decide +kernel
theorem d_M_takeOne_72 : decode prog_8_method_19_code 72 = .ok (.iconst 0, 1) := by decide +kernel
theorem d_M_takeOne_73 : decode prog_8_method_19_code 73 = .ok (.aload_n 0, 1) := by decide +kernel
theorem d_M_takeOne_74 : decode prog_8_method_19_code 74 = .ok (.getfield 7, 3) := by decide +kernel
theorem d_M_takeOne_77 : decode prog_8_method_19_code 77 = .ok (.bipush 10, 2) := by decide +kernel
theorem d_M_takeOne_79 : decode prog_8_method_19_code 79 = .ok (.irem, 1) := by decide +kernel
theorem d_M_takeOne_80 : decode prog_8_method_19_code 80 = .ok (.bipush 9, 2) := by decide +kernel
theorem d_M_takeOne_82 : decode prog_8_method_19_code 82 = .ok (.bipush 10, 2) := by decide +kernel
theorem d_M_takeOne_84 : decode prog_8_method_19_code 84 = .ok (.iload_n 1, 1) := by decide +kernel
theorem d_M_takeOne_85 : decode prog_8_method_19_code 85 = .ok (.iadd, 1) := by decide +kernel
theorem d_M_takeOne_86 : decode prog_8_method_19_code 86 = .ok (.invokevirtual 153, 3) := by decide +kernel
theorem d_M_takeOne_89 : decode prog_8_method_19_code 89 = .ok (.istore_n 2, 1) := by decide +kernel
theorem d_M_takeOne_90 : decode prog_8_method_19_code 90 = .ok (.aload_n 0, 1) := by decide +kernel
theorem d_M_takeOne_91 : decode prog_8_method_19_code 91 = .ok (.iload_n 1, 1) := by decide +kernel
theorem d_M_takeOne_92 : decode prog_8_method_19_code 92 = .ok (.iload_n 2, 1) := by decide +kernel
theorem d_M_takeOne_93 : decode prog_8_method_19_code 93 = .ok (.invokevirtual 149, 3) := by decide +kernel
theorem d_M_takeOne_96 : decode prog_8_method_19_code 96 = .ok (.aload_n 0, 1) := by decide +kernel
theorem d_M_takeOne_97 : decode prog_8_method_19_code 97 = .ok (.dup, 1) := by decide +kernel
theorem d_M_takeOne_98 : decode prog_8_method_19_code 98 = .ok (.getfield 157, 3) := by decide +kernel
theorem d_M_takeOne_101 : decode prog_8_method_19_code 101 = .ok (.iconst 1, 1) := by decide +kernel
theorem d_M_takeOne_102 : decode prog_8_method_19_code 102 = .ok (.iadd, 1) := by decide +kernel
theorem d_M_takeOne_103 : decode prog_8_method_19_code 103 = .ok (.putfield 157, 3) := by decide +kernel
theorem d_M_takeOne_106 : decode prog_8_method_19_code 106 = .ok (.iload_n 2, 1) := by decide +kernel
theorem d_M_takeOne_107 : decode prog_8_method_19_code 107 = .ok (.ireturn, 1) := by decide +kernel
theorem gc_M_takeOne_143 : GoodIn yGW (wsV "WhoseGlassModel" 143 yR5 m_M_wouldTake ws_M_wouldTake) := y_gV g_1030 g_1032 gs_32 g_6 g_1033
theorem gc_M_takeOne_153 : GoodIn yGW (wsV "WhoseGlassModel" 153 yR5 m_M_bring ws_M_bring) := y_gV g_990 g_992 gs_22 g_6 g_993
theorem gc_M_takeOne_149 : GoodIn yGW (wsV "WhoseGlassModel" 149 yR5 m_M_hold ws_M_hold) := y_gV g_1010 g_1012 gs_27 g_6 g_1013
set_option maxRecDepth 100000 in
def f_M_takeOne (F : Nat) (u : Mm) (o : Nat) (a1 : Int32) : Option (Int32 × Mm) := ob (jk YM 5 (some o)) fun t => yb (f_M_wouldTake F u t a1) fun x1 u2 => (if x1 < 0 then ob (jgi YM 5 2 u2 (some o)) fun (x4 : Int32) => (if x4 = 0 then some ((-4 : Int32), u2) else ob (jgi YM 5 0 u2 (some o)) fun (x6 : Int32) => (if x6 = (12 : Int32) then some ((-4 : Int32), u2) else ob (jgi YM 5 2 u2 (some o)) fun (x8 : Int32) => ob (jpi YM 5 2 u2 (some o) (x8 - (1 : Int32))) fun (u9 : Mm) => ob (jgi YM 5 2 u9 (some o)) fun (x10 : Int32) => ob (jrm x10 (10 : Int32)) fun (x11 : Int32) => ob (jk YM 5 (some o)) fun t => yb (f_M_bring F u9 t (0 : Int32) x11 (9 : Int32) ((10 : Int32) + a1)) fun x12 u13 => ob (jk YM 5 (some o)) fun t => yb (f_M_hold F u13 t a1 x12) fun v14 u15 => ob (jgi YM 5 21 u15 (some o)) fun (x16 : Int32) => ob (jpi YM 5 21 u15 (some o) (x16 + (1 : Int32))) fun (u17 : Mm) => some (x12, u17))) else ob (jgi YM 5 20 u2 (some o)) fun (x18 : Int32) => ob (jgr YM 5 17 (some o)) fun (r19 : Option Nat) => ob (jal YM u2 r19 a1) fun (x20 : Int32) => ob ((if x1 = x20 then some (0 : Int32) else some (1 : Int32)) : Option (Int32)) fun q21 => ob (jpi YM 5 20 u2 (some o) (x18 + q21)) fun (u23 : Mm) => ob (jk YM 5 (some o)) fun t => yb (f_M_hold F u23 t a1 x1) fun v24 u25 => some (x1, u25))
set_option maxHeartbeats 4000000 in
set_option maxRecDepth 100000 in
theorem c_M_takeOne (l : Launch) (w : WP) (F : Nat) (u : Mm) (o : Nat) (a1 : Int32) (out : Int32 × Mm) (h : f_M_takeOne F u o a1 = some out) : yMet l m_M_takeOne ws_M_takeOne ({ frames := 4, cells := 0, slots := 0, locals := 95 } : Room) YM w u [va_re w.1 (some o), .int a1] yfi out := by
  refine y_entry (own := "WhoseGlassModel") (lv := [(0, va_re w.1 (some o)), (1, .int a1)]) (by decide +kernel) rfl (by simp [lv_args, y_cat, y_catI, y_catJ]) (by simp [lg_sl, y_cat, y_catI, y_catJ]) ?_
  intro p e s m args below meth c C hr hlocks
  unfold f_M_takeOne at h
  refine y_aload_n C (i := 0) 0 d_M_takeOne_0 rfl rfl ?_
  refine y_iload_n C (i := 1) 1 d_M_takeOne_1 rfl rfl ?_
  refine y_callV 1 C (q := (yR5, yT5, 46)) (ci := 5) (fun t out hh => c_M_wouldTake l w F u t a1 out hh) gc_M_takeOne_143 rfl (by decide) hd_M_wouldTake ⟨Nat.le_of_ble_eq_true rfl, Nat.le_of_ble_eq_true rfl⟩ rfl rfl rfl rfl (by simp [y_cat, y_catI, y_catJ]) d_M_takeOne_2 h (fun x1 u2 h => ?_)
  refine y_stk (stp0 := [.int x1]) rfl ?_
  refine y_istore_n C (i := 2) (lvp := [(0, va_re w.1 (some o)), (1, .int a1)]) d_M_takeOne_5 rfl (by decide) rfl ?_
  refine y_iload_n C (i := 2) 0 d_M_takeOne_6 rfl rfl ?_
  refine y_if_lt C 42 d_M_takeOne_7 (by decide) h (fun k3 h => ?_) (fun k3 h => ?_)
  · refine y_aload_n C (i := 0) 1 d_M_takeOne_42 rfl rfl ?_
    refine y_gi C (q := (yR5, yT5, 46)) (ci := 5) (k := 2) rfl (by decide) rfl g_786 d_M_takeOne_43 h (fun x4 h => ?_)
    refine y_if_eq C 58 d_M_takeOne_46 (by decide) h (fun k5 h => ?_) (fun k5 h => ?_)
    · refine y_bipush C (v := -4) d_M_takeOne_58 (by decide) ?_
      exact y_iret C hr hlocks d_M_takeOne_60 h
    · refine y_aload_n C (i := 0) 1 d_M_takeOne_49 rfl rfl ?_
      refine y_gi C (q := (yR5, yT5, 46)) (ci := 5) (k := 0) rfl (by decide) rfl g_784 d_M_takeOne_50 h (fun x6 h => ?_)
      refine y_bipush C (v := 12) d_M_takeOne_53 (by decide) ?_
      refine y_ic_ne C 61 d_M_takeOne_55 (by decide) h (fun k7 h => ?_) (fun k7 h => ?_)
      · refine y_bipush C (v := -4) d_M_takeOne_58 (by decide) ?_
        exact y_iret C hr hlocks d_M_takeOne_60 h
      · refine y_aload_n C (i := 0) 1 d_M_takeOne_61 rfl rfl ?_
        refine y_dup C d_M_takeOne_62 (y_cat _ _) ?_
        refine y_gi C (q := (yR5, yT5, 46)) (ci := 5) (k := 2) rfl (by decide) rfl g_786 d_M_takeOne_63 h (fun x8 h => ?_)
        refine y_iconst C (v := 1) d_M_takeOne_66 (by decide) ?_
        refine y_isub C d_M_takeOne_67 ?_
        refine y_pi C (q := (yR5, yT5, 46)) (ci := 5) (k := 2) rfl (by decide) rfl rfl (by decide +kernel) g_786 d_M_takeOne_68 h (fun u9 h => ?_)
        refine y_aload_n C (i := 0) 1 d_M_takeOne_71 rfl rfl ?_
        refine y_iconst C (v := 0) d_M_takeOne_72 (by decide) ?_
        refine y_aload_n C (i := 0) 1 d_M_takeOne_73 rfl rfl ?_
        refine y_gi C (q := (yR5, yT5, 46)) (ci := 5) (k := 2) rfl (by decide) rfl g_786 d_M_takeOne_74 h (fun x10 h => ?_)
        refine y_bipush C (v := 10) d_M_takeOne_77 (by decide) ?_
        refine y_irem C d_M_takeOne_79 h (fun x11 h => ?_)
        refine y_bipush C (v := 9) d_M_takeOne_80 (by decide) ?_
        refine y_bipush C (v := 10) d_M_takeOne_82 (by decide) ?_
        refine y_iload_n C (i := 1) 2 d_M_takeOne_84 rfl rfl ?_
        refine y_iadd C d_M_takeOne_85 ?_
        refine y_callV 4 C (q := (yR5, yT5, 46)) (ci := 5) (fun t out hh => c_M_bring l w F u9 t (0 : Int32) x11 (9 : Int32) ((10 : Int32) + a1) out hh) gc_M_takeOne_153 rfl (by decide) hd_M_bring ⟨Nat.le_of_ble_eq_true rfl, Nat.le_of_ble_eq_true rfl⟩ rfl rfl rfl rfl (by simp [y_cat, y_catI, y_catJ]) d_M_takeOne_86 h (fun x12 u13 h => ?_)
        refine y_stk (stp0 := [.int x12]) rfl ?_
        refine y_istore_n C (i := 2) (lvp := [(0, va_re w.1 (some o)), (1, .int a1)]) d_M_takeOne_89 rfl (by decide) rfl ?_
        refine y_aload_n C (i := 0) 1 d_M_takeOne_90 rfl rfl ?_
        refine y_iload_n C (i := 1) 2 d_M_takeOne_91 rfl rfl ?_
        refine y_iload_n C (i := 2) 0 d_M_takeOne_92 rfl rfl ?_
        refine y_callV 2 C (q := (yR5, yT5, 46)) (ci := 5) (fun t out hh => c_M_hold l w F u13 t a1 x12 out hh) gc_M_takeOne_149 rfl (by decide) hd_M_hold ⟨Nat.le_of_ble_eq_true rfl, Nat.le_of_ble_eq_true rfl⟩ rfl rfl rfl rfl (by simp [y_cat, y_catI, y_catJ]) d_M_takeOne_93 h (fun v14 u15 h => ?_)
        refine y_stk (stp0 := []) rfl ?_
        refine y_aload_n C (i := 0) 1 d_M_takeOne_96 rfl rfl ?_
        refine y_dup C d_M_takeOne_97 (y_cat _ _) ?_
        refine y_gi C (q := (yR5, yT5, 46)) (ci := 5) (k := 21) rfl (by decide) rfl g_805 d_M_takeOne_98 h (fun x16 h => ?_)
        refine y_iconst C (v := 1) d_M_takeOne_101 (by decide) ?_
        refine y_iadd C d_M_takeOne_102 ?_
        refine y_pi C (q := (yR5, yT5, 46)) (ci := 5) (k := 21) rfl (by decide) rfl rfl (by decide +kernel) g_805 d_M_takeOne_103 h (fun u17 h => ?_)
        refine y_iload_n C (i := 2) 0 d_M_takeOne_106 rfl rfl ?_
        exact y_iret C hr hlocks d_M_takeOne_107 h
  · refine y_aload_n C (i := 0) 1 d_M_takeOne_10 rfl rfl ?_
    refine y_dup C d_M_takeOne_11 (y_cat _ _) ?_
    refine y_gi C (q := (yR5, yT5, 46)) (ci := 5) (k := 20) rfl (by decide) rfl g_804 d_M_takeOne_12 h (fun x18 h => ?_)
    refine y_iload_n C (i := 2) 0 d_M_takeOne_15 rfl rfl ?_
    refine y_aload_n C (i := 0) 1 d_M_takeOne_16 rfl rfl ?_
    refine y_gr C (q := (yR5, yT5, 46)) (ci := 5) (k := 17) rfl (by decide) rfl (by decide) g_801 d_M_takeOne_17 h (fun r19 h => ?_)
    refine y_iload_n C (i := 1) 2 d_M_takeOne_20 rfl rfl ?_
    refine y_al C d_M_takeOne_21 h (fun x20 h => ?_)
    obtain ⟨q21, hq21, h⟩ := ob_e h
    have hJq21 : yG p l e ({ frames := 4, cells := 0, slots := 0, locals := 95 } : Room) s m args below meth c YM w 3 (MQ below (yQ YM w yfi out) args s 0 0 (yA YM w)) u2 30 [(0, va_re w.1 (some o)), (1, .int a1), (2, .int x1)] [.int q21, .int x18, va_re w.1 (some o)] := by
      refine y_iadd C d_M_takeOne_30 ?_
      refine y_pi C (q := (yR5, yT5, 46)) (ci := 5) (k := 20) rfl (by decide) rfl rfl (by decide +kernel) g_804 d_M_takeOne_31 h (fun u23 h => ?_)
      refine y_aload_n C (i := 0) 0 d_M_takeOne_34 rfl rfl ?_
      refine y_iload_n C (i := 1) 1 d_M_takeOne_35 rfl rfl ?_
      refine y_iload_n C (i := 2) 2 d_M_takeOne_36 rfl rfl ?_
      refine y_callV 2 C (q := (yR5, yT5, 46)) (ci := 5) (fun t out hh => c_M_hold l w F u23 t a1 x1 out hh) gc_M_takeOne_149 rfl (by decide) hd_M_hold ⟨Nat.le_of_ble_eq_true rfl, Nat.le_of_ble_eq_true rfl⟩ rfl rfl rfl rfl (by simp [y_cat, y_catI, y_catJ]) d_M_takeOne_37 h (fun v24 u25 h => ?_)
      refine y_stk (stp0 := []) rfl ?_
      refine y_iload_n C (i := 2) 2 d_M_takeOne_40 rfl rfl ?_
      exact y_iret C hr hlocks d_M_takeOne_41 h
    refine y_ic_ne C 29 d_M_takeOne_22 (by decide) hq21 (fun k22 hq21 => ?_) (fun k22 hq21 => ?_)
    · refine y_iconst C (v := 0) d_M_takeOne_25 (by decide) ?_
      refine y_goto C (tgt := 30) d_M_takeOne_26 (by decide) ?_
      cases hq21
      exact y_sub [1, 2, 0] rfl hJq21
    · refine y_iconst C (v := 1) d_M_takeOne_29 (by decide) ?_
      cases hq21
      exact y_sub [1, 2, 0] rfl hJq21
/-! M_strengthOf -/
theorem d_M_strengthOf_0 : decode prog_8_method_12_code 0 = .ok (.aload_n 0, 1) := by decide +kernel
theorem d_M_strengthOf_1 : decode prog_8_method_12_code 1 = .ok (.getfield 13, 3) := by decide +kernel
theorem d_M_strengthOf_4 : decode prog_8_method_12_code 4 = .ok (.iload_n 1, 1) := by decide +kernel
theorem d_M_strengthOf_5 : decode prog_8_method_12_code 5 = .ok (.iaload, 1) := by decide +kernel
theorem d_M_strengthOf_6 : decode prog_8_method_12_code 6 = .ok (.tableswitch 85 2 7 #[38, 40, 49, 85, 51, 76], 38) := by decide +kernel
theorem d_M_strengthOf_44 : decode prog_8_method_12_code 44 = .ok (.iconst 1, 1) := by decide +kernel
theorem d_M_strengthOf_45 : decode prog_8_method_12_code 45 = .ok (.ireturn, 1) := by decide +kernel
theorem d_M_strengthOf_46 : decode prog_8_method_12_code 46 = .ok (.iconst 2, 1) := by decide +kernel
theorem d_M_strengthOf_47 : decode prog_8_method_12_code 47 = .ok (.aload_n 0, 1) := by decide +kernel
theorem d_M_strengthOf_48 : decode prog_8_method_12_code 48 = .ok (.getfield 17, 3) := by decide +kernel
theorem d_M_strengthOf_51 : decode prog_8_method_12_code 51 = .ok (.iload_n 1, 1) := by decide +kernel
theorem d_M_strengthOf_52 : decode prog_8_method_12_code 52 = .ok (.iaload, 1) := by decide +kernel
theorem d_M_strengthOf_53 : decode prog_8_method_12_code 53 = .ok (.iadd, 1) := by decide +kernel
theorem d_M_strengthOf_54 : decode prog_8_method_12_code 54 = .ok (.ireturn, 1) := by decide +kernel
theorem d_M_strengthOf_55 : decode prog_8_method_12_code 55 = .ok (.iconst 0, 1) := by decide +kernel
theorem d_M_strengthOf_56 : decode prog_8_method_12_code 56 = .ok (.ireturn, 1) := by decide +kernel
theorem d_M_strengthOf_57 : decode prog_8_method_12_code 57 = .ok (.aload_n 0, 1) := by decide +kernel
theorem d_M_strengthOf_58 : decode prog_8_method_12_code 58 = .ok (.getfield 20, 3) := by decide +kernel
theorem d_M_strengthOf_61 : decode prog_8_method_12_code 61 = .ok (.iload_n 1, 1) := by decide +kernel
theorem d_M_strengthOf_62 : decode prog_8_method_12_code 62 = .ok (.iaload, 1) := by decide +kernel
theorem d_M_strengthOf_63 : decode prog_8_method_12_code 63 = .ok (.iconst 2, 1) := by decide +kernel
theorem d_M_strengthOf_64 : decode prog_8_method_12_code 64 = .ok (.irem, 1) := by decide +kernel
theorem d_M_strengthOf_65 : decode prog_8_method_12_code 65 = .ok (.iconst 1, 1) := by decide +kernel
theorem d_M_strengthOf_66 : decode prog_8_method_12_code 66 = .ok (.if_icmp .ne 7, 3) := by decide +kernel
theorem d_M_strengthOf_69 : decode prog_8_method_12_code 69 = .ok (.iconst 0, 1) := by decide +kernel
theorem d_M_strengthOf_70 : decode prog_8_method_12_code 70 = .ok (.goto 11, 3) := by decide +kernel
theorem d_M_strengthOf_73 : decode prog_8_method_12_code 73 = .ok (.iconst 2, 1) := by decide +kernel
theorem d_M_strengthOf_74 : decode prog_8_method_12_code 74 = .ok (.aload_n 0, 1) := by decide +kernel
theorem d_M_strengthOf_75 : decode prog_8_method_12_code 75 = .ok (.getfield 17, 3) := by decide +kernel
theorem d_M_strengthOf_78 : decode prog_8_method_12_code 78 = .ok (.iload_n 1, 1) := by decide +kernel
theorem d_M_strengthOf_79 : decode prog_8_method_12_code 79 = .ok (.iaload, 1) := by decide +kernel
theorem d_M_strengthOf_80 : decode prog_8_method_12_code 80 = .ok (.iadd, 1) := by decide +kernel
theorem d_M_strengthOf_81 : decode prog_8_method_12_code 81 = .ok (.ireturn, 1) := by decide +kernel
theorem d_M_strengthOf_82 : decode prog_8_method_12_code 82 = .ok (.iconst 3, 1) := by decide +kernel
theorem d_M_strengthOf_83 : decode prog_8_method_12_code 83 = .ok (.aload_n 0, 1) := by decide +kernel
theorem d_M_strengthOf_84 : decode prog_8_method_12_code 84 = .ok (.getfield 17, 3) := by decide +kernel
theorem d_M_strengthOf_87 : decode prog_8_method_12_code 87 = .ok (.iload_n 1, 1) := by decide +kernel
theorem d_M_strengthOf_88 : decode prog_8_method_12_code 88 = .ok (.iaload, 1) := by decide +kernel
theorem d_M_strengthOf_89 : decode prog_8_method_12_code 89 = .ok (.iadd, 1) := by decide +kernel
theorem d_M_strengthOf_90 : decode prog_8_method_12_code 90 = .ok (.ireturn, 1) := by decide +kernel
theorem d_M_strengthOf_91 : decode prog_8_method_12_code 91 = .ok (.iconst 2, 1) := by decide +kernel
theorem d_M_strengthOf_92 : decode prog_8_method_12_code 92 = .ok (.ireturn, 1) := by decide +kernel
set_option maxRecDepth 100000 in
def f_M_strengthOf (F : Nat) (u : Mm) (o : Nat) (a1 : Int32) : Option (Int32 × Mm) := ob (jgr YM 5 4 (some o)) fun (r1 : Option Nat) => ob (jal YM u r1 a1) fun (x2 : Int32) => (if x2 = (2 : Int32) then some ((1 : Int32), u) else (if x2 = (3 : Int32) then ob (jgr YM 5 5 (some o)) fun (r5 : Option Nat) => ob (jal YM u r5 a1) fun (x6 : Int32) => some (((2 : Int32) + x6), u) else (if x2 = (4 : Int32) then some ((0 : Int32), u) else (if x2 = (6 : Int32) then ob (jgr YM 5 6 (some o)) fun (r9 : Option Nat) => ob (jal YM u r9 a1) fun (x10 : Int32) => ob (jrm x10 (2 : Int32)) fun (x11 : Int32) => (if x11 = (1 : Int32) then some ((0 : Int32), u) else ob (jgr YM 5 5 (some o)) fun (r13 : Option Nat) => ob (jal YM u r13 a1) fun (x14 : Int32) => some (((2 : Int32) + x14), u)) else (if x2 = (7 : Int32) then ob (jgr YM 5 5 (some o)) fun (r16 : Option Nat) => ob (jal YM u r16 a1) fun (x17 : Int32) => some (((3 : Int32) + x17), u) else some ((2 : Int32), u))))))
set_option maxHeartbeats 4000000 in
set_option maxRecDepth 100000 in
theorem c_M_strengthOf (l : Launch) (w : WP) (F : Nat) (u : Mm) (o : Nat) (a1 : Int32) (out : Int32 × Mm) (h : f_M_strengthOf F u o a1 = some out) : yMet l m_M_strengthOf ws_M_strengthOf ({ frames := 0, cells := 0, slots := 0, locals := 0 } : Room) YM w u [va_re w.1 (some o), .int a1] yfi out := by
  refine y_entry (own := "WhoseGlassModel") (lv := [(0, va_re w.1 (some o)), (1, .int a1)]) (by decide +kernel) rfl (by simp [lv_args, y_cat, y_catI, y_catJ]) (by simp [lg_sl, y_cat, y_catI, y_catJ]) ?_
  intro p e s m args below meth c C hr hlocks
  unfold f_M_strengthOf at h
  refine y_aload_n C (i := 0) 0 d_M_strengthOf_0 rfl rfl ?_
  refine y_gr C (q := (yR5, yT5, 46)) (ci := 5) (k := 4) rfl (by decide) rfl (by decide) g_788 d_M_strengthOf_1 h (fun r1 h => ?_)
  refine y_iload_n C (i := 1) 1 d_M_strengthOf_4 rfl rfl ?_
  refine y_al C d_M_strengthOf_5 h (fun x2 h => ?_)
  refine y_sp h (fun k3 h => ?_) (fun k3 h => ?_)
  · refine y_tsw C (off := 38) 44 d_M_strengthOf_6 (Or.inr ⟨by rw [k3]; decide, by rw [k3]; decide, by rw [k3]; rfl⟩) (by decide) ?_
    refine y_iconst C (v := 1) d_M_strengthOf_44 (by decide) ?_
    exact y_iret C hr hlocks d_M_strengthOf_45 h
  refine y_sp h (fun k4 h => ?_) (fun k4 h => ?_)
  · refine y_tsw C (off := 40) 46 d_M_strengthOf_6 (Or.inr ⟨by rw [k4]; decide, by rw [k4]; decide, by rw [k4]; rfl⟩) (by decide) ?_
    refine y_iconst C (v := 2) d_M_strengthOf_46 (by decide) ?_
    refine y_aload_n C (i := 0) 0 d_M_strengthOf_47 rfl rfl ?_
    refine y_gr C (q := (yR5, yT5, 46)) (ci := 5) (k := 5) rfl (by decide) rfl (by decide) g_789 d_M_strengthOf_48 h (fun r5 h => ?_)
    refine y_iload_n C (i := 1) 1 d_M_strengthOf_51 rfl rfl ?_
    refine y_al C d_M_strengthOf_52 h (fun x6 h => ?_)
    refine y_iadd C d_M_strengthOf_53 ?_
    exact y_iret C hr hlocks d_M_strengthOf_54 h
  refine y_sp h (fun k7 h => ?_) (fun k7 h => ?_)
  · refine y_tsw C (off := 49) 55 d_M_strengthOf_6 (Or.inr ⟨by rw [k7]; decide, by rw [k7]; decide, by rw [k7]; rfl⟩) (by decide) ?_
    refine y_iconst C (v := 0) d_M_strengthOf_55 (by decide) ?_
    exact y_iret C hr hlocks d_M_strengthOf_56 h
  refine y_sp h (fun k8 h => ?_) (fun k8 h => ?_)
  · refine y_tsw C (off := 51) 57 d_M_strengthOf_6 (Or.inr ⟨by rw [k8]; decide, by rw [k8]; decide, by rw [k8]; rfl⟩) (by decide) ?_
    refine y_aload_n C (i := 0) 0 d_M_strengthOf_57 rfl rfl ?_
    refine y_gr C (q := (yR5, yT5, 46)) (ci := 5) (k := 6) rfl (by decide) rfl (by decide) g_790 d_M_strengthOf_58 h (fun r9 h => ?_)
    refine y_iload_n C (i := 1) 1 d_M_strengthOf_61 rfl rfl ?_
    refine y_al C d_M_strengthOf_62 h (fun x10 h => ?_)
    refine y_iconst C (v := 2) d_M_strengthOf_63 (by decide) ?_
    refine y_irem C d_M_strengthOf_64 h (fun x11 h => ?_)
    refine y_iconst C (v := 1) d_M_strengthOf_65 (by decide) ?_
    refine y_ic_ne C 73 d_M_strengthOf_66 (by decide) h (fun k12 h => ?_) (fun k12 h => ?_)
    · refine y_iconst C (v := 0) d_M_strengthOf_69 (by decide) ?_
      refine y_goto C (tgt := 81) d_M_strengthOf_70 (by decide) ?_
      exact y_iret C hr hlocks d_M_strengthOf_81 h
    · refine y_iconst C (v := 2) d_M_strengthOf_73 (by decide) ?_
      refine y_aload_n C (i := 0) 0 d_M_strengthOf_74 rfl rfl ?_
      refine y_gr C (q := (yR5, yT5, 46)) (ci := 5) (k := 5) rfl (by decide) rfl (by decide) g_789 d_M_strengthOf_75 h (fun r13 h => ?_)
      refine y_iload_n C (i := 1) 1 d_M_strengthOf_78 rfl rfl ?_
      refine y_al C d_M_strengthOf_79 h (fun x14 h => ?_)
      refine y_iadd C d_M_strengthOf_80 ?_
      exact y_iret C hr hlocks d_M_strengthOf_81 h
  refine y_sp h (fun k15 h => ?_) (fun k15 h => ?_)
  · refine y_tsw C (off := 76) 82 d_M_strengthOf_6 (Or.inr ⟨by rw [k15]; decide, by rw [k15]; decide, by rw [k15]; rfl⟩) (by decide) ?_
    refine y_iconst C (v := 3) d_M_strengthOf_82 (by decide) ?_
    refine y_aload_n C (i := 0) 0 d_M_strengthOf_83 rfl rfl ?_
    refine y_gr C (q := (yR5, yT5, 46)) (ci := 5) (k := 5) rfl (by decide) rfl (by decide) g_789 d_M_strengthOf_84 h (fun r16 h => ?_)
    refine y_iload_n C (i := 1) 1 d_M_strengthOf_87 rfl rfl ?_
    refine y_al C d_M_strengthOf_88 h (fun x17 h => ?_)
    refine y_iadd C d_M_strengthOf_89 ?_
    exact y_iret C hr hlocks d_M_strengthOf_90 h
  refine y_tsw C (off := 85) 91 d_M_strengthOf_6 (y_tdef 5 (by decide) (fun i hi0 => ?_)) (by decide) ?_
  · rcases (by omega : i = 0 ∨ i = 1 ∨ i = 2 ∨ i = 3 ∨ i = 4 ∨ i = 5) with rfl | rfl | rfl | rfl | rfl | rfl
    · exact Or.inl (lv_neT (a := 2) k3 rfl)
    · exact Or.inl (lv_neT (a := 3) k4 rfl)
    · exact Or.inl (lv_neT (a := 4) k7 rfl)
    · exact Or.inr rfl
    · exact Or.inl (lv_neT (a := 6) k8 rfl)
    · exact Or.inl (lv_neT (a := 7) k15 rfl)
  refine y_iconst C (v := 2) d_M_strengthOf_91 (by decide) ?_
  exact y_iret C hr hlocks d_M_strengthOf_92 h
/-! M_sipOne -/
theorem d_M_sipOne_0 : decode prog_8_method_13_code 0 = .ok (.aload_n 0, 1) := by decide +kernel
theorem d_M_sipOne_1 : decode prog_8_method_13_code 1 = .ok (.getfield 50, 3) := by decide +kernel
theorem d_M_sipOne_4 : decode prog_8_method_13_code 4 = .ok (.iload_n 1, 1) := by decide +kernel
theorem d_M_sipOne_5 : decode prog_8_method_13_code 5 = .ok (.iaload, 1) := by decide +kernel
theorem d_M_sipOne_6 : decode prog_8_method_13_code 6 = .ok (.istore_n 2, 1) := by decide +kernel
theorem d_M_sipOne_7 : decode prog_8_method_13_code 7 = .ok (.aload_n 0, 1) := by decide +kernel
theorem d_M_sipOne_8 : decode prog_8_method_13_code 8 = .ok (.iload_n 2, 1) := by decide +kernel
theorem d_M_sipOne_9 : decode prog_8_method_13_code 9 = .ok (.invokevirtual 129, 3) := by decide +kernel
theorem d_M_sipOne_12 : decode prog_8_method_13_code 12 = .ok (.istore_n 3, 1) := by decide +kernel
theorem d_M_sipOne_13 : decode prog_8_method_13_code 13 = .ok (.aload_n 0, 1) := by decide +kernel
theorem d_M_sipOne_14 : decode prog_8_method_13_code 14 = .ok (.getfield 20, 3) := by decide +kernel
theorem d_M_sipOne_17 : decode prog_8_method_13_code 17 = .ok (.iload_n 2, 1) := by decide +kernel
theorem d_M_sipOne_18 : decode prog_8_method_13_code 18 = .ok (.dup2, 1) := by decide +kernel
theorem d_M_sipOne_19 : decode prog_8_method_13_code 19 = .ok (.iaload, 1) := by decide +kernel
theorem d_M_sipOne_20 : decode prog_8_method_13_code 20 = .ok (.iconst 1, 1) := by decide +kernel
theorem d_M_sipOne_21 : decode prog_8_method_13_code 21 = .ok (.isub, 1) := by decide +kernel
theorem d_M_sipOne_22 : decode prog_8_method_13_code 22 = .ok (.iastore, 1) := by decide +kernel
theorem d_M_sipOne_23 : decode prog_8_method_13_code 23 = .ok (.aload_n 0, 1) := by decide +kernel
theorem d_M_sipOne_24 : decode prog_8_method_13_code 24 = .ok (.getfield 56, 3) := by decide +kernel
theorem d_M_sipOne_27 : decode prog_8_method_13_code 27 = .ok (.iload_n 1, 1) := by decide +kernel
theorem d_M_sipOne_28 : decode prog_8_method_13_code 28 = .ok (.dup2, 1) := by decide +kernel
theorem d_M_sipOne_29 : decode prog_8_method_13_code 29 = .ok (.iaload, 1) := by decide +kernel
theorem d_M_sipOne_30 : decode prog_8_method_13_code 30 = .ok (.iload_n 3, 1) := by decide +kernel
theorem d_M_sipOne_31 : decode prog_8_method_13_code 31 = .ok (.iadd, 1) := by decide +kernel
theorem d_M_sipOne_32 : decode prog_8_method_13_code 32 = .ok (.iastore, 1) := by decide +kernel
theorem d_M_sipOne_33 : decode prog_8_method_13_code 33 = .ok (.aload_n 0, 1) := by decide +kernel
theorem d_M_sipOne_34 : decode prog_8_method_13_code 34 = .ok (.getfield 29, 3) := by decide +kernel
theorem d_M_sipOne_37 : decode prog_8_method_13_code 37 = .ok (.iload_n 2, 1) := by decide +kernel
theorem d_M_sipOne_38 : decode prog_8_method_13_code 38 = .ok (.dup2, 1) := by decide +kernel
theorem d_M_sipOne_39 : decode prog_8_method_13_code 39 = .ok (.iaload, 1) := by decide +kernel
theorem d_M_sipOne_40 : decode prog_8_method_13_code 40 = .ok (.iconst 1, 1) := by decide +kernel
theorem d_M_sipOne_41 : decode prog_8_method_13_code 41 = .ok (.iload_n 1, 1) := by decide +kernel
theorem d_M_sipOne_42 : decode prog_8_method_13_code 42 = .ok (.ishl, 1) := by decide +kernel
theorem d_M_sipOne_43 : decode prog_8_method_13_code 43 = .ok (.ior, 1) := by decide +kernel
theorem d_M_sipOne_44 : decode prog_8_method_13_code 44 = .ok (.iastore, 1) := by decide +kernel
theorem d_M_sipOne_45 : decode prog_8_method_13_code 45 = .ok (.aload_n 0, 1) := by decide +kernel
theorem d_M_sipOne_46 : decode prog_8_method_13_code 46 = .ok (.getfield 59, 3) := by decide +kernel
theorem d_M_sipOne_49 : decode prog_8_method_13_code 49 = .ok (.iload_n 1, 1) := by decide +kernel
theorem d_M_sipOne_50 : decode prog_8_method_13_code 50 = .ok (.aload_n 0, 1) := by decide +kernel
theorem d_M_sipOne_51 : decode prog_8_method_13_code 51 = .ok (.getfield 32, 3) := by decide +kernel
theorem d_M_sipOne_54 : decode prog_8_method_13_code 54 = .ok (.iload_n 2, 1) := by decide +kernel
theorem d_M_sipOne_55 : decode prog_8_method_13_code 55 = .ok (.iaload, 1) := by decide +kernel
theorem d_M_sipOne_56 : decode prog_8_method_13_code 56 = .ok (.iconst 1, 1) := by decide +kernel
theorem d_M_sipOne_57 : decode prog_8_method_13_code 57 = .ok (.if_icmp .ne 7, 3) := by decide +kernel
theorem d_M_sipOne_60 : decode prog_8_method_13_code 60 = .ok (.iconst 1, 1) := by decide +kernel
theorem d_M_sipOne_61 : decode prog_8_method_13_code 61 = .ok (.goto 9, 3) := by decide +kernel
theorem d_M_sipOne_64 : decode prog_8_method_13_code 64 = .ok (.aload_n 0, 1) := by decide +kernel
theorem d_M_sipOne_65 : decode prog_8_method_13_code 65 = .ok (.getfield 59, 3) := by decide +kernel
theorem d_M_sipOne_68 : decode prog_8_method_13_code 68 = .ok (.iload_n 1, 1) := by decide +kernel
theorem d_M_sipOne_69 : decode prog_8_method_13_code 69 = .ok (.iaload, 1) := by decide +kernel
theorem d_M_sipOne_70 : decode prog_8_method_13_code 70 = .ok (.iastore, 1) := by decide +kernel
theorem d_M_sipOne_71 : decode prog_8_method_13_code 71 = .ok (.aload_n 0, 1) := by decide +kernel
theorem d_M_sipOne_72 : decode prog_8_method_13_code 72 = .ok (.getfield 32, 3) := by decide +kernel
theorem d_M_sipOne_75 : decode prog_8_method_13_code 75 = .ok (.iload_n 2, 1) := by decide +kernel
theorem d_M_sipOne_76 : decode prog_8_method_13_code 76 = .ok (.aload_n 0, 1) := by decide +kernel
theorem d_M_sipOne_77 : decode prog_8_method_13_code 77 = .ok (.getfield 59, 3) := by decide +kernel
theorem d_M_sipOne_80 : decode prog_8_method_13_code 80 = .ok (.iload_n 1, 1) := by decide +kernel
theorem d_M_sipOne_81 : decode prog_8_method_13_code 81 = .ok (.iaload, 1) := by decide +kernel
theorem d_M_sipOne_82 : decode prog_8_method_13_code 82 = .ok (.iconst 1, 1) := by decide +kernel
theorem d_M_sipOne_83 : decode prog_8_method_13_code 83 = .ok (.if_icmp .ne 7, 3) := by decide +kernel
theorem d_M_sipOne_86 : decode prog_8_method_13_code 86 = .ok (.iconst 1, 1) := by decide +kernel
theorem d_M_sipOne_87 : decode prog_8_method_13_code 87 = .ok (.goto 9, 3) := by decide +kernel
theorem d_M_sipOne_90 : decode prog_8_method_13_code 90 = .ok (.aload_n 0, 1) := by decide +kernel
theorem d_M_sipOne_91 : decode prog_8_method_13_code 91 = .ok (.getfield 32, 3) := by decide +kernel
theorem d_M_sipOne_94 : decode prog_8_method_13_code 94 = .ok (.iload_n 2, 1) := by decide +kernel
theorem d_M_sipOne_95 : decode prog_8_method_13_code 95 = .ok (.iaload, 1) := by decide +kernel
theorem d_M_sipOne_96 : decode prog_8_method_13_code 96 = .ok (.iastore, 1) := by decide +kernel
theorem d_M_sipOne_97 : decode prog_8_method_13_code 97 = .ok (.iload_n 3, 1) := by decide +kernel
theorem d_M_sipOne_98 : decode prog_8_method_13_code 98 = .ok (.ireturn, 1) := by decide +kernel
theorem gc_M_sipOne_129 : GoodIn yGW (wsV "WhoseGlassModel" 129 yR5 m_M_strengthOf ws_M_strengthOf) := y_gV g_1058 g_1060 gs_39 g_6 g_1061
set_option maxRecDepth 100000 in
def f_M_sipOne (F : Nat) (u : Mm) (o : Nat) (a1 : Int32) : Option (Int32 × Mm) := ob (jgr YM 5 16 (some o)) fun (r1 : Option Nat) => ob (jal YM u r1 a1) fun (x2 : Int32) => ob (jk YM 5 (some o)) fun t => yb (f_M_strengthOf F u t x2) fun x3 u4 => ob (jgr YM 5 6 (some o)) fun (r5 : Option Nat) => ob (jal YM u4 r5 x2) fun (x6 : Int32) => ob (jas YM u4 r5 x2 (x6 - (1 : Int32))) fun (u7 : Mm) => ob (jgr YM 5 18 (some o)) fun (r8 : Option Nat) => ob (jal YM u7 r8 a1) fun (x9 : Int32) => ob (jas YM u7 r8 a1 (x9 + x3)) fun (u10 : Mm) => ob (jgr YM 5 9 (some o)) fun (r11 : Option Nat) => ob (jal YM u10 r11 x2) fun (x12 : Int32) => ob (jas YM u10 r11 x2 (x12 ||| ((1 : Int32) <<< (a1 &&& 31)))) fun (u13 : Mm) => ob (jgr YM 5 19 (some o)) fun (r14 : Option Nat) => ob (jgr YM 5 10 (some o)) fun (r15 : Option Nat) => ob (jal YM u13 r15 x2) fun (x16 : Int32) => ob ((if x16 = (1 : Int32) then some (1 : Int32) else ob (jgr YM 5 19 (some o)) fun (r19 : Option Nat) => ob (jal YM u13 r19 a1) fun (x20 : Int32) => some x20) : Option (Int32)) fun q17 => ob (jas YM u13 r14 a1 q17) fun (u21 : Mm) => ob (jgr YM 5 10 (some o)) fun (r22 : Option Nat) => ob (jgr YM 5 19 (some o)) fun (r23 : Option Nat) => ob (jal YM u21 r23 a1) fun (x24 : Int32) => ob ((if x24 = (1 : Int32) then some (1 : Int32) else ob (jgr YM 5 10 (some o)) fun (r27 : Option Nat) => ob (jal YM u21 r27 x2) fun (x28 : Int32) => some x28) : Option (Int32)) fun q25 => ob (jas YM u21 r22 x2 q25) fun (u29 : Mm) => some (x3, u29)
set_option maxHeartbeats 4000000 in
set_option maxRecDepth 100000 in
theorem c_M_sipOne (l : Launch) (w : WP) (F : Nat) (u : Mm) (o : Nat) (a1 : Int32) (out : Int32 × Mm) (h : f_M_sipOne F u o a1 = some out) : yMet l m_M_sipOne ws_M_sipOne ({ frames := 1, cells := 0, slots := 0, locals := 21 } : Room) YM w u [va_re w.1 (some o), .int a1] yfi out := by
  refine y_entry (own := "WhoseGlassModel") (lv := [(0, va_re w.1 (some o)), (1, .int a1)]) (by decide +kernel) rfl (by simp [lv_args, y_cat, y_catI, y_catJ]) (by simp [lg_sl, y_cat, y_catI, y_catJ]) ?_
  intro p e s m args below meth c C hr hlocks
  unfold f_M_sipOne at h
  refine y_aload_n C (i := 0) 0 d_M_sipOne_0 rfl rfl ?_
  refine y_gr C (q := (yR5, yT5, 46)) (ci := 5) (k := 16) rfl (by decide) rfl (by decide) g_800 d_M_sipOne_1 h (fun r1 h => ?_)
  refine y_iload_n C (i := 1) 1 d_M_sipOne_4 rfl rfl ?_
  refine y_al C d_M_sipOne_5 h (fun x2 h => ?_)
  refine y_istore_n C (i := 2) (lvp := [(0, va_re w.1 (some o)), (1, .int a1)]) d_M_sipOne_6 rfl (by decide) rfl ?_
  refine y_aload_n C (i := 0) 1 d_M_sipOne_7 rfl rfl ?_
  refine y_iload_n C (i := 2) 0 d_M_sipOne_8 rfl rfl ?_
  refine y_callV 1 C (q := (yR5, yT5, 46)) (ci := 5) (fun t out hh => c_M_strengthOf l w F u t x2 out hh) gc_M_sipOne_129 rfl (by decide) hd_M_strengthOf ⟨Nat.le_of_ble_eq_true rfl, Nat.le_of_ble_eq_true rfl⟩ rfl rfl rfl rfl (by simp [y_cat, y_catI, y_catJ]) d_M_sipOne_9 h (fun x3 u4 h => ?_)
  refine y_stk (stp0 := [.int x3]) rfl ?_
  refine y_istore_n C (i := 3) (lvp := [(2, .int x2), (0, va_re w.1 (some o)), (1, .int a1)]) d_M_sipOne_12 rfl (by decide) rfl ?_
  refine y_aload_n C (i := 0) 2 d_M_sipOne_13 rfl rfl ?_
  refine y_gr C (q := (yR5, yT5, 46)) (ci := 5) (k := 6) rfl (by decide) rfl (by decide) g_790 d_M_sipOne_14 h (fun r5 h => ?_)
  refine y_iload_n C (i := 2) 1 d_M_sipOne_17 rfl rfl ?_
  refine y_dup2 C d_M_sipOne_18 rfl (y_cat _ _) ?_
  refine y_al C d_M_sipOne_19 h (fun x6 h => ?_)
  refine y_iconst C (v := 1) d_M_sipOne_20 (by decide) ?_
  refine y_isub C d_M_sipOne_21 ?_
  refine y_as C d_M_sipOne_22 h (fun u7 h => ?_)
  refine y_aload_n C (i := 0) 2 d_M_sipOne_23 rfl rfl ?_
  refine y_gr C (q := (yR5, yT5, 46)) (ci := 5) (k := 18) rfl (by decide) rfl (by decide) g_802 d_M_sipOne_24 h (fun r8 h => ?_)
  refine y_iload_n C (i := 1) 3 d_M_sipOne_27 rfl rfl ?_
  refine y_dup2 C d_M_sipOne_28 rfl (y_cat _ _) ?_
  refine y_al C d_M_sipOne_29 h (fun x9 h => ?_)
  refine y_iload_n C (i := 3) 0 d_M_sipOne_30 rfl rfl ?_
  refine y_iadd C d_M_sipOne_31 ?_
  refine y_as C d_M_sipOne_32 h (fun u10 h => ?_)
  refine y_aload_n C (i := 0) 2 d_M_sipOne_33 rfl rfl ?_
  refine y_gr C (q := (yR5, yT5, 46)) (ci := 5) (k := 9) rfl (by decide) rfl (by decide) g_793 d_M_sipOne_34 h (fun r11 h => ?_)
  refine y_iload_n C (i := 2) 1 d_M_sipOne_37 rfl rfl ?_
  refine y_dup2 C d_M_sipOne_38 rfl (y_cat _ _) ?_
  refine y_al C d_M_sipOne_39 h (fun x12 h => ?_)
  refine y_iconst C (v := 1) d_M_sipOne_40 (by decide) ?_
  refine y_iload_n C (i := 1) 3 d_M_sipOne_41 rfl rfl ?_
  refine y_ishl C d_M_sipOne_42 ?_
  refine y_ior C d_M_sipOne_43 ?_
  refine y_as C d_M_sipOne_44 h (fun u13 h => ?_)
  refine y_aload_n C (i := 0) 2 d_M_sipOne_45 rfl rfl ?_
  refine y_gr C (q := (yR5, yT5, 46)) (ci := 5) (k := 19) rfl (by decide) rfl (by decide) g_803 d_M_sipOne_46 h (fun r14 h => ?_)
  refine y_iload_n C (i := 1) 3 d_M_sipOne_49 rfl rfl ?_
  refine y_aload_n C (i := 0) 2 d_M_sipOne_50 rfl rfl ?_
  refine y_gr C (q := (yR5, yT5, 46)) (ci := 5) (k := 10) rfl (by decide) rfl (by decide) g_794 d_M_sipOne_51 h (fun r15 h => ?_)
  refine y_iload_n C (i := 2) 1 d_M_sipOne_54 rfl rfl ?_
  refine y_al C d_M_sipOne_55 h (fun x16 h => ?_)
  refine y_iconst C (v := 1) d_M_sipOne_56 (by decide) ?_
  obtain ⟨q17, hq17, h⟩ := ob_e h
  have hJq17 : yG p l e ({ frames := 1, cells := 0, slots := 0, locals := 21 } : Room) s m args below meth c YM w 4 (MQ below (yQ YM w yfi out) args s 0 0 (yA YM w)) u13 70 [(0, va_re w.1 (some o)), (1, .int a1), (2, .int x2), (3, .int x3)] [.int q17, .int a1, va_re w.1 r14] := by
    refine y_as C d_M_sipOne_70 h (fun u21 h => ?_)
    refine y_aload_n C (i := 0) 0 d_M_sipOne_71 rfl rfl ?_
    refine y_gr C (q := (yR5, yT5, 46)) (ci := 5) (k := 10) rfl (by decide) rfl (by decide) g_794 d_M_sipOne_72 h (fun r22 h => ?_)
    refine y_iload_n C (i := 2) 2 d_M_sipOne_75 rfl rfl ?_
    refine y_aload_n C (i := 0) 0 d_M_sipOne_76 rfl rfl ?_
    refine y_gr C (q := (yR5, yT5, 46)) (ci := 5) (k := 19) rfl (by decide) rfl (by decide) g_803 d_M_sipOne_77 h (fun r23 h => ?_)
    refine y_iload_n C (i := 1) 1 d_M_sipOne_80 rfl rfl ?_
    refine y_al C d_M_sipOne_81 h (fun x24 h => ?_)
    refine y_iconst C (v := 1) d_M_sipOne_82 (by decide) ?_
    obtain ⟨q25, hq25, h⟩ := ob_e h
    have hJq25 : yG p l e ({ frames := 1, cells := 0, slots := 0, locals := 21 } : Room) s m args below meth c YM w 4 (MQ below (yQ YM w yfi out) args s 0 0 (yA YM w)) u21 96 [(3, .int x3)] [.int q25, .int x2, va_re w.1 r22] := by
      refine y_as C d_M_sipOne_96 h (fun u29 h => ?_)
      refine y_iload_n C (i := 3) 0 d_M_sipOne_97 rfl rfl ?_
      exact y_iret C hr hlocks d_M_sipOne_98 h
    refine y_ic_ne C 90 d_M_sipOne_83 (by decide) hq25 (fun k26 hq25 => ?_) (fun k26 hq25 => ?_)
    · refine y_iconst C (v := 1) d_M_sipOne_86 (by decide) ?_
      refine y_goto C (tgt := 96) d_M_sipOne_87 (by decide) ?_
      cases hq25
      exact y_sub [3] rfl hJq25
    · refine y_aload_n C (i := 0) 0 d_M_sipOne_90 rfl rfl ?_
      refine y_gr C (q := (yR5, yT5, 46)) (ci := 5) (k := 10) rfl (by decide) rfl (by decide) g_794 d_M_sipOne_91 hq25 (fun r27 hq25 => ?_)
      refine y_iload_n C (i := 2) 2 d_M_sipOne_94 rfl rfl ?_
      refine y_al C d_M_sipOne_95 hq25 (fun x28 hq25 => ?_)
      cases hq25
      exact y_sub [3] rfl hJq25
  refine y_ic_ne C 64 d_M_sipOne_57 (by decide) hq17 (fun k18 hq17 => ?_) (fun k18 hq17 => ?_)
  · refine y_iconst C (v := 1) d_M_sipOne_60 (by decide) ?_
    refine y_goto C (tgt := 70) d_M_sipOne_61 (by decide) ?_
    cases hq17
    exact y_sub [2, 3, 1, 0] rfl hJq17
  · refine y_aload_n C (i := 0) 2 d_M_sipOne_64 rfl rfl ?_
    refine y_gr C (q := (yR5, yT5, 46)) (ci := 5) (k := 19) rfl (by decide) rfl (by decide) g_803 d_M_sipOne_65 hq17 (fun r19 hq17 => ?_)
    refine y_iload_n C (i := 1) 3 d_M_sipOne_68 rfl rfl ?_
    refine y_al C d_M_sipOne_69 hq17 (fun x20 hq17 => ?_)
    cases hq17
    exact y_sub [2, 3, 1, 0] rfl hJq17
