/-! M_keep -/
theorem d_M_keep_0 : decode prog_8_method_77_code 0 = .ok (.aload_n 0, 1) := by decide +kernel
theorem d_M_keep_1 : decode prog_8_method_77_code 1 = .ok (.iconst 0, 1) := by decide +kernel
theorem d_M_keep_2 : decode prog_8_method_77_code 2 = .ok (.putfield 102, 3) := by decide +kernel
theorem d_M_keep_5 : decode prog_8_method_77_code 5 = .ok (.iload_n 1, 1) := by decide +kernel
theorem d_M_keep_6 : decode prog_8_method_77_code 6 = .ok (.i2l, 1) := by decide +kernel
theorem d_M_keep_7 : decode prog_8_method_77_code 7 = .ok (.lconst 0, 1) := by decide +kernel
theorem d_M_keep_8 : decode prog_8_method_77_code 8 = .ok (.ldc2_w 263, 3) := by decide +kernel
theorem d_M_keep_11 : decode prog_8_method_77_code 11 = .ok (.invokestatic 108, 3) := by decide +kernel
theorem d_M_keep_14 : decode prog_8_method_77_code 14 = .ok (.ifCond .eq 43, 3) := by decide +kernel
theorem d_M_keep_17 : decode prog_8_method_77_code 17 = .ok (.iload_n 2, 1) := by decide +kernel
theorem d_M_keep_18 : decode prog_8_method_77_code 18 = .ok (.i2l, 1) := by decide +kernel
theorem d_M_keep_19 : decode prog_8_method_77_code 19 = .ok (.lconst 0, 1) := by decide +kernel
theorem d_M_keep_20 : decode prog_8_method_77_code 20 = .ok (.lconst 1, 1) := by decide +kernel
theorem d_M_keep_21 : decode prog_8_method_77_code 21 = .ok (.invokestatic 108, 3) := by decide +kernel
theorem d_M_keep_24 : decode prog_8_method_77_code 24 = .ok (.ifCond .eq 33, 3) := by decide +kernel
theorem d_M_keep_27 : decode prog_8_method_77_code 27 = .ok (.iload_n 2, 1) := by decide +kernel
theorem d_M_keep_28 : decode prog_8_method_77_code 28 = .ok (.iconst 1, 1) := by decide +kernel
theorem d_M_keep_29 : decode prog_8_method_77_code 29 = .ok (.if_icmp .ne 30, 3) := by decide +kernel
theorem d_M_keep_32 : decode prog_8_method_77_code 32 = .ok (.iload_n 3, 1) := by decide +kernel
theorem d_M_keep_33 : decode prog_8_method_77_code 33 = .ok (.i2l, 1) := by decide +kernel
theorem d_M_keep_34 : decode prog_8_method_77_code 34 = .ok (.lconst 0, 1) := by decide +kernel
theorem d_M_keep_35 : decode prog_8_method_77_code 35 = .ok (.ldc2_w 263, 3) := by decide +kernel
theorem d_M_keep_38 : decode prog_8_method_77_code 38 = .ok (.invokestatic 108, 3) := by decide +kernel
theorem d_M_keep_41 : decode prog_8_method_77_code 41 = .ok (.ifCond .eq 16, 3) := by decide +kernel
theorem d_M_keep_44 : decode prog_8_method_77_code 44 = .ok (.iload 4, 2) := by decide +kernel
theorem d_M_keep_46 : decode prog_8_method_77_code 46 = .ok (.i2l, 1) := by decide +kernel
theorem d_M_keep_47 : decode prog_8_method_77_code 47 = .ok (.lconst 0, 1) := by decide +kernel
theorem d_M_keep_48 : decode prog_8_method_77_code 48 = .ok (.ldc2_w 319, 3) := by decide +kernel
theorem d_M_keep_51 : decode prog_8_method_77_code 51 = .ok (.invokestatic 108, 3) := by decide +kernel
theorem d_M_keep_54 : decode prog_8_method_77_code 54 = .ok (.ifCond .ne 5, 3) := by decide +kernel
theorem d_M_keep_57 : decode prog_8_method_77_code 57 = .ok (.iconst (-1), 1) := by decide +kernel
theorem d_M_keep_58 : decode prog_8_method_77_code 58 = .ok (.ireturn, 1) := by decide +kernel
theorem d_M_keep_59 : decode prog_8_method_77_code 59 = .ok (.aload_n 0, 1) := by decide +kernel
theorem d_M_keep_60 : decode prog_8_method_77_code 60 = .ok (.getfield 80, 3) := by decide +kernel
theorem d_M_keep_63 : decode prog_8_method_77_code 63 = .ok (.iload_n 1, 1) := by decide +kernel
theorem d_M_keep_64 : decode prog_8_method_77_code 64 = .ok (.iload_n 2, 1) := by decide +kernel
theorem d_M_keep_65 : decode prog_8_method_77_code 65 = .ok (.iastore, 1) := by decide +kernel
theorem d_M_keep_66 : decode prog_8_method_77_code 66 = .ok (.aload_n 0, 1) := by decide +kernel
theorem d_M_keep_67 : decode prog_8_method_77_code 67 = .ok (.getfield 83, 3) := by decide +kernel
theorem d_M_keep_70 : decode prog_8_method_77_code 70 = .ok (.iload_n 1, 1) := by decide +kernel
theorem d_M_keep_71 : decode prog_8_method_77_code 71 = .ok (.iload_n 2, 1) := by decide +kernel
theorem d_M_keep_72 : decode prog_8_method_77_code 72 = .ok (.iconst 1, 1) := by decide +kernel
theorem d_M_keep_73 : decode prog_8_method_77_code 73 = .ok (.if_icmp .ne 7, 3) := by decide +kernel
theorem d_M_keep_76 : decode prog_8_method_77_code 76 = .ok (.iload_n 3, 1) := by decide +kernel
theorem d_M_keep_77 : decode prog_8_method_77_code 77 = .ok (.goto 4, 3) := by decide +kernel
theorem d_M_keep_80 : decode prog_8_method_77_code 80 = .ok (.iconst 0, 1) := by decide +kernel
theorem d_M_keep_81 : decode prog_8_method_77_code 81 = .ok (.iastore, 1) := by decide +kernel
theorem d_M_keep_82 : decode prog_8_method_77_code 82 = .ok (.aload_n 0, 1) := by decide +kernel
theorem d_M_keep_83 : decode prog_8_method_77_code 83 = .ok (.getfield 86, 3) := by decide +kernel
theorem d_M_keep_86 : decode prog_8_method_77_code 86 = .ok (.iload_n 1, 1) := by decide +kernel
theorem d_M_keep_87 : decode prog_8_method_77_code 87 = .ok (.iload_n 2, 1) := by decide +kernel
theorem d_M_keep_88 : decode prog_8_method_77_code 88 = .ok (.iconst 1, 1) := by decide +kernel
theorem d_M_keep_89 : decode prog_8_method_77_code 89 = .ok (.if_icmp .ne 8, 3) := by decide +kernel
theorem d_M_keep_92 : decode prog_8_method_77_code 92 = .ok (.iload 4, 2) := by decide +kernel
theorem d_M_keep_94 : decode prog_8_method_77_code 94 = .ok (.goto 4, 3) := by decide +kernel
theorem d_M_keep_97 : decode prog_8_method_77_code 97 = .ok (.iconst 0, 1) := by decide +kernel
theorem d_M_keep_98 : decode prog_8_method_77_code 98 = .ok (.iastore, 1) := by decide +kernel
theorem d_M_keep_99 : decode prog_8_method_77_code 99 = .ok (.iconst 0, 1) := by decide +kernel
theorem d_M_keep_100 : decode prog_8_method_77_code 100 = .ok (.ireturn, 1) := by decide +kernel
set_option maxRecDepth 100000 in
def f_M_keep (F : Nat) (u : Mm) (o : Nat) (a1 : Int32) (a2 : Int32) (a3 : Int32) (a4 : Int32) : Option (Int32 × Mm) := ob (jpi YM 5 23 u (some o) (0 : Int32)) fun (u1 : Mm) => yb (f_M_in F u1 (a1.toInt64) (0 : Int64) (7 : Int64)) fun x2 u3 => (if x2 = 0 then some ((-1 : Int32), u3) else yb (f_M_in F u3 (a2.toInt64) (0 : Int64) (1 : Int64)) fun x5 u6 => (if x5 = 0 then some ((-1 : Int32), u6) else (if a2 = (1 : Int32) then yb (f_M_in F u6 (a3.toInt64) (0 : Int64) (7 : Int64)) fun x9 u10 => (if x9 = 0 then some ((-1 : Int32), u10) else yb (f_M_in F u10 (a4.toInt64) (0 : Int64) (9 : Int64)) fun x12 u13 => (if x12 = 0 then some ((-1 : Int32), u13) else ob (jgr YM 5 39 (some o)) fun (r15 : Option Nat) => ob (jas YM u13 r15 a1 a2) fun (u16 : Mm) => ob (jgr YM 5 40 (some o)) fun (r17 : Option Nat) => ob ((if a2 = (1 : Int32) then some a3 else some (0 : Int32)) : Option (Int32)) fun q18 => ob (jas YM u16 r17 a1 q18) fun (u20 : Mm) => ob (jgr YM 5 41 (some o)) fun (r21 : Option Nat) => ob ((if a2 = (1 : Int32) then some a4 else some (0 : Int32)) : Option (Int32)) fun q22 => ob (jas YM u20 r21 a1 q22) fun (u24 : Mm) => some ((0 : Int32), u24))) else ob (jgr YM 5 39 (some o)) fun (r25 : Option Nat) => ob (jas YM u6 r25 a1 a2) fun (u26 : Mm) => ob (jgr YM 5 40 (some o)) fun (r27 : Option Nat) => ob ((if a2 = (1 : Int32) then some a3 else some (0 : Int32)) : Option (Int32)) fun q28 => ob (jas YM u26 r27 a1 q28) fun (u30 : Mm) => ob (jgr YM 5 41 (some o)) fun (r31 : Option Nat) => ob ((if a2 = (1 : Int32) then some a4 else some (0 : Int32)) : Option (Int32)) fun q32 => ob (jas YM u30 r31 a1 q32) fun (u34 : Mm) => some ((0 : Int32), u34))))
set_option maxHeartbeats 4000000 in
set_option maxRecDepth 100000 in
theorem c_M_keep (l : Launch) (w : WP) (F : Nat) (u : Mm) (o : Nat) (a1 : Int32) (a2 : Int32) (a3 : Int32) (a4 : Int32) (out : Int32 × Mm) (h : f_M_keep F u o a1 a2 a3 a4 = some out) : yMet l m_M_keep ws_M_keep ({ frames := 1, cells := 0, slots := 0, locals := 25 } : Room) YM w u [va_re w.1 (some o), .int a1, .int a2, .int a3, .int a4] yfi out := by
  refine y_entry (own := "WhoseGlassModel") (lv := [(0, va_re w.1 (some o)), (1, .int a1), (2, .int a2), (3, .int a3), (4, .int a4)]) (by decide +kernel) rfl (by simp [lv_args, y_cat, y_catI, y_catJ]) (by simp [lg_sl, y_cat, y_catI, y_catJ]) ?_
  intro p e s m args below meth c C hr hlocks
  unfold f_M_keep at h
  refine y_aload_n C (i := 0) 0 d_M_keep_0 rfl rfl ?_
  refine y_iconst C (v := 0) d_M_keep_1 (by decide) ?_
  refine y_pi C (q := (yR5, yT5, 46)) (ci := 5) (k := 23) rfl (by decide) rfl rfl (by decide +kernel) g_807 d_M_keep_2 h (fun u1 h => ?_)
  refine y_iload_n C (i := 1) 1 d_M_keep_5 rfl rfl ?_
  refine y_i2l C d_M_keep_6 ?_
  refine y_lconst C (v := 0) d_M_keep_7 (by decide) ?_
  refine y_ldc2 C d_M_keep_8 g_956 ?_
  refine y_callS 3 C (fun out hh => c_M_in l w F u1 (a1.toInt64) (0 : Int64) (7 : Int64) out hh) (y_gc g_959) g_957 g_6 g_958 hn_M_in ⟨Nat.le_of_ble_eq_true rfl, Nat.le_of_ble_eq_true rfl⟩ rfl rfl rfl rfl (by simp [y_cat, y_catI, y_catJ]) d_M_keep_11 h (fun x2 u3 h => ?_)
  refine y_stk (stp0 := [.int x2]) rfl ?_
  refine y_if_eq C 57 d_M_keep_14 (by decide) h (fun k4 h => ?_) (fun k4 h => ?_)
  · refine y_iconst C (v := -1) d_M_keep_57 (by decide) ?_
    exact y_iret C hr hlocks d_M_keep_58 h
  · refine y_iload_n C (i := 2) 2 d_M_keep_17 rfl rfl ?_
    refine y_i2l C d_M_keep_18 ?_
    refine y_lconst C (v := 0) d_M_keep_19 (by decide) ?_
    refine y_lconst C (v := 1) d_M_keep_20 (by decide) ?_
    refine y_callS 3 C (fun out hh => c_M_in l w F u3 (a2.toInt64) (0 : Int64) (1 : Int64) out hh) (y_gc g_959) g_957 g_6 g_958 hn_M_in ⟨Nat.le_of_ble_eq_true rfl, Nat.le_of_ble_eq_true rfl⟩ rfl rfl rfl rfl (by simp [y_cat, y_catI, y_catJ]) d_M_keep_21 h (fun x5 u6 h => ?_)
    refine y_stk (stp0 := [.int x5]) rfl ?_
    refine y_if_eq C 57 d_M_keep_24 (by decide) h (fun k7 h => ?_) (fun k7 h => ?_)
    · refine y_iconst C (v := -1) d_M_keep_57 (by decide) ?_
      exact y_iret C hr hlocks d_M_keep_58 h
    · refine y_iload_n C (i := 2) 2 d_M_keep_27 rfl rfl ?_
      refine y_iconst C (v := 1) d_M_keep_28 (by decide) ?_
      refine y_ic_ne C 59 d_M_keep_29 (by decide) h (fun k8 h => ?_) (fun k8 h => ?_)
      · refine y_iload_n C (i := 3) 3 d_M_keep_32 rfl rfl ?_
        refine y_i2l C d_M_keep_33 ?_
        refine y_lconst C (v := 0) d_M_keep_34 (by decide) ?_
        refine y_ldc2 C d_M_keep_35 g_956 ?_
        refine y_callS 3 C (fun out hh => c_M_in l w F u6 (a3.toInt64) (0 : Int64) (7 : Int64) out hh) (y_gc g_959) g_957 g_6 g_958 hn_M_in ⟨Nat.le_of_ble_eq_true rfl, Nat.le_of_ble_eq_true rfl⟩ rfl rfl rfl rfl (by simp [y_cat, y_catI, y_catJ]) d_M_keep_38 h (fun x9 u10 h => ?_)
        refine y_stk (stp0 := [.int x9]) rfl ?_
        refine y_if_eq C 57 d_M_keep_41 (by decide) h (fun k11 h => ?_) (fun k11 h => ?_)
        · refine y_iconst C (v := -1) d_M_keep_57 (by decide) ?_
          exact y_iret C hr hlocks d_M_keep_58 h
        · refine y_iload C (i := 4) 4 d_M_keep_44 rfl ?_
          refine y_i2l C d_M_keep_46 ?_
          refine y_lconst C (v := 0) d_M_keep_47 (by decide) ?_
          refine y_ldc2 C d_M_keep_48 g_1243 ?_
          refine y_callS 3 C (fun out hh => c_M_in l w F u10 (a4.toInt64) (0 : Int64) (9 : Int64) out hh) (y_gc g_959) g_957 g_6 g_958 hn_M_in ⟨Nat.le_of_ble_eq_true rfl, Nat.le_of_ble_eq_true rfl⟩ rfl rfl rfl rfl (by simp [y_cat, y_catI, y_catJ]) d_M_keep_51 h (fun x12 u13 h => ?_)
          refine y_stk (stp0 := [.int x12]) rfl ?_
          refine y_if_ne C 59 d_M_keep_54 (by decide) h (fun k14 h => ?_) (fun k14 h => ?_)
          · refine y_iconst C (v := -1) d_M_keep_57 (by decide) ?_
            exact y_iret C hr hlocks d_M_keep_58 h
          · refine y_aload_n C (i := 0) 0 d_M_keep_59 rfl rfl ?_
            refine y_gr C (q := (yR5, yT5, 46)) (ci := 5) (k := 39) rfl (by decide) rfl (by decide) g_823 d_M_keep_60 h (fun r15 h => ?_)
            refine y_iload_n C (i := 1) 1 d_M_keep_63 rfl rfl ?_
            refine y_iload_n C (i := 2) 2 d_M_keep_64 rfl rfl ?_
            refine y_as C d_M_keep_65 h (fun u16 h => ?_)
            refine y_aload_n C (i := 0) 0 d_M_keep_66 rfl rfl ?_
            refine y_gr C (q := (yR5, yT5, 46)) (ci := 5) (k := 40) rfl (by decide) rfl (by decide) g_824 d_M_keep_67 h (fun r17 h => ?_)
            refine y_iload_n C (i := 1) 1 d_M_keep_70 rfl rfl ?_
            refine y_iload_n C (i := 2) 2 d_M_keep_71 rfl rfl ?_
            refine y_iconst C (v := 1) d_M_keep_72 (by decide) ?_
            obtain ⟨q18, hq18, h⟩ := ob_e h
            have hJq18 : yG p l e ({ frames := 1, cells := 0, slots := 0, locals := 25 } : Room) s m args below meth c YM w 5 (MQ below (yQ YM w yfi out) args s 0 0 (yA YM w)) u16 81 [(0, va_re w.1 (some o)), (1, .int a1), (2, .int a2), (4, .int a4)] [.int q18, .int a1, va_re w.1 r17] := by
              refine y_as C d_M_keep_81 h (fun u20 h => ?_)
              refine y_aload_n C (i := 0) 0 d_M_keep_82 rfl rfl ?_
              refine y_gr C (q := (yR5, yT5, 46)) (ci := 5) (k := 41) rfl (by decide) rfl (by decide) g_825 d_M_keep_83 h (fun r21 h => ?_)
              refine y_iload_n C (i := 1) 1 d_M_keep_86 rfl rfl ?_
              refine y_iload_n C (i := 2) 2 d_M_keep_87 rfl rfl ?_
              refine y_iconst C (v := 1) d_M_keep_88 (by decide) ?_
              obtain ⟨q22, hq22, h⟩ := ob_e h
              have hJq22 : yG p l e ({ frames := 1, cells := 0, slots := 0, locals := 25 } : Room) s m args below meth c YM w 5 (MQ below (yQ YM w yfi out) args s 0 0 (yA YM w)) u20 98 [] [.int q22, .int a1, va_re w.1 r21] := by
                refine y_as C d_M_keep_98 h (fun u24 h => ?_)
                refine y_iconst C (v := 0) d_M_keep_99 (by decide) ?_
                exact y_iret C hr hlocks d_M_keep_100 h
              refine y_ic_ne C 97 d_M_keep_89 (by decide) hq22 (fun k23 hq22 => ?_) (fun k23 hq22 => ?_)
              · refine y_iload C (i := 4) 3 d_M_keep_92 rfl ?_
                refine y_goto C (tgt := 98) d_M_keep_94 (by decide) ?_
                cases hq22
                exact y_sub [] rfl hJq22
              · refine y_iconst C (v := 0) d_M_keep_97 (by decide) ?_
                cases hq22
                exact y_sub [] rfl hJq22
            refine y_ic_ne C 80 d_M_keep_73 (by decide) hq18 (fun k19 hq18 => ?_) (fun k19 hq18 => ?_)
            · refine y_iload_n C (i := 3) 3 d_M_keep_76 rfl rfl ?_
              refine y_goto C (tgt := 81) d_M_keep_77 (by decide) ?_
              cases hq18
              exact y_sub [0, 1, 2, 4] rfl hJq18
            · refine y_iconst C (v := 0) d_M_keep_80 (by decide) ?_
              cases hq18
              exact y_sub [0, 1, 2, 4] rfl hJq18
      · refine y_aload_n C (i := 0) 0 d_M_keep_59 rfl rfl ?_
        refine y_gr C (q := (yR5, yT5, 46)) (ci := 5) (k := 39) rfl (by decide) rfl (by decide) g_823 d_M_keep_60 h (fun r25 h => ?_)
        refine y_iload_n C (i := 1) 1 d_M_keep_63 rfl rfl ?_
        refine y_iload_n C (i := 2) 2 d_M_keep_64 rfl rfl ?_
        refine y_as C d_M_keep_65 h (fun u26 h => ?_)
        refine y_aload_n C (i := 0) 0 d_M_keep_66 rfl rfl ?_
        refine y_gr C (q := (yR5, yT5, 46)) (ci := 5) (k := 40) rfl (by decide) rfl (by decide) g_824 d_M_keep_67 h (fun r27 h => ?_)
        refine y_iload_n C (i := 1) 1 d_M_keep_70 rfl rfl ?_
        refine y_iload_n C (i := 2) 2 d_M_keep_71 rfl rfl ?_
        refine y_iconst C (v := 1) d_M_keep_72 (by decide) ?_
        obtain ⟨q28, hq28, h⟩ := ob_e h
        have hJq28 : yG p l e ({ frames := 1, cells := 0, slots := 0, locals := 25 } : Room) s m args below meth c YM w 5 (MQ below (yQ YM w yfi out) args s 0 0 (yA YM w)) u26 81 [(0, va_re w.1 (some o)), (1, .int a1), (2, .int a2), (4, .int a4)] [.int q28, .int a1, va_re w.1 r27] := by
          refine y_as C d_M_keep_81 h (fun u30 h => ?_)
          refine y_aload_n C (i := 0) 0 d_M_keep_82 rfl rfl ?_
          refine y_gr C (q := (yR5, yT5, 46)) (ci := 5) (k := 41) rfl (by decide) rfl (by decide) g_825 d_M_keep_83 h (fun r31 h => ?_)
          refine y_iload_n C (i := 1) 1 d_M_keep_86 rfl rfl ?_
          refine y_iload_n C (i := 2) 2 d_M_keep_87 rfl rfl ?_
          refine y_iconst C (v := 1) d_M_keep_88 (by decide) ?_
          obtain ⟨q32, hq32, h⟩ := ob_e h
          have hJq32 : yG p l e ({ frames := 1, cells := 0, slots := 0, locals := 25 } : Room) s m args below meth c YM w 5 (MQ below (yQ YM w yfi out) args s 0 0 (yA YM w)) u30 98 [] [.int q32, .int a1, va_re w.1 r31] := by
            refine y_as C d_M_keep_98 h (fun u34 h => ?_)
            refine y_iconst C (v := 0) d_M_keep_99 (by decide) ?_
            exact y_iret C hr hlocks d_M_keep_100 h
          refine y_ic_ne C 97 d_M_keep_89 (by decide) hq32 (fun k33 hq32 => ?_) (fun k33 hq32 => ?_)
          · refine y_iload C (i := 4) 3 d_M_keep_92 rfl ?_
            refine y_goto C (tgt := 98) d_M_keep_94 (by decide) ?_
            cases hq32
            exact y_sub [] rfl hJq32
          · refine y_iconst C (v := 0) d_M_keep_97 (by decide) ?_
            cases hq32
            exact y_sub [] rfl hJq32
        refine y_ic_ne C 80 d_M_keep_73 (by decide) hq28 (fun k29 hq28 => ?_) (fun k29 hq28 => ?_)
        · refine y_iload_n C (i := 3) 3 d_M_keep_76 rfl rfl ?_
          refine y_goto C (tgt := 81) d_M_keep_77 (by decide) ?_
          cases hq28
          exact y_sub [0, 1, 2, 4] rfl hJq28
        · refine y_iconst C (v := 0) d_M_keep_80 (by decide) ?_
          cases hq28
          exact y_sub [0, 1, 2, 4] rfl hJq28
/-! M_row -/
theorem d_M_row_0 : decode prog_8_method_80_code 0 = .ok (.aload_n 0, 1) := by decide +kernel
theorem d_M_row_1 : decode prog_8_method_80_code 1 = .ok (.iconst 0, 1) := by decide +kernel
theorem d_M_row_2 : decode prog_8_method_80_code 2 = .ok (.putfield 102, 3) := by decide +kernel
theorem d_M_row_5 : decode prog_8_method_80_code 5 = .ok (.iload_n 1, 1) := by decide +kernel
theorem d_M_row_6 : decode prog_8_method_80_code 6 = .ok (.i2l, 1) := by decide +kernel
theorem d_M_row_7 : decode prog_8_method_80_code 7 = .ok (.lconst 0, 1) := by decide +kernel
theorem d_M_row_8 : decode prog_8_method_80_code 8 = .ok (.ldc2_w 263, 3) := by decide +kernel
theorem d_M_row_11 : decode prog_8_method_80_code 11 = .ok (.invokestatic 108, 3) := by decide +kernel
theorem d_M_row_14 : decode prog_8_method_80_code 14 = .ok (.ifCond .eq 21, 3) := by decide +kernel
theorem d_M_row_17 : decode prog_8_method_80_code 17 = .ok (.iload_n 2, 1) := by decide +kernel
theorem d_M_row_18 : decode prog_8_method_80_code 18 = .ok (.i2l, 1) := by decide +kernel
theorem d_M_row_19 : decode prog_8_method_80_code 19 = .ok (.lconst 0, 1) := by decide +kernel
theorem d_M_row_20 : decode prog_8_method_80_code 20 = .ok (.ldc2_w 321, 3) := by decide +kernel
theorem d_M_row_23 : decode prog_8_method_80_code 23 = .ok (.invokestatic 108, 3) := by decide +kernel
theorem d_M_row_26 : decode prog_8_method_80_code 26 = .ok (.ifCond .eq 9, 3) := by decide +kernel
theorem d_M_row_29 : decode prog_8_method_80_code 29 = .ok (.iload_n 3, 1) := by decide +kernel
theorem d_M_row_30 : decode prog_8_method_80_code 30 = .ok (.bipush 100, 2) := by decide +kernel
theorem d_M_row_32 : decode prog_8_method_80_code 32 = .ok (.if_icmp .le 5, 3) := by decide +kernel
theorem d_M_row_35 : decode prog_8_method_80_code 35 = .ok (.iconst (-1), 1) := by decide +kernel
theorem d_M_row_36 : decode prog_8_method_80_code 36 = .ok (.ireturn, 1) := by decide +kernel
theorem d_M_row_37 : decode prog_8_method_80_code 37 = .ok (.iload_n 3, 1) := by decide +kernel
theorem d_M_row_38 : decode prog_8_method_80_code 38 = .ok (.ifCond .ge 6, 3) := by decide +kernel
theorem d_M_row_41 : decode prog_8_method_80_code 41 = .ok (.bipush (-14), 2) := by decide +kernel
theorem d_M_row_43 : decode prog_8_method_80_code 43 = .ok (.ireturn, 1) := by decide +kernel
theorem d_M_row_44 : decode prog_8_method_80_code 44 = .ok (.aload_n 0, 1) := by decide +kernel
theorem d_M_row_45 : decode prog_8_method_80_code 45 = .ok (.getfield 80, 3) := by decide +kernel
theorem d_M_row_48 : decode prog_8_method_80_code 48 = .ok (.iload_n 1, 1) := by decide +kernel
theorem d_M_row_49 : decode prog_8_method_80_code 49 = .ok (.iconst 2, 1) := by decide +kernel
theorem d_M_row_50 : decode prog_8_method_80_code 50 = .ok (.iastore, 1) := by decide +kernel
theorem d_M_row_51 : decode prog_8_method_80_code 51 = .ok (.aload_n 0, 1) := by decide +kernel
theorem d_M_row_52 : decode prog_8_method_80_code 52 = .ok (.getfield 89, 3) := by decide +kernel
theorem d_M_row_55 : decode prog_8_method_80_code 55 = .ok (.iload_n 1, 1) := by decide +kernel
theorem d_M_row_56 : decode prog_8_method_80_code 56 = .ok (.iload_n 2, 1) := by decide +kernel
theorem d_M_row_57 : decode prog_8_method_80_code 57 = .ok (.iastore, 1) := by decide +kernel
theorem d_M_row_58 : decode prog_8_method_80_code 58 = .ok (.aload_n 0, 1) := by decide +kernel
theorem d_M_row_59 : decode prog_8_method_80_code 59 = .ok (.getfield 92, 3) := by decide +kernel
theorem d_M_row_62 : decode prog_8_method_80_code 62 = .ok (.iload_n 1, 1) := by decide +kernel
theorem d_M_row_63 : decode prog_8_method_80_code 63 = .ok (.iload_n 3, 1) := by decide +kernel
theorem d_M_row_64 : decode prog_8_method_80_code 64 = .ok (.iastore, 1) := by decide +kernel
theorem d_M_row_65 : decode prog_8_method_80_code 65 = .ok (.iconst 0, 1) := by decide +kernel
theorem d_M_row_66 : decode prog_8_method_80_code 66 = .ok (.istore 4, 2) := by decide +kernel
theorem d_M_row_68 : decode prog_8_method_80_code 68 = .ok (.iload 4, 2) := by decide +kernel
theorem d_M_row_70 : decode prog_8_method_80_code 70 = .ok (.bipush 100, 2) := by decide +kernel
theorem d_M_row_72 : decode prog_8_method_80_code 72 = .ok (.if_icmp .ge 22, 3) := by decide +kernel
theorem d_M_row_75 : decode prog_8_method_80_code 75 = .ok (.aload_n 0, 1) := by decide +kernel
theorem d_M_row_76 : decode prog_8_method_80_code 76 = .ok (.getfield 95, 3) := by decide +kernel
theorem d_M_row_79 : decode prog_8_method_80_code 79 = .ok (.bipush 100, 2) := by decide +kernel
theorem d_M_row_81 : decode prog_8_method_80_code 81 = .ok (.iload_n 1, 1) := by decide +kernel
theorem d_M_row_82 : decode prog_8_method_80_code 82 = .ok (.imul, 1) := by decide +kernel
theorem d_M_row_83 : decode prog_8_method_80_code 83 = .ok (.iload 4, 2) := by decide +kernel
theorem d_M_row_85 : decode prog_8_method_80_code 85 = .ok (.iadd, 1) := by decide +kernel
theorem d_M_row_86 : decode prog_8_method_80_code 86 = .ok (.lconst 0, 1) := by decide +kernel
theorem d_M_row_87 : decode prog_8_method_80_code 87 = .ok (.lastore, 1) := by decide +kernel
theorem d_M_row_88 : decode prog_8_method_80_code 88 = .ok (.iinc 4 1, 3) := by decide +kernel
theorem d_M_row_91 : decode prog_8_method_80_code 91 = .ok (.goto (-23), 3) := by decide +kernel
theorem d_M_row_94 : decode prog_8_method_80_code 94 = .ok (.iconst 0, 1) := by decide +kernel
theorem d_M_row_95 : decode prog_8_method_80_code 95 = .ok (.ireturn, 1) := by decide +kernel
set_option maxHeartbeats 4000000 in
set_option maxRecDepth 100000 in
def f_M_row_L68 (F : Nat) (a0 : Option Nat) (a1 : Int32) (k : Mm → Option (Int32 × Mm)) : Nat → Mm → Int32 → Option (Int32 × Mm)
  | 0, _, _ => none
  | n + 1, u, a4 => (if (100 : Int32) ≤ a4 then k u  else ob (jgr YM 5 44 a0) fun (r17 : Option Nat) => ob (jls YM u r17 (((100 : Int32) * a1) + a4) (0 : Int64)) fun (u18 : Mm) => ob (some (a4 + (1 : Int32))) fun (x19 : Int32) => f_M_row_L68 F a0 a1 k n u18 x19)
set_option maxHeartbeats 4000000 in
set_option maxRecDepth 100000 in
theorem w_M_row_L68 {p : Program} {l : Launch} {e : Env} {s : State} {m : MethodId} {args : Array Value} {below : List Frame} {meth : Method} {c : Code} {w : WP} {Q : State → Prop} (F : Nat) (C : yX p e ({ frames := 1, cells := 0, slots := 0, locals := 25 } : Room) s m args c YM w 5 prog_8_method_80_code "WhoseGlassModel") (hr : meth.sig.returnType = (some .int)) (hlocks : meth.locks = false) (a0 : Option Nat) (a1 : Int32) {out : Int32 × Mm} (k : Mm → Option (Int32 × Mm)) (hk : ∀ (u : Mm), k u  = some out → yG p l e ({ frames := 1, cells := 0, slots := 0, locals := 25 } : Room) s m args below meth c YM w 5 Q u 94 [] []) : ∀ (n : Nat) (u : Mm) (a4 : Int32), f_M_row_L68 F a0 a1 k n u a4 = some out → yG p l e ({ frames := 1, cells := 0, slots := 0, locals := 25 } : Room) s m args below meth c YM w 5 Q u 68 [(0, va_re w.1 a0), (1, .int a1), (4, .int a4)] [] := by
  intro n
  induction n with
  | zero => intro u a4 h; rw [f_M_row_L68] at h; cases h
  | succ n ih =>
    intro u a4 h
    rw [f_M_row_L68] at h
    refine y_iload C (i := 4) 2 d_M_row_68 rfl ?_
    refine y_bipush C (v := 100) d_M_row_70 (by decide) ?_
    refine y_ic_ge C 94 d_M_row_72 (by decide) h (fun k16 h => ?_) (fun k16 h => ?_)
    · exact y_sub [] rfl (hk _ h)
    · refine y_aload_n C (i := 0) 0 d_M_row_75 rfl rfl ?_
      refine y_gr C (q := (yR5, yT5, 46)) (ci := 5) (k := 44) rfl (by decide) rfl (by decide) g_828 d_M_row_76 h (fun r17 h => ?_)
      refine y_bipush C (v := 100) d_M_row_79 (by decide) ?_
      refine y_iload_n C (i := 1) 1 d_M_row_81 rfl rfl ?_
      refine y_imul C d_M_row_82 ?_
      refine y_iload C (i := 4) 2 d_M_row_83 rfl ?_
      refine y_iadd C d_M_row_85 ?_
      refine y_lconst C (v := 0) d_M_row_86 (by decide) ?_
      refine y_ls C d_M_row_87 h (fun u18 h => ?_)
      refine y_iinc C (j := 2) (v := 1) (lvp := [(0, va_re w.1 a0), (1, .int a1)]) d_M_row_88 rfl (by decide) (by decide) rfl h (fun x19 h => ?_)
      refine y_goto C (tgt := 68) d_M_row_91 (by decide) ?_
      exact y_sub [1, 2, 0] rfl (ih _ _ h)
set_option maxRecDepth 100000 in
def f_M_row (F : Nat) (u : Mm) (o : Nat) (a1 : Int32) (a2 : Int32) (a3 : Int32) : Option (Int32 × Mm) := ob (jpi YM 5 23 u (some o) (0 : Int32)) fun (u1 : Mm) => yb (f_M_in F u1 (a1.toInt64) (0 : Int64) (7 : Int64)) fun x2 u3 => (if x2 = 0 then some ((-1 : Int32), u3) else yb (f_M_in F u3 (a2.toInt64) (0 : Int64) (2 : Int64)) fun x5 u6 => (if x5 = 0 then some ((-1 : Int32), u6) else (if a3 ≤ (100 : Int32) then (if 0 ≤ a3 then ob (jgr YM 5 39 (some o)) fun (r10 : Option Nat) => ob (jas YM u6 r10 a1 (2 : Int32)) fun (u11 : Mm) => ob (jgr YM 5 42 (some o)) fun (r12 : Option Nat) => ob (jas YM u11 r12 a1 a2) fun (u13 : Mm) => ob (jgr YM 5 43 (some o)) fun (r14 : Option Nat) => ob (jas YM u13 r14 a1 a3) fun (u15 : Mm) => f_M_row_L68 F (some o) a1 (fun (u20 : Mm) => some ((0 : Int32), u20)) F u15 (0 : Int32) else some ((-14 : Int32), u6)) else some ((-1 : Int32), u6))))
set_option maxHeartbeats 4000000 in
set_option maxRecDepth 100000 in
theorem c_M_row (l : Launch) (w : WP) (F : Nat) (u : Mm) (o : Nat) (a1 : Int32) (a2 : Int32) (a3 : Int32) (out : Int32 × Mm) (h : f_M_row F u o a1 a2 a3 = some out) : yMet l m_M_row ws_M_row ({ frames := 1, cells := 0, slots := 0, locals := 25 } : Room) YM w u [va_re w.1 (some o), .int a1, .int a2, .int a3] yfi out := by
  refine y_entry (own := "WhoseGlassModel") (lv := [(0, va_re w.1 (some o)), (1, .int a1), (2, .int a2), (3, .int a3)]) (by decide +kernel) rfl (by simp [lv_args, y_cat, y_catI, y_catJ]) (by simp [lg_sl, y_cat, y_catI, y_catJ]) ?_
  intro p e s m args below meth c C hr hlocks
  unfold f_M_row at h
  refine y_aload_n C (i := 0) 0 d_M_row_0 rfl rfl ?_
  refine y_iconst C (v := 0) d_M_row_1 (by decide) ?_
  refine y_pi C (q := (yR5, yT5, 46)) (ci := 5) (k := 23) rfl (by decide) rfl rfl (by decide +kernel) g_807 d_M_row_2 h (fun u1 h => ?_)
  refine y_iload_n C (i := 1) 1 d_M_row_5 rfl rfl ?_
  refine y_i2l C d_M_row_6 ?_
  refine y_lconst C (v := 0) d_M_row_7 (by decide) ?_
  refine y_ldc2 C d_M_row_8 g_956 ?_
  refine y_callS 3 C (fun out hh => c_M_in l w F u1 (a1.toInt64) (0 : Int64) (7 : Int64) out hh) (y_gc g_959) g_957 g_6 g_958 hn_M_in ⟨Nat.le_of_ble_eq_true rfl, Nat.le_of_ble_eq_true rfl⟩ rfl rfl rfl rfl (by simp [y_cat, y_catI, y_catJ]) d_M_row_11 h (fun x2 u3 h => ?_)
  refine y_stk (stp0 := [.int x2]) rfl ?_
  refine y_if_eq C 35 d_M_row_14 (by decide) h (fun k4 h => ?_) (fun k4 h => ?_)
  · refine y_iconst C (v := -1) d_M_row_35 (by decide) ?_
    exact y_iret C hr hlocks d_M_row_36 h
  · refine y_iload_n C (i := 2) 2 d_M_row_17 rfl rfl ?_
    refine y_i2l C d_M_row_18 ?_
    refine y_lconst C (v := 0) d_M_row_19 (by decide) ?_
    refine y_ldc2 C d_M_row_20 g_1248 ?_
    refine y_callS 3 C (fun out hh => c_M_in l w F u3 (a2.toInt64) (0 : Int64) (2 : Int64) out hh) (y_gc g_959) g_957 g_6 g_958 hn_M_in ⟨Nat.le_of_ble_eq_true rfl, Nat.le_of_ble_eq_true rfl⟩ rfl rfl rfl rfl (by simp [y_cat, y_catI, y_catJ]) d_M_row_23 h (fun x5 u6 h => ?_)
    refine y_stk (stp0 := [.int x5]) rfl ?_
    refine y_if_eq C 35 d_M_row_26 (by decide) h (fun k7 h => ?_) (fun k7 h => ?_)
    · refine y_iconst C (v := -1) d_M_row_35 (by decide) ?_
      exact y_iret C hr hlocks d_M_row_36 h
    · refine y_iload_n C (i := 3) 3 d_M_row_29 rfl rfl ?_
      refine y_bipush C (v := 100) d_M_row_30 (by decide) ?_
      refine y_ic_le C 37 d_M_row_32 (by decide) h (fun k8 h => ?_) (fun k8 h => ?_)
      · refine y_iload_n C (i := 3) 3 d_M_row_37 rfl rfl ?_
        refine y_if_ge C 44 d_M_row_38 (by decide) h (fun k9 h => ?_) (fun k9 h => ?_)
        · refine y_aload_n C (i := 0) 0 d_M_row_44 rfl rfl ?_
          refine y_gr C (q := (yR5, yT5, 46)) (ci := 5) (k := 39) rfl (by decide) rfl (by decide) g_823 d_M_row_45 h (fun r10 h => ?_)
          refine y_iload_n C (i := 1) 1 d_M_row_48 rfl rfl ?_
          refine y_iconst C (v := 2) d_M_row_49 (by decide) ?_
          refine y_as C d_M_row_50 h (fun u11 h => ?_)
          refine y_aload_n C (i := 0) 0 d_M_row_51 rfl rfl ?_
          refine y_gr C (q := (yR5, yT5, 46)) (ci := 5) (k := 42) rfl (by decide) rfl (by decide) g_826 d_M_row_52 h (fun r12 h => ?_)
          refine y_iload_n C (i := 1) 1 d_M_row_55 rfl rfl ?_
          refine y_iload_n C (i := 2) 2 d_M_row_56 rfl rfl ?_
          refine y_as C d_M_row_57 h (fun u13 h => ?_)
          refine y_aload_n C (i := 0) 0 d_M_row_58 rfl rfl ?_
          refine y_gr C (q := (yR5, yT5, 46)) (ci := 5) (k := 43) rfl (by decide) rfl (by decide) g_827 d_M_row_59 h (fun r14 h => ?_)
          refine y_iload_n C (i := 1) 1 d_M_row_62 rfl rfl ?_
          refine y_iload_n C (i := 3) 3 d_M_row_63 rfl rfl ?_
          refine y_as C d_M_row_64 h (fun u15 h => ?_)
          refine y_iconst C (v := 0) d_M_row_65 (by decide) ?_
          refine y_istore C (i := 4) (lvp := [(0, va_re w.1 (some o)), (1, .int a1), (2, .int a2), (3, .int a3)]) d_M_row_66 (by decide) rfl ?_
          refine y_sub [1, 2, 0] rfl (w_M_row_L68 F C hr hlocks _ _ _ (fun u20 h => ?_) _ _ _ h)
          refine y_iconst C (v := 0) d_M_row_94 (by decide) ?_
          exact y_iret C hr hlocks d_M_row_95 h
        · refine y_bipush C (v := -14) d_M_row_41 (by decide) ?_
          exact y_iret C hr hlocks d_M_row_43 h
      · refine y_iconst C (v := -1) d_M_row_35 (by decide) ?_
        exact y_iret C hr hlocks d_M_row_36 h
/-! M_narrowed -/
theorem d_M_narrowed_0 : decode prog_8_method_79_code 0 = .ok (.iload_n 1, 1) := by decide +kernel
theorem d_M_narrowed_1 : decode prog_8_method_79_code 1 = .ok (.ifCond .ne 9, 3) := by decide +kernel
theorem d_M_narrowed_4 : decode prog_8_method_79_code 4 = .ok (.iload_n 0, 1) := by decide +kernel
theorem d_M_narrowed_5 : decode prog_8_method_79_code 5 = .ok (.i2b, 1) := by decide +kernel
theorem d_M_narrowed_6 : decode prog_8_method_79_code 6 = .ok (.i2l, 1) := by decide +kernel
theorem d_M_narrowed_7 : decode prog_8_method_79_code 7 = .ok (.goto 16, 3) := by decide +kernel
theorem d_M_narrowed_10 : decode prog_8_method_79_code 10 = .ok (.iload_n 1, 1) := by decide +kernel
theorem d_M_narrowed_11 : decode prog_8_method_79_code 11 = .ok (.iconst 1, 1) := by decide +kernel
theorem d_M_narrowed_12 : decode prog_8_method_79_code 12 = .ok (.if_icmp .ne 9, 3) := by decide +kernel
theorem d_M_narrowed_15 : decode prog_8_method_79_code 15 = .ok (.iload_n 0, 1) := by decide +kernel
theorem d_M_narrowed_16 : decode prog_8_method_79_code 16 = .ok (.i2s, 1) := by decide +kernel
theorem d_M_narrowed_17 : decode prog_8_method_79_code 17 = .ok (.i2l, 1) := by decide +kernel
theorem d_M_narrowed_18 : decode prog_8_method_79_code 18 = .ok (.goto 5, 3) := by decide +kernel
theorem d_M_narrowed_21 : decode prog_8_method_79_code 21 = .ok (.iload_n 0, 1) := by decide +kernel
theorem d_M_narrowed_22 : decode prog_8_method_79_code 22 = .ok (.i2l, 1) := by decide +kernel
theorem d_M_narrowed_23 : decode prog_8_method_79_code 23 = .ok (.lreturn, 1) := by decide +kernel
set_option maxRecDepth 100000 in
def f_M_narrowed (F : Nat) (u : Mm) (a0 : Int32) (a1 : Int32) : Option (Int64 × Mm) := (if a1 = 0 then some (((a0.toInt8.toInt32).toInt64), u) else (if a1 = (1 : Int32) then some (((a0.toInt16.toInt32).toInt64), u) else some ((a0.toInt64), u)))
set_option maxHeartbeats 4000000 in
set_option maxRecDepth 100000 in
theorem c_M_narrowed (l : Launch) (w : WP) (F : Nat) (u : Mm) (a0 : Int32) (a1 : Int32) (out : Int64 × Mm) (h : f_M_narrowed F u a0 a1 = some out) : yMet l m_M_narrowed ws_M_narrowed ({ frames := 0, cells := 0, slots := 0, locals := 0 } : Room) YM w u [.int a0, .int a1] yfl out := by
  refine y_entry (own := "WhoseGlassModel") (lv := [(0, .int a0), (1, .int a1)]) (by decide +kernel) rfl (by simp [lv_args, y_cat, y_catI, y_catJ]) (by simp [lg_sl, y_cat, y_catI, y_catJ]) ?_
  intro p e s m args below meth c C hr hlocks
  unfold f_M_narrowed at h
  refine y_iload_n C (i := 1) 1 d_M_narrowed_0 rfl rfl ?_
  refine y_if_ne C 10 d_M_narrowed_1 (by decide) h (fun k1 h => ?_) (fun k1 h => ?_)
  · refine y_iload_n C (i := 0) 0 d_M_narrowed_4 rfl rfl ?_
    refine y_i2b C d_M_narrowed_5 ?_
    refine y_i2l C d_M_narrowed_6 ?_
    refine y_goto C (tgt := 23) d_M_narrowed_7 (by decide) ?_
    exact y_lret C hr hlocks d_M_narrowed_23 h
  · refine y_iload_n C (i := 1) 1 d_M_narrowed_10 rfl rfl ?_
    refine y_iconst C (v := 1) d_M_narrowed_11 (by decide) ?_
    refine y_ic_ne C 21 d_M_narrowed_12 (by decide) h (fun k2 h => ?_) (fun k2 h => ?_)
    · refine y_iload_n C (i := 0) 0 d_M_narrowed_15 rfl rfl ?_
      refine y_i2s C d_M_narrowed_16 ?_
      refine y_i2l C d_M_narrowed_17 ?_
      refine y_goto C (tgt := 23) d_M_narrowed_18 (by decide) ?_
      exact y_lret C hr hlocks d_M_narrowed_23 h
    · refine y_iload_n C (i := 0) 0 d_M_narrowed_21 rfl rfl ?_
      refine y_i2l C d_M_narrowed_22 ?_
      exact y_lret C hr hlocks d_M_narrowed_23 h
/-! M_put -/
theorem d_M_put_0 : decode prog_8_method_81_code 0 = .ok (.aload_n 0, 1) := by decide +kernel
theorem d_M_put_1 : decode prog_8_method_81_code 1 = .ok (.iconst 0, 1) := by decide +kernel
theorem d_M_put_2 : decode prog_8_method_81_code 2 = .ok (.putfield 102, 3) := by decide +kernel
theorem d_M_put_5 : decode prog_8_method_81_code 5 = .ok (.aload_n 0, 1) := by decide +kernel
theorem d_M_put_6 : decode prog_8_method_81_code 6 = .ok (.iload_n 1, 1) := by decide +kernel
theorem d_M_put_7 : decode prog_8_method_81_code 7 = .ok (.invokevirtual 312, 3) := by decide +kernel
theorem d_M_put_10 : decode prog_8_method_81_code 10 = .ok (.istore 4, 2) := by decide +kernel
theorem d_M_put_12 : decode prog_8_method_81_code 12 = .ok (.iload 4, 2) := by decide +kernel
theorem d_M_put_14 : decode prog_8_method_81_code 14 = .ok (.ifCond .ge 6, 3) := by decide +kernel
theorem d_M_put_17 : decode prog_8_method_81_code 17 = .ok (.iload 4, 2) := by decide +kernel
theorem d_M_put_19 : decode prog_8_method_81_code 19 = .ok (.ireturn, 1) := by decide +kernel
theorem d_M_put_20 : decode prog_8_method_81_code 20 = .ok (.iload_n 2, 1) := by decide +kernel
theorem d_M_put_21 : decode prog_8_method_81_code 21 = .ok (.i2l, 1) := by decide +kernel
theorem d_M_put_22 : decode prog_8_method_81_code 22 = .ok (.lconst 0, 1) := by decide +kernel
theorem d_M_put_23 : decode prog_8_method_81_code 23 = .ok (.aload_n 0, 1) := by decide +kernel
theorem d_M_put_24 : decode prog_8_method_81_code 24 = .ok (.getfield 92, 3) := by decide +kernel
theorem d_M_put_27 : decode prog_8_method_81_code 27 = .ok (.iload_n 1, 1) := by decide +kernel
theorem d_M_put_28 : decode prog_8_method_81_code 28 = .ok (.iaload, 1) := by decide +kernel
theorem d_M_put_29 : decode prog_8_method_81_code 29 = .ok (.iconst 1, 1) := by decide +kernel
theorem d_M_put_30 : decode prog_8_method_81_code 30 = .ok (.isub, 1) := by decide +kernel
theorem d_M_put_31 : decode prog_8_method_81_code 31 = .ok (.i2l, 1) := by decide +kernel
theorem d_M_put_32 : decode prog_8_method_81_code 32 = .ok (.invokestatic 108, 3) := by decide +kernel
theorem d_M_put_35 : decode prog_8_method_81_code 35 = .ok (.ifCond .ne 6, 3) := by decide +kernel
theorem d_M_put_38 : decode prog_8_method_81_code 38 = .ok (.bipush (-13), 2) := by decide +kernel
theorem d_M_put_40 : decode prog_8_method_81_code 40 = .ok (.ireturn, 1) := by decide +kernel
theorem d_M_put_41 : decode prog_8_method_81_code 41 = .ok (.aload_n 0, 1) := by decide +kernel
theorem d_M_put_42 : decode prog_8_method_81_code 42 = .ok (.getfield 95, 3) := by decide +kernel
theorem d_M_put_45 : decode prog_8_method_81_code 45 = .ok (.bipush 100, 2) := by decide +kernel
theorem d_M_put_47 : decode prog_8_method_81_code 47 = .ok (.iload_n 1, 1) := by decide +kernel
theorem d_M_put_48 : decode prog_8_method_81_code 48 = .ok (.imul, 1) := by decide +kernel
theorem d_M_put_49 : decode prog_8_method_81_code 49 = .ok (.iload_n 2, 1) := by decide +kernel
theorem d_M_put_50 : decode prog_8_method_81_code 50 = .ok (.iadd, 1) := by decide +kernel
theorem d_M_put_51 : decode prog_8_method_81_code 51 = .ok (.iload_n 3, 1) := by decide +kernel
theorem d_M_put_52 : decode prog_8_method_81_code 52 = .ok (.aload_n 0, 1) := by decide +kernel
theorem d_M_put_53 : decode prog_8_method_81_code 53 = .ok (.getfield 89, 3) := by decide +kernel
theorem d_M_put_56 : decode prog_8_method_81_code 56 = .ok (.iload_n 1, 1) := by decide +kernel
theorem d_M_put_57 : decode prog_8_method_81_code 57 = .ok (.iaload, 1) := by decide +kernel
theorem d_M_put_58 : decode prog_8_method_81_code 58 = .ok (.invokestatic 323, 3) := by decide +kernel
theorem d_M_put_61 : decode prog_8_method_81_code 61 = .ok (.lastore, 1) := by decide +kernel
theorem d_M_put_62 : decode prog_8_method_81_code 62 = .ok (.iconst 0, 1) := by decide +kernel
theorem d_M_put_63 : decode prog_8_method_81_code 63 = .ok (.ireturn, 1) := by decide +kernel
theorem gc_M_put_312 : GoodIn yGW (wsV "WhoseGlassModel" 312 yR5 m_M_wrongRow ws_M_wrongRow) := y_gV g_952 g_954 gs_14 g_6 g_955
set_option maxRecDepth 100000 in
def f_M_put (F : Nat) (u : Mm) (o : Nat) (a1 : Int32) (a2 : Int32) (a3 : Int32) : Option (Int32 × Mm) := ob (jpi YM 5 23 u (some o) (0 : Int32)) fun (u1 : Mm) => ob (jk YM 5 (some o)) fun t => yb (f_M_wrongRow F u1 t a1) fun x2 u3 => (if 0 ≤ x2 then ob (jgr YM 5 43 (some o)) fun (r5 : Option Nat) => ob (jal YM u3 r5 a1) fun (x6 : Int32) => yb (f_M_in F u3 (a2.toInt64) (0 : Int64) ((x6 - (1 : Int32)).toInt64)) fun x7 u8 => (if x7 = 0 then some ((-13 : Int32), u8) else ob (jgr YM 5 44 (some o)) fun (r10 : Option Nat) => ob (jgr YM 5 42 (some o)) fun (r11 : Option Nat) => ob (jal YM u8 r11 a1) fun (x12 : Int32) => yb (f_M_narrowed F u8 a3 x12) fun z13 u14 => ob (jls YM u14 r10 (((100 : Int32) * a1) + a2) z13) fun (u15 : Mm) => some ((0 : Int32), u15)) else some (x2, u3))
set_option maxHeartbeats 4000000 in
set_option maxRecDepth 100000 in
theorem c_M_put (l : Launch) (w : WP) (F : Nat) (u : Mm) (o : Nat) (a1 : Int32) (a2 : Int32) (a3 : Int32) (out : Int32 × Mm) (h : f_M_put F u o a1 a2 a3 = some out) : yMet l m_M_put ws_M_put ({ frames := 2, cells := 0, slots := 0, locals := 46 } : Room) YM w u [va_re w.1 (some o), .int a1, .int a2, .int a3] yfi out := by
  refine y_entry (own := "WhoseGlassModel") (lv := [(0, va_re w.1 (some o)), (1, .int a1), (2, .int a2), (3, .int a3)]) (by decide +kernel) rfl (by simp [lv_args, y_cat, y_catI, y_catJ]) (by simp [lg_sl, y_cat, y_catI, y_catJ]) ?_
  intro p e s m args below meth c C hr hlocks
  unfold f_M_put at h
  refine y_aload_n C (i := 0) 0 d_M_put_0 rfl rfl ?_
  refine y_iconst C (v := 0) d_M_put_1 (by decide) ?_
  refine y_pi C (q := (yR5, yT5, 46)) (ci := 5) (k := 23) rfl (by decide) rfl rfl (by decide +kernel) g_807 d_M_put_2 h (fun u1 h => ?_)
  refine y_aload_n C (i := 0) 0 d_M_put_5 rfl rfl ?_
  refine y_iload_n C (i := 1) 1 d_M_put_6 rfl rfl ?_
  refine y_callV 1 C (q := (yR5, yT5, 46)) (ci := 5) (fun t out hh => c_M_wrongRow l w F u1 t a1 out hh) gc_M_put_312 rfl (by decide) hd_M_wrongRow ⟨Nat.le_of_ble_eq_true rfl, Nat.le_of_ble_eq_true rfl⟩ rfl rfl rfl rfl (by simp [y_cat, y_catI, y_catJ]) d_M_put_7 h (fun x2 u3 h => ?_)
  refine y_stk (stp0 := [.int x2]) rfl ?_
  refine y_istore C (i := 4) (lvp := [(0, va_re w.1 (some o)), (1, .int a1), (2, .int a2), (3, .int a3)]) d_M_put_10 (by decide) rfl ?_
  refine y_iload C (i := 4) 0 d_M_put_12 rfl ?_
  refine y_if_ge C 20 d_M_put_14 (by decide) h (fun k4 h => ?_) (fun k4 h => ?_)
  · refine y_iload_n C (i := 2) 3 d_M_put_20 rfl rfl ?_
    refine y_i2l C d_M_put_21 ?_
    refine y_lconst C (v := 0) d_M_put_22 (by decide) ?_
    refine y_aload_n C (i := 0) 1 d_M_put_23 rfl rfl ?_
    refine y_gr C (q := (yR5, yT5, 46)) (ci := 5) (k := 43) rfl (by decide) rfl (by decide) g_827 d_M_put_24 h (fun r5 h => ?_)
    refine y_iload_n C (i := 1) 2 d_M_put_27 rfl rfl ?_
    refine y_al C d_M_put_28 h (fun x6 h => ?_)
    refine y_iconst C (v := 1) d_M_put_29 (by decide) ?_
    refine y_isub C d_M_put_30 ?_
    refine y_i2l C d_M_put_31 ?_
    refine y_callS 3 C (fun out hh => c_M_in l w F u3 (a2.toInt64) (0 : Int64) ((x6 - (1 : Int32)).toInt64) out hh) (y_gc g_959) g_957 g_6 g_958 hn_M_in ⟨Nat.le_of_ble_eq_true rfl, Nat.le_of_ble_eq_true rfl⟩ rfl rfl rfl rfl (by simp [y_cat, y_catI, y_catJ]) d_M_put_32 h (fun x7 u8 h => ?_)
    refine y_stk (stp0 := [.int x7]) rfl ?_
    refine y_if_ne C 41 d_M_put_35 (by decide) h (fun k9 h => ?_) (fun k9 h => ?_)
    · refine y_bipush C (v := -13) d_M_put_38 (by decide) ?_
      exact y_iret C hr hlocks d_M_put_40 h
    · refine y_aload_n C (i := 0) 1 d_M_put_41 rfl rfl ?_
      refine y_gr C (q := (yR5, yT5, 46)) (ci := 5) (k := 44) rfl (by decide) rfl (by decide) g_828 d_M_put_42 h (fun r10 h => ?_)
      refine y_bipush C (v := 100) d_M_put_45 (by decide) ?_
      refine y_iload_n C (i := 1) 2 d_M_put_47 rfl rfl ?_
      refine y_imul C d_M_put_48 ?_
      refine y_iload_n C (i := 2) 3 d_M_put_49 rfl rfl ?_
      refine y_iadd C d_M_put_50 ?_
      refine y_iload_n C (i := 3) 4 d_M_put_51 rfl rfl ?_
      refine y_aload_n C (i := 0) 1 d_M_put_52 rfl rfl ?_
      refine y_gr C (q := (yR5, yT5, 46)) (ci := 5) (k := 42) rfl (by decide) rfl (by decide) g_826 d_M_put_53 h (fun r11 h => ?_)
      refine y_iload_n C (i := 1) 2 d_M_put_56 rfl rfl ?_
      refine y_al C d_M_put_57 h (fun x12 h => ?_)
      refine y_callS 2 C (fun out hh => c_M_narrowed l w F u8 a3 x12 out hh) (y_gc g_1255) g_1253 g_6 g_1254 hn_M_narrowed ⟨Nat.le_of_ble_eq_true rfl, Nat.le_of_ble_eq_true rfl⟩ rfl rfl rfl rfl (by simp [y_cat, y_catI, y_catJ]) d_M_put_58 h (fun z13 u14 h => ?_)
      refine y_stk (stp0 := [.long z13, .int (((100 : Int32) * a1) + a2), va_re w.1 r10]) rfl ?_
      refine y_ls C d_M_put_61 h (fun u15 h => ?_)
      refine y_iconst C (v := 0) d_M_put_62 (by decide) ?_
      exact y_iret C hr hlocks d_M_put_63 h
  · refine y_iload C (i := 4) 0 d_M_put_17 rfl ?_
    exact y_iret C hr hlocks d_M_put_19 h
/-! M_element -/
theorem d_M_element_0 : decode prog_8_method_82_code 0 = .ok (.aload_n 0, 1) := by decide +kernel
theorem d_M_element_1 : decode prog_8_method_82_code 1 = .ok (.iload_n 1, 1) := by decide +kernel
theorem d_M_element_2 : decode prog_8_method_82_code 2 = .ok (.invokevirtual 312, 3) := by decide +kernel
theorem d_M_element_5 : decode prog_8_method_82_code 5 = .ok (.istore_n 3, 1) := by decide +kernel
theorem d_M_element_6 : decode prog_8_method_82_code 6 = .ok (.aload_n 0, 1) := by decide +kernel
theorem d_M_element_7 : decode prog_8_method_82_code 7 = .ok (.iload_n 3, 1) := by decide +kernel
theorem d_M_element_8 : decode prog_8_method_82_code 8 = .ok (.iconst (-1), 1) := by decide +kernel
theorem d_M_element_9 : decode prog_8_method_82_code 9 = .ok (.if_icmp .ne 7, 3) := by decide +kernel
theorem d_M_element_12 : decode prog_8_method_82_code 12 = .ok (.iconst 1, 1) := by decide +kernel
theorem d_M_element_13 : decode prog_8_method_82_code 13 = .ok (.goto 30, 3) := by decide +kernel
theorem d_M_element_16 : decode prog_8_method_82_code 16 = .ok (.iload_n 3, 1) := by decide +kernel
theorem d_M_element_17 : decode prog_8_method_82_code 17 = .ok (.ifCond .lt 21, 3) := by decide +kernel
theorem d_M_element_20 : decode prog_8_method_82_code 20 = .ok (.iload_n 2, 1) := by decide +kernel
theorem d_M_element_21 : decode prog_8_method_82_code 21 = .ok (.i2l, 1) := by decide +kernel
theorem d_M_element_22 : decode prog_8_method_82_code 22 = .ok (.lconst 0, 1) := by decide +kernel
theorem d_M_element_23 : decode prog_8_method_82_code 23 = .ok (.aload_n 0, 1) := by decide +kernel
theorem d_M_element_24 : decode prog_8_method_82_code 24 = .ok (.getfield 92, 3) := by decide +kernel
theorem d_M_element_27 : decode prog_8_method_82_code 27 = .ok (.iload_n 1, 1) := by decide +kernel
theorem d_M_element_28 : decode prog_8_method_82_code 28 = .ok (.iaload, 1) := by decide +kernel
theorem d_M_element_29 : decode prog_8_method_82_code 29 = .ok (.iconst 1, 1) := by decide +kernel
theorem d_M_element_30 : decode prog_8_method_82_code 30 = .ok (.isub, 1) := by decide +kernel
theorem d_M_element_31 : decode prog_8_method_82_code 31 = .ok (.i2l, 1) := by decide +kernel
theorem d_M_element_32 : decode prog_8_method_82_code 32 = .ok (.invokestatic 108, 3) := by decide +kernel
theorem d_M_element_35 : decode prog_8_method_82_code 35 = .ok (.ifCond .ne 7, 3) := by decide +kernel
theorem d_M_element_38 : decode prog_8_method_82_code 38 = .ok (.iconst 2, 1) := by decide +kernel
theorem d_M_element_39 : decode prog_8_method_82_code 39 = .ok (.goto 4, 3) := by decide +kernel
theorem d_M_element_42 : decode prog_8_method_82_code 42 = .ok (.iconst 0, 1) := by decide +kernel
theorem d_M_element_43 : decode prog_8_method_82_code 43 = .ok (.putfield 102, 3) := by decide +kernel
theorem d_M_element_46 : decode prog_8_method_82_code 46 = .ok (.aload_n 0, 1) := by decide +kernel
theorem d_M_element_47 : decode prog_8_method_82_code 47 = .ok (.getfield 102, 3) := by decide +kernel
theorem d_M_element_50 : decode prog_8_method_82_code 50 = .ok (.ifCond .le 7, 3) := by decide +kernel
theorem d_M_element_53 : decode prog_8_method_82_code 53 = .ok (.lconst 0, 1) := by decide +kernel
theorem d_M_element_54 : decode prog_8_method_82_code 54 = .ok (.goto 14, 3) := by decide +kernel
theorem d_M_element_57 : decode prog_8_method_82_code 57 = .ok (.aload_n 0, 1) := by decide +kernel
theorem d_M_element_58 : decode prog_8_method_82_code 58 = .ok (.getfield 95, 3) := by decide +kernel
theorem d_M_element_61 : decode prog_8_method_82_code 61 = .ok (.bipush 100, 2) := by decide +kernel
theorem d_M_element_63 : decode prog_8_method_82_code 63 = .ok (.iload_n 1, 1) := by decide +kernel
theorem d_M_element_64 : decode prog_8_method_82_code 64 = .ok (.imul, 1) := by decide +kernel
theorem d_M_element_65 : decode prog_8_method_82_code 65 = .ok (.iload_n 2, 1) := by decide +kernel
theorem d_M_element_66 : decode prog_8_method_82_code 66 = .ok (.iadd, 1) := by decide +kernel
theorem d_M_element_67 : decode prog_8_method_82_code 67 = .ok (.laload, 1) := by decide +kernel
theorem d_M_element_68 : decode prog_8_method_82_code 68 = .ok (.lreturn, 1) := by decide +kernel
theorem gc_M_element_312 : GoodIn yGW (wsV "WhoseGlassModel" 312 yR5 m_M_wrongRow ws_M_wrongRow) := y_gV g_952 g_954 gs_14 g_6 g_955
set_option maxRecDepth 100000 in
def f_M_element (F : Nat) (u : Mm) (o : Nat) (a1 : Int32) (a2 : Int32) : Option (Int64 × Mm) := ob (jk YM 5 (some o)) fun t => yb (f_M_wrongRow F u t a1) fun x1 u2 => ob ((if x1 = (-1 : Int32) then some ((1 : Int32), u2) else (if x1 < 0 then some ((2 : Int32), u2) else ob (jgr YM 5 43 (some o)) fun (r6 : Option Nat) => ob (jal YM u2 r6 a1) fun (x7 : Int32) => yb (f_M_in F u2 (a2.toInt64) (0 : Int64) ((x7 - (1 : Int32)).toInt64)) fun x8 u9 => (if x8 = 0 then some ((2 : Int32), u9) else some ((0 : Int32), u9)))) : Option (Int32 × Mm)) fun q3 => ob (jpi YM 5 23 q3.2 (some o) q3.1) fun (u11 : Mm) => ob (jgi YM 5 23 u11 (some o)) fun (x12 : Int32) => (if x12 ≤ 0 then ob (jgr YM 5 44 (some o)) fun (r14 : Option Nat) => ob (jll YM u11 r14 (((100 : Int32) * a1) + a2)) fun (z15 : Int64) => some (z15, u11) else some ((0 : Int64), u11))
set_option maxHeartbeats 4000000 in
set_option maxRecDepth 100000 in
theorem c_M_element (l : Launch) (w : WP) (F : Nat) (u : Mm) (o : Nat) (a1 : Int32) (a2 : Int32) (out : Int64 × Mm) (h : f_M_element F u o a1 a2 = some out) : yMet l m_M_element ws_M_element ({ frames := 2, cells := 0, slots := 0, locals := 46 } : Room) YM w u [va_re w.1 (some o), .int a1, .int a2] yfl out := by
  refine y_entry (own := "WhoseGlassModel") (lv := [(0, va_re w.1 (some o)), (1, .int a1), (2, .int a2)]) (by decide +kernel) rfl (by simp [lv_args, y_cat, y_catI, y_catJ]) (by simp [lg_sl, y_cat, y_catI, y_catJ]) ?_
  intro p e s m args below meth c C hr hlocks
  unfold f_M_element at h
  refine y_aload_n C (i := 0) 0 d_M_element_0 rfl rfl ?_
  refine y_iload_n C (i := 1) 1 d_M_element_1 rfl rfl ?_
  refine y_callV 1 C (q := (yR5, yT5, 46)) (ci := 5) (fun t out hh => c_M_wrongRow l w F u t a1 out hh) gc_M_element_312 rfl (by decide) hd_M_wrongRow ⟨Nat.le_of_ble_eq_true rfl, Nat.le_of_ble_eq_true rfl⟩ rfl rfl rfl rfl (by simp [y_cat, y_catI, y_catJ]) d_M_element_2 h (fun x1 u2 h => ?_)
  refine y_stk (stp0 := [.int x1]) rfl ?_
  refine y_istore_n C (i := 3) (lvp := [(0, va_re w.1 (some o)), (1, .int a1), (2, .int a2)]) d_M_element_5 rfl (by decide) rfl ?_
  refine y_aload_n C (i := 0) 1 d_M_element_6 rfl rfl ?_
  refine y_iload_n C (i := 3) 0 d_M_element_7 rfl rfl ?_
  refine y_iconst C (v := -1) d_M_element_8 (by decide) ?_
  obtain ⟨q3, hq3, h⟩ := ob_e h
  have hJq3 : yG p l e ({ frames := 2, cells := 0, slots := 0, locals := 46 } : Room) s m args below meth c YM w 4 (MQ below (yQ YM w yfl out) args s 0 0 (yA YM w)) q3.2 43 [(0, va_re w.1 (some o)), (1, .int a1), (2, .int a2)] [.int q3.1, va_re w.1 (some o)] := by
    refine y_pi C (q := (yR5, yT5, 46)) (ci := 5) (k := 23) rfl (by decide) rfl rfl (by decide +kernel) g_807 d_M_element_43 h (fun u11 h => ?_)
    refine y_aload_n C (i := 0) 0 d_M_element_46 rfl rfl ?_
    refine y_gi C (q := (yR5, yT5, 46)) (ci := 5) (k := 23) rfl (by decide) rfl g_807 d_M_element_47 h (fun x12 h => ?_)
    refine y_if_le C 57 d_M_element_50 (by decide) h (fun k13 h => ?_) (fun k13 h => ?_)
    · refine y_aload_n C (i := 0) 0 d_M_element_57 rfl rfl ?_
      refine y_gr C (q := (yR5, yT5, 46)) (ci := 5) (k := 44) rfl (by decide) rfl (by decide) g_828 d_M_element_58 h (fun r14 h => ?_)
      refine y_bipush C (v := 100) d_M_element_61 (by decide) ?_
      refine y_iload_n C (i := 1) 1 d_M_element_63 rfl rfl ?_
      refine y_imul C d_M_element_64 ?_
      refine y_iload_n C (i := 2) 2 d_M_element_65 rfl rfl ?_
      refine y_iadd C d_M_element_66 ?_
      refine y_ll C d_M_element_67 h (fun z15 h => ?_)
      exact y_lret C hr hlocks d_M_element_68 h
    · refine y_lconst C (v := 0) d_M_element_53 (by decide) ?_
      refine y_goto C (tgt := 68) d_M_element_54 (by decide) ?_
      exact y_lret C hr hlocks d_M_element_68 h
  refine y_ic_ne C 16 d_M_element_9 (by decide) hq3 (fun k4 hq3 => ?_) (fun k4 hq3 => ?_)
  · refine y_iconst C (v := 1) d_M_element_12 (by decide) ?_
    refine y_goto C (tgt := 43) d_M_element_13 (by decide) ?_
    cases hq3
    exact y_sub [1, 2, 3] rfl hJq3
  · refine y_iload_n C (i := 3) 0 d_M_element_16 rfl rfl ?_
    refine y_if_lt C 38 d_M_element_17 (by decide) hq3 (fun k5 hq3 => ?_) (fun k5 hq3 => ?_)
    · refine y_iconst C (v := 2) d_M_element_38 (by decide) ?_
      refine y_goto C (tgt := 43) d_M_element_39 (by decide) ?_
      cases hq3
      exact y_sub [1, 2, 3] rfl hJq3
    · refine y_iload_n C (i := 2) 3 d_M_element_20 rfl rfl ?_
      refine y_i2l C d_M_element_21 ?_
      refine y_lconst C (v := 0) d_M_element_22 (by decide) ?_
      refine y_aload_n C (i := 0) 1 d_M_element_23 rfl rfl ?_
      refine y_gr C (q := (yR5, yT5, 46)) (ci := 5) (k := 43) rfl (by decide) rfl (by decide) g_827 d_M_element_24 hq3 (fun r6 hq3 => ?_)
      refine y_iload_n C (i := 1) 2 d_M_element_27 rfl rfl ?_
      refine y_al C d_M_element_28 hq3 (fun x7 hq3 => ?_)
      refine y_iconst C (v := 1) d_M_element_29 (by decide) ?_
      refine y_isub C d_M_element_30 ?_
      refine y_i2l C d_M_element_31 ?_
      refine y_callS 3 C (fun out hh => c_M_in l w F u2 (a2.toInt64) (0 : Int64) ((x7 - (1 : Int32)).toInt64) out hh) (y_gc g_959) g_957 g_6 g_958 hn_M_in ⟨Nat.le_of_ble_eq_true rfl, Nat.le_of_ble_eq_true rfl⟩ rfl rfl rfl rfl (by simp [y_cat, y_catI, y_catJ]) d_M_element_32 hq3 (fun x8 u9 hq3 => ?_)
      refine y_stk (stp0 := [.int x8, va_re w.1 (some o)]) rfl ?_
      refine y_if_ne C 42 d_M_element_35 (by decide) hq3 (fun k10 hq3 => ?_) (fun k10 hq3 => ?_)
      · refine y_iconst C (v := 2) d_M_element_38 (by decide) ?_
        refine y_goto C (tgt := 43) d_M_element_39 (by decide) ?_
        cases hq3
        exact y_sub [1, 2, 3] rfl hJq3
      · refine y_iconst C (v := 0) d_M_element_42 (by decide) ?_
        cases hq3
        exact y_sub [1, 2, 3] rfl hJq3
/-! M_copy -/
theorem d_M_copy_0 : decode prog_8_method_83_code 0 = .ok (.aload_n 0, 1) := by decide +kernel
theorem d_M_copy_1 : decode prog_8_method_83_code 1 = .ok (.iconst 0, 1) := by decide +kernel
theorem d_M_copy_2 : decode prog_8_method_83_code 2 = .ok (.putfield 102, 3) := by decide +kernel
theorem d_M_copy_5 : decode prog_8_method_83_code 5 = .ok (.iload_n 1, 1) := by decide +kernel
theorem d_M_copy_6 : decode prog_8_method_83_code 6 = .ok (.i2l, 1) := by decide +kernel
theorem d_M_copy_7 : decode prog_8_method_83_code 7 = .ok (.lconst 0, 1) := by decide +kernel
theorem d_M_copy_8 : decode prog_8_method_83_code 8 = .ok (.ldc2_w 263, 3) := by decide +kernel
theorem d_M_copy_11 : decode prog_8_method_83_code 11 = .ok (.invokestatic 108, 3) := by decide +kernel
theorem d_M_copy_14 : decode prog_8_method_83_code 14 = .ok (.ifCond .eq 15, 3) := by decide +kernel
theorem d_M_copy_17 : decode prog_8_method_83_code 17 = .ok (.iload_n 3, 1) := by decide +kernel
theorem d_M_copy_18 : decode prog_8_method_83_code 18 = .ok (.i2l, 1) := by decide +kernel
theorem d_M_copy_19 : decode prog_8_method_83_code 19 = .ok (.lconst 0, 1) := by decide +kernel
theorem d_M_copy_20 : decode prog_8_method_83_code 20 = .ok (.ldc2_w 263, 3) := by decide +kernel
theorem d_M_copy_23 : decode prog_8_method_83_code 23 = .ok (.invokestatic 108, 3) := by decide +kernel
theorem d_M_copy_26 : decode prog_8_method_83_code 26 = .ok (.ifCond .ne 5, 3) := by decide +kernel
theorem d_M_copy_29 : decode prog_8_method_83_code 29 = .ok (.iconst (-1), 1) := by decide +kernel
theorem d_M_copy_30 : decode prog_8_method_83_code 30 = .ok (.ireturn, 1) := by decide +kernel
theorem d_M_copy_31 : decode prog_8_method_83_code 31 = .ok (.aload_n 0, 1) := by decide +kernel
theorem d_M_copy_32 : decode prog_8_method_83_code 32 = .ok (.getfield 80, 3) := by decide +kernel
theorem d_M_copy_35 : decode prog_8_method_83_code 35 = .ok (.iload_n 1, 1) := by decide +kernel
theorem d_M_copy_36 : decode prog_8_method_83_code 36 = .ok (.iaload, 1) := by decide +kernel
theorem d_M_copy_37 : decode prog_8_method_83_code 37 = .ok (.ifCond .eq 12, 3) := by decide +kernel
theorem d_M_copy_40 : decode prog_8_method_83_code 40 = .ok (.aload_n 0, 1) := by decide +kernel
theorem d_M_copy_41 : decode prog_8_method_83_code 41 = .ok (.getfield 80, 3) := by decide +kernel
theorem d_M_copy_44 : decode prog_8_method_83_code 44 = .ok (.iload_n 3, 1) := by decide +kernel
theorem d_M_copy_45 : decode prog_8_method_83_code 45 = .ok (.iaload, 1) := by decide +kernel
theorem d_M_copy_46 : decode prog_8_method_83_code 46 = .ok (.ifCond .ne 6, 3) := by decide +kernel
theorem d_M_copy_49 : decode prog_8_method_83_code 49 = .ok (.bipush (-11), 2) := by decide +kernel
theorem d_M_copy_51 : decode prog_8_method_83_code 51 = .ok (.ireturn, 1) := by decide +kernel
theorem d_M_copy_52 : decode prog_8_method_83_code 52 = .ok (.aload_n 0, 1) := by decide +kernel
theorem d_M_copy_53 : decode prog_8_method_83_code 53 = .ok (.getfield 80, 3) := by decide +kernel
theorem d_M_copy_56 : decode prog_8_method_83_code 56 = .ok (.iload_n 1, 1) := by decide +kernel
theorem d_M_copy_57 : decode prog_8_method_83_code 57 = .ok (.iaload, 1) := by decide +kernel
theorem d_M_copy_58 : decode prog_8_method_83_code 58 = .ok (.iconst 2, 1) := by decide +kernel
theorem d_M_copy_59 : decode prog_8_method_83_code 59 = .ok (.if_icmp .ne 28, 3) := by decide +kernel
theorem d_M_copy_62 : decode prog_8_method_83_code 62 = .ok (.aload_n 0, 1) := by decide +kernel
theorem d_M_copy_63 : decode prog_8_method_83_code 63 = .ok (.getfield 80, 3) := by decide +kernel
theorem d_M_copy_66 : decode prog_8_method_83_code 66 = .ok (.iload_n 3, 1) := by decide +kernel
theorem d_M_copy_67 : decode prog_8_method_83_code 67 = .ok (.iaload, 1) := by decide +kernel
theorem d_M_copy_68 : decode prog_8_method_83_code 68 = .ok (.iconst 2, 1) := by decide +kernel
theorem d_M_copy_69 : decode prog_8_method_83_code 69 = .ok (.if_icmp .ne 18, 3) := by decide +kernel
theorem d_M_copy_72 : decode prog_8_method_83_code 72 = .ok (.aload_n 0, 1) := by decide +kernel
theorem d_M_copy_73 : decode prog_8_method_83_code 73 = .ok (.getfield 89, 3) := by decide +kernel
theorem d_M_copy_76 : decode prog_8_method_83_code 76 = .ok (.iload_n 1, 1) := by decide +kernel
theorem d_M_copy_77 : decode prog_8_method_83_code 77 = .ok (.iaload, 1) := by decide +kernel
theorem d_M_copy_78 : decode prog_8_method_83_code 78 = .ok (.aload_n 0, 1) := by decide +kernel
theorem d_M_copy_79 : decode prog_8_method_83_code 79 = .ok (.getfield 89, 3) := by decide +kernel
theorem d_M_copy_82 : decode prog_8_method_83_code 82 = .ok (.iload_n 3, 1) := by decide +kernel
theorem d_M_copy_83 : decode prog_8_method_83_code 83 = .ok (.iaload, 1) := by decide +kernel
theorem d_M_copy_84 : decode prog_8_method_83_code 84 = .ok (.if_icmp .eq 6, 3) := by decide +kernel
theorem d_M_copy_87 : decode prog_8_method_83_code 87 = .ok (.bipush (-12), 2) := by decide +kernel
theorem d_M_copy_89 : decode prog_8_method_83_code 89 = .ok (.ireturn, 1) := by decide +kernel
theorem d_M_copy_90 : decode prog_8_method_83_code 90 = .ok (.iload 5, 2) := by decide +kernel
theorem d_M_copy_92 : decode prog_8_method_83_code 92 = .ok (.ifCond .lt 39, 3) := by decide +kernel
theorem d_M_copy_95 : decode prog_8_method_83_code 95 = .ok (.iload_n 2, 1) := by decide +kernel
theorem d_M_copy_96 : decode prog_8_method_83_code 96 = .ok (.ifCond .lt 35, 3) := by decide +kernel
theorem d_M_copy_99 : decode prog_8_method_83_code 99 = .ok (.iload 4, 2) := by decide +kernel
theorem d_M_copy_101 : decode prog_8_method_83_code 101 = .ok (.ifCond .lt 30, 3) := by decide +kernel
theorem d_M_copy_104 : decode prog_8_method_83_code 104 = .ok (.iload_n 2, 1) := by decide +kernel
theorem d_M_copy_105 : decode prog_8_method_83_code 105 = .ok (.aload_n 0, 1) := by decide +kernel
theorem d_M_copy_106 : decode prog_8_method_83_code 106 = .ok (.getfield 92, 3) := by decide +kernel
theorem d_M_copy_109 : decode prog_8_method_83_code 109 = .ok (.iload_n 1, 1) := by decide +kernel
theorem d_M_copy_110 : decode prog_8_method_83_code 110 = .ok (.iaload, 1) := by decide +kernel
theorem d_M_copy_111 : decode prog_8_method_83_code 111 = .ok (.iload 5, 2) := by decide +kernel
theorem d_M_copy_113 : decode prog_8_method_83_code 113 = .ok (.isub, 1) := by decide +kernel
theorem d_M_copy_114 : decode prog_8_method_83_code 114 = .ok (.if_icmp .gt 17, 3) := by decide +kernel
theorem d_M_copy_117 : decode prog_8_method_83_code 117 = .ok (.iload 4, 2) := by decide +kernel
theorem d_M_copy_119 : decode prog_8_method_83_code 119 = .ok (.aload_n 0, 1) := by decide +kernel
theorem d_M_copy_120 : decode prog_8_method_83_code 120 = .ok (.getfield 92, 3) := by decide +kernel
theorem d_M_copy_123 : decode prog_8_method_83_code 123 = .ok (.iload_n 3, 1) := by decide +kernel
theorem d_M_copy_124 : decode prog_8_method_83_code 124 = .ok (.iaload, 1) := by decide +kernel
theorem d_M_copy_125 : decode prog_8_method_83_code 125 = .ok (.iload 5, 2) := by decide +kernel
theorem d_M_copy_127 : decode prog_8_method_83_code 127 = .ok (.isub, 1) := by decide +kernel
theorem d_M_copy_128 : decode prog_8_method_83_code 128 = .ok (.if_icmp .le 6, 3) := by decide +kernel
theorem d_M_copy_131 : decode prog_8_method_83_code 131 = .ok (.bipush (-13), 2) := by decide +kernel
theorem d_M_copy_133 : decode prog_8_method_83_code 133 = .ok (.ireturn, 1) := by decide +kernel
theorem d_M_copy_134 : decode prog_8_method_83_code 134 = .ok (.iconst 0, 1) := by decide +kernel
theorem d_M_copy_135 : decode prog_8_method_83_code 135 = .ok (.istore 6, 2) := by decide +kernel
theorem d_M_copy_137 : decode prog_8_method_83_code 137 = .ok (.iload 6, 2) := by decide +kernel
theorem d_M_copy_139 : decode prog_8_method_83_code 139 = .ok (.iload 5, 2) := by decide +kernel
theorem d_M_copy_141 : decode prog_8_method_83_code 141 = .ok (.if_icmp .ge 30, 3) := by decide +kernel
theorem d_M_copy_144 : decode prog_8_method_83_code 144 = .ok (.aload_n 0, 1) := by decide +kernel
theorem d_M_copy_145 : decode prog_8_method_83_code 145 = .ok (.getfield 99, 3) := by decide +kernel
theorem d_M_copy_148 : decode prog_8_method_83_code 148 = .ok (.iload 6, 2) := by decide +kernel
theorem d_M_copy_150 : decode prog_8_method_83_code 150 = .ok (.aload_n 0, 1) := by decide +kernel
theorem d_M_copy_151 : decode prog_8_method_83_code 151 = .ok (.getfield 95, 3) := by decide +kernel
theorem d_M_copy_154 : decode prog_8_method_83_code 154 = .ok (.bipush 100, 2) := by decide +kernel
theorem d_M_copy_156 : decode prog_8_method_83_code 156 = .ok (.iload_n 1, 1) := by decide +kernel
theorem d_M_copy_157 : decode prog_8_method_83_code 157 = .ok (.imul, 1) := by decide +kernel
theorem d_M_copy_158 : decode prog_8_method_83_code 158 = .ok (.iload_n 2, 1) := by decide +kernel
theorem d_M_copy_159 : decode prog_8_method_83_code 159 = .ok (.iadd, 1) := by decide +kernel
theorem d_M_copy_160 : decode prog_8_method_83_code 160 = .ok (.iload 6, 2) := by decide +kernel
theorem d_M_copy_162 : decode prog_8_method_83_code 162 = .ok (.iadd, 1) := by decide +kernel
theorem d_M_copy_163 : decode prog_8_method_83_code 163 = .ok (.laload, 1) := by decide +kernel
theorem d_M_copy_164 : decode prog_8_method_83_code 164 = .ok (.lastore, 1) := by decide +kernel
theorem d_M_copy_165 : decode prog_8_method_83_code 165 = .ok (.iinc 6 1, 3) := by decide +kernel
theorem d_M_copy_168 : decode prog_8_method_83_code 168 = .ok (.goto (-31), 3) := by decide +kernel
theorem d_M_copy_171 : decode prog_8_method_83_code 171 = .ok (.iconst 0, 1) := by decide +kernel
theorem d_M_copy_172 : decode prog_8_method_83_code 172 = .ok (.istore 6, 2) := by decide +kernel
theorem d_M_copy_174 : decode prog_8_method_83_code 174 = .ok (.iload 6, 2) := by decide +kernel
theorem d_M_copy_176 : decode prog_8_method_83_code 176 = .ok (.iload 5, 2) := by decide +kernel
theorem d_M_copy_178 : decode prog_8_method_83_code 178 = .ok (.if_icmp .ge 31, 3) := by decide +kernel
theorem d_M_copy_181 : decode prog_8_method_83_code 181 = .ok (.aload_n 0, 1) := by decide +kernel
theorem d_M_copy_182 : decode prog_8_method_83_code 182 = .ok (.getfield 95, 3) := by decide +kernel
theorem d_M_copy_185 : decode prog_8_method_83_code 185 = .ok (.bipush 100, 2) := by decide +kernel
theorem d_M_copy_187 : decode prog_8_method_83_code 187 = .ok (.iload_n 3, 1) := by decide +kernel
theorem d_M_copy_188 : decode prog_8_method_83_code 188 = .ok (.imul, 1) := by decide +kernel
theorem d_M_copy_189 : decode prog_8_method_83_code 189 = .ok (.iload 4, 2) := by decide +kernel
theorem d_M_copy_191 : decode prog_8_method_83_code 191 = .ok (.iadd, 1) := by decide +kernel
theorem d_M_copy_192 : decode prog_8_method_83_code 192 = .ok (.iload 6, 2) := by decide +kernel
theorem d_M_copy_194 : decode prog_8_method_83_code 194 = .ok (.iadd, 1) := by decide +kernel
theorem d_M_copy_195 : decode prog_8_method_83_code 195 = .ok (.aload_n 0, 1) := by decide +kernel
theorem d_M_copy_196 : decode prog_8_method_83_code 196 = .ok (.getfield 99, 3) := by decide +kernel
theorem d_M_copy_199 : decode prog_8_method_83_code 199 = .ok (.iload 6, 2) := by decide +kernel
theorem d_M_copy_201 : decode prog_8_method_83_code 201 = .ok (.laload, 1) := by decide +kernel
theorem d_M_copy_202 : decode prog_8_method_83_code 202 = .ok (.lastore, 1) := by decide +kernel
theorem d_M_copy_203 : decode prog_8_method_83_code 203 = .ok (.iinc 6 1, 3) := by decide +kernel
theorem d_M_copy_206 : decode prog_8_method_83_code 206 = .ok (.goto (-32), 3) := by decide +kernel
theorem d_M_copy_209 : decode prog_8_method_83_code 209 = .ok (.iload 5, 2) := by decide +kernel
theorem d_M_copy_211 : decode prog_8_method_83_code 211 = .ok (.ireturn, 1) := by decide +kernel
set_option maxHeartbeats 4000000 in
set_option maxRecDepth 100000 in
def f_M_copy_L137 (F : Nat) (a0 : Option Nat) (a1 : Int32) (a2 : Int32) (a3 : Int32) (a4 : Int32) (a5 : Int32) (k : Mm → Option (Int32 × Mm)) : Nat → Mm → Int32 → Option (Int32 × Mm)
  | 0, _, _ => none
  | n + 1, u, a6 => (if a5 ≤ a6 then k u  else ob (jgr YM 5 45 a0) fun (r35 : Option Nat) => ob (jgr YM 5 44 a0) fun (r36 : Option Nat) => ob (jll YM u r36 ((((100 : Int32) * a1) + a2) + a6)) fun (z37 : Int64) => ob (jls YM u r35 a6 z37) fun (u38 : Mm) => ob (some (a6 + (1 : Int32))) fun (x39 : Int32) => f_M_copy_L137 F a0 a1 a2 a3 a4 a5 k n u38 x39)
set_option maxHeartbeats 4000000 in
set_option maxRecDepth 100000 in
theorem w_M_copy_L137 {p : Program} {l : Launch} {e : Env} {s : State} {m : MethodId} {args : Array Value} {below : List Frame} {meth : Method} {c : Code} {w : WP} {Q : State → Prop} (F : Nat) (C : yX p e ({ frames := 1, cells := 0, slots := 0, locals := 25 } : Room) s m args c YM w 7 prog_8_method_83_code "WhoseGlassModel") (hr : meth.sig.returnType = (some .int)) (hlocks : meth.locks = false) (a0 : Option Nat) (a1 : Int32) (a2 : Int32) (a3 : Int32) (a4 : Int32) (a5 : Int32) {out : Int32 × Mm} (k : Mm → Option (Int32 × Mm)) (hk : ∀ (u : Mm), k u  = some out → yG p l e ({ frames := 1, cells := 0, slots := 0, locals := 25 } : Room) s m args below meth c YM w 7 Q u 171 [(0, va_re w.1 a0), (3, .int a3), (4, .int a4), (5, .int a5)] []) : ∀ (n : Nat) (u : Mm) (a6 : Int32), f_M_copy_L137 F a0 a1 a2 a3 a4 a5 k n u a6 = some out → yG p l e ({ frames := 1, cells := 0, slots := 0, locals := 25 } : Room) s m args below meth c YM w 7 Q u 137 [(0, va_re w.1 a0), (1, .int a1), (2, .int a2), (3, .int a3), (4, .int a4), (5, .int a5), (6, .int a6)] [] := by
  intro n
  induction n with
  | zero => intro u a6 h; rw [f_M_copy_L137] at h; cases h
  | succ n ih =>
    intro u a6 h
    rw [f_M_copy_L137] at h
    refine y_iload C (i := 6) 6 d_M_copy_137 rfl ?_
    refine y_iload C (i := 5) 5 d_M_copy_139 rfl ?_
    refine y_ic_ge C 171 d_M_copy_141 (by decide) h (fun k34 h => ?_) (fun k34 h => ?_)
    · exact y_sub [0, 3, 4, 5] rfl (hk _ h)
    · refine y_aload_n C (i := 0) 0 d_M_copy_144 rfl rfl ?_
      refine y_gr C (q := (yR5, yT5, 46)) (ci := 5) (k := 45) rfl (by decide) rfl (by decide) g_829 d_M_copy_145 h (fun r35 h => ?_)
      refine y_iload C (i := 6) 6 d_M_copy_148 rfl ?_
      refine y_aload_n C (i := 0) 0 d_M_copy_150 rfl rfl ?_
      refine y_gr C (q := (yR5, yT5, 46)) (ci := 5) (k := 44) rfl (by decide) rfl (by decide) g_828 d_M_copy_151 h (fun r36 h => ?_)
      refine y_bipush C (v := 100) d_M_copy_154 (by decide) ?_
      refine y_iload_n C (i := 1) 1 d_M_copy_156 rfl rfl ?_
      refine y_imul C d_M_copy_157 ?_
      refine y_iload_n C (i := 2) 2 d_M_copy_158 rfl rfl ?_
      refine y_iadd C d_M_copy_159 ?_
      refine y_iload C (i := 6) 6 d_M_copy_160 rfl ?_
      refine y_iadd C d_M_copy_162 ?_
      refine y_ll C d_M_copy_163 h (fun z37 h => ?_)
      refine y_ls C d_M_copy_164 h (fun u38 h => ?_)
      refine y_iinc C (j := 6) (v := 1) (lvp := [(0, va_re w.1 a0), (1, .int a1), (2, .int a2), (3, .int a3), (4, .int a4), (5, .int a5)]) d_M_copy_165 rfl (by decide) (by decide) rfl h (fun x39 h => ?_)
      refine y_goto C (tgt := 137) d_M_copy_168 (by decide) ?_
      exact y_sub [1, 2, 3, 4, 5, 6, 0] rfl (ih _ _ h)
set_option maxHeartbeats 4000000 in
set_option maxRecDepth 100000 in
def f_M_copy_L174 (F : Nat) (a0 : Option Nat) (a3 : Int32) (a4 : Int32) (a5 : Int32) (k : Mm → Option (Int32 × Mm)) : Nat → Mm → Int32 → Option (Int32 × Mm)
  | 0, _, _ => none
  | n + 1, u, a6 => (if a5 ≤ a6 then k u  else ob (jgr YM 5 44 a0) fun (r42 : Option Nat) => ob (jgr YM 5 45 a0) fun (r43 : Option Nat) => ob (jll YM u r43 a6) fun (z44 : Int64) => ob (jls YM u r42 ((((100 : Int32) * a3) + a4) + a6) z44) fun (u45 : Mm) => ob (some (a6 + (1 : Int32))) fun (x46 : Int32) => f_M_copy_L174 F a0 a3 a4 a5 k n u45 x46)
set_option maxHeartbeats 4000000 in
set_option maxRecDepth 100000 in
theorem w_M_copy_L174 {p : Program} {l : Launch} {e : Env} {s : State} {m : MethodId} {args : Array Value} {below : List Frame} {meth : Method} {c : Code} {w : WP} {Q : State → Prop} (F : Nat) (C : yX p e ({ frames := 1, cells := 0, slots := 0, locals := 25 } : Room) s m args c YM w 7 prog_8_method_83_code "WhoseGlassModel") (hr : meth.sig.returnType = (some .int)) (hlocks : meth.locks = false) (a0 : Option Nat) (a3 : Int32) (a4 : Int32) (a5 : Int32) {out : Int32 × Mm} (k : Mm → Option (Int32 × Mm)) (hk : ∀ (u : Mm), k u  = some out → yG p l e ({ frames := 1, cells := 0, slots := 0, locals := 25 } : Room) s m args below meth c YM w 7 Q u 209 [(5, .int a5)] []) : ∀ (n : Nat) (u : Mm) (a6 : Int32), f_M_copy_L174 F a0 a3 a4 a5 k n u a6 = some out → yG p l e ({ frames := 1, cells := 0, slots := 0, locals := 25 } : Room) s m args below meth c YM w 7 Q u 174 [(0, va_re w.1 a0), (3, .int a3), (4, .int a4), (5, .int a5), (6, .int a6)] [] := by
  intro n
  induction n with
  | zero => intro u a6 h; rw [f_M_copy_L174] at h; cases h
  | succ n ih =>
    intro u a6 h
    rw [f_M_copy_L174] at h
    refine y_iload C (i := 6) 4 d_M_copy_174 rfl ?_
    refine y_iload C (i := 5) 3 d_M_copy_176 rfl ?_
    refine y_ic_ge C 209 d_M_copy_178 (by decide) h (fun k41 h => ?_) (fun k41 h => ?_)
    · exact y_sub [3] rfl (hk _ h)
    · refine y_aload_n C (i := 0) 0 d_M_copy_181 rfl rfl ?_
      refine y_gr C (q := (yR5, yT5, 46)) (ci := 5) (k := 44) rfl (by decide) rfl (by decide) g_828 d_M_copy_182 h (fun r42 h => ?_)
      refine y_bipush C (v := 100) d_M_copy_185 (by decide) ?_
      refine y_iload_n C (i := 3) 1 d_M_copy_187 rfl rfl ?_
      refine y_imul C d_M_copy_188 ?_
      refine y_iload C (i := 4) 2 d_M_copy_189 rfl ?_
      refine y_iadd C d_M_copy_191 ?_
      refine y_iload C (i := 6) 4 d_M_copy_192 rfl ?_
      refine y_iadd C d_M_copy_194 ?_
      refine y_aload_n C (i := 0) 0 d_M_copy_195 rfl rfl ?_
      refine y_gr C (q := (yR5, yT5, 46)) (ci := 5) (k := 45) rfl (by decide) rfl (by decide) g_829 d_M_copy_196 h (fun r43 h => ?_)
      refine y_iload C (i := 6) 4 d_M_copy_199 rfl ?_
      refine y_ll C d_M_copy_201 h (fun z44 h => ?_)
      refine y_ls C d_M_copy_202 h (fun u45 h => ?_)
      refine y_iinc C (j := 4) (v := 1) (lvp := [(0, va_re w.1 a0), (3, .int a3), (4, .int a4), (5, .int a5)]) d_M_copy_203 rfl (by decide) (by decide) rfl h (fun x46 h => ?_)
      refine y_goto C (tgt := 174) d_M_copy_206 (by decide) ?_
      exact y_sub [1, 2, 3, 4, 0] rfl (ih _ _ h)
set_option maxRecDepth 100000 in
def f_M_copy (F : Nat) (u : Mm) (o : Nat) (a1 : Int32) (a2 : Int32) (a3 : Int32) (a4 : Int32) (a5 : Int32) : Option (Int32 × Mm) := ob (jpi YM 5 23 u (some o) (0 : Int32)) fun (u1 : Mm) => yb (f_M_in F u1 (a1.toInt64) (0 : Int64) (7 : Int64)) fun x2 u3 => (if x2 = 0 then some ((-1 : Int32), u3) else yb (f_M_in F u3 (a3.toInt64) (0 : Int64) (7 : Int64)) fun x5 u6 => (if x5 = 0 then some ((-1 : Int32), u6) else ob (jgr YM 5 39 (some o)) fun (r8 : Option Nat) => ob (jal YM u6 r8 a1) fun (x9 : Int32) => (if x9 = 0 then some ((-11 : Int32), u6) else ob (jgr YM 5 39 (some o)) fun (r11 : Option Nat) => ob (jal YM u6 r11 a3) fun (x12 : Int32) => (if x12 = 0 then some ((-11 : Int32), u6) else ob (jgr YM 5 39 (some o)) fun (r14 : Option Nat) => ob (jal YM u6 r14 a1) fun (x15 : Int32) => (if x15 = (2 : Int32) then ob (jgr YM 5 39 (some o)) fun (r17 : Option Nat) => ob (jal YM u6 r17 a3) fun (x18 : Int32) => (if x18 = (2 : Int32) then ob (jgr YM 5 42 (some o)) fun (r20 : Option Nat) => ob (jal YM u6 r20 a1) fun (x21 : Int32) => ob (jgr YM 5 42 (some o)) fun (r22 : Option Nat) => ob (jal YM u6 r22 a3) fun (x23 : Int32) => (if x21 = x23 then (if a5 < 0 then some ((-13 : Int32), u6) else (if a2 < 0 then some ((-13 : Int32), u6) else (if a4 < 0 then some ((-13 : Int32), u6) else ob (jgr YM 5 43 (some o)) fun (r28 : Option Nat) => ob (jal YM u6 r28 a1) fun (x29 : Int32) => (if (x29 - a5) < a2 then some ((-13 : Int32), u6) else ob (jgr YM 5 43 (some o)) fun (r31 : Option Nat) => ob (jal YM u6 r31 a3) fun (x32 : Int32) => (if a4 ≤ (x32 - a5) then f_M_copy_L137 F (some o) a1 a2 a3 a4 a5 (fun (u40 : Mm) => f_M_copy_L174 F (some o) a3 a4 a5 (fun (u47 : Mm) => some (a5, u47)) F u40 (0 : Int32)) F u6 (0 : Int32) else some ((-13 : Int32), u6)))))) else some ((-12 : Int32), u6)) else some ((-12 : Int32), u6)) else some ((-12 : Int32), u6))))))
set_option maxHeartbeats 4000000 in
set_option maxRecDepth 100000 in
theorem c_M_copy (l : Launch) (w : WP) (F : Nat) (u : Mm) (o : Nat) (a1 : Int32) (a2 : Int32) (a3 : Int32) (a4 : Int32) (a5 : Int32) (out : Int32 × Mm) (h : f_M_copy F u o a1 a2 a3 a4 a5 = some out) : yMet l m_M_copy ws_M_copy ({ frames := 1, cells := 0, slots := 0, locals := 25 } : Room) YM w u [va_re w.1 (some o), .int a1, .int a2, .int a3, .int a4, .int a5] yfi out := by
  refine y_entry (own := "WhoseGlassModel") (lv := [(0, va_re w.1 (some o)), (1, .int a1), (2, .int a2), (3, .int a3), (4, .int a4), (5, .int a5)]) (by decide +kernel) rfl (by simp [lv_args, y_cat, y_catI, y_catJ]) (by simp [lg_sl, y_cat, y_catI, y_catJ]) ?_
  intro p e s m args below meth c C hr hlocks
  unfold f_M_copy at h
  refine y_aload_n C (i := 0) 0 d_M_copy_0 rfl rfl ?_
  refine y_iconst C (v := 0) d_M_copy_1 (by decide) ?_
  refine y_pi C (q := (yR5, yT5, 46)) (ci := 5) (k := 23) rfl (by decide) rfl rfl (by decide +kernel) g_807 d_M_copy_2 h (fun u1 h => ?_)
  refine y_iload_n C (i := 1) 1 d_M_copy_5 rfl rfl ?_
  refine y_i2l C d_M_copy_6 ?_
  refine y_lconst C (v := 0) d_M_copy_7 (by decide) ?_
  refine y_ldc2 C d_M_copy_8 g_956 ?_
  refine y_callS 3 C (fun out hh => c_M_in l w F u1 (a1.toInt64) (0 : Int64) (7 : Int64) out hh) (y_gc g_959) g_957 g_6 g_958 hn_M_in ⟨Nat.le_of_ble_eq_true rfl, Nat.le_of_ble_eq_true rfl⟩ rfl rfl rfl rfl (by simp [y_cat, y_catI, y_catJ]) d_M_copy_11 h (fun x2 u3 h => ?_)
  refine y_stk (stp0 := [.int x2]) rfl ?_
  refine y_if_eq C 29 d_M_copy_14 (by decide) h (fun k4 h => ?_) (fun k4 h => ?_)
  · refine y_iconst C (v := -1) d_M_copy_29 (by decide) ?_
    exact y_iret C hr hlocks d_M_copy_30 h
  · refine y_iload_n C (i := 3) 3 d_M_copy_17 rfl rfl ?_
    refine y_i2l C d_M_copy_18 ?_
    refine y_lconst C (v := 0) d_M_copy_19 (by decide) ?_
    refine y_ldc2 C d_M_copy_20 g_956 ?_
    refine y_callS 3 C (fun out hh => c_M_in l w F u3 (a3.toInt64) (0 : Int64) (7 : Int64) out hh) (y_gc g_959) g_957 g_6 g_958 hn_M_in ⟨Nat.le_of_ble_eq_true rfl, Nat.le_of_ble_eq_true rfl⟩ rfl rfl rfl rfl (by simp [y_cat, y_catI, y_catJ]) d_M_copy_23 h (fun x5 u6 h => ?_)
    refine y_stk (stp0 := [.int x5]) rfl ?_
    refine y_if_ne C 31 d_M_copy_26 (by decide) h (fun k7 h => ?_) (fun k7 h => ?_)
    · refine y_iconst C (v := -1) d_M_copy_29 (by decide) ?_
      exact y_iret C hr hlocks d_M_copy_30 h
    · refine y_aload_n C (i := 0) 0 d_M_copy_31 rfl rfl ?_
      refine y_gr C (q := (yR5, yT5, 46)) (ci := 5) (k := 39) rfl (by decide) rfl (by decide) g_823 d_M_copy_32 h (fun r8 h => ?_)
      refine y_iload_n C (i := 1) 1 d_M_copy_35 rfl rfl ?_
      refine y_al C d_M_copy_36 h (fun x9 h => ?_)
      refine y_if_eq C 49 d_M_copy_37 (by decide) h (fun k10 h => ?_) (fun k10 h => ?_)
      · refine y_bipush C (v := -11) d_M_copy_49 (by decide) ?_
        exact y_iret C hr hlocks d_M_copy_51 h
      · refine y_aload_n C (i := 0) 0 d_M_copy_40 rfl rfl ?_
        refine y_gr C (q := (yR5, yT5, 46)) (ci := 5) (k := 39) rfl (by decide) rfl (by decide) g_823 d_M_copy_41 h (fun r11 h => ?_)
        refine y_iload_n C (i := 3) 3 d_M_copy_44 rfl rfl ?_
        refine y_al C d_M_copy_45 h (fun x12 h => ?_)
        refine y_if_ne C 52 d_M_copy_46 (by decide) h (fun k13 h => ?_) (fun k13 h => ?_)
        · refine y_bipush C (v := -11) d_M_copy_49 (by decide) ?_
          exact y_iret C hr hlocks d_M_copy_51 h
        · refine y_aload_n C (i := 0) 0 d_M_copy_52 rfl rfl ?_
          refine y_gr C (q := (yR5, yT5, 46)) (ci := 5) (k := 39) rfl (by decide) rfl (by decide) g_823 d_M_copy_53 h (fun r14 h => ?_)
          refine y_iload_n C (i := 1) 1 d_M_copy_56 rfl rfl ?_
          refine y_al C d_M_copy_57 h (fun x15 h => ?_)
          refine y_iconst C (v := 2) d_M_copy_58 (by decide) ?_
          refine y_ic_ne C 87 d_M_copy_59 (by decide) h (fun k16 h => ?_) (fun k16 h => ?_)
          · refine y_aload_n C (i := 0) 0 d_M_copy_62 rfl rfl ?_
            refine y_gr C (q := (yR5, yT5, 46)) (ci := 5) (k := 39) rfl (by decide) rfl (by decide) g_823 d_M_copy_63 h (fun r17 h => ?_)
            refine y_iload_n C (i := 3) 3 d_M_copy_66 rfl rfl ?_
            refine y_al C d_M_copy_67 h (fun x18 h => ?_)
            refine y_iconst C (v := 2) d_M_copy_68 (by decide) ?_
            refine y_ic_ne C 87 d_M_copy_69 (by decide) h (fun k19 h => ?_) (fun k19 h => ?_)
            · refine y_aload_n C (i := 0) 0 d_M_copy_72 rfl rfl ?_
              refine y_gr C (q := (yR5, yT5, 46)) (ci := 5) (k := 42) rfl (by decide) rfl (by decide) g_826 d_M_copy_73 h (fun r20 h => ?_)
              refine y_iload_n C (i := 1) 1 d_M_copy_76 rfl rfl ?_
              refine y_al C d_M_copy_77 h (fun x21 h => ?_)
              refine y_aload_n C (i := 0) 0 d_M_copy_78 rfl rfl ?_
              refine y_gr C (q := (yR5, yT5, 46)) (ci := 5) (k := 42) rfl (by decide) rfl (by decide) g_826 d_M_copy_79 h (fun r22 h => ?_)
              refine y_iload_n C (i := 3) 3 d_M_copy_82 rfl rfl ?_
              refine y_al C d_M_copy_83 h (fun x23 h => ?_)
              refine y_ic_eq C 90 d_M_copy_84 (by decide) h (fun k24 h => ?_) (fun k24 h => ?_)
              · refine y_iload C (i := 5) 5 d_M_copy_90 rfl ?_
                refine y_if_lt C 131 d_M_copy_92 (by decide) h (fun k25 h => ?_) (fun k25 h => ?_)
                · refine y_bipush C (v := -13) d_M_copy_131 (by decide) ?_
                  exact y_iret C hr hlocks d_M_copy_133 h
                · refine y_iload_n C (i := 2) 2 d_M_copy_95 rfl rfl ?_
                  refine y_if_lt C 131 d_M_copy_96 (by decide) h (fun k26 h => ?_) (fun k26 h => ?_)
                  · refine y_bipush C (v := -13) d_M_copy_131 (by decide) ?_
                    exact y_iret C hr hlocks d_M_copy_133 h
                  · refine y_iload C (i := 4) 4 d_M_copy_99 rfl ?_
                    refine y_if_lt C 131 d_M_copy_101 (by decide) h (fun k27 h => ?_) (fun k27 h => ?_)
                    · refine y_bipush C (v := -13) d_M_copy_131 (by decide) ?_
                      exact y_iret C hr hlocks d_M_copy_133 h
                    · refine y_iload_n C (i := 2) 2 d_M_copy_104 rfl rfl ?_
                      refine y_aload_n C (i := 0) 0 d_M_copy_105 rfl rfl ?_
                      refine y_gr C (q := (yR5, yT5, 46)) (ci := 5) (k := 43) rfl (by decide) rfl (by decide) g_827 d_M_copy_106 h (fun r28 h => ?_)
                      refine y_iload_n C (i := 1) 1 d_M_copy_109 rfl rfl ?_
                      refine y_al C d_M_copy_110 h (fun x29 h => ?_)
                      refine y_iload C (i := 5) 5 d_M_copy_111 rfl ?_
                      refine y_isub C d_M_copy_113 ?_
                      refine y_ic_gt C 131 d_M_copy_114 (by decide) h (fun k30 h => ?_) (fun k30 h => ?_)
                      · refine y_bipush C (v := -13) d_M_copy_131 (by decide) ?_
                        exact y_iret C hr hlocks d_M_copy_133 h
                      · refine y_iload C (i := 4) 4 d_M_copy_117 rfl ?_
                        refine y_aload_n C (i := 0) 0 d_M_copy_119 rfl rfl ?_
                        refine y_gr C (q := (yR5, yT5, 46)) (ci := 5) (k := 43) rfl (by decide) rfl (by decide) g_827 d_M_copy_120 h (fun r31 h => ?_)
                        refine y_iload_n C (i := 3) 3 d_M_copy_123 rfl rfl ?_
                        refine y_al C d_M_copy_124 h (fun x32 h => ?_)
                        refine y_iload C (i := 5) 5 d_M_copy_125 rfl ?_
                        refine y_isub C d_M_copy_127 ?_
                        refine y_ic_le C 134 d_M_copy_128 (by decide) h (fun k33 h => ?_) (fun k33 h => ?_)
                        · refine y_iconst C (v := 0) d_M_copy_134 (by decide) ?_
                          refine y_istore C (i := 6) (lvp := [(0, va_re w.1 (some o)), (1, .int a1), (2, .int a2), (3, .int a3), (4, .int a4), (5, .int a5)]) d_M_copy_135 (by decide) rfl ?_
                          refine y_sub [1, 2, 3, 4, 5, 6, 0] rfl (w_M_copy_L137 F C hr hlocks _ _ _ _ _ _ _ (fun u40 h => ?_) _ _ _ h)
                          refine y_iconst C (v := 0) d_M_copy_171 (by decide) ?_
                          refine y_istore C (i := 6) (lvp := [(0, va_re w.1 (some o)), (3, .int a3), (4, .int a4), (5, .int a5)]) d_M_copy_172 (by decide) rfl ?_
                          refine y_sub [1, 2, 3, 4, 0] rfl (w_M_copy_L174 F C hr hlocks _ _ _ _ _ (fun u47 h => ?_) _ _ _ h)
                          refine y_iload C (i := 5) 0 d_M_copy_209 rfl ?_
                          exact y_iret C hr hlocks d_M_copy_211 h
                        · refine y_bipush C (v := -13) d_M_copy_131 (by decide) ?_
                          exact y_iret C hr hlocks d_M_copy_133 h
              · refine y_bipush C (v := -12) d_M_copy_87 (by decide) ?_
                exact y_iret C hr hlocks d_M_copy_89 h
            · refine y_bipush C (v := -12) d_M_copy_87 (by decide) ?_
              exact y_iret C hr hlocks d_M_copy_89 h
          · refine y_bipush C (v := -12) d_M_copy_87 (by decide) ?_
            exact y_iret C hr hlocks d_M_copy_89 h
/-! M_costOf -/
theorem d_M_costOf_0 : decode prog_8_method_84_code 0 = .ok (.iload_n 0, 1) := by decide +kernel
theorem d_M_costOf_1 : decode prog_8_method_84_code 1 = .ok (.tableswitch 63 0 6 #[43, 45, 49, 51, 53, 56, 61], 43) := by decide +kernel
theorem d_M_costOf_44 : decode prog_8_method_84_code 44 = .ok (.iconst 2, 1) := by decide +kernel
theorem d_M_costOf_45 : decode prog_8_method_84_code 45 = .ok (.ireturn, 1) := by decide +kernel
theorem d_M_costOf_46 : decode prog_8_method_84_code 46 = .ok (.iconst 2, 1) := by decide +kernel
theorem d_M_costOf_47 : decode prog_8_method_84_code 47 = .ok (.iload_n 1, 1) := by decide +kernel
theorem d_M_costOf_48 : decode prog_8_method_84_code 48 = .ok (.iadd, 1) := by decide +kernel
theorem d_M_costOf_49 : decode prog_8_method_84_code 49 = .ok (.ireturn, 1) := by decide +kernel
theorem d_M_costOf_50 : decode prog_8_method_84_code 50 = .ok (.iconst 3, 1) := by decide +kernel
theorem d_M_costOf_51 : decode prog_8_method_84_code 51 = .ok (.ireturn, 1) := by decide +kernel
theorem d_M_costOf_52 : decode prog_8_method_84_code 52 = .ok (.iconst 4, 1) := by decide +kernel
theorem d_M_costOf_53 : decode prog_8_method_84_code 53 = .ok (.ireturn, 1) := by decide +kernel
theorem d_M_costOf_54 : decode prog_8_method_84_code 54 = .ok (.bipush 6, 2) := by decide +kernel
theorem d_M_costOf_56 : decode prog_8_method_84_code 56 = .ok (.ireturn, 1) := by decide +kernel
theorem d_M_costOf_57 : decode prog_8_method_84_code 57 = .ok (.bipush 11, 2) := by decide +kernel
theorem d_M_costOf_59 : decode prog_8_method_84_code 59 = .ok (.iload_n 1, 1) := by decide +kernel
theorem d_M_costOf_60 : decode prog_8_method_84_code 60 = .ok (.iadd, 1) := by decide +kernel
theorem d_M_costOf_61 : decode prog_8_method_84_code 61 = .ok (.ireturn, 1) := by decide +kernel
theorem d_M_costOf_62 : decode prog_8_method_84_code 62 = .ok (.iconst 3, 1) := by decide +kernel
theorem d_M_costOf_63 : decode prog_8_method_84_code 63 = .ok (.ireturn, 1) := by decide +kernel
theorem d_M_costOf_64 : decode prog_8_method_84_code 64 = .ok (.iconst 4, 1) := by decide +kernel
theorem d_M_costOf_65 : decode prog_8_method_84_code 65 = .ok (.iload_n 1, 1) := by decide +kernel
theorem d_M_costOf_66 : decode prog_8_method_84_code 66 = .ok (.iconst 1, 1) := by decide +kernel
theorem d_M_costOf_67 : decode prog_8_method_84_code 67 = .ok (.iadd, 1) := by decide +kernel
theorem d_M_costOf_68 : decode prog_8_method_84_code 68 = .ok (.imul, 1) := by decide +kernel
theorem d_M_costOf_69 : decode prog_8_method_84_code 69 = .ok (.ireturn, 1) := by decide +kernel
set_option maxRecDepth 100000 in
def f_M_costOf (F : Nat) (u : Mm) (a0 : Int32) (a1 : Int32) : Option (Int32 × Mm) := (if a0 = (0 : Int32) then some ((2 : Int32), u) else (if a0 = (1 : Int32) then some (((2 : Int32) + a1), u) else (if a0 = (2 : Int32) then some ((3 : Int32), u) else (if a0 = (3 : Int32) then some ((4 : Int32), u) else (if a0 = (4 : Int32) then some ((6 : Int32), u) else (if a0 = (5 : Int32) then some (((11 : Int32) + a1), u) else (if a0 = (6 : Int32) then some ((3 : Int32), u) else some (((4 : Int32) * (a1 + (1 : Int32))), u))))))))
set_option maxHeartbeats 4000000 in
set_option maxRecDepth 100000 in
theorem c_M_costOf (l : Launch) (w : WP) (F : Nat) (u : Mm) (a0 : Int32) (a1 : Int32) (out : Int32 × Mm) (h : f_M_costOf F u a0 a1 = some out) : yMet l m_M_costOf ws_M_costOf ({ frames := 0, cells := 0, slots := 0, locals := 0 } : Room) YM w u [.int a0, .int a1] yfi out := by
  refine y_entry (own := "WhoseGlassModel") (lv := [(0, .int a0), (1, .int a1)]) (by decide +kernel) rfl (by simp [lv_args, y_cat, y_catI, y_catJ]) (by simp [lg_sl, y_cat, y_catI, y_catJ]) ?_
  intro p e s m args below meth c C hr hlocks
  unfold f_M_costOf at h
  refine y_iload_n C (i := 0) 0 d_M_costOf_0 rfl rfl ?_
  refine y_sp h (fun k1 h => ?_) (fun k1 h => ?_)
  · refine y_tsw C (off := 43) 44 d_M_costOf_1 (Or.inr ⟨by rw [k1]; decide, by rw [k1]; decide, by rw [k1]; rfl⟩) (by decide) ?_
    refine y_iconst C (v := 2) d_M_costOf_44 (by decide) ?_
    exact y_iret C hr hlocks d_M_costOf_45 h
  refine y_sp h (fun k2 h => ?_) (fun k2 h => ?_)
  · refine y_tsw C (off := 45) 46 d_M_costOf_1 (Or.inr ⟨by rw [k2]; decide, by rw [k2]; decide, by rw [k2]; rfl⟩) (by decide) ?_
    refine y_iconst C (v := 2) d_M_costOf_46 (by decide) ?_
    refine y_iload_n C (i := 1) 1 d_M_costOf_47 rfl rfl ?_
    refine y_iadd C d_M_costOf_48 ?_
    exact y_iret C hr hlocks d_M_costOf_49 h
  refine y_sp h (fun k3 h => ?_) (fun k3 h => ?_)
  · refine y_tsw C (off := 49) 50 d_M_costOf_1 (Or.inr ⟨by rw [k3]; decide, by rw [k3]; decide, by rw [k3]; rfl⟩) (by decide) ?_
    refine y_iconst C (v := 3) d_M_costOf_50 (by decide) ?_
    exact y_iret C hr hlocks d_M_costOf_51 h
  refine y_sp h (fun k4 h => ?_) (fun k4 h => ?_)
  · refine y_tsw C (off := 51) 52 d_M_costOf_1 (Or.inr ⟨by rw [k4]; decide, by rw [k4]; decide, by rw [k4]; rfl⟩) (by decide) ?_
    refine y_iconst C (v := 4) d_M_costOf_52 (by decide) ?_
    exact y_iret C hr hlocks d_M_costOf_53 h
  refine y_sp h (fun k5 h => ?_) (fun k5 h => ?_)
  · refine y_tsw C (off := 53) 54 d_M_costOf_1 (Or.inr ⟨by rw [k5]; decide, by rw [k5]; decide, by rw [k5]; rfl⟩) (by decide) ?_
    refine y_bipush C (v := 6) d_M_costOf_54 (by decide) ?_
    exact y_iret C hr hlocks d_M_costOf_56 h
  refine y_sp h (fun k6 h => ?_) (fun k6 h => ?_)
  · refine y_tsw C (off := 56) 57 d_M_costOf_1 (Or.inr ⟨by rw [k6]; decide, by rw [k6]; decide, by rw [k6]; rfl⟩) (by decide) ?_
    refine y_bipush C (v := 11) d_M_costOf_57 (by decide) ?_
    refine y_iload_n C (i := 1) 1 d_M_costOf_59 rfl rfl ?_
    refine y_iadd C d_M_costOf_60 ?_
    exact y_iret C hr hlocks d_M_costOf_61 h
  refine y_sp h (fun k7 h => ?_) (fun k7 h => ?_)
  · refine y_tsw C (off := 61) 62 d_M_costOf_1 (Or.inr ⟨by rw [k7]; decide, by rw [k7]; decide, by rw [k7]; rfl⟩) (by decide) ?_
    refine y_iconst C (v := 3) d_M_costOf_62 (by decide) ?_
    exact y_iret C hr hlocks d_M_costOf_63 h
  refine y_tsw C (off := 63) 64 d_M_costOf_1 (Or.inl ⟨by have ak1 := lv_neT (a := 0) k1 rfl; have ak2 := lv_neT (a := 1) k2 rfl; have ak3 := lv_neT (a := 2) k3 rfl; have ak4 := lv_neT (a := 3) k4 rfl; have ak5 := lv_neT (a := 4) k5 rfl; have ak6 := lv_neT (a := 5) k6 rfl; have ak7 := lv_neT (a := 6) k7 rfl; omega, rfl⟩) (by decide) ?_
  refine y_iconst C (v := 4) d_M_costOf_64 (by decide) ?_
  refine y_iload_n C (i := 1) 1 d_M_costOf_65 rfl rfl ?_
  refine y_iconst C (v := 1) d_M_costOf_66 (by decide) ?_
  refine y_iadd C d_M_costOf_67 ?_
  refine y_imul C d_M_costOf_68 ?_
  exact y_iret C hr hlocks d_M_costOf_69 h
/-! M_cost -/
theorem d_M_cost_0 : decode prog_8_method_85_code 0 = .ok (.aload_n 0, 1) := by decide +kernel
theorem d_M_cost_1 : decode prog_8_method_85_code 1 = .ok (.iconst 0, 1) := by decide +kernel
theorem d_M_cost_2 : decode prog_8_method_85_code 2 = .ok (.putfield 102, 3) := by decide +kernel
theorem d_M_cost_5 : decode prog_8_method_85_code 5 = .ok (.aload_n 0, 1) := by decide +kernel
theorem d_M_cost_6 : decode prog_8_method_85_code 6 = .ok (.iload_n 1, 1) := by decide +kernel
theorem d_M_cost_7 : decode prog_8_method_85_code 7 = .ok (.invokevirtual 268, 3) := by decide +kernel
theorem d_M_cost_10 : decode prog_8_method_85_code 10 = .ok (.ifCond .ge 11, 3) := by decide +kernel
theorem d_M_cost_13 : decode prog_8_method_85_code 13 = .ok (.aload_n 0, 1) := by decide +kernel
theorem d_M_cost_14 : decode prog_8_method_85_code 14 = .ok (.iload_n 1, 1) := by decide +kernel
theorem d_M_cost_15 : decode prog_8_method_85_code 15 = .ok (.invokevirtual 268, 3) := by decide +kernel
theorem d_M_cost_18 : decode prog_8_method_85_code 18 = .ok (.goto 18, 3) := by decide +kernel
theorem d_M_cost_21 : decode prog_8_method_85_code 21 = .ok (.aload_n 0, 1) := by decide +kernel
theorem d_M_cost_22 : decode prog_8_method_85_code 22 = .ok (.getfield 83, 3) := by decide +kernel
theorem d_M_cost_25 : decode prog_8_method_85_code 25 = .ok (.iload_n 1, 1) := by decide +kernel
theorem d_M_cost_26 : decode prog_8_method_85_code 26 = .ok (.iaload, 1) := by decide +kernel
theorem d_M_cost_27 : decode prog_8_method_85_code 27 = .ok (.aload_n 0, 1) := by decide +kernel
theorem d_M_cost_28 : decode prog_8_method_85_code 28 = .ok (.getfield 86, 3) := by decide +kernel
theorem d_M_cost_31 : decode prog_8_method_85_code 31 = .ok (.iload_n 1, 1) := by decide +kernel
theorem d_M_cost_32 : decode prog_8_method_85_code 32 = .ok (.iaload, 1) := by decide +kernel
theorem d_M_cost_33 : decode prog_8_method_85_code 33 = .ok (.invokestatic 327, 3) := by decide +kernel
theorem d_M_cost_36 : decode prog_8_method_85_code 36 = .ok (.ireturn, 1) := by decide +kernel
theorem gc_M_cost_268 : GoodIn yGW (wsV "WhoseGlassModel" 268 yR5 m_M_wrongKept ws_M_wrongKept) := y_gV g_1088 g_1090 gs_42 g_6 g_1091
set_option maxRecDepth 100000 in
def f_M_cost (F : Nat) (u : Mm) (o : Nat) (a1 : Int32) : Option (Int32 × Mm) := ob (jpi YM 5 23 u (some o) (0 : Int32)) fun (u1 : Mm) => ob (jk YM 5 (some o)) fun t => yb (f_M_wrongKept F u1 t a1) fun x2 u3 => (if 0 ≤ x2 then ob (jgr YM 5 40 (some o)) fun (r5 : Option Nat) => ob (jal YM u3 r5 a1) fun (x6 : Int32) => ob (jgr YM 5 41 (some o)) fun (r7 : Option Nat) => ob (jal YM u3 r7 a1) fun (x8 : Int32) => yb (f_M_costOf F u3 x6 x8) fun x9 u10 => some (x9, u10) else ob (jk YM 5 (some o)) fun t => yb (f_M_wrongKept F u3 t a1) fun x11 u12 => some (x11, u12))
set_option maxHeartbeats 4000000 in
set_option maxRecDepth 100000 in
theorem c_M_cost (l : Launch) (w : WP) (F : Nat) (u : Mm) (o : Nat) (a1 : Int32) (out : Int32 × Mm) (h : f_M_cost F u o a1 = some out) : yMet l m_M_cost ws_M_cost ({ frames := 2, cells := 0, slots := 0, locals := 46 } : Room) YM w u [va_re w.1 (some o), .int a1] yfi out := by
  refine y_entry (own := "WhoseGlassModel") (lv := [(0, va_re w.1 (some o)), (1, .int a1)]) (by decide +kernel) rfl (by simp [lv_args, y_cat, y_catI, y_catJ]) (by simp [lg_sl, y_cat, y_catI, y_catJ]) ?_
  intro p e s m args below meth c C hr hlocks
  unfold f_M_cost at h
  refine y_aload_n C (i := 0) 0 d_M_cost_0 rfl rfl ?_
  refine y_iconst C (v := 0) d_M_cost_1 (by decide) ?_
  refine y_pi C (q := (yR5, yT5, 46)) (ci := 5) (k := 23) rfl (by decide) rfl rfl (by decide +kernel) g_807 d_M_cost_2 h (fun u1 h => ?_)
  refine y_aload_n C (i := 0) 0 d_M_cost_5 rfl rfl ?_
  refine y_iload_n C (i := 1) 1 d_M_cost_6 rfl rfl ?_
  refine y_callV 1 C (q := (yR5, yT5, 46)) (ci := 5) (fun t out hh => c_M_wrongKept l w F u1 t a1 out hh) gc_M_cost_268 rfl (by decide) hd_M_wrongKept ⟨Nat.le_of_ble_eq_true rfl, Nat.le_of_ble_eq_true rfl⟩ rfl rfl rfl rfl (by simp [y_cat, y_catI, y_catJ]) d_M_cost_7 h (fun x2 u3 h => ?_)
  refine y_stk (stp0 := [.int x2]) rfl ?_
  refine y_if_ge C 21 d_M_cost_10 (by decide) h (fun k4 h => ?_) (fun k4 h => ?_)
  · refine y_aload_n C (i := 0) 0 d_M_cost_21 rfl rfl ?_
    refine y_gr C (q := (yR5, yT5, 46)) (ci := 5) (k := 40) rfl (by decide) rfl (by decide) g_824 d_M_cost_22 h (fun r5 h => ?_)
    refine y_iload_n C (i := 1) 1 d_M_cost_25 rfl rfl ?_
    refine y_al C d_M_cost_26 h (fun x6 h => ?_)
    refine y_aload_n C (i := 0) 0 d_M_cost_27 rfl rfl ?_
    refine y_gr C (q := (yR5, yT5, 46)) (ci := 5) (k := 41) rfl (by decide) rfl (by decide) g_825 d_M_cost_28 h (fun r7 h => ?_)
    refine y_iload_n C (i := 1) 1 d_M_cost_31 rfl rfl ?_
    refine y_al C d_M_cost_32 h (fun x8 h => ?_)
    refine y_callS 2 C (fun out hh => c_M_costOf l w F u3 x6 x8 out hh) (y_gc g_1270) g_1268 g_6 g_1269 hn_M_costOf ⟨Nat.le_of_ble_eq_true rfl, Nat.le_of_ble_eq_true rfl⟩ rfl rfl rfl rfl (by simp [y_cat, y_catI, y_catJ]) d_M_cost_33 h (fun x9 u10 h => ?_)
    refine y_stk (stp0 := [.int x9]) rfl ?_
    exact y_iret C hr hlocks d_M_cost_36 h
  · refine y_aload_n C (i := 0) 0 d_M_cost_13 rfl rfl ?_
    refine y_iload_n C (i := 1) 1 d_M_cost_14 rfl rfl ?_
    refine y_callV 1 C (q := (yR5, yT5, 46)) (ci := 5) (fun t out hh => c_M_wrongKept l w F u3 t a1 out hh) gc_M_cost_268 rfl (by decide) hd_M_wrongKept ⟨Nat.le_of_ble_eq_true rfl, Nat.le_of_ble_eq_true rfl⟩ rfl rfl rfl rfl (by simp [y_cat, y_catI, y_catJ]) d_M_cost_15 h (fun x11 u12 h => ?_)
    refine y_stk (stp0 := [.int x11]) rfl ?_
    refine y_goto C (tgt := 36) d_M_cost_18 (by decide) ?_
    exact y_iret C hr hlocks d_M_cost_36 h
/-! M_toss -/
theorem d_M_toss_0 : decode prog_8_method_86_code 0 = .ok (.aload_n 0, 1) := by decide +kernel
theorem d_M_toss_1 : decode prog_8_method_86_code 1 = .ok (.iconst 0, 1) := by decide +kernel
theorem d_M_toss_2 : decode prog_8_method_86_code 2 = .ok (.putfield 102, 3) := by decide +kernel
theorem d_M_toss_5 : decode prog_8_method_86_code 5 = .ok (.aload_n 0, 1) := by decide +kernel
theorem d_M_toss_6 : decode prog_8_method_86_code 6 = .ok (.iload_n 1, 1) := by decide +kernel
theorem d_M_toss_7 : decode prog_8_method_86_code 7 = .ok (.invokevirtual 268, 3) := by decide +kernel
theorem d_M_toss_10 : decode prog_8_method_86_code 10 = .ok (.ifCond .ge 9, 3) := by decide +kernel
theorem d_M_toss_13 : decode prog_8_method_86_code 13 = .ok (.aload_n 0, 1) := by decide +kernel
theorem d_M_toss_14 : decode prog_8_method_86_code 14 = .ok (.iload_n 1, 1) := by decide +kernel
theorem d_M_toss_15 : decode prog_8_method_86_code 15 = .ok (.invokevirtual 268, 3) := by decide +kernel
theorem d_M_toss_18 : decode prog_8_method_86_code 18 = .ok (.ireturn, 1) := by decide +kernel
theorem d_M_toss_19 : decode prog_8_method_86_code 19 = .ok (.aload_n 0, 1) := by decide +kernel
theorem d_M_toss_20 : decode prog_8_method_86_code 20 = .ok (.getfield 83, 3) := by decide +kernel
theorem d_M_toss_23 : decode prog_8_method_86_code 23 = .ok (.iload_n 1, 1) := by decide +kernel
theorem d_M_toss_24 : decode prog_8_method_86_code 24 = .ok (.iaload, 1) := by decide +kernel
theorem d_M_toss_25 : decode prog_8_method_86_code 25 = .ok (.istore_n 2, 1) := by decide +kernel
theorem d_M_toss_26 : decode prog_8_method_86_code 26 = .ok (.aload_n 0, 1) := by decide +kernel
theorem d_M_toss_27 : decode prog_8_method_86_code 27 = .ok (.getfield 86, 3) := by decide +kernel
theorem d_M_toss_30 : decode prog_8_method_86_code 30 = .ok (.iload_n 1, 1) := by decide +kernel
theorem d_M_toss_31 : decode prog_8_method_86_code 31 = .ok (.iaload, 1) := by decide +kernel
theorem d_M_toss_32 : decode prog_8_method_86_code 32 = .ok (.istore_n 3, 1) := by decide +kernel
theorem d_M_toss_33 : decode prog_8_method_86_code 33 = .ok (.iload_n 2, 1) := by decide +kernel
theorem d_M_toss_34 : decode prog_8_method_86_code 34 = .ok (.iconst 4, 1) := by decide +kernel
theorem d_M_toss_35 : decode prog_8_method_86_code 35 = .ok (.if_icmp .eq 7, 3) := by decide +kernel
theorem d_M_toss_38 : decode prog_8_method_86_code 38 = .ok (.iload_n 3, 1) := by decide +kernel
theorem d_M_toss_39 : decode prog_8_method_86_code 39 = .ok (.ifCond .ne 6, 3) := by decide +kernel
theorem d_M_toss_42 : decode prog_8_method_86_code 42 = .ok (.bipush (-15), 2) := by decide +kernel
theorem d_M_toss_44 : decode prog_8_method_86_code 44 = .ok (.ireturn, 1) := by decide +kernel
theorem d_M_toss_45 : decode prog_8_method_86_code 45 = .ok (.iload_n 2, 1) := by decide +kernel
theorem d_M_toss_46 : decode prog_8_method_86_code 46 = .ok (.iconst 3, 1) := by decide +kernel
theorem d_M_toss_47 : decode prog_8_method_86_code 47 = .ok (.if_icmp .ne 10, 3) := by decide +kernel
theorem d_M_toss_50 : decode prog_8_method_86_code 50 = .ok (.bipush 100, 2) := by decide +kernel
theorem d_M_toss_52 : decode prog_8_method_86_code 52 = .ok (.iload_n 3, 1) := by decide +kernel
theorem d_M_toss_53 : decode prog_8_method_86_code 53 = .ok (.iadd, 1) := by decide +kernel
theorem d_M_toss_54 : decode prog_8_method_86_code 54 = .ok (.goto 21, 3) := by decide +kernel
theorem d_M_toss_57 : decode prog_8_method_86_code 57 = .ok (.iload_n 2, 1) := by decide +kernel
theorem d_M_toss_58 : decode prog_8_method_86_code 58 = .ok (.iconst 5, 1) := by decide +kernel
theorem d_M_toss_59 : decode prog_8_method_86_code 59 = .ok (.if_icmp .ne 15, 3) := by decide +kernel
theorem d_M_toss_62 : decode prog_8_method_86_code 62 = .ok (.sipush 200, 3) := by decide +kernel
theorem d_M_toss_65 : decode prog_8_method_86_code 65 = .ok (.iload_n 2, 1) := by decide +kernel
theorem d_M_toss_66 : decode prog_8_method_86_code 66 = .ok (.iload_n 3, 1) := by decide +kernel
theorem d_M_toss_67 : decode prog_8_method_86_code 67 = .ok (.invokestatic 327, 3) := by decide +kernel
theorem d_M_toss_70 : decode prog_8_method_86_code 70 = .ok (.iadd, 1) := by decide +kernel
theorem d_M_toss_71 : decode prog_8_method_86_code 71 = .ok (.goto 4, 3) := by decide +kernel
theorem d_M_toss_74 : decode prog_8_method_86_code 74 = .ok (.iload_n 3, 1) := by decide +kernel
theorem d_M_toss_75 : decode prog_8_method_86_code 75 = .ok (.ireturn, 1) := by decide +kernel
theorem gc_M_toss_268 : GoodIn yGW (wsV "WhoseGlassModel" 268 yR5 m_M_wrongKept ws_M_wrongKept) := y_gV g_1088 g_1090 gs_42 g_6 g_1091
set_option maxRecDepth 100000 in
def f_M_toss (F : Nat) (u : Mm) (o : Nat) (a1 : Int32) : Option (Int32 × Mm) := ob (jpi YM 5 23 u (some o) (0 : Int32)) fun (u1 : Mm) => ob (jk YM 5 (some o)) fun t => yb (f_M_wrongKept F u1 t a1) fun x2 u3 => (if 0 ≤ x2 then ob (jgr YM 5 40 (some o)) fun (r5 : Option Nat) => ob (jal YM u3 r5 a1) fun (x6 : Int32) => ob (jgr YM 5 41 (some o)) fun (r7 : Option Nat) => ob (jal YM u3 r7 a1) fun (x8 : Int32) => (if x6 = (4 : Int32) then some ((-15 : Int32), u3) else (if x8 = 0 then some ((-15 : Int32), u3) else (if x6 = (3 : Int32) then some (((100 : Int32) + x8), u3) else (if x6 = (5 : Int32) then yb (f_M_costOf F u3 x6 x8) fun x13 u14 => some (((200 : Int32) + x13), u14) else some (x8, u3))))) else ob (jk YM 5 (some o)) fun t => yb (f_M_wrongKept F u3 t a1) fun x15 u16 => some (x15, u16))
set_option maxHeartbeats 4000000 in
set_option maxRecDepth 100000 in
theorem c_M_toss (l : Launch) (w : WP) (F : Nat) (u : Mm) (o : Nat) (a1 : Int32) (out : Int32 × Mm) (h : f_M_toss F u o a1 = some out) : yMet l m_M_toss ws_M_toss ({ frames := 2, cells := 0, slots := 0, locals := 46 } : Room) YM w u [va_re w.1 (some o), .int a1] yfi out := by
  refine y_entry (own := "WhoseGlassModel") (lv := [(0, va_re w.1 (some o)), (1, .int a1)]) (by decide +kernel) rfl (by simp [lv_args, y_cat, y_catI, y_catJ]) (by simp [lg_sl, y_cat, y_catI, y_catJ]) ?_
  intro p e s m args below meth c C hr hlocks
  unfold f_M_toss at h
  refine y_aload_n C (i := 0) 0 d_M_toss_0 rfl rfl ?_
  refine y_iconst C (v := 0) d_M_toss_1 (by decide) ?_
  refine y_pi C (q := (yR5, yT5, 46)) (ci := 5) (k := 23) rfl (by decide) rfl rfl (by decide +kernel) g_807 d_M_toss_2 h (fun u1 h => ?_)
  refine y_aload_n C (i := 0) 0 d_M_toss_5 rfl rfl ?_
  refine y_iload_n C (i := 1) 1 d_M_toss_6 rfl rfl ?_
  refine y_callV 1 C (q := (yR5, yT5, 46)) (ci := 5) (fun t out hh => c_M_wrongKept l w F u1 t a1 out hh) gc_M_toss_268 rfl (by decide) hd_M_wrongKept ⟨Nat.le_of_ble_eq_true rfl, Nat.le_of_ble_eq_true rfl⟩ rfl rfl rfl rfl (by simp [y_cat, y_catI, y_catJ]) d_M_toss_7 h (fun x2 u3 h => ?_)
  refine y_stk (stp0 := [.int x2]) rfl ?_
  refine y_if_ge C 19 d_M_toss_10 (by decide) h (fun k4 h => ?_) (fun k4 h => ?_)
  · refine y_aload_n C (i := 0) 0 d_M_toss_19 rfl rfl ?_
    refine y_gr C (q := (yR5, yT5, 46)) (ci := 5) (k := 40) rfl (by decide) rfl (by decide) g_824 d_M_toss_20 h (fun r5 h => ?_)
    refine y_iload_n C (i := 1) 1 d_M_toss_23 rfl rfl ?_
    refine y_al C d_M_toss_24 h (fun x6 h => ?_)
    refine y_istore_n C (i := 2) (lvp := [(0, va_re w.1 (some o)), (1, .int a1)]) d_M_toss_25 rfl (by decide) rfl ?_
    refine y_aload_n C (i := 0) 1 d_M_toss_26 rfl rfl ?_
    refine y_gr C (q := (yR5, yT5, 46)) (ci := 5) (k := 41) rfl (by decide) rfl (by decide) g_825 d_M_toss_27 h (fun r7 h => ?_)
    refine y_iload_n C (i := 1) 2 d_M_toss_30 rfl rfl ?_
    refine y_al C d_M_toss_31 h (fun x8 h => ?_)
    refine y_istore_n C (i := 3) (lvp := [(2, .int x6), (0, va_re w.1 (some o)), (1, .int a1)]) d_M_toss_32 rfl (by decide) rfl ?_
    refine y_iload_n C (i := 2) 1 d_M_toss_33 rfl rfl ?_
    refine y_iconst C (v := 4) d_M_toss_34 (by decide) ?_
    refine y_ic_eq C 42 d_M_toss_35 (by decide) h (fun k9 h => ?_) (fun k9 h => ?_)
    · refine y_bipush C (v := -15) d_M_toss_42 (by decide) ?_
      exact y_iret C hr hlocks d_M_toss_44 h
    · refine y_iload_n C (i := 3) 0 d_M_toss_38 rfl rfl ?_
      refine y_if_ne C 45 d_M_toss_39 (by decide) h (fun k10 h => ?_) (fun k10 h => ?_)
      · refine y_bipush C (v := -15) d_M_toss_42 (by decide) ?_
        exact y_iret C hr hlocks d_M_toss_44 h
      · refine y_iload_n C (i := 2) 1 d_M_toss_45 rfl rfl ?_
        refine y_iconst C (v := 3) d_M_toss_46 (by decide) ?_
        refine y_ic_ne C 57 d_M_toss_47 (by decide) h (fun k11 h => ?_) (fun k11 h => ?_)
        · refine y_bipush C (v := 100) d_M_toss_50 (by decide) ?_
          refine y_iload_n C (i := 3) 0 d_M_toss_52 rfl rfl ?_
          refine y_iadd C d_M_toss_53 ?_
          refine y_goto C (tgt := 75) d_M_toss_54 (by decide) ?_
          exact y_iret C hr hlocks d_M_toss_75 h
        · refine y_iload_n C (i := 2) 1 d_M_toss_57 rfl rfl ?_
          refine y_iconst C (v := 5) d_M_toss_58 (by decide) ?_
          refine y_ic_ne C 74 d_M_toss_59 (by decide) h (fun k12 h => ?_) (fun k12 h => ?_)
          · refine y_sipush C (v := 200) d_M_toss_62 (by decide) ?_
            refine y_iload_n C (i := 2) 1 d_M_toss_65 rfl rfl ?_
            refine y_iload_n C (i := 3) 0 d_M_toss_66 rfl rfl ?_
            refine y_callS 2 C (fun out hh => c_M_costOf l w F u3 x6 x8 out hh) (y_gc g_1270) g_1268 g_6 g_1269 hn_M_costOf ⟨Nat.le_of_ble_eq_true rfl, Nat.le_of_ble_eq_true rfl⟩ rfl rfl rfl rfl (by simp [y_cat, y_catI, y_catJ]) d_M_toss_67 h (fun x13 u14 h => ?_)
            refine y_stk (stp0 := [.int x13, .int (200 : Int32)]) rfl ?_
            refine y_iadd C d_M_toss_70 ?_
            refine y_goto C (tgt := 75) d_M_toss_71 (by decide) ?_
            exact y_iret C hr hlocks d_M_toss_75 h
          · refine y_iload_n C (i := 3) 0 d_M_toss_74 rfl rfl ?_
            exact y_iret C hr hlocks d_M_toss_75 h
  · refine y_aload_n C (i := 0) 0 d_M_toss_13 rfl rfl ?_
    refine y_iload_n C (i := 1) 1 d_M_toss_14 rfl rfl ?_
    refine y_callV 1 C (q := (yR5, yT5, 46)) (ci := 5) (fun t out hh => c_M_wrongKept l w F u3 t a1 out hh) gc_M_toss_268 rfl (by decide) hd_M_wrongKept ⟨Nat.le_of_ble_eq_true rfl, Nat.le_of_ble_eq_true rfl⟩ rfl rfl rfl rfl (by simp [y_cat, y_catI, y_catJ]) d_M_toss_15 h (fun x15 u16 h => ?_)
    refine y_stk (stp0 := [.int x15]) rfl ?_
    exact y_iret C hr hlocks d_M_toss_18 h
