/-! X_likely -/
theorem d_X_likely_0 : decode prog_1_method_15_code 0 = .ok (.aload_n 0, 1) := by decide +kernel
theorem d_X_likely_1 : decode prog_1_method_15_code 1 = .ok (.getfield 10, 3) := by decide +kernel
theorem d_X_likely_4 : decode prog_1_method_15_code 4 = .ok (.iload_n 1, 1) := by decide +kernel
theorem d_X_likely_5 : decode prog_1_method_15_code 5 = .ok (.invokevirtual 71, 3) := by decide +kernel
theorem d_X_likely_8 : decode prog_1_method_15_code 8 = .ok (.astore 4, 2) := by decide +kernel
theorem d_X_likely_10 : decode prog_1_method_15_code 10 = .ok (.aload_n 0, 1) := by decide +kernel
theorem d_X_likely_11 : decode prog_1_method_15_code 11 = .ok (.getfield 10, 3) := by decide +kernel
theorem d_X_likely_14 : decode prog_1_method_15_code 14 = .ok (.iload_n 2, 1) := by decide +kernel
theorem d_X_likely_15 : decode prog_1_method_15_code 15 = .ok (.invokevirtual 61, 3) := by decide +kernel
theorem d_X_likely_18 : decode prog_1_method_15_code 18 = .ok (.astore 5, 2) := by decide +kernel
theorem d_X_likely_20 : decode prog_1_method_15_code 20 = .ok (.aload 4, 2) := by decide +kernel
theorem d_X_likely_22 : decode prog_1_method_15_code 22 = .ok (.ifnull 16, 3) := by decide +kernel
theorem d_X_likely_25 : decode prog_1_method_15_code 25 = .ok (.aload 5, 2) := by decide +kernel
theorem d_X_likely_27 : decode prog_1_method_15_code 27 = .ok (.ifnull 11, 3) := by decide +kernel
theorem d_X_likely_30 : decode prog_1_method_15_code 30 = .ok (.iload_n 3, 1) := by decide +kernel
theorem d_X_likely_31 : decode prog_1_method_15_code 31 = .ok (.iconst 2, 1) := by decide +kernel
theorem d_X_likely_32 : decode prog_1_method_15_code 32 = .ok (.invokestatic 78, 3) := by decide +kernel
theorem d_X_likely_35 : decode prog_1_method_15_code 35 = .ok (.ifCond .ne 5, 3) := by decide +kernel
theorem d_X_likely_38 : decode prog_1_method_15_code 38 = .ok (.iconst (-1), 1) := by decide +kernel
theorem d_X_likely_39 : decode prog_1_method_15_code 39 = .ok (.ireturn, 1) := by decide +kernel
theorem d_X_likely_40 : decode prog_1_method_15_code 40 = .ok (.aload_n 0, 1) := by decide +kernel
theorem d_X_likely_41 : decode prog_1_method_15_code 41 = .ok (.getfield 10, 3) := by decide +kernel
theorem d_X_likely_44 : decode prog_1_method_15_code 44 = .ok (.aload 4, 2) := by decide +kernel
theorem d_X_likely_46 : decode prog_1_method_15_code 46 = .ok (.getfield 145, 3) := by decide +kernel
theorem d_X_likely_49 : decode prog_1_method_15_code 49 = .ok (.invokevirtual 61, 3) := by decide +kernel
theorem d_X_likely_52 : decode prog_1_method_15_code 52 = .ok (.astore 6, 2) := by decide +kernel
theorem d_X_likely_54 : decode prog_1_method_15_code 54 = .ok (.aload 6, 2) := by decide +kernel
theorem d_X_likely_56 : decode prog_1_method_15_code 56 = .ok (.ifnull 16, 3) := by decide +kernel
theorem d_X_likely_59 : decode prog_1_method_15_code 59 = .ok (.aload 5, 2) := by decide +kernel
theorem d_X_likely_61 : decode prog_1_method_15_code 61 = .ok (.getfield 126, 3) := by decide +kernel
theorem d_X_likely_64 : decode prog_1_method_15_code 64 = .ok (.aload 4, 2) := by decide +kernel
theorem d_X_likely_66 : decode prog_1_method_15_code 66 = .ok (.getfield 102, 3) := by decide +kernel
theorem d_X_likely_69 : decode prog_1_method_15_code 69 = .ok (.if_icmp .eq 6, 3) := by decide +kernel
theorem d_X_likely_72 : decode prog_1_method_15_code 72 = .ok (.bipush (-3), 2) := by decide +kernel
theorem d_X_likely_74 : decode prog_1_method_15_code 74 = .ok (.ireturn, 1) := by decide +kernel
theorem d_X_likely_75 : decode prog_1_method_15_code 75 = .ok (.aload 6, 2) := by decide +kernel
theorem d_X_likely_77 : decode prog_1_method_15_code 77 = .ok (.aload 5, 2) := by decide +kernel
theorem d_X_likely_79 : decode prog_1_method_15_code 79 = .ok (.invokevirtual 139, 3) := by decide +kernel
theorem d_X_likely_82 : decode prog_1_method_15_code 82 = .ok (.istore 7, 2) := by decide +kernel
theorem d_X_likely_84 : decode prog_1_method_15_code 84 = .ok (.aload_n 0, 1) := by decide +kernel
theorem d_X_likely_85 : decode prog_1_method_15_code 85 = .ok (.getfield 10, 3) := by decide +kernel
theorem d_X_likely_88 : decode prog_1_method_15_code 88 = .ok (.aload 6, 2) := by decide +kernel
theorem d_X_likely_90 : decode prog_1_method_15_code 90 = .ok (.aload 4, 2) := by decide +kernel
theorem d_X_likely_92 : decode prog_1_method_15_code 92 = .ok (.getfield 102, 3) := by decide +kernel
theorem d_X_likely_95 : decode prog_1_method_15_code 95 = .ok (.invokevirtual 148, 3) := by decide +kernel
theorem d_X_likely_98 : decode prog_1_method_15_code 98 = .ok (.istore 8, 2) := by decide +kernel
theorem d_X_likely_100 : decode prog_1_method_15_code 100 = .ok (.iload 8, 2) := by decide +kernel
theorem d_X_likely_102 : decode prog_1_method_15_code 102 = .ok (.ifCond .ne 5, 3) := by decide +kernel
theorem d_X_likely_105 : decode prog_1_method_15_code 105 = .ok (.iload_n 3, 1) := by decide +kernel
theorem d_X_likely_106 : decode prog_1_method_15_code 106 = .ok (.ireturn, 1) := by decide +kernel
theorem d_X_likely_107 : decode prog_1_method_15_code 107 = .ok (.iload_n 3, 1) := by decide +kernel
theorem d_X_likely_108 : decode prog_1_method_15_code 108 = .ok (.ifCond .ne 13, 3) := by decide +kernel
theorem d_X_likely_111 : decode prog_1_method_15_code 111 = .ok (.iload 7, 2) := by decide +kernel
theorem d_X_likely_113 : decode prog_1_method_15_code 113 = .ok (.iload 8, 2) := by decide +kernel
theorem d_X_likely_115 : decode prog_1_method_15_code 115 = .ok (.invokestatic 152, 3) := by decide +kernel
theorem d_X_likely_118 : decode prog_1_method_15_code 118 = .ok (.goto 10, 3) := by decide +kernel
theorem d_X_likely_121 : decode prog_1_method_15_code 121 = .ok (.iload 8, 2) := by decide +kernel
theorem d_X_likely_123 : decode prog_1_method_15_code 123 = .ok (.iload 7, 2) := by decide +kernel
theorem d_X_likely_125 : decode prog_1_method_15_code 125 = .ok (.invokestatic 152, 3) := by decide +kernel
theorem d_X_likely_128 : decode prog_1_method_15_code 128 = .ok (.ireturn, 1) := by decide +kernel
theorem gc_X_likely_71 : GoodIn yGW (wsV "WhoseGlass" 71 yR2 m_H_guestAt ws_H_guestAt) := y_gV g_391 g_268 g_269 g_2 g_270
theorem gc_X_likely_61 : GoodIn yGW (wsV "WhoseGlass" 61 yR2 m_H_glassAt ws_H_glassAt) := y_gV g_381 g_260 g_261 g_2 g_262
theorem gc_X_likely_139 : GoodIn yGW (wsV "WhoseGlass" 139 yR0 m_G_likeTo ws_G_likeTo) := y_gV g_443 g_302 g_303 g_3 g_304
theorem gc_X_likely_148 : GoodIn yGW (wsV "WhoseGlass" 148 yR2 m_H_likeToAllAt ws_H_likeToAllAt) := y_gV g_453 g_454 g_455 g_2 g_456
set_option maxRecDepth 100000 in
def f_X_likely (F : Nat) (u : Mm) (o : Nat) (a1 : Int32) (a2 : Int32) (a3 : Int32) : Option (Int32 × Mm) := ob (jgr YX 4 0 (some o)) fun (r1 : Option Nat) => ob (jk YX 2 r1) fun t => yb (f_H_guestAt F u t a1) fun r2 u3 => ob (jgr YX 4 0 (some o)) fun (r4 : Option Nat) => ob (jk YX 2 r4) fun t => yb (f_H_glassAt F u3 t a2) fun r5 u6 => (if r2 = none then some ((-1 : Int32), u6) else (if r5 = none then some ((-1 : Int32), u6) else yb (f_X_isBelow F u6 a3 (2 : Int32)) fun x9 u10 => (if x9 = 0 then some ((-1 : Int32), u10) else ob (jgr YX 4 0 (some o)) fun (r12 : Option Nat) => ob (jgi YX 1 7 u10 r2) fun (x13 : Int32) => ob (jk YX 2 r12) fun t => yb (f_H_glassAt F u10 t x13) fun r14 u15 => (if r14 = none then some ((-3 : Int32), u15) else ob (jgi YX 0 4 u15 r5) fun (x17 : Int32) => ob (jgi YX 1 5 u15 r2) fun (x18 : Int32) => (if x17 = x18 then ob (jk YX 0 r14) fun t => yb (f_G_likeTo F u15 t r5) fun x20 u21 => ob (jgr YX 4 0 (some o)) fun (r22 : Option Nat) => ob (jgi YX 1 5 u21 r2) fun (x23 : Int32) => ob (jk YX 2 r22) fun t => yb (f_H_likeToAllAt F u21 t r14 x23) fun x24 u25 => (if x24 = 0 then some (a3, u25) else (if a3 = 0 then yb (f_X_reduced F u25 x20 x24) fun x28 u29 => some (x28, u29) else yb (f_X_reduced F u25 x24 x20) fun x30 u31 => some (x30, u31))) else some ((-3 : Int32), u15))))))
set_option maxHeartbeats 4000000 in
set_option maxRecDepth 100000 in
theorem c_X_likely (l : Launch) (w : WP) (F : Nat) (u : Mm) (o : Nat) (a1 : Int32) (a2 : Int32) (a3 : Int32) (out : Int32 × Mm) (h : f_X_likely F u o a1 a2 a3 = some out) : yMet l m_X_likely ws_X_likely ({ frames := 2, cells := 0, slots := 0, locals := 53 } : Room) YX w u [va_re w.1 (some o), .int a1, .int a2, .int a3] yfi out := by
  refine y_entry (own := "WhoseGlass") (lv := [(0, va_re w.1 (some o)), (1, .int a1), (2, .int a2), (3, .int a3)]) (by decide +kernel) rfl (by simp [lv_args, y_cat, y_catI, y_catJ]) (by simp [lg_sl, y_cat, y_catI, y_catJ]) ?_
  intro p e s m args below meth c C hr hlocks
  unfold f_X_likely at h
  refine y_aload_n C (i := 0) 0 d_X_likely_0 rfl rfl ?_
  refine y_gr C (q := (yR4, yT4, 5)) (ci := 4) (k := 0) rfl (by decide) rfl (by decide) g_202 d_X_likely_1 h (fun r1 h => ?_)
  refine y_iload_n C (i := 1) 1 d_X_likely_4 rfl rfl ?_
  refine y_callV 1 C (q := (yR2, yT2, 9)) (ci := 2) (fun t out hh => c_H_guestAt l w F u t a1 out hh) gc_X_likely_71 rfl (by decide) hd_H_guestAt ⟨Nat.le_of_ble_eq_true rfl, Nat.le_of_ble_eq_true rfl⟩ rfl rfl rfl rfl (by simp [y_cat, y_catI, y_catJ]) d_X_likely_5 h (fun r2 u3 h => ?_)
  refine y_stk (stp0 := [va_re w.1 r2]) rfl ?_
  refine y_astore C (i := 4) (lvp := [(0, va_re w.1 (some o)), (1, .int a1), (2, .int a2), (3, .int a3)]) d_X_likely_8 (by decide) (by simp [List.filter, y_cat, y_catI, y_catJ]) ?_
  refine y_aload_n C (i := 0) 1 d_X_likely_10 rfl rfl ?_
  refine y_gr C (q := (yR4, yT4, 5)) (ci := 4) (k := 0) rfl (by decide) rfl (by decide) g_202 d_X_likely_11 h (fun r4 h => ?_)
  refine y_iload_n C (i := 2) 3 d_X_likely_14 rfl rfl ?_
  refine y_callV 1 C (q := (yR2, yT2, 9)) (ci := 2) (fun t out hh => c_H_glassAt l w F u3 t a2 out hh) gc_X_likely_61 rfl (by decide) hd_H_glassAt ⟨Nat.le_of_ble_eq_true rfl, Nat.le_of_ble_eq_true rfl⟩ rfl rfl rfl rfl (by simp [y_cat, y_catI, y_catJ]) d_X_likely_15 h (fun r5 u6 h => ?_)
  refine y_stk (stp0 := [va_re w.1 r5]) rfl ?_
  refine y_astore C (i := 5) (lvp := [(4, va_re w.1 r2), (0, va_re w.1 (some o)), (1, .int a1), (2, .int a2), (3, .int a3)]) d_X_likely_18 (by decide) (by simp [List.filter, y_cat, y_catI, y_catJ]) ?_
  refine y_aload C (i := 4) 1 d_X_likely_20 rfl ?_
  refine y_ifnull C 38 d_X_likely_22 (by decide) h (fun k7 h => ?_) (fun k7 h => ?_)
  · refine y_iconst C (v := -1) d_X_likely_38 (by decide) ?_
    exact y_iret C hr hlocks d_X_likely_39 h
  · refine y_aload C (i := 5) 0 d_X_likely_25 rfl ?_
    refine y_ifnull C 38 d_X_likely_27 (by decide) h (fun k8 h => ?_) (fun k8 h => ?_)
    · refine y_iconst C (v := -1) d_X_likely_38 (by decide) ?_
      exact y_iret C hr hlocks d_X_likely_39 h
    · refine y_iload_n C (i := 3) 5 d_X_likely_30 rfl rfl ?_
      refine y_iconst C (v := 2) d_X_likely_31 (by decide) ?_
      refine y_callS 2 C (fun out hh => c_X_isBelow l w F u6 a3 (2 : Int32) out hh) (y_gc g_344) g_400 g_1 g_343 hn_X_isBelow ⟨Nat.le_of_ble_eq_true rfl, Nat.le_of_ble_eq_true rfl⟩ rfl rfl rfl rfl (by simp [y_cat, y_catI, y_catJ]) d_X_likely_32 h (fun x9 u10 h => ?_)
      refine y_stk (stp0 := [.int x9]) rfl ?_
      refine y_if_ne C 40 d_X_likely_35 (by decide) h (fun k11 h => ?_) (fun k11 h => ?_)
      · refine y_iconst C (v := -1) d_X_likely_38 (by decide) ?_
        exact y_iret C hr hlocks d_X_likely_39 h
      · refine y_aload_n C (i := 0) 2 d_X_likely_40 rfl rfl ?_
        refine y_gr C (q := (yR4, yT4, 5)) (ci := 4) (k := 0) rfl (by decide) rfl (by decide) g_202 d_X_likely_41 h (fun r12 h => ?_)
        refine y_aload C (i := 4) 1 d_X_likely_44 rfl ?_
        refine y_gi C (q := (yR1, yT1, 10)) (ci := 1) (k := 7) rfl (by decide) rfl g_103 d_X_likely_46 h (fun x13 h => ?_)
        refine y_callV 1 C (q := (yR2, yT2, 9)) (ci := 2) (fun t out hh => c_H_glassAt l w F u10 t x13 out hh) gc_X_likely_61 rfl (by decide) hd_H_glassAt ⟨Nat.le_of_ble_eq_true rfl, Nat.le_of_ble_eq_true rfl⟩ rfl rfl rfl rfl (by simp [y_cat, y_catI, y_catJ]) d_X_likely_49 h (fun r14 u15 h => ?_)
        refine y_stk (stp0 := [va_re w.1 r14]) rfl ?_
        refine y_astore C (i := 6) (lvp := [(5, va_re w.1 r5), (4, va_re w.1 r2), (0, va_re w.1 (some o)), (1, .int a1), (2, .int a2), (3, .int a3)]) d_X_likely_52 (by decide) (by simp [List.filter, y_cat, y_catI, y_catJ]) ?_
        refine y_aload C (i := 6) 0 d_X_likely_54 rfl ?_
        refine y_ifnull C 72 d_X_likely_56 (by decide) h (fun k16 h => ?_) (fun k16 h => ?_)
        · refine y_bipush C (v := -3) d_X_likely_72 (by decide) ?_
          exact y_iret C hr hlocks d_X_likely_74 h
        · refine y_aload C (i := 5) 1 d_X_likely_59 rfl ?_
          refine y_gi C (q := (yR0, yT0, 8)) (ci := 0) (k := 4) rfl (by decide) rfl g_52 d_X_likely_61 h (fun x17 h => ?_)
          refine y_aload C (i := 4) 2 d_X_likely_64 rfl ?_
          refine y_gi C (q := (yR1, yT1, 10)) (ci := 1) (k := 5) rfl (by decide) rfl g_95 d_X_likely_66 h (fun x18 h => ?_)
          refine y_ic_eq C 75 d_X_likely_69 (by decide) h (fun k19 h => ?_) (fun k19 h => ?_)
          · refine y_aload C (i := 6) 0 d_X_likely_75 rfl ?_
            refine y_aload C (i := 5) 1 d_X_likely_77 rfl ?_
            refine y_callV 1 C (q := (yR0, yT0, 8)) (ci := 0) (fun t out hh => c_G_likeTo l w F u15 t r5 out hh) gc_X_likely_139 rfl (by decide) hd_G_likeTo ⟨Nat.le_of_ble_eq_true rfl, Nat.le_of_ble_eq_true rfl⟩ rfl rfl rfl rfl (by simp [y_cat, y_catI, y_catJ]) d_X_likely_79 h (fun x20 u21 h => ?_)
            refine y_stk (stp0 := [.int x20]) rfl ?_
            refine y_istore C (i := 7) (lvp := [(6, va_re w.1 r14), (5, va_re w.1 r5), (4, va_re w.1 r2), (0, va_re w.1 (some o)), (1, .int a1), (2, .int a2), (3, .int a3)]) d_X_likely_82 (by decide) (by simp [List.filter, y_cat, y_catI, y_catJ]) ?_
            refine y_aload_n C (i := 0) 4 d_X_likely_84 rfl rfl ?_
            refine y_gr C (q := (yR4, yT4, 5)) (ci := 4) (k := 0) rfl (by decide) rfl (by decide) g_202 d_X_likely_85 h (fun r22 h => ?_)
            refine y_aload C (i := 6) 1 d_X_likely_88 rfl ?_
            refine y_aload C (i := 4) 3 d_X_likely_90 rfl ?_
            refine y_gi C (q := (yR1, yT1, 10)) (ci := 1) (k := 5) rfl (by decide) rfl g_95 d_X_likely_92 h (fun x23 h => ?_)
            refine y_callV 2 C (q := (yR2, yT2, 9)) (ci := 2) (fun t out hh => c_H_likeToAllAt l w F u21 t r14 x23 out hh) gc_X_likely_148 rfl (by decide) hd_H_likeToAllAt ⟨Nat.le_of_ble_eq_true rfl, Nat.le_of_ble_eq_true rfl⟩ rfl rfl rfl rfl (by simp [y_cat, y_catI, y_catJ]) d_X_likely_95 h (fun x24 u25 h => ?_)
            refine y_stk (stp0 := [.int x24]) rfl ?_
            refine y_istore C (i := 8) (lvp := [(7, .int x20), (6, va_re w.1 r14), (5, va_re w.1 r5), (4, va_re w.1 r2), (0, va_re w.1 (some o)), (1, .int a1), (2, .int a2), (3, .int a3)]) d_X_likely_98 (by decide) rfl ?_
            refine y_iload C (i := 8) 0 d_X_likely_100 rfl ?_
            refine y_if_ne C 107 d_X_likely_102 (by decide) h (fun k26 h => ?_) (fun k26 h => ?_)
            · refine y_iload_n C (i := 3) 8 d_X_likely_105 rfl rfl ?_
              exact y_iret C hr hlocks d_X_likely_106 h
            · refine y_iload_n C (i := 3) 8 d_X_likely_107 rfl rfl ?_
              refine y_if_ne C 121 d_X_likely_108 (by decide) h (fun k27 h => ?_) (fun k27 h => ?_)
              · refine y_iload C (i := 7) 1 d_X_likely_111 rfl ?_
                refine y_iload C (i := 8) 0 d_X_likely_113 rfl ?_
                refine y_callS 2 C (fun out hh => c_X_reduced l w F u25 x20 x24 out hh) (y_gc g_459) g_457 g_1 g_458 hn_X_reduced ⟨Nat.le_of_ble_eq_true rfl, Nat.le_of_ble_eq_true rfl⟩ rfl rfl rfl rfl (by simp [y_cat, y_catI, y_catJ]) d_X_likely_115 h (fun x28 u29 h => ?_)
                refine y_stk (stp0 := [.int x28]) rfl ?_
                refine y_goto C (tgt := 128) d_X_likely_118 (by decide) ?_
                exact y_iret C hr hlocks d_X_likely_128 h
              · refine y_iload C (i := 8) 0 d_X_likely_121 rfl ?_
                refine y_iload C (i := 7) 1 d_X_likely_123 rfl ?_
                refine y_callS 2 C (fun out hh => c_X_reduced l w F u25 x24 x20 out hh) (y_gc g_459) g_457 g_1 g_458 hn_X_reduced ⟨Nat.le_of_ble_eq_true rfl, Nat.le_of_ble_eq_true rfl⟩ rfl rfl rfl rfl (by simp [y_cat, y_catI, y_catJ]) d_X_likely_125 h (fun x30 u31 h => ?_)
                refine y_stk (stp0 := [.int x30]) rfl ?_
                exact y_iret C hr hlocks d_X_likely_128 h
          · refine y_bipush C (v := -3) d_X_likely_72 (by decide) ?_
            exact y_iret C hr hlocks d_X_likely_74 h
/-! H_isOwned -/
theorem d_H_isOwned_0 : decode prog_4_method_15_code 0 = .ok (.iconst 0, 1) := by decide +kernel
theorem d_H_isOwned_1 : decode prog_4_method_15_code 1 = .ok (.istore_n 2, 1) := by decide +kernel
theorem d_H_isOwned_2 : decode prog_4_method_15_code 2 = .ok (.iload_n 2, 1) := by decide +kernel
theorem d_H_isOwned_3 : decode prog_4_method_15_code 3 = .ok (.aload_n 0, 1) := by decide +kernel
theorem d_H_isOwned_4 : decode prog_4_method_15_code 4 = .ok (.getfield 37, 3) := by decide +kernel
theorem d_H_isOwned_7 : decode prog_4_method_15_code 7 = .ok (.if_icmp .ge 29, 3) := by decide +kernel
theorem d_H_isOwned_10 : decode prog_4_method_15_code 10 = .ok (.aload_n 0, 1) := by decide +kernel
theorem d_H_isOwned_11 : decode prog_4_method_15_code 11 = .ok (.iload_n 2, 1) := by decide +kernel
theorem d_H_isOwned_12 : decode prog_4_method_15_code 12 = .ok (.invokevirtual 57, 3) := by decide +kernel
theorem d_H_isOwned_15 : decode prog_4_method_15_code 15 = .ok (.astore_n 3, 1) := by decide +kernel
theorem d_H_isOwned_16 : decode prog_4_method_15_code 16 = .ok (.aload_n 3, 1) := by decide +kernel
theorem d_H_isOwned_17 : decode prog_4_method_15_code 17 = .ok (.ifnull 13, 3) := by decide +kernel
theorem d_H_isOwned_20 : decode prog_4_method_15_code 20 = .ok (.aload_n 3, 1) := by decide +kernel
theorem d_H_isOwned_21 : decode prog_4_method_15_code 21 = .ok (.getfield 122, 3) := by decide +kernel
theorem d_H_isOwned_24 : decode prog_4_method_15_code 24 = .ok (.iload_n 1, 1) := by decide +kernel
theorem d_H_isOwned_25 : decode prog_4_method_15_code 25 = .ok (.if_icmp .ne 5, 3) := by decide +kernel
theorem d_H_isOwned_28 : decode prog_4_method_15_code 28 = .ok (.iconst 1, 1) := by decide +kernel
theorem d_H_isOwned_29 : decode prog_4_method_15_code 29 = .ok (.ireturn, 1) := by decide +kernel
theorem d_H_isOwned_30 : decode prog_4_method_15_code 30 = .ok (.iinc 2 1, 3) := by decide +kernel
theorem d_H_isOwned_33 : decode prog_4_method_15_code 33 = .ok (.goto (-31), 3) := by decide +kernel
theorem d_H_isOwned_36 : decode prog_4_method_15_code 36 = .ok (.iconst 0, 1) := by decide +kernel
theorem d_H_isOwned_37 : decode prog_4_method_15_code 37 = .ok (.ireturn, 1) := by decide +kernel
theorem gc_H_isOwned_57 : GoodIn yGW (wsV "WhoseGlass$House" 57 yR2 m_H_guestAt ws_H_guestAt) := y_gV g_267 g_268 g_269 g_2 g_270
set_option maxHeartbeats 4000000 in
set_option maxRecDepth 100000 in
def f_H_isOwned_L2 (F : Nat) (a0 : Option Nat) (a1 : Int32) (k : Mm → Option (Int32 × Mm)) : Nat → Mm → Int32 → Option (Int32 × Mm)
  | 0, _, _ => none
  | n + 1, u, a2 => ob (jgi YX 2 3 u a0) fun (x1 : Int32) => (if x1 ≤ a2 then k u  else ob (jk YX 2 a0) fun t => yb (f_H_guestAt F u t a2) fun r3 u4 => (if r3 = none then ob (some (a2 + (1 : Int32))) fun (x6 : Int32) => f_H_isOwned_L2 F a0 a1 k n u4 x6 else ob (jgi YX 1 7 u4 r3) fun (x7 : Int32) => (if x7 = a1 then ob (jz (1 : Int32)) (fun v => some (v, u4)) else ob (some (a2 + (1 : Int32))) fun (x9 : Int32) => f_H_isOwned_L2 F a0 a1 k n u4 x9)))
set_option maxHeartbeats 4000000 in
set_option maxRecDepth 100000 in
theorem w_H_isOwned_L2 {p : Program} {l : Launch} {e : Env} {s : State} {m : MethodId} {args : Array Value} {below : List Frame} {meth : Method} {c : Code} {w : WP} (F : Nat) (C : yX p e ({ frames := 1, cells := 0, slots := 0, locals := 21 } : Room) s m args c YX w 4 prog_4_method_15_code "WhoseGlass$House") (hr : meth.sig.returnType = (some .boolean)) (hlocks : meth.locks = false) (a0 : Option Nat) (a1 : Int32) {out : Int32 × Mm} (k : Mm → Option (Int32 × Mm)) (hk : ∀ (u : Mm), k u  = some out → yG p l e ({ frames := 1, cells := 0, slots := 0, locals := 21 } : Room) s m args below meth c YX w 4 (MQ below (yQ YX w yfi out) args s 0 0 (yA YX w)) u 36 [] []) : ∀ (n : Nat) (u : Mm) (a2 : Int32), f_H_isOwned_L2 F a0 a1 k n u a2 = some out → yG p l e ({ frames := 1, cells := 0, slots := 0, locals := 21 } : Room) s m args below meth c YX w 4 (MQ below (yQ YX w yfi out) args s 0 0 (yA YX w)) u 2 [(0, va_re w.1 a0), (1, .int a1), (2, .int a2)] [] := by
  intro n
  induction n with
  | zero => intro u a2 h; rw [f_H_isOwned_L2] at h; cases h
  | succ n ih =>
    intro u a2 h
    rw [f_H_isOwned_L2] at h
    refine y_iload_n C (i := 2) 2 d_H_isOwned_2 rfl rfl ?_
    refine y_aload_n C (i := 0) 0 d_H_isOwned_3 rfl rfl ?_
    refine y_gi C (q := (yR2, yT2, 9)) (ci := 2) (k := 3) rfl (by decide) rfl g_135 d_H_isOwned_4 h (fun x1 h => ?_)
    refine y_ic_ge C 36 d_H_isOwned_7 (by decide) h (fun k2 h => ?_) (fun k2 h => ?_)
    · exact y_sub [] rfl (hk _ h)
    · refine y_aload_n C (i := 0) 0 d_H_isOwned_10 rfl rfl ?_
      refine y_iload_n C (i := 2) 2 d_H_isOwned_11 rfl rfl ?_
      refine y_callV 1 C (q := (yR2, yT2, 9)) (ci := 2) (fun t out hh => c_H_guestAt l w F u t a2 out hh) gc_H_isOwned_57 rfl (by decide) hd_H_guestAt ⟨Nat.le_of_ble_eq_true rfl, Nat.le_of_ble_eq_true rfl⟩ rfl rfl rfl rfl (by simp [y_cat, y_catI, y_catJ]) d_H_isOwned_12 h (fun r3 u4 h => ?_)
      refine y_stk (stp0 := [va_re w.1 r3]) rfl ?_
      refine y_astore_n C (i := 3) (lvp := [(0, va_re w.1 a0), (1, .int a1), (2, .int a2)]) d_H_isOwned_15 rfl (by decide) (by simp [List.filter, y_cat, y_catI, y_catJ]) ?_
      refine y_aload_n C (i := 3) 0 d_H_isOwned_16 rfl rfl ?_
      refine y_ifnull C 30 d_H_isOwned_17 (by decide) h (fun k5 h => ?_) (fun k5 h => ?_)
      · refine y_iinc C (j := 3) (v := 1) (lvp := [(3, va_re w.1 r3), (0, va_re w.1 a0), (1, .int a1)]) d_H_isOwned_30 rfl (by decide) (by decide) rfl h (fun x6 h => ?_)
        refine y_goto C (tgt := 2) d_H_isOwned_33 (by decide) ?_
        exact y_sub [2, 3, 0] rfl (ih _ _ h)
      · refine y_aload_n C (i := 3) 0 d_H_isOwned_20 rfl rfl ?_
        refine y_gi C (q := (yR1, yT1, 10)) (ci := 1) (k := 7) rfl (by decide) rfl g_102 d_H_isOwned_21 h (fun x7 h => ?_)
        refine y_iload_n C (i := 1) 2 d_H_isOwned_24 rfl rfl ?_
        refine y_ic_ne C 30 d_H_isOwned_25 (by decide) h (fun k8 h => ?_) (fun k8 h => ?_)
        · refine y_iconst C (v := 1) d_H_isOwned_28 (by decide) ?_
          exact y_zret C hr hlocks d_H_isOwned_29 h
        · refine y_iinc C (j := 3) (v := 1) (lvp := [(3, va_re w.1 r3), (0, va_re w.1 a0), (1, .int a1)]) d_H_isOwned_30 rfl (by decide) (by decide) rfl h (fun x9 h => ?_)
          refine y_goto C (tgt := 2) d_H_isOwned_33 (by decide) ?_
          exact y_sub [2, 3, 0] rfl (ih _ _ h)
set_option maxRecDepth 100000 in
def f_H_isOwned (F : Nat) (u : Mm) (o : Nat) (a1 : Int32) : Option (Int32 × Mm) := f_H_isOwned_L2 F (some o) a1 (fun (u10 : Mm) => ob (jz (0 : Int32)) (fun v => some (v, u10))) F u (0 : Int32)
set_option maxHeartbeats 4000000 in
set_option maxRecDepth 100000 in
theorem c_H_isOwned (l : Launch) (w : WP) (F : Nat) (u : Mm) (o : Nat) (a1 : Int32) (out : Int32 × Mm) (h : f_H_isOwned F u o a1 = some out) : yMet l m_H_isOwned ws_H_isOwned ({ frames := 1, cells := 0, slots := 0, locals := 21 } : Room) YX w u [va_re w.1 (some o), .int a1] yfi out := by
  refine y_entry (own := "WhoseGlass$House") (lv := [(0, va_re w.1 (some o)), (1, .int a1)]) (by decide +kernel) rfl (by simp [lv_args, y_cat, y_catI, y_catJ]) (by simp [lg_sl, y_cat, y_catI, y_catJ]) ?_
  intro p e s m args below meth c C hr hlocks
  unfold f_H_isOwned at h
  refine y_iconst C (v := 0) d_H_isOwned_0 (by decide) ?_
  refine y_istore_n C (i := 2) (lvp := [(0, va_re w.1 (some o)), (1, .int a1)]) d_H_isOwned_1 rfl (by decide) rfl ?_
  refine y_sub [1, 2, 0] rfl (w_H_isOwned_L2 F C hr hlocks _ _ _ (fun u10 h => ?_) _ _ _ h)
  refine y_iconst C (v := 0) d_H_isOwned_36 (by decide) ?_
  exact y_zret C hr hlocks d_H_isOwned_37 h
/-! H_idleAt -/
theorem d_H_idleAt_0 : decode prog_4_method_14_code 0 = .ok (.iconst 0, 1) := by decide +kernel
theorem d_H_idleAt_1 : decode prog_4_method_14_code 1 = .ok (.istore_n 2, 1) := by decide +kernel
theorem d_H_idleAt_2 : decode prog_4_method_14_code 2 = .ok (.iconst 0, 1) := by decide +kernel
theorem d_H_idleAt_3 : decode prog_4_method_14_code 3 = .ok (.istore_n 3, 1) := by decide +kernel
theorem d_H_idleAt_4 : decode prog_4_method_14_code 4 = .ok (.iload_n 3, 1) := by decide +kernel
theorem d_H_idleAt_5 : decode prog_4_method_14_code 5 = .ok (.aload_n 0, 1) := by decide +kernel
theorem d_H_idleAt_6 : decode prog_4_method_14_code 6 = .ok (.getfield 34, 3) := by decide +kernel
theorem d_H_idleAt_9 : decode prog_4_method_14_code 9 = .ok (.if_icmp .ge 41, 3) := by decide +kernel
theorem d_H_idleAt_12 : decode prog_4_method_14_code 12 = .ok (.aload_n 0, 1) := by decide +kernel
theorem d_H_idleAt_13 : decode prog_4_method_14_code 13 = .ok (.iload_n 3, 1) := by decide +kernel
theorem d_H_idleAt_14 : decode prog_4_method_14_code 14 = .ok (.invokevirtual 49, 3) := by decide +kernel
theorem d_H_idleAt_17 : decode prog_4_method_14_code 17 = .ok (.astore 4, 2) := by decide +kernel
theorem d_H_idleAt_19 : decode prog_4_method_14_code 19 = .ok (.aload 4, 2) := by decide +kernel
theorem d_H_idleAt_21 : decode prog_4_method_14_code 21 = .ok (.ifnull 23, 3) := by decide +kernel
theorem d_H_idleAt_24 : decode prog_4_method_14_code 24 = .ok (.aload 4, 2) := by decide +kernel
theorem d_H_idleAt_26 : decode prog_4_method_14_code 26 = .ok (.getfield 132, 3) := by decide +kernel
theorem d_H_idleAt_29 : decode prog_4_method_14_code 29 = .ok (.iload_n 1, 1) := by decide +kernel
theorem d_H_idleAt_30 : decode prog_4_method_14_code 30 = .ok (.if_icmp .ne 14, 3) := by decide +kernel
theorem d_H_idleAt_33 : decode prog_4_method_14_code 33 = .ok (.aload_n 0, 1) := by decide +kernel
theorem d_H_idleAt_34 : decode prog_4_method_14_code 34 = .ok (.iload_n 3, 1) := by decide +kernel
theorem d_H_idleAt_35 : decode prog_4_method_14_code 35 = .ok (.invokevirtual 144, 3) := by decide +kernel
theorem d_H_idleAt_38 : decode prog_4_method_14_code 38 = .ok (.ifCond .ne 6, 3) := by decide +kernel
theorem d_H_idleAt_41 : decode prog_4_method_14_code 41 = .ok (.iinc 2 1, 3) := by decide +kernel
theorem d_H_idleAt_44 : decode prog_4_method_14_code 44 = .ok (.iinc 3 1, 3) := by decide +kernel
theorem d_H_idleAt_47 : decode prog_4_method_14_code 47 = .ok (.goto (-43), 3) := by decide +kernel
theorem d_H_idleAt_50 : decode prog_4_method_14_code 50 = .ok (.iload_n 2, 1) := by decide +kernel
theorem d_H_idleAt_51 : decode prog_4_method_14_code 51 = .ok (.ireturn, 1) := by decide +kernel
theorem gc_H_idleAt_49 : GoodIn yGW (wsV "WhoseGlass$House" 49 yR2 m_H_glassAt ws_H_glassAt) := y_gV g_259 g_260 g_261 g_2 g_262
theorem gc_H_idleAt_144 : GoodIn yGW (wsV "WhoseGlass$House" 144 yR2 m_H_isOwned ws_H_isOwned) := y_gV g_471 g_473 gs_3 g_2 g_474
set_option maxHeartbeats 4000000 in
set_option maxRecDepth 100000 in
def f_H_idleAt_L4 (F : Nat) (a0 : Option Nat) (a1 : Int32) (k : Mm → Int32 → Option (Int32 × Mm)) : Nat → Mm → Int32 → Int32 → Option (Int32 × Mm)
  | 0, _, _, _ => none
  | n + 1, u, a2, a3 => ob (jgi YX 2 2 u a0) fun (x1 : Int32) => (if x1 ≤ a3 then k u a2 else ob (jk YX 2 a0) fun t => yb (f_H_glassAt F u t a3) fun r3 u4 => ob ((if r3 = none then some (a2, u4) else ob (jgi YX 0 4 u4 r3) fun (x7 : Int32) => (if x7 = a1 then ob (jk YX 2 a0) fun t => yb (f_H_isOwned F u4 t a3) fun x9 u10 => (if x9 = 0 then ob (some (a2 + (1 : Int32))) fun (x12 : Int32) => some (x12, u10) else some (a2, u10)) else some (a2, u4))) : Option (Int32 × Mm)) fun q5 => ob (some (a3 + (1 : Int32))) fun (x13 : Int32) => f_H_idleAt_L4 F a0 a1 k n q5.2 q5.1 x13)
set_option maxHeartbeats 4000000 in
set_option maxRecDepth 100000 in
theorem w_H_idleAt_L4 {p : Program} {l : Launch} {e : Env} {s : State} {m : MethodId} {args : Array Value} {below : List Frame} {meth : Method} {c : Code} {w : WP} {Q : State → Prop} (F : Nat) (C : yX p e ({ frames := 2, cells := 0, slots := 0, locals := 44 } : Room) s m args c YX w 5 prog_4_method_14_code "WhoseGlass$House") (hr : meth.sig.returnType = (some .int)) (hlocks : meth.locks = false) (a0 : Option Nat) (a1 : Int32) {out : Int32 × Mm} (k : Mm → Int32 → Option (Int32 × Mm)) (hk : ∀ (u : Mm) (a2 : Int32), k u a2 = some out → yG p l e ({ frames := 2, cells := 0, slots := 0, locals := 44 } : Room) s m args below meth c YX w 5 Q u 50 [(2, .int a2)] []) : ∀ (n : Nat) (u : Mm) (a2 : Int32) (a3 : Int32), f_H_idleAt_L4 F a0 a1 k n u a2 a3 = some out → yG p l e ({ frames := 2, cells := 0, slots := 0, locals := 44 } : Room) s m args below meth c YX w 5 Q u 4 [(0, va_re w.1 a0), (1, .int a1), (2, .int a2), (3, .int a3)] [] := by
  intro n
  induction n with
  | zero => intro u a2 a3 h; rw [f_H_idleAt_L4] at h; cases h
  | succ n ih =>
    intro u a2 a3 h
    rw [f_H_idleAt_L4] at h
    refine y_iload_n C (i := 3) 3 d_H_idleAt_4 rfl rfl ?_
    refine y_aload_n C (i := 0) 0 d_H_idleAt_5 rfl rfl ?_
    refine y_gi C (q := (yR2, yT2, 9)) (ci := 2) (k := 2) rfl (by decide) rfl g_133 d_H_idleAt_6 h (fun x1 h => ?_)
    refine y_ic_ge C 50 d_H_idleAt_9 (by decide) h (fun k2 h => ?_) (fun k2 h => ?_)
    · exact y_sub [2] rfl (hk _ _ h)
    · refine y_aload_n C (i := 0) 0 d_H_idleAt_12 rfl rfl ?_
      refine y_iload_n C (i := 3) 3 d_H_idleAt_13 rfl rfl ?_
      refine y_callV 1 C (q := (yR2, yT2, 9)) (ci := 2) (fun t out hh => c_H_glassAt l w F u t a3 out hh) gc_H_idleAt_49 rfl (by decide) hd_H_glassAt ⟨Nat.le_of_ble_eq_true rfl, Nat.le_of_ble_eq_true rfl⟩ rfl rfl rfl rfl (by simp [y_cat, y_catI, y_catJ]) d_H_idleAt_14 h (fun r3 u4 h => ?_)
      refine y_stk (stp0 := [va_re w.1 r3]) rfl ?_
      refine y_astore C (i := 4) (lvp := [(0, va_re w.1 a0), (1, .int a1), (2, .int a2), (3, .int a3)]) d_H_idleAt_17 (by decide) (by simp [List.filter, y_cat, y_catI, y_catJ]) ?_
      refine y_aload C (i := 4) 0 d_H_idleAt_19 rfl ?_
      obtain ⟨q5, hq5, h⟩ := ob_e h
      have hJq5 : yG p l e ({ frames := 2, cells := 0, slots := 0, locals := 44 } : Room) s m args below meth c YX w 5 Q q5.2 44 [(0, va_re w.1 a0), (1, .int a1), (2, .int q5.1), (3, .int a3)] [] := by
        refine y_iinc C (j := 3) (v := 1) (lvp := [(0, va_re w.1 a0), (1, .int a1), (2, .int q5.1)]) d_H_idleAt_44 rfl (by decide) (by decide) rfl h (fun x13 h => ?_)
        refine y_goto C (tgt := 4) d_H_idleAt_47 (by decide) ?_
        exact y_sub [1, 2, 3, 0] rfl (ih _ _ _ h)
      refine y_ifnull C 44 d_H_idleAt_21 (by decide) hq5 (fun k6 hq5 => ?_) (fun k6 hq5 => ?_)
      · cases hq5
        exact y_sub [1, 2, 3, 4] rfl hJq5
      · refine y_aload C (i := 4) 0 d_H_idleAt_24 rfl ?_
        refine y_gi C (q := (yR0, yT0, 8)) (ci := 0) (k := 4) rfl (by decide) rfl g_53 d_H_idleAt_26 hq5 (fun x7 hq5 => ?_)
        refine y_iload_n C (i := 1) 2 d_H_idleAt_29 rfl rfl ?_
        refine y_ic_ne C 44 d_H_idleAt_30 (by decide) hq5 (fun k8 hq5 => ?_) (fun k8 hq5 => ?_)
        · refine y_aload_n C (i := 0) 1 d_H_idleAt_33 rfl rfl ?_
          refine y_iload_n C (i := 3) 4 d_H_idleAt_34 rfl rfl ?_
          refine y_callV 1 C (q := (yR2, yT2, 9)) (ci := 2) (fun t out hh => c_H_isOwned l w F u4 t a3 out hh) gc_H_idleAt_144 rfl (by decide) hd_H_isOwned ⟨Nat.le_of_ble_eq_true rfl, Nat.le_of_ble_eq_true rfl⟩ rfl rfl rfl rfl (by simp [y_cat, y_catI, y_catJ]) d_H_idleAt_35 hq5 (fun x9 u10 hq5 => ?_)
          refine y_stk (stp0 := [.int x9]) rfl ?_
          refine y_if_ne C 44 d_H_idleAt_38 (by decide) hq5 (fun k11 hq5 => ?_) (fun k11 hq5 => ?_)
          · refine y_iinc C (j := 3) (v := 1) (lvp := [(4, va_re w.1 r3), (0, va_re w.1 a0), (1, .int a1), (3, .int a3)]) d_H_idleAt_41 rfl (by decide) (by decide) rfl hq5 (fun x12 hq5 => ?_)
            cases hq5
            exact y_sub [2, 3, 0, 4] rfl hJq5
          · cases hq5
            exact y_sub [1, 2, 3, 4] rfl hJq5
        · cases hq5
          exact y_sub [1, 2, 3, 4] rfl hJq5
set_option maxRecDepth 100000 in
def f_H_idleAt (F : Nat) (u : Mm) (o : Nat) (a1 : Int32) : Option (Int32 × Mm) := f_H_idleAt_L4 F (some o) a1 (fun (u14 : Mm) (x15 : Int32) => some (x15, u14)) F u (0 : Int32) (0 : Int32)
set_option maxHeartbeats 4000000 in
set_option maxRecDepth 100000 in
theorem c_H_idleAt (l : Launch) (w : WP) (F : Nat) (u : Mm) (o : Nat) (a1 : Int32) (out : Int32 × Mm) (h : f_H_idleAt F u o a1 = some out) : yMet l m_H_idleAt ws_H_idleAt ({ frames := 2, cells := 0, slots := 0, locals := 44 } : Room) YX w u [va_re w.1 (some o), .int a1] yfi out := by
  refine y_entry (own := "WhoseGlass$House") (lv := [(0, va_re w.1 (some o)), (1, .int a1)]) (by decide +kernel) rfl (by simp [lv_args, y_cat, y_catI, y_catJ]) (by simp [lg_sl, y_cat, y_catI, y_catJ]) ?_
  intro p e s m args below meth c C hr hlocks
  unfold f_H_idleAt at h
  refine y_iconst C (v := 0) d_H_idleAt_0 (by decide) ?_
  refine y_istore_n C (i := 2) (lvp := [(0, va_re w.1 (some o)), (1, .int a1)]) d_H_idleAt_1 rfl (by decide) rfl ?_
  refine y_iconst C (v := 0) d_H_idleAt_2 (by decide) ?_
  refine y_istore_n C (i := 3) (lvp := [(2, .int (0 : Int32)), (0, va_re w.1 (some o)), (1, .int a1)]) d_H_idleAt_3 rfl (by decide) rfl ?_
  refine y_sub [2, 3, 1, 0] rfl (w_H_idleAt_L4 F C hr hlocks _ _ _ (fun u14 x15 h => ?_) _ _ _ _ h)
  refine y_iload_n C (i := 2) 0 d_H_idleAt_50 rfl rfl ?_
  exact y_iret C hr hlocks d_H_idleAt_51 h
/-! X_idle -/
theorem d_X_idle_0 : decode prog_1_method_16_code 0 = .ok (.iload_n 1, 1) := by decide +kernel
theorem d_X_idle_1 : decode prog_1_method_16_code 1 = .ok (.bipush 6, 2) := by decide +kernel
theorem d_X_idle_3 : decode prog_1_method_16_code 3 = .ok (.invokestatic 78, 3) := by decide +kernel
theorem d_X_idle_6 : decode prog_1_method_16_code 6 = .ok (.ifCond .eq 14, 3) := by decide +kernel
theorem d_X_idle_9 : decode prog_1_method_16_code 9 = .ok (.aload_n 0, 1) := by decide +kernel
theorem d_X_idle_10 : decode prog_1_method_16_code 10 = .ok (.getfield 10, 3) := by decide +kernel
theorem d_X_idle_13 : decode prog_1_method_16_code 13 = .ok (.iload_n 1, 1) := by decide +kernel
theorem d_X_idle_14 : decode prog_1_method_16_code 14 = .ok (.invokevirtual 156, 3) := by decide +kernel
theorem d_X_idle_17 : decode prog_1_method_16_code 17 = .ok (.goto 4, 3) := by decide +kernel
theorem d_X_idle_20 : decode prog_1_method_16_code 20 = .ok (.iconst (-1), 1) := by decide +kernel
theorem d_X_idle_21 : decode prog_1_method_16_code 21 = .ok (.ireturn, 1) := by decide +kernel
theorem gc_X_idle_156 : GoodIn yGW (wsV "WhoseGlass" 156 yR2 m_H_idleAt ws_H_idleAt) := y_gV g_467 g_468 g_469 g_2 g_470
set_option maxRecDepth 100000 in
def f_X_idle (F : Nat) (u : Mm) (o : Nat) (a1 : Int32) : Option (Int32 × Mm) := yb (f_X_isBelow F u a1 (6 : Int32)) fun x1 u2 => (if x1 = 0 then some ((-1 : Int32), u2) else ob (jgr YX 4 0 (some o)) fun (r4 : Option Nat) => ob (jk YX 2 r4) fun t => yb (f_H_idleAt F u2 t a1) fun x5 u6 => some (x5, u6))
set_option maxHeartbeats 4000000 in
set_option maxRecDepth 100000 in
theorem c_X_idle (l : Launch) (w : WP) (F : Nat) (u : Mm) (o : Nat) (a1 : Int32) (out : Int32 × Mm) (h : f_X_idle F u o a1 = some out) : yMet l m_X_idle ws_X_idle ({ frames := 3, cells := 0, slots := 0, locals := 68 } : Room) YX w u [va_re w.1 (some o), .int a1] yfi out := by
  refine y_entry (own := "WhoseGlass") (lv := [(0, va_re w.1 (some o)), (1, .int a1)]) (by decide +kernel) rfl (by simp [lv_args, y_cat, y_catI, y_catJ]) (by simp [lg_sl, y_cat, y_catI, y_catJ]) ?_
  intro p e s m args below meth c C hr hlocks
  unfold f_X_idle at h
  refine y_iload_n C (i := 1) 1 d_X_idle_0 rfl rfl ?_
  refine y_bipush C (v := 6) d_X_idle_1 (by decide) ?_
  refine y_callS 2 C (fun out hh => c_X_isBelow l w F u a1 (6 : Int32) out hh) (y_gc g_344) g_400 g_1 g_343 hn_X_isBelow ⟨Nat.le_of_ble_eq_true rfl, Nat.le_of_ble_eq_true rfl⟩ rfl rfl rfl rfl (by simp [y_cat, y_catI, y_catJ]) d_X_idle_3 h (fun x1 u2 h => ?_)
  refine y_stk (stp0 := [.int x1]) rfl ?_
  refine y_if_eq C 20 d_X_idle_6 (by decide) h (fun k3 h => ?_) (fun k3 h => ?_)
  · refine y_iconst C (v := -1) d_X_idle_20 (by decide) ?_
    exact y_iret C hr hlocks d_X_idle_21 h
  · refine y_aload_n C (i := 0) 0 d_X_idle_9 rfl rfl ?_
    refine y_gr C (q := (yR4, yT4, 5)) (ci := 4) (k := 0) rfl (by decide) rfl (by decide) g_202 d_X_idle_10 h (fun r4 h => ?_)
    refine y_iload_n C (i := 1) 1 d_X_idle_13 rfl rfl ?_
    refine y_callV 1 C (q := (yR2, yT2, 9)) (ci := 2) (fun t out hh => c_H_idleAt l w F u2 t a1 out hh) gc_X_idle_156 rfl (by decide) hd_H_idleAt ⟨Nat.le_of_ble_eq_true rfl, Nat.le_of_ble_eq_true rfl⟩ rfl rfl rfl rfl (by simp [y_cat, y_catI, y_catJ]) d_X_idle_14 h (fun x5 u6 h => ?_)
    refine y_stk (stp0 := [.int x5]) rfl ?_
    refine y_goto C (tgt := 21) d_X_idle_17 (by decide) ?_
    exact y_iret C hr hlocks d_X_idle_21 h
/-! H_oldestAt -/
theorem d_H_oldestAt_0 : decode prog_4_method_16_code 0 = .ok (.aconst_null, 1) := by decide +kernel
theorem d_H_oldestAt_1 : decode prog_4_method_16_code 1 = .ok (.astore_n 2, 1) := by decide +kernel
theorem d_H_oldestAt_2 : decode prog_4_method_16_code 2 = .ok (.iconst 0, 1) := by decide +kernel
theorem d_H_oldestAt_3 : decode prog_4_method_16_code 3 = .ok (.istore_n 3, 1) := by decide +kernel
theorem d_H_oldestAt_4 : decode prog_4_method_16_code 4 = .ok (.iload_n 3, 1) := by decide +kernel
theorem d_H_oldestAt_5 : decode prog_4_method_16_code 5 = .ok (.aload_n 0, 1) := by decide +kernel
theorem d_H_oldestAt_6 : decode prog_4_method_16_code 6 = .ok (.getfield 34, 3) := by decide +kernel
theorem d_H_oldestAt_9 : decode prog_4_method_16_code 9 = .ok (.if_icmp .ge 52, 3) := by decide +kernel
theorem d_H_oldestAt_12 : decode prog_4_method_16_code 12 = .ok (.aload_n 0, 1) := by decide +kernel
theorem d_H_oldestAt_13 : decode prog_4_method_16_code 13 = .ok (.iload_n 3, 1) := by decide +kernel
theorem d_H_oldestAt_14 : decode prog_4_method_16_code 14 = .ok (.invokevirtual 49, 3) := by decide +kernel
theorem d_H_oldestAt_17 : decode prog_4_method_16_code 17 = .ok (.astore 4, 2) := by decide +kernel
theorem d_H_oldestAt_19 : decode prog_4_method_16_code 19 = .ok (.aload 4, 2) := by decide +kernel
theorem d_H_oldestAt_21 : decode prog_4_method_16_code 21 = .ok (.ifnull 34, 3) := by decide +kernel
theorem d_H_oldestAt_24 : decode prog_4_method_16_code 24 = .ok (.aload 4, 2) := by decide +kernel
theorem d_H_oldestAt_26 : decode prog_4_method_16_code 26 = .ok (.getfield 132, 3) := by decide +kernel
theorem d_H_oldestAt_29 : decode prog_4_method_16_code 29 = .ok (.iload_n 1, 1) := by decide +kernel
theorem d_H_oldestAt_30 : decode prog_4_method_16_code 30 = .ok (.if_icmp .eq 6, 3) := by decide +kernel
theorem d_H_oldestAt_33 : decode prog_4_method_16_code 33 = .ok (.goto 22, 3) := by decide +kernel
theorem d_H_oldestAt_36 : decode prog_4_method_16_code 36 = .ok (.aload_n 2, 1) := by decide +kernel
theorem d_H_oldestAt_37 : decode prog_4_method_16_code 37 = .ok (.ifnull 15, 3) := by decide +kernel
theorem d_H_oldestAt_40 : decode prog_4_method_16_code 40 = .ok (.aload 4, 2) := by decide +kernel
theorem d_H_oldestAt_42 : decode prog_4_method_16_code 42 = .ok (.getfield 138, 3) := by decide +kernel
theorem d_H_oldestAt_45 : decode prog_4_method_16_code 45 = .ok (.aload_n 2, 1) := by decide +kernel
theorem d_H_oldestAt_46 : decode prog_4_method_16_code 46 = .ok (.getfield 138, 3) := by decide +kernel
theorem d_H_oldestAt_49 : decode prog_4_method_16_code 49 = .ok (.if_icmp .ge 6, 3) := by decide +kernel
theorem d_H_oldestAt_52 : decode prog_4_method_16_code 52 = .ok (.aload 4, 2) := by decide +kernel
theorem d_H_oldestAt_54 : decode prog_4_method_16_code 54 = .ok (.astore_n 2, 1) := by decide +kernel
theorem d_H_oldestAt_55 : decode prog_4_method_16_code 55 = .ok (.iinc 3 1, 3) := by decide +kernel
theorem d_H_oldestAt_58 : decode prog_4_method_16_code 58 = .ok (.goto (-54), 3) := by decide +kernel
theorem d_H_oldestAt_61 : decode prog_4_method_16_code 61 = .ok (.aload_n 2, 1) := by decide +kernel
theorem d_H_oldestAt_62 : decode prog_4_method_16_code 62 = .ok (.ifnonnull 8, 3) := by decide +kernel
theorem d_H_oldestAt_65 : decode prog_4_method_16_code 65 = .ok (.bipush (-4), 2) := by decide +kernel
theorem d_H_oldestAt_67 : decode prog_4_method_16_code 67 = .ok (.goto 7, 3) := by decide +kernel
theorem d_H_oldestAt_70 : decode prog_4_method_16_code 70 = .ok (.aload_n 2, 1) := by decide +kernel
theorem d_H_oldestAt_71 : decode prog_4_method_16_code 71 = .ok (.getfield 119, 3) := by decide +kernel
theorem d_H_oldestAt_74 : decode prog_4_method_16_code 74 = .ok (.ireturn, 1) := by decide +kernel
theorem gc_H_oldestAt_49 : GoodIn yGW (wsV "WhoseGlass$House" 49 yR2 m_H_glassAt ws_H_glassAt) := y_gV g_259 g_260 g_261 g_2 g_262
set_option maxHeartbeats 4000000 in
set_option maxRecDepth 100000 in
def f_H_oldestAt_L4 (F : Nat) (a0 : Option Nat) (a1 : Int32) (k : Mm → Option Nat → Option (Int32 × Mm)) : Nat → Mm → Option Nat → Int32 → Option (Int32 × Mm)
  | 0, _, _, _ => none
  | n + 1, u, a2, a3 => ob (jgi YX 2 2 u a0) fun (x1 : Int32) => (if x1 ≤ a3 then k u a2 else ob (jk YX 2 a0) fun t => yb (f_H_glassAt F u t a3) fun r3 u4 => ob ((if r3 = none then some a2 else ob (jgi YX 0 4 u4 r3) fun (x7 : Int32) => (if x7 = a1 then (if a2 = none then some r3 else ob (jgi YX 0 5 u4 r3) fun (x10 : Int32) => ob (jgi YX 0 5 u4 a2) fun (x11 : Int32) => (if x11 ≤ x10 then some a2 else some r3)) else some a2)) : Option ((Option Nat))) fun q5 => ob (some (a3 + (1 : Int32))) fun (x13 : Int32) => f_H_oldestAt_L4 F a0 a1 k n u4 q5 x13)
set_option maxHeartbeats 4000000 in
set_option maxRecDepth 100000 in
theorem w_H_oldestAt_L4 {p : Program} {l : Launch} {e : Env} {s : State} {m : MethodId} {args : Array Value} {below : List Frame} {meth : Method} {c : Code} {w : WP} {Q : State → Prop} (F : Nat) (C : yX p e ({ frames := 1, cells := 0, slots := 0, locals := 21 } : Room) s m args c YX w 5 prog_4_method_16_code "WhoseGlass$House") (hr : meth.sig.returnType = (some .int)) (hlocks : meth.locks = false) (a0 : Option Nat) (a1 : Int32) {out : Int32 × Mm} (k : Mm → Option Nat → Option (Int32 × Mm)) (hk : ∀ (u : Mm) (a2 : Option Nat), k u a2 = some out → yG p l e ({ frames := 1, cells := 0, slots := 0, locals := 21 } : Room) s m args below meth c YX w 5 Q u 61 [(2, va_re w.1 a2)] []) : ∀ (n : Nat) (u : Mm) (a2 : Option Nat) (a3 : Int32), f_H_oldestAt_L4 F a0 a1 k n u a2 a3 = some out → yG p l e ({ frames := 1, cells := 0, slots := 0, locals := 21 } : Room) s m args below meth c YX w 5 Q u 4 [(0, va_re w.1 a0), (1, .int a1), (2, va_re w.1 a2), (3, .int a3)] [] := by
  intro n
  induction n with
  | zero => intro u a2 a3 h; rw [f_H_oldestAt_L4] at h; cases h
  | succ n ih =>
    intro u a2 a3 h
    rw [f_H_oldestAt_L4] at h
    refine y_iload_n C (i := 3) 3 d_H_oldestAt_4 rfl rfl ?_
    refine y_aload_n C (i := 0) 0 d_H_oldestAt_5 rfl rfl ?_
    refine y_gi C (q := (yR2, yT2, 9)) (ci := 2) (k := 2) rfl (by decide) rfl g_133 d_H_oldestAt_6 h (fun x1 h => ?_)
    refine y_ic_ge C 61 d_H_oldestAt_9 (by decide) h (fun k2 h => ?_) (fun k2 h => ?_)
    · exact y_sub [2] rfl (hk _ _ h)
    · refine y_aload_n C (i := 0) 0 d_H_oldestAt_12 rfl rfl ?_
      refine y_iload_n C (i := 3) 3 d_H_oldestAt_13 rfl rfl ?_
      refine y_callV 1 C (q := (yR2, yT2, 9)) (ci := 2) (fun t out hh => c_H_glassAt l w F u t a3 out hh) gc_H_oldestAt_49 rfl (by decide) hd_H_glassAt ⟨Nat.le_of_ble_eq_true rfl, Nat.le_of_ble_eq_true rfl⟩ rfl rfl rfl rfl (by simp [y_cat, y_catI, y_catJ]) d_H_oldestAt_14 h (fun r3 u4 h => ?_)
      refine y_stk (stp0 := [va_re w.1 r3]) rfl ?_
      refine y_astore C (i := 4) (lvp := [(0, va_re w.1 a0), (1, .int a1), (2, va_re w.1 a2), (3, .int a3)]) d_H_oldestAt_17 (by decide) (by simp [List.filter, y_cat, y_catI, y_catJ]) ?_
      refine y_aload C (i := 4) 0 d_H_oldestAt_19 rfl ?_
      obtain ⟨q5, hq5, h⟩ := ob_e h
      have hJq5 : yG p l e ({ frames := 1, cells := 0, slots := 0, locals := 21 } : Room) s m args below meth c YX w 5 Q u4 55 [(0, va_re w.1 a0), (1, .int a1), (2, va_re w.1 q5), (3, .int a3)] [] := by
        refine y_iinc C (j := 3) (v := 1) (lvp := [(0, va_re w.1 a0), (1, .int a1), (2, va_re w.1 q5)]) d_H_oldestAt_55 rfl (by decide) (by decide) (by simp [List.filter, y_cat, y_catI, y_catJ]) h (fun x13 h => ?_)
        refine y_goto C (tgt := 4) d_H_oldestAt_58 (by decide) ?_
        exact y_sub [1, 2, 3, 0] rfl (ih _ _ _ h)
      refine y_ifnull C 55 d_H_oldestAt_21 (by decide) hq5 (fun k6 hq5 => ?_) (fun k6 hq5 => ?_)
      · cases hq5
        exact y_sub [1, 2, 3, 4] rfl hJq5
      · refine y_aload C (i := 4) 0 d_H_oldestAt_24 rfl ?_
        refine y_gi C (q := (yR0, yT0, 8)) (ci := 0) (k := 4) rfl (by decide) rfl g_53 d_H_oldestAt_26 hq5 (fun x7 hq5 => ?_)
        refine y_iload_n C (i := 1) 2 d_H_oldestAt_29 rfl rfl ?_
        refine y_ic_eq C 36 d_H_oldestAt_30 (by decide) hq5 (fun k8 hq5 => ?_) (fun k8 hq5 => ?_)
        · refine y_aload_n C (i := 2) 3 d_H_oldestAt_36 rfl rfl ?_
          refine y_ifnull C 52 d_H_oldestAt_37 (by decide) hq5 (fun k9 hq5 => ?_) (fun k9 hq5 => ?_)
          · refine y_aload C (i := 4) 0 d_H_oldestAt_52 rfl ?_
            refine y_astore_n C (i := 2) (lvp := [(4, va_re w.1 r3), (0, va_re w.1 a0), (1, .int a1), (3, .int a3)]) d_H_oldestAt_54 rfl (by decide) (by simp [List.filter, y_cat, y_catI, y_catJ]) ?_
            cases hq5
            exact y_sub [2, 3, 0, 4] rfl hJq5
          · refine y_aload C (i := 4) 0 d_H_oldestAt_40 rfl ?_
            refine y_gi C (q := (yR0, yT0, 8)) (ci := 0) (k := 5) rfl (by decide) rfl g_56 d_H_oldestAt_42 hq5 (fun x10 hq5 => ?_)
            refine y_aload_n C (i := 2) 3 d_H_oldestAt_45 rfl rfl ?_
            refine y_gi C (q := (yR0, yT0, 8)) (ci := 0) (k := 5) rfl (by decide) rfl g_56 d_H_oldestAt_46 hq5 (fun x11 hq5 => ?_)
            refine y_ic_ge C 55 d_H_oldestAt_49 (by decide) hq5 (fun k12 hq5 => ?_) (fun k12 hq5 => ?_)
            · cases hq5
              exact y_sub [1, 2, 3, 4] rfl hJq5
            · refine y_aload C (i := 4) 0 d_H_oldestAt_52 rfl ?_
              refine y_astore_n C (i := 2) (lvp := [(4, va_re w.1 r3), (0, va_re w.1 a0), (1, .int a1), (3, .int a3)]) d_H_oldestAt_54 rfl (by decide) (by simp [List.filter, y_cat, y_catI, y_catJ]) ?_
              cases hq5
              exact y_sub [2, 3, 0, 4] rfl hJq5
        · refine y_goto C (tgt := 55) d_H_oldestAt_33 (by decide) ?_
          cases hq5
          exact y_sub [1, 2, 3, 4] rfl hJq5
set_option maxRecDepth 100000 in
def f_H_oldestAt (F : Nat) (u : Mm) (o : Nat) (a1 : Int32) : Option (Int32 × Mm) := f_H_oldestAt_L4 F (some o) a1 (fun (u14 : Mm) (r15 : Option Nat) => (if r15 = none then some ((-4 : Int32), u14) else ob (jgi YX 0 0 u14 r15) fun (x17 : Int32) => some (x17, u14))) F u none (0 : Int32)
set_option maxHeartbeats 4000000 in
set_option maxRecDepth 100000 in
theorem c_H_oldestAt (l : Launch) (w : WP) (F : Nat) (u : Mm) (o : Nat) (a1 : Int32) (out : Int32 × Mm) (h : f_H_oldestAt F u o a1 = some out) : yMet l m_H_oldestAt ws_H_oldestAt ({ frames := 1, cells := 0, slots := 0, locals := 21 } : Room) YX w u [va_re w.1 (some o), .int a1] yfi out := by
  refine y_entry (own := "WhoseGlass$House") (lv := [(0, va_re w.1 (some o)), (1, .int a1)]) (by decide +kernel) rfl (by simp [lv_args, y_cat, y_catI, y_catJ]) (by simp [lg_sl, y_cat, y_catI, y_catJ]) ?_
  intro p e s m args below meth c C hr hlocks
  unfold f_H_oldestAt at h
  refine y_null C d_H_oldestAt_0 ?_
  refine y_astore_n C (i := 2) (lvp := [(0, va_re w.1 (some o)), (1, .int a1)]) d_H_oldestAt_1 rfl (by decide) (by simp [List.filter, y_cat, y_catI, y_catJ]) ?_
  refine y_iconst C (v := 0) d_H_oldestAt_2 (by decide) ?_
  refine y_istore_n C (i := 3) (lvp := [(2, va_re w.1 none), (0, va_re w.1 (some o)), (1, .int a1)]) d_H_oldestAt_3 rfl (by decide) (by simp [List.filter, y_cat, y_catI, y_catJ]) ?_
  refine y_sub [2, 3, 1, 0] rfl (w_H_oldestAt_L4 F C hr hlocks _ _ _ (fun u14 r15 h => ?_) _ _ _ _ h)
  refine y_aload_n C (i := 2) 0 d_H_oldestAt_61 rfl rfl ?_
  refine y_ifnonnull C 70 d_H_oldestAt_62 (by decide) h (fun k16 h => ?_) (fun k16 h => ?_)
  · refine y_bipush C (v := -4) d_H_oldestAt_65 (by decide) ?_
    refine y_goto C (tgt := 74) d_H_oldestAt_67 (by decide) ?_
    exact y_iret C hr hlocks d_H_oldestAt_74 h
  · refine y_aload_n C (i := 2) 0 d_H_oldestAt_70 rfl rfl ?_
    refine y_gi C (q := (yR0, yT0, 8)) (ci := 0) (k := 0) rfl (by decide) rfl g_42 d_H_oldestAt_71 h (fun x17 h => ?_)
    exact y_iret C hr hlocks d_H_oldestAt_74 h
/-! X_oldest -/
theorem d_X_oldest_0 : decode prog_1_method_17_code 0 = .ok (.iload_n 1, 1) := by decide +kernel
theorem d_X_oldest_1 : decode prog_1_method_17_code 1 = .ok (.bipush 6, 2) := by decide +kernel
theorem d_X_oldest_3 : decode prog_1_method_17_code 3 = .ok (.invokestatic 78, 3) := by decide +kernel
theorem d_X_oldest_6 : decode prog_1_method_17_code 6 = .ok (.ifCond .eq 14, 3) := by decide +kernel
theorem d_X_oldest_9 : decode prog_1_method_17_code 9 = .ok (.aload_n 0, 1) := by decide +kernel
theorem d_X_oldest_10 : decode prog_1_method_17_code 10 = .ok (.getfield 10, 3) := by decide +kernel
theorem d_X_oldest_13 : decode prog_1_method_17_code 13 = .ok (.iload_n 1, 1) := by decide +kernel
theorem d_X_oldest_14 : decode prog_1_method_17_code 14 = .ok (.invokevirtual 159, 3) := by decide +kernel
theorem d_X_oldest_17 : decode prog_1_method_17_code 17 = .ok (.goto 4, 3) := by decide +kernel
theorem d_X_oldest_20 : decode prog_1_method_17_code 20 = .ok (.iconst (-1), 1) := by decide +kernel
theorem d_X_oldest_21 : decode prog_1_method_17_code 21 = .ok (.ireturn, 1) := by decide +kernel
theorem gc_X_oldest_159 : GoodIn yGW (wsV "WhoseGlass" 159 yR2 m_H_oldestAt ws_H_oldestAt) := y_gV g_479 g_480 g_481 g_2 g_482
set_option maxRecDepth 100000 in
def f_X_oldest (F : Nat) (u : Mm) (o : Nat) (a1 : Int32) : Option (Int32 × Mm) := yb (f_X_isBelow F u a1 (6 : Int32)) fun x1 u2 => (if x1 = 0 then some ((-1 : Int32), u2) else ob (jgr YX 4 0 (some o)) fun (r4 : Option Nat) => ob (jk YX 2 r4) fun t => yb (f_H_oldestAt F u2 t a1) fun x5 u6 => some (x5, u6))
set_option maxHeartbeats 4000000 in
set_option maxRecDepth 100000 in
theorem c_X_oldest (l : Launch) (w : WP) (F : Nat) (u : Mm) (o : Nat) (a1 : Int32) (out : Int32 × Mm) (h : f_X_oldest F u o a1 = some out) : yMet l m_X_oldest ws_X_oldest ({ frames := 2, cells := 0, slots := 0, locals := 45 } : Room) YX w u [va_re w.1 (some o), .int a1] yfi out := by
  refine y_entry (own := "WhoseGlass") (lv := [(0, va_re w.1 (some o)), (1, .int a1)]) (by decide +kernel) rfl (by simp [lv_args, y_cat, y_catI, y_catJ]) (by simp [lg_sl, y_cat, y_catI, y_catJ]) ?_
  intro p e s m args below meth c C hr hlocks
  unfold f_X_oldest at h
  refine y_iload_n C (i := 1) 1 d_X_oldest_0 rfl rfl ?_
  refine y_bipush C (v := 6) d_X_oldest_1 (by decide) ?_
  refine y_callS 2 C (fun out hh => c_X_isBelow l w F u a1 (6 : Int32) out hh) (y_gc g_344) g_400 g_1 g_343 hn_X_isBelow ⟨Nat.le_of_ble_eq_true rfl, Nat.le_of_ble_eq_true rfl⟩ rfl rfl rfl rfl (by simp [y_cat, y_catI, y_catJ]) d_X_oldest_3 h (fun x1 u2 h => ?_)
  refine y_stk (stp0 := [.int x1]) rfl ?_
  refine y_if_eq C 20 d_X_oldest_6 (by decide) h (fun k3 h => ?_) (fun k3 h => ?_)
  · refine y_iconst C (v := -1) d_X_oldest_20 (by decide) ?_
    exact y_iret C hr hlocks d_X_oldest_21 h
  · refine y_aload_n C (i := 0) 0 d_X_oldest_9 rfl rfl ?_
    refine y_gr C (q := (yR4, yT4, 5)) (ci := 4) (k := 0) rfl (by decide) rfl (by decide) g_202 d_X_oldest_10 h (fun r4 h => ?_)
    refine y_iload_n C (i := 1) 1 d_X_oldest_13 rfl rfl ?_
    refine y_callV 1 C (q := (yR2, yT2, 9)) (ci := 2) (fun t out hh => c_H_oldestAt l w F u2 t a1 out hh) gc_X_oldest_159 rfl (by decide) hd_H_oldestAt ⟨Nat.le_of_ble_eq_true rfl, Nat.le_of_ble_eq_true rfl⟩ rfl rfl rfl rfl (by simp [y_cat, y_catI, y_catJ]) d_X_oldest_14 h (fun x5 u6 h => ?_)
    refine y_stk (stp0 := [.int x5]) rfl ?_
    refine y_goto C (tgt := 21) d_X_oldest_17 (by decide) ?_
    exact y_iret C hr hlocks d_X_oldest_21 h
/-! X_isSpan -/
theorem d_X_isSpan_0 : decode prog_1_method_43_code 0 = .ok (.iload_n 0, 1) := by decide +kernel
theorem d_X_isSpan_1 : decode prog_1_method_43_code 1 = .ok (.ifCond .lt 13, 3) := by decide +kernel
theorem d_X_isSpan_4 : decode prog_1_method_43_code 4 = .ok (.iload_n 0, 1) := by decide +kernel
theorem d_X_isSpan_5 : decode prog_1_method_43_code 5 = .ok (.bipush 60, 2) := by decide +kernel
theorem d_X_isSpan_7 : decode prog_1_method_43_code 7 = .ok (.if_icmp .gt 7, 3) := by decide +kernel
theorem d_X_isSpan_10 : decode prog_1_method_43_code 10 = .ok (.iconst 1, 1) := by decide +kernel
theorem d_X_isSpan_11 : decode prog_1_method_43_code 11 = .ok (.goto 4, 3) := by decide +kernel
theorem d_X_isSpan_14 : decode prog_1_method_43_code 14 = .ok (.iconst 0, 1) := by decide +kernel
theorem d_X_isSpan_15 : decode prog_1_method_43_code 15 = .ok (.ireturn, 1) := by decide +kernel
set_option maxRecDepth 100000 in
def f_X_isSpan (F : Nat) (u : Mm) (a0 : Int32) : Option (Int32 × Mm) := (if a0 < 0 then ob (jz (0 : Int32)) (fun v => some (v, u)) else (if (60 : Int32) < a0 then ob (jz (0 : Int32)) (fun v => some (v, u)) else ob (jz (1 : Int32)) (fun v => some (v, u))))
set_option maxHeartbeats 4000000 in
set_option maxRecDepth 100000 in
theorem c_X_isSpan (l : Launch) (w : WP) (F : Nat) (u : Mm) (a0 : Int32) (out : Int32 × Mm) (h : f_X_isSpan F u a0 = some out) : yMet l m_X_isSpan ws_X_isSpan ({ frames := 0, cells := 0, slots := 0, locals := 0 } : Room) YX w u [.int a0] yfi out := by
  refine y_entry (own := "WhoseGlass") (lv := [(0, .int a0)]) (by decide +kernel) rfl (by simp [lv_args, y_cat, y_catI, y_catJ]) (by simp [lg_sl, y_cat, y_catI, y_catJ]) ?_
  intro p e s m args below meth c C hr hlocks
  unfold f_X_isSpan at h
  refine y_iload_n C (i := 0) 0 d_X_isSpan_0 rfl rfl ?_
  refine y_if_lt C 14 d_X_isSpan_1 (by decide) h (fun k1 h => ?_) (fun k1 h => ?_)
  · refine y_iconst C (v := 0) d_X_isSpan_14 (by decide) ?_
    exact y_zret C hr hlocks d_X_isSpan_15 h
  · refine y_iload_n C (i := 0) 0 d_X_isSpan_4 rfl rfl ?_
    refine y_bipush C (v := 60) d_X_isSpan_5 (by decide) ?_
    refine y_ic_gt C 14 d_X_isSpan_7 (by decide) h (fun k2 h => ?_) (fun k2 h => ?_)
    · refine y_iconst C (v := 0) d_X_isSpan_14 (by decide) ?_
      exact y_zret C hr hlocks d_X_isSpan_15 h
    · refine y_iconst C (v := 1) d_X_isSpan_10 (by decide) ?_
      refine y_goto C (tgt := 15) d_X_isSpan_11 (by decide) ?_
      exact y_zret C hr hlocks d_X_isSpan_15 h
/-! X_ahead -/
theorem d_X_ahead_0 : decode prog_1_method_46_code 0 = .ok (.aload_n 0, 1) := by decide +kernel
theorem d_X_ahead_1 : decode prog_1_method_46_code 1 = .ok (.getfield 16, 3) := by decide +kernel
theorem d_X_ahead_4 : decode prog_1_method_46_code 4 = .ok (.aload_n 0, 1) := by decide +kernel
theorem d_X_ahead_5 : decode prog_1_method_46_code 5 = .ok (.getfield 10, 3) := by decide +kernel
theorem d_X_ahead_8 : decode prog_1_method_46_code 8 = .ok (.invokevirtual 50, 3) := by decide +kernel
theorem d_X_ahead_11 : decode prog_1_method_46_code 11 = .ok (.aload_n 0, 1) := by decide +kernel
theorem d_X_ahead_12 : decode prog_1_method_46_code 12 = .ok (.getfield 16, 3) := by decide +kernel
theorem d_X_ahead_15 : decode prog_1_method_46_code 15 = .ok (.iload_n 1, 1) := by decide +kernel
theorem d_X_ahead_16 : decode prog_1_method_46_code 16 = .ok (.invokevirtual 135, 3) := by decide +kernel
theorem d_X_ahead_19 : decode prog_1_method_46_code 19 = .ok (.aload_n 0, 1) := by decide +kernel
theorem d_X_ahead_20 : decode prog_1_method_46_code 20 = .ok (.getfield 16, 3) := by decide +kernel
theorem d_X_ahead_23 : decode prog_1_method_46_code 23 = .ok (.areturn, 1) := by decide +kernel
theorem gc_X_ahead_50 : GoodIn yGW (wsV "WhoseGlass" 50 yR2 m_H_become ws_H_become) := y_gV g_255 g_256 g_257 g_2 g_258
theorem gc_X_ahead_135 : GoodIn yGW (wsV "WhoseGlass" 135 yR2 m_H_passMinutes ws_H_passMinutes) := y_gV g_438 g_279 g_280 g_2 g_281
set_option maxRecDepth 100000 in
def f_X_ahead (F : Nat) (u : Mm) (o : Nat) (a1 : Int32) : Option (Option Nat × Mm) := ob (jgr YX 4 1 (some o)) fun (r1 : Option Nat) => ob (jgr YX 4 0 (some o)) fun (r2 : Option Nat) => ob (jk YX 2 r1) fun t => yb (f_H_become F u t r2) fun v3 u4 => ob (jgr YX 4 1 (some o)) fun (r5 : Option Nat) => ob (jk YX 2 r5) fun t => yb (f_H_passMinutes F u4 t a1) fun v6 u7 => ob (jgr YX 4 1 (some o)) fun (r8 : Option Nat) => some (r8, u7)
set_option maxHeartbeats 4000000 in
set_option maxRecDepth 100000 in
theorem c_X_ahead (l : Launch) (w : WP) (F : Nat) (u : Mm) (o : Nat) (a1 : Int32) (out : Option Nat × Mm) (h : f_X_ahead F u o a1 = some out) : yMet l m_X_ahead ws_X_ahead ({ frames := 5, cells := 0, slots := 0, locals := 125 } : Room) YX w u [va_re w.1 (some o), .int a1] (yfr w) out := by
  refine y_entry (own := "WhoseGlass") (lv := [(0, va_re w.1 (some o)), (1, .int a1)]) (by decide +kernel) rfl (by simp [lv_args, y_cat, y_catI, y_catJ]) (by simp [lg_sl, y_cat, y_catI, y_catJ]) ?_
  intro p e s m args below meth c C hr hlocks
  unfold f_X_ahead at h
  refine y_aload_n C (i := 0) 0 d_X_ahead_0 rfl rfl ?_
  refine y_gr C (q := (yR4, yT4, 5)) (ci := 4) (k := 1) rfl (by decide) rfl (by decide) g_203 d_X_ahead_1 h (fun r1 h => ?_)
  refine y_aload_n C (i := 0) 0 d_X_ahead_4 rfl rfl ?_
  refine y_gr C (q := (yR4, yT4, 5)) (ci := 4) (k := 0) rfl (by decide) rfl (by decide) g_202 d_X_ahead_5 h (fun r2 h => ?_)
  refine y_callV 1 C (q := (yR2, yT2, 9)) (ci := 2) (fun t out hh => c_H_become l w F u t r2 out hh) gc_X_ahead_50 rfl (by decide) hd_H_become ⟨Nat.le_of_ble_eq_true rfl, Nat.le_of_ble_eq_true rfl⟩ rfl rfl rfl rfl (by simp [y_cat, y_catI, y_catJ]) d_X_ahead_8 h (fun v3 u4 h => ?_)
  refine y_stk (stp0 := []) rfl ?_
  refine y_aload_n C (i := 0) 0 d_X_ahead_11 rfl rfl ?_
  refine y_gr C (q := (yR4, yT4, 5)) (ci := 4) (k := 1) rfl (by decide) rfl (by decide) g_203 d_X_ahead_12 h (fun r5 h => ?_)
  refine y_iload_n C (i := 1) 1 d_X_ahead_15 rfl rfl ?_
  refine y_callV 1 C (q := (yR2, yT2, 9)) (ci := 2) (fun t out hh => c_H_passMinutes l w F u4 t a1 out hh) gc_X_ahead_135 rfl (by decide) hd_H_passMinutes ⟨Nat.le_of_ble_eq_true rfl, Nat.le_of_ble_eq_true rfl⟩ rfl rfl rfl rfl (by simp [y_cat, y_catI, y_catJ]) d_X_ahead_16 h (fun v6 u7 h => ?_)
  refine y_stk (stp0 := []) rfl ?_
  refine y_aload_n C (i := 0) 0 d_X_ahead_19 rfl rfl ?_
  refine y_gr C (q := (yR4, yT4, 5)) (ci := 4) (k := 1) rfl (by decide) rfl (by decide) g_203 d_X_ahead_20 h (fun r8 h => ?_)
  exact y_aret C hr hlocks d_X_ahead_23 h
/-! X_mistakes -/
theorem d_X_mistakes_0 : decode prog_1_method_18_code 0 = .ok (.iload_n 1, 1) := by decide +kernel
theorem d_X_mistakes_1 : decode prog_1_method_18_code 1 = .ok (.invokestatic 162, 3) := by decide +kernel
theorem d_X_mistakes_4 : decode prog_1_method_18_code 4 = .ok (.ifCond .eq 14, 3) := by decide +kernel
theorem d_X_mistakes_7 : decode prog_1_method_18_code 7 = .ok (.aload_n 0, 1) := by decide +kernel
theorem d_X_mistakes_8 : decode prog_1_method_18_code 8 = .ok (.iload_n 1, 1) := by decide +kernel
theorem d_X_mistakes_9 : decode prog_1_method_18_code 9 = .ok (.invokevirtual 166, 3) := by decide +kernel
theorem d_X_mistakes_12 : decode prog_1_method_18_code 12 = .ok (.getfield 170, 3) := by decide +kernel
theorem d_X_mistakes_15 : decode prog_1_method_18_code 15 = .ok (.goto 4, 3) := by decide +kernel
theorem d_X_mistakes_18 : decode prog_1_method_18_code 18 = .ok (.iconst (-1), 1) := by decide +kernel
theorem d_X_mistakes_19 : decode prog_1_method_18_code 19 = .ok (.ireturn, 1) := by decide +kernel
theorem gc_X_mistakes_166 : GoodIn yGW (wsV "WhoseGlass" 166 yR4 m_X_ahead ws_X_ahead) := y_gV g_490 g_492 gs_4 g_1 g_493
set_option maxRecDepth 100000 in
def f_X_mistakes (F : Nat) (u : Mm) (o : Nat) (a1 : Int32) : Option (Int32 × Mm) := yb (f_X_isSpan F u a1) fun x1 u2 => (if x1 = 0 then some ((-1 : Int32), u2) else ob (jk YX 4 (some o)) fun t => yb (f_X_ahead F u2 t a1) fun r4 u5 => ob (jgi YX 2 6 u5 r4) fun (x6 : Int32) => some (x6, u5))
set_option maxHeartbeats 4000000 in
set_option maxRecDepth 100000 in
theorem c_X_mistakes (l : Launch) (w : WP) (F : Nat) (u : Mm) (o : Nat) (a1 : Int32) (out : Int32 × Mm) (h : f_X_mistakes F u o a1 = some out) : yMet l m_X_mistakes ws_X_mistakes ({ frames := 6, cells := 0, slots := 0, locals := 146 } : Room) YX w u [va_re w.1 (some o), .int a1] yfi out := by
  refine y_entry (own := "WhoseGlass") (lv := [(0, va_re w.1 (some o)), (1, .int a1)]) (by decide +kernel) rfl (by simp [lv_args, y_cat, y_catI, y_catJ]) (by simp [lg_sl, y_cat, y_catI, y_catJ]) ?_
  intro p e s m args below meth c C hr hlocks
  unfold f_X_mistakes at h
  refine y_iload_n C (i := 1) 1 d_X_mistakes_0 rfl rfl ?_
  refine y_callS 1 C (fun out hh => c_X_isSpan l w F u a1 out hh) (y_gc g_489) g_487 g_1 g_488 hn_X_isSpan ⟨Nat.le_of_ble_eq_true rfl, Nat.le_of_ble_eq_true rfl⟩ rfl rfl rfl rfl (by simp [y_cat, y_catI, y_catJ]) d_X_mistakes_1 h (fun x1 u2 h => ?_)
  refine y_stk (stp0 := [.int x1]) rfl ?_
  refine y_if_eq C 18 d_X_mistakes_4 (by decide) h (fun k3 h => ?_) (fun k3 h => ?_)
  · refine y_iconst C (v := -1) d_X_mistakes_18 (by decide) ?_
    exact y_iret C hr hlocks d_X_mistakes_19 h
  · refine y_aload_n C (i := 0) 0 d_X_mistakes_7 rfl rfl ?_
    refine y_iload_n C (i := 1) 1 d_X_mistakes_8 rfl rfl ?_
    refine y_callV 1 C (q := (yR4, yT4, 5)) (ci := 4) (fun t out hh => c_X_ahead l w F u2 t a1 out hh) gc_X_mistakes_166 rfl (by decide) hd_X_ahead ⟨Nat.le_of_ble_eq_true rfl, Nat.le_of_ble_eq_true rfl⟩ rfl rfl rfl rfl (by simp [y_cat, y_catI, y_catJ]) d_X_mistakes_9 h (fun r4 u5 h => ?_)
    refine y_stk (stp0 := [va_re w.1 r4]) rfl ?_
    refine y_gi C (q := (yR2, yT2, 9)) (ci := 2) (k := 6) rfl (by decide) rfl g_144 d_X_mistakes_12 h (fun x6 h => ?_)
    refine y_goto C (tgt := 19) d_X_mistakes_15 (by decide) ?_
    exact y_iret C hr hlocks d_X_mistakes_19 h
/-! X_fresh -/
theorem d_X_fresh_0 : decode prog_1_method_19_code 0 = .ok (.iload_n 1, 1) := by decide +kernel
theorem d_X_fresh_1 : decode prog_1_method_19_code 1 = .ok (.invokestatic 162, 3) := by decide +kernel
theorem d_X_fresh_4 : decode prog_1_method_19_code 4 = .ok (.ifCond .eq 14, 3) := by decide +kernel
theorem d_X_fresh_7 : decode prog_1_method_19_code 7 = .ok (.aload_n 0, 1) := by decide +kernel
theorem d_X_fresh_8 : decode prog_1_method_19_code 8 = .ok (.iload_n 1, 1) := by decide +kernel
theorem d_X_fresh_9 : decode prog_1_method_19_code 9 = .ok (.invokevirtual 166, 3) := by decide +kernel
theorem d_X_fresh_12 : decode prog_1_method_19_code 12 = .ok (.getfield 173, 3) := by decide +kernel
theorem d_X_fresh_15 : decode prog_1_method_19_code 15 = .ok (.goto 4, 3) := by decide +kernel
theorem d_X_fresh_18 : decode prog_1_method_19_code 18 = .ok (.iconst (-1), 1) := by decide +kernel
theorem d_X_fresh_19 : decode prog_1_method_19_code 19 = .ok (.ireturn, 1) := by decide +kernel
theorem gc_X_fresh_166 : GoodIn yGW (wsV "WhoseGlass" 166 yR4 m_X_ahead ws_X_ahead) := y_gV g_490 g_492 gs_4 g_1 g_493
set_option maxRecDepth 100000 in
def f_X_fresh (F : Nat) (u : Mm) (o : Nat) (a1 : Int32) : Option (Int32 × Mm) := yb (f_X_isSpan F u a1) fun x1 u2 => (if x1 = 0 then some ((-1 : Int32), u2) else ob (jk YX 4 (some o)) fun t => yb (f_X_ahead F u2 t a1) fun r4 u5 => ob (jgi YX 2 7 u5 r4) fun (x6 : Int32) => some (x6, u5))
set_option maxHeartbeats 4000000 in
set_option maxRecDepth 100000 in
theorem c_X_fresh (l : Launch) (w : WP) (F : Nat) (u : Mm) (o : Nat) (a1 : Int32) (out : Int32 × Mm) (h : f_X_fresh F u o a1 = some out) : yMet l m_X_fresh ws_X_fresh ({ frames := 6, cells := 0, slots := 0, locals := 146 } : Room) YX w u [va_re w.1 (some o), .int a1] yfi out := by
  refine y_entry (own := "WhoseGlass") (lv := [(0, va_re w.1 (some o)), (1, .int a1)]) (by decide +kernel) rfl (by simp [lv_args, y_cat, y_catI, y_catJ]) (by simp [lg_sl, y_cat, y_catI, y_catJ]) ?_
  intro p e s m args below meth c C hr hlocks
  unfold f_X_fresh at h
  refine y_iload_n C (i := 1) 1 d_X_fresh_0 rfl rfl ?_
  refine y_callS 1 C (fun out hh => c_X_isSpan l w F u a1 out hh) (y_gc g_489) g_487 g_1 g_488 hn_X_isSpan ⟨Nat.le_of_ble_eq_true rfl, Nat.le_of_ble_eq_true rfl⟩ rfl rfl rfl rfl (by simp [y_cat, y_catI, y_catJ]) d_X_fresh_1 h (fun x1 u2 h => ?_)
  refine y_stk (stp0 := [.int x1]) rfl ?_
  refine y_if_eq C 18 d_X_fresh_4 (by decide) h (fun k3 h => ?_) (fun k3 h => ?_)
  · refine y_iconst C (v := -1) d_X_fresh_18 (by decide) ?_
    exact y_iret C hr hlocks d_X_fresh_19 h
  · refine y_aload_n C (i := 0) 0 d_X_fresh_7 rfl rfl ?_
    refine y_iload_n C (i := 1) 1 d_X_fresh_8 rfl rfl ?_
    refine y_callV 1 C (q := (yR4, yT4, 5)) (ci := 4) (fun t out hh => c_X_ahead l w F u2 t a1 out hh) gc_X_fresh_166 rfl (by decide) hd_X_ahead ⟨Nat.le_of_ble_eq_true rfl, Nat.le_of_ble_eq_true rfl⟩ rfl rfl rfl rfl (by simp [y_cat, y_catI, y_catJ]) d_X_fresh_9 h (fun r4 u5 h => ?_)
    refine y_stk (stp0 := [va_re w.1 r4]) rfl ?_
    refine y_gi C (q := (yR2, yT2, 9)) (ci := 2) (k := 7) rfl (by decide) rfl g_146 d_X_fresh_12 h (fun x6 h => ?_)
    refine y_goto C (tgt := 19) d_X_fresh_15 (by decide) ?_
    exact y_iret C hr hlocks d_X_fresh_19 h
/-! H_coldBits -/
theorem d_H_coldBits_0 : decode prog_4_method_17_code 0 = .ok (.iconst 0, 1) := by decide +kernel
theorem d_H_coldBits_1 : decode prog_4_method_17_code 1 = .ok (.istore_n 1, 1) := by decide +kernel
theorem d_H_coldBits_2 : decode prog_4_method_17_code 2 = .ok (.iconst 0, 1) := by decide +kernel
theorem d_H_coldBits_3 : decode prog_4_method_17_code 3 = .ok (.istore_n 2, 1) := by decide +kernel
theorem d_H_coldBits_4 : decode prog_4_method_17_code 4 = .ok (.iload_n 2, 1) := by decide +kernel
theorem d_H_coldBits_5 : decode prog_4_method_17_code 5 = .ok (.aload_n 0, 1) := by decide +kernel
theorem d_H_coldBits_6 : decode prog_4_method_17_code 6 = .ok (.getfield 37, 3) := by decide +kernel
theorem d_H_coldBits_9 : decode prog_4_method_17_code 9 = .ok (.if_icmp .ge 32, 3) := by decide +kernel
theorem d_H_coldBits_12 : decode prog_4_method_17_code 12 = .ok (.aload_n 0, 1) := by decide +kernel
theorem d_H_coldBits_13 : decode prog_4_method_17_code 13 = .ok (.iload_n 2, 1) := by decide +kernel
theorem d_H_coldBits_14 : decode prog_4_method_17_code 14 = .ok (.invokevirtual 57, 3) := by decide +kernel
theorem d_H_coldBits_17 : decode prog_4_method_17_code 17 = .ok (.astore_n 3, 1) := by decide +kernel
theorem d_H_coldBits_18 : decode prog_4_method_17_code 18 = .ok (.aload_n 3, 1) := by decide +kernel
theorem d_H_coldBits_19 : decode prog_4_method_17_code 19 = .ok (.ifnull 16, 3) := by decide +kernel
theorem d_H_coldBits_22 : decode prog_4_method_17_code 22 = .ok (.aload_n 3, 1) := by decide +kernel
theorem d_H_coldBits_23 : decode prog_4_method_17_code 23 = .ok (.getfield 148, 3) := by decide +kernel
theorem d_H_coldBits_26 : decode prog_4_method_17_code 26 = .ok (.ifCond .eq 9, 3) := by decide +kernel
theorem d_H_coldBits_29 : decode prog_4_method_17_code 29 = .ok (.iload_n 1, 1) := by decide +kernel
theorem d_H_coldBits_30 : decode prog_4_method_17_code 30 = .ok (.iconst 1, 1) := by decide +kernel
theorem d_H_coldBits_31 : decode prog_4_method_17_code 31 = .ok (.iload_n 2, 1) := by decide +kernel
theorem d_H_coldBits_32 : decode prog_4_method_17_code 32 = .ok (.ishl, 1) := by decide +kernel
theorem d_H_coldBits_33 : decode prog_4_method_17_code 33 = .ok (.ior, 1) := by decide +kernel
theorem d_H_coldBits_34 : decode prog_4_method_17_code 34 = .ok (.istore_n 1, 1) := by decide +kernel
theorem d_H_coldBits_35 : decode prog_4_method_17_code 35 = .ok (.iinc 2 1, 3) := by decide +kernel
theorem d_H_coldBits_38 : decode prog_4_method_17_code 38 = .ok (.goto (-34), 3) := by decide +kernel
theorem d_H_coldBits_41 : decode prog_4_method_17_code 41 = .ok (.iload_n 1, 1) := by decide +kernel
theorem d_H_coldBits_42 : decode prog_4_method_17_code 42 = .ok (.ireturn, 1) := by decide +kernel
theorem gc_H_coldBits_57 : GoodIn yGW (wsV "WhoseGlass$House" 57 yR2 m_H_guestAt ws_H_guestAt) := y_gV g_267 g_268 g_269 g_2 g_270
set_option maxHeartbeats 4000000 in
set_option maxRecDepth 100000 in
def f_H_coldBits_L4 (F : Nat) (a0 : Option Nat) (k : Mm → Int32 → Option (Int32 × Mm)) : Nat → Mm → Int32 → Int32 → Option (Int32 × Mm)
  | 0, _, _, _ => none
  | n + 1, u, a1, a2 => ob (jgi YX 2 3 u a0) fun (x1 : Int32) => (if x1 ≤ a2 then k u a1 else ob (jk YX 2 a0) fun t => yb (f_H_guestAt F u t a2) fun r3 u4 => ob ((if r3 = none then some a1 else ob (jgi YX 1 9 u4 r3) fun (x7 : Int32) => (if x7 = 0 then some a1 else ob (some (a1 ||| ((1 : Int32) <<< (a2 &&& 31)))) fun (x9 : Int32) => some x9)) : Option (Int32)) fun q5 => ob (some (a2 + (1 : Int32))) fun (x10 : Int32) => f_H_coldBits_L4 F a0 k n u4 q5 x10)
set_option maxHeartbeats 4000000 in
set_option maxRecDepth 100000 in
theorem w_H_coldBits_L4 {p : Program} {l : Launch} {e : Env} {s : State} {m : MethodId} {args : Array Value} {below : List Frame} {meth : Method} {c : Code} {w : WP} {Q : State → Prop} (F : Nat) (C : yX p e ({ frames := 1, cells := 0, slots := 0, locals := 21 } : Room) s m args c YX w 4 prog_4_method_17_code "WhoseGlass$House") (hr : meth.sig.returnType = (some .int)) (hlocks : meth.locks = false) (a0 : Option Nat) {out : Int32 × Mm} (k : Mm → Int32 → Option (Int32 × Mm)) (hk : ∀ (u : Mm) (a1 : Int32), k u a1 = some out → yG p l e ({ frames := 1, cells := 0, slots := 0, locals := 21 } : Room) s m args below meth c YX w 4 Q u 41 [(1, .int a1)] []) : ∀ (n : Nat) (u : Mm) (a1 : Int32) (a2 : Int32), f_H_coldBits_L4 F a0 k n u a1 a2 = some out → yG p l e ({ frames := 1, cells := 0, slots := 0, locals := 21 } : Room) s m args below meth c YX w 4 Q u 4 [(0, va_re w.1 a0), (1, .int a1), (2, .int a2)] [] := by
  intro n
  induction n with
  | zero => intro u a1 a2 h; rw [f_H_coldBits_L4] at h; cases h
  | succ n ih =>
    intro u a1 a2 h
    rw [f_H_coldBits_L4] at h
    refine y_iload_n C (i := 2) 2 d_H_coldBits_4 rfl rfl ?_
    refine y_aload_n C (i := 0) 0 d_H_coldBits_5 rfl rfl ?_
    refine y_gi C (q := (yR2, yT2, 9)) (ci := 2) (k := 3) rfl (by decide) rfl g_135 d_H_coldBits_6 h (fun x1 h => ?_)
    refine y_ic_ge C 41 d_H_coldBits_9 (by decide) h (fun k2 h => ?_) (fun k2 h => ?_)
    · exact y_sub [1] rfl (hk _ _ h)
    · refine y_aload_n C (i := 0) 0 d_H_coldBits_12 rfl rfl ?_
      refine y_iload_n C (i := 2) 2 d_H_coldBits_13 rfl rfl ?_
      refine y_callV 1 C (q := (yR2, yT2, 9)) (ci := 2) (fun t out hh => c_H_guestAt l w F u t a2 out hh) gc_H_coldBits_57 rfl (by decide) hd_H_guestAt ⟨Nat.le_of_ble_eq_true rfl, Nat.le_of_ble_eq_true rfl⟩ rfl rfl rfl rfl (by simp [y_cat, y_catI, y_catJ]) d_H_coldBits_14 h (fun r3 u4 h => ?_)
      refine y_stk (stp0 := [va_re w.1 r3]) rfl ?_
      refine y_astore_n C (i := 3) (lvp := [(0, va_re w.1 a0), (1, .int a1), (2, .int a2)]) d_H_coldBits_17 rfl (by decide) (by simp [List.filter, y_cat, y_catI, y_catJ]) ?_
      refine y_aload_n C (i := 3) 0 d_H_coldBits_18 rfl rfl ?_
      obtain ⟨q5, hq5, h⟩ := ob_e h
      have hJq5 : yG p l e ({ frames := 1, cells := 0, slots := 0, locals := 21 } : Room) s m args below meth c YX w 4 Q u4 35 [(0, va_re w.1 a0), (1, .int q5), (2, .int a2)] [] := by
        refine y_iinc C (j := 2) (v := 1) (lvp := [(0, va_re w.1 a0), (1, .int q5)]) d_H_coldBits_35 rfl (by decide) (by decide) rfl h (fun x10 h => ?_)
        refine y_goto C (tgt := 4) d_H_coldBits_38 (by decide) ?_
        exact y_sub [1, 2, 0] rfl (ih _ _ _ h)
      refine y_ifnull C 35 d_H_coldBits_19 (by decide) hq5 (fun k6 hq5 => ?_) (fun k6 hq5 => ?_)
      · cases hq5
        exact y_sub [1, 2, 3] rfl hJq5
      · refine y_aload_n C (i := 3) 0 d_H_coldBits_22 rfl rfl ?_
        refine y_gi C (q := (yR1, yT1, 10)) (ci := 1) (k := 9) rfl (by decide) rfl g_109 d_H_coldBits_23 hq5 (fun x7 hq5 => ?_)
        refine y_if_eq C 35 d_H_coldBits_26 (by decide) hq5 (fun k8 hq5 => ?_) (fun k8 hq5 => ?_)
        · cases hq5
          exact y_sub [1, 2, 3] rfl hJq5
        · refine y_iload_n C (i := 1) 2 d_H_coldBits_29 rfl rfl ?_
          refine y_iconst C (v := 1) d_H_coldBits_30 (by decide) ?_
          refine y_iload_n C (i := 2) 3 d_H_coldBits_31 rfl rfl ?_
          refine y_ishl C d_H_coldBits_32 ?_
          refine y_ior C d_H_coldBits_33 ?_
          refine y_istore_nB C (i := 1) (lvp := [(3, va_re w.1 r3), (0, va_re w.1 a0), (2, .int a2)]) d_H_coldBits_34 rfl (by decide) (by simp [List.filter, y_cat, y_catI, y_catJ]) hq5 (fun x9 hq5 => ?_)
          cases hq5
          exact y_sub [2, 0, 3] rfl hJq5
set_option maxRecDepth 100000 in
def f_H_coldBits (F : Nat) (u : Mm) (o : Nat) : Option (Int32 × Mm) := f_H_coldBits_L4 F (some o) (fun (u11 : Mm) (x12 : Int32) => some (x12, u11)) F u (0 : Int32) (0 : Int32)
set_option maxHeartbeats 4000000 in
set_option maxRecDepth 100000 in
theorem c_H_coldBits (l : Launch) (w : WP) (F : Nat) (u : Mm) (o : Nat) (out : Int32 × Mm) (h : f_H_coldBits F u o = some out) : yMet l m_H_coldBits ws_H_coldBits ({ frames := 1, cells := 0, slots := 0, locals := 21 } : Room) YX w u [va_re w.1 (some o)] yfi out := by
  refine y_entry (own := "WhoseGlass$House") (lv := [(0, va_re w.1 (some o))]) (by decide +kernel) rfl (by simp [lv_args, y_cat, y_catI, y_catJ]) (by simp [lg_sl, y_cat, y_catI, y_catJ]) ?_
  intro p e s m args below meth c C hr hlocks
  unfold f_H_coldBits at h
  refine y_iconst C (v := 0) d_H_coldBits_0 (by decide) ?_
  refine y_istore_n C (i := 1) (lvp := [(0, va_re w.1 (some o))]) d_H_coldBits_1 rfl (by decide) (by simp [List.filter, y_cat, y_catI, y_catJ]) ?_
  refine y_iconst C (v := 0) d_H_coldBits_2 (by decide) ?_
  refine y_istore_n C (i := 2) (lvp := [(1, .int (0 : Int32)), (0, va_re w.1 (some o))]) d_H_coldBits_3 rfl (by decide) rfl ?_
  refine y_sub [2, 1, 0] rfl (w_H_coldBits_L4 F C hr hlocks _ _ (fun u11 x12 h => ?_) _ _ _ _ h)
  refine y_iload_n C (i := 1) 0 d_H_coldBits_41 rfl rfl ?_
  exact y_iret C hr hlocks d_H_coldBits_42 h
/-! X_colds -/
theorem d_X_colds_0 : decode prog_1_method_20_code 0 = .ok (.iload_n 1, 1) := by decide +kernel
theorem d_X_colds_1 : decode prog_1_method_20_code 1 = .ok (.invokestatic 162, 3) := by decide +kernel
theorem d_X_colds_4 : decode prog_1_method_20_code 4 = .ok (.ifCond .eq 14, 3) := by decide +kernel
theorem d_X_colds_7 : decode prog_1_method_20_code 7 = .ok (.aload_n 0, 1) := by decide +kernel
theorem d_X_colds_8 : decode prog_1_method_20_code 8 = .ok (.iload_n 1, 1) := by decide +kernel
theorem d_X_colds_9 : decode prog_1_method_20_code 9 = .ok (.invokevirtual 166, 3) := by decide +kernel
theorem d_X_colds_12 : decode prog_1_method_20_code 12 = .ok (.invokevirtual 176, 3) := by decide +kernel
theorem d_X_colds_15 : decode prog_1_method_20_code 15 = .ok (.goto 4, 3) := by decide +kernel
theorem d_X_colds_18 : decode prog_1_method_20_code 18 = .ok (.iconst (-1), 1) := by decide +kernel
theorem d_X_colds_19 : decode prog_1_method_20_code 19 = .ok (.ireturn, 1) := by decide +kernel
theorem gc_X_colds_166 : GoodIn yGW (wsV "WhoseGlass" 166 yR4 m_X_ahead ws_X_ahead) := y_gV g_490 g_492 gs_4 g_1 g_493
theorem gc_X_colds_176 : GoodIn yGW (wsV "WhoseGlass" 176 yR2 m_H_coldBits ws_H_coldBits) := y_gV g_502 g_503 g_504 g_2 g_505
set_option maxRecDepth 100000 in
def f_X_colds (F : Nat) (u : Mm) (o : Nat) (a1 : Int32) : Option (Int32 × Mm) := yb (f_X_isSpan F u a1) fun x1 u2 => (if x1 = 0 then some ((-1 : Int32), u2) else ob (jk YX 4 (some o)) fun t => yb (f_X_ahead F u2 t a1) fun r4 u5 => ob (jk YX 2 r4) fun t => yb (f_H_coldBits F u5 t ) fun x6 u7 => some (x6, u7))
set_option maxHeartbeats 4000000 in
set_option maxRecDepth 100000 in
theorem c_X_colds (l : Launch) (w : WP) (F : Nat) (u : Mm) (o : Nat) (a1 : Int32) (out : Int32 × Mm) (h : f_X_colds F u o a1 = some out) : yMet l m_X_colds ws_X_colds ({ frames := 6, cells := 0, slots := 0, locals := 146 } : Room) YX w u [va_re w.1 (some o), .int a1] yfi out := by
  refine y_entry (own := "WhoseGlass") (lv := [(0, va_re w.1 (some o)), (1, .int a1)]) (by decide +kernel) rfl (by simp [lv_args, y_cat, y_catI, y_catJ]) (by simp [lg_sl, y_cat, y_catI, y_catJ]) ?_
  intro p e s m args below meth c C hr hlocks
  unfold f_X_colds at h
  refine y_iload_n C (i := 1) 1 d_X_colds_0 rfl rfl ?_
  refine y_callS 1 C (fun out hh => c_X_isSpan l w F u a1 out hh) (y_gc g_489) g_487 g_1 g_488 hn_X_isSpan ⟨Nat.le_of_ble_eq_true rfl, Nat.le_of_ble_eq_true rfl⟩ rfl rfl rfl rfl (by simp [y_cat, y_catI, y_catJ]) d_X_colds_1 h (fun x1 u2 h => ?_)
  refine y_stk (stp0 := [.int x1]) rfl ?_
  refine y_if_eq C 18 d_X_colds_4 (by decide) h (fun k3 h => ?_) (fun k3 h => ?_)
  · refine y_iconst C (v := -1) d_X_colds_18 (by decide) ?_
    exact y_iret C hr hlocks d_X_colds_19 h
  · refine y_aload_n C (i := 0) 0 d_X_colds_7 rfl rfl ?_
    refine y_iload_n C (i := 1) 1 d_X_colds_8 rfl rfl ?_
    refine y_callV 1 C (q := (yR4, yT4, 5)) (ci := 4) (fun t out hh => c_X_ahead l w F u2 t a1 out hh) gc_X_colds_166 rfl (by decide) hd_X_ahead ⟨Nat.le_of_ble_eq_true rfl, Nat.le_of_ble_eq_true rfl⟩ rfl rfl rfl rfl (by simp [y_cat, y_catI, y_catJ]) d_X_colds_9 h (fun r4 u5 h => ?_)
    refine y_stk (stp0 := [va_re w.1 r4]) rfl ?_
    refine y_callV 0 C (q := (yR2, yT2, 9)) (ci := 2) (fun t out hh => c_H_coldBits l w F u5 t out hh) gc_X_colds_176 rfl (by decide) hd_H_coldBits ⟨Nat.le_of_ble_eq_true rfl, Nat.le_of_ble_eq_true rfl⟩ rfl rfl rfl rfl (by simp [y_cat, y_catI, y_catJ]) d_X_colds_12 h (fun x6 u7 h => ?_)
    refine y_stk (stp0 := [.int x6]) rfl ?_
    refine y_goto C (tgt := 19) d_X_colds_15 (by decide) ?_
    exact y_iret C hr hlocks d_X_colds_19 h
/-! X_had -/
theorem d_X_had_0 : decode prog_1_method_21_code 0 = .ok (.aload_n 0, 1) := by decide +kernel
theorem d_X_had_1 : decode prog_1_method_21_code 1 = .ok (.getfield 10, 3) := by decide +kernel
theorem d_X_had_4 : decode prog_1_method_21_code 4 = .ok (.iload_n 1, 1) := by decide +kernel
theorem d_X_had_5 : decode prog_1_method_21_code 5 = .ok (.invokevirtual 71, 3) := by decide +kernel
theorem d_X_had_8 : decode prog_1_method_21_code 8 = .ok (.ifnull 10, 3) := by decide +kernel
theorem d_X_had_11 : decode prog_1_method_21_code 11 = .ok (.iload_n 2, 1) := by decide +kernel
theorem d_X_had_12 : decode prog_1_method_21_code 12 = .ok (.invokestatic 162, 3) := by decide +kernel
theorem d_X_had_15 : decode prog_1_method_21_code 15 = .ok (.ifCond .ne 5, 3) := by decide +kernel
theorem d_X_had_18 : decode prog_1_method_21_code 18 = .ok (.iconst (-1), 1) := by decide +kernel
theorem d_X_had_19 : decode prog_1_method_21_code 19 = .ok (.ireturn, 1) := by decide +kernel
theorem d_X_had_20 : decode prog_1_method_21_code 20 = .ok (.aload_n 0, 1) := by decide +kernel
theorem d_X_had_21 : decode prog_1_method_21_code 21 = .ok (.iload_n 2, 1) := by decide +kernel
theorem d_X_had_22 : decode prog_1_method_21_code 22 = .ok (.invokevirtual 166, 3) := by decide +kernel
theorem d_X_had_25 : decode prog_1_method_21_code 25 = .ok (.iload_n 1, 1) := by decide +kernel
theorem d_X_had_26 : decode prog_1_method_21_code 26 = .ok (.invokevirtual 71, 3) := by decide +kernel
theorem d_X_had_29 : decode prog_1_method_21_code 29 = .ok (.astore_n 3, 1) := by decide +kernel
theorem d_X_had_30 : decode prog_1_method_21_code 30 = .ok (.aload_n 3, 1) := by decide +kernel
theorem d_X_had_31 : decode prog_1_method_21_code 31 = .ok (.ifnonnull 7, 3) := by decide +kernel
theorem d_X_had_34 : decode prog_1_method_21_code 34 = .ok (.iconst (-1), 1) := by decide +kernel
theorem d_X_had_35 : decode prog_1_method_21_code 35 = .ok (.goto 7, 3) := by decide +kernel
theorem d_X_had_38 : decode prog_1_method_21_code 38 = .ok (.aload_n 3, 1) := by decide +kernel
theorem d_X_had_39 : decode prog_1_method_21_code 39 = .ok (.getfield 179, 3) := by decide +kernel
theorem d_X_had_42 : decode prog_1_method_21_code 42 = .ok (.ireturn, 1) := by decide +kernel
theorem gc_X_had_71 : GoodIn yGW (wsV "WhoseGlass" 71 yR2 m_H_guestAt ws_H_guestAt) := y_gV g_391 g_268 g_269 g_2 g_270
theorem gc_X_had_166 : GoodIn yGW (wsV "WhoseGlass" 166 yR4 m_X_ahead ws_X_ahead) := y_gV g_490 g_492 gs_4 g_1 g_493
set_option maxRecDepth 100000 in
def f_X_had (F : Nat) (u : Mm) (o : Nat) (a1 : Int32) (a2 : Int32) : Option (Int32 × Mm) := ob (jgr YX 4 0 (some o)) fun (r1 : Option Nat) => ob (jk YX 2 r1) fun t => yb (f_H_guestAt F u t a1) fun r2 u3 => (if r2 = none then some ((-1 : Int32), u3) else yb (f_X_isSpan F u3 a2) fun x5 u6 => (if x5 = 0 then some ((-1 : Int32), u6) else ob (jk YX 4 (some o)) fun t => yb (f_X_ahead F u6 t a2) fun r8 u9 => ob (jk YX 2 r8) fun t => yb (f_H_guestAt F u9 t a1) fun r10 u11 => (if r10 = none then some ((-1 : Int32), u11) else ob (jgi YX 1 8 u11 r10) fun (x13 : Int32) => some (x13, u11))))
set_option maxHeartbeats 4000000 in
set_option maxRecDepth 100000 in
theorem c_X_had (l : Launch) (w : WP) (F : Nat) (u : Mm) (o : Nat) (a1 : Int32) (a2 : Int32) (out : Int32 × Mm) (h : f_X_had F u o a1 a2 = some out) : yMet l m_X_had ws_X_had ({ frames := 6, cells := 0, slots := 0, locals := 146 } : Room) YX w u [va_re w.1 (some o), .int a1, .int a2] yfi out := by
  refine y_entry (own := "WhoseGlass") (lv := [(0, va_re w.1 (some o)), (1, .int a1), (2, .int a2)]) (by decide +kernel) rfl (by simp [lv_args, y_cat, y_catI, y_catJ]) (by simp [lg_sl, y_cat, y_catI, y_catJ]) ?_
  intro p e s m args below meth c C hr hlocks
  unfold f_X_had at h
  refine y_aload_n C (i := 0) 0 d_X_had_0 rfl rfl ?_
  refine y_gr C (q := (yR4, yT4, 5)) (ci := 4) (k := 0) rfl (by decide) rfl (by decide) g_202 d_X_had_1 h (fun r1 h => ?_)
  refine y_iload_n C (i := 1) 1 d_X_had_4 rfl rfl ?_
  refine y_callV 1 C (q := (yR2, yT2, 9)) (ci := 2) (fun t out hh => c_H_guestAt l w F u t a1 out hh) gc_X_had_71 rfl (by decide) hd_H_guestAt ⟨Nat.le_of_ble_eq_true rfl, Nat.le_of_ble_eq_true rfl⟩ rfl rfl rfl rfl (by simp [y_cat, y_catI, y_catJ]) d_X_had_5 h (fun r2 u3 h => ?_)
  refine y_stk (stp0 := [va_re w.1 r2]) rfl ?_
  refine y_ifnull C 18 d_X_had_8 (by decide) h (fun k4 h => ?_) (fun k4 h => ?_)
  · refine y_iconst C (v := -1) d_X_had_18 (by decide) ?_
    exact y_iret C hr hlocks d_X_had_19 h
  · refine y_iload_n C (i := 2) 2 d_X_had_11 rfl rfl ?_
    refine y_callS 1 C (fun out hh => c_X_isSpan l w F u3 a2 out hh) (y_gc g_489) g_487 g_1 g_488 hn_X_isSpan ⟨Nat.le_of_ble_eq_true rfl, Nat.le_of_ble_eq_true rfl⟩ rfl rfl rfl rfl (by simp [y_cat, y_catI, y_catJ]) d_X_had_12 h (fun x5 u6 h => ?_)
    refine y_stk (stp0 := [.int x5]) rfl ?_
    refine y_if_ne C 20 d_X_had_15 (by decide) h (fun k7 h => ?_) (fun k7 h => ?_)
    · refine y_iconst C (v := -1) d_X_had_18 (by decide) ?_
      exact y_iret C hr hlocks d_X_had_19 h
    · refine y_aload_n C (i := 0) 0 d_X_had_20 rfl rfl ?_
      refine y_iload_n C (i := 2) 2 d_X_had_21 rfl rfl ?_
      refine y_callV 1 C (q := (yR4, yT4, 5)) (ci := 4) (fun t out hh => c_X_ahead l w F u6 t a2 out hh) gc_X_had_166 rfl (by decide) hd_X_ahead ⟨Nat.le_of_ble_eq_true rfl, Nat.le_of_ble_eq_true rfl⟩ rfl rfl rfl rfl (by simp [y_cat, y_catI, y_catJ]) d_X_had_22 h (fun r8 u9 h => ?_)
      refine y_stk (stp0 := [va_re w.1 r8]) rfl ?_
      refine y_iload_n C (i := 1) 1 d_X_had_25 rfl rfl ?_
      refine y_callV 1 C (q := (yR2, yT2, 9)) (ci := 2) (fun t out hh => c_H_guestAt l w F u9 t a1 out hh) gc_X_had_71 rfl (by decide) hd_H_guestAt ⟨Nat.le_of_ble_eq_true rfl, Nat.le_of_ble_eq_true rfl⟩ rfl rfl rfl rfl (by simp [y_cat, y_catI, y_catJ]) d_X_had_26 h (fun r10 u11 h => ?_)
      refine y_stk (stp0 := [va_re w.1 r10]) rfl ?_
      refine y_astore_n C (i := 3) (lvp := [(0, va_re w.1 (some o)), (1, .int a1), (2, .int a2)]) d_X_had_29 rfl (by decide) (by simp [List.filter, y_cat, y_catI, y_catJ]) ?_
      refine y_aload_n C (i := 3) 0 d_X_had_30 rfl rfl ?_
      refine y_ifnonnull C 38 d_X_had_31 (by decide) h (fun k12 h => ?_) (fun k12 h => ?_)
      · refine y_iconst C (v := -1) d_X_had_34 (by decide) ?_
        refine y_goto C (tgt := 42) d_X_had_35 (by decide) ?_
        exact y_iret C hr hlocks d_X_had_42 h
      · refine y_aload_n C (i := 3) 0 d_X_had_38 rfl rfl ?_
        refine y_gi C (q := (yR1, yT1, 10)) (ci := 1) (k := 8) rfl (by decide) rfl g_106 d_X_had_39 h (fun x13 h => ?_)
        exact y_iret C hr hlocks d_X_had_42 h
/-! X_where -/
theorem d_X_where_0 : decode prog_1_method_22_code 0 = .ok (.aload_n 0, 1) := by decide +kernel
theorem d_X_where_1 : decode prog_1_method_22_code 1 = .ok (.getfield 10, 3) := by decide +kernel
theorem d_X_where_4 : decode prog_1_method_22_code 4 = .ok (.iload_n 1, 1) := by decide +kernel
theorem d_X_where_5 : decode prog_1_method_22_code 5 = .ok (.invokevirtual 61, 3) := by decide +kernel
theorem d_X_where_8 : decode prog_1_method_22_code 8 = .ok (.ifnull 10, 3) := by decide +kernel
theorem d_X_where_11 : decode prog_1_method_22_code 11 = .ok (.iload_n 2, 1) := by decide +kernel
theorem d_X_where_12 : decode prog_1_method_22_code 12 = .ok (.invokestatic 162, 3) := by decide +kernel
theorem d_X_where_15 : decode prog_1_method_22_code 15 = .ok (.ifCond .ne 5, 3) := by decide +kernel
theorem d_X_where_18 : decode prog_1_method_22_code 18 = .ok (.iconst (-1), 1) := by decide +kernel
theorem d_X_where_19 : decode prog_1_method_22_code 19 = .ok (.ireturn, 1) := by decide +kernel
theorem d_X_where_20 : decode prog_1_method_22_code 20 = .ok (.aload_n 0, 1) := by decide +kernel
theorem d_X_where_21 : decode prog_1_method_22_code 21 = .ok (.iload_n 2, 1) := by decide +kernel
theorem d_X_where_22 : decode prog_1_method_22_code 22 = .ok (.invokevirtual 166, 3) := by decide +kernel
theorem d_X_where_25 : decode prog_1_method_22_code 25 = .ok (.iload_n 1, 1) := by decide +kernel
theorem d_X_where_26 : decode prog_1_method_22_code 26 = .ok (.invokevirtual 61, 3) := by decide +kernel
theorem d_X_where_29 : decode prog_1_method_22_code 29 = .ok (.astore_n 3, 1) := by decide +kernel
theorem d_X_where_30 : decode prog_1_method_22_code 30 = .ok (.aload_n 3, 1) := by decide +kernel
theorem d_X_where_31 : decode prog_1_method_22_code 31 = .ok (.ifnonnull 7, 3) := by decide +kernel
theorem d_X_where_34 : decode prog_1_method_22_code 34 = .ok (.iconst (-1), 1) := by decide +kernel
theorem d_X_where_35 : decode prog_1_method_22_code 35 = .ok (.goto 7, 3) := by decide +kernel
theorem d_X_where_38 : decode prog_1_method_22_code 38 = .ok (.aload_n 3, 1) := by decide +kernel
theorem d_X_where_39 : decode prog_1_method_22_code 39 = .ok (.getfield 126, 3) := by decide +kernel
theorem d_X_where_42 : decode prog_1_method_22_code 42 = .ok (.ireturn, 1) := by decide +kernel
theorem gc_X_where_61 : GoodIn yGW (wsV "WhoseGlass" 61 yR2 m_H_glassAt ws_H_glassAt) := y_gV g_381 g_260 g_261 g_2 g_262
theorem gc_X_where_166 : GoodIn yGW (wsV "WhoseGlass" 166 yR4 m_X_ahead ws_X_ahead) := y_gV g_490 g_492 gs_4 g_1 g_493
set_option maxRecDepth 100000 in
def f_X_where (F : Nat) (u : Mm) (o : Nat) (a1 : Int32) (a2 : Int32) : Option (Int32 × Mm) := ob (jgr YX 4 0 (some o)) fun (r1 : Option Nat) => ob (jk YX 2 r1) fun t => yb (f_H_glassAt F u t a1) fun r2 u3 => (if r2 = none then some ((-1 : Int32), u3) else yb (f_X_isSpan F u3 a2) fun x5 u6 => (if x5 = 0 then some ((-1 : Int32), u6) else ob (jk YX 4 (some o)) fun t => yb (f_X_ahead F u6 t a2) fun r8 u9 => ob (jk YX 2 r8) fun t => yb (f_H_glassAt F u9 t a1) fun r10 u11 => (if r10 = none then some ((-1 : Int32), u11) else ob (jgi YX 0 4 u11 r10) fun (x13 : Int32) => some (x13, u11))))
set_option maxHeartbeats 4000000 in
set_option maxRecDepth 100000 in
theorem c_X_where (l : Launch) (w : WP) (F : Nat) (u : Mm) (o : Nat) (a1 : Int32) (a2 : Int32) (out : Int32 × Mm) (h : f_X_where F u o a1 a2 = some out) : yMet l m_X_where ws_X_where ({ frames := 6, cells := 0, slots := 0, locals := 146 } : Room) YX w u [va_re w.1 (some o), .int a1, .int a2] yfi out := by
  refine y_entry (own := "WhoseGlass") (lv := [(0, va_re w.1 (some o)), (1, .int a1), (2, .int a2)]) (by decide +kernel) rfl (by simp [lv_args, y_cat, y_catI, y_catJ]) (by simp [lg_sl, y_cat, y_catI, y_catJ]) ?_
  intro p e s m args below meth c C hr hlocks
  unfold f_X_where at h
  refine y_aload_n C (i := 0) 0 d_X_where_0 rfl rfl ?_
  refine y_gr C (q := (yR4, yT4, 5)) (ci := 4) (k := 0) rfl (by decide) rfl (by decide) g_202 d_X_where_1 h (fun r1 h => ?_)
  refine y_iload_n C (i := 1) 1 d_X_where_4 rfl rfl ?_
  refine y_callV 1 C (q := (yR2, yT2, 9)) (ci := 2) (fun t out hh => c_H_glassAt l w F u t a1 out hh) gc_X_where_61 rfl (by decide) hd_H_glassAt ⟨Nat.le_of_ble_eq_true rfl, Nat.le_of_ble_eq_true rfl⟩ rfl rfl rfl rfl (by simp [y_cat, y_catI, y_catJ]) d_X_where_5 h (fun r2 u3 h => ?_)
  refine y_stk (stp0 := [va_re w.1 r2]) rfl ?_
  refine y_ifnull C 18 d_X_where_8 (by decide) h (fun k4 h => ?_) (fun k4 h => ?_)
  · refine y_iconst C (v := -1) d_X_where_18 (by decide) ?_
    exact y_iret C hr hlocks d_X_where_19 h
  · refine y_iload_n C (i := 2) 2 d_X_where_11 rfl rfl ?_
    refine y_callS 1 C (fun out hh => c_X_isSpan l w F u3 a2 out hh) (y_gc g_489) g_487 g_1 g_488 hn_X_isSpan ⟨Nat.le_of_ble_eq_true rfl, Nat.le_of_ble_eq_true rfl⟩ rfl rfl rfl rfl (by simp [y_cat, y_catI, y_catJ]) d_X_where_12 h (fun x5 u6 h => ?_)
    refine y_stk (stp0 := [.int x5]) rfl ?_
    refine y_if_ne C 20 d_X_where_15 (by decide) h (fun k7 h => ?_) (fun k7 h => ?_)
    · refine y_iconst C (v := -1) d_X_where_18 (by decide) ?_
      exact y_iret C hr hlocks d_X_where_19 h
    · refine y_aload_n C (i := 0) 0 d_X_where_20 rfl rfl ?_
      refine y_iload_n C (i := 2) 2 d_X_where_21 rfl rfl ?_
      refine y_callV 1 C (q := (yR4, yT4, 5)) (ci := 4) (fun t out hh => c_X_ahead l w F u6 t a2 out hh) gc_X_where_166 rfl (by decide) hd_X_ahead ⟨Nat.le_of_ble_eq_true rfl, Nat.le_of_ble_eq_true rfl⟩ rfl rfl rfl rfl (by simp [y_cat, y_catI, y_catJ]) d_X_where_22 h (fun r8 u9 h => ?_)
      refine y_stk (stp0 := [va_re w.1 r8]) rfl ?_
      refine y_iload_n C (i := 1) 1 d_X_where_25 rfl rfl ?_
      refine y_callV 1 C (q := (yR2, yT2, 9)) (ci := 2) (fun t out hh => c_H_glassAt l w F u9 t a1 out hh) gc_X_where_61 rfl (by decide) hd_H_glassAt ⟨Nat.le_of_ble_eq_true rfl, Nat.le_of_ble_eq_true rfl⟩ rfl rfl rfl rfl (by simp [y_cat, y_catI, y_catJ]) d_X_where_26 h (fun r10 u11 h => ?_)
      refine y_stk (stp0 := [va_re w.1 r10]) rfl ?_
      refine y_astore_n C (i := 3) (lvp := [(0, va_re w.1 (some o)), (1, .int a1), (2, .int a2)]) d_X_where_29 rfl (by decide) (by simp [List.filter, y_cat, y_catI, y_catJ]) ?_
      refine y_aload_n C (i := 3) 0 d_X_where_30 rfl rfl ?_
      refine y_ifnonnull C 38 d_X_where_31 (by decide) h (fun k12 h => ?_) (fun k12 h => ?_)
      · refine y_iconst C (v := -1) d_X_where_34 (by decide) ?_
        refine y_goto C (tgt := 42) d_X_where_35 (by decide) ?_
        exact y_iret C hr hlocks d_X_where_42 h
      · refine y_aload_n C (i := 3) 0 d_X_where_38 rfl rfl ?_
        refine y_gi C (q := (yR0, yT0, 8)) (ci := 0) (k := 4) rfl (by decide) rfl g_52 d_X_where_39 h (fun x13 h => ?_)
        exact y_iret C hr hlocks d_X_where_42 h
/-! H_leaveColdTo -/
theorem d_H_leaveColdTo_0 : decode prog_4_method_18_code 0 = .ok (.iconst 0, 1) := by decide +kernel
theorem d_H_leaveColdTo_1 : decode prog_4_method_18_code 1 = .ok (.istore_n 2, 1) := by decide +kernel
theorem d_H_leaveColdTo_2 : decode prog_4_method_18_code 2 = .ok (.iload_n 2, 1) := by decide +kernel
theorem d_H_leaveColdTo_3 : decode prog_4_method_18_code 3 = .ok (.aload_n 0, 1) := by decide +kernel
theorem d_H_leaveColdTo_4 : decode prog_4_method_18_code 4 = .ok (.getfield 34, 3) := by decide +kernel
theorem d_H_leaveColdTo_7 : decode prog_4_method_18_code 7 = .ok (.if_icmp .ge 24, 3) := by decide +kernel
theorem d_H_leaveColdTo_10 : decode prog_4_method_18_code 10 = .ok (.aload_n 0, 1) := by decide +kernel
theorem d_H_leaveColdTo_11 : decode prog_4_method_18_code 11 = .ok (.iload_n 2, 1) := by decide +kernel
theorem d_H_leaveColdTo_12 : decode prog_4_method_18_code 12 = .ok (.invokevirtual 49, 3) := by decide +kernel
theorem d_H_leaveColdTo_15 : decode prog_4_method_18_code 15 = .ok (.astore_n 3, 1) := by decide +kernel
theorem d_H_leaveColdTo_16 : decode prog_4_method_18_code 16 = .ok (.aload_n 3, 1) := by decide +kernel
theorem d_H_leaveColdTo_17 : decode prog_4_method_18_code 17 = .ok (.ifnull 8, 3) := by decide +kernel
theorem d_H_leaveColdTo_20 : decode prog_4_method_18_code 20 = .ok (.aload_n 3, 1) := by decide +kernel
theorem d_H_leaveColdTo_21 : decode prog_4_method_18_code 21 = .ok (.iconst 0, 1) := by decide +kernel
theorem d_H_leaveColdTo_22 : decode prog_4_method_18_code 22 = .ok (.putfield 152, 3) := by decide +kernel
theorem d_H_leaveColdTo_25 : decode prog_4_method_18_code 25 = .ok (.iinc 2 1, 3) := by decide +kernel
theorem d_H_leaveColdTo_28 : decode prog_4_method_18_code 28 = .ok (.goto (-26), 3) := by decide +kernel
theorem d_H_leaveColdTo_31 : decode prog_4_method_18_code 31 = .ok (.iconst 0, 1) := by decide +kernel
theorem d_H_leaveColdTo_32 : decode prog_4_method_18_code 32 = .ok (.istore_n 2, 1) := by decide +kernel
theorem d_H_leaveColdTo_33 : decode prog_4_method_18_code 33 = .ok (.iload_n 2, 1) := by decide +kernel
theorem d_H_leaveColdTo_34 : decode prog_4_method_18_code 34 = .ok (.aload_n 0, 1) := by decide +kernel
theorem d_H_leaveColdTo_35 : decode prog_4_method_18_code 35 = .ok (.getfield 37, 3) := by decide +kernel
theorem d_H_leaveColdTo_38 : decode prog_4_method_18_code 38 = .ok (.if_icmp .ge 33, 3) := by decide +kernel
theorem d_H_leaveColdTo_41 : decode prog_4_method_18_code 41 = .ok (.aload_n 0, 1) := by decide +kernel
theorem d_H_leaveColdTo_42 : decode prog_4_method_18_code 42 = .ok (.iload_n 2, 1) := by decide +kernel
theorem d_H_leaveColdTo_43 : decode prog_4_method_18_code 43 = .ok (.invokevirtual 57, 3) := by decide +kernel
theorem d_H_leaveColdTo_46 : decode prog_4_method_18_code 46 = .ok (.astore_n 3, 1) := by decide +kernel
theorem d_H_leaveColdTo_47 : decode prog_4_method_18_code 47 = .ok (.aload_n 3, 1) := by decide +kernel
theorem d_H_leaveColdTo_48 : decode prog_4_method_18_code 48 = .ok (.ifnull 17, 3) := by decide +kernel
theorem d_H_leaveColdTo_51 : decode prog_4_method_18_code 51 = .ok (.aload_n 3, 1) := by decide +kernel
theorem d_H_leaveColdTo_52 : decode prog_4_method_18_code 52 = .ok (.iload_n 2, 1) := by decide +kernel
theorem d_H_leaveColdTo_53 : decode prog_4_method_18_code 53 = .ok (.iload_n 1, 1) := by decide +kernel
theorem d_H_leaveColdTo_54 : decode prog_4_method_18_code 54 = .ok (.if_icmp .ne 7, 3) := by decide +kernel
theorem d_H_leaveColdTo_57 : decode prog_4_method_18_code 57 = .ok (.iconst 1, 1) := by decide +kernel
theorem d_H_leaveColdTo_58 : decode prog_4_method_18_code 58 = .ok (.goto 4, 3) := by decide +kernel
theorem d_H_leaveColdTo_61 : decode prog_4_method_18_code 61 = .ok (.iconst 0, 1) := by decide +kernel
theorem d_H_leaveColdTo_62 : decode prog_4_method_18_code 62 = .ok (.putfield 148, 3) := by decide +kernel
theorem d_H_leaveColdTo_65 : decode prog_4_method_18_code 65 = .ok (.iinc 2 1, 3) := by decide +kernel
theorem d_H_leaveColdTo_68 : decode prog_4_method_18_code 68 = .ok (.goto (-35), 3) := by decide +kernel
theorem d_H_leaveColdTo_71 : decode prog_4_method_18_code 71 = .ok (.return_, 1) := by decide +kernel
theorem gc_H_leaveColdTo_49 : GoodIn yGW (wsV "WhoseGlass$House" 49 yR2 m_H_glassAt ws_H_glassAt) := y_gV g_259 g_260 g_261 g_2 g_262
theorem gc_H_leaveColdTo_57 : GoodIn yGW (wsV "WhoseGlass$House" 57 yR2 m_H_guestAt ws_H_guestAt) := y_gV g_267 g_268 g_269 g_2 g_270
set_option maxHeartbeats 4000000 in
set_option maxRecDepth 100000 in
def f_H_leaveColdTo_L2 (F : Nat) (a0 : Option Nat) (a1 : Int32) (k : Mm → Option (Unit × Mm)) : Nat → Mm → Int32 → Option (Unit × Mm)
  | 0, _, _ => none
  | n + 1, u, a2 => ob (jgi YX 2 2 u a0) fun (x1 : Int32) => (if x1 ≤ a2 then k u  else ob (jk YX 2 a0) fun t => yb (f_H_glassAt F u t a2) fun r3 u4 => ob ((if r3 = none then some u4 else ob (jpz YX 0 7 u4 r3 (0 : Int32)) fun (u7 : Mm) => some u7) : Option (Mm)) fun q5 => ob (some (a2 + (1 : Int32))) fun (x8 : Int32) => f_H_leaveColdTo_L2 F a0 a1 k n q5 x8)
set_option maxHeartbeats 4000000 in
set_option maxRecDepth 100000 in
theorem w_H_leaveColdTo_L2 {p : Program} {l : Launch} {e : Env} {s : State} {m : MethodId} {args : Array Value} {below : List Frame} {meth : Method} {c : Code} {w : WP} {Q : State → Prop} (F : Nat) (C : yX p e ({ frames := 1, cells := 0, slots := 0, locals := 21 } : Room) s m args c YX w 4 prog_4_method_18_code "WhoseGlass$House") (hr : meth.sig.returnType = none) (hlocks : meth.locks = false) (a0 : Option Nat) (a1 : Int32) {out : Unit × Mm} (k : Mm → Option (Unit × Mm)) (hk : ∀ (u : Mm), k u  = some out → yG p l e ({ frames := 1, cells := 0, slots := 0, locals := 21 } : Room) s m args below meth c YX w 4 Q u 31 [(0, va_re w.1 a0), (1, .int a1)] []) : ∀ (n : Nat) (u : Mm) (a2 : Int32), f_H_leaveColdTo_L2 F a0 a1 k n u a2 = some out → yG p l e ({ frames := 1, cells := 0, slots := 0, locals := 21 } : Room) s m args below meth c YX w 4 Q u 2 [(0, va_re w.1 a0), (1, .int a1), (2, .int a2)] [] := by
  intro n
  induction n with
  | zero => intro u a2 h; rw [f_H_leaveColdTo_L2] at h; cases h
  | succ n ih =>
    intro u a2 h
    rw [f_H_leaveColdTo_L2] at h
    refine y_iload_n C (i := 2) 2 d_H_leaveColdTo_2 rfl rfl ?_
    refine y_aload_n C (i := 0) 0 d_H_leaveColdTo_3 rfl rfl ?_
    refine y_gi C (q := (yR2, yT2, 9)) (ci := 2) (k := 2) rfl (by decide) rfl g_133 d_H_leaveColdTo_4 h (fun x1 h => ?_)
    refine y_ic_ge C 31 d_H_leaveColdTo_7 (by decide) h (fun k2 h => ?_) (fun k2 h => ?_)
    · exact y_sub [0, 1] rfl (hk _ h)
    · refine y_aload_n C (i := 0) 0 d_H_leaveColdTo_10 rfl rfl ?_
      refine y_iload_n C (i := 2) 2 d_H_leaveColdTo_11 rfl rfl ?_
      refine y_callV 1 C (q := (yR2, yT2, 9)) (ci := 2) (fun t out hh => c_H_glassAt l w F u t a2 out hh) gc_H_leaveColdTo_49 rfl (by decide) hd_H_glassAt ⟨Nat.le_of_ble_eq_true rfl, Nat.le_of_ble_eq_true rfl⟩ rfl rfl rfl rfl (by simp [y_cat, y_catI, y_catJ]) d_H_leaveColdTo_12 h (fun r3 u4 h => ?_)
      refine y_stk (stp0 := [va_re w.1 r3]) rfl ?_
      refine y_astore_n C (i := 3) (lvp := [(0, va_re w.1 a0), (1, .int a1), (2, .int a2)]) d_H_leaveColdTo_15 rfl (by decide) (by simp [List.filter, y_cat, y_catI, y_catJ]) ?_
      refine y_aload_n C (i := 3) 0 d_H_leaveColdTo_16 rfl rfl ?_
      obtain ⟨q5, hq5, h⟩ := ob_e h
      have hJq5 : yG p l e ({ frames := 1, cells := 0, slots := 0, locals := 21 } : Room) s m args below meth c YX w 4 Q q5 25 [(0, va_re w.1 a0), (1, .int a1), (2, .int a2)] [] := by
        refine y_iinc C (j := 2) (v := 1) (lvp := [(0, va_re w.1 a0), (1, .int a1)]) d_H_leaveColdTo_25 rfl (by decide) (by decide) rfl h (fun x8 h => ?_)
        refine y_goto C (tgt := 2) d_H_leaveColdTo_28 (by decide) ?_
        exact y_sub [1, 2, 0] rfl (ih _ _ h)
      refine y_ifnull C 25 d_H_leaveColdTo_17 (by decide) hq5 (fun k6 hq5 => ?_) (fun k6 hq5 => ?_)
      · cases hq5
        exact y_sub [1, 2, 3] rfl hJq5
      · refine y_aload_n C (i := 3) 0 d_H_leaveColdTo_20 rfl rfl ?_
        refine y_iconst C (v := 0) d_H_leaveColdTo_21 (by decide) ?_
        refine y_pz C (q := (yR0, yT0, 8)) (ci := 0) (k := 7) rfl (by decide) rfl rfl (by decide +kernel) g_61 d_H_leaveColdTo_22 hq5 (fun u7 hq5 => ?_)
        cases hq5
        exact y_sub [1, 2, 3] rfl hJq5
set_option maxHeartbeats 4000000 in
set_option maxRecDepth 100000 in
def f_H_leaveColdTo_L33 (F : Nat) (a0 : Option Nat) (a1 : Int32) (k : Mm → Option (Unit × Mm)) : Nat → Mm → Int32 → Option (Unit × Mm)
  | 0, _, _ => none
  | n + 1, u, a2 => ob (jgi YX 2 3 u a0) fun (x10 : Int32) => (if x10 ≤ a2 then k u  else ob (jk YX 2 a0) fun t => yb (f_H_guestAt F u t a2) fun r12 u13 => ob ((if r12 = none then some u13 else ob ((if a2 = a1 then some (1 : Int32) else some (0 : Int32)) : Option (Int32)) fun q16 => ob (jpz YX 1 9 u13 r12 q16) fun (u18 : Mm) => some u18) : Option (Mm)) fun q14 => ob (some (a2 + (1 : Int32))) fun (x19 : Int32) => f_H_leaveColdTo_L33 F a0 a1 k n q14 x19)
set_option maxHeartbeats 4000000 in
set_option maxRecDepth 100000 in
theorem w_H_leaveColdTo_L33 {p : Program} {l : Launch} {e : Env} {s : State} {m : MethodId} {args : Array Value} {below : List Frame} {meth : Method} {c : Code} {w : WP} {Q : State → Prop} (F : Nat) (C : yX p e ({ frames := 1, cells := 0, slots := 0, locals := 21 } : Room) s m args c YX w 4 prog_4_method_18_code "WhoseGlass$House") (hr : meth.sig.returnType = none) (hlocks : meth.locks = false) (a0 : Option Nat) (a1 : Int32) {out : Unit × Mm} (k : Mm → Option (Unit × Mm)) (hk : ∀ (u : Mm), k u  = some out → yG p l e ({ frames := 1, cells := 0, slots := 0, locals := 21 } : Room) s m args below meth c YX w 4 Q u 71 [] []) : ∀ (n : Nat) (u : Mm) (a2 : Int32), f_H_leaveColdTo_L33 F a0 a1 k n u a2 = some out → yG p l e ({ frames := 1, cells := 0, slots := 0, locals := 21 } : Room) s m args below meth c YX w 4 Q u 33 [(0, va_re w.1 a0), (1, .int a1), (2, .int a2)] [] := by
  intro n
  induction n with
  | zero => intro u a2 h; rw [f_H_leaveColdTo_L33] at h; cases h
  | succ n ih =>
    intro u a2 h
    rw [f_H_leaveColdTo_L33] at h
    refine y_iload_n C (i := 2) 2 d_H_leaveColdTo_33 rfl rfl ?_
    refine y_aload_n C (i := 0) 0 d_H_leaveColdTo_34 rfl rfl ?_
    refine y_gi C (q := (yR2, yT2, 9)) (ci := 2) (k := 3) rfl (by decide) rfl g_135 d_H_leaveColdTo_35 h (fun x10 h => ?_)
    refine y_ic_ge C 71 d_H_leaveColdTo_38 (by decide) h (fun k11 h => ?_) (fun k11 h => ?_)
    · exact y_sub [] rfl (hk _ h)
    · refine y_aload_n C (i := 0) 0 d_H_leaveColdTo_41 rfl rfl ?_
      refine y_iload_n C (i := 2) 2 d_H_leaveColdTo_42 rfl rfl ?_
      refine y_callV 1 C (q := (yR2, yT2, 9)) (ci := 2) (fun t out hh => c_H_guestAt l w F u t a2 out hh) gc_H_leaveColdTo_57 rfl (by decide) hd_H_guestAt ⟨Nat.le_of_ble_eq_true rfl, Nat.le_of_ble_eq_true rfl⟩ rfl rfl rfl rfl (by simp [y_cat, y_catI, y_catJ]) d_H_leaveColdTo_43 h (fun r12 u13 h => ?_)
      refine y_stk (stp0 := [va_re w.1 r12]) rfl ?_
      refine y_astore_n C (i := 3) (lvp := [(0, va_re w.1 a0), (1, .int a1), (2, .int a2)]) d_H_leaveColdTo_46 rfl (by decide) (by simp [List.filter, y_cat, y_catI, y_catJ]) ?_
      refine y_aload_n C (i := 3) 0 d_H_leaveColdTo_47 rfl rfl ?_
      obtain ⟨q14, hq14, h⟩ := ob_e h
      have hJq14 : yG p l e ({ frames := 1, cells := 0, slots := 0, locals := 21 } : Room) s m args below meth c YX w 4 Q q14 65 [(0, va_re w.1 a0), (1, .int a1), (2, .int a2)] [] := by
        refine y_iinc C (j := 2) (v := 1) (lvp := [(0, va_re w.1 a0), (1, .int a1)]) d_H_leaveColdTo_65 rfl (by decide) (by decide) rfl h (fun x19 h => ?_)
        refine y_goto C (tgt := 33) d_H_leaveColdTo_68 (by decide) ?_
        exact y_sub [1, 2, 0] rfl (ih _ _ h)
      refine y_ifnull C 65 d_H_leaveColdTo_48 (by decide) hq14 (fun k15 hq14 => ?_) (fun k15 hq14 => ?_)
      · cases hq14
        exact y_sub [1, 2, 3] rfl hJq14
      · refine y_aload_n C (i := 3) 0 d_H_leaveColdTo_51 rfl rfl ?_
        refine y_iload_n C (i := 2) 3 d_H_leaveColdTo_52 rfl rfl ?_
        refine y_iload_n C (i := 1) 2 d_H_leaveColdTo_53 rfl rfl ?_
        obtain ⟨q16, hq16, hq14⟩ := ob_e hq14
        have hJq16 : yG p l e ({ frames := 1, cells := 0, slots := 0, locals := 21 } : Room) s m args below meth c YX w 4 Q u13 62 [(0, va_re w.1 a0), (1, .int a1), (2, .int a2)] [.int q16, va_re w.1 r12] := by
          refine y_pz C (q := (yR1, yT1, 10)) (ci := 1) (k := 9) rfl (by decide) rfl rfl (by decide +kernel) g_109 d_H_leaveColdTo_62 hq14 (fun u18 hq14 => ?_)
          cases hq14
          exact y_sub [0, 1, 2] rfl hJq14
        refine y_ic_ne C 61 d_H_leaveColdTo_54 (by decide) hq16 (fun k17 hq16 => ?_) (fun k17 hq16 => ?_)
        · refine y_iconst C (v := 1) d_H_leaveColdTo_57 (by decide) ?_
          refine y_goto C (tgt := 62) d_H_leaveColdTo_58 (by decide) ?_
          cases hq16
          exact y_sub [1, 2, 3] rfl hJq16
        · refine y_iconst C (v := 0) d_H_leaveColdTo_61 (by decide) ?_
          cases hq16
          exact y_sub [1, 2, 3] rfl hJq16
set_option maxRecDepth 100000 in
def f_H_leaveColdTo (F : Nat) (u : Mm) (o : Nat) (a1 : Int32) : Option (Unit × Mm) := f_H_leaveColdTo_L2 F (some o) a1 (fun (u9 : Mm) => f_H_leaveColdTo_L33 F (some o) a1 (fun (u20 : Mm) => some ((), u20)) F u9 (0 : Int32)) F u (0 : Int32)
set_option maxHeartbeats 4000000 in
set_option maxRecDepth 100000 in
theorem c_H_leaveColdTo (l : Launch) (w : WP) (F : Nat) (u : Mm) (o : Nat) (a1 : Int32) (out : Unit × Mm) (h : f_H_leaveColdTo F u o a1 = some out) : yMet l m_H_leaveColdTo ws_H_leaveColdTo ({ frames := 1, cells := 0, slots := 0, locals := 21 } : Room) YX w u [va_re w.1 (some o), .int a1] yfv out := by
  refine y_entry (own := "WhoseGlass$House") (lv := [(0, va_re w.1 (some o)), (1, .int a1)]) (by decide +kernel) rfl (by simp [lv_args, y_cat, y_catI, y_catJ]) (by simp [lg_sl, y_cat, y_catI, y_catJ]) ?_
  intro p e s m args below meth c C hr hlocks
  unfold f_H_leaveColdTo at h
  refine y_iconst C (v := 0) d_H_leaveColdTo_0 (by decide) ?_
  refine y_istore_n C (i := 2) (lvp := [(0, va_re w.1 (some o)), (1, .int a1)]) d_H_leaveColdTo_1 rfl (by decide) rfl ?_
  refine y_sub [1, 2, 0] rfl (w_H_leaveColdTo_L2 F C hr hlocks _ _ _ (fun u9 h => ?_) _ _ _ h)
  refine y_iconst C (v := 0) d_H_leaveColdTo_31 (by decide) ?_
  refine y_istore_n C (i := 2) (lvp := [(0, va_re w.1 (some o)), (1, .int a1)]) d_H_leaveColdTo_32 rfl (by decide) rfl ?_
  refine y_sub [1, 2, 0] rfl (w_H_leaveColdTo_L33 F C hr hlocks _ _ _ (fun u20 h => ?_) _ _ _ h)
  exact y_vret C hr hlocks d_H_leaveColdTo_71 h
/-! X_coldsBroughtBy -/
theorem d_X_coldsBroughtBy_0 : decode prog_1_method_47_code 0 = .ok (.aload_n 0, 1) := by decide +kernel
theorem d_X_coldsBroughtBy_1 : decode prog_1_method_47_code 1 = .ok (.getfield 16, 3) := by decide +kernel
theorem d_X_coldsBroughtBy_4 : decode prog_1_method_47_code 4 = .ok (.aload_n 0, 1) := by decide +kernel
theorem d_X_coldsBroughtBy_5 : decode prog_1_method_47_code 5 = .ok (.getfield 10, 3) := by decide +kernel
theorem d_X_coldsBroughtBy_8 : decode prog_1_method_47_code 8 = .ok (.invokevirtual 50, 3) := by decide +kernel
theorem d_X_coldsBroughtBy_11 : decode prog_1_method_47_code 11 = .ok (.aload_n 0, 1) := by decide +kernel
theorem d_X_coldsBroughtBy_12 : decode prog_1_method_47_code 12 = .ok (.getfield 16, 3) := by decide +kernel
theorem d_X_coldsBroughtBy_15 : decode prog_1_method_47_code 15 = .ok (.iload_n 1, 1) := by decide +kernel
theorem d_X_coldsBroughtBy_16 : decode prog_1_method_47_code 16 = .ok (.invokevirtual 273, 3) := by decide +kernel
theorem d_X_coldsBroughtBy_19 : decode prog_1_method_47_code 19 = .ok (.aload_n 0, 1) := by decide +kernel
theorem d_X_coldsBroughtBy_20 : decode prog_1_method_47_code 20 = .ok (.getfield 16, 3) := by decide +kernel
theorem d_X_coldsBroughtBy_23 : decode prog_1_method_47_code 23 = .ok (.iload_n 2, 1) := by decide +kernel
theorem d_X_coldsBroughtBy_24 : decode prog_1_method_47_code 24 = .ok (.invokevirtual 135, 3) := by decide +kernel
theorem d_X_coldsBroughtBy_27 : decode prog_1_method_47_code 27 = .ok (.aload_n 0, 1) := by decide +kernel
theorem d_X_coldsBroughtBy_28 : decode prog_1_method_47_code 28 = .ok (.getfield 16, 3) := by decide +kernel
theorem d_X_coldsBroughtBy_31 : decode prog_1_method_47_code 31 = .ok (.invokevirtual 176, 3) := by decide +kernel
theorem d_X_coldsBroughtBy_34 : decode prog_1_method_47_code 34 = .ok (.ireturn, 1) := by decide +kernel
theorem gc_X_coldsBroughtBy_50 : GoodIn yGW (wsV "WhoseGlass" 50 yR2 m_H_become ws_H_become) := y_gV g_255 g_256 g_257 g_2 g_258
theorem gc_X_coldsBroughtBy_273 : GoodIn yGW (wsV "WhoseGlass" 273 yR2 m_H_leaveColdTo ws_H_leaveColdTo) := y_gV g_522 g_523 g_524 g_2 g_525
theorem gc_X_coldsBroughtBy_135 : GoodIn yGW (wsV "WhoseGlass" 135 yR2 m_H_passMinutes ws_H_passMinutes) := y_gV g_438 g_279 g_280 g_2 g_281
theorem gc_X_coldsBroughtBy_176 : GoodIn yGW (wsV "WhoseGlass" 176 yR2 m_H_coldBits ws_H_coldBits) := y_gV g_502 g_503 g_504 g_2 g_505
set_option maxRecDepth 100000 in
def f_X_coldsBroughtBy (F : Nat) (u : Mm) (o : Nat) (a1 : Int32) (a2 : Int32) : Option (Int32 × Mm) := ob (jgr YX 4 1 (some o)) fun (r1 : Option Nat) => ob (jgr YX 4 0 (some o)) fun (r2 : Option Nat) => ob (jk YX 2 r1) fun t => yb (f_H_become F u t r2) fun v3 u4 => ob (jgr YX 4 1 (some o)) fun (r5 : Option Nat) => ob (jk YX 2 r5) fun t => yb (f_H_leaveColdTo F u4 t a1) fun v6 u7 => ob (jgr YX 4 1 (some o)) fun (r8 : Option Nat) => ob (jk YX 2 r8) fun t => yb (f_H_passMinutes F u7 t a2) fun v9 u10 => ob (jgr YX 4 1 (some o)) fun (r11 : Option Nat) => ob (jk YX 2 r11) fun t => yb (f_H_coldBits F u10 t ) fun x12 u13 => some (x12, u13)
set_option maxHeartbeats 4000000 in
set_option maxRecDepth 100000 in
theorem c_X_coldsBroughtBy (l : Launch) (w : WP) (F : Nat) (u : Mm) (o : Nat) (a1 : Int32) (a2 : Int32) (out : Int32 × Mm) (h : f_X_coldsBroughtBy F u o a1 a2 = some out) : yMet l m_X_coldsBroughtBy ws_X_coldsBroughtBy ({ frames := 5, cells := 0, slots := 0, locals := 125 } : Room) YX w u [va_re w.1 (some o), .int a1, .int a2] yfi out := by
  refine y_entry (own := "WhoseGlass") (lv := [(0, va_re w.1 (some o)), (1, .int a1), (2, .int a2)]) (by decide +kernel) rfl (by simp [lv_args, y_cat, y_catI, y_catJ]) (by simp [lg_sl, y_cat, y_catI, y_catJ]) ?_
  intro p e s m args below meth c C hr hlocks
  unfold f_X_coldsBroughtBy at h
  refine y_aload_n C (i := 0) 0 d_X_coldsBroughtBy_0 rfl rfl ?_
  refine y_gr C (q := (yR4, yT4, 5)) (ci := 4) (k := 1) rfl (by decide) rfl (by decide) g_203 d_X_coldsBroughtBy_1 h (fun r1 h => ?_)
  refine y_aload_n C (i := 0) 0 d_X_coldsBroughtBy_4 rfl rfl ?_
  refine y_gr C (q := (yR4, yT4, 5)) (ci := 4) (k := 0) rfl (by decide) rfl (by decide) g_202 d_X_coldsBroughtBy_5 h (fun r2 h => ?_)
  refine y_callV 1 C (q := (yR2, yT2, 9)) (ci := 2) (fun t out hh => c_H_become l w F u t r2 out hh) gc_X_coldsBroughtBy_50 rfl (by decide) hd_H_become ⟨Nat.le_of_ble_eq_true rfl, Nat.le_of_ble_eq_true rfl⟩ rfl rfl rfl rfl (by simp [y_cat, y_catI, y_catJ]) d_X_coldsBroughtBy_8 h (fun v3 u4 h => ?_)
  refine y_stk (stp0 := []) rfl ?_
  refine y_aload_n C (i := 0) 0 d_X_coldsBroughtBy_11 rfl rfl ?_
  refine y_gr C (q := (yR4, yT4, 5)) (ci := 4) (k := 1) rfl (by decide) rfl (by decide) g_203 d_X_coldsBroughtBy_12 h (fun r5 h => ?_)
  refine y_iload_n C (i := 1) 1 d_X_coldsBroughtBy_15 rfl rfl ?_
  refine y_callV 1 C (q := (yR2, yT2, 9)) (ci := 2) (fun t out hh => c_H_leaveColdTo l w F u4 t a1 out hh) gc_X_coldsBroughtBy_273 rfl (by decide) hd_H_leaveColdTo ⟨Nat.le_of_ble_eq_true rfl, Nat.le_of_ble_eq_true rfl⟩ rfl rfl rfl rfl (by simp [y_cat, y_catI, y_catJ]) d_X_coldsBroughtBy_16 h (fun v6 u7 h => ?_)
  refine y_stk (stp0 := []) rfl ?_
  refine y_aload_n C (i := 0) 0 d_X_coldsBroughtBy_19 rfl rfl ?_
  refine y_gr C (q := (yR4, yT4, 5)) (ci := 4) (k := 1) rfl (by decide) rfl (by decide) g_203 d_X_coldsBroughtBy_20 h (fun r8 h => ?_)
  refine y_iload_n C (i := 2) 2 d_X_coldsBroughtBy_23 rfl rfl ?_
  refine y_callV 1 C (q := (yR2, yT2, 9)) (ci := 2) (fun t out hh => c_H_passMinutes l w F u7 t a2 out hh) gc_X_coldsBroughtBy_135 rfl (by decide) hd_H_passMinutes ⟨Nat.le_of_ble_eq_true rfl, Nat.le_of_ble_eq_true rfl⟩ rfl rfl rfl rfl (by simp [y_cat, y_catI, y_catJ]) d_X_coldsBroughtBy_24 h (fun v9 u10 h => ?_)
  refine y_stk (stp0 := []) rfl ?_
  refine y_aload_n C (i := 0) 0 d_X_coldsBroughtBy_27 rfl rfl ?_
  refine y_gr C (q := (yR4, yT4, 5)) (ci := 4) (k := 1) rfl (by decide) rfl (by decide) g_203 d_X_coldsBroughtBy_28 h (fun r11 h => ?_)
  refine y_callV 0 C (q := (yR2, yT2, 9)) (ci := 2) (fun t out hh => c_H_coldBits l w F u10 t out hh) gc_X_coldsBroughtBy_176 rfl (by decide) hd_H_coldBits ⟨Nat.le_of_ble_eq_true rfl, Nat.le_of_ble_eq_true rfl⟩ rfl rfl rfl rfl (by simp [y_cat, y_catI, y_catJ]) d_X_coldsBroughtBy_31 h (fun x12 u13 h => ?_)
  refine y_stk (stp0 := [.int x12]) rfl ?_
  exact y_iret C hr hlocks d_X_coldsBroughtBy_34 h
