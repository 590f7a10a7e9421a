/-! H_choiceOf -/
theorem d_H_choiceOf_0 : decode prog_4_method_12_code 0 = .ok (.aload_n 0, 1) := by decide +kernel
theorem d_H_choiceOf_1 : decode prog_4_method_12_code 1 = .ok (.aload_n 1, 1) := by decide +kernel
theorem d_H_choiceOf_2 : decode prog_4_method_12_code 2 = .ok (.getfield 122, 3) := by decide +kernel
theorem d_H_choiceOf_5 : decode prog_4_method_12_code 5 = .ok (.invokevirtual 49, 3) := by decide +kernel
theorem d_H_choiceOf_8 : decode prog_4_method_12_code 8 = .ok (.astore_n 2, 1) := by decide +kernel
theorem d_H_choiceOf_9 : decode prog_4_method_12_code 9 = .ok (.aload_n 2, 1) := by decide +kernel
theorem d_H_choiceOf_10 : decode prog_4_method_12_code 10 = .ok (.ifnull 12, 3) := by decide +kernel
theorem d_H_choiceOf_13 : decode prog_4_method_12_code 13 = .ok (.aload_n 2, 1) := by decide +kernel
theorem d_H_choiceOf_14 : decode prog_4_method_12_code 14 = .ok (.getfield 132, 3) := by decide +kernel
theorem d_H_choiceOf_17 : decode prog_4_method_12_code 17 = .ok (.bipush 20, 2) := by decide +kernel
theorem d_H_choiceOf_19 : decode prog_4_method_12_code 19 = .ok (.if_icmp .ne 6, 3) := by decide +kernel
theorem d_H_choiceOf_22 : decode prog_4_method_12_code 22 = .ok (.bipush (-4), 2) := by decide +kernel
theorem d_H_choiceOf_24 : decode prog_4_method_12_code 24 = .ok (.ireturn, 1) := by decide +kernel
theorem d_H_choiceOf_25 : decode prog_4_method_12_code 25 = .ok (.aconst_null, 1) := by decide +kernel
theorem d_H_choiceOf_26 : decode prog_4_method_12_code 26 = .ok (.astore_n 3, 1) := by decide +kernel
theorem d_H_choiceOf_27 : decode prog_4_method_12_code 27 = .ok (.iconst 0, 1) := by decide +kernel
theorem d_H_choiceOf_28 : decode prog_4_method_12_code 28 = .ok (.istore 4, 2) := by decide +kernel
theorem d_H_choiceOf_30 : decode prog_4_method_12_code 30 = .ok (.iconst 0, 1) := by decide +kernel
theorem d_H_choiceOf_31 : decode prog_4_method_12_code 31 = .ok (.istore 5, 2) := by decide +kernel
theorem d_H_choiceOf_33 : decode prog_4_method_12_code 33 = .ok (.iload 5, 2) := by decide +kernel
theorem d_H_choiceOf_35 : decode prog_4_method_12_code 35 = .ok (.aload_n 0, 1) := by decide +kernel
theorem d_H_choiceOf_36 : decode prog_4_method_12_code 36 = .ok (.getfield 34, 3) := by decide +kernel
theorem d_H_choiceOf_39 : decode prog_4_method_12_code 39 = .ok (.if_icmp .ge 94, 3) := by decide +kernel
theorem d_H_choiceOf_42 : decode prog_4_method_12_code 42 = .ok (.aload_n 0, 1) := by decide +kernel
theorem d_H_choiceOf_43 : decode prog_4_method_12_code 43 = .ok (.iload 5, 2) := by decide +kernel
theorem d_H_choiceOf_45 : decode prog_4_method_12_code 45 = .ok (.invokevirtual 49, 3) := by decide +kernel
theorem d_H_choiceOf_48 : decode prog_4_method_12_code 48 = .ok (.astore 6, 2) := by decide +kernel
theorem d_H_choiceOf_50 : decode prog_4_method_12_code 50 = .ok (.aload 6, 2) := by decide +kernel
theorem d_H_choiceOf_52 : decode prog_4_method_12_code 52 = .ok (.ifnull 75, 3) := by decide +kernel
theorem d_H_choiceOf_55 : decode prog_4_method_12_code 55 = .ok (.aload 6, 2) := by decide +kernel
theorem d_H_choiceOf_57 : decode prog_4_method_12_code 57 = .ok (.getfield 132, 3) := by decide +kernel
theorem d_H_choiceOf_60 : decode prog_4_method_12_code 60 = .ok (.aload_n 1, 1) := by decide +kernel
theorem d_H_choiceOf_61 : decode prog_4_method_12_code 61 = .ok (.getfield 81, 3) := by decide +kernel
theorem d_H_choiceOf_64 : decode prog_4_method_12_code 64 = .ok (.if_icmp .eq 6, 3) := by decide +kernel
theorem d_H_choiceOf_67 : decode prog_4_method_12_code 67 = .ok (.goto 60, 3) := by decide +kernel
theorem d_H_choiceOf_70 : decode prog_4_method_12_code 70 = .ok (.aload_n 2, 1) := by decide +kernel
theorem d_H_choiceOf_71 : decode prog_4_method_12_code 71 = .ok (.aload 6, 2) := by decide +kernel
theorem d_H_choiceOf_73 : decode prog_4_method_12_code 73 = .ok (.invokevirtual 135, 3) := by decide +kernel
theorem d_H_choiceOf_76 : decode prog_4_method_12_code 76 = .ok (.istore 7, 2) := by decide +kernel
theorem d_H_choiceOf_78 : decode prog_4_method_12_code 78 = .ok (.aload_n 3, 1) := by decide +kernel
theorem d_H_choiceOf_79 : decode prog_4_method_12_code 79 = .ok (.ifnull 26, 3) := by decide +kernel
theorem d_H_choiceOf_82 : decode prog_4_method_12_code 82 = .ok (.iload 7, 2) := by decide +kernel
theorem d_H_choiceOf_84 : decode prog_4_method_12_code 84 = .ok (.iload 4, 2) := by decide +kernel
theorem d_H_choiceOf_86 : decode prog_4_method_12_code 86 = .ok (.if_icmp .ne 19, 3) := by decide +kernel
theorem d_H_choiceOf_89 : decode prog_4_method_12_code 89 = .ok (.aload 6, 2) := by decide +kernel
theorem d_H_choiceOf_91 : decode prog_4_method_12_code 91 = .ok (.getfield 138, 3) := by decide +kernel
theorem d_H_choiceOf_94 : decode prog_4_method_12_code 94 = .ok (.aload_n 3, 1) := by decide +kernel
theorem d_H_choiceOf_95 : decode prog_4_method_12_code 95 = .ok (.getfield 138, 3) := by decide +kernel
theorem d_H_choiceOf_98 : decode prog_4_method_12_code 98 = .ok (.if_icmp .le 7, 3) := by decide +kernel
theorem d_H_choiceOf_101 : decode prog_4_method_12_code 101 = .ok (.iconst 1, 1) := by decide +kernel
theorem d_H_choiceOf_102 : decode prog_4_method_12_code 102 = .ok (.goto 4, 3) := by decide +kernel
theorem d_H_choiceOf_105 : decode prog_4_method_12_code 105 = .ok (.iconst 0, 1) := by decide +kernel
theorem d_H_choiceOf_106 : decode prog_4_method_12_code 106 = .ok (.istore 8, 2) := by decide +kernel
theorem d_H_choiceOf_108 : decode prog_4_method_12_code 108 = .ok (.iload 7, 2) := by decide +kernel
theorem d_H_choiceOf_110 : decode prog_4_method_12_code 110 = .ok (.iload 4, 2) := by decide +kernel
theorem d_H_choiceOf_112 : decode prog_4_method_12_code 112 = .ok (.if_icmp .gt 8, 3) := by decide +kernel
theorem d_H_choiceOf_115 : decode prog_4_method_12_code 115 = .ok (.iload 8, 2) := by decide +kernel
theorem d_H_choiceOf_117 : decode prog_4_method_12_code 117 = .ok (.ifCond .eq 10, 3) := by decide +kernel
theorem d_H_choiceOf_120 : decode prog_4_method_12_code 120 = .ok (.aload 6, 2) := by decide +kernel
theorem d_H_choiceOf_122 : decode prog_4_method_12_code 122 = .ok (.astore_n 3, 1) := by decide +kernel
theorem d_H_choiceOf_123 : decode prog_4_method_12_code 123 = .ok (.iload 7, 2) := by decide +kernel
theorem d_H_choiceOf_125 : decode prog_4_method_12_code 125 = .ok (.istore 4, 2) := by decide +kernel
theorem d_H_choiceOf_127 : decode prog_4_method_12_code 127 = .ok (.iinc 5 1, 3) := by decide +kernel
theorem d_H_choiceOf_130 : decode prog_4_method_12_code 130 = .ok (.goto (-97), 3) := by decide +kernel
theorem d_H_choiceOf_133 : decode prog_4_method_12_code 133 = .ok (.aload_n 3, 1) := by decide +kernel
theorem d_H_choiceOf_134 : decode prog_4_method_12_code 134 = .ok (.ifnull 12, 3) := by decide +kernel
theorem d_H_choiceOf_137 : decode prog_4_method_12_code 137 = .ok (.iload 4, 2) := by decide +kernel
theorem d_H_choiceOf_139 : decode prog_4_method_12_code 139 = .ok (.aload_n 1, 1) := by decide +kernel
theorem d_H_choiceOf_140 : decode prog_4_method_12_code 140 = .ok (.getfield 141, 3) := by decide +kernel
theorem d_H_choiceOf_143 : decode prog_4_method_12_code 143 = .ok (.if_icmp .ge 8, 3) := by decide +kernel
theorem d_H_choiceOf_146 : decode prog_4_method_12_code 146 = .ok (.bipush (-4), 2) := by decide +kernel
theorem d_H_choiceOf_148 : decode prog_4_method_12_code 148 = .ok (.goto 7, 3) := by decide +kernel
theorem d_H_choiceOf_151 : decode prog_4_method_12_code 151 = .ok (.aload_n 3, 1) := by decide +kernel
theorem d_H_choiceOf_152 : decode prog_4_method_12_code 152 = .ok (.getfield 119, 3) := by decide +kernel
theorem d_H_choiceOf_155 : decode prog_4_method_12_code 155 = .ok (.ireturn, 1) := by decide +kernel
theorem gc_H_choiceOf_49 : GoodIn yGW (wsV "WhoseGlass$House" 49 yR2 m_H_glassAt ws_H_glassAt) := y_gV g_259 g_260 g_261 g_2 g_262
theorem gc_H_choiceOf_135 : GoodIn yGW (wsV "WhoseGlass$House" 135 yR0 m_G_likeTo ws_G_likeTo) := y_gV g_301 g_302 g_303 g_3 g_304
set_option maxHeartbeats 4000000 in
set_option maxRecDepth 100000 in
def f_H_choiceOf_L33 (F : Nat) (a0 : Option Nat) (a1 : Option Nat) (a2 : Option Nat) (k : Mm → Option Nat → Int32 → Option (Int32 × Mm)) : Nat → Mm → Option Nat → Int32 → Int32 → Option (Int32 × Mm)
  | 0, _, _, _, _ => none
  | n + 1, u, a3, a4, a5 => ob (jgi YX 2 2 u a0) fun (x7 : Int32) => (if x7 ≤ a5 then k u a3 a4 else ob (jk YX 2 a0) fun t => yb (f_H_glassAt F u t a5) fun r9 u10 => ob ((if r9 = none then some (a3, a4, u10) else ob (jgi YX 0 4 u10 r9) fun (x13 : Int32) => ob (jgi YX 1 5 u10 a1) fun (x14 : Int32) => (if x13 = x14 then ob (jk YX 0 a2) fun t => yb (f_G_likeTo F u10 t r9) fun x16 u17 => ob ((if a3 = none then some (0 : Int32) else (if x16 = a4 then ob (jgi YX 0 5 u17 r9) fun (x21 : Int32) => ob (jgi YX 0 5 u17 a3) fun (x22 : Int32) => (if x21 ≤ x22 then some (0 : Int32) else some (1 : Int32)) else some (0 : Int32))) : Option (Int32)) fun q18 => (if a4 < x16 then some (r9, x16, u17) else (if q18 = 0 then some (a3, a4, u17) else some (r9, x16, u17))) else some (a3, a4, u10))) : Option ((Option Nat) × Int32 × Mm)) fun q11 => ob (some (a5 + (1 : Int32))) fun (x26 : Int32) => f_H_choiceOf_L33 F a0 a1 a2 k n q11.2.2 q11.1 q11.2.1 x26)
set_option maxHeartbeats 4000000 in
set_option maxRecDepth 100000 in
theorem w_H_choiceOf_L33 {p : Program} {l : Launch} {e : Env} {s : State} {m : MethodId} {args : Array Value} {below : List Frame} {meth : Method} {c : Code} {w : WP} {Q : State → Prop} (F : Nat) (C : yX p e ({ frames := 1, cells := 0, slots := 0, locals := 28 } : Room) s m args c YX w 9 prog_4_method_12_code "WhoseGlass$House") (hr : meth.sig.returnType = (some .int)) (hlocks : meth.locks = false) (a0 : Option Nat) (a1 : Option Nat) (a2 : Option Nat) {out : Int32 × Mm} (k : Mm → Option Nat → Int32 → Option (Int32 × Mm)) (hk : ∀ (u : Mm) (a3 : Option Nat) (a4 : Int32), k u a3 a4 = some out → yG p l e ({ frames := 1, cells := 0, slots := 0, locals := 28 } : Room) s m args below meth c YX w 9 Q u 133 [(1, va_re w.1 a1), (3, va_re w.1 a3), (4, .int a4)] []) : ∀ (n : Nat) (u : Mm) (a3 : Option Nat) (a4 : Int32) (a5 : Int32), f_H_choiceOf_L33 F a0 a1 a2 k n u a3 a4 a5 = some out → yG p l e ({ frames := 1, cells := 0, slots := 0, locals := 28 } : Room) s m args below meth c YX w 9 Q u 33 [(0, va_re w.1 a0), (1, va_re w.1 a1), (2, va_re w.1 a2), (3, va_re w.1 a3), (4, .int a4), (5, .int a5)] [] := by
  intro n
  induction n with
  | zero => intro u a3 a4 a5 h; rw [f_H_choiceOf_L33] at h; cases h
  | succ n ih =>
    intro u a3 a4 a5 h
    rw [f_H_choiceOf_L33] at h
    refine y_iload C (i := 5) 5 d_H_choiceOf_33 rfl ?_
    refine y_aload_n C (i := 0) 0 d_H_choiceOf_35 rfl rfl ?_
    refine y_gi C (q := (yR2, yT2, 9)) (ci := 2) (k := 2) rfl (by decide) rfl g_133 d_H_choiceOf_36 h (fun x7 h => ?_)
    refine y_ic_ge C 133 d_H_choiceOf_39 (by decide) h (fun k8 h => ?_) (fun k8 h => ?_)
    · exact y_sub [1, 3, 4] rfl (hk _ _ _ h)
    · refine y_aload_n C (i := 0) 0 d_H_choiceOf_42 rfl rfl ?_
      refine y_iload C (i := 5) 5 d_H_choiceOf_43 rfl ?_
      refine y_callV 1 C (q := (yR2, yT2, 9)) (ci := 2) (fun t out hh => c_H_glassAt l w F u t a5 out hh) gc_H_choiceOf_49 rfl (by decide) hd_H_glassAt ⟨Nat.le_of_ble_eq_true rfl, Nat.le_of_ble_eq_true rfl⟩ rfl rfl rfl rfl (by simp [y_cat, y_catI, y_catJ]) d_H_choiceOf_45 h (fun r9 u10 h => ?_)
      refine y_stk (stp0 := [va_re w.1 r9]) rfl ?_
      refine y_astore C (i := 6) (lvp := [(0, va_re w.1 a0), (1, va_re w.1 a1), (2, va_re w.1 a2), (3, va_re w.1 a3), (4, .int a4), (5, .int a5)]) d_H_choiceOf_48 (by decide) (by simp [List.filter, y_cat, y_catI, y_catJ]) ?_
      refine y_aload C (i := 6) 0 d_H_choiceOf_50 rfl ?_
      obtain ⟨q11, hq11, h⟩ := ob_e h
      have hJq11 : yG p l e ({ frames := 1, cells := 0, slots := 0, locals := 28 } : Room) s m args below meth c YX w 9 Q q11.2.2 127 [(0, va_re w.1 a0), (1, va_re w.1 a1), (2, va_re w.1 a2), (3, va_re w.1 q11.1), (4, .int q11.2.1), (5, .int a5)] [] := by
        refine y_iinc C (j := 5) (v := 1) (lvp := [(0, va_re w.1 a0), (1, va_re w.1 a1), (2, va_re w.1 a2), (3, va_re w.1 q11.1), (4, .int q11.2.1)]) d_H_choiceOf_127 rfl (by decide) (by decide) rfl h (fun x26 h => ?_)
        refine y_goto C (tgt := 33) d_H_choiceOf_130 (by decide) ?_
        exact y_sub [1, 2, 3, 4, 5, 0] rfl (ih _ _ _ _ h)
      refine y_ifnull C 127 d_H_choiceOf_52 (by decide) hq11 (fun k12 hq11 => ?_) (fun k12 hq11 => ?_)
      · cases hq11
        exact y_sub [1, 2, 3, 4, 5, 6] rfl hJq11
      · refine y_aload C (i := 6) 0 d_H_choiceOf_55 rfl ?_
        refine y_gi C (q := (yR0, yT0, 8)) (ci := 0) (k := 4) rfl (by decide) rfl g_53 d_H_choiceOf_57 hq11 (fun x13 hq11 => ?_)
        refine y_aload_n C (i := 1) 2 d_H_choiceOf_60 rfl rfl ?_
        refine y_gi C (q := (yR1, yT1, 10)) (ci := 1) (k := 5) rfl (by decide) rfl g_96 d_H_choiceOf_61 hq11 (fun x14 hq11 => ?_)
        refine y_ic_eq C 70 d_H_choiceOf_64 (by decide) hq11 (fun k15 hq11 => ?_) (fun k15 hq11 => ?_)
        · refine y_aload_n C (i := 2) 3 d_H_choiceOf_70 rfl rfl ?_
          refine y_aload C (i := 6) 0 d_H_choiceOf_71 rfl ?_
          refine y_callV 1 C (q := (yR0, yT0, 8)) (ci := 0) (fun t out hh => c_G_likeTo l w F u10 t r9 out hh) gc_H_choiceOf_135 rfl (by decide) hd_G_likeTo ⟨Nat.le_of_ble_eq_true rfl, Nat.le_of_ble_eq_true rfl⟩ rfl rfl rfl rfl (by simp [y_cat, y_catI, y_catJ]) d_H_choiceOf_73 hq11 (fun x16 u17 hq11 => ?_)
          refine y_stk (stp0 := [.int x16]) rfl ?_
          refine y_istore C (i := 7) (lvp := [(6, va_re w.1 r9), (0, va_re w.1 a0), (1, va_re w.1 a1), (2, va_re w.1 a2), (3, va_re w.1 a3), (4, .int a4), (5, .int a5)]) d_H_choiceOf_76 (by decide) (by simp [List.filter, y_cat, y_catI, y_catJ]) ?_
          refine y_aload_n C (i := 3) 5 d_H_choiceOf_78 rfl rfl ?_
          obtain ⟨q18, hq18, hq11⟩ := ob_e hq11
          have hJq18 : yG p l e ({ frames := 1, cells := 0, slots := 0, locals := 28 } : Room) s m args below meth c YX w 9 Q u17 106 [(0, va_re w.1 a0), (1, va_re w.1 a1), (2, va_re w.1 a2), (3, va_re w.1 a3), (4, .int a4), (5, .int a5), (6, va_re w.1 r9), (7, .int x16)] [.int q18] := by
            refine y_istore C (i := 8) (lvp := [(0, va_re w.1 a0), (1, va_re w.1 a1), (2, va_re w.1 a2), (3, va_re w.1 a3), (4, .int a4), (5, .int a5), (6, va_re w.1 r9), (7, .int x16)]) d_H_choiceOf_106 (by decide) rfl ?_
            refine y_iload C (i := 7) 8 d_H_choiceOf_108 rfl ?_
            refine y_iload C (i := 4) 5 d_H_choiceOf_110 rfl ?_
            refine y_ic_gt C 120 d_H_choiceOf_112 (by decide) hq11 (fun k24 hq11 => ?_) (fun k24 hq11 => ?_)
            · refine y_aload C (i := 6) 7 d_H_choiceOf_120 rfl ?_
              refine y_astore_n C (i := 3) (lvp := [(8, .int q18), (0, va_re w.1 a0), (1, va_re w.1 a1), (2, va_re w.1 a2), (4, .int a4), (5, .int a5), (6, va_re w.1 r9), (7, .int x16)]) d_H_choiceOf_122 rfl (by decide) (by simp [List.filter, y_cat, y_catI, y_catJ]) ?_
              refine y_iload C (i := 7) 8 d_H_choiceOf_123 rfl ?_
              refine y_istore C (i := 4) (lvp := [(3, va_re w.1 r9), (8, .int q18), (0, va_re w.1 a0), (1, va_re w.1 a1), (2, va_re w.1 a2), (5, .int a5), (6, va_re w.1 r9), (7, .int x16)]) d_H_choiceOf_125 (by decide) (by simp [List.filter, y_cat, y_catI, y_catJ]) ?_
              cases hq11
              exact y_sub [3, 4, 5, 1, 0, 6] rfl hJq11
            · refine y_iload C (i := 8) 0 d_H_choiceOf_115 rfl ?_
              refine y_if_eq C 127 d_H_choiceOf_117 (by decide) hq11 (fun k25 hq11 => ?_) (fun k25 hq11 => ?_)
              · cases hq11
                exact y_sub [1, 2, 3, 4, 5, 6] rfl hJq11
              · refine y_aload C (i := 6) 7 d_H_choiceOf_120 rfl ?_
                refine y_astore_n C (i := 3) (lvp := [(8, .int q18), (0, va_re w.1 a0), (1, va_re w.1 a1), (2, va_re w.1 a2), (4, .int a4), (5, .int a5), (6, va_re w.1 r9), (7, .int x16)]) d_H_choiceOf_122 rfl (by decide) (by simp [List.filter, y_cat, y_catI, y_catJ]) ?_
                refine y_iload C (i := 7) 8 d_H_choiceOf_123 rfl ?_
                refine y_istore C (i := 4) (lvp := [(3, va_re w.1 r9), (8, .int q18), (0, va_re w.1 a0), (1, va_re w.1 a1), (2, va_re w.1 a2), (5, .int a5), (6, va_re w.1 r9), (7, .int x16)]) d_H_choiceOf_125 (by decide) (by simp [List.filter, y_cat, y_catI, y_catJ]) ?_
                cases hq11
                exact y_sub [3, 4, 5, 1, 0, 6] rfl hJq11
          refine y_ifnull C 105 d_H_choiceOf_79 (by decide) hq18 (fun k19 hq18 => ?_) (fun k19 hq18 => ?_)
          · refine y_iconst C (v := 0) d_H_choiceOf_105 (by decide) ?_
            cases hq18
            exact y_sub [2, 3, 4, 5, 6, 7, 1, 0] rfl hJq18
          · refine y_iload C (i := 7) 0 d_H_choiceOf_82 rfl ?_
            refine y_iload C (i := 4) 6 d_H_choiceOf_84 rfl ?_
            refine y_ic_ne C 105 d_H_choiceOf_86 (by decide) hq18 (fun k20 hq18 => ?_) (fun k20 hq18 => ?_)
            · refine y_aload C (i := 6) 1 d_H_choiceOf_89 rfl ?_
              refine y_gi C (q := (yR0, yT0, 8)) (ci := 0) (k := 5) rfl (by decide) rfl g_56 d_H_choiceOf_91 hq18 (fun x21 hq18 => ?_)
              refine y_aload_n C (i := 3) 5 d_H_choiceOf_94 rfl rfl ?_
              refine y_gi C (q := (yR0, yT0, 8)) (ci := 0) (k := 5) rfl (by decide) rfl g_56 d_H_choiceOf_95 hq18 (fun x22 hq18 => ?_)
              refine y_ic_le C 105 d_H_choiceOf_98 (by decide) hq18 (fun k23 hq18 => ?_) (fun k23 hq18 => ?_)
              · refine y_iconst C (v := 0) d_H_choiceOf_105 (by decide) ?_
                cases hq18
                exact y_sub [2, 3, 4, 5, 6, 7, 1, 0] rfl hJq18
              · refine y_iconst C (v := 1) d_H_choiceOf_101 (by decide) ?_
                refine y_goto C (tgt := 106) d_H_choiceOf_102 (by decide) ?_
                cases hq18
                exact y_sub [2, 3, 4, 5, 6, 7, 1, 0] rfl hJq18
            · refine y_iconst C (v := 0) d_H_choiceOf_105 (by decide) ?_
              cases hq18
              exact y_sub [2, 3, 4, 5, 6, 7, 1, 0] rfl hJq18
        · refine y_goto C (tgt := 127) d_H_choiceOf_67 (by decide) ?_
          cases hq11
          exact y_sub [1, 2, 3, 4, 5, 6] rfl hJq11
set_option maxRecDepth 100000 in
def f_H_choiceOf (F : Nat) (u : Mm) (o : Nat) (a1 : Option Nat) : Option (Int32 × Mm) := ob (jgi YX 1 7 u a1) fun (x1 : Int32) => ob (jk YX 2 (some o)) fun t => yb (f_H_glassAt F u t x1) fun r2 u3 => (if r2 = none then some ((-4 : Int32), u3) else ob (jgi YX 0 4 u3 r2) fun (x5 : Int32) => (if x5 = (20 : Int32) then some ((-4 : Int32), u3) else f_H_choiceOf_L33 F (some o) a1 r2 (fun (u27 : Mm) (r28 : Option Nat) (x29 : Int32) => (if r28 = none then some ((-4 : Int32), u27) else ob (jgi YX 1 4 u27 a1) fun (x31 : Int32) => (if x31 ≤ x29 then ob (jgi YX 0 0 u27 r28) fun (x33 : Int32) => some (x33, u27) else some ((-4 : Int32), u27)))) F u3 none (0 : Int32) (0 : Int32)))
set_option maxHeartbeats 4000000 in
set_option maxRecDepth 100000 in
theorem c_H_choiceOf (l : Launch) (w : WP) (F : Nat) (u : Mm) (o : Nat) (a1 : Option Nat) (out : Int32 × Mm) (h : f_H_choiceOf F u o a1 = some out) : yMet l m_H_choiceOf ws_H_choiceOf ({ frames := 1, cells := 0, slots := 0, locals := 28 } : Room) YX w u [va_re w.1 (some o), va_re w.1 a1] yfi out := by
  refine y_entry (own := "WhoseGlass$House") (lv := [(0, va_re w.1 (some o)), (1, va_re w.1 a1)]) (by decide +kernel) rfl (by simp [lv_args, y_cat, y_catI, y_catJ]) (by simp [lg_sl, y_cat, y_catI, y_catJ]) ?_
  intro p e s m args below meth c C hr hlocks
  unfold f_H_choiceOf at h
  refine y_aload_n C (i := 0) 0 d_H_choiceOf_0 rfl rfl ?_
  refine y_aload_n C (i := 1) 1 d_H_choiceOf_1 rfl rfl ?_
  refine y_gi C (q := (yR1, yT1, 10)) (ci := 1) (k := 7) rfl (by decide) rfl g_102 d_H_choiceOf_2 h (fun x1 h => ?_)
  refine y_callV 1 C (q := (yR2, yT2, 9)) (ci := 2) (fun t out hh => c_H_glassAt l w F u t x1 out hh) gc_H_choiceOf_49 rfl (by decide) hd_H_glassAt ⟨Nat.le_of_ble_eq_true rfl, Nat.le_of_ble_eq_true rfl⟩ rfl rfl rfl rfl (by simp [y_cat, y_catI, y_catJ]) d_H_choiceOf_5 h (fun r2 u3 h => ?_)
  refine y_stk (stp0 := [va_re w.1 r2]) rfl ?_
  refine y_astore_n C (i := 2) (lvp := [(0, va_re w.1 (some o)), (1, va_re w.1 a1)]) d_H_choiceOf_8 rfl (by decide) (by simp [List.filter, y_cat, y_catI, y_catJ]) ?_
  refine y_aload_n C (i := 2) 0 d_H_choiceOf_9 rfl rfl ?_
  refine y_ifnull C 22 d_H_choiceOf_10 (by decide) h (fun k4 h => ?_) (fun k4 h => ?_)
  · refine y_bipush C (v := -4) d_H_choiceOf_22 (by decide) ?_
    exact y_iret C hr hlocks d_H_choiceOf_24 h
  · refine y_aload_n C (i := 2) 0 d_H_choiceOf_13 rfl rfl ?_
    refine y_gi C (q := (yR0, yT0, 8)) (ci := 0) (k := 4) rfl (by decide) rfl g_53 d_H_choiceOf_14 h (fun x5 h => ?_)
    refine y_bipush C (v := 20) d_H_choiceOf_17 (by decide) ?_
    refine y_ic_ne C 25 d_H_choiceOf_19 (by decide) h (fun k6 h => ?_) (fun k6 h => ?_)
    · refine y_bipush C (v := -4) d_H_choiceOf_22 (by decide) ?_
      exact y_iret C hr hlocks d_H_choiceOf_24 h
    · refine y_null C d_H_choiceOf_25 ?_
      refine y_astore_n C (i := 3) (lvp := [(2, va_re w.1 r2), (0, va_re w.1 (some o)), (1, va_re w.1 a1)]) d_H_choiceOf_26 rfl (by decide) (by simp [List.filter, y_cat, y_catI, y_catJ]) ?_
      refine y_iconst C (v := 0) d_H_choiceOf_27 (by decide) ?_
      refine y_istore C (i := 4) (lvp := [(3, va_re w.1 none), (2, va_re w.1 r2), (0, va_re w.1 (some o)), (1, va_re w.1 a1)]) d_H_choiceOf_28 (by decide) (by simp [List.filter, y_cat, y_catI, y_catJ]) ?_
      refine y_iconst C (v := 0) d_H_choiceOf_30 (by decide) ?_
      refine y_istore C (i := 5) (lvp := [(4, .int (0 : Int32)), (3, va_re w.1 none), (2, va_re w.1 r2), (0, va_re w.1 (some o)), (1, va_re w.1 a1)]) d_H_choiceOf_31 (by decide) rfl ?_
      refine y_sub [4, 5, 3, 2, 1, 0] rfl (w_H_choiceOf_L33 F C hr hlocks _ _ _ _ (fun u27 r28 x29 h => ?_) _ _ _ _ _ h)
      refine y_aload_n C (i := 3) 1 d_H_choiceOf_133 rfl rfl ?_
      refine y_ifnull C 146 d_H_choiceOf_134 (by decide) h (fun k30 h => ?_) (fun k30 h => ?_)
      · refine y_bipush C (v := -4) d_H_choiceOf_146 (by decide) ?_
        refine y_goto C (tgt := 155) d_H_choiceOf_148 (by decide) ?_
        exact y_iret C hr hlocks d_H_choiceOf_155 h
      · refine y_iload C (i := 4) 2 d_H_choiceOf_137 rfl ?_
        refine y_aload_n C (i := 1) 0 d_H_choiceOf_139 rfl rfl ?_
        refine y_gi C (q := (yR1, yT1, 10)) (ci := 1) (k := 4) rfl (by decide) rfl g_93 d_H_choiceOf_140 h (fun x31 h => ?_)
        refine y_ic_ge C 151 d_H_choiceOf_143 (by decide) h (fun k32 h => ?_) (fun k32 h => ?_)
        · refine y_aload_n C (i := 3) 1 d_H_choiceOf_151 rfl rfl ?_
          refine y_gi C (q := (yR0, yT0, 8)) (ci := 0) (k := 0) rfl (by decide) rfl g_42 d_H_choiceOf_152 h (fun x33 h => ?_)
          exact y_iret C hr hlocks d_H_choiceOf_155 h
        · refine y_bipush C (v := -4) d_H_choiceOf_146 (by decide) ?_
          refine y_goto C (tgt := 155) d_H_choiceOf_148 (by decide) ?_
          exact y_iret C hr hlocks d_H_choiceOf_155 h
/-! U_hold -/
theorem d_U_hold_0 : decode prog_3_method_5_code 0 = .ok (.aload_n 0, 1) := by decide +kernel
theorem d_U_hold_1 : decode prog_3_method_5_code 1 = .ok (.aload_n 1, 1) := by decide +kernel
theorem d_U_hold_2 : decode prog_3_method_5_code 2 = .ok (.getfield 43, 3) := by decide +kernel
theorem d_U_hold_5 : decode prog_3_method_5_code 5 = .ok (.putfield 30, 3) := by decide +kernel
theorem d_U_hold_8 : decode prog_3_method_5_code 8 = .ok (.aload_n 0, 1) := by decide +kernel
theorem d_U_hold_9 : decode prog_3_method_5_code 9 = .ok (.aload_n 1, 1) := by decide +kernel
theorem d_U_hold_10 : decode prog_3_method_5_code 10 = .ok (.getfield 43, 3) := by decide +kernel
theorem d_U_hold_13 : decode prog_3_method_5_code 13 = .ok (.putfield 33, 3) := by decide +kernel
theorem d_U_hold_16 : decode prog_3_method_5_code 16 = .ok (.aload_n 1, 1) := by decide +kernel
theorem d_U_hold_17 : decode prog_3_method_5_code 17 = .ok (.bipush 10, 2) := by decide +kernel
theorem d_U_hold_19 : decode prog_3_method_5_code 19 = .ok (.aload_n 0, 1) := by decide +kernel
theorem d_U_hold_20 : decode prog_3_method_5_code 20 = .ok (.getfield 9, 3) := by decide +kernel
theorem d_U_hold_23 : decode prog_3_method_5_code 23 = .ok (.iadd, 1) := by decide +kernel
theorem d_U_hold_24 : decode prog_3_method_5_code 24 = .ok (.putfield 46, 3) := by decide +kernel
theorem d_U_hold_27 : decode prog_3_method_5_code 27 = .ok (.return_, 1) := by decide +kernel
set_option maxRecDepth 100000 in
def f_U_hold (F : Nat) (u : Mm) (o : Nat) (a1 : Option Nat) : Option (Unit × Mm) := ob (jgi YX 0 0 u a1) fun (x1 : Int32) => ob (jpi YX 1 6 u (some o) x1) fun (u2 : Mm) => ob (jgi YX 0 0 u2 a1) fun (x3 : Int32) => ob (jpi YX 1 7 u2 (some o) x3) fun (u4 : Mm) => ob (jgi YX 1 0 u4 (some o)) fun (x5 : Int32) => ob (jpi YX 0 4 u4 a1 ((10 : Int32) + x5)) fun (u6 : Mm) => some ((), u6)
set_option maxHeartbeats 4000000 in
set_option maxRecDepth 100000 in
theorem c_U_hold (l : Launch) (w : WP) (F : Nat) (u : Mm) (o : Nat) (a1 : Option Nat) (out : Unit × Mm) (h : f_U_hold F u o a1 = some out) : yMet l m_U_hold ws_U_hold ({ frames := 0, cells := 0, slots := 0, locals := 0 } : Room) YX w u [va_re w.1 (some o), va_re w.1 a1] yfv out := by
  refine y_entry (own := "WhoseGlass$Guest") (lv := [(0, va_re w.1 (some o)), (1, va_re w.1 a1)]) (by decide +kernel) rfl (by simp [lv_args, y_cat, y_catI, y_catJ]) (by simp [lg_sl, y_cat, y_catI, y_catJ]) ?_
  intro p e s m args below meth c C hr hlocks
  unfold f_U_hold at h
  refine y_aload_n C (i := 0) 0 d_U_hold_0 rfl rfl ?_
  refine y_aload_n C (i := 1) 1 d_U_hold_1 rfl rfl ?_
  refine y_gi C (q := (yR0, yT0, 8)) (ci := 0) (k := 0) rfl (by decide) rfl g_40 d_U_hold_2 h (fun x1 h => ?_)
  refine y_pi C (q := (yR1, yT1, 10)) (ci := 1) (k := 6) rfl (by decide) rfl rfl (by decide +kernel) g_97 d_U_hold_5 h (fun u2 h => ?_)
  refine y_aload_n C (i := 0) 0 d_U_hold_8 rfl rfl ?_
  refine y_aload_n C (i := 1) 1 d_U_hold_9 rfl rfl ?_
  refine y_gi C (q := (yR0, yT0, 8)) (ci := 0) (k := 0) rfl (by decide) rfl g_40 d_U_hold_10 h (fun x3 h => ?_)
  refine y_pi C (q := (yR1, yT1, 10)) (ci := 1) (k := 7) rfl (by decide) rfl rfl (by decide +kernel) g_101 d_U_hold_13 h (fun u4 h => ?_)
  refine y_aload_n C (i := 1) 1 d_U_hold_16 rfl rfl ?_
  refine y_bipush C (v := 10) d_U_hold_17 (by decide) ?_
  refine y_aload_n C (i := 0) 0 d_U_hold_19 rfl rfl ?_
  refine y_gi C (q := (yR1, yT1, 10)) (ci := 1) (k := 0) rfl (by decide) rfl g_84 d_U_hold_20 h (fun x5 h => ?_)
  refine y_iadd C d_U_hold_23 ?_
  refine y_pi C (q := (yR0, yT0, 8)) (ci := 0) (k := 4) rfl (by decide) rfl rfl (by decide +kernel) g_51 d_U_hold_24 h (fun u6 h => ?_)
  exact y_vret C hr hlocks d_U_hold_27 h
/-! G_begin -/
theorem d_G_begin_0 : decode prog_2_method_2_code 0 = .ok (.aload_n 0, 1) := by decide +kernel
theorem d_G_begin_1 : decode prog_2_method_2_code 1 = .ok (.iload_n 1, 1) := by decide +kernel
theorem d_G_begin_2 : decode prog_2_method_2_code 2 = .ok (.putfield 15, 3) := by decide +kernel
theorem d_G_begin_5 : decode prog_2_method_2_code 5 = .ok (.aload_n 0, 1) := by decide +kernel
theorem d_G_begin_6 : decode prog_2_method_2_code 6 = .ok (.iload_n 2, 1) := by decide +kernel
theorem d_G_begin_7 : decode prog_2_method_2_code 7 = .ok (.putfield 18, 3) := by decide +kernel
theorem d_G_begin_10 : decode prog_2_method_2_code 10 = .ok (.aload_n 0, 1) := by decide +kernel
theorem d_G_begin_11 : decode prog_2_method_2_code 11 = .ok (.iload_n 3, 1) := by decide +kernel
theorem d_G_begin_12 : decode prog_2_method_2_code 12 = .ok (.putfield 21, 3) := by decide +kernel
theorem d_G_begin_15 : decode prog_2_method_2_code 15 = .ok (.aload_n 0, 1) := by decide +kernel
theorem d_G_begin_16 : decode prog_2_method_2_code 16 = .ok (.iconst 0, 1) := by decide +kernel
theorem d_G_begin_17 : decode prog_2_method_2_code 17 = .ok (.putfield 24, 3) := by decide +kernel
theorem d_G_begin_20 : decode prog_2_method_2_code 20 = .ok (.aload_n 0, 1) := by decide +kernel
theorem d_G_begin_21 : decode prog_2_method_2_code 21 = .ok (.iconst 0, 1) := by decide +kernel
theorem d_G_begin_22 : decode prog_2_method_2_code 22 = .ok (.putfield 27, 3) := by decide +kernel
theorem d_G_begin_25 : decode prog_2_method_2_code 25 = .ok (.return_, 1) := by decide +kernel
set_option maxRecDepth 100000 in
def f_G_begin (F : Nat) (u : Mm) (o : Nat) (a1 : Int32) (a2 : Int32) (a3 : Int32) : Option (Unit × Mm) := ob (jpi YX 0 1 u (some o) a1) fun (u1 : Mm) => ob (jpi YX 0 2 u1 (some o) a2) fun (u2 : Mm) => ob (jpi YX 0 3 u2 (some o) a3) fun (u3 : Mm) => ob (jpi YX 0 6 u3 (some o) (0 : Int32)) fun (u4 : Mm) => ob (jpz YX 0 7 u4 (some o) (0 : Int32)) fun (u5 : Mm) => some ((), u5)
set_option maxHeartbeats 4000000 in
set_option maxRecDepth 100000 in
theorem c_G_begin (l : Launch) (w : WP) (F : Nat) (u : Mm) (o : Nat) (a1 : Int32) (a2 : Int32) (a3 : Int32) (out : Unit × Mm) (h : f_G_begin F u o a1 a2 a3 = some out) : yMet l m_G_begin ws_G_begin ({ frames := 0, cells := 0, slots := 0, locals := 0 } : Room) YX w u [va_re w.1 (some o), .int a1, .int a2, .int a3] yfv out := by
  refine y_entry (own := "WhoseGlass$Glass") (lv := [(0, va_re w.1 (some o)), (1, .int a1), (2, .int a2), (3, .int a3)]) (by decide +kernel) rfl (by simp [lv_args, y_cat, y_catI, y_catJ]) (by simp [lg_sl, y_cat, y_catI, y_catJ]) ?_
  intro p e s m args below meth c C hr hlocks
  unfold f_G_begin at h
  refine y_aload_n C (i := 0) 0 d_G_begin_0 rfl rfl ?_
  refine y_iload_n C (i := 1) 1 d_G_begin_1 rfl rfl ?_
  refine y_pi C (q := (yR0, yT0, 8)) (ci := 0) (k := 1) rfl (by decide) rfl rfl (by decide +kernel) g_43 d_G_begin_2 h (fun u1 h => ?_)
  refine y_aload_n C (i := 0) 0 d_G_begin_5 rfl rfl ?_
  refine y_iload_n C (i := 2) 2 d_G_begin_6 rfl rfl ?_
  refine y_pi C (q := (yR0, yT0, 8)) (ci := 0) (k := 2) rfl (by decide) rfl rfl (by decide +kernel) g_45 d_G_begin_7 h (fun u2 h => ?_)
  refine y_aload_n C (i := 0) 0 d_G_begin_10 rfl rfl ?_
  refine y_iload_n C (i := 3) 3 d_G_begin_11 rfl rfl ?_
  refine y_pi C (q := (yR0, yT0, 8)) (ci := 0) (k := 3) rfl (by decide) rfl rfl (by decide +kernel) g_46 d_G_begin_12 h (fun u3 h => ?_)
  refine y_aload_n C (i := 0) 0 d_G_begin_15 rfl rfl ?_
  refine y_iconst C (v := 0) d_G_begin_16 (by decide) ?_
  refine y_pi C (q := (yR0, yT0, 8)) (ci := 0) (k := 6) rfl (by decide) rfl rfl (by decide +kernel) g_57 d_G_begin_17 h (fun u4 h => ?_)
  refine y_aload_n C (i := 0) 0 d_G_begin_20 rfl rfl ?_
  refine y_iconst C (v := 0) d_G_begin_21 (by decide) ?_
  refine y_pz C (q := (yR0, yT0, 8)) (ci := 0) (k := 7) rfl (by decide) rfl rfl (by decide +kernel) g_59 d_G_begin_22 h (fun u5 h => ?_)
  exact y_vret C hr hlocks d_G_begin_25 h
/-! H_addGlass -/
theorem d_H_addGlass_0 : decode prog_4_method_5_code 0 = .ok (.aload_n 0, 1) := by decide +kernel
theorem d_H_addGlass_1 : decode prog_4_method_5_code 1 = .ok (.getfield 34, 3) := by decide +kernel
theorem d_H_addGlass_4 : decode prog_4_method_5_code 4 = .ok (.bipush 12, 2) := by decide +kernel
theorem d_H_addGlass_6 : decode prog_4_method_5_code 6 = .ok (.if_icmp .lt 5, 3) := by decide +kernel
theorem d_H_addGlass_9 : decode prog_4_method_5_code 9 = .ok (.aconst_null, 1) := by decide +kernel
theorem d_H_addGlass_10 : decode prog_4_method_5_code 10 = .ok (.areturn, 1) := by decide +kernel
theorem d_H_addGlass_11 : decode prog_4_method_5_code 11 = .ok (.aload_n 0, 1) := by decide +kernel
theorem d_H_addGlass_12 : decode prog_4_method_5_code 12 = .ok (.dup, 1) := by decide +kernel
theorem d_H_addGlass_13 : decode prog_4_method_5_code 13 = .ok (.getfield 34, 3) := by decide +kernel
theorem d_H_addGlass_16 : decode prog_4_method_5_code 16 = .ok (.iconst 1, 1) := by decide +kernel
theorem d_H_addGlass_17 : decode prog_4_method_5_code 17 = .ok (.iadd, 1) := by decide +kernel
theorem d_H_addGlass_18 : decode prog_4_method_5_code 18 = .ok (.putfield 34, 3) := by decide +kernel
theorem d_H_addGlass_21 : decode prog_4_method_5_code 21 = .ok (.aload_n 0, 1) := by decide +kernel
theorem d_H_addGlass_22 : decode prog_4_method_5_code 22 = .ok (.aload_n 0, 1) := by decide +kernel
theorem d_H_addGlass_23 : decode prog_4_method_5_code 23 = .ok (.getfield 34, 3) := by decide +kernel
theorem d_H_addGlass_26 : decode prog_4_method_5_code 26 = .ok (.iconst 1, 1) := by decide +kernel
theorem d_H_addGlass_27 : decode prog_4_method_5_code 27 = .ok (.isub, 1) := by decide +kernel
theorem d_H_addGlass_28 : decode prog_4_method_5_code 28 = .ok (.invokevirtual 49, 3) := by decide +kernel
theorem d_H_addGlass_31 : decode prog_4_method_5_code 31 = .ok (.astore 4, 2) := by decide +kernel
theorem d_H_addGlass_33 : decode prog_4_method_5_code 33 = .ok (.aload 4, 2) := by decide +kernel
theorem d_H_addGlass_35 : decode prog_4_method_5_code 35 = .ok (.ifnull 11, 3) := by decide +kernel
theorem d_H_addGlass_38 : decode prog_4_method_5_code 38 = .ok (.aload 4, 2) := by decide +kernel
theorem d_H_addGlass_40 : decode prog_4_method_5_code 40 = .ok (.iload_n 1, 1) := by decide +kernel
theorem d_H_addGlass_41 : decode prog_4_method_5_code 41 = .ok (.iload_n 2, 1) := by decide +kernel
theorem d_H_addGlass_42 : decode prog_4_method_5_code 42 = .ok (.iload_n 3, 1) := by decide +kernel
theorem d_H_addGlass_43 : decode prog_4_method_5_code 43 = .ok (.invokevirtual 64, 3) := by decide +kernel
theorem d_H_addGlass_46 : decode prog_4_method_5_code 46 = .ok (.aload 4, 2) := by decide +kernel
theorem d_H_addGlass_48 : decode prog_4_method_5_code 48 = .ok (.areturn, 1) := by decide +kernel
theorem gc_H_addGlass_49 : GoodIn yGW (wsV "WhoseGlass$House" 49 yR2 m_H_glassAt ws_H_glassAt) := y_gV g_259 g_260 g_261 g_2 g_262
theorem gc_H_addGlass_64 : GoodIn yGW (wsV "WhoseGlass$House" 64 yR0 m_G_begin ws_G_begin) := y_gV g_313 g_314 g_315 g_3 g_316
set_option maxRecDepth 100000 in
def f_H_addGlass (F : Nat) (u : Mm) (o : Nat) (a1 : Int32) (a2 : Int32) (a3 : Int32) : Option (Option Nat × Mm) := ob (jgi YX 2 2 u (some o)) fun (x1 : Int32) => (if x1 < (12 : Int32) then ob (jgi YX 2 2 u (some o)) fun (x3 : Int32) => ob (jpi YX 2 2 u (some o) (x3 + (1 : Int32))) fun (u4 : Mm) => ob (jgi YX 2 2 u4 (some o)) fun (x5 : Int32) => ob (jk YX 2 (some o)) fun t => yb (f_H_glassAt F u4 t (x5 - (1 : Int32))) fun r6 u7 => ob ((if r6 = none then some u7 else ob (jk YX 0 r6) fun t => yb (f_G_begin F u7 t a1 a2 a3) fun v10 u11 => some u11) : Option (Mm)) fun q8 => some (r6, q8) else some (none, u))
set_option maxHeartbeats 4000000 in
set_option maxRecDepth 100000 in
theorem c_H_addGlass (l : Launch) (w : WP) (F : Nat) (u : Mm) (o : Nat) (a1 : Int32) (a2 : Int32) (a3 : Int32) (out : Option Nat × Mm) (h : f_H_addGlass F u o a1 a2 a3 = some out) : yMet l m_H_addGlass ws_H_addGlass ({ frames := 1, cells := 0, slots := 0, locals := 23 } : Room) YX w u [va_re w.1 (some o), .int a1, .int a2, .int a3] (yfr w) out := by
  refine y_entry (own := "WhoseGlass$House") (lv := [(0, va_re w.1 (some o)), (1, .int a1), (2, .int a2), (3, .int a3)]) (by decide +kernel) rfl (by simp [lv_args, y_cat, y_catI, y_catJ]) (by simp [lg_sl, y_cat, y_catI, y_catJ]) ?_
  intro p e s m args below meth c C hr hlocks
  unfold f_H_addGlass at h
  refine y_aload_n C (i := 0) 0 d_H_addGlass_0 rfl rfl ?_
  refine y_gi C (q := (yR2, yT2, 9)) (ci := 2) (k := 2) rfl (by decide) rfl g_133 d_H_addGlass_1 h (fun x1 h => ?_)
  refine y_bipush C (v := 12) d_H_addGlass_4 (by decide) ?_
  refine y_ic_lt C 11 d_H_addGlass_6 (by decide) h (fun k2 h => ?_) (fun k2 h => ?_)
  · refine y_aload_n C (i := 0) 0 d_H_addGlass_11 rfl rfl ?_
    refine y_dup C d_H_addGlass_12 (y_cat _ _) ?_
    refine y_gi C (q := (yR2, yT2, 9)) (ci := 2) (k := 2) rfl (by decide) rfl g_133 d_H_addGlass_13 h (fun x3 h => ?_)
    refine y_iconst C (v := 1) d_H_addGlass_16 (by decide) ?_
    refine y_iadd C d_H_addGlass_17 ?_
    refine y_pi C (q := (yR2, yT2, 9)) (ci := 2) (k := 2) rfl (by decide) rfl rfl (by decide +kernel) g_133 d_H_addGlass_18 h (fun u4 h => ?_)
    refine y_aload_n C (i := 0) 0 d_H_addGlass_21 rfl rfl ?_
    refine y_aload_n C (i := 0) 0 d_H_addGlass_22 rfl rfl ?_
    refine y_gi C (q := (yR2, yT2, 9)) (ci := 2) (k := 2) rfl (by decide) rfl g_133 d_H_addGlass_23 h (fun x5 h => ?_)
    refine y_iconst C (v := 1) d_H_addGlass_26 (by decide) ?_
    refine y_isub C d_H_addGlass_27 ?_
    refine y_callV 1 C (q := (yR2, yT2, 9)) (ci := 2) (fun t out hh => c_H_glassAt l w F u4 t (x5 - (1 : Int32)) out hh) gc_H_addGlass_49 rfl (by decide) hd_H_glassAt ⟨Nat.le_of_ble_eq_true rfl, Nat.le_of_ble_eq_true rfl⟩ rfl rfl rfl rfl (by simp [y_cat, y_catI, y_catJ]) d_H_addGlass_28 h (fun r6 u7 h => ?_)
    refine y_stk (stp0 := [va_re w.1 r6]) rfl ?_
    refine y_astore C (i := 4) (lvp := [(0, va_re w.1 (some o)), (1, .int a1), (2, .int a2), (3, .int a3)]) d_H_addGlass_31 (by decide) (by simp [List.filter, y_cat, y_catI, y_catJ]) ?_
    refine y_aload C (i := 4) 0 d_H_addGlass_33 rfl ?_
    obtain ⟨q8, hq8, h⟩ := ob_e h
    have hJq8 : yG p l e ({ frames := 1, cells := 0, slots := 0, locals := 23 } : Room) s m args below meth c YX w 5 (MQ below (yQ YX w (yfr w) out) args s 0 0 (yA YX w)) q8 46 [(4, va_re w.1 r6)] [] := by
      refine y_aload C (i := 4) 0 d_H_addGlass_46 rfl ?_
      exact y_aret C hr hlocks d_H_addGlass_48 h
    refine y_ifnull C 46 d_H_addGlass_35 (by decide) hq8 (fun k9 hq8 => ?_) (fun k9 hq8 => ?_)
    · cases hq8
      exact y_sub [0] rfl hJq8
    · refine y_aload C (i := 4) 0 d_H_addGlass_38 rfl ?_
      refine y_iload_n C (i := 1) 2 d_H_addGlass_40 rfl rfl ?_
      refine y_iload_n C (i := 2) 3 d_H_addGlass_41 rfl rfl ?_
      refine y_iload_n C (i := 3) 4 d_H_addGlass_42 rfl rfl ?_
      refine y_callV 3 C (q := (yR0, yT0, 8)) (ci := 0) (fun t out hh => c_G_begin l w F u7 t a1 a2 a3 out hh) gc_H_addGlass_64 rfl (by decide) hd_G_begin ⟨Nat.le_of_ble_eq_true rfl, Nat.le_of_ble_eq_true rfl⟩ rfl rfl rfl rfl (by simp [y_cat, y_catI, y_catJ]) d_H_addGlass_43 hq8 (fun v10 u11 hq8 => ?_)
      refine y_stk (stp0 := []) rfl ?_
      cases hq8
      exact y_sub [0] rfl hJq8
  · refine y_null C d_H_addGlass_9 ?_
    exact y_aret C hr hlocks d_H_addGlass_10 h
/-! H_takeUp -/
theorem d_H_takeUp_0 : decode prog_4_method_11_code 0 = .ok (.aload_n 0, 1) := by decide +kernel
theorem d_H_takeUp_1 : decode prog_4_method_11_code 1 = .ok (.aload_n 0, 1) := by decide +kernel
theorem d_H_takeUp_2 : decode prog_4_method_11_code 2 = .ok (.aload_n 1, 1) := by decide +kernel
theorem d_H_takeUp_3 : decode prog_4_method_11_code 3 = .ok (.invokevirtual 116, 3) := by decide +kernel
theorem d_H_takeUp_6 : decode prog_4_method_11_code 6 = .ok (.invokevirtual 49, 3) := by decide +kernel
theorem d_H_takeUp_9 : decode prog_4_method_11_code 9 = .ok (.astore_n 2, 1) := by decide +kernel
theorem d_H_takeUp_10 : decode prog_4_method_11_code 10 = .ok (.aload_n 2, 1) := by decide +kernel
theorem d_H_takeUp_11 : decode prog_4_method_11_code 11 = .ok (.ifnull 34, 3) := by decide +kernel
theorem d_H_takeUp_14 : decode prog_4_method_11_code 14 = .ok (.aload_n 2, 1) := by decide +kernel
theorem d_H_takeUp_15 : decode prog_4_method_11_code 15 = .ok (.getfield 119, 3) := by decide +kernel
theorem d_H_takeUp_18 : decode prog_4_method_11_code 18 = .ok (.aload_n 1, 1) := by decide +kernel
theorem d_H_takeUp_19 : decode prog_4_method_11_code 19 = .ok (.getfield 122, 3) := by decide +kernel
theorem d_H_takeUp_22 : decode prog_4_method_11_code 22 = .ok (.if_icmp .eq 13, 3) := by decide +kernel
theorem d_H_takeUp_25 : decode prog_4_method_11_code 25 = .ok (.aload_n 0, 1) := by decide +kernel
theorem d_H_takeUp_26 : decode prog_4_method_11_code 26 = .ok (.dup, 1) := by decide +kernel
theorem d_H_takeUp_27 : decode prog_4_method_11_code 27 = .ok (.getfield 43, 3) := by decide +kernel
theorem d_H_takeUp_30 : decode prog_4_method_11_code 30 = .ok (.iconst 1, 1) := by decide +kernel
theorem d_H_takeUp_31 : decode prog_4_method_11_code 31 = .ok (.iadd, 1) := by decide +kernel
theorem d_H_takeUp_32 : decode prog_4_method_11_code 32 = .ok (.putfield 43, 3) := by decide +kernel
theorem d_H_takeUp_35 : decode prog_4_method_11_code 35 = .ok (.aload_n 1, 1) := by decide +kernel
theorem d_H_takeUp_36 : decode prog_4_method_11_code 36 = .ok (.aload_n 2, 1) := by decide +kernel
theorem d_H_takeUp_37 : decode prog_4_method_11_code 37 = .ok (.invokevirtual 125, 3) := by decide +kernel
theorem d_H_takeUp_40 : decode prog_4_method_11_code 40 = .ok (.aload_n 2, 1) := by decide +kernel
theorem d_H_takeUp_41 : decode prog_4_method_11_code 41 = .ok (.getfield 119, 3) := by decide +kernel
theorem d_H_takeUp_44 : decode prog_4_method_11_code 44 = .ok (.ireturn, 1) := by decide +kernel
theorem d_H_takeUp_45 : decode prog_4_method_11_code 45 = .ok (.aload_n 0, 1) := by decide +kernel
theorem d_H_takeUp_46 : decode prog_4_method_11_code 46 = .ok (.getfield 23, 3) := by decide +kernel
theorem d_H_takeUp_49 : decode prog_4_method_11_code 49 = .ok (.ifCond .le 22, 3) := by decide +kernel
theorem d_H_takeUp_52 : decode prog_4_method_11_code 52 = .ok (.aload_n 0, 1) := by decide +kernel
theorem d_H_takeUp_53 : decode prog_4_method_11_code 53 = .ok (.iconst 0, 1) := by decide +kernel
theorem d_H_takeUp_54 : decode prog_4_method_11_code 54 = .ok (.aload_n 0, 1) := by decide +kernel
theorem d_H_takeUp_55 : decode prog_4_method_11_code 55 = .ok (.getfield 23, 3) := by decide +kernel
theorem d_H_takeUp_58 : decode prog_4_method_11_code 58 = .ok (.iconst 1, 1) := by decide +kernel
theorem d_H_takeUp_59 : decode prog_4_method_11_code 59 = .ok (.isub, 1) := by decide +kernel
theorem d_H_takeUp_60 : decode prog_4_method_11_code 60 = .ok (.bipush 10, 2) := by decide +kernel
theorem d_H_takeUp_62 : decode prog_4_method_11_code 62 = .ok (.irem, 1) := by decide +kernel
theorem d_H_takeUp_63 : decode prog_4_method_11_code 63 = .ok (.bipush 9, 2) := by decide +kernel
theorem d_H_takeUp_65 : decode prog_4_method_11_code 65 = .ok (.invokevirtual 128, 3) := by decide +kernel
theorem d_H_takeUp_68 : decode prog_4_method_11_code 68 = .ok (.goto 4, 3) := by decide +kernel
theorem d_H_takeUp_71 : decode prog_4_method_11_code 71 = .ok (.aconst_null, 1) := by decide +kernel
theorem d_H_takeUp_72 : decode prog_4_method_11_code 72 = .ok (.astore_n 3, 1) := by decide +kernel
theorem d_H_takeUp_73 : decode prog_4_method_11_code 73 = .ok (.aload_n 3, 1) := by decide +kernel
theorem d_H_takeUp_74 : decode prog_4_method_11_code 74 = .ok (.ifnonnull 6, 3) := by decide +kernel
theorem d_H_takeUp_77 : decode prog_4_method_11_code 77 = .ok (.bipush (-4), 2) := by decide +kernel
theorem d_H_takeUp_79 : decode prog_4_method_11_code 79 = .ok (.ireturn, 1) := by decide +kernel
theorem d_H_takeUp_80 : decode prog_4_method_11_code 80 = .ok (.aload_n 0, 1) := by decide +kernel
theorem d_H_takeUp_81 : decode prog_4_method_11_code 81 = .ok (.dup, 1) := by decide +kernel
theorem d_H_takeUp_82 : decode prog_4_method_11_code 82 = .ok (.getfield 23, 3) := by decide +kernel
theorem d_H_takeUp_85 : decode prog_4_method_11_code 85 = .ok (.iconst 1, 1) := by decide +kernel
theorem d_H_takeUp_86 : decode prog_4_method_11_code 86 = .ok (.isub, 1) := by decide +kernel
theorem d_H_takeUp_87 : decode prog_4_method_11_code 87 = .ok (.putfield 23, 3) := by decide +kernel
theorem d_H_takeUp_90 : decode prog_4_method_11_code 90 = .ok (.aload_n 0, 1) := by decide +kernel
theorem d_H_takeUp_91 : decode prog_4_method_11_code 91 = .ok (.dup, 1) := by decide +kernel
theorem d_H_takeUp_92 : decode prog_4_method_11_code 92 = .ok (.getfield 46, 3) := by decide +kernel
theorem d_H_takeUp_95 : decode prog_4_method_11_code 95 = .ok (.iconst 1, 1) := by decide +kernel
theorem d_H_takeUp_96 : decode prog_4_method_11_code 96 = .ok (.iadd, 1) := by decide +kernel
theorem d_H_takeUp_97 : decode prog_4_method_11_code 97 = .ok (.putfield 46, 3) := by decide +kernel
theorem d_H_takeUp_100 : decode prog_4_method_11_code 100 = .ok (.aload_n 1, 1) := by decide +kernel
theorem d_H_takeUp_101 : decode prog_4_method_11_code 101 = .ok (.aload_n 3, 1) := by decide +kernel
theorem d_H_takeUp_102 : decode prog_4_method_11_code 102 = .ok (.invokevirtual 125, 3) := by decide +kernel
theorem d_H_takeUp_105 : decode prog_4_method_11_code 105 = .ok (.aload_n 3, 1) := by decide +kernel
theorem d_H_takeUp_106 : decode prog_4_method_11_code 106 = .ok (.getfield 119, 3) := by decide +kernel
theorem d_H_takeUp_109 : decode prog_4_method_11_code 109 = .ok (.ireturn, 1) := by decide +kernel
theorem gc_H_takeUp_116 : GoodIn yGW (wsV "WhoseGlass$House" 116 yR2 m_H_choiceOf ws_H_choiceOf) := y_gV g_297 g_298 g_299 g_2 g_300
theorem gc_H_takeUp_49 : GoodIn yGW (wsV "WhoseGlass$House" 49 yR2 m_H_glassAt ws_H_glassAt) := y_gV g_259 g_260 g_261 g_2 g_262
theorem gc_H_takeUp_128 : GoodIn yGW (wsV "WhoseGlass$House" 128 yR2 m_H_addGlass ws_H_addGlass) := y_gV g_309 g_310 g_311 g_2 g_312
theorem gc_H_takeUp_125 : GoodIn yGW (wsV "WhoseGlass$House" 125 yR1 m_U_hold ws_U_hold) := y_gV g_305 g_306 g_307 g_4 g_308
set_option maxRecDepth 100000 in
def f_H_takeUp (F : Nat) (u : Mm) (o : Nat) (a1 : Option Nat) : Option (Int32 × Mm) := ob (jk YX 2 (some o)) fun t => yb (f_H_choiceOf F u t a1) fun x1 u2 => ob (jk YX 2 (some o)) fun t => yb (f_H_glassAt F u2 t x1) fun r3 u4 => (if r3 = none then ob (jgi YX 2 4 u4 (some o)) fun (x6 : Int32) => ob ((if x6 ≤ 0 then some (none, u4) else ob (jgi YX 2 4 u4 (some o)) fun (x9 : Int32) => ob (jrm (x9 - (1 : Int32)) (10 : Int32)) fun (x10 : Int32) => ob (jk YX 2 (some o)) fun t => yb (f_H_addGlass F u4 t (0 : Int32) x10 (9 : Int32)) fun r11 u12 => some (r11, u12)) : Option ((Option Nat) × Mm)) fun q7 => (if q7.1 = none then some ((-4 : Int32), q7.2) else ob (jgi YX 2 4 q7.2 (some o)) fun (x14 : Int32) => ob (jpi YX 2 4 q7.2 (some o) (x14 - (1 : Int32))) fun (u15 : Mm) => ob (jgi YX 2 7 u15 (some o)) fun (x16 : Int32) => ob (jpi YX 2 7 u15 (some o) (x16 + (1 : Int32))) fun (u17 : Mm) => ob (jk YX 1 a1) fun t => yb (f_U_hold F u17 t q7.1) fun v18 u19 => ob (jgi YX 0 0 u19 q7.1) fun (x20 : Int32) => some (x20, u19)) else ob (jgi YX 0 0 u4 r3) fun (x21 : Int32) => ob (jgi YX 1 7 u4 a1) fun (x22 : Int32) => ob ((if x21 = x22 then some u4 else ob (jgi YX 2 6 u4 (some o)) fun (x25 : Int32) => ob (jpi YX 2 6 u4 (some o) (x25 + (1 : Int32))) fun (u26 : Mm) => some u26) : Option (Mm)) fun q23 => ob (jk YX 1 a1) fun t => yb (f_U_hold F q23 t r3) fun v27 u28 => ob (jgi YX 0 0 u28 r3) fun (x29 : Int32) => some (x29, u28))
set_option maxHeartbeats 4000000 in
set_option maxRecDepth 100000 in
theorem c_H_takeUp (l : Launch) (w : WP) (F : Nat) (u : Mm) (o : Nat) (a1 : Option Nat) (out : Int32 × Mm) (h : f_H_takeUp F u o a1 = some out) : yMet l m_H_takeUp ws_H_takeUp ({ frames := 2, cells := 0, slots := 0, locals := 56 } : Room) YX w u [va_re w.1 (some o), va_re w.1 a1] yfi out := by
  refine y_entry (own := "WhoseGlass$House") (lv := [(0, va_re w.1 (some o)), (1, va_re w.1 a1)]) (by decide +kernel) rfl (by simp [lv_args, y_cat, y_catI, y_catJ]) (by simp [lg_sl, y_cat, y_catI, y_catJ]) ?_
  intro p e s m args below meth c C hr hlocks
  unfold f_H_takeUp at h
  refine y_aload_n C (i := 0) 0 d_H_takeUp_0 rfl rfl ?_
  refine y_aload_n C (i := 0) 0 d_H_takeUp_1 rfl rfl ?_
  refine y_aload_n C (i := 1) 1 d_H_takeUp_2 rfl rfl ?_
  refine y_callV 1 C (q := (yR2, yT2, 9)) (ci := 2) (fun t out hh => c_H_choiceOf l w F u t a1 out hh) gc_H_takeUp_116 rfl (by decide) hd_H_choiceOf ⟨Nat.le_of_ble_eq_true rfl, Nat.le_of_ble_eq_true rfl⟩ rfl rfl rfl rfl (by simp [y_cat, y_catI, y_catJ]) d_H_takeUp_3 h (fun x1 u2 h => ?_)
  refine y_stk (stp0 := [.int x1, va_re w.1 (some o)]) rfl ?_
  refine y_callV 1 C (q := (yR2, yT2, 9)) (ci := 2) (fun t out hh => c_H_glassAt l w F u2 t x1 out hh) gc_H_takeUp_49 rfl (by decide) hd_H_glassAt ⟨Nat.le_of_ble_eq_true rfl, Nat.le_of_ble_eq_true rfl⟩ rfl rfl rfl rfl (by simp [y_cat, y_catI, y_catJ]) d_H_takeUp_6 h (fun r3 u4 h => ?_)
  refine y_stk (stp0 := [va_re w.1 r3]) rfl ?_
  refine y_astore_n C (i := 2) (lvp := [(0, va_re w.1 (some o)), (1, va_re w.1 a1)]) d_H_takeUp_9 rfl (by decide) (by simp [List.filter, y_cat, y_catI, y_catJ]) ?_
  refine y_aload_n C (i := 2) 0 d_H_takeUp_10 rfl rfl ?_
  refine y_ifnull C 45 d_H_takeUp_11 (by decide) h (fun k5 h => ?_) (fun k5 h => ?_)
  · refine y_aload_n C (i := 0) 1 d_H_takeUp_45 rfl rfl ?_
    refine y_gi C (q := (yR2, yT2, 9)) (ci := 2) (k := 4) rfl (by decide) rfl g_137 d_H_takeUp_46 h (fun x6 h => ?_)
    obtain ⟨q7, hq7, h⟩ := ob_e h
    have hJq7 : yG p l e ({ frames := 2, cells := 0, slots := 0, locals := 56 } : Room) s m args below meth c YX w 4 (MQ below (yQ YX w yfi out) args s 0 0 (yA YX w)) q7.2 72 [(0, va_re w.1 (some o)), (1, va_re w.1 a1)] [va_re w.1 q7.1] := by
      refine y_astore_n C (i := 3) (lvp := [(0, va_re w.1 (some o)), (1, va_re w.1 a1)]) d_H_takeUp_72 rfl (by decide) (by simp [List.filter, y_cat, y_catI, y_catJ]) ?_
      refine y_aload_n C (i := 3) 0 d_H_takeUp_73 rfl rfl ?_
      refine y_ifnonnull C 80 d_H_takeUp_74 (by decide) h (fun k13 h => ?_) (fun k13 h => ?_)
      · refine y_bipush C (v := -4) d_H_takeUp_77 (by decide) ?_
        exact y_iret C hr hlocks d_H_takeUp_79 h
      · refine y_aload_n C (i := 0) 1 d_H_takeUp_80 rfl rfl ?_
        refine y_dup C d_H_takeUp_81 (y_cat _ _) ?_
        refine y_gi C (q := (yR2, yT2, 9)) (ci := 2) (k := 4) rfl (by decide) rfl g_137 d_H_takeUp_82 h (fun x14 h => ?_)
        refine y_iconst C (v := 1) d_H_takeUp_85 (by decide) ?_
        refine y_isub C d_H_takeUp_86 ?_
        refine y_pi C (q := (yR2, yT2, 9)) (ci := 2) (k := 4) rfl (by decide) rfl rfl (by decide +kernel) g_137 d_H_takeUp_87 h (fun u15 h => ?_)
        refine y_aload_n C (i := 0) 1 d_H_takeUp_90 rfl rfl ?_
        refine y_dup C d_H_takeUp_91 (y_cat _ _) ?_
        refine y_gi C (q := (yR2, yT2, 9)) (ci := 2) (k := 7) rfl (by decide) rfl g_145 d_H_takeUp_92 h (fun x16 h => ?_)
        refine y_iconst C (v := 1) d_H_takeUp_95 (by decide) ?_
        refine y_iadd C d_H_takeUp_96 ?_
        refine y_pi C (q := (yR2, yT2, 9)) (ci := 2) (k := 7) rfl (by decide) rfl rfl (by decide +kernel) g_145 d_H_takeUp_97 h (fun u17 h => ?_)
        refine y_aload_n C (i := 1) 2 d_H_takeUp_100 rfl rfl ?_
        refine y_aload_n C (i := 3) 0 d_H_takeUp_101 rfl rfl ?_
        refine y_callV 1 C (q := (yR1, yT1, 10)) (ci := 1) (fun t out hh => c_U_hold l w F u17 t q7.1 out hh) gc_H_takeUp_125 rfl (by decide) hd_U_hold ⟨Nat.le_of_ble_eq_true rfl, Nat.le_of_ble_eq_true rfl⟩ rfl rfl rfl rfl (by simp [y_cat, y_catI, y_catJ]) d_H_takeUp_102 h (fun v18 u19 h => ?_)
        refine y_stk (stp0 := []) rfl ?_
        refine y_aload_n C (i := 3) 0 d_H_takeUp_105 rfl rfl ?_
        refine y_gi C (q := (yR0, yT0, 8)) (ci := 0) (k := 0) rfl (by decide) rfl g_42 d_H_takeUp_106 h (fun x20 h => ?_)
        exact y_iret C hr hlocks d_H_takeUp_109 h
    refine y_if_le C 71 d_H_takeUp_49 (by decide) hq7 (fun k8 hq7 => ?_) (fun k8 hq7 => ?_)
    · refine y_null C d_H_takeUp_71 ?_
      cases hq7
      exact y_sub [1, 2] rfl hJq7
    · refine y_aload_n C (i := 0) 1 d_H_takeUp_52 rfl rfl ?_
      refine y_iconst C (v := 0) d_H_takeUp_53 (by decide) ?_
      refine y_aload_n C (i := 0) 1 d_H_takeUp_54 rfl rfl ?_
      refine y_gi C (q := (yR2, yT2, 9)) (ci := 2) (k := 4) rfl (by decide) rfl g_137 d_H_takeUp_55 hq7 (fun x9 hq7 => ?_)
      refine y_iconst C (v := 1) d_H_takeUp_58 (by decide) ?_
      refine y_isub C d_H_takeUp_59 ?_
      refine y_bipush C (v := 10) d_H_takeUp_60 (by decide) ?_
      refine y_irem C d_H_takeUp_62 hq7 (fun x10 hq7 => ?_)
      refine y_bipush C (v := 9) d_H_takeUp_63 (by decide) ?_
      refine y_callV 3 C (q := (yR2, yT2, 9)) (ci := 2) (fun t out hh => c_H_addGlass l w F u4 t (0 : Int32) x10 (9 : Int32) out hh) gc_H_takeUp_128 rfl (by decide) hd_H_addGlass ⟨Nat.le_of_ble_eq_true rfl, Nat.le_of_ble_eq_true rfl⟩ rfl rfl rfl rfl (by simp [y_cat, y_catI, y_catJ]) d_H_takeUp_65 hq7 (fun r11 u12 hq7 => ?_)
      refine y_stk (stp0 := [va_re w.1 r11]) rfl ?_
      refine y_goto C (tgt := 72) d_H_takeUp_68 (by decide) ?_
      cases hq7
      exact y_sub [1, 2] rfl hJq7
  · refine y_aload_n C (i := 2) 0 d_H_takeUp_14 rfl rfl ?_
    refine y_gi C (q := (yR0, yT0, 8)) (ci := 0) (k := 0) rfl (by decide) rfl g_42 d_H_takeUp_15 h (fun x21 h => ?_)
    refine y_aload_n C (i := 1) 2 d_H_takeUp_18 rfl rfl ?_
    refine y_gi C (q := (yR1, yT1, 10)) (ci := 1) (k := 7) rfl (by decide) rfl g_102 d_H_takeUp_19 h (fun x22 h => ?_)
    obtain ⟨q23, hq23, h⟩ := ob_e h
    have hJq23 : yG p l e ({ frames := 2, cells := 0, slots := 0, locals := 56 } : Room) s m args below meth c YX w 4 (MQ below (yQ YX w yfi out) args s 0 0 (yA YX w)) q23 35 [(1, va_re w.1 a1), (2, va_re w.1 r3)] [] := by
      refine y_aload_n C (i := 1) 0 d_H_takeUp_35 rfl rfl ?_
      refine y_aload_n C (i := 2) 1 d_H_takeUp_36 rfl rfl ?_
      refine y_callV 1 C (q := (yR1, yT1, 10)) (ci := 1) (fun t out hh => c_U_hold l w F q23 t r3 out hh) gc_H_takeUp_125 rfl (by decide) hd_U_hold ⟨Nat.le_of_ble_eq_true rfl, Nat.le_of_ble_eq_true rfl⟩ rfl rfl rfl rfl (by simp [y_cat, y_catI, y_catJ]) d_H_takeUp_37 h (fun v27 u28 h => ?_)
      refine y_stk (stp0 := []) rfl ?_
      refine y_aload_n C (i := 2) 1 d_H_takeUp_40 rfl rfl ?_
      refine y_gi C (q := (yR0, yT0, 8)) (ci := 0) (k := 0) rfl (by decide) rfl g_42 d_H_takeUp_41 h (fun x29 h => ?_)
      exact y_iret C hr hlocks d_H_takeUp_44 h
    refine y_ic_eq C 35 d_H_takeUp_22 (by decide) hq23 (fun k24 hq23 => ?_) (fun k24 hq23 => ?_)
    · cases hq23
      exact y_sub [2, 0] rfl hJq23
    · refine y_aload_n C (i := 0) 1 d_H_takeUp_25 rfl rfl ?_
      refine y_dup C d_H_takeUp_26 (y_cat _ _) ?_
      refine y_gi C (q := (yR2, yT2, 9)) (ci := 2) (k := 6) rfl (by decide) rfl g_143 d_H_takeUp_27 hq23 (fun x25 hq23 => ?_)
      refine y_iconst C (v := 1) d_H_takeUp_30 (by decide) ?_
      refine y_iadd C d_H_takeUp_31 ?_
      refine y_pi C (q := (yR2, yT2, 9)) (ci := 2) (k := 6) rfl (by decide) rfl rfl (by decide +kernel) g_143 d_H_takeUp_32 hq23 (fun u26 hq23 => ?_)
      cases hq23
      exact y_sub [2, 0] rfl hJq23
/-! G_strength -/
theorem d_G_strength_0 : decode prog_2_method_9_code 0 = .ok (.aload_n 0, 1) := by decide +kernel
theorem d_G_strength_1 : decode prog_2_method_9_code 1 = .ok (.getfield 15, 3) := by decide +kernel
theorem d_G_strength_4 : decode prog_2_method_9_code 4 = .ok (.tableswitch 78 2 7 #[40, 42, 49, 78, 51, 71], 40) := by decide +kernel
theorem d_G_strength_44 : decode prog_2_method_9_code 44 = .ok (.iconst 1, 1) := by decide +kernel
theorem d_G_strength_45 : decode prog_2_method_9_code 45 = .ok (.ireturn, 1) := by decide +kernel
theorem d_G_strength_46 : decode prog_2_method_9_code 46 = .ok (.iconst 2, 1) := by decide +kernel
theorem d_G_strength_47 : decode prog_2_method_9_code 47 = .ok (.aload_n 0, 1) := by decide +kernel
theorem d_G_strength_48 : decode prog_2_method_9_code 48 = .ok (.getfield 18, 3) := by decide +kernel
theorem d_G_strength_51 : decode prog_2_method_9_code 51 = .ok (.iadd, 1) := by decide +kernel
theorem d_G_strength_52 : decode prog_2_method_9_code 52 = .ok (.ireturn, 1) := by decide +kernel
theorem d_G_strength_53 : decode prog_2_method_9_code 53 = .ok (.iconst 0, 1) := by decide +kernel
theorem d_G_strength_54 : decode prog_2_method_9_code 54 = .ok (.ireturn, 1) := by decide +kernel
theorem d_G_strength_55 : decode prog_2_method_9_code 55 = .ok (.aload_n 0, 1) := by decide +kernel
theorem d_G_strength_56 : decode prog_2_method_9_code 56 = .ok (.getfield 21, 3) := by decide +kernel
theorem d_G_strength_59 : decode prog_2_method_9_code 59 = .ok (.iconst 2, 1) := by decide +kernel
theorem d_G_strength_60 : decode prog_2_method_9_code 60 = .ok (.irem, 1) := by decide +kernel
theorem d_G_strength_61 : decode prog_2_method_9_code 61 = .ok (.ifCond .ne 12, 3) := by decide +kernel
theorem d_G_strength_64 : decode prog_2_method_9_code 64 = .ok (.iconst 2, 1) := by decide +kernel
theorem d_G_strength_65 : decode prog_2_method_9_code 65 = .ok (.aload_n 0, 1) := by decide +kernel
theorem d_G_strength_66 : decode prog_2_method_9_code 66 = .ok (.getfield 18, 3) := by decide +kernel
theorem d_G_strength_69 : decode prog_2_method_9_code 69 = .ok (.iadd, 1) := by decide +kernel
theorem d_G_strength_70 : decode prog_2_method_9_code 70 = .ok (.goto 4, 3) := by decide +kernel
theorem d_G_strength_73 : decode prog_2_method_9_code 73 = .ok (.iconst 0, 1) := by decide +kernel
theorem d_G_strength_74 : decode prog_2_method_9_code 74 = .ok (.ireturn, 1) := by decide +kernel
theorem d_G_strength_75 : decode prog_2_method_9_code 75 = .ok (.iconst 3, 1) := by decide +kernel
theorem d_G_strength_76 : decode prog_2_method_9_code 76 = .ok (.aload_n 0, 1) := by decide +kernel
theorem d_G_strength_77 : decode prog_2_method_9_code 77 = .ok (.getfield 18, 3) := by decide +kernel
theorem d_G_strength_80 : decode prog_2_method_9_code 80 = .ok (.iadd, 1) := by decide +kernel
theorem d_G_strength_81 : decode prog_2_method_9_code 81 = .ok (.ireturn, 1) := by decide +kernel
theorem d_G_strength_82 : decode prog_2_method_9_code 82 = .ok (.iconst 2, 1) := by decide +kernel
theorem d_G_strength_83 : decode prog_2_method_9_code 83 = .ok (.ireturn, 1) := by decide +kernel
set_option maxRecDepth 100000 in
def f_G_strength (F : Nat) (u : Mm) (o : Nat) : Option (Int32 × Mm) := ob (jgi YX 0 1 u (some o)) fun (x1 : Int32) => (if x1 = (2 : Int32) then some ((1 : Int32), u) else (if x1 = (3 : Int32) then ob (jgi YX 0 2 u (some o)) fun (x4 : Int32) => some (((2 : Int32) + x4), u) else (if x1 = (4 : Int32) then some ((0 : Int32), u) else (if x1 = (6 : Int32) then ob (jgi YX 0 3 u (some o)) fun (x7 : Int32) => ob (jrm x7 (2 : Int32)) fun (x8 : Int32) => (if x8 = 0 then ob (jgi YX 0 2 u (some o)) fun (x10 : Int32) => some (((2 : Int32) + x10), u) else some ((0 : Int32), u)) else (if x1 = (7 : Int32) then ob (jgi YX 0 2 u (some o)) fun (x12 : Int32) => some (((3 : Int32) + x12), u) else some ((2 : Int32), u))))))
set_option maxHeartbeats 4000000 in
set_option maxRecDepth 100000 in
theorem c_G_strength (l : Launch) (w : WP) (F : Nat) (u : Mm) (o : Nat) (out : Int32 × Mm) (h : f_G_strength F u o = some out) : yMet l m_G_strength ws_G_strength ({ frames := 0, cells := 0, slots := 0, locals := 0 } : Room) YX w u [va_re w.1 (some o)] yfi out := by
  refine y_entry (own := "WhoseGlass$Glass") (lv := [(0, va_re w.1 (some o))]) (by decide +kernel) rfl (by simp [lv_args, y_cat, y_catI, y_catJ]) (by simp [lg_sl, y_cat, y_catI, y_catJ]) ?_
  intro p e s m args below meth c C hr hlocks
  unfold f_G_strength at h
  refine y_aload_n C (i := 0) 0 d_G_strength_0 rfl rfl ?_
  refine y_gi C (q := (yR0, yT0, 8)) (ci := 0) (k := 1) rfl (by decide) rfl g_43 d_G_strength_1 h (fun x1 h => ?_)
  refine y_sp h (fun k2 h => ?_) (fun k2 h => ?_)
  · refine y_tsw C (off := 40) 44 d_G_strength_4 (Or.inr ⟨by rw [k2]; decide, by rw [k2]; decide, by rw [k2]; rfl⟩) (by decide) ?_
    refine y_iconst C (v := 1) d_G_strength_44 (by decide) ?_
    exact y_iret C hr hlocks d_G_strength_45 h
  refine y_sp h (fun k3 h => ?_) (fun k3 h => ?_)
  · refine y_tsw C (off := 42) 46 d_G_strength_4 (Or.inr ⟨by rw [k3]; decide, by rw [k3]; decide, by rw [k3]; rfl⟩) (by decide) ?_
    refine y_iconst C (v := 2) d_G_strength_46 (by decide) ?_
    refine y_aload_n C (i := 0) 0 d_G_strength_47 rfl rfl ?_
    refine y_gi C (q := (yR0, yT0, 8)) (ci := 0) (k := 2) rfl (by decide) rfl g_45 d_G_strength_48 h (fun x4 h => ?_)
    refine y_iadd C d_G_strength_51 ?_
    exact y_iret C hr hlocks d_G_strength_52 h
  refine y_sp h (fun k5 h => ?_) (fun k5 h => ?_)
  · refine y_tsw C (off := 49) 53 d_G_strength_4 (Or.inr ⟨by rw [k5]; decide, by rw [k5]; decide, by rw [k5]; rfl⟩) (by decide) ?_
    refine y_iconst C (v := 0) d_G_strength_53 (by decide) ?_
    exact y_iret C hr hlocks d_G_strength_54 h
  refine y_sp h (fun k6 h => ?_) (fun k6 h => ?_)
  · refine y_tsw C (off := 51) 55 d_G_strength_4 (Or.inr ⟨by rw [k6]; decide, by rw [k6]; decide, by rw [k6]; rfl⟩) (by decide) ?_
    refine y_aload_n C (i := 0) 0 d_G_strength_55 rfl rfl ?_
    refine y_gi C (q := (yR0, yT0, 8)) (ci := 0) (k := 3) rfl (by decide) rfl g_46 d_G_strength_56 h (fun x7 h => ?_)
    refine y_iconst C (v := 2) d_G_strength_59 (by decide) ?_
    refine y_irem C d_G_strength_60 h (fun x8 h => ?_)
    refine y_if_ne C 73 d_G_strength_61 (by decide) h (fun k9 h => ?_) (fun k9 h => ?_)
    · refine y_iconst C (v := 2) d_G_strength_64 (by decide) ?_
      refine y_aload_n C (i := 0) 0 d_G_strength_65 rfl rfl ?_
      refine y_gi C (q := (yR0, yT0, 8)) (ci := 0) (k := 2) rfl (by decide) rfl g_45 d_G_strength_66 h (fun x10 h => ?_)
      refine y_iadd C d_G_strength_69 ?_
      refine y_goto C (tgt := 74) d_G_strength_70 (by decide) ?_
      exact y_iret C hr hlocks d_G_strength_74 h
    · refine y_iconst C (v := 0) d_G_strength_73 (by decide) ?_
      exact y_iret C hr hlocks d_G_strength_74 h
  refine y_sp h (fun k11 h => ?_) (fun k11 h => ?_)
  · refine y_tsw C (off := 71) 75 d_G_strength_4 (Or.inr ⟨by rw [k11]; decide, by rw [k11]; decide, by rw [k11]; rfl⟩) (by decide) ?_
    refine y_iconst C (v := 3) d_G_strength_75 (by decide) ?_
    refine y_aload_n C (i := 0) 0 d_G_strength_76 rfl rfl ?_
    refine y_gi C (q := (yR0, yT0, 8)) (ci := 0) (k := 2) rfl (by decide) rfl g_45 d_G_strength_77 h (fun x12 h => ?_)
    refine y_iadd C d_G_strength_80 ?_
    exact y_iret C hr hlocks d_G_strength_81 h
  refine y_tsw C (off := 78) 82 d_G_strength_4 (y_tdef 5 (by decide) (fun i hi0 => ?_)) (by decide) ?_
  · rcases (by omega : i = 0 ∨ i = 1 ∨ i = 2 ∨ i = 3 ∨ i = 4 ∨ i = 5) with rfl | rfl | rfl | rfl | rfl | rfl
    · exact Or.inl (lv_neT (a := 2) k2 rfl)
    · exact Or.inl (lv_neT (a := 3) k3 rfl)
    · exact Or.inl (lv_neT (a := 4) k5 rfl)
    · exact Or.inr rfl
    · exact Or.inl (lv_neT (a := 6) k6 rfl)
    · exact Or.inl (lv_neT (a := 7) k11 rfl)
  refine y_iconst C (v := 2) d_G_strength_82 (by decide) ?_
  exact y_iret C hr hlocks d_G_strength_83 h
/-! U_sipFrom -/
theorem d_U_sipFrom_0 : decode prog_3_method_6_code 0 = .ok (.aload_n 1, 1) := by decide +kernel
theorem d_U_sipFrom_1 : decode prog_3_method_6_code 1 = .ok (.invokevirtual 49, 3) := by decide +kernel
theorem d_U_sipFrom_4 : decode prog_3_method_6_code 4 = .ok (.istore_n 2, 1) := by decide +kernel
theorem d_U_sipFrom_5 : decode prog_3_method_6_code 5 = .ok (.aload_n 1, 1) := by decide +kernel
theorem d_U_sipFrom_6 : decode prog_3_method_6_code 6 = .ok (.dup, 1) := by decide +kernel
theorem d_U_sipFrom_7 : decode prog_3_method_6_code 7 = .ok (.getfield 53, 3) := by decide +kernel
theorem d_U_sipFrom_10 : decode prog_3_method_6_code 10 = .ok (.iconst 1, 1) := by decide +kernel
theorem d_U_sipFrom_11 : decode prog_3_method_6_code 11 = .ok (.isub, 1) := by decide +kernel
theorem d_U_sipFrom_12 : decode prog_3_method_6_code 12 = .ok (.putfield 53, 3) := by decide +kernel
theorem d_U_sipFrom_15 : decode prog_3_method_6_code 15 = .ok (.aload_n 0, 1) := by decide +kernel
theorem d_U_sipFrom_16 : decode prog_3_method_6_code 16 = .ok (.dup, 1) := by decide +kernel
theorem d_U_sipFrom_17 : decode prog_3_method_6_code 17 = .ok (.getfield 36, 3) := by decide +kernel
theorem d_U_sipFrom_20 : decode prog_3_method_6_code 20 = .ok (.iload_n 2, 1) := by decide +kernel
theorem d_U_sipFrom_21 : decode prog_3_method_6_code 21 = .ok (.iadd, 1) := by decide +kernel
theorem d_U_sipFrom_22 : decode prog_3_method_6_code 22 = .ok (.putfield 36, 3) := by decide +kernel
theorem d_U_sipFrom_25 : decode prog_3_method_6_code 25 = .ok (.aload_n 1, 1) := by decide +kernel
theorem d_U_sipFrom_26 : decode prog_3_method_6_code 26 = .ok (.dup, 1) := by decide +kernel
theorem d_U_sipFrom_27 : decode prog_3_method_6_code 27 = .ok (.getfield 56, 3) := by decide +kernel
theorem d_U_sipFrom_30 : decode prog_3_method_6_code 30 = .ok (.iconst 1, 1) := by decide +kernel
theorem d_U_sipFrom_31 : decode prog_3_method_6_code 31 = .ok (.aload_n 0, 1) := by decide +kernel
theorem d_U_sipFrom_32 : decode prog_3_method_6_code 32 = .ok (.getfield 9, 3) := by decide +kernel
theorem d_U_sipFrom_35 : decode prog_3_method_6_code 35 = .ok (.ishl, 1) := by decide +kernel
theorem d_U_sipFrom_36 : decode prog_3_method_6_code 36 = .ok (.ior, 1) := by decide +kernel
theorem d_U_sipFrom_37 : decode prog_3_method_6_code 37 = .ok (.putfield 56, 3) := by decide +kernel
theorem d_U_sipFrom_40 : decode prog_3_method_6_code 40 = .ok (.aload_n 0, 1) := by decide +kernel
theorem d_U_sipFrom_41 : decode prog_3_method_6_code 41 = .ok (.aload_n 0, 1) := by decide +kernel
theorem d_U_sipFrom_42 : decode prog_3_method_6_code 42 = .ok (.getfield 39, 3) := by decide +kernel
theorem d_U_sipFrom_45 : decode prog_3_method_6_code 45 = .ok (.ifCond .ne 10, 3) := by decide +kernel
theorem d_U_sipFrom_48 : decode prog_3_method_6_code 48 = .ok (.aload_n 1, 1) := by decide +kernel
theorem d_U_sipFrom_49 : decode prog_3_method_6_code 49 = .ok (.getfield 59, 3) := by decide +kernel
theorem d_U_sipFrom_52 : decode prog_3_method_6_code 52 = .ok (.ifCond .eq 7, 3) := by decide +kernel
theorem d_U_sipFrom_55 : decode prog_3_method_6_code 55 = .ok (.iconst 1, 1) := by decide +kernel
theorem d_U_sipFrom_56 : decode prog_3_method_6_code 56 = .ok (.goto 4, 3) := by decide +kernel
theorem d_U_sipFrom_59 : decode prog_3_method_6_code 59 = .ok (.iconst 0, 1) := by decide +kernel
theorem d_U_sipFrom_60 : decode prog_3_method_6_code 60 = .ok (.putfield 39, 3) := by decide +kernel
theorem d_U_sipFrom_63 : decode prog_3_method_6_code 63 = .ok (.aload_n 1, 1) := by decide +kernel
theorem d_U_sipFrom_64 : decode prog_3_method_6_code 64 = .ok (.aload_n 0, 1) := by decide +kernel
theorem d_U_sipFrom_65 : decode prog_3_method_6_code 65 = .ok (.getfield 39, 3) := by decide +kernel
theorem d_U_sipFrom_68 : decode prog_3_method_6_code 68 = .ok (.putfield 59, 3) := by decide +kernel
theorem d_U_sipFrom_71 : decode prog_3_method_6_code 71 = .ok (.iload_n 2, 1) := by decide +kernel
theorem d_U_sipFrom_72 : decode prog_3_method_6_code 72 = .ok (.ireturn, 1) := by decide +kernel
theorem gc_U_sipFrom_49 : GoodIn yGW (wsV "WhoseGlass$Guest" 49 yR0 m_G_strength ws_G_strength) := y_gV g_321 g_322 g_323 g_3 g_324
set_option maxRecDepth 100000 in
def f_U_sipFrom (F : Nat) (u : Mm) (o : Nat) (a1 : Option Nat) : Option (Int32 × Mm) := ob (jk YX 0 a1) fun t => yb (f_G_strength F u t ) fun x1 u2 => ob (jgi YX 0 3 u2 a1) fun (x3 : Int32) => ob (jpi YX 0 3 u2 a1 (x3 - (1 : Int32))) fun (u4 : Mm) => ob (jgi YX 1 8 u4 (some o)) fun (x5 : Int32) => ob (jpi YX 1 8 u4 (some o) (x5 + x1)) fun (u6 : Mm) => ob (jgi YX 0 6 u6 a1) fun (x7 : Int32) => ob (jgi YX 1 0 u6 (some o)) fun (x8 : Int32) => ob (jpi YX 0 6 u6 a1 (x7 ||| ((1 : Int32) <<< (x8 &&& 31)))) fun (u9 : Mm) => ob (jgi YX 1 9 u9 (some o)) fun (x10 : Int32) => ob ((if x10 = 0 then ob (jgi YX 0 7 u9 a1) fun (x13 : Int32) => (if x13 = 0 then some (0 : Int32) else some (1 : Int32)) else some (1 : Int32)) : Option (Int32)) fun q11 => ob (jpz YX 1 9 u9 (some o) q11) fun (u15 : Mm) => ob (jgi YX 1 9 u15 (some o)) fun (x16 : Int32) => ob (jpz YX 0 7 u15 a1 x16) fun (u17 : Mm) => some (x1, u17)
set_option maxHeartbeats 4000000 in
set_option maxRecDepth 100000 in
theorem c_U_sipFrom (l : Launch) (w : WP) (F : Nat) (u : Mm) (o : Nat) (a1 : Option Nat) (out : Int32 × Mm) (h : f_U_sipFrom F u o a1 = some out) : yMet l m_U_sipFrom ws_U_sipFrom ({ frames := 1, cells := 0, slots := 0, locals := 20 } : Room) YX w u [va_re w.1 (some o), va_re w.1 a1] yfi out := by
  refine y_entry (own := "WhoseGlass$Guest") (lv := [(0, va_re w.1 (some o)), (1, va_re w.1 a1)]) (by decide +kernel) rfl (by simp [lv_args, y_cat, y_catI, y_catJ]) (by simp [lg_sl, y_cat, y_catI, y_catJ]) ?_
  intro p e s m args below meth c C hr hlocks
  unfold f_U_sipFrom at h
  refine y_aload_n C (i := 1) 1 d_U_sipFrom_0 rfl rfl ?_
  refine y_callV 0 C (q := (yR0, yT0, 8)) (ci := 0) (fun t out hh => c_G_strength l w F u t out hh) gc_U_sipFrom_49 rfl (by decide) hd_G_strength ⟨Nat.le_of_ble_eq_true rfl, Nat.le_of_ble_eq_true rfl⟩ rfl rfl rfl rfl (by simp [y_cat, y_catI, y_catJ]) d_U_sipFrom_1 h (fun x1 u2 h => ?_)
  refine y_stk (stp0 := [.int x1]) rfl ?_
  refine y_istore_n C (i := 2) (lvp := [(0, va_re w.1 (some o)), (1, va_re w.1 a1)]) d_U_sipFrom_4 rfl (by decide) (by simp [List.filter, y_cat, y_catI, y_catJ]) ?_
  refine y_aload_n C (i := 1) 2 d_U_sipFrom_5 rfl rfl ?_
  refine y_dup C d_U_sipFrom_6 (y_cat _ _) ?_
  refine y_gi C (q := (yR0, yT0, 8)) (ci := 0) (k := 3) rfl (by decide) rfl g_47 d_U_sipFrom_7 h (fun x3 h => ?_)
  refine y_iconst C (v := 1) d_U_sipFrom_10 (by decide) ?_
  refine y_isub C d_U_sipFrom_11 ?_
  refine y_pi C (q := (yR0, yT0, 8)) (ci := 0) (k := 3) rfl (by decide) rfl rfl (by decide +kernel) g_47 d_U_sipFrom_12 h (fun u4 h => ?_)
  refine y_aload_n C (i := 0) 1 d_U_sipFrom_15 rfl rfl ?_
  refine y_dup C d_U_sipFrom_16 (y_cat _ _) ?_
  refine y_gi C (q := (yR1, yT1, 10)) (ci := 1) (k := 8) rfl (by decide) rfl g_104 d_U_sipFrom_17 h (fun x5 h => ?_)
  refine y_iload_n C (i := 2) 0 d_U_sipFrom_20 rfl rfl ?_
  refine y_iadd C d_U_sipFrom_21 ?_
  refine y_pi C (q := (yR1, yT1, 10)) (ci := 1) (k := 8) rfl (by decide) rfl rfl (by decide +kernel) g_104 d_U_sipFrom_22 h (fun u6 h => ?_)
  refine y_aload_n C (i := 1) 2 d_U_sipFrom_25 rfl rfl ?_
  refine y_dup C d_U_sipFrom_26 (y_cat _ _) ?_
  refine y_gi C (q := (yR0, yT0, 8)) (ci := 0) (k := 6) rfl (by decide) rfl g_58 d_U_sipFrom_27 h (fun x7 h => ?_)
  refine y_iconst C (v := 1) d_U_sipFrom_30 (by decide) ?_
  refine y_aload_n C (i := 0) 1 d_U_sipFrom_31 rfl rfl ?_
  refine y_gi C (q := (yR1, yT1, 10)) (ci := 1) (k := 0) rfl (by decide) rfl g_84 d_U_sipFrom_32 h (fun x8 h => ?_)
  refine y_ishl C d_U_sipFrom_35 ?_
  refine y_ior C d_U_sipFrom_36 ?_
  refine y_pi C (q := (yR0, yT0, 8)) (ci := 0) (k := 6) rfl (by decide) rfl rfl (by decide +kernel) g_58 d_U_sipFrom_37 h (fun u9 h => ?_)
  refine y_aload_n C (i := 0) 1 d_U_sipFrom_40 rfl rfl ?_
  refine y_aload_n C (i := 0) 1 d_U_sipFrom_41 rfl rfl ?_
  refine y_gi C (q := (yR1, yT1, 10)) (ci := 1) (k := 9) rfl (by decide) rfl g_107 d_U_sipFrom_42 h (fun x10 h => ?_)
  obtain ⟨q11, hq11, h⟩ := ob_e h
  have hJq11 : yG p l e ({ frames := 1, cells := 0, slots := 0, locals := 20 } : Room) s m args below meth c YX w 3 (MQ below (yQ YX w yfi out) args s 0 0 (yA YX w)) u9 60 [(0, va_re w.1 (some o)), (1, va_re w.1 a1), (2, .int x1)] [.int q11, va_re w.1 (some o)] := by
    refine y_pz C (q := (yR1, yT1, 10)) (ci := 1) (k := 9) rfl (by decide) rfl rfl (by decide +kernel) g_107 d_U_sipFrom_60 h (fun u15 h => ?_)
    refine y_aload_n C (i := 1) 1 d_U_sipFrom_63 rfl rfl ?_
    refine y_aload_n C (i := 0) 0 d_U_sipFrom_64 rfl rfl ?_
    refine y_gi C (q := (yR1, yT1, 10)) (ci := 1) (k := 9) rfl (by decide) rfl g_107 d_U_sipFrom_65 h (fun x16 h => ?_)
    refine y_pz C (q := (yR0, yT0, 8)) (ci := 0) (k := 7) rfl (by decide) rfl rfl (by decide +kernel) g_60 d_U_sipFrom_68 h (fun u17 h => ?_)
    refine y_iload_n C (i := 2) 2 d_U_sipFrom_71 rfl rfl ?_
    exact y_iret C hr hlocks d_U_sipFrom_72 h
  refine y_if_ne C 55 d_U_sipFrom_45 (by decide) hq11 (fun k12 hq11 => ?_) (fun k12 hq11 => ?_)
  · refine y_aload_n C (i := 1) 2 d_U_sipFrom_48 rfl rfl ?_
    refine y_gi C (q := (yR0, yT0, 8)) (ci := 0) (k := 7) rfl (by decide) rfl g_60 d_U_sipFrom_49 hq11 (fun x13 hq11 => ?_)
    refine y_if_eq C 59 d_U_sipFrom_52 (by decide) hq11 (fun k14 hq11 => ?_) (fun k14 hq11 => ?_)
    · refine y_iconst C (v := 0) d_U_sipFrom_59 (by decide) ?_
      cases hq11
      exact y_sub [1, 2, 0] rfl hJq11
    · refine y_iconst C (v := 1) d_U_sipFrom_55 (by decide) ?_
      refine y_goto C (tgt := 60) d_U_sipFrom_56 (by decide) ?_
      cases hq11
      exact y_sub [1, 2, 0] rfl hJq11
  · refine y_iconst C (v := 1) d_U_sipFrom_55 (by decide) ?_
    refine y_goto C (tgt := 60) d_U_sipFrom_56 (by decide) ?_
    cases hq11
    exact y_sub [1, 2, 0] rfl hJq11
/-! G_layAt -/
theorem d_G_layAt_0 : decode prog_2_method_4_code 0 = .ok (.aload_n 0, 1) := by decide +kernel
theorem d_G_layAt_1 : decode prog_2_method_4_code 1 = .ok (.iload_n 1, 1) := by decide +kernel
theorem d_G_layAt_2 : decode prog_2_method_4_code 2 = .ok (.putfield 31, 3) := by decide +kernel
theorem d_G_layAt_5 : decode prog_2_method_4_code 5 = .ok (.aload_n 0, 1) := by decide +kernel
theorem d_G_layAt_6 : decode prog_2_method_4_code 6 = .ok (.iload_n 2, 1) := by decide +kernel
theorem d_G_layAt_7 : decode prog_2_method_4_code 7 = .ok (.putfield 34, 3) := by decide +kernel
theorem d_G_layAt_10 : decode prog_2_method_4_code 10 = .ok (.return_, 1) := by decide +kernel
set_option maxRecDepth 100000 in
def f_G_layAt (F : Nat) (u : Mm) (o : Nat) (a1 : Int32) (a2 : Int32) : Option (Unit × Mm) := ob (jpi YX 0 4 u (some o) a1) fun (u1 : Mm) => ob (jpi YX 0 5 u1 (some o) a2) fun (u2 : Mm) => some ((), u2)
set_option maxHeartbeats 4000000 in
set_option maxRecDepth 100000 in
theorem c_G_layAt (l : Launch) (w : WP) (F : Nat) (u : Mm) (o : Nat) (a1 : Int32) (a2 : Int32) (out : Unit × Mm) (h : f_G_layAt F u o a1 a2 = some out) : yMet l m_G_layAt ws_G_layAt ({ frames := 0, cells := 0, slots := 0, locals := 0 } : Room) YX w u [va_re w.1 (some o), .int a1, .int a2] yfv out := by
  refine y_entry (own := "WhoseGlass$Glass") (lv := [(0, va_re w.1 (some o)), (1, .int a1), (2, .int a2)]) (by decide +kernel) rfl (by simp [lv_args, y_cat, y_catI, y_catJ]) (by simp [lg_sl, y_cat, y_catI, y_catJ]) ?_
  intro p e s m args below meth c C hr hlocks
  unfold f_G_layAt at h
  refine y_aload_n C (i := 0) 0 d_G_layAt_0 rfl rfl ?_
  refine y_iload_n C (i := 1) 1 d_G_layAt_1 rfl rfl ?_
  refine y_pi C (q := (yR0, yT0, 8)) (ci := 0) (k := 4) rfl (by decide) rfl rfl (by decide +kernel) g_50 d_G_layAt_2 h (fun u1 h => ?_)
  refine y_aload_n C (i := 0) 0 d_G_layAt_5 rfl rfl ?_
  refine y_iload_n C (i := 2) 2 d_G_layAt_6 rfl rfl ?_
  refine y_pi C (q := (yR0, yT0, 8)) (ci := 0) (k := 5) rfl (by decide) rfl rfl (by decide +kernel) g_54 d_G_layAt_7 h (fun u2 h => ?_)
  exact y_vret C hr hlocks d_G_layAt_10 h
/-! H_layDown -/
theorem d_H_layDown_0 : decode prog_4_method_10_code 0 = .ok (.aload_n 2, 1) := by decide +kernel
theorem d_H_layDown_1 : decode prog_4_method_10_code 1 = .ok (.aload_n 1, 1) := by decide +kernel
theorem d_H_layDown_2 : decode prog_4_method_10_code 2 = .ok (.getfield 81, 3) := by decide +kernel
theorem d_H_layDown_5 : decode prog_4_method_10_code 5 = .ok (.aload_n 0, 1) := by decide +kernel
theorem d_H_layDown_6 : decode prog_4_method_10_code 6 = .ok (.getfield 40, 3) := by decide +kernel
theorem d_H_layDown_9 : decode prog_4_method_10_code 9 = .ok (.invokevirtual 112, 3) := by decide +kernel
theorem d_H_layDown_12 : decode prog_4_method_10_code 12 = .ok (.aload_n 1, 1) := by decide +kernel
theorem d_H_layDown_13 : decode prog_4_method_10_code 13 = .ok (.bipush (-4), 2) := by decide +kernel
theorem d_H_layDown_15 : decode prog_4_method_10_code 15 = .ok (.putfield 88, 3) := by decide +kernel
theorem d_H_layDown_18 : decode prog_4_method_10_code 18 = .ok (.return_, 1) := by decide +kernel
theorem gc_H_layDown_112 : GoodIn yGW (wsV "WhoseGlass$House" 112 yR0 m_G_layAt ws_G_layAt) := y_gV g_329 g_330 g_331 g_3 g_332
set_option maxRecDepth 100000 in
def f_H_layDown (F : Nat) (u : Mm) (o : Nat) (a1 : Option Nat) (a2 : Option Nat) : Option (Unit × Mm) := ob (jgi YX 1 5 u a1) fun (x1 : Int32) => ob (jgi YX 2 5 u (some o)) fun (x2 : Int32) => ob (jk YX 0 a2) fun t => yb (f_G_layAt F u t x1 x2) fun v3 u4 => ob (jpi YX 1 6 u4 a1 (-4 : Int32)) fun (u5 : Mm) => some ((), u5)
set_option maxHeartbeats 4000000 in
set_option maxRecDepth 100000 in
theorem c_H_layDown (l : Launch) (w : WP) (F : Nat) (u : Mm) (o : Nat) (a1 : Option Nat) (a2 : Option Nat) (out : Unit × Mm) (h : f_H_layDown F u o a1 a2 = some out) : yMet l m_H_layDown ws_H_layDown ({ frames := 1, cells := 0, slots := 0, locals := 22 } : Room) YX w u [va_re w.1 (some o), va_re w.1 a1, va_re w.1 a2] yfv out := by
  refine y_entry (own := "WhoseGlass$House") (lv := [(0, va_re w.1 (some o)), (1, va_re w.1 a1), (2, va_re w.1 a2)]) (by decide +kernel) rfl (by simp [lv_args, y_cat, y_catI, y_catJ]) (by simp [lg_sl, y_cat, y_catI, y_catJ]) ?_
  intro p e s m args below meth c C hr hlocks
  unfold f_H_layDown at h
  refine y_aload_n C (i := 2) 2 d_H_layDown_0 rfl rfl ?_
  refine y_aload_n C (i := 1) 1 d_H_layDown_1 rfl rfl ?_
  refine y_gi C (q := (yR1, yT1, 10)) (ci := 1) (k := 5) rfl (by decide) rfl g_96 d_H_layDown_2 h (fun x1 h => ?_)
  refine y_aload_n C (i := 0) 0 d_H_layDown_5 rfl rfl ?_
  refine y_gi C (q := (yR2, yT2, 9)) (ci := 2) (k := 5) rfl (by decide) rfl g_140 d_H_layDown_6 h (fun x2 h => ?_)
  refine y_callV 2 C (q := (yR0, yT0, 8)) (ci := 0) (fun t out hh => c_G_layAt l w F u t x1 x2 out hh) gc_H_layDown_112 rfl (by decide) hd_G_layAt ⟨Nat.le_of_ble_eq_true rfl, Nat.le_of_ble_eq_true rfl⟩ rfl rfl rfl rfl (by simp [y_cat, y_catI, y_catJ]) d_H_layDown_9 h (fun v3 u4 h => ?_)
  refine y_stk (stp0 := []) rfl ?_
  refine y_aload_n C (i := 1) 1 d_H_layDown_12 rfl rfl ?_
  refine y_bipush C (v := -4) d_H_layDown_13 (by decide) ?_
  refine y_pi C (q := (yR1, yT1, 10)) (ci := 1) (k := 6) rfl (by decide) rfl rfl (by decide +kernel) g_99 d_H_layDown_15 h (fun u5 h => ?_)
  exact y_vret C hr hlocks d_H_layDown_18 h
/-! H_liveMinute -/
theorem d_H_liveMinute_0 : decode prog_4_method_8_code 0 = .ok (.aload_n 0, 1) := by decide +kernel
theorem d_H_liveMinute_1 : decode prog_4_method_8_code 1 = .ok (.getfield 40, 3) := by decide +kernel
theorem d_H_liveMinute_4 : decode prog_4_method_8_code 4 = .ok (.ifCond .eq 29, 3) := by decide +kernel
theorem d_H_liveMinute_7 : decode prog_4_method_8_code 7 = .ok (.aload_n 0, 1) := by decide +kernel
theorem d_H_liveMinute_8 : decode prog_4_method_8_code 8 = .ok (.getfield 40, 3) := by decide +kernel
theorem d_H_liveMinute_11 : decode prog_4_method_8_code 11 = .ok (.aload_n 1, 1) := by decide +kernel
theorem d_H_liveMinute_12 : decode prog_4_method_8_code 12 = .ok (.getfield 74, 3) := by decide +kernel
theorem d_H_liveMinute_15 : decode prog_4_method_8_code 15 = .ok (.invokestatic 77, 3) := by decide +kernel
theorem d_H_liveMinute_18 : decode prog_4_method_8_code 18 = .ok (.ifCond .eq 15, 3) := by decide +kernel
theorem d_H_liveMinute_21 : decode prog_4_method_8_code 21 = .ok (.aload_n 1, 1) := by decide +kernel
theorem d_H_liveMinute_22 : decode prog_4_method_8_code 22 = .ok (.aload_n 0, 1) := by decide +kernel
theorem d_H_liveMinute_23 : decode prog_4_method_8_code 23 = .ok (.aload_n 1, 1) := by decide +kernel
theorem d_H_liveMinute_24 : decode prog_4_method_8_code 24 = .ok (.getfield 81, 3) := by decide +kernel
theorem d_H_liveMinute_27 : decode prog_4_method_8_code 27 = .ok (.invokevirtual 84, 3) := by decide +kernel
theorem d_H_liveMinute_30 : decode prog_4_method_8_code 30 = .ok (.putfield 81, 3) := by decide +kernel
theorem d_H_liveMinute_33 : decode prog_4_method_8_code 33 = .ok (.aload_n 0, 1) := by decide +kernel
theorem d_H_liveMinute_34 : decode prog_4_method_8_code 34 = .ok (.aload_n 1, 1) := by decide +kernel
theorem d_H_liveMinute_35 : decode prog_4_method_8_code 35 = .ok (.getfield 88, 3) := by decide +kernel
theorem d_H_liveMinute_38 : decode prog_4_method_8_code 38 = .ok (.invokevirtual 49, 3) := by decide +kernel
theorem d_H_liveMinute_41 : decode prog_4_method_8_code 41 = .ok (.astore_n 2, 1) := by decide +kernel
theorem d_H_liveMinute_42 : decode prog_4_method_8_code 42 = .ok (.aload_n 2, 1) := by decide +kernel
theorem d_H_liveMinute_43 : decode prog_4_method_8_code 43 = .ok (.ifnonnull 10, 3) := by decide +kernel
theorem d_H_liveMinute_46 : decode prog_4_method_8_code 46 = .ok (.aload_n 0, 1) := by decide +kernel
theorem d_H_liveMinute_47 : decode prog_4_method_8_code 47 = .ok (.aload_n 1, 1) := by decide +kernel
theorem d_H_liveMinute_48 : decode prog_4_method_8_code 48 = .ok (.invokevirtual 91, 3) := by decide +kernel
theorem d_H_liveMinute_51 : decode prog_4_method_8_code 51 = .ok (.pop, 1) := by decide +kernel
theorem d_H_liveMinute_52 : decode prog_4_method_8_code 52 = .ok (.return_, 1) := by decide +kernel
theorem d_H_liveMinute_53 : decode prog_4_method_8_code 53 = .ok (.aload_n 0, 1) := by decide +kernel
theorem d_H_liveMinute_54 : decode prog_4_method_8_code 54 = .ok (.getfield 40, 3) := by decide +kernel
theorem d_H_liveMinute_57 : decode prog_4_method_8_code 57 = .ok (.aload_n 1, 1) := by decide +kernel
theorem d_H_liveMinute_58 : decode prog_4_method_8_code 58 = .ok (.getfield 95, 3) := by decide +kernel
theorem d_H_liveMinute_61 : decode prog_4_method_8_code 61 = .ok (.invokestatic 77, 3) := by decide +kernel
theorem d_H_liveMinute_64 : decode prog_4_method_8_code 64 = .ok (.ifCond .eq 16, 3) := by decide +kernel
theorem d_H_liveMinute_67 : decode prog_4_method_8_code 67 = .ok (.aload_n 2, 1) := by decide +kernel
theorem d_H_liveMinute_68 : decode prog_4_method_8_code 68 = .ok (.getfield 98, 3) := by decide +kernel
theorem d_H_liveMinute_71 : decode prog_4_method_8_code 71 = .ok (.ifCond .le 9, 3) := by decide +kernel
theorem d_H_liveMinute_74 : decode prog_4_method_8_code 74 = .ok (.aload_n 1, 1) := by decide +kernel
theorem d_H_liveMinute_75 : decode prog_4_method_8_code 75 = .ok (.aload_n 2, 1) := by decide +kernel
theorem d_H_liveMinute_76 : decode prog_4_method_8_code 76 = .ok (.invokevirtual 101, 3) := by decide +kernel
theorem d_H_liveMinute_79 : decode prog_4_method_8_code 79 = .ok (.pop, 1) := by decide +kernel
theorem d_H_liveMinute_80 : decode prog_4_method_8_code 80 = .ok (.aload_n 0, 1) := by decide +kernel
theorem d_H_liveMinute_81 : decode prog_4_method_8_code 81 = .ok (.getfield 40, 3) := by decide +kernel
theorem d_H_liveMinute_84 : decode prog_4_method_8_code 84 = .ok (.ifCond .eq 23, 3) := by decide +kernel
theorem d_H_liveMinute_87 : decode prog_4_method_8_code 87 = .ok (.aload_n 0, 1) := by decide +kernel
theorem d_H_liveMinute_88 : decode prog_4_method_8_code 88 = .ok (.getfield 40, 3) := by decide +kernel
theorem d_H_liveMinute_91 : decode prog_4_method_8_code 91 = .ok (.aload_n 1, 1) := by decide +kernel
theorem d_H_liveMinute_92 : decode prog_4_method_8_code 92 = .ok (.getfield 105, 3) := by decide +kernel
theorem d_H_liveMinute_95 : decode prog_4_method_8_code 95 = .ok (.invokestatic 77, 3) := by decide +kernel
theorem d_H_liveMinute_98 : decode prog_4_method_8_code 98 = .ok (.ifCond .eq 9, 3) := by decide +kernel
theorem d_H_liveMinute_101 : decode prog_4_method_8_code 101 = .ok (.aload_n 0, 1) := by decide +kernel
theorem d_H_liveMinute_102 : decode prog_4_method_8_code 102 = .ok (.aload_n 1, 1) := by decide +kernel
theorem d_H_liveMinute_103 : decode prog_4_method_8_code 103 = .ok (.aload_n 2, 1) := by decide +kernel
theorem d_H_liveMinute_104 : decode prog_4_method_8_code 104 = .ok (.invokevirtual 108, 3) := by decide +kernel
theorem d_H_liveMinute_107 : decode prog_4_method_8_code 107 = .ok (.return_, 1) := by decide +kernel
theorem gc_H_liveMinute_84 : GoodIn yGW (wsV "WhoseGlass$House" 84 yR2 m_H_placeBehind ws_H_placeBehind) := y_gV g_289 g_291 gs_2 g_2 g_292
theorem gc_H_liveMinute_49 : GoodIn yGW (wsV "WhoseGlass$House" 49 yR2 m_H_glassAt ws_H_glassAt) := y_gV g_259 g_260 g_261 g_2 g_262
theorem gc_H_liveMinute_91 : GoodIn yGW (wsV "WhoseGlass$House" 91 yR2 m_H_takeUp ws_H_takeUp) := y_gV g_293 g_294 g_295 g_2 g_296
theorem gc_H_liveMinute_101 : GoodIn yGW (wsV "WhoseGlass$House" 101 yR1 m_U_sipFrom ws_U_sipFrom) := y_gV g_317 g_318 g_319 g_4 g_320
theorem gc_H_liveMinute_108 : GoodIn yGW (wsV "WhoseGlass$House" 108 yR2 m_H_layDown ws_H_layDown) := y_gV g_325 g_326 g_327 g_2 g_328
set_option maxRecDepth 100000 in
def f_H_liveMinute (F : Nat) (u : Mm) (o : Nat) (a1 : Option Nat) : Option (Unit × Mm) := ob (jgi YX 2 5 u (some o)) fun (x1 : Int32) => ob ((if x1 = 0 then some u else ob (jgi YX 2 5 u (some o)) fun (x4 : Int32) => ob (jgi YX 1 3 u a1) fun (x5 : Int32) => yb (f_X_isMultiple F u x4 x5) fun x6 u7 => (if x6 = 0 then some u7 else ob (jgi YX 1 5 u7 a1) fun (x9 : Int32) => ob (jk YX 2 (some o)) fun t => yb (f_H_placeBehind F u7 t x9) fun x10 u11 => ob (jpi YX 1 5 u11 a1 x10) fun (u12 : Mm) => some u12)) : Option (Mm)) fun q2 => ob (jgi YX 1 6 q2 a1) fun (x13 : Int32) => ob (jk YX 2 (some o)) fun t => yb (f_H_glassAt F q2 t x13) fun r14 u15 => (if r14 = none then ob (jk YX 2 (some o)) fun t => yb (f_H_takeUp F u15 t a1) fun x17 u18 => some ((), u18) else ob (jgi YX 2 5 u15 (some o)) fun (x19 : Int32) => ob (jgi YX 1 1 u15 a1) fun (x20 : Int32) => yb (f_X_isMultiple F u15 x19 x20) fun x21 u22 => ob ((if x21 = 0 then some u22 else ob (jgi YX 0 3 u22 r14) fun (x25 : Int32) => (if x25 ≤ 0 then some u22 else ob (jk YX 1 a1) fun t => yb (f_U_sipFrom F u22 t r14) fun x27 u28 => some u28)) : Option (Mm)) fun q23 => ob (jgi YX 2 5 q23 (some o)) fun (x29 : Int32) => (if x29 = 0 then some ((), q23) else ob (jgi YX 2 5 q23 (some o)) fun (x31 : Int32) => ob (jgi YX 1 2 q23 a1) fun (x32 : Int32) => yb (f_X_isMultiple F q23 x31 x32) fun x33 u34 => (if x33 = 0 then some ((), u34) else ob (jk YX 2 (some o)) fun t => yb (f_H_layDown F u34 t a1 r14) fun v36 u37 => some ((), u37))))
set_option maxHeartbeats 4000000 in
set_option maxRecDepth 100000 in
theorem c_H_liveMinute (l : Launch) (w : WP) (F : Nat) (u : Mm) (o : Nat) (a1 : Option Nat) (out : Unit × Mm) (h : f_H_liveMinute F u o a1 = some out) : yMet l m_H_liveMinute ws_H_liveMinute ({ frames := 3, cells := 0, slots := 0, locals := 79 } : Room) YX w u [va_re w.1 (some o), va_re w.1 a1] yfv out := by
  refine y_entry (own := "WhoseGlass$House") (lv := [(0, va_re w.1 (some o)), (1, va_re w.1 a1)]) (by decide +kernel) rfl (by simp [lv_args, y_cat, y_catI, y_catJ]) (by simp [lg_sl, y_cat, y_catI, y_catJ]) ?_
  intro p e s m args below meth c C hr hlocks
  unfold f_H_liveMinute at h
  refine y_aload_n C (i := 0) 0 d_H_liveMinute_0 rfl rfl ?_
  refine y_gi C (q := (yR2, yT2, 9)) (ci := 2) (k := 5) rfl (by decide) rfl g_140 d_H_liveMinute_1 h (fun x1 h => ?_)
  obtain ⟨q2, hq2, h⟩ := ob_e h
  have hJq2 : yG p l e ({ frames := 3, cells := 0, slots := 0, locals := 79 } : Room) s m args below meth c YX w 3 (MQ below (yQ YX w yfv out) args s 0 0 (yA YX w)) q2 33 [(0, va_re w.1 (some o)), (1, va_re w.1 a1)] [] := by
    refine y_aload_n C (i := 0) 0 d_H_liveMinute_33 rfl rfl ?_
    refine y_aload_n C (i := 1) 1 d_H_liveMinute_34 rfl rfl ?_
    refine y_gi C (q := (yR1, yT1, 10)) (ci := 1) (k := 6) rfl (by decide) rfl g_99 d_H_liveMinute_35 h (fun x13 h => ?_)
    refine y_callV 1 C (q := (yR2, yT2, 9)) (ci := 2) (fun t out hh => c_H_glassAt l w F q2 t x13 out hh) gc_H_liveMinute_49 rfl (by decide) hd_H_glassAt ⟨Nat.le_of_ble_eq_true rfl, Nat.le_of_ble_eq_true rfl⟩ rfl rfl rfl rfl (by simp [y_cat, y_catI, y_catJ]) d_H_liveMinute_38 h (fun r14 u15 h => ?_)
    refine y_stk (stp0 := [va_re w.1 r14]) rfl ?_
    refine y_astore_n C (i := 2) (lvp := [(0, va_re w.1 (some o)), (1, va_re w.1 a1)]) d_H_liveMinute_41 rfl (by decide) (by simp [List.filter, y_cat, y_catI, y_catJ]) ?_
    refine y_aload_n C (i := 2) 0 d_H_liveMinute_42 rfl rfl ?_
    refine y_ifnonnull C 53 d_H_liveMinute_43 (by decide) h (fun k16 h => ?_) (fun k16 h => ?_)
    · refine y_aload_n C (i := 0) 1 d_H_liveMinute_46 rfl rfl ?_
      refine y_aload_n C (i := 1) 2 d_H_liveMinute_47 rfl rfl ?_
      refine y_callV 1 C (q := (yR2, yT2, 9)) (ci := 2) (fun t out hh => c_H_takeUp l w F u15 t a1 out hh) gc_H_liveMinute_91 rfl (by decide) hd_H_takeUp ⟨Nat.le_of_ble_eq_true rfl, Nat.le_of_ble_eq_true rfl⟩ rfl rfl rfl rfl (by simp [y_cat, y_catI, y_catJ]) d_H_liveMinute_48 h (fun x17 u18 h => ?_)
      refine y_stk (stp0 := [.int x17]) rfl ?_
      refine y_pop C d_H_liveMinute_51 rfl ?_
      exact y_vret C hr hlocks d_H_liveMinute_52 h
    · refine y_aload_n C (i := 0) 1 d_H_liveMinute_53 rfl rfl ?_
      refine y_gi C (q := (yR2, yT2, 9)) (ci := 2) (k := 5) rfl (by decide) rfl g_140 d_H_liveMinute_54 h (fun x19 h => ?_)
      refine y_aload_n C (i := 1) 2 d_H_liveMinute_57 rfl rfl ?_
      refine y_gi C (q := (yR1, yT1, 10)) (ci := 1) (k := 1) rfl (by decide) rfl g_87 d_H_liveMinute_58 h (fun x20 h => ?_)
      refine y_callN 2 C (host := "WhoseGlass") (fun out hh => c_X_isMultiple l w F u15 x19 x20 out hh) (y_gc g_288) (by decide +kernel) g_1 g_287 hn_X_isMultiple ⟨Nat.le_of_ble_eq_true rfl, Nat.le_of_ble_eq_true rfl⟩ rfl rfl rfl rfl (by simp [y_cat, y_catI, y_catJ]) d_H_liveMinute_61 h (fun x21 u22 h => ?_)
      refine y_stk (stp0 := [.int x21]) rfl ?_
      obtain ⟨q23, hq23, h⟩ := ob_e h
      have hJq23 : yG p l e ({ frames := 3, cells := 0, slots := 0, locals := 79 } : Room) s m args below meth c YX w 3 (MQ below (yQ YX w yfv out) args s 0 0 (yA YX w)) q23 80 [(0, va_re w.1 (some o)), (1, va_re w.1 a1), (2, va_re w.1 r14)] [] := by
        refine y_aload_n C (i := 0) 0 d_H_liveMinute_80 rfl rfl ?_
        refine y_gi C (q := (yR2, yT2, 9)) (ci := 2) (k := 5) rfl (by decide) rfl g_140 d_H_liveMinute_81 h (fun x29 h => ?_)
        refine y_if_eq C 107 d_H_liveMinute_84 (by decide) h (fun k30 h => ?_) (fun k30 h => ?_)
        · exact y_vret C hr hlocks d_H_liveMinute_107 h
        · refine y_aload_n C (i := 0) 0 d_H_liveMinute_87 rfl rfl ?_
          refine y_gi C (q := (yR2, yT2, 9)) (ci := 2) (k := 5) rfl (by decide) rfl g_140 d_H_liveMinute_88 h (fun x31 h => ?_)
          refine y_aload_n C (i := 1) 1 d_H_liveMinute_91 rfl rfl ?_
          refine y_gi C (q := (yR1, yT1, 10)) (ci := 1) (k := 2) rfl (by decide) rfl g_89 d_H_liveMinute_92 h (fun x32 h => ?_)
          refine y_callN 2 C (host := "WhoseGlass") (fun out hh => c_X_isMultiple l w F q23 x31 x32 out hh) (y_gc g_288) (by decide +kernel) g_1 g_287 hn_X_isMultiple ⟨Nat.le_of_ble_eq_true rfl, Nat.le_of_ble_eq_true rfl⟩ rfl rfl rfl rfl (by simp [y_cat, y_catI, y_catJ]) d_H_liveMinute_95 h (fun x33 u34 h => ?_)
          refine y_stk (stp0 := [.int x33]) rfl ?_
          refine y_if_eq C 107 d_H_liveMinute_98 (by decide) h (fun k35 h => ?_) (fun k35 h => ?_)
          · exact y_vret C hr hlocks d_H_liveMinute_107 h
          · refine y_aload_n C (i := 0) 0 d_H_liveMinute_101 rfl rfl ?_
            refine y_aload_n C (i := 1) 1 d_H_liveMinute_102 rfl rfl ?_
            refine y_aload_n C (i := 2) 2 d_H_liveMinute_103 rfl rfl ?_
            refine y_callV 2 C (q := (yR2, yT2, 9)) (ci := 2) (fun t out hh => c_H_layDown l w F u34 t a1 r14 out hh) gc_H_liveMinute_108 rfl (by decide) hd_H_layDown ⟨Nat.le_of_ble_eq_true rfl, Nat.le_of_ble_eq_true rfl⟩ rfl rfl rfl rfl (by simp [y_cat, y_catI, y_catJ]) d_H_liveMinute_104 h (fun v36 u37 h => ?_)
            refine y_stk (stp0 := []) rfl ?_
            exact y_vret C hr hlocks d_H_liveMinute_107 h
      refine y_if_eq C 80 d_H_liveMinute_64 (by decide) hq23 (fun k24 hq23 => ?_) (fun k24 hq23 => ?_)
      · cases hq23
        exact y_sub [1, 2, 0] rfl hJq23
      · refine y_aload_n C (i := 2) 0 d_H_liveMinute_67 rfl rfl ?_
        refine y_gi C (q := (yR0, yT0, 8)) (ci := 0) (k := 3) rfl (by decide) rfl g_49 d_H_liveMinute_68 hq23 (fun x25 hq23 => ?_)
        refine y_if_le C 80 d_H_liveMinute_71 (by decide) hq23 (fun k26 hq23 => ?_) (fun k26 hq23 => ?_)
        · cases hq23
          exact y_sub [1, 2, 0] rfl hJq23
        · refine y_aload_n C (i := 1) 2 d_H_liveMinute_74 rfl rfl ?_
          refine y_aload_n C (i := 2) 0 d_H_liveMinute_75 rfl rfl ?_
          refine y_callV 1 C (q := (yR1, yT1, 10)) (ci := 1) (fun t out hh => c_U_sipFrom l w F u22 t r14 out hh) gc_H_liveMinute_101 rfl (by decide) hd_U_sipFrom ⟨Nat.le_of_ble_eq_true rfl, Nat.le_of_ble_eq_true rfl⟩ rfl rfl rfl rfl (by simp [y_cat, y_catI, y_catJ]) d_H_liveMinute_76 hq23 (fun x27 u28 hq23 => ?_)
          refine y_stk (stp0 := [.int x27]) rfl ?_
          refine y_pop C d_H_liveMinute_79 rfl ?_
          cases hq23
          exact y_sub [1, 2, 0] rfl hJq23
  refine y_if_eq C 33 d_H_liveMinute_4 (by decide) hq2 (fun k3 hq2 => ?_) (fun k3 hq2 => ?_)
  · cases hq2
    exact y_sub [0, 1] rfl hJq2
  · refine y_aload_n C (i := 0) 0 d_H_liveMinute_7 rfl rfl ?_
    refine y_gi C (q := (yR2, yT2, 9)) (ci := 2) (k := 5) rfl (by decide) rfl g_140 d_H_liveMinute_8 hq2 (fun x4 hq2 => ?_)
    refine y_aload_n C (i := 1) 1 d_H_liveMinute_11 rfl rfl ?_
    refine y_gi C (q := (yR1, yT1, 10)) (ci := 1) (k := 3) rfl (by decide) rfl g_91 d_H_liveMinute_12 hq2 (fun x5 hq2 => ?_)
    refine y_callN 2 C (host := "WhoseGlass") (fun out hh => c_X_isMultiple l w F u x4 x5 out hh) (y_gc g_288) (by decide +kernel) g_1 g_287 hn_X_isMultiple ⟨Nat.le_of_ble_eq_true rfl, Nat.le_of_ble_eq_true rfl⟩ rfl rfl rfl rfl (by simp [y_cat, y_catI, y_catJ]) d_H_liveMinute_15 hq2 (fun x6 u7 hq2 => ?_)
    refine y_stk (stp0 := [.int x6]) rfl ?_
    refine y_if_eq C 33 d_H_liveMinute_18 (by decide) hq2 (fun k8 hq2 => ?_) (fun k8 hq2 => ?_)
    · cases hq2
      exact y_sub [0, 1] rfl hJq2
    · refine y_aload_n C (i := 1) 1 d_H_liveMinute_21 rfl rfl ?_
      refine y_aload_n C (i := 0) 0 d_H_liveMinute_22 rfl rfl ?_
      refine y_aload_n C (i := 1) 1 d_H_liveMinute_23 rfl rfl ?_
      refine y_gi C (q := (yR1, yT1, 10)) (ci := 1) (k := 5) rfl (by decide) rfl g_96 d_H_liveMinute_24 hq2 (fun x9 hq2 => ?_)
      refine y_callV 1 C (q := (yR2, yT2, 9)) (ci := 2) (fun t out hh => c_H_placeBehind l w F u7 t x9 out hh) gc_H_liveMinute_84 rfl (by decide) hd_H_placeBehind ⟨Nat.le_of_ble_eq_true rfl, Nat.le_of_ble_eq_true rfl⟩ rfl rfl rfl rfl (by simp [y_cat, y_catI, y_catJ]) d_H_liveMinute_27 hq2 (fun x10 u11 hq2 => ?_)
      refine y_stk (stp0 := [.int x10, va_re w.1 a1]) rfl ?_
      refine y_pi C (q := (yR1, yT1, 10)) (ci := 1) (k := 5) rfl (by decide) rfl rfl (by decide +kernel) g_96 d_H_liveMinute_30 hq2 (fun u12 hq2 => ?_)
      cases hq2
      exact y_sub [0, 1] rfl hJq2
/-! H_passMinutes -/
theorem d_H_passMinutes_0 : decode prog_4_method_7_code 0 = .ok (.iconst 0, 1) := by decide +kernel
theorem d_H_passMinutes_1 : decode prog_4_method_7_code 1 = .ok (.istore_n 2, 1) := by decide +kernel
theorem d_H_passMinutes_2 : decode prog_4_method_7_code 2 = .ok (.iload_n 2, 1) := by decide +kernel
theorem d_H_passMinutes_3 : decode prog_4_method_7_code 3 = .ok (.iload_n 1, 1) := by decide +kernel
theorem d_H_passMinutes_4 : decode prog_4_method_7_code 4 = .ok (.if_icmp .ge 53, 3) := by decide +kernel
theorem d_H_passMinutes_7 : decode prog_4_method_7_code 7 = .ok (.iconst 0, 1) := by decide +kernel
theorem d_H_passMinutes_8 : decode prog_4_method_7_code 8 = .ok (.istore_n 3, 1) := by decide +kernel
theorem d_H_passMinutes_9 : decode prog_4_method_7_code 9 = .ok (.iload_n 3, 1) := by decide +kernel
theorem d_H_passMinutes_10 : decode prog_4_method_7_code 10 = .ok (.aload_n 0, 1) := by decide +kernel
theorem d_H_passMinutes_11 : decode prog_4_method_7_code 11 = .ok (.getfield 37, 3) := by decide +kernel
theorem d_H_passMinutes_14 : decode prog_4_method_7_code 14 = .ok (.if_icmp .ge 27, 3) := by decide +kernel
theorem d_H_passMinutes_17 : decode prog_4_method_7_code 17 = .ok (.aload_n 0, 1) := by decide +kernel
theorem d_H_passMinutes_18 : decode prog_4_method_7_code 18 = .ok (.iload_n 3, 1) := by decide +kernel
theorem d_H_passMinutes_19 : decode prog_4_method_7_code 19 = .ok (.invokevirtual 57, 3) := by decide +kernel
theorem d_H_passMinutes_22 : decode prog_4_method_7_code 22 = .ok (.astore 4, 2) := by decide +kernel
theorem d_H_passMinutes_24 : decode prog_4_method_7_code 24 = .ok (.aload 4, 2) := by decide +kernel
theorem d_H_passMinutes_26 : decode prog_4_method_7_code 26 = .ok (.ifnull 9, 3) := by decide +kernel
theorem d_H_passMinutes_29 : decode prog_4_method_7_code 29 = .ok (.aload_n 0, 1) := by decide +kernel
theorem d_H_passMinutes_30 : decode prog_4_method_7_code 30 = .ok (.aload 4, 2) := by decide +kernel
theorem d_H_passMinutes_32 : decode prog_4_method_7_code 32 = .ok (.invokevirtual 71, 3) := by decide +kernel
theorem d_H_passMinutes_35 : decode prog_4_method_7_code 35 = .ok (.iinc 3 1, 3) := by decide +kernel
theorem d_H_passMinutes_38 : decode prog_4_method_7_code 38 = .ok (.goto (-29), 3) := by decide +kernel
theorem d_H_passMinutes_41 : decode prog_4_method_7_code 41 = .ok (.aload_n 0, 1) := by decide +kernel
theorem d_H_passMinutes_42 : decode prog_4_method_7_code 42 = .ok (.dup, 1) := by decide +kernel
theorem d_H_passMinutes_43 : decode prog_4_method_7_code 43 = .ok (.getfield 40, 3) := by decide +kernel
theorem d_H_passMinutes_46 : decode prog_4_method_7_code 46 = .ok (.iconst 1, 1) := by decide +kernel
theorem d_H_passMinutes_47 : decode prog_4_method_7_code 47 = .ok (.iadd, 1) := by decide +kernel
theorem d_H_passMinutes_48 : decode prog_4_method_7_code 48 = .ok (.putfield 40, 3) := by decide +kernel
theorem d_H_passMinutes_51 : decode prog_4_method_7_code 51 = .ok (.iinc 2 1, 3) := by decide +kernel
theorem d_H_passMinutes_54 : decode prog_4_method_7_code 54 = .ok (.goto (-52), 3) := by decide +kernel
theorem d_H_passMinutes_57 : decode prog_4_method_7_code 57 = .ok (.return_, 1) := by decide +kernel
theorem gc_H_passMinutes_57 : GoodIn yGW (wsV "WhoseGlass$House" 57 yR2 m_H_guestAt ws_H_guestAt) := y_gV g_267 g_268 g_269 g_2 g_270
theorem gc_H_passMinutes_71 : GoodIn yGW (wsV "WhoseGlass$House" 71 yR2 m_H_liveMinute ws_H_liveMinute) := y_gV g_282 g_284 gs_1 g_2 g_285
set_option maxHeartbeats 4000000 in
set_option maxRecDepth 100000 in
def f_H_passMinutes_L9 (F : Nat) (a0 : Option Nat) (a1 : Int32) (a2 : Int32) (k : Mm → Option (Unit × Mm)) : Nat → Mm → Int32 → Option (Unit × Mm)
  | 0, _, _ => none
  | n + 1, u, a3 => ob (jgi YX 2 3 u a0) fun (x2 : Int32) => (if x2 ≤ a3 then k u  else ob (jk YX 2 a0) fun t => yb (f_H_guestAt F u t a3) fun r4 u5 => ob ((if r4 = none then some u5 else ob (jk YX 2 a0) fun t => yb (f_H_liveMinute F u5 t r4) fun v8 u9 => some u9) : Option (Mm)) fun q6 => ob (some (a3 + (1 : Int32))) fun (x10 : Int32) => f_H_passMinutes_L9 F a0 a1 a2 k n q6 x10)
set_option maxHeartbeats 4000000 in
set_option maxRecDepth 100000 in
theorem w_H_passMinutes_L9 {p : Program} {l : Launch} {e : Env} {s : State} {m : MethodId} {args : Array Value} {below : List Frame} {meth : Method} {c : Code} {w : WP} {Q : State → Prop} (F : Nat) (C : yX p e ({ frames := 4, cells := 0, slots := 0, locals := 101 } : Room) s m args c YX w 5 prog_4_method_7_code "WhoseGlass$House") (hr : meth.sig.returnType = none) (hlocks : meth.locks = false) (a0 : Option Nat) (a1 : Int32) (a2 : Int32) {out : Unit × Mm} (k : Mm → Option (Unit × Mm)) (hk : ∀ (u : Mm), k u  = some out → yG p l e ({ frames := 4, cells := 0, slots := 0, locals := 101 } : Room) s m args below meth c YX w 5 Q u 41 [(0, va_re w.1 a0), (1, .int a1), (2, .int a2)] []) : ∀ (n : Nat) (u : Mm) (a3 : Int32), f_H_passMinutes_L9 F a0 a1 a2 k n u a3 = some out → yG p l e ({ frames := 4, cells := 0, slots := 0, locals := 101 } : Room) s m args below meth c YX w 5 Q u 9 [(0, va_re w.1 a0), (1, .int a1), (2, .int a2), (3, .int a3)] [] := by
  intro n
  induction n with
  | zero => intro u a3 h; rw [f_H_passMinutes_L9] at h; cases h
  | succ n ih =>
    intro u a3 h
    rw [f_H_passMinutes_L9] at h
    refine y_iload_n C (i := 3) 3 d_H_passMinutes_9 rfl rfl ?_
    refine y_aload_n C (i := 0) 0 d_H_passMinutes_10 rfl rfl ?_
    refine y_gi C (q := (yR2, yT2, 9)) (ci := 2) (k := 3) rfl (by decide) rfl g_135 d_H_passMinutes_11 h (fun x2 h => ?_)
    refine y_ic_ge C 41 d_H_passMinutes_14 (by decide) h (fun k3 h => ?_) (fun k3 h => ?_)
    · exact y_sub [0, 1, 2] rfl (hk _ h)
    · refine y_aload_n C (i := 0) 0 d_H_passMinutes_17 rfl rfl ?_
      refine y_iload_n C (i := 3) 3 d_H_passMinutes_18 rfl rfl ?_
      refine y_callV 1 C (q := (yR2, yT2, 9)) (ci := 2) (fun t out hh => c_H_guestAt l w F u t a3 out hh) gc_H_passMinutes_57 rfl (by decide) hd_H_guestAt ⟨Nat.le_of_ble_eq_true rfl, Nat.le_of_ble_eq_true rfl⟩ rfl rfl rfl rfl (by simp [y_cat, y_catI, y_catJ]) d_H_passMinutes_19 h (fun r4 u5 h => ?_)
      refine y_stk (stp0 := [va_re w.1 r4]) rfl ?_
      refine y_astore C (i := 4) (lvp := [(0, va_re w.1 a0), (1, .int a1), (2, .int a2), (3, .int a3)]) d_H_passMinutes_22 (by decide) (by simp [List.filter, y_cat, y_catI, y_catJ]) ?_
      refine y_aload C (i := 4) 0 d_H_passMinutes_24 rfl ?_
      obtain ⟨q6, hq6, h⟩ := ob_e h
      have hJq6 : yG p l e ({ frames := 4, cells := 0, slots := 0, locals := 101 } : Room) s m args below meth c YX w 5 Q q6 35 [(0, va_re w.1 a0), (1, .int a1), (2, .int a2), (3, .int a3)] [] := by
        refine y_iinc C (j := 3) (v := 1) (lvp := [(0, va_re w.1 a0), (1, .int a1), (2, .int a2)]) d_H_passMinutes_35 rfl (by decide) (by decide) rfl h (fun x10 h => ?_)
        refine y_goto C (tgt := 9) d_H_passMinutes_38 (by decide) ?_
        exact y_sub [1, 2, 3, 0] rfl (ih _ _ h)
      refine y_ifnull C 35 d_H_passMinutes_26 (by decide) hq6 (fun k7 hq6 => ?_) (fun k7 hq6 => ?_)
      · cases hq6
        exact y_sub [1, 2, 3, 4] rfl hJq6
      · refine y_aload_n C (i := 0) 1 d_H_passMinutes_29 rfl rfl ?_
        refine y_aload C (i := 4) 0 d_H_passMinutes_30 rfl ?_
        refine y_callV 1 C (q := (yR2, yT2, 9)) (ci := 2) (fun t out hh => c_H_liveMinute l w F u5 t r4 out hh) gc_H_passMinutes_71 rfl (by decide) hd_H_liveMinute ⟨Nat.le_of_ble_eq_true rfl, Nat.le_of_ble_eq_true rfl⟩ rfl rfl rfl rfl (by simp [y_cat, y_catI, y_catJ]) d_H_passMinutes_32 hq6 (fun v8 u9 hq6 => ?_)
        refine y_stk (stp0 := []) rfl ?_
        cases hq6
        exact y_sub [1, 2, 3, 4] rfl hJq6
set_option maxHeartbeats 4000000 in
set_option maxRecDepth 100000 in
def f_H_passMinutes_L2 (F : Nat) (a0 : Option Nat) (a1 : Int32) (k : Mm → Option (Unit × Mm)) : Nat → Mm → Int32 → Option (Unit × Mm)
  | 0, _, _ => none
  | n + 1, u, a2 => (if a1 ≤ a2 then k u  else f_H_passMinutes_L9 F a0 a1 a2 (fun (u11 : Mm) => ob (jgi YX 2 5 u11 a0) fun (x12 : Int32) => ob (jpi YX 2 5 u11 a0 (x12 + (1 : Int32))) fun (u13 : Mm) => ob (some (a2 + (1 : Int32))) fun (x14 : Int32) => f_H_passMinutes_L2 F a0 a1 k n u13 x14) F u (0 : Int32))
set_option maxHeartbeats 4000000 in
set_option maxRecDepth 100000 in
theorem w_H_passMinutes_L2 {p : Program} {l : Launch} {e : Env} {s : State} {m : MethodId} {args : Array Value} {below : List Frame} {meth : Method} {c : Code} {w : WP} {Q : State → Prop} (F : Nat) (C : yX p e ({ frames := 4, cells := 0, slots := 0, locals := 101 } : Room) s m args c YX w 5 prog_4_method_7_code "WhoseGlass$House") (hr : meth.sig.returnType = none) (hlocks : meth.locks = false) (a0 : Option Nat) (a1 : Int32) {out : Unit × Mm} (k : Mm → Option (Unit × Mm)) (hk : ∀ (u : Mm), k u  = some out → yG p l e ({ frames := 4, cells := 0, slots := 0, locals := 101 } : Room) s m args below meth c YX w 5 Q u 57 [] []) : ∀ (n : Nat) (u : Mm) (a2 : Int32), f_H_passMinutes_L2 F a0 a1 k n u a2 = some out → yG p l e ({ frames := 4, cells := 0, slots := 0, locals := 101 } : Room) s m args below meth c YX w 5 Q u 2 [(0, va_re w.1 a0), (1, .int a1), (2, .int a2)] [] := by
  intro n
  induction n with
  | zero => intro u a2 h; rw [f_H_passMinutes_L2] at h; cases h
  | succ n ih =>
    intro u a2 h
    rw [f_H_passMinutes_L2] at h
    refine y_iload_n C (i := 2) 2 d_H_passMinutes_2 rfl rfl ?_
    refine y_iload_n C (i := 1) 1 d_H_passMinutes_3 rfl rfl ?_
    refine y_ic_ge C 57 d_H_passMinutes_4 (by decide) h (fun k1 h => ?_) (fun k1 h => ?_)
    · exact y_sub [] rfl (hk _ h)
    · refine y_iconst C (v := 0) d_H_passMinutes_7 (by decide) ?_
      refine y_istore_n C (i := 3) (lvp := [(0, va_re w.1 a0), (1, .int a1), (2, .int a2)]) d_H_passMinutes_8 rfl (by decide) rfl ?_
      refine y_sub [1, 2, 3, 0] rfl (w_H_passMinutes_L9 F C hr hlocks _ _ _ _ (fun u11 h => ?_) _ _ _ h)
      refine y_aload_n C (i := 0) 0 d_H_passMinutes_41 rfl rfl ?_
      refine y_dup C d_H_passMinutes_42 (y_cat _ _) ?_
      refine y_gi C (q := (yR2, yT2, 9)) (ci := 2) (k := 5) rfl (by decide) rfl g_140 d_H_passMinutes_43 h (fun x12 h => ?_)
      refine y_iconst C (v := 1) d_H_passMinutes_46 (by decide) ?_
      refine y_iadd C d_H_passMinutes_47 ?_
      refine y_pi C (q := (yR2, yT2, 9)) (ci := 2) (k := 5) rfl (by decide) rfl rfl (by decide +kernel) g_140 d_H_passMinutes_48 h (fun u13 h => ?_)
      refine y_iinc C (j := 2) (v := 1) (lvp := [(0, va_re w.1 a0), (1, .int a1)]) d_H_passMinutes_51 rfl (by decide) (by decide) rfl h (fun x14 h => ?_)
      refine y_goto C (tgt := 2) d_H_passMinutes_54 (by decide) ?_
      exact y_sub [1, 2, 0] rfl (ih _ _ h)
set_option maxRecDepth 100000 in
def f_H_passMinutes (F : Nat) (u : Mm) (o : Nat) (a1 : Int32) : Option (Unit × Mm) := f_H_passMinutes_L2 F (some o) a1 (fun (u15 : Mm) => some ((), u15)) F u (0 : Int32)
set_option maxHeartbeats 4000000 in
set_option maxRecDepth 100000 in
theorem c_H_passMinutes (l : Launch) (w : WP) (F : Nat) (u : Mm) (o : Nat) (a1 : Int32) (out : Unit × Mm) (h : f_H_passMinutes F u o a1 = some out) : yMet l m_H_passMinutes ws_H_passMinutes ({ frames := 4, cells := 0, slots := 0, locals := 101 } : Room) YX w u [va_re w.1 (some o), .int a1] yfv out := by
  refine y_entry (own := "WhoseGlass$House") (lv := [(0, va_re w.1 (some o)), (1, .int a1)]) (by decide +kernel) rfl (by simp [lv_args, y_cat, y_catI, y_catJ]) (by simp [lg_sl, y_cat, y_catI, y_catJ]) ?_
  intro p e s m args below meth c C hr hlocks
  unfold f_H_passMinutes at h
  refine y_iconst C (v := 0) d_H_passMinutes_0 (by decide) ?_
  refine y_istore_n C (i := 2) (lvp := [(0, va_re w.1 (some o)), (1, .int a1)]) d_H_passMinutes_1 rfl (by decide) rfl ?_
  refine y_sub [1, 2, 0] rfl (w_H_passMinutes_L2 F C hr hlocks _ _ _ (fun u15 h => ?_) _ _ _ h)
  exact y_vret C hr hlocks d_H_passMinutes_57 h
/-! T_digit -/
theorem d_T_digit_0 : decode prog_5_method_11_code 0 = .ok (.aload_n 0, 1) := by decide +kernel
theorem d_T_digit_1 : decode prog_5_method_11_code 1 = .ok (.iload_n 1, 1) := by decide +kernel
theorem d_T_digit_2 : decode prog_5_method_11_code 2 = .ok (.invokevirtual 25, 3) := by decide +kernel
theorem d_T_digit_5 : decode prog_5_method_11_code 5 = .ok (.bipush 48, 2) := by decide +kernel
theorem d_T_digit_7 : decode prog_5_method_11_code 7 = .ok (.isub, 1) := by decide +kernel
theorem d_T_digit_8 : decode prog_5_method_11_code 8 = .ok (.ireturn, 1) := by decide +kernel
theorem gc_T_digit_25 : GoodIn yGW (wsV "WhoseGlass$HouseText" 25 yR3 m_S_elementAt ws_S_elementAt) := y_gV g_236 g_237 g_238 g_5 g_239
set_option maxRecDepth 100000 in
def f_T_digit (F : Nat) (u : Mm) (a0 : Option Nat) (a1 : Int32) : Option (Int32 × Mm) := ob (jk YX 3 a0) fun t => yb (f_S_elementAt F u t a1) fun x1 u2 => some ((x1 - (48 : Int32)), u2)
set_option maxHeartbeats 4000000 in
set_option maxRecDepth 100000 in
theorem c_T_digit (l : Launch) (w : WP) (F : Nat) (u : Mm) (a0 : Option Nat) (a1 : Int32) (out : Int32 × Mm) (h : f_T_digit F u a0 a1 = some out) : yMet l m_T_digit ws_T_digit ({ frames := 1, cells := 0, slots := 0, locals := 21 } : Room) YX w u [va_re w.1 a0, .int a1] yfi out := by
  refine y_entry (own := "WhoseGlass$HouseText") (lv := [(0, va_re w.1 a0), (1, .int a1)]) (by decide +kernel) rfl (by simp [lv_args, y_cat, y_catI, y_catJ]) (by simp [lg_sl, y_cat, y_catI, y_catJ]) ?_
  intro p e s m args below meth c C hr hlocks
  unfold f_T_digit at h
  refine y_aload_n C (i := 0) 0 d_T_digit_0 rfl rfl ?_
  refine y_iload_n C (i := 1) 1 d_T_digit_1 rfl rfl ?_
  refine y_callV 1 C (q := (yR3, yT3, 6)) (ci := 3) (fun t out hh => c_S_elementAt l w F u t a1 out hh) gc_T_digit_25 rfl (by decide) hd_S_elementAt ⟨Nat.le_of_ble_eq_true rfl, Nat.le_of_ble_eq_true rfl⟩ rfl rfl rfl rfl (by simp [y_cat, y_catI, y_catJ]) d_T_digit_2 h (fun x1 u2 h => ?_)
  refine y_stk (stp0 := [.int x1]) rfl ?_
  refine y_bipush C (v := 48) d_T_digit_5 (by decide) ?_
  refine y_isub C d_T_digit_7 ?_
  exact y_iret C hr hlocks d_T_digit_8 h
/-! X_isBelow -/
theorem d_X_isBelow_0 : decode prog_1_method_42_code 0 = .ok (.iload_n 0, 1) := by decide +kernel
theorem d_X_isBelow_1 : decode prog_1_method_42_code 1 = .ok (.ifCond .lt 12, 3) := by decide +kernel
theorem d_X_isBelow_4 : decode prog_1_method_42_code 4 = .ok (.iload_n 0, 1) := by decide +kernel
theorem d_X_isBelow_5 : decode prog_1_method_42_code 5 = .ok (.iload_n 1, 1) := by decide +kernel
theorem d_X_isBelow_6 : decode prog_1_method_42_code 6 = .ok (.if_icmp .ge 7, 3) := by decide +kernel
theorem d_X_isBelow_9 : decode prog_1_method_42_code 9 = .ok (.iconst 1, 1) := by decide +kernel
theorem d_X_isBelow_10 : decode prog_1_method_42_code 10 = .ok (.goto 4, 3) := by decide +kernel
theorem d_X_isBelow_13 : decode prog_1_method_42_code 13 = .ok (.iconst 0, 1) := by decide +kernel
theorem d_X_isBelow_14 : decode prog_1_method_42_code 14 = .ok (.ireturn, 1) := by decide +kernel
set_option maxRecDepth 100000 in
def f_X_isBelow (F : Nat) (u : Mm) (a0 : Int32) (a1 : Int32) : Option (Int32 × Mm) := (if a0 < 0 then ob (jz (0 : Int32)) (fun v => some (v, u)) else (if a1 ≤ a0 then ob (jz (0 : Int32)) (fun v => some (v, u)) else ob (jz (1 : Int32)) (fun v => some (v, u))))
set_option maxHeartbeats 4000000 in
set_option maxRecDepth 100000 in
theorem c_X_isBelow (l : Launch) (w : WP) (F : Nat) (u : Mm) (a0 : Int32) (a1 : Int32) (out : Int32 × Mm) (h : f_X_isBelow F u a0 a1 = some out) : yMet l m_X_isBelow ws_X_isBelow ({ frames := 0, cells := 0, slots := 0, locals := 0 } : Room) YX w u [.int a0, .int a1] yfi out := by
  refine y_entry (own := "WhoseGlass") (lv := [(0, .int a0), (1, .int a1)]) (by decide +kernel) rfl (by simp [lv_args, y_cat, y_catI, y_catJ]) (by simp [lg_sl, y_cat, y_catI, y_catJ]) ?_
  intro p e s m args below meth c C hr hlocks
  unfold f_X_isBelow at h
  refine y_iload_n C (i := 0) 0 d_X_isBelow_0 rfl rfl ?_
  refine y_if_lt C 13 d_X_isBelow_1 (by decide) h (fun k1 h => ?_) (fun k1 h => ?_)
  · refine y_iconst C (v := 0) d_X_isBelow_13 (by decide) ?_
    exact y_zret C hr hlocks d_X_isBelow_14 h
  · refine y_iload_n C (i := 0) 0 d_X_isBelow_4 rfl rfl ?_
    refine y_iload_n C (i := 1) 1 d_X_isBelow_5 rfl rfl ?_
    refine y_ic_ge C 13 d_X_isBelow_6 (by decide) h (fun k2 h => ?_) (fun k2 h => ?_)
    · refine y_iconst C (v := 0) d_X_isBelow_13 (by decide) ?_
      exact y_zret C hr hlocks d_X_isBelow_14 h
    · refine y_iconst C (v := 1) d_X_isBelow_9 (by decide) ?_
      refine y_goto C (tgt := 14) d_X_isBelow_10 (by decide) ?_
      exact y_zret C hr hlocks d_X_isBelow_14 h
/-! T_glassStands -/
theorem d_T_glassStands_0 : decode prog_5_method_13_code 0 = .ok (.aload_n 0, 1) := by decide +kernel
theorem d_T_glassStands_1 : decode prog_5_method_13_code 1 = .ok (.iload_n 1, 1) := by decide +kernel
theorem d_T_glassStands_2 : decode prog_5_method_13_code 2 = .ok (.iconst 1, 1) := by decide +kernel
theorem d_T_glassStands_3 : decode prog_5_method_13_code 3 = .ok (.iadd, 1) := by decide +kernel
theorem d_T_glassStands_4 : decode prog_5_method_13_code 4 = .ok (.invokestatic 73, 3) := by decide +kernel
theorem d_T_glassStands_7 : decode prog_5_method_13_code 7 = .ok (.istore_n 3, 1) := by decide +kernel
theorem d_T_glassStands_8 : decode prog_5_method_13_code 8 = .ok (.aload_n 0, 1) := by decide +kernel
theorem d_T_glassStands_9 : decode prog_5_method_13_code 9 = .ok (.iload_n 1, 1) := by decide +kernel
theorem d_T_glassStands_10 : decode prog_5_method_13_code 10 = .ok (.iconst 4, 1) := by decide +kernel
theorem d_T_glassStands_11 : decode prog_5_method_13_code 11 = .ok (.iadd, 1) := by decide +kernel
theorem d_T_glassStands_12 : decode prog_5_method_13_code 12 = .ok (.invokestatic 73, 3) := by decide +kernel
theorem d_T_glassStands_15 : decode prog_5_method_13_code 15 = .ok (.istore 4, 2) := by decide +kernel
theorem d_T_glassStands_17 : decode prog_5_method_13_code 17 = .ok (.iload_n 3, 1) := by decide +kernel
theorem d_T_glassStands_18 : decode prog_5_method_13_code 18 = .ok (.bipush 8, 2) := by decide +kernel
theorem d_T_glassStands_20 : decode prog_5_method_13_code 20 = .ok (.invokestatic 76, 3) := by decide +kernel
theorem d_T_glassStands_23 : decode prog_5_method_13_code 23 = .ok (.ifCond .eq 13, 3) := by decide +kernel
theorem d_T_glassStands_26 : decode prog_5_method_13_code 26 = .ok (.iload 4, 2) := by decide +kernel
theorem d_T_glassStands_28 : decode prog_5_method_13_code 28 = .ok (.bipush 6, 2) := by decide +kernel
theorem d_T_glassStands_30 : decode prog_5_method_13_code 30 = .ok (.invokestatic 76, 3) := by decide +kernel
theorem d_T_glassStands_33 : decode prog_5_method_13_code 33 = .ok (.ifCond .ne 5, 3) := by decide +kernel
theorem d_T_glassStands_36 : decode prog_5_method_13_code 36 = .ok (.iconst 0, 1) := by decide +kernel
theorem d_T_glassStands_37 : decode prog_5_method_13_code 37 = .ok (.ireturn, 1) := by decide +kernel
theorem d_T_glassStands_38 : decode prog_5_method_13_code 38 = .ok (.aload_n 2, 1) := by decide +kernel
theorem d_T_glassStands_39 : decode prog_5_method_13_code 39 = .ok (.iload_n 3, 1) := by decide +kernel
theorem d_T_glassStands_40 : decode prog_5_method_13_code 40 = .ok (.aload_n 0, 1) := by decide +kernel
theorem d_T_glassStands_41 : decode prog_5_method_13_code 41 = .ok (.iload_n 1, 1) := by decide +kernel
theorem d_T_glassStands_42 : decode prog_5_method_13_code 42 = .ok (.iconst 2, 1) := by decide +kernel
theorem d_T_glassStands_43 : decode prog_5_method_13_code 43 = .ok (.iadd, 1) := by decide +kernel
theorem d_T_glassStands_44 : decode prog_5_method_13_code 44 = .ok (.invokestatic 73, 3) := by decide +kernel
theorem d_T_glassStands_47 : decode prog_5_method_13_code 47 = .ok (.aload_n 0, 1) := by decide +kernel
theorem d_T_glassStands_48 : decode prog_5_method_13_code 48 = .ok (.iload_n 1, 1) := by decide +kernel
theorem d_T_glassStands_49 : decode prog_5_method_13_code 49 = .ok (.iconst 3, 1) := by decide +kernel
theorem d_T_glassStands_50 : decode prog_5_method_13_code 50 = .ok (.iadd, 1) := by decide +kernel
theorem d_T_glassStands_51 : decode prog_5_method_13_code 51 = .ok (.invokestatic 73, 3) := by decide +kernel
theorem d_T_glassStands_54 : decode prog_5_method_13_code 54 = .ok (.invokevirtual 80, 3) := by decide +kernel
theorem d_T_glassStands_57 : decode prog_5_method_13_code 57 = .ok (.astore 5, 2) := by decide +kernel
theorem d_T_glassStands_59 : decode prog_5_method_13_code 59 = .ok (.aload 5, 2) := by decide +kernel
theorem d_T_glassStands_61 : decode prog_5_method_13_code 61 = .ok (.ifnonnull 5, 3) := by decide +kernel
theorem d_T_glassStands_64 : decode prog_5_method_13_code 64 = .ok (.iconst 0, 1) := by decide +kernel
theorem d_T_glassStands_65 : decode prog_5_method_13_code 65 = .ok (.ireturn, 1) := by decide +kernel
theorem d_T_glassStands_66 : decode prog_5_method_13_code 66 = .ok (.aload 5, 2) := by decide +kernel
theorem d_T_glassStands_68 : decode prog_5_method_13_code 68 = .ok (.iload 4, 2) := by decide +kernel
theorem d_T_glassStands_70 : decode prog_5_method_13_code 70 = .ok (.aload_n 2, 1) := by decide +kernel
theorem d_T_glassStands_71 : decode prog_5_method_13_code 71 = .ok (.getfield 36, 3) := by decide +kernel
theorem d_T_glassStands_74 : decode prog_5_method_13_code 74 = .ok (.invokevirtual 84, 3) := by decide +kernel
theorem d_T_glassStands_77 : decode prog_5_method_13_code 77 = .ok (.iconst 1, 1) := by decide +kernel
theorem d_T_glassStands_78 : decode prog_5_method_13_code 78 = .ok (.ireturn, 1) := by decide +kernel
theorem gc_T_glassStands_80 : GoodIn yGW (wsV "WhoseGlass$HouseText" 80 yR2 m_H_addGlass ws_H_addGlass) := y_gV g_345 g_310 g_311 g_2 g_312
theorem gc_T_glassStands_84 : GoodIn yGW (wsV "WhoseGlass$HouseText" 84 yR0 m_G_layAt ws_G_layAt) := y_gV g_346 g_330 g_331 g_3 g_332
set_option maxRecDepth 100000 in
def f_T_glassStands (F : Nat) (u : Mm) (a0 : Option Nat) (a1 : Int32) (a2 : Option Nat) : Option (Int32 × Mm) := yb (f_T_digit F u a0 (a1 + (1 : Int32))) fun x1 u2 => yb (f_T_digit F u2 a0 (a1 + (4 : Int32))) fun x3 u4 => yb (f_X_isBelow F u4 x1 (8 : Int32)) fun x5 u6 => (if x5 = 0 then ob (jz (0 : Int32)) (fun v => some (v, u6)) else yb (f_X_isBelow F u6 x3 (6 : Int32)) fun x8 u9 => (if x8 = 0 then ob (jz (0 : Int32)) (fun v => some (v, u9)) else yb (f_T_digit F u9 a0 (a1 + (2 : Int32))) fun x11 u12 => yb (f_T_digit F u12 a0 (a1 + (3 : Int32))) fun x13 u14 => ob (jk YX 2 a2) fun t => yb (f_H_addGlass F u14 t x1 x11 x13) fun r15 u16 => (if r15 = none then ob (jz (0 : Int32)) (fun v => some (v, u16)) else ob (jgi YX 2 5 u16 a2) fun (x18 : Int32) => ob (jk YX 0 r15) fun t => yb (f_G_layAt F u16 t x3 x18) fun v19 u20 => ob (jz (1 : Int32)) (fun v => some (v, u20)))))
set_option maxHeartbeats 4000000 in
set_option maxRecDepth 100000 in
theorem c_T_glassStands (l : Launch) (w : WP) (F : Nat) (u : Mm) (a0 : Option Nat) (a1 : Int32) (a2 : Option Nat) (out : Int32 × Mm) (h : f_T_glassStands F u a0 a1 a2 = some out) : yMet l m_T_glassStands ws_T_glassStands ({ frames := 2, cells := 0, slots := 0, locals := 47 } : Room) YX w u [va_re w.1 a0, .int a1, va_re w.1 a2] yfi out := by
  refine y_entry (own := "WhoseGlass$HouseText") (lv := [(0, va_re w.1 a0), (1, .int a1), (2, va_re w.1 a2)]) (by decide +kernel) rfl (by simp [lv_args, y_cat, y_catI, y_catJ]) (by simp [lg_sl, y_cat, y_catI, y_catJ]) ?_
  intro p e s m args below meth c C hr hlocks
  unfold f_T_glassStands at h
  refine y_aload_n C (i := 0) 0 d_T_glassStands_0 rfl rfl ?_
  refine y_iload_n C (i := 1) 1 d_T_glassStands_1 rfl rfl ?_
  refine y_iconst C (v := 1) d_T_glassStands_2 (by decide) ?_
  refine y_iadd C d_T_glassStands_3 ?_
  refine y_callS 2 C (fun out hh => c_T_digit l w F u a0 (a1 + (1 : Int32)) out hh) (y_gc g_341) g_339 g_7 g_340 hn_T_digit ⟨Nat.le_of_ble_eq_true rfl, Nat.le_of_ble_eq_true rfl⟩ rfl rfl rfl rfl (by simp [y_cat, y_catI, y_catJ]) d_T_glassStands_4 h (fun x1 u2 h => ?_)
  refine y_stk (stp0 := [.int x1]) rfl ?_
  refine y_istore_n C (i := 3) (lvp := [(0, va_re w.1 a0), (1, .int a1), (2, va_re w.1 a2)]) d_T_glassStands_7 rfl (by decide) (by simp [List.filter, y_cat, y_catI, y_catJ]) ?_
  refine y_aload_n C (i := 0) 1 d_T_glassStands_8 rfl rfl ?_
  refine y_iload_n C (i := 1) 2 d_T_glassStands_9 rfl rfl ?_
  refine y_iconst C (v := 4) d_T_glassStands_10 (by decide) ?_
  refine y_iadd C d_T_glassStands_11 ?_
  refine y_callS 2 C (fun out hh => c_T_digit l w F u2 a0 (a1 + (4 : Int32)) out hh) (y_gc g_341) g_339 g_7 g_340 hn_T_digit ⟨Nat.le_of_ble_eq_true rfl, Nat.le_of_ble_eq_true rfl⟩ rfl rfl rfl rfl (by simp [y_cat, y_catI, y_catJ]) d_T_glassStands_12 h (fun x3 u4 h => ?_)
  refine y_stk (stp0 := [.int x3]) rfl ?_
  refine y_istore C (i := 4) (lvp := [(3, .int x1), (0, va_re w.1 a0), (1, .int a1), (2, va_re w.1 a2)]) d_T_glassStands_15 (by decide) rfl ?_
  refine y_iload_n C (i := 3) 1 d_T_glassStands_17 rfl rfl ?_
  refine y_bipush C (v := 8) d_T_glassStands_18 (by decide) ?_
  refine y_callN 2 C (host := "WhoseGlass") (fun out hh => c_X_isBelow l w F u4 x1 (8 : Int32) out hh) (y_gc g_344) (by decide +kernel) g_1 g_343 hn_X_isBelow ⟨Nat.le_of_ble_eq_true rfl, Nat.le_of_ble_eq_true rfl⟩ rfl rfl rfl rfl (by simp [y_cat, y_catI, y_catJ]) d_T_glassStands_20 h (fun x5 u6 h => ?_)
  refine y_stk (stp0 := [.int x5]) rfl ?_
  refine y_if_eq C 36 d_T_glassStands_23 (by decide) h (fun k7 h => ?_) (fun k7 h => ?_)
  · refine y_iconst C (v := 0) d_T_glassStands_36 (by decide) ?_
    exact y_zret C hr hlocks d_T_glassStands_37 h
  · refine y_iload C (i := 4) 0 d_T_glassStands_26 rfl ?_
    refine y_bipush C (v := 6) d_T_glassStands_28 (by decide) ?_
    refine y_callN 2 C (host := "WhoseGlass") (fun out hh => c_X_isBelow l w F u6 x3 (6 : Int32) out hh) (y_gc g_344) (by decide +kernel) g_1 g_343 hn_X_isBelow ⟨Nat.le_of_ble_eq_true rfl, Nat.le_of_ble_eq_true rfl⟩ rfl rfl rfl rfl (by simp [y_cat, y_catI, y_catJ]) d_T_glassStands_30 h (fun x8 u9 h => ?_)
    refine y_stk (stp0 := [.int x8]) rfl ?_
    refine y_if_ne C 38 d_T_glassStands_33 (by decide) h (fun k10 h => ?_) (fun k10 h => ?_)
    · refine y_iconst C (v := 0) d_T_glassStands_36 (by decide) ?_
      exact y_zret C hr hlocks d_T_glassStands_37 h
    · refine y_aload_n C (i := 2) 4 d_T_glassStands_38 rfl rfl ?_
      refine y_iload_n C (i := 3) 1 d_T_glassStands_39 rfl rfl ?_
      refine y_aload_n C (i := 0) 2 d_T_glassStands_40 rfl rfl ?_
      refine y_iload_n C (i := 1) 3 d_T_glassStands_41 rfl rfl ?_
      refine y_iconst C (v := 2) d_T_glassStands_42 (by decide) ?_
      refine y_iadd C d_T_glassStands_43 ?_
      refine y_callS 2 C (fun out hh => c_T_digit l w F u9 a0 (a1 + (2 : Int32)) out hh) (y_gc g_341) g_339 g_7 g_340 hn_T_digit ⟨Nat.le_of_ble_eq_true rfl, Nat.le_of_ble_eq_true rfl⟩ rfl rfl rfl rfl (by simp [y_cat, y_catI, y_catJ]) d_T_glassStands_44 h (fun x11 u12 h => ?_)
      refine y_stk (stp0 := [.int x11, .int x1, va_re w.1 a2]) rfl ?_
      refine y_aload_n C (i := 0) 2 d_T_glassStands_47 rfl rfl ?_
      refine y_iload_n C (i := 1) 3 d_T_glassStands_48 rfl rfl ?_
      refine y_iconst C (v := 3) d_T_glassStands_49 (by decide) ?_
      refine y_iadd C d_T_glassStands_50 ?_
      refine y_callS 2 C (fun out hh => c_T_digit l w F u12 a0 (a1 + (3 : Int32)) out hh) (y_gc g_341) g_339 g_7 g_340 hn_T_digit ⟨Nat.le_of_ble_eq_true rfl, Nat.le_of_ble_eq_true rfl⟩ rfl rfl rfl rfl (by simp [y_cat, y_catI, y_catJ]) d_T_glassStands_51 h (fun x13 u14 h => ?_)
      refine y_stk (stp0 := [.int x13, .int x11, .int x1, va_re w.1 a2]) rfl ?_
      refine y_callV 3 C (q := (yR2, yT2, 9)) (ci := 2) (fun t out hh => c_H_addGlass l w F u14 t x1 x11 x13 out hh) gc_T_glassStands_80 rfl (by decide) hd_H_addGlass ⟨Nat.le_of_ble_eq_true rfl, Nat.le_of_ble_eq_true rfl⟩ rfl rfl rfl rfl (by simp [y_cat, y_catI, y_catJ]) d_T_glassStands_54 h (fun r15 u16 h => ?_)
      refine y_stk (stp0 := [va_re w.1 r15]) rfl ?_
      refine y_astore C (i := 5) (lvp := [(4, .int x3), (3, .int x1), (0, va_re w.1 a0), (1, .int a1), (2, va_re w.1 a2)]) d_T_glassStands_57 (by decide) (by simp [List.filter, y_cat, y_catI, y_catJ]) ?_
      refine y_aload C (i := 5) 0 d_T_glassStands_59 rfl ?_
      refine y_ifnonnull C 66 d_T_glassStands_61 (by decide) h (fun k17 h => ?_) (fun k17 h => ?_)
      · refine y_iconst C (v := 0) d_T_glassStands_64 (by decide) ?_
        exact y_zret C hr hlocks d_T_glassStands_65 h
      · refine y_aload C (i := 5) 0 d_T_glassStands_66 rfl ?_
        refine y_iload C (i := 4) 1 d_T_glassStands_68 rfl ?_
        refine y_aload_n C (i := 2) 5 d_T_glassStands_70 rfl rfl ?_
        refine y_gi C (q := (yR2, yT2, 9)) (ci := 2) (k := 5) rfl (by decide) rfl g_141 d_T_glassStands_71 h (fun x18 h => ?_)
        refine y_callV 2 C (q := (yR0, yT0, 8)) (ci := 0) (fun t out hh => c_G_layAt l w F u16 t x3 x18 out hh) gc_T_glassStands_84 rfl (by decide) hd_G_layAt ⟨Nat.le_of_ble_eq_true rfl, Nat.le_of_ble_eq_true rfl⟩ rfl rfl rfl rfl (by simp [y_cat, y_catI, y_catJ]) d_T_glassStands_74 h (fun v19 u20 h => ?_)
        refine y_stk (stp0 := []) rfl ?_
        refine y_iconst C (v := 1) d_T_glassStands_77 (by decide) ?_
        exact y_zret C hr hlocks d_T_glassStands_78 h
