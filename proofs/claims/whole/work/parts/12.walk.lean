/-! S_leastNumber -/
theorem d_S_leastNumber_0 : decode prog_6_method_7_code 0 = .ok (.aload_n 0, 1) := by decide +kernel
theorem d_S_leastNumber_1 : decode prog_6_method_7_code 1 = .ok (.getfield 19, 3) := by decide +kernel
theorem d_S_leastNumber_4 : decode prog_6_method_7_code 4 = .ok (.lookupswitch 35 #[(0, 28), (1, 31)], 28) := by decide +kernel
theorem d_S_leastNumber_32 : decode prog_6_method_7_code 32 = .ok (.bipush (-128), 2) := by decide +kernel
theorem d_S_leastNumber_34 : decode prog_6_method_7_code 34 = .ok (.ireturn, 1) := by decide +kernel
theorem d_S_leastNumber_35 : decode prog_6_method_7_code 35 = .ok (.sipush (-32768), 3) := by decide +kernel
theorem d_S_leastNumber_38 : decode prog_6_method_7_code 38 = .ok (.ireturn, 1) := by decide +kernel
theorem d_S_leastNumber_39 : decode prog_6_method_7_code 39 = .ok (.ldc 29, 2) := by decide +kernel
theorem d_S_leastNumber_41 : decode prog_6_method_7_code 41 = .ok (.ireturn, 1) := by decide +kernel
set_option maxRecDepth 100000 in
def f_S_leastNumber (F : Nat) (u : Mm) (o : Nat) : Option (Int32 × Mm) := ob (jgi YX 3 3 u (some o)) fun (x1 : Int32) => (if x1 = (0 : Int32) then some ((-128 : Int32), u) else (if x1 = (1 : Int32) then some ((-32768 : Int32), u) else some ((-2147483648 : Int32), u)))
set_option maxHeartbeats 4000000 in
set_option maxRecDepth 100000 in
theorem c_S_leastNumber (l : Launch) (w : WP) (F : Nat) (u : Mm) (o : Nat) (out : Int32 × Mm) (h : f_S_leastNumber F u o = some out) : yMet l m_S_leastNumber ws_S_leastNumber ({ frames := 0, cells := 0, slots := 0, locals := 0 } : Room) YX w u [va_re w.1 (some o)] yfi out := by
  refine y_entry (own := "WhoseGlass$Shelf") (lv := [(0, va_re w.1 (some o))]) (by decide +kernel) rfl (by simp [lv_args, y_cat, y_catI, y_catJ]) (by simp [lg_sl, y_cat, y_catI, y_catJ]) ?_
  intro p e s m args below meth c C hr hlocks
  unfold f_S_leastNumber at h
  refine y_aload_n C (i := 0) 0 d_S_leastNumber_0 rfl rfl ?_
  refine y_gi C (q := (yR3, yT3, 6)) (ci := 3) (k := 3) rfl (by decide) rfl g_182 d_S_leastNumber_1 h (fun x1 h => ?_)
  refine y_sp h (fun k2 h => ?_) (fun k2 h => ?_)
  · refine y_lsw C (off := 28) 32 d_S_leastNumber_4 (by decide) (by rw [k2]; decide +kernel) (by decide) ?_
    refine y_bipush C (v := -128) d_S_leastNumber_32 (by decide) ?_
    exact y_iret C hr hlocks d_S_leastNumber_34 h
  refine y_sp h (fun k3 h => ?_) (fun k3 h => ?_)
  · refine y_lsw C (off := 31) 35 d_S_leastNumber_4 (by decide) (by rw [k3]; decide +kernel) (by decide) ?_
    refine y_sipush C (v := -32768) d_S_leastNumber_35 (by decide) ?_
    exact y_iret C hr hlocks d_S_leastNumber_38 h
  refine y_lsw C (off := 35) 39 d_S_leastNumber_4 (by decide) (by show Op.lookupswitch.offset [(0, 28), (1, 31)] 35 _ = _; rw [lv_osw (a := 0) k2 rfl, lv_osw (a := 1) k3 rfl]; rfl) (by decide) ?_
  refine y_ldc C d_S_leastNumber_39 g_590 ?_
  exact y_iret C hr hlocks d_S_leastNumber_41 h
/-! X_judge -/
theorem d_X_judge_0 : decode prog_1_method_30_code 0 = .ok (.aload_n 0, 1) := by decide +kernel
theorem d_X_judge_1 : decode prog_1_method_30_code 1 = .ok (.iload_n 2, 1) := by decide +kernel
theorem d_X_judge_2 : decode prog_1_method_30_code 2 = .ok (.invokevirtual 29, 3) := by decide +kernel
theorem d_X_judge_5 : decode prog_1_method_30_code 5 = .ok (.astore_n 3, 1) := by decide +kernel
theorem d_X_judge_6 : decode prog_1_method_30_code 6 = .ok (.aload_n 0, 1) := by decide +kernel
theorem d_X_judge_7 : decode prog_1_method_30_code 7 = .ok (.getfield 10, 3) := by decide +kernel
theorem d_X_judge_10 : decode prog_1_method_30_code 10 = .ok (.iload_n 1, 1) := by decide +kernel
theorem d_X_judge_11 : decode prog_1_method_30_code 11 = .ok (.invokevirtual 61, 3) := by decide +kernel
theorem d_X_judge_14 : decode prog_1_method_30_code 14 = .ok (.ifnull 7, 3) := by decide +kernel
theorem d_X_judge_17 : decode prog_1_method_30_code 17 = .ok (.aload_n 3, 1) := by decide +kernel
theorem d_X_judge_18 : decode prog_1_method_30_code 18 = .ok (.ifnonnull 5, 3) := by decide +kernel
theorem d_X_judge_21 : decode prog_1_method_30_code 21 = .ok (.iconst (-1), 1) := by decide +kernel
theorem d_X_judge_22 : decode prog_1_method_30_code 22 = .ok (.ireturn, 1) := by decide +kernel
theorem d_X_judge_23 : decode prog_1_method_30_code 23 = .ok (.aload_n 3, 1) := by decide +kernel
theorem d_X_judge_24 : decode prog_1_method_30_code 24 = .ok (.getfield 33, 3) := by decide +kernel
theorem d_X_judge_27 : decode prog_1_method_30_code 27 = .ok (.iconst 2, 1) := by decide +kernel
theorem d_X_judge_28 : decode prog_1_method_30_code 28 = .ok (.if_icmp .eq 8, 3) := by decide +kernel
theorem d_X_judge_31 : decode prog_1_method_30_code 31 = .ok (.aload_n 3, 1) := by decide +kernel
theorem d_X_judge_32 : decode prog_1_method_30_code 32 = .ok (.invokevirtual 40, 3) := by decide +kernel
theorem d_X_judge_35 : decode prog_1_method_30_code 35 = .ok (.ireturn, 1) := by decide +kernel
theorem d_X_judge_36 : decode prog_1_method_30_code 36 = .ok (.aload_n 0, 1) := by decide +kernel
theorem d_X_judge_37 : decode prog_1_method_30_code 37 = .ok (.getfield 16, 3) := by decide +kernel
theorem d_X_judge_40 : decode prog_1_method_30_code 40 = .ok (.aload_n 0, 1) := by decide +kernel
theorem d_X_judge_41 : decode prog_1_method_30_code 41 = .ok (.getfield 10, 3) := by decide +kernel
theorem d_X_judge_44 : decode prog_1_method_30_code 44 = .ok (.invokevirtual 50, 3) := by decide +kernel
theorem d_X_judge_47 : decode prog_1_method_30_code 47 = .ok (.aload_n 0, 1) := by decide +kernel
theorem d_X_judge_48 : decode prog_1_method_30_code 48 = .ok (.getfield 16, 3) := by decide +kernel
theorem d_X_judge_51 : decode prog_1_method_30_code 51 = .ok (.iload_n 1, 1) := by decide +kernel
theorem d_X_judge_52 : decode prog_1_method_30_code 52 = .ok (.invokevirtual 61, 3) := by decide +kernel
theorem d_X_judge_55 : decode prog_1_method_30_code 55 = .ok (.astore 4, 2) := by decide +kernel
theorem d_X_judge_57 : decode prog_1_method_30_code 57 = .ok (.iconst 0, 1) := by decide +kernel
theorem d_X_judge_58 : decode prog_1_method_30_code 58 = .ok (.istore 5, 2) := by decide +kernel
theorem d_X_judge_60 : decode prog_1_method_30_code 60 = .ok (.iload 5, 2) := by decide +kernel
theorem d_X_judge_62 : decode prog_1_method_30_code 62 = .ok (.aload_n 3, 1) := by decide +kernel
theorem d_X_judge_63 : decode prog_1_method_30_code 63 = .ok (.getfield 207, 3) := by decide +kernel
theorem d_X_judge_66 : decode prog_1_method_30_code 66 = .ok (.if_icmp .ge 52, 3) := by decide +kernel
theorem d_X_judge_69 : decode prog_1_method_30_code 69 = .ok (.aload 4, 2) := by decide +kernel
theorem d_X_judge_71 : decode prog_1_method_30_code 71 = .ok (.ifnull 47, 3) := by decide +kernel
theorem d_X_judge_74 : decode prog_1_method_30_code 74 = .ok (.aload_n 3, 1) := by decide +kernel
theorem d_X_judge_75 : decode prog_1_method_30_code 75 = .ok (.iload 5, 2) := by decide +kernel
theorem d_X_judge_77 : decode prog_1_method_30_code 77 = .ok (.invokevirtual 210, 3) := by decide +kernel
theorem d_X_judge_80 : decode prog_1_method_30_code 80 = .ok (.istore 6, 2) := by decide +kernel
theorem d_X_judge_82 : decode prog_1_method_30_code 82 = .ok (.iload 6, 2) := by decide +kernel
theorem d_X_judge_84 : decode prog_1_method_30_code 84 = .ok (.aload_n 3, 1) := by decide +kernel
theorem d_X_judge_85 : decode prog_1_method_30_code 85 = .ok (.invokevirtual 213, 3) := by decide +kernel
theorem d_X_judge_88 : decode prog_1_method_30_code 88 = .ok (.if_icmp .eq 16, 3) := by decide +kernel
theorem d_X_judge_91 : decode prog_1_method_30_code 91 = .ok (.iload 6, 2) := by decide +kernel
theorem d_X_judge_93 : decode prog_1_method_30_code 93 = .ok (.aload 4, 2) := by decide +kernel
theorem d_X_judge_95 : decode prog_1_method_30_code 95 = .ok (.getfield 126, 3) := by decide +kernel
theorem d_X_judge_98 : decode prog_1_method_30_code 98 = .ok (.if_icmp .eq 6, 3) := by decide +kernel
theorem d_X_judge_101 : decode prog_1_method_30_code 101 = .ok (.iload 5, 2) := by decide +kernel
theorem d_X_judge_103 : decode prog_1_method_30_code 103 = .ok (.ireturn, 1) := by decide +kernel
theorem d_X_judge_104 : decode prog_1_method_30_code 104 = .ok (.aload_n 0, 1) := by decide +kernel
theorem d_X_judge_105 : decode prog_1_method_30_code 105 = .ok (.getfield 16, 3) := by decide +kernel
theorem d_X_judge_108 : decode prog_1_method_30_code 108 = .ok (.iconst 1, 1) := by decide +kernel
theorem d_X_judge_109 : decode prog_1_method_30_code 109 = .ok (.invokevirtual 135, 3) := by decide +kernel
theorem d_X_judge_112 : decode prog_1_method_30_code 112 = .ok (.iinc 5 1, 3) := by decide +kernel
theorem d_X_judge_115 : decode prog_1_method_30_code 115 = .ok (.goto (-55), 3) := by decide +kernel
theorem d_X_judge_118 : decode prog_1_method_30_code 118 = .ok (.bipush (-4), 2) := by decide +kernel
theorem d_X_judge_120 : decode prog_1_method_30_code 120 = .ok (.ireturn, 1) := by decide +kernel
theorem gc_X_judge_29 : GoodIn yGW (wsV "WhoseGlass" 29 yR4 m_X_shelfAt ws_X_shelfAt) := y_gV g_222 g_224 gs_0 g_1 g_225
theorem gc_X_judge_61 : GoodIn yGW (wsV "WhoseGlass" 61 yR2 m_H_glassAt ws_H_glassAt) := y_gV g_381 g_260 g_261 g_2 g_262
theorem gc_X_judge_50 : GoodIn yGW (wsV "WhoseGlass" 50 yR2 m_H_become ws_H_become) := y_gV g_255 g_256 g_257 g_2 g_258
theorem gc_X_judge_210 : GoodIn yGW (wsV "WhoseGlass" 210 yR3 m_S_elementAt ws_S_elementAt) := y_gV g_585 g_237 g_238 g_5 g_239
theorem gc_X_judge_213 : GoodIn yGW (wsV "WhoseGlass" 213 yR3 m_S_leastNumber ws_S_leastNumber) := y_gV g_586 g_587 g_588 g_5 g_589
theorem gc_X_judge_135 : GoodIn yGW (wsV "WhoseGlass" 135 yR2 m_H_passMinutes ws_H_passMinutes) := y_gV g_438 g_279 g_280 g_2 g_281
theorem gc_X_judge_40 : GoodIn yGW (wsV "WhoseGlass" 40 yR3 m_S_whyNot ws_S_whyNot) := y_gV g_226 g_227 g_228 g_5 g_229
set_option maxHeartbeats 4000000 in
set_option maxRecDepth 100000 in
def f_X_judge_L60 (F : Nat) (a0 : Option Nat) (a3 : Option Nat) (a4 : Option Nat) (k : Mm → Option (Int32 × Mm)) : Nat → Mm → Int32 → Option (Int32 × Mm)
  | 0, _, _ => none
  | n + 1, u, a5 => ob (jgi YX 3 4 u a3) fun (x17 : Int32) => (if x17 ≤ a5 then k u  else (if a4 = none then k u  else ob (jk YX 3 a3) fun t => yb (f_S_elementAt F u t a5) fun x20 u21 => ob (jk YX 3 a3) fun t => yb (f_S_leastNumber F u21 t ) fun x22 u23 => (if x20 = x22 then ob (jgr YX 4 1 a0) fun (r25 : Option Nat) => ob (jk YX 2 r25) fun t => yb (f_H_passMinutes F u23 t (1 : Int32)) fun v26 u27 => ob (some (a5 + (1 : Int32))) fun (x28 : Int32) => f_X_judge_L60 F a0 a3 a4 k n u27 x28 else ob (jgi YX 0 4 u23 a4) fun (x29 : Int32) => (if x20 = x29 then ob (jgr YX 4 1 a0) fun (r31 : Option Nat) => ob (jk YX 2 r31) fun t => yb (f_H_passMinutes F u23 t (1 : Int32)) fun v32 u33 => ob (some (a5 + (1 : Int32))) fun (x34 : Int32) => f_X_judge_L60 F a0 a3 a4 k n u33 x34 else some (a5, u23)))))
set_option maxHeartbeats 4000000 in
set_option maxRecDepth 100000 in
theorem w_X_judge_L60 {p : Program} {l : Launch} {e : Env} {s : State} {m : MethodId} {args : Array Value} {below : List Frame} {meth : Method} {c : Code} {w : WP} (F : Nat) (C : yX p e ({ frames := 5, cells := 0, slots := 0, locals := 125 } : Room) s m args c YX w 7 prog_1_method_30_code "WhoseGlass") (hr : meth.sig.returnType = (some .int)) (hlocks : meth.locks = false) (a0 : Option Nat) (a3 : Option Nat) (a4 : Option Nat) {out : Int32 × Mm} (k : Mm → Option (Int32 × Mm)) (hk : ∀ (u : Mm), k u  = some out → yG p l e ({ frames := 5, cells := 0, slots := 0, locals := 125 } : Room) s m args below meth c YX w 7 (MQ below (yQ YX w yfi out) args s 0 0 (yA YX w)) u 118 [] []) : ∀ (n : Nat) (u : Mm) (a5 : Int32), f_X_judge_L60 F a0 a3 a4 k n u a5 = some out → yG p l e ({ frames := 5, cells := 0, slots := 0, locals := 125 } : Room) s m args below meth c YX w 7 (MQ below (yQ YX w yfi out) args s 0 0 (yA YX w)) u 60 [(0, va_re w.1 a0), (3, va_re w.1 a3), (4, va_re w.1 a4), (5, .int a5)] [] := by
  intro n
  induction n with
  | zero => intro u a5 h; rw [f_X_judge_L60] at h; cases h
  | succ n ih =>
    intro u a5 h
    rw [f_X_judge_L60] at h
    refine y_iload C (i := 5) 3 d_X_judge_60 rfl ?_
    refine y_aload_n C (i := 3) 1 d_X_judge_62 rfl rfl ?_
    refine y_gi C (q := (yR3, yT3, 6)) (ci := 3) (k := 4) rfl (by decide) rfl g_185 d_X_judge_63 h (fun x17 h => ?_)
    refine y_ic_ge C 118 d_X_judge_66 (by decide) h (fun k18 h => ?_) (fun k18 h => ?_)
    · exact y_sub [] rfl (hk _ h)
    · refine y_aload C (i := 4) 2 d_X_judge_69 rfl ?_
      refine y_ifnull C 118 d_X_judge_71 (by decide) h (fun k19 h => ?_) (fun k19 h => ?_)
      · exact y_sub [] rfl (hk _ h)
      · refine y_aload_n C (i := 3) 1 d_X_judge_74 rfl rfl ?_
        refine y_iload C (i := 5) 3 d_X_judge_75 rfl ?_
        refine y_callV 1 C (q := (yR3, yT3, 6)) (ci := 3) (fun t out hh => c_S_elementAt l w F u t a5 out hh) gc_X_judge_210 rfl (by decide) hd_S_elementAt ⟨Nat.le_of_ble_eq_true rfl, Nat.le_of_ble_eq_true rfl⟩ rfl rfl rfl rfl (by simp [y_cat, y_catI, y_catJ]) d_X_judge_77 h (fun x20 u21 h => ?_)
        refine y_stk (stp0 := [.int x20]) rfl ?_
        refine y_istore C (i := 6) (lvp := [(0, va_re w.1 a0), (3, va_re w.1 a3), (4, va_re w.1 a4), (5, .int a5)]) d_X_judge_80 (by decide) rfl ?_
        refine y_iload C (i := 6) 0 d_X_judge_82 rfl ?_
        refine y_aload_n C (i := 3) 2 d_X_judge_84 rfl rfl ?_
        refine y_callV 0 C (q := (yR3, yT3, 6)) (ci := 3) (fun t out hh => c_S_leastNumber l w F u21 t out hh) gc_X_judge_213 rfl (by decide) hd_S_leastNumber ⟨Nat.le_of_ble_eq_true rfl, Nat.le_of_ble_eq_true rfl⟩ rfl rfl rfl rfl (by simp [y_cat, y_catI, y_catJ]) d_X_judge_85 h (fun x22 u23 h => ?_)
        refine y_stk (stp0 := [.int x22, .int x20]) rfl ?_
        refine y_ic_eq C 104 d_X_judge_88 (by decide) h (fun k24 h => ?_) (fun k24 h => ?_)
        · refine y_aload_n C (i := 0) 1 d_X_judge_104 rfl rfl ?_
          refine y_gr C (q := (yR4, yT4, 5)) (ci := 4) (k := 1) rfl (by decide) rfl (by decide) g_203 d_X_judge_105 h (fun r25 h => ?_)
          refine y_iconst C (v := 1) d_X_judge_108 (by decide) ?_
          refine y_callV 1 C (q := (yR2, yT2, 9)) (ci := 2) (fun t out hh => c_H_passMinutes l w F u23 t (1 : Int32) out hh) gc_X_judge_135 rfl (by decide) hd_H_passMinutes ⟨Nat.le_of_ble_eq_true rfl, Nat.le_of_ble_eq_true rfl⟩ rfl rfl rfl rfl (by simp [y_cat, y_catI, y_catJ]) d_X_judge_109 h (fun v26 u27 h => ?_)
          refine y_stk (stp0 := []) rfl ?_
          refine y_iinc C (j := 4) (v := 1) (lvp := [(6, .int x20), (0, va_re w.1 a0), (3, va_re w.1 a3), (4, va_re w.1 a4)]) d_X_judge_112 rfl (by decide) (by decide) (by simp [List.filter, y_cat, y_catI, y_catJ]) h (fun x28 h => ?_)
          refine y_goto C (tgt := 60) d_X_judge_115 (by decide) ?_
          exact y_sub [2, 3, 4, 0] rfl (ih _ _ h)
        · refine y_iload C (i := 6) 0 d_X_judge_91 rfl ?_
          refine y_aload C (i := 4) 3 d_X_judge_93 rfl ?_
          refine y_gi C (q := (yR0, yT0, 8)) (ci := 0) (k := 4) rfl (by decide) rfl g_52 d_X_judge_95 h (fun x29 h => ?_)
          refine y_ic_eq C 104 d_X_judge_98 (by decide) h (fun k30 h => ?_) (fun k30 h => ?_)
          · refine y_aload_n C (i := 0) 1 d_X_judge_104 rfl rfl ?_
            refine y_gr C (q := (yR4, yT4, 5)) (ci := 4) (k := 1) rfl (by decide) rfl (by decide) g_203 d_X_judge_105 h (fun r31 h => ?_)
            refine y_iconst C (v := 1) d_X_judge_108 (by decide) ?_
            refine y_callV 1 C (q := (yR2, yT2, 9)) (ci := 2) (fun t out hh => c_H_passMinutes l w F u23 t (1 : Int32) out hh) gc_X_judge_135 rfl (by decide) hd_H_passMinutes ⟨Nat.le_of_ble_eq_true rfl, Nat.le_of_ble_eq_true rfl⟩ rfl rfl rfl rfl (by simp [y_cat, y_catI, y_catJ]) d_X_judge_109 h (fun v32 u33 h => ?_)
            refine y_stk (stp0 := []) rfl ?_
            refine y_iinc C (j := 4) (v := 1) (lvp := [(6, .int x20), (0, va_re w.1 a0), (3, va_re w.1 a3), (4, va_re w.1 a4)]) d_X_judge_112 rfl (by decide) (by decide) (by simp [List.filter, y_cat, y_catI, y_catJ]) h (fun x34 h => ?_)
            refine y_goto C (tgt := 60) d_X_judge_115 (by decide) ?_
            exact y_sub [2, 3, 4, 0] rfl (ih _ _ h)
          · refine y_iload C (i := 5) 4 d_X_judge_101 rfl ?_
            exact y_iret C hr hlocks d_X_judge_103 h
set_option maxRecDepth 100000 in
def f_X_judge (F : Nat) (u : Mm) (o : Nat) (a1 : Int32) (a2 : Int32) : Option (Int32 × Mm) := ob (jk YX 4 (some o)) fun t => yb (f_X_shelfAt F u t a2) fun r1 u2 => ob (jgr YX 4 0 (some o)) fun (r3 : Option Nat) => ob (jk YX 2 r3) fun t => yb (f_H_glassAt F u2 t a1) fun r4 u5 => (if r4 = none then some ((-1 : Int32), u5) else (if r1 = none then some ((-1 : Int32), u5) else ob (jgi YX 3 0 u5 r1) fun (x8 : Int32) => (if x8 = (2 : Int32) then ob (jgr YX 4 1 (some o)) fun (r10 : Option Nat) => ob (jgr YX 4 0 (some o)) fun (r11 : Option Nat) => ob (jk YX 2 r10) fun t => yb (f_H_become F u5 t r11) fun v12 u13 => ob (jgr YX 4 1 (some o)) fun (r14 : Option Nat) => ob (jk YX 2 r14) fun t => yb (f_H_glassAt F u13 t a1) fun r15 u16 => f_X_judge_L60 F (some o) r1 r15 (fun (u35 : Mm) => some ((-4 : Int32), u35)) F u16 (0 : Int32) else ob (jk YX 3 r1) fun t => yb (f_S_whyNot F u5 t ) fun x36 u37 => some (x36, u37))))
set_option maxHeartbeats 4000000 in
set_option maxRecDepth 100000 in
theorem c_X_judge (l : Launch) (w : WP) (F : Nat) (u : Mm) (o : Nat) (a1 : Int32) (a2 : Int32) (out : Int32 × Mm) (h : f_X_judge F u o a1 a2 = some out) : yMet l m_X_judge ws_X_judge ({ frames := 5, cells := 0, slots := 0, locals := 125 } : Room) YX w u [va_re w.1 (some o), .int a1, .int a2] yfi out := by
  refine y_entry (own := "WhoseGlass") (lv := [(0, va_re w.1 (some o)), (1, .int a1), (2, .int a2)]) (by decide +kernel) rfl (by simp [lv_args, y_cat, y_catI, y_catJ]) (by simp [lg_sl, y_cat, y_catI, y_catJ]) ?_
  intro p e s m args below meth c C hr hlocks
  unfold f_X_judge at h
  refine y_aload_n C (i := 0) 0 d_X_judge_0 rfl rfl ?_
  refine y_iload_n C (i := 2) 2 d_X_judge_1 rfl rfl ?_
  refine y_callV 1 C (q := (yR4, yT4, 5)) (ci := 4) (fun t out hh => c_X_shelfAt l w F u t a2 out hh) gc_X_judge_29 rfl (by decide) hd_X_shelfAt ⟨Nat.le_of_ble_eq_true rfl, Nat.le_of_ble_eq_true rfl⟩ rfl rfl rfl rfl (by simp [y_cat, y_catI, y_catJ]) d_X_judge_2 h (fun r1 u2 h => ?_)
  refine y_stk (stp0 := [va_re w.1 r1]) rfl ?_
  refine y_astore_n C (i := 3) (lvp := [(0, va_re w.1 (some o)), (1, .int a1), (2, .int a2)]) d_X_judge_5 rfl (by decide) (by simp [List.filter, y_cat, y_catI, y_catJ]) ?_
  refine y_aload_n C (i := 0) 1 d_X_judge_6 rfl rfl ?_
  refine y_gr C (q := (yR4, yT4, 5)) (ci := 4) (k := 0) rfl (by decide) rfl (by decide) g_202 d_X_judge_7 h (fun r3 h => ?_)
  refine y_iload_n C (i := 1) 2 d_X_judge_10 rfl rfl ?_
  refine y_callV 1 C (q := (yR2, yT2, 9)) (ci := 2) (fun t out hh => c_H_glassAt l w F u2 t a1 out hh) gc_X_judge_61 rfl (by decide) hd_H_glassAt ⟨Nat.le_of_ble_eq_true rfl, Nat.le_of_ble_eq_true rfl⟩ rfl rfl rfl rfl (by simp [y_cat, y_catI, y_catJ]) d_X_judge_11 h (fun r4 u5 h => ?_)
  refine y_stk (stp0 := [va_re w.1 r4]) rfl ?_
  refine y_ifnull C 21 d_X_judge_14 (by decide) h (fun k6 h => ?_) (fun k6 h => ?_)
  · refine y_iconst C (v := -1) d_X_judge_21 (by decide) ?_
    exact y_iret C hr hlocks d_X_judge_22 h
  · refine y_aload_n C (i := 3) 0 d_X_judge_17 rfl rfl ?_
    refine y_ifnonnull C 23 d_X_judge_18 (by decide) h (fun k7 h => ?_) (fun k7 h => ?_)
    · refine y_iconst C (v := -1) d_X_judge_21 (by decide) ?_
      exact y_iret C hr hlocks d_X_judge_22 h
    · refine y_aload_n C (i := 3) 0 d_X_judge_23 rfl rfl ?_
      refine y_gi C (q := (yR3, yT3, 6)) (ci := 3) (k := 0) rfl (by decide) rfl g_176 d_X_judge_24 h (fun x8 h => ?_)
      refine y_iconst C (v := 2) d_X_judge_27 (by decide) ?_
      refine y_ic_eq C 36 d_X_judge_28 (by decide) h (fun k9 h => ?_) (fun k9 h => ?_)
      · refine y_aload_n C (i := 0) 1 d_X_judge_36 rfl rfl ?_
        refine y_gr C (q := (yR4, yT4, 5)) (ci := 4) (k := 1) rfl (by decide) rfl (by decide) g_203 d_X_judge_37 h (fun r10 h => ?_)
        refine y_aload_n C (i := 0) 1 d_X_judge_40 rfl rfl ?_
        refine y_gr C (q := (yR4, yT4, 5)) (ci := 4) (k := 0) rfl (by decide) rfl (by decide) g_202 d_X_judge_41 h (fun r11 h => ?_)
        refine y_callV 1 C (q := (yR2, yT2, 9)) (ci := 2) (fun t out hh => c_H_become l w F u5 t r11 out hh) gc_X_judge_50 rfl (by decide) hd_H_become ⟨Nat.le_of_ble_eq_true rfl, Nat.le_of_ble_eq_true rfl⟩ rfl rfl rfl rfl (by simp [y_cat, y_catI, y_catJ]) d_X_judge_44 h (fun v12 u13 h => ?_)
        refine y_stk (stp0 := []) rfl ?_
        refine y_aload_n C (i := 0) 1 d_X_judge_47 rfl rfl ?_
        refine y_gr C (q := (yR4, yT4, 5)) (ci := 4) (k := 1) rfl (by decide) rfl (by decide) g_203 d_X_judge_48 h (fun r14 h => ?_)
        refine y_iload_n C (i := 1) 2 d_X_judge_51 rfl rfl ?_
        refine y_callV 1 C (q := (yR2, yT2, 9)) (ci := 2) (fun t out hh => c_H_glassAt l w F u13 t a1 out hh) gc_X_judge_61 rfl (by decide) hd_H_glassAt ⟨Nat.le_of_ble_eq_true rfl, Nat.le_of_ble_eq_true rfl⟩ rfl rfl rfl rfl (by simp [y_cat, y_catI, y_catJ]) d_X_judge_52 h (fun r15 u16 h => ?_)
        refine y_stk (stp0 := [va_re w.1 r15]) rfl ?_
        refine y_astore C (i := 4) (lvp := [(3, va_re w.1 r1), (0, va_re w.1 (some o)), (1, .int a1), (2, .int a2)]) d_X_judge_55 (by decide) (by simp [List.filter, y_cat, y_catI, y_catJ]) ?_
        refine y_iconst C (v := 0) d_X_judge_57 (by decide) ?_
        refine y_istore C (i := 5) (lvp := [(4, va_re w.1 r15), (3, va_re w.1 r1), (0, va_re w.1 (some o)), (1, .int a1), (2, .int a2)]) d_X_judge_58 (by decide) (by simp [List.filter, y_cat, y_catI, y_catJ]) ?_
        refine y_sub [3, 2, 1, 0] rfl (w_X_judge_L60 F C hr hlocks _ _ _ _ (fun u35 h => ?_) _ _ _ h)
        refine y_bipush C (v := -4) d_X_judge_118 (by decide) ?_
        exact y_iret C hr hlocks d_X_judge_120 h
      · refine y_aload_n C (i := 3) 0 d_X_judge_31 rfl rfl ?_
        refine y_callV 0 C (q := (yR3, yT3, 6)) (ci := 3) (fun t out hh => c_S_whyNot l w F u5 t out hh) gc_X_judge_40 rfl (by decide) hd_S_whyNot ⟨Nat.le_of_ble_eq_true rfl, Nat.le_of_ble_eq_true rfl⟩ rfl rfl rfl rfl (by simp [y_cat, y_catI, y_catJ]) d_X_judge_32 h (fun x36 u37 h => ?_)
        refine y_stk (stp0 := [.int x36]) rfl ?_
        exact y_iret C hr hlocks d_X_judge_35 h
/-! X_image -/
theorem d_X_image_0 : decode prog_1_method_31_code 0 = .ok (.aload_n 0, 1) := by decide +kernel
theorem d_X_image_1 : decode prog_1_method_31_code 1 = .ok (.getfield 19, 3) := by decide +kernel
theorem d_X_image_4 : decode prog_1_method_31_code 4 = .ok (.aload_n 0, 1) := by decide +kernel
theorem d_X_image_5 : decode prog_1_method_31_code 5 = .ok (.getfield 10, 3) := by decide +kernel
theorem d_X_image_8 : decode prog_1_method_31_code 8 = .ok (.invokevirtual 50, 3) := by decide +kernel
theorem d_X_image_11 : decode prog_1_method_31_code 11 = .ok (.aload_n 0, 1) := by decide +kernel
theorem d_X_image_12 : decode prog_1_method_31_code 12 = .ok (.iconst 1, 1) := by decide +kernel
theorem d_X_image_13 : decode prog_1_method_31_code 13 = .ok (.putfield 216, 3) := by decide +kernel
theorem d_X_image_16 : decode prog_1_method_31_code 16 = .ok (.aload_n 0, 1) := by decide +kernel
theorem d_X_image_17 : decode prog_1_method_31_code 17 = .ok (.getfield 10, 3) := by decide +kernel
theorem d_X_image_20 : decode prog_1_method_31_code 20 = .ok (.getfield 92, 3) := by decide +kernel
theorem d_X_image_23 : decode prog_1_method_31_code 23 = .ok (.ireturn, 1) := by decide +kernel
theorem gc_X_image_50 : GoodIn yGW (wsV "WhoseGlass" 50 yR2 m_H_become ws_H_become) := y_gV g_255 g_256 g_257 g_2 g_258
set_option maxRecDepth 100000 in
def f_X_image (F : Nat) (u : Mm) (o : Nat) : Option (Int32 × Mm) := ob (jgr YX 4 2 (some o)) fun (r1 : Option Nat) => ob (jgr YX 4 0 (some o)) fun (r2 : Option Nat) => ob (jk YX 2 r1) fun t => yb (f_H_become F u t r2) fun v3 u4 => ob (jpz YX 4 3 u4 (some o) (1 : Int32)) fun (u5 : Mm) => ob (jgr YX 4 0 (some o)) fun (r6 : Option Nat) => ob (jgi YX 2 5 u5 r6) fun (x7 : Int32) => some (x7, u5)
set_option maxHeartbeats 4000000 in
set_option maxRecDepth 100000 in
theorem c_X_image (l : Launch) (w : WP) (F : Nat) (u : Mm) (o : Nat) (out : Int32 × Mm) (h : f_X_image F u o = some out) : yMet l m_X_image ws_X_image ({ frames := 2, cells := 0, slots := 0, locals := 45 } : Room) YX w u [va_re w.1 (some o)] yfi out := by
  refine y_entry (own := "WhoseGlass") (lv := [(0, va_re w.1 (some o))]) (by decide +kernel) rfl (by simp [lv_args, y_cat, y_catI, y_catJ]) (by simp [lg_sl, y_cat, y_catI, y_catJ]) ?_
  intro p e s m args below meth c C hr hlocks
  unfold f_X_image at h
  refine y_aload_n C (i := 0) 0 d_X_image_0 rfl rfl ?_
  refine y_gr C (q := (yR4, yT4, 5)) (ci := 4) (k := 2) rfl (by decide) rfl (by decide) g_204 d_X_image_1 h (fun r1 h => ?_)
  refine y_aload_n C (i := 0) 0 d_X_image_4 rfl rfl ?_
  refine y_gr C (q := (yR4, yT4, 5)) (ci := 4) (k := 0) rfl (by decide) rfl (by decide) g_202 d_X_image_5 h (fun r2 h => ?_)
  refine y_callV 1 C (q := (yR2, yT2, 9)) (ci := 2) (fun t out hh => c_H_become l w F u t r2 out hh) gc_X_image_50 rfl (by decide) hd_H_become ⟨Nat.le_of_ble_eq_true rfl, Nat.le_of_ble_eq_true rfl⟩ rfl rfl rfl rfl (by simp [y_cat, y_catI, y_catJ]) d_X_image_8 h (fun v3 u4 h => ?_)
  refine y_stk (stp0 := []) rfl ?_
  refine y_aload_n C (i := 0) 0 d_X_image_11 rfl rfl ?_
  refine y_iconst C (v := 1) d_X_image_12 (by decide) ?_
  refine y_pz C (q := (yR4, yT4, 5)) (ci := 4) (k := 3) rfl (by decide) rfl rfl (by decide +kernel) g_205 d_X_image_13 h (fun u5 h => ?_)
  refine y_aload_n C (i := 0) 0 d_X_image_16 rfl rfl ?_
  refine y_gr C (q := (yR4, yT4, 5)) (ci := 4) (k := 0) rfl (by decide) rfl (by decide) g_202 d_X_image_17 h (fun r6 h => ?_)
  refine y_gi C (q := (yR2, yT2, 9)) (ci := 2) (k := 5) rfl (by decide) rfl g_142 d_X_image_20 h (fun x7 h => ?_)
  exact y_iret C hr hlocks d_X_image_23 h
/-! X_restore -/
theorem d_X_restore_0 : decode prog_1_method_32_code 0 = .ok (.aload_n 0, 1) := by decide +kernel
theorem d_X_restore_1 : decode prog_1_method_32_code 1 = .ok (.getfield 216, 3) := by decide +kernel
theorem d_X_restore_4 : decode prog_1_method_32_code 4 = .ok (.ifCond .ne 6, 3) := by decide +kernel
theorem d_X_restore_7 : decode prog_1_method_32_code 7 = .ok (.bipush (-3), 2) := by decide +kernel
theorem d_X_restore_9 : decode prog_1_method_32_code 9 = .ok (.ireturn, 1) := by decide +kernel
theorem d_X_restore_10 : decode prog_1_method_32_code 10 = .ok (.aload_n 0, 1) := by decide +kernel
theorem d_X_restore_11 : decode prog_1_method_32_code 11 = .ok (.getfield 10, 3) := by decide +kernel
theorem d_X_restore_14 : decode prog_1_method_32_code 14 = .ok (.aload_n 0, 1) := by decide +kernel
theorem d_X_restore_15 : decode prog_1_method_32_code 15 = .ok (.getfield 19, 3) := by decide +kernel
theorem d_X_restore_18 : decode prog_1_method_32_code 18 = .ok (.invokevirtual 50, 3) := by decide +kernel
theorem d_X_restore_21 : decode prog_1_method_32_code 21 = .ok (.aload_n 0, 1) := by decide +kernel
theorem d_X_restore_22 : decode prog_1_method_32_code 22 = .ok (.getfield 10, 3) := by decide +kernel
theorem d_X_restore_25 : decode prog_1_method_32_code 25 = .ok (.getfield 92, 3) := by decide +kernel
theorem d_X_restore_28 : decode prog_1_method_32_code 28 = .ok (.ireturn, 1) := by decide +kernel
theorem gc_X_restore_50 : GoodIn yGW (wsV "WhoseGlass" 50 yR2 m_H_become ws_H_become) := y_gV g_255 g_256 g_257 g_2 g_258
set_option maxRecDepth 100000 in
def f_X_restore (F : Nat) (u : Mm) (o : Nat) : Option (Int32 × Mm) := ob (jgi YX 4 3 u (some o)) fun (x1 : Int32) => (if x1 = 0 then some ((-3 : Int32), u) else ob (jgr YX 4 0 (some o)) fun (r3 : Option Nat) => ob (jgr YX 4 2 (some o)) fun (r4 : Option Nat) => ob (jk YX 2 r3) fun t => yb (f_H_become F u t r4) fun v5 u6 => ob (jgr YX 4 0 (some o)) fun (r7 : Option Nat) => ob (jgi YX 2 5 u6 r7) fun (x8 : Int32) => some (x8, u6))
set_option maxHeartbeats 4000000 in
set_option maxRecDepth 100000 in
theorem c_X_restore (l : Launch) (w : WP) (F : Nat) (u : Mm) (o : Nat) (out : Int32 × Mm) (h : f_X_restore F u o = some out) : yMet l m_X_restore ws_X_restore ({ frames := 2, cells := 0, slots := 0, locals := 45 } : Room) YX w u [va_re w.1 (some o)] yfi out := by
  refine y_entry (own := "WhoseGlass") (lv := [(0, va_re w.1 (some o))]) (by decide +kernel) rfl (by simp [lv_args, y_cat, y_catI, y_catJ]) (by simp [lg_sl, y_cat, y_catI, y_catJ]) ?_
  intro p e s m args below meth c C hr hlocks
  unfold f_X_restore at h
  refine y_aload_n C (i := 0) 0 d_X_restore_0 rfl rfl ?_
  refine y_gi C (q := (yR4, yT4, 5)) (ci := 4) (k := 3) rfl (by decide) rfl g_205 d_X_restore_1 h (fun x1 h => ?_)
  refine y_if_ne C 10 d_X_restore_4 (by decide) h (fun k2 h => ?_) (fun k2 h => ?_)
  · refine y_bipush C (v := -3) d_X_restore_7 (by decide) ?_
    exact y_iret C hr hlocks d_X_restore_9 h
  · refine y_aload_n C (i := 0) 0 d_X_restore_10 rfl rfl ?_
    refine y_gr C (q := (yR4, yT4, 5)) (ci := 4) (k := 0) rfl (by decide) rfl (by decide) g_202 d_X_restore_11 h (fun r3 h => ?_)
    refine y_aload_n C (i := 0) 0 d_X_restore_14 rfl rfl ?_
    refine y_gr C (q := (yR4, yT4, 5)) (ci := 4) (k := 2) rfl (by decide) rfl (by decide) g_204 d_X_restore_15 h (fun r4 h => ?_)
    refine y_callV 1 C (q := (yR2, yT2, 9)) (ci := 2) (fun t out hh => c_H_become l w F u t r4 out hh) gc_X_restore_50 rfl (by decide) hd_H_become ⟨Nat.le_of_ble_eq_true rfl, Nat.le_of_ble_eq_true rfl⟩ rfl rfl rfl rfl (by simp [y_cat, y_catI, y_catJ]) d_X_restore_18 h (fun v5 u6 h => ?_)
    refine y_stk (stp0 := []) rfl ?_
    refine y_aload_n C (i := 0) 0 d_X_restore_21 rfl rfl ?_
    refine y_gr C (q := (yR4, yT4, 5)) (ci := 4) (k := 0) rfl (by decide) rfl (by decide) g_202 d_X_restore_22 h (fun r7 h => ?_)
    refine y_gi C (q := (yR2, yT2, 9)) (ci := 2) (k := 5) rfl (by decide) rfl g_142 d_X_restore_25 h (fun x8 h => ?_)
    exact y_iret C hr hlocks d_X_restore_28 h
/-! H_allFills -/
theorem d_H_allFills_0 : decode prog_4_method_23_code 0 = .ok (.iconst 0, 1) := by decide +kernel
theorem d_H_allFills_1 : decode prog_4_method_23_code 1 = .ok (.istore_n 1, 1) := by decide +kernel
theorem d_H_allFills_2 : decode prog_4_method_23_code 2 = .ok (.iconst 0, 1) := by decide +kernel
theorem d_H_allFills_3 : decode prog_4_method_23_code 3 = .ok (.istore_n 2, 1) := by decide +kernel
theorem d_H_allFills_4 : decode prog_4_method_23_code 4 = .ok (.iload_n 2, 1) := by decide +kernel
theorem d_H_allFills_5 : decode prog_4_method_23_code 5 = .ok (.aload_n 0, 1) := by decide +kernel
theorem d_H_allFills_6 : decode prog_4_method_23_code 6 = .ok (.getfield 34, 3) := by decide +kernel
theorem d_H_allFills_9 : decode prog_4_method_23_code 9 = .ok (.if_icmp .ge 26, 3) := by decide +kernel
theorem d_H_allFills_12 : decode prog_4_method_23_code 12 = .ok (.aload_n 0, 1) := by decide +kernel
theorem d_H_allFills_13 : decode prog_4_method_23_code 13 = .ok (.iload_n 2, 1) := by decide +kernel
theorem d_H_allFills_14 : decode prog_4_method_23_code 14 = .ok (.invokevirtual 49, 3) := by decide +kernel
theorem d_H_allFills_17 : decode prog_4_method_23_code 17 = .ok (.astore_n 3, 1) := by decide +kernel
theorem d_H_allFills_18 : decode prog_4_method_23_code 18 = .ok (.aload_n 3, 1) := by decide +kernel
theorem d_H_allFills_19 : decode prog_4_method_23_code 19 = .ok (.ifnull 10, 3) := by decide +kernel
theorem d_H_allFills_22 : decode prog_4_method_23_code 22 = .ok (.iload_n 1, 1) := by decide +kernel
theorem d_H_allFills_23 : decode prog_4_method_23_code 23 = .ok (.aload_n 3, 1) := by decide +kernel
theorem d_H_allFills_24 : decode prog_4_method_23_code 24 = .ok (.getfield 98, 3) := by decide +kernel
theorem d_H_allFills_27 : decode prog_4_method_23_code 27 = .ok (.iadd, 1) := by decide +kernel
theorem d_H_allFills_28 : decode prog_4_method_23_code 28 = .ok (.istore_n 1, 1) := by decide +kernel
theorem d_H_allFills_29 : decode prog_4_method_23_code 29 = .ok (.iinc 2 1, 3) := by decide +kernel
theorem d_H_allFills_32 : decode prog_4_method_23_code 32 = .ok (.goto (-28), 3) := by decide +kernel
theorem d_H_allFills_35 : decode prog_4_method_23_code 35 = .ok (.iload_n 1, 1) := by decide +kernel
theorem d_H_allFills_36 : decode prog_4_method_23_code 36 = .ok (.ireturn, 1) := by decide +kernel
theorem gc_H_allFills_49 : GoodIn yGW (wsV "WhoseGlass$House" 49 yR2 m_H_glassAt ws_H_glassAt) := y_gV g_259 g_260 g_261 g_2 g_262
set_option maxHeartbeats 4000000 in
set_option maxRecDepth 100000 in
def f_H_allFills_L4 (F : Nat) (a0 : Option Nat) (k : Mm → Int32 → Option (Int32 × Mm)) : Nat → Mm → Int32 → Int32 → Option (Int32 × Mm)
  | 0, _, _, _ => none
  | n + 1, u, a1, a2 => ob (jgi YX 2 2 u a0) fun (x1 : Int32) => (if x1 ≤ a2 then k u a1 else ob (jk YX 2 a0) fun t => yb (f_H_glassAt F u t a2) fun r3 u4 => ob ((if r3 = none then some a1 else ob (jgi YX 0 3 u4 r3) fun (x7 : Int32) => ob (some (a1 + x7)) fun (x8 : Int32) => some x8) : Option (Int32)) fun q5 => ob (some (a2 + (1 : Int32))) fun (x9 : Int32) => f_H_allFills_L4 F a0 k n u4 q5 x9)
set_option maxHeartbeats 4000000 in
set_option maxRecDepth 100000 in
theorem w_H_allFills_L4 {p : Program} {l : Launch} {e : Env} {s : State} {m : MethodId} {args : Array Value} {below : List Frame} {meth : Method} {c : Code} {w : WP} {Q : State → Prop} (F : Nat) (C : yX p e ({ frames := 1, cells := 0, slots := 0, locals := 21 } : Room) s m args c YX w 4 prog_4_method_23_code "WhoseGlass$House") (hr : meth.sig.returnType = (some .int)) (hlocks : meth.locks = false) (a0 : Option Nat) {out : Int32 × Mm} (k : Mm → Int32 → Option (Int32 × Mm)) (hk : ∀ (u : Mm) (a1 : Int32), k u a1 = some out → yG p l e ({ frames := 1, cells := 0, slots := 0, locals := 21 } : Room) s m args below meth c YX w 4 Q u 35 [(1, .int a1)] []) : ∀ (n : Nat) (u : Mm) (a1 : Int32) (a2 : Int32), f_H_allFills_L4 F a0 k n u a1 a2 = some out → yG p l e ({ frames := 1, cells := 0, slots := 0, locals := 21 } : Room) s m args below meth c YX w 4 Q u 4 [(0, va_re w.1 a0), (1, .int a1), (2, .int a2)] [] := by
  intro n
  induction n with
  | zero => intro u a1 a2 h; rw [f_H_allFills_L4] at h; cases h
  | succ n ih =>
    intro u a1 a2 h
    rw [f_H_allFills_L4] at h
    refine y_iload_n C (i := 2) 2 d_H_allFills_4 rfl rfl ?_
    refine y_aload_n C (i := 0) 0 d_H_allFills_5 rfl rfl ?_
    refine y_gi C (q := (yR2, yT2, 9)) (ci := 2) (k := 2) rfl (by decide) rfl g_133 d_H_allFills_6 h (fun x1 h => ?_)
    refine y_ic_ge C 35 d_H_allFills_9 (by decide) h (fun k2 h => ?_) (fun k2 h => ?_)
    · exact y_sub [1] rfl (hk _ _ h)
    · refine y_aload_n C (i := 0) 0 d_H_allFills_12 rfl rfl ?_
      refine y_iload_n C (i := 2) 2 d_H_allFills_13 rfl rfl ?_
      refine y_callV 1 C (q := (yR2, yT2, 9)) (ci := 2) (fun t out hh => c_H_glassAt l w F u t a2 out hh) gc_H_allFills_49 rfl (by decide) hd_H_glassAt ⟨Nat.le_of_ble_eq_true rfl, Nat.le_of_ble_eq_true rfl⟩ rfl rfl rfl rfl (by simp [y_cat, y_catI, y_catJ]) d_H_allFills_14 h (fun r3 u4 h => ?_)
      refine y_stk (stp0 := [va_re w.1 r3]) rfl ?_
      refine y_astore_n C (i := 3) (lvp := [(0, va_re w.1 a0), (1, .int a1), (2, .int a2)]) d_H_allFills_17 rfl (by decide) (by simp [List.filter, y_cat, y_catI, y_catJ]) ?_
      refine y_aload_n C (i := 3) 0 d_H_allFills_18 rfl rfl ?_
      obtain ⟨q5, hq5, h⟩ := ob_e h
      have hJq5 : yG p l e ({ frames := 1, cells := 0, slots := 0, locals := 21 } : Room) s m args below meth c YX w 4 Q u4 29 [(0, va_re w.1 a0), (1, .int q5), (2, .int a2)] [] := by
        refine y_iinc C (j := 2) (v := 1) (lvp := [(0, va_re w.1 a0), (1, .int q5)]) d_H_allFills_29 rfl (by decide) (by decide) rfl h (fun x9 h => ?_)
        refine y_goto C (tgt := 4) d_H_allFills_32 (by decide) ?_
        exact y_sub [1, 2, 0] rfl (ih _ _ _ h)
      refine y_ifnull C 29 d_H_allFills_19 (by decide) hq5 (fun k6 hq5 => ?_) (fun k6 hq5 => ?_)
      · cases hq5
        exact y_sub [1, 2, 3] rfl hJq5
      · refine y_iload_n C (i := 1) 2 d_H_allFills_22 rfl rfl ?_
        refine y_aload_n C (i := 3) 0 d_H_allFills_23 rfl rfl ?_
        refine y_gi C (q := (yR0, yT0, 8)) (ci := 0) (k := 3) rfl (by decide) rfl g_49 d_H_allFills_24 hq5 (fun x7 hq5 => ?_)
        refine y_iadd C d_H_allFills_27 ?_
        refine y_istore_nB C (i := 1) (lvp := [(3, va_re w.1 r3), (0, va_re w.1 a0), (2, .int a2)]) d_H_allFills_28 rfl (by decide) (by simp [List.filter, y_cat, y_catI, y_catJ]) hq5 (fun x8 hq5 => ?_)
        cases hq5
        exact y_sub [2, 0, 3] rfl hJq5
set_option maxRecDepth 100000 in
def f_H_allFills (F : Nat) (u : Mm) (o : Nat) : Option (Int32 × Mm) := f_H_allFills_L4 F (some o) (fun (u10 : Mm) (x11 : Int32) => some (x11, u10)) F u (0 : Int32) (0 : Int32)
set_option maxHeartbeats 4000000 in
set_option maxRecDepth 100000 in
theorem c_H_allFills (l : Launch) (w : WP) (F : Nat) (u : Mm) (o : Nat) (out : Int32 × Mm) (h : f_H_allFills F u o = some out) : yMet l m_H_allFills ws_H_allFills ({ frames := 1, cells := 0, slots := 0, locals := 21 } : Room) YX w u [va_re w.1 (some o)] yfi out := by
  refine y_entry (own := "WhoseGlass$House") (lv := [(0, va_re w.1 (some o))]) (by decide +kernel) rfl (by simp [lv_args, y_cat, y_catI, y_catJ]) (by simp [lg_sl, y_cat, y_catI, y_catJ]) ?_
  intro p e s m args below meth c C hr hlocks
  unfold f_H_allFills at h
  refine y_iconst C (v := 0) d_H_allFills_0 (by decide) ?_
  refine y_istore_n C (i := 1) (lvp := [(0, va_re w.1 (some o))]) d_H_allFills_1 rfl (by decide) (by simp [List.filter, y_cat, y_catI, y_catJ]) ?_
  refine y_iconst C (v := 0) d_H_allFills_2 (by decide) ?_
  refine y_istore_n C (i := 2) (lvp := [(1, .int (0 : Int32)), (0, va_re w.1 (some o))]) d_H_allFills_3 rfl (by decide) rfl ?_
  refine y_sub [2, 1, 0] rfl (w_H_allFills_L4 F C hr hlocks _ _ (fun u10 x11 h => ?_) _ _ _ _ h)
  refine y_iload_n C (i := 1) 0 d_H_allFills_35 rfl rfl ?_
  exact y_iret C hr hlocks d_H_allFills_36 h
/-! H_countInSink -/
theorem d_H_countInSink_0 : decode prog_4_method_24_code 0 = .ok (.iconst 0, 1) := by decide +kernel
theorem d_H_countInSink_1 : decode prog_4_method_24_code 1 = .ok (.istore_n 1, 1) := by decide +kernel
theorem d_H_countInSink_2 : decode prog_4_method_24_code 2 = .ok (.iconst 0, 1) := by decide +kernel
theorem d_H_countInSink_3 : decode prog_4_method_24_code 3 = .ok (.istore_n 2, 1) := by decide +kernel
theorem d_H_countInSink_4 : decode prog_4_method_24_code 4 = .ok (.iload_n 2, 1) := by decide +kernel
theorem d_H_countInSink_5 : decode prog_4_method_24_code 5 = .ok (.aload_n 0, 1) := by decide +kernel
theorem d_H_countInSink_6 : decode prog_4_method_24_code 6 = .ok (.getfield 34, 3) := by decide +kernel
theorem d_H_countInSink_9 : decode prog_4_method_24_code 9 = .ok (.if_icmp .ge 31, 3) := by decide +kernel
theorem d_H_countInSink_12 : decode prog_4_method_24_code 12 = .ok (.aload_n 0, 1) := by decide +kernel
theorem d_H_countInSink_13 : decode prog_4_method_24_code 13 = .ok (.iload_n 2, 1) := by decide +kernel
theorem d_H_countInSink_14 : decode prog_4_method_24_code 14 = .ok (.invokevirtual 49, 3) := by decide +kernel
theorem d_H_countInSink_17 : decode prog_4_method_24_code 17 = .ok (.astore_n 3, 1) := by decide +kernel
theorem d_H_countInSink_18 : decode prog_4_method_24_code 18 = .ok (.aload_n 3, 1) := by decide +kernel
theorem d_H_countInSink_19 : decode prog_4_method_24_code 19 = .ok (.ifnull 15, 3) := by decide +kernel
theorem d_H_countInSink_22 : decode prog_4_method_24_code 22 = .ok (.aload_n 3, 1) := by decide +kernel
theorem d_H_countInSink_23 : decode prog_4_method_24_code 23 = .ok (.getfield 132, 3) := by decide +kernel
theorem d_H_countInSink_26 : decode prog_4_method_24_code 26 = .ok (.bipush 20, 2) := by decide +kernel
theorem d_H_countInSink_28 : decode prog_4_method_24_code 28 = .ok (.if_icmp .ne 6, 3) := by decide +kernel
theorem d_H_countInSink_31 : decode prog_4_method_24_code 31 = .ok (.iinc 1 1, 3) := by decide +kernel
theorem d_H_countInSink_34 : decode prog_4_method_24_code 34 = .ok (.iinc 2 1, 3) := by decide +kernel
theorem d_H_countInSink_37 : decode prog_4_method_24_code 37 = .ok (.goto (-33), 3) := by decide +kernel
theorem d_H_countInSink_40 : decode prog_4_method_24_code 40 = .ok (.iload_n 1, 1) := by decide +kernel
theorem d_H_countInSink_41 : decode prog_4_method_24_code 41 = .ok (.ireturn, 1) := by decide +kernel
theorem gc_H_countInSink_49 : GoodIn yGW (wsV "WhoseGlass$House" 49 yR2 m_H_glassAt ws_H_glassAt) := y_gV g_259 g_260 g_261 g_2 g_262
set_option maxHeartbeats 4000000 in
set_option maxRecDepth 100000 in
def f_H_countInSink_L4 (F : Nat) (a0 : Option Nat) (k : Mm → Int32 → Option (Int32 × Mm)) : Nat → Mm → Int32 → Int32 → Option (Int32 × Mm)
  | 0, _, _, _ => none
  | n + 1, u, a1, a2 => ob (jgi YX 2 2 u a0) fun (x1 : Int32) => (if x1 ≤ a2 then k u a1 else ob (jk YX 2 a0) fun t => yb (f_H_glassAt F u t a2) fun r3 u4 => ob ((if r3 = none then some a1 else ob (jgi YX 0 4 u4 r3) fun (x7 : Int32) => (if x7 = (20 : Int32) then ob (some (a1 + (1 : Int32))) fun (x9 : Int32) => some x9 else some a1)) : Option (Int32)) fun q5 => ob (some (a2 + (1 : Int32))) fun (x10 : Int32) => f_H_countInSink_L4 F a0 k n u4 q5 x10)
set_option maxHeartbeats 4000000 in
set_option maxRecDepth 100000 in
theorem w_H_countInSink_L4 {p : Program} {l : Launch} {e : Env} {s : State} {m : MethodId} {args : Array Value} {below : List Frame} {meth : Method} {c : Code} {w : WP} {Q : State → Prop} (F : Nat) (C : yX p e ({ frames := 1, cells := 0, slots := 0, locals := 21 } : Room) s m args c YX w 4 prog_4_method_24_code "WhoseGlass$House") (hr : meth.sig.returnType = (some .int)) (hlocks : meth.locks = false) (a0 : Option Nat) {out : Int32 × Mm} (k : Mm → Int32 → Option (Int32 × Mm)) (hk : ∀ (u : Mm) (a1 : Int32), k u a1 = some out → yG p l e ({ frames := 1, cells := 0, slots := 0, locals := 21 } : Room) s m args below meth c YX w 4 Q u 40 [(1, .int a1)] []) : ∀ (n : Nat) (u : Mm) (a1 : Int32) (a2 : Int32), f_H_countInSink_L4 F a0 k n u a1 a2 = some out → yG p l e ({ frames := 1, cells := 0, slots := 0, locals := 21 } : Room) s m args below meth c YX w 4 Q u 4 [(0, va_re w.1 a0), (1, .int a1), (2, .int a2)] [] := by
  intro n
  induction n with
  | zero => intro u a1 a2 h; rw [f_H_countInSink_L4] at h; cases h
  | succ n ih =>
    intro u a1 a2 h
    rw [f_H_countInSink_L4] at h
    refine y_iload_n C (i := 2) 2 d_H_countInSink_4 rfl rfl ?_
    refine y_aload_n C (i := 0) 0 d_H_countInSink_5 rfl rfl ?_
    refine y_gi C (q := (yR2, yT2, 9)) (ci := 2) (k := 2) rfl (by decide) rfl g_133 d_H_countInSink_6 h (fun x1 h => ?_)
    refine y_ic_ge C 40 d_H_countInSink_9 (by decide) h (fun k2 h => ?_) (fun k2 h => ?_)
    · exact y_sub [1] rfl (hk _ _ h)
    · refine y_aload_n C (i := 0) 0 d_H_countInSink_12 rfl rfl ?_
      refine y_iload_n C (i := 2) 2 d_H_countInSink_13 rfl rfl ?_
      refine y_callV 1 C (q := (yR2, yT2, 9)) (ci := 2) (fun t out hh => c_H_glassAt l w F u t a2 out hh) gc_H_countInSink_49 rfl (by decide) hd_H_glassAt ⟨Nat.le_of_ble_eq_true rfl, Nat.le_of_ble_eq_true rfl⟩ rfl rfl rfl rfl (by simp [y_cat, y_catI, y_catJ]) d_H_countInSink_14 h (fun r3 u4 h => ?_)
      refine y_stk (stp0 := [va_re w.1 r3]) rfl ?_
      refine y_astore_n C (i := 3) (lvp := [(0, va_re w.1 a0), (1, .int a1), (2, .int a2)]) d_H_countInSink_17 rfl (by decide) (by simp [List.filter, y_cat, y_catI, y_catJ]) ?_
      refine y_aload_n C (i := 3) 0 d_H_countInSink_18 rfl rfl ?_
      obtain ⟨q5, hq5, h⟩ := ob_e h
      have hJq5 : yG p l e ({ frames := 1, cells := 0, slots := 0, locals := 21 } : Room) s m args below meth c YX w 4 Q u4 34 [(0, va_re w.1 a0), (1, .int q5), (2, .int a2)] [] := by
        refine y_iinc C (j := 2) (v := 1) (lvp := [(0, va_re w.1 a0), (1, .int q5)]) d_H_countInSink_34 rfl (by decide) (by decide) rfl h (fun x10 h => ?_)
        refine y_goto C (tgt := 4) d_H_countInSink_37 (by decide) ?_
        exact y_sub [1, 2, 0] rfl (ih _ _ _ h)
      refine y_ifnull C 34 d_H_countInSink_19 (by decide) hq5 (fun k6 hq5 => ?_) (fun k6 hq5 => ?_)
      · cases hq5
        exact y_sub [1, 2, 3] rfl hJq5
      · refine y_aload_n C (i := 3) 0 d_H_countInSink_22 rfl rfl ?_
        refine y_gi C (q := (yR0, yT0, 8)) (ci := 0) (k := 4) rfl (by decide) rfl g_53 d_H_countInSink_23 hq5 (fun x7 hq5 => ?_)
        refine y_bipush C (v := 20) d_H_countInSink_26 (by decide) ?_
        refine y_ic_ne C 34 d_H_countInSink_28 (by decide) hq5 (fun k8 hq5 => ?_) (fun k8 hq5 => ?_)
        · refine y_iinc C (j := 2) (v := 1) (lvp := [(3, va_re w.1 r3), (0, va_re w.1 a0), (2, .int a2)]) d_H_countInSink_31 rfl (by decide) (by decide) (by simp [List.filter, y_cat, y_catI, y_catJ]) hq5 (fun x9 hq5 => ?_)
          cases hq5
          exact y_sub [2, 0, 3] rfl hJq5
        · cases hq5
          exact y_sub [1, 2, 3] rfl hJq5
set_option maxRecDepth 100000 in
def f_H_countInSink (F : Nat) (u : Mm) (o : Nat) : Option (Int32 × Mm) := f_H_countInSink_L4 F (some o) (fun (u11 : Mm) (x12 : Int32) => some (x12, u11)) F u (0 : Int32) (0 : Int32)
set_option maxHeartbeats 4000000 in
set_option maxRecDepth 100000 in
theorem c_H_countInSink (l : Launch) (w : WP) (F : Nat) (u : Mm) (o : Nat) (out : Int32 × Mm) (h : f_H_countInSink F u o = some out) : yMet l m_H_countInSink ws_H_countInSink ({ frames := 1, cells := 0, slots := 0, locals := 21 } : Room) YX w u [va_re w.1 (some o)] yfi out := by
  refine y_entry (own := "WhoseGlass$House") (lv := [(0, va_re w.1 (some o))]) (by decide +kernel) rfl (by simp [lv_args, y_cat, y_catI, y_catJ]) (by simp [lg_sl, y_cat, y_catI, y_catJ]) ?_
  intro p e s m args below meth c C hr hlocks
  unfold f_H_countInSink at h
  refine y_iconst C (v := 0) d_H_countInSink_0 (by decide) ?_
  refine y_istore_n C (i := 1) (lvp := [(0, va_re w.1 (some o))]) d_H_countInSink_1 rfl (by decide) (by simp [List.filter, y_cat, y_catI, y_catJ]) ?_
  refine y_iconst C (v := 0) d_H_countInSink_2 (by decide) ?_
  refine y_istore_n C (i := 2) (lvp := [(1, .int (0 : Int32)), (0, va_re w.1 (some o))]) d_H_countInSink_3 rfl (by decide) rfl ?_
  refine y_sub [2, 1, 0] rfl (w_H_countInSink_L4 F C hr hlocks _ _ (fun u11 x12 h => ?_) _ _ _ _ h)
  refine y_iload_n C (i := 1) 0 d_H_countInSink_40 rfl rfl ?_
  exact y_iret C hr hlocks d_H_countInSink_41 h
/-! X_count -/
theorem d_X_count_0 : decode prog_1_method_33_code 0 = .ok (.iload_n 1, 1) := by decide +kernel
theorem d_X_count_1 : decode prog_1_method_33_code 1 = .ok (.tableswitch 99 0 6 #[43, 51, 59, 67, 75, 83, 91], 43) := by decide +kernel
theorem d_X_count_44 : decode prog_1_method_33_code 44 = .ok (.aload_n 0, 1) := by decide +kernel
theorem d_X_count_45 : decode prog_1_method_33_code 45 = .ok (.getfield 10, 3) := by decide +kernel
theorem d_X_count_48 : decode prog_1_method_33_code 48 = .ok (.getfield 123, 3) := by decide +kernel
theorem d_X_count_51 : decode prog_1_method_33_code 51 = .ok (.ireturn, 1) := by decide +kernel
theorem d_X_count_52 : decode prog_1_method_33_code 52 = .ok (.aload_n 0, 1) := by decide +kernel
theorem d_X_count_53 : decode prog_1_method_33_code 53 = .ok (.getfield 10, 3) := by decide +kernel
theorem d_X_count_56 : decode prog_1_method_33_code 56 = .ok (.getfield 182, 3) := by decide +kernel
theorem d_X_count_59 : decode prog_1_method_33_code 59 = .ok (.ireturn, 1) := by decide +kernel
theorem d_X_count_60 : decode prog_1_method_33_code 60 = .ok (.aload_n 0, 1) := by decide +kernel
theorem d_X_count_61 : decode prog_1_method_33_code 61 = .ok (.getfield 10, 3) := by decide +kernel
theorem d_X_count_64 : decode prog_1_method_33_code 64 = .ok (.getfield 220, 3) := by decide +kernel
theorem d_X_count_67 : decode prog_1_method_33_code 67 = .ok (.ireturn, 1) := by decide +kernel
theorem d_X_count_68 : decode prog_1_method_33_code 68 = .ok (.aload_n 0, 1) := by decide +kernel
theorem d_X_count_69 : decode prog_1_method_33_code 69 = .ok (.getfield 10, 3) := by decide +kernel
theorem d_X_count_72 : decode prog_1_method_33_code 72 = .ok (.getfield 92, 3) := by decide +kernel
theorem d_X_count_75 : decode prog_1_method_33_code 75 = .ok (.ireturn, 1) := by decide +kernel
theorem d_X_count_76 : decode prog_1_method_33_code 76 = .ok (.aload_n 0, 1) := by decide +kernel
theorem d_X_count_77 : decode prog_1_method_33_code 77 = .ok (.getfield 10, 3) := by decide +kernel
theorem d_X_count_80 : decode prog_1_method_33_code 80 = .ok (.invokevirtual 223, 3) := by decide +kernel
theorem d_X_count_83 : decode prog_1_method_33_code 83 = .ok (.ireturn, 1) := by decide +kernel
theorem d_X_count_84 : decode prog_1_method_33_code 84 = .ok (.aload_n 0, 1) := by decide +kernel
theorem d_X_count_85 : decode prog_1_method_33_code 85 = .ok (.getfield 10, 3) := by decide +kernel
theorem d_X_count_88 : decode prog_1_method_33_code 88 = .ok (.invokevirtual 176, 3) := by decide +kernel
theorem d_X_count_91 : decode prog_1_method_33_code 91 = .ok (.ireturn, 1) := by decide +kernel
theorem d_X_count_92 : decode prog_1_method_33_code 92 = .ok (.aload_n 0, 1) := by decide +kernel
theorem d_X_count_93 : decode prog_1_method_33_code 93 = .ok (.getfield 10, 3) := by decide +kernel
theorem d_X_count_96 : decode prog_1_method_33_code 96 = .ok (.invokevirtual 226, 3) := by decide +kernel
theorem d_X_count_99 : decode prog_1_method_33_code 99 = .ok (.ireturn, 1) := by decide +kernel
theorem d_X_count_100 : decode prog_1_method_33_code 100 = .ok (.iconst (-1), 1) := by decide +kernel
theorem d_X_count_101 : decode prog_1_method_33_code 101 = .ok (.ireturn, 1) := by decide +kernel
theorem gc_X_count_223 : GoodIn yGW (wsV "WhoseGlass" 223 yR2 m_H_allFills ws_H_allFills) := y_gV g_603 g_604 g_605 g_2 g_606
theorem gc_X_count_176 : GoodIn yGW (wsV "WhoseGlass" 176 yR2 m_H_coldBits ws_H_coldBits) := y_gV g_502 g_503 g_504 g_2 g_505
theorem gc_X_count_226 : GoodIn yGW (wsV "WhoseGlass" 226 yR2 m_H_countInSink ws_H_countInSink) := y_gV g_607 g_608 g_609 g_2 g_610
set_option maxRecDepth 100000 in
def f_X_count (F : Nat) (u : Mm) (o : Nat) (a1 : Int32) : Option (Int32 × Mm) := (if a1 = (0 : Int32) then ob (jgr YX 4 0 (some o)) fun (r2 : Option Nat) => ob (jgi YX 2 2 u r2) fun (x3 : Int32) => some (x3, u) else (if a1 = (1 : Int32) then ob (jgr YX 4 0 (some o)) fun (r5 : Option Nat) => ob (jgi YX 2 3 u r5) fun (x6 : Int32) => some (x6, u) else (if a1 = (2 : Int32) then ob (jgr YX 4 0 (some o)) fun (r8 : Option Nat) => ob (jgi YX 2 4 u r8) fun (x9 : Int32) => some (x9, u) else (if a1 = (3 : Int32) then ob (jgr YX 4 0 (some o)) fun (r11 : Option Nat) => ob (jgi YX 2 5 u r11) fun (x12 : Int32) => some (x12, u) else (if a1 = (4 : Int32) then ob (jgr YX 4 0 (some o)) fun (r14 : Option Nat) => ob (jk YX 2 r14) fun t => yb (f_H_allFills F u t ) fun x15 u16 => some (x15, u16) else (if a1 = (5 : Int32) then ob (jgr YX 4 0 (some o)) fun (r18 : Option Nat) => ob (jk YX 2 r18) fun t => yb (f_H_coldBits F u t ) fun x19 u20 => some (x19, u20) else (if a1 = (6 : Int32) then ob (jgr YX 4 0 (some o)) fun (r22 : Option Nat) => ob (jk YX 2 r22) fun t => yb (f_H_countInSink F u t ) fun x23 u24 => some (x23, u24) else some ((-1 : Int32), u))))))))
set_option maxHeartbeats 4000000 in
set_option maxRecDepth 100000 in
theorem c_X_count (l : Launch) (w : WP) (F : Nat) (u : Mm) (o : Nat) (a1 : Int32) (out : Int32 × Mm) (h : f_X_count F u o a1 = some out) : yMet l m_X_count ws_X_count ({ frames := 2, cells := 0, slots := 0, locals := 44 } : Room) YX w u [va_re w.1 (some o), .int a1] yfi out := by
  refine y_entry (own := "WhoseGlass") (lv := [(0, va_re w.1 (some o)), (1, .int a1)]) (by decide +kernel) rfl (by simp [lv_args, y_cat, y_catI, y_catJ]) (by simp [lg_sl, y_cat, y_catI, y_catJ]) ?_
  intro p e s m args below meth c C hr hlocks
  unfold f_X_count at h
  refine y_iload_n C (i := 1) 1 d_X_count_0 rfl rfl ?_
  refine y_sp h (fun k1 h => ?_) (fun k1 h => ?_)
  · refine y_tsw C (off := 43) 44 d_X_count_1 (Or.inr ⟨by rw [k1]; decide, by rw [k1]; decide, by rw [k1]; rfl⟩) (by decide) ?_
    refine y_aload_n C (i := 0) 0 d_X_count_44 rfl rfl ?_
    refine y_gr C (q := (yR4, yT4, 5)) (ci := 4) (k := 0) rfl (by decide) rfl (by decide) g_202 d_X_count_45 h (fun r2 h => ?_)
    refine y_gi C (q := (yR2, yT2, 9)) (ci := 2) (k := 2) rfl (by decide) rfl g_134 d_X_count_48 h (fun x3 h => ?_)
    exact y_iret C hr hlocks d_X_count_51 h
  refine y_sp h (fun k4 h => ?_) (fun k4 h => ?_)
  · refine y_tsw C (off := 51) 52 d_X_count_1 (Or.inr ⟨by rw [k4]; decide, by rw [k4]; decide, by rw [k4]; rfl⟩) (by decide) ?_
    refine y_aload_n C (i := 0) 0 d_X_count_52 rfl rfl ?_
    refine y_gr C (q := (yR4, yT4, 5)) (ci := 4) (k := 0) rfl (by decide) rfl (by decide) g_202 d_X_count_53 h (fun r5 h => ?_)
    refine y_gi C (q := (yR2, yT2, 9)) (ci := 2) (k := 3) rfl (by decide) rfl g_136 d_X_count_56 h (fun x6 h => ?_)
    exact y_iret C hr hlocks d_X_count_59 h
  refine y_sp h (fun k7 h => ?_) (fun k7 h => ?_)
  · refine y_tsw C (off := 59) 60 d_X_count_1 (Or.inr ⟨by rw [k7]; decide, by rw [k7]; decide, by rw [k7]; rfl⟩) (by decide) ?_
    refine y_aload_n C (i := 0) 0 d_X_count_60 rfl rfl ?_
    refine y_gr C (q := (yR4, yT4, 5)) (ci := 4) (k := 0) rfl (by decide) rfl (by decide) g_202 d_X_count_61 h (fun r8 h => ?_)
    refine y_gi C (q := (yR2, yT2, 9)) (ci := 2) (k := 4) rfl (by decide) rfl g_139 d_X_count_64 h (fun x9 h => ?_)
    exact y_iret C hr hlocks d_X_count_67 h
  refine y_sp h (fun k10 h => ?_) (fun k10 h => ?_)
  · refine y_tsw C (off := 67) 68 d_X_count_1 (Or.inr ⟨by rw [k10]; decide, by rw [k10]; decide, by rw [k10]; rfl⟩) (by decide) ?_
    refine y_aload_n C (i := 0) 0 d_X_count_68 rfl rfl ?_
    refine y_gr C (q := (yR4, yT4, 5)) (ci := 4) (k := 0) rfl (by decide) rfl (by decide) g_202 d_X_count_69 h (fun r11 h => ?_)
    refine y_gi C (q := (yR2, yT2, 9)) (ci := 2) (k := 5) rfl (by decide) rfl g_142 d_X_count_72 h (fun x12 h => ?_)
    exact y_iret C hr hlocks d_X_count_75 h
  refine y_sp h (fun k13 h => ?_) (fun k13 h => ?_)
  · refine y_tsw C (off := 75) 76 d_X_count_1 (Or.inr ⟨by rw [k13]; decide, by rw [k13]; decide, by rw [k13]; rfl⟩) (by decide) ?_
    refine y_aload_n C (i := 0) 0 d_X_count_76 rfl rfl ?_
    refine y_gr C (q := (yR4, yT4, 5)) (ci := 4) (k := 0) rfl (by decide) rfl (by decide) g_202 d_X_count_77 h (fun r14 h => ?_)
    refine y_callV 0 C (q := (yR2, yT2, 9)) (ci := 2) (fun t out hh => c_H_allFills l w F u t out hh) gc_X_count_223 rfl (by decide) hd_H_allFills ⟨Nat.le_of_ble_eq_true rfl, Nat.le_of_ble_eq_true rfl⟩ rfl rfl rfl rfl (by simp [y_cat, y_catI, y_catJ]) d_X_count_80 h (fun x15 u16 h => ?_)
    refine y_stk (stp0 := [.int x15]) rfl ?_
    exact y_iret C hr hlocks d_X_count_83 h
  refine y_sp h (fun k17 h => ?_) (fun k17 h => ?_)
  · refine y_tsw C (off := 83) 84 d_X_count_1 (Or.inr ⟨by rw [k17]; decide, by rw [k17]; decide, by rw [k17]; rfl⟩) (by decide) ?_
    refine y_aload_n C (i := 0) 0 d_X_count_84 rfl rfl ?_
    refine y_gr C (q := (yR4, yT4, 5)) (ci := 4) (k := 0) rfl (by decide) rfl (by decide) g_202 d_X_count_85 h (fun r18 h => ?_)
    refine y_callV 0 C (q := (yR2, yT2, 9)) (ci := 2) (fun t out hh => c_H_coldBits l w F u t out hh) gc_X_count_176 rfl (by decide) hd_H_coldBits ⟨Nat.le_of_ble_eq_true rfl, Nat.le_of_ble_eq_true rfl⟩ rfl rfl rfl rfl (by simp [y_cat, y_catI, y_catJ]) d_X_count_88 h (fun x19 u20 h => ?_)
    refine y_stk (stp0 := [.int x19]) rfl ?_
    exact y_iret C hr hlocks d_X_count_91 h
  refine y_sp h (fun k21 h => ?_) (fun k21 h => ?_)
  · refine y_tsw C (off := 91) 92 d_X_count_1 (Or.inr ⟨by rw [k21]; decide, by rw [k21]; decide, by rw [k21]; rfl⟩) (by decide) ?_
    refine y_aload_n C (i := 0) 0 d_X_count_92 rfl rfl ?_
    refine y_gr C (q := (yR4, yT4, 5)) (ci := 4) (k := 0) rfl (by decide) rfl (by decide) g_202 d_X_count_93 h (fun r22 h => ?_)
    refine y_callV 0 C (q := (yR2, yT2, 9)) (ci := 2) (fun t out hh => c_H_countInSink l w F u t out hh) gc_X_count_226 rfl (by decide) hd_H_countInSink ⟨Nat.le_of_ble_eq_true rfl, Nat.le_of_ble_eq_true rfl⟩ rfl rfl rfl rfl (by simp [y_cat, y_catI, y_catJ]) d_X_count_96 h (fun x23 u24 h => ?_)
    refine y_stk (stp0 := [.int x23]) rfl ?_
    exact y_iret C hr hlocks d_X_count_99 h
  refine y_tsw C (off := 99) 100 d_X_count_1 (Or.inl ⟨by have ak1 := lv_neT (a := 0) k1 rfl; have ak4 := lv_neT (a := 1) k4 rfl; have ak7 := lv_neT (a := 2) k7 rfl; have ak10 := lv_neT (a := 3) k10 rfl; have ak13 := lv_neT (a := 4) k13 rfl; have ak17 := lv_neT (a := 5) k17 rfl; have ak21 := lv_neT (a := 6) k21 rfl; omega, rfl⟩) (by decide) ?_
  refine y_iconst C (v := -1) d_X_count_100 (by decide) ?_
  exact y_iret C hr hlocks d_X_count_101 h
/-! X_keep -/
theorem d_X_keep_0 : decode prog_1_method_34_code 0 = .ok (.aload_n 0, 1) := by decide +kernel
theorem d_X_keep_1 : decode prog_1_method_34_code 1 = .ok (.iload_n 1, 1) := by decide +kernel
theorem d_X_keep_2 : decode prog_1_method_34_code 2 = .ok (.invokevirtual 29, 3) := by decide +kernel
theorem d_X_keep_5 : decode prog_1_method_34_code 5 = .ok (.astore 5, 2) := by decide +kernel
theorem d_X_keep_7 : decode prog_1_method_34_code 7 = .ok (.aload 5, 2) := by decide +kernel
theorem d_X_keep_9 : decode prog_1_method_34_code 9 = .ok (.ifnonnull 5, 3) := by decide +kernel
theorem d_X_keep_12 : decode prog_1_method_34_code 12 = .ok (.iconst (-1), 1) := by decide +kernel
theorem d_X_keep_13 : decode prog_1_method_34_code 13 = .ok (.ireturn, 1) := by decide +kernel
theorem d_X_keep_14 : decode prog_1_method_34_code 14 = .ok (.iload_n 2, 1) := by decide +kernel
theorem d_X_keep_15 : decode prog_1_method_34_code 15 = .ok (.ifCond .ne 11, 3) := by decide +kernel
theorem d_X_keep_18 : decode prog_1_method_34_code 18 = .ok (.aload 5, 2) := by decide +kernel
theorem d_X_keep_20 : decode prog_1_method_34_code 20 = .ok (.iconst 0, 1) := by decide +kernel
theorem d_X_keep_21 : decode prog_1_method_34_code 21 = .ok (.putfield 33, 3) := by decide +kernel
theorem d_X_keep_24 : decode prog_1_method_34_code 24 = .ok (.iconst 0, 1) := by decide +kernel
theorem d_X_keep_25 : decode prog_1_method_34_code 25 = .ok (.ireturn, 1) := by decide +kernel
theorem d_X_keep_26 : decode prog_1_method_34_code 26 = .ok (.iload_n 2, 1) := by decide +kernel
theorem d_X_keep_27 : decode prog_1_method_34_code 27 = .ok (.iconst 1, 1) := by decide +kernel
theorem d_X_keep_28 : decode prog_1_method_34_code 28 = .ok (.if_icmp .ne 24, 3) := by decide +kernel
theorem d_X_keep_31 : decode prog_1_method_34_code 31 = .ok (.iload_n 3, 1) := by decide +kernel
theorem d_X_keep_32 : decode prog_1_method_34_code 32 = .ok (.bipush 8, 2) := by decide +kernel
theorem d_X_keep_34 : decode prog_1_method_34_code 34 = .ok (.invokestatic 78, 3) := by decide +kernel
theorem d_X_keep_37 : decode prog_1_method_34_code 37 = .ok (.ifCond .eq 15, 3) := by decide +kernel
theorem d_X_keep_40 : decode prog_1_method_34_code 40 = .ok (.iload 4, 2) := by decide +kernel
theorem d_X_keep_42 : decode prog_1_method_34_code 42 = .ok (.ifCond .lt 10, 3) := by decide +kernel
theorem d_X_keep_45 : decode prog_1_method_34_code 45 = .ok (.iload 4, 2) := by decide +kernel
theorem d_X_keep_47 : decode prog_1_method_34_code 47 = .ok (.bipush 9, 2) := by decide +kernel
theorem d_X_keep_49 : decode prog_1_method_34_code 49 = .ok (.if_icmp .le 5, 3) := by decide +kernel
theorem d_X_keep_52 : decode prog_1_method_34_code 52 = .ok (.iconst (-1), 1) := by decide +kernel
theorem d_X_keep_53 : decode prog_1_method_34_code 53 = .ok (.ireturn, 1) := by decide +kernel
theorem d_X_keep_54 : decode prog_1_method_34_code 54 = .ok (.aload 5, 2) := by decide +kernel
theorem d_X_keep_56 : decode prog_1_method_34_code 56 = .ok (.iconst 1, 1) := by decide +kernel
theorem d_X_keep_57 : decode prog_1_method_34_code 57 = .ok (.putfield 33, 3) := by decide +kernel
theorem d_X_keep_60 : decode prog_1_method_34_code 60 = .ok (.aload 5, 2) := by decide +kernel
theorem d_X_keep_62 : decode prog_1_method_34_code 62 = .ok (.iload_n 3, 1) := by decide +kernel
theorem d_X_keep_63 : decode prog_1_method_34_code 63 = .ok (.putfield 82, 3) := by decide +kernel
theorem d_X_keep_66 : decode prog_1_method_34_code 66 = .ok (.aload 5, 2) := by decide +kernel
theorem d_X_keep_68 : decode prog_1_method_34_code 68 = .ok (.iload 4, 2) := by decide +kernel
theorem d_X_keep_70 : decode prog_1_method_34_code 70 = .ok (.putfield 85, 3) := by decide +kernel
theorem d_X_keep_73 : decode prog_1_method_34_code 73 = .ok (.iconst 0, 1) := by decide +kernel
theorem d_X_keep_74 : decode prog_1_method_34_code 74 = .ok (.ireturn, 1) := by decide +kernel
theorem gc_X_keep_29 : GoodIn yGW (wsV "WhoseGlass" 29 yR4 m_X_shelfAt ws_X_shelfAt) := y_gV g_222 g_224 gs_0 g_1 g_225
set_option maxRecDepth 100000 in
def f_X_keep (F : Nat) (u : Mm) (o : Nat) (a1 : Int32) (a2 : Int32) (a3 : Int32) (a4 : Int32) : Option (Int32 × Mm) := ob (jk YX 4 (some o)) fun t => yb (f_X_shelfAt F u t a1) fun r1 u2 => (if r1 = none then some ((-1 : Int32), u2) else (if a2 = 0 then ob (jpi YX 3 0 u2 r1 (0 : Int32)) fun (u5 : Mm) => some ((0 : Int32), u5) else (if a2 = (1 : Int32) then yb (f_X_isBelow F u2 a3 (8 : Int32)) fun x7 u8 => (if x7 = 0 then some ((-1 : Int32), u8) else (if a4 < 0 then some ((-1 : Int32), u8) else (if a4 ≤ (9 : Int32) then ob (jpi YX 3 0 u8 r1 (1 : Int32)) fun (u12 : Mm) => ob (jpi YX 3 1 u12 r1 a3) fun (u13 : Mm) => ob (jpi YX 3 2 u13 r1 a4) fun (u14 : Mm) => some ((0 : Int32), u14) else some ((-1 : Int32), u8)))) else some ((-1 : Int32), u2))))
set_option maxHeartbeats 4000000 in
set_option maxRecDepth 100000 in
theorem c_X_keep (l : Launch) (w : WP) (F : Nat) (u : Mm) (o : Nat) (a1 : Int32) (a2 : Int32) (a3 : Int32) (a4 : Int32) (out : Int32 × Mm) (h : f_X_keep F u o a1 a2 a3 a4 = some out) : yMet l m_X_keep ws_X_keep ({ frames := 1, cells := 0, slots := 0, locals := 21 } : Room) YX w u [va_re w.1 (some o), .int a1, .int a2, .int a3, .int a4] yfi out := by
  refine y_entry (own := "WhoseGlass") (lv := [(0, va_re w.1 (some o)), (1, .int a1), (2, .int a2), (3, .int a3), (4, .int a4)]) (by decide +kernel) rfl (by simp [lv_args, y_cat, y_catI, y_catJ]) (by simp [lg_sl, y_cat, y_catI, y_catJ]) ?_
  intro p e s m args below meth c C hr hlocks
  unfold f_X_keep at h
  refine y_aload_n C (i := 0) 0 d_X_keep_0 rfl rfl ?_
  refine y_iload_n C (i := 1) 1 d_X_keep_1 rfl rfl ?_
  refine y_callV 1 C (q := (yR4, yT4, 5)) (ci := 4) (fun t out hh => c_X_shelfAt l w F u t a1 out hh) gc_X_keep_29 rfl (by decide) hd_X_shelfAt ⟨Nat.le_of_ble_eq_true rfl, Nat.le_of_ble_eq_true rfl⟩ rfl rfl rfl rfl (by simp [y_cat, y_catI, y_catJ]) d_X_keep_2 h (fun r1 u2 h => ?_)
  refine y_stk (stp0 := [va_re w.1 r1]) rfl ?_
  refine y_astore C (i := 5) (lvp := [(0, va_re w.1 (some o)), (1, .int a1), (2, .int a2), (3, .int a3), (4, .int a4)]) d_X_keep_5 (by decide) (by simp [List.filter, y_cat, y_catI, y_catJ]) ?_
  refine y_aload C (i := 5) 0 d_X_keep_7 rfl ?_
  refine y_ifnonnull C 14 d_X_keep_9 (by decide) h (fun k3 h => ?_) (fun k3 h => ?_)
  · refine y_iconst C (v := -1) d_X_keep_12 (by decide) ?_
    exact y_iret C hr hlocks d_X_keep_13 h
  · refine y_iload_n C (i := 2) 3 d_X_keep_14 rfl rfl ?_
    refine y_if_ne C 26 d_X_keep_15 (by decide) h (fun k4 h => ?_) (fun k4 h => ?_)
    · refine y_aload C (i := 5) 0 d_X_keep_18 rfl ?_
      refine y_iconst C (v := 0) d_X_keep_20 (by decide) ?_
      refine y_pi C (q := (yR3, yT3, 6)) (ci := 3) (k := 0) rfl (by decide) rfl rfl (by decide +kernel) g_176 d_X_keep_21 h (fun u5 h => ?_)
      refine y_iconst C (v := 0) d_X_keep_24 (by decide) ?_
      exact y_iret C hr hlocks d_X_keep_25 h
    · refine y_iload_n C (i := 2) 3 d_X_keep_26 rfl rfl ?_
      refine y_iconst C (v := 1) d_X_keep_27 (by decide) ?_
      refine y_ic_ne C 52 d_X_keep_28 (by decide) h (fun k6 h => ?_) (fun k6 h => ?_)
      · refine y_iload_n C (i := 3) 4 d_X_keep_31 rfl rfl ?_
        refine y_bipush C (v := 8) d_X_keep_32 (by decide) ?_
        refine y_callS 2 C (fun out hh => c_X_isBelow l w F u2 a3 (8 : Int32) out hh) (y_gc g_344) g_400 g_1 g_343 hn_X_isBelow ⟨Nat.le_of_ble_eq_true rfl, Nat.le_of_ble_eq_true rfl⟩ rfl rfl rfl rfl (by simp [y_cat, y_catI, y_catJ]) d_X_keep_34 h (fun x7 u8 h => ?_)
        refine y_stk (stp0 := [.int x7]) rfl ?_
        refine y_if_eq C 52 d_X_keep_37 (by decide) h (fun k9 h => ?_) (fun k9 h => ?_)
        · refine y_iconst C (v := -1) d_X_keep_52 (by decide) ?_
          exact y_iret C hr hlocks d_X_keep_53 h
        · refine y_iload C (i := 4) 5 d_X_keep_40 rfl ?_
          refine y_if_lt C 52 d_X_keep_42 (by decide) h (fun k10 h => ?_) (fun k10 h => ?_)
          · refine y_iconst C (v := -1) d_X_keep_52 (by decide) ?_
            exact y_iret C hr hlocks d_X_keep_53 h
          · refine y_iload C (i := 4) 5 d_X_keep_45 rfl ?_
            refine y_bipush C (v := 9) d_X_keep_47 (by decide) ?_
            refine y_ic_le C 54 d_X_keep_49 (by decide) h (fun k11 h => ?_) (fun k11 h => ?_)
            · refine y_aload C (i := 5) 0 d_X_keep_54 rfl ?_
              refine y_iconst C (v := 1) d_X_keep_56 (by decide) ?_
              refine y_pi C (q := (yR3, yT3, 6)) (ci := 3) (k := 0) rfl (by decide) rfl rfl (by decide +kernel) g_176 d_X_keep_57 h (fun u12 h => ?_)
              refine y_aload C (i := 5) 0 d_X_keep_60 rfl ?_
              refine y_iload_n C (i := 3) 4 d_X_keep_62 rfl rfl ?_
              refine y_pi C (q := (yR3, yT3, 6)) (ci := 3) (k := 1) rfl (by decide) rfl rfl (by decide +kernel) g_177 d_X_keep_63 h (fun u13 h => ?_)
              refine y_aload C (i := 5) 0 d_X_keep_66 rfl ?_
              refine y_iload C (i := 4) 5 d_X_keep_68 rfl ?_
              refine y_pi C (q := (yR3, yT3, 6)) (ci := 3) (k := 2) rfl (by decide) rfl rfl (by decide +kernel) g_179 d_X_keep_70 h (fun u14 h => ?_)
              refine y_iconst C (v := 0) d_X_keep_73 (by decide) ?_
              exact y_iret C hr hlocks d_X_keep_74 h
            · refine y_iconst C (v := -1) d_X_keep_52 (by decide) ?_
              exact y_iret C hr hlocks d_X_keep_53 h
      · refine y_iconst C (v := -1) d_X_keep_52 (by decide) ?_
        exact y_iret C hr hlocks d_X_keep_53 h
/-! S_beginRow -/
theorem d_S_beginRow_0 : decode prog_6_method_3_code 0 = .ok (.aload_n 0, 1) := by decide +kernel
theorem d_S_beginRow_1 : decode prog_6_method_3_code 1 = .ok (.iconst 2, 1) := by decide +kernel
theorem d_S_beginRow_2 : decode prog_6_method_3_code 2 = .ok (.putfield 9, 3) := by decide +kernel
theorem d_S_beginRow_5 : decode prog_6_method_3_code 5 = .ok (.aload_n 0, 1) := by decide +kernel
theorem d_S_beginRow_6 : decode prog_6_method_3_code 6 = .ok (.iload_n 1, 1) := by decide +kernel
theorem d_S_beginRow_7 : decode prog_6_method_3_code 7 = .ok (.putfield 19, 3) := by decide +kernel
theorem d_S_beginRow_10 : decode prog_6_method_3_code 10 = .ok (.aload_n 0, 1) := by decide +kernel
theorem d_S_beginRow_11 : decode prog_6_method_3_code 11 = .ok (.iload_n 2, 1) := by decide +kernel
theorem d_S_beginRow_12 : decode prog_6_method_3_code 12 = .ok (.putfield 22, 3) := by decide +kernel
theorem d_S_beginRow_15 : decode prog_6_method_3_code 15 = .ok (.iconst 0, 1) := by decide +kernel
theorem d_S_beginRow_16 : decode prog_6_method_3_code 16 = .ok (.istore_n 3, 1) := by decide +kernel
theorem d_S_beginRow_17 : decode prog_6_method_3_code 17 = .ok (.iload_n 3, 1) := by decide +kernel
theorem d_S_beginRow_18 : decode prog_6_method_3_code 18 = .ok (.aload_n 0, 1) := by decide +kernel
theorem d_S_beginRow_19 : decode prog_6_method_3_code 19 = .ok (.getfield 15, 3) := by decide +kernel
theorem d_S_beginRow_22 : decode prog_6_method_3_code 22 = .ok (.arraylength, 1) := by decide +kernel
theorem d_S_beginRow_23 : decode prog_6_method_3_code 23 = .ok (.if_icmp .ge 16, 3) := by decide +kernel
theorem d_S_beginRow_26 : decode prog_6_method_3_code 26 = .ok (.aload_n 0, 1) := by decide +kernel
theorem d_S_beginRow_27 : decode prog_6_method_3_code 27 = .ok (.getfield 15, 3) := by decide +kernel
theorem d_S_beginRow_30 : decode prog_6_method_3_code 30 = .ok (.iload_n 3, 1) := by decide +kernel
theorem d_S_beginRow_31 : decode prog_6_method_3_code 31 = .ok (.iconst 0, 1) := by decide +kernel
theorem d_S_beginRow_32 : decode prog_6_method_3_code 32 = .ok (.iastore, 1) := by decide +kernel
theorem d_S_beginRow_33 : decode prog_6_method_3_code 33 = .ok (.iinc 3 1, 3) := by decide +kernel
theorem d_S_beginRow_36 : decode prog_6_method_3_code 36 = .ok (.goto (-19), 3) := by decide +kernel
theorem d_S_beginRow_39 : decode prog_6_method_3_code 39 = .ok (.return_, 1) := by decide +kernel
set_option maxHeartbeats 4000000 in
set_option maxRecDepth 100000 in
def f_S_beginRow_L17 (F : Nat) (a0 : Option Nat) (k : Mm → Option (Unit × Mm)) : Nat → Mm → Int32 → Option (Unit × Mm)
  | 0, _, _ => none
  | n + 1, u, a3 => ob (jgr YX 3 5 a0) fun (r4 : Option Nat) => ob (jln YX 6 r4) fun (x5 : Int32) => (if x5 ≤ a3 then k u  else ob (jgr YX 3 5 a0) fun (r7 : Option Nat) => ob (jas YX u r7 a3 (0 : Int32)) fun (u8 : Mm) => ob (some (a3 + (1 : Int32))) fun (x9 : Int32) => f_S_beginRow_L17 F a0 k n u8 x9)
set_option maxHeartbeats 4000000 in
set_option maxRecDepth 100000 in
theorem w_S_beginRow_L17 {p : Program} {l : Launch} {e : Env} {s : State} {m : MethodId} {args : Array Value} {below : List Frame} {meth : Method} {c : Code} {w : WP} {Q : State → Prop} (F : Nat) (C : yX p e ({ frames := 0, cells := 0, slots := 0, locals := 0 } : Room) s m args c YX w 4 prog_6_method_3_code "WhoseGlass$Shelf") (hr : meth.sig.returnType = none) (hlocks : meth.locks = false) (a0 : Option Nat) {out : Unit × Mm} (k : Mm → Option (Unit × Mm)) (hk : ∀ (u : Mm), k u  = some out → yG p l e ({ frames := 0, cells := 0, slots := 0, locals := 0 } : Room) s m args below meth c YX w 4 Q u 39 [] []) : ∀ (n : Nat) (u : Mm) (a3 : Int32), f_S_beginRow_L17 F a0 k n u a3 = some out → yG p l e ({ frames := 0, cells := 0, slots := 0, locals := 0 } : Room) s m args below meth c YX w 4 Q u 17 [(0, va_re w.1 a0), (3, .int a3)] [] := by
  intro n
  induction n with
  | zero => intro u a3 h; rw [f_S_beginRow_L17] at h; cases h
  | succ n ih =>
    intro u a3 h
    rw [f_S_beginRow_L17] at h
    refine y_iload_n C (i := 3) 1 d_S_beginRow_17 rfl rfl ?_
    refine y_aload_n C (i := 0) 0 d_S_beginRow_18 rfl rfl ?_
    refine y_gr C (q := (yR3, yT3, 6)) (ci := 3) (k := 5) rfl (by decide) rfl (by decide) g_186 d_S_beginRow_19 h (fun r4 h => ?_)
    refine y_lni C d_S_beginRow_22 h (fun x5 h => ?_)
    refine y_ic_ge C 39 d_S_beginRow_23 (by decide) h (fun k6 h => ?_) (fun k6 h => ?_)
    · exact y_sub [] rfl (hk _ h)
    · refine y_aload_n C (i := 0) 0 d_S_beginRow_26 rfl rfl ?_
      refine y_gr C (q := (yR3, yT3, 6)) (ci := 3) (k := 5) rfl (by decide) rfl (by decide) g_186 d_S_beginRow_27 h (fun r7 h => ?_)
      refine y_iload_n C (i := 3) 1 d_S_beginRow_30 rfl rfl ?_
      refine y_iconst C (v := 0) d_S_beginRow_31 (by decide) ?_
      refine y_as C d_S_beginRow_32 h (fun u8 h => ?_)
      refine y_iinc C (j := 1) (v := 1) (lvp := [(0, va_re w.1 a0)]) d_S_beginRow_33 rfl (by decide) (by decide) rfl h (fun x9 h => ?_)
      refine y_goto C (tgt := 17) d_S_beginRow_36 (by decide) ?_
      exact y_sub [1, 0] rfl (ih _ _ h)
set_option maxRecDepth 100000 in
def f_S_beginRow (F : Nat) (u : Mm) (o : Nat) (a1 : Int32) (a2 : Int32) : Option (Unit × Mm) := ob (jpi YX 3 0 u (some o) (2 : Int32)) fun (u1 : Mm) => ob (jpi YX 3 3 u1 (some o) a1) fun (u2 : Mm) => ob (jpi YX 3 4 u2 (some o) a2) fun (u3 : Mm) => f_S_beginRow_L17 F (some o) (fun (u10 : Mm) => some ((), u10)) F u3 (0 : Int32)
set_option maxHeartbeats 4000000 in
set_option maxRecDepth 100000 in
theorem c_S_beginRow (l : Launch) (w : WP) (F : Nat) (u : Mm) (o : Nat) (a1 : Int32) (a2 : Int32) (out : Unit × Mm) (h : f_S_beginRow F u o a1 a2 = some out) : yMet l m_S_beginRow ws_S_beginRow ({ frames := 0, cells := 0, slots := 0, locals := 0 } : Room) YX w u [va_re w.1 (some o), .int a1, .int a2] yfv out := by
  refine y_entry (own := "WhoseGlass$Shelf") (lv := [(0, va_re w.1 (some o)), (1, .int a1), (2, .int a2)]) (by decide +kernel) rfl (by simp [lv_args, y_cat, y_catI, y_catJ]) (by simp [lg_sl, y_cat, y_catI, y_catJ]) ?_
  intro p e s m args below meth c C hr hlocks
  unfold f_S_beginRow at h
  refine y_aload_n C (i := 0) 0 d_S_beginRow_0 rfl rfl ?_
  refine y_iconst C (v := 2) d_S_beginRow_1 (by decide) ?_
  refine y_pi C (q := (yR3, yT3, 6)) (ci := 3) (k := 0) rfl (by decide) rfl rfl (by decide +kernel) g_175 d_S_beginRow_2 h (fun u1 h => ?_)
  refine y_aload_n C (i := 0) 0 d_S_beginRow_5 rfl rfl ?_
  refine y_iload_n C (i := 1) 1 d_S_beginRow_6 rfl rfl ?_
  refine y_pi C (q := (yR3, yT3, 6)) (ci := 3) (k := 3) rfl (by decide) rfl rfl (by decide +kernel) g_182 d_S_beginRow_7 h (fun u2 h => ?_)
  refine y_aload_n C (i := 0) 0 d_S_beginRow_10 rfl rfl ?_
  refine y_iload_n C (i := 2) 2 d_S_beginRow_11 rfl rfl ?_
  refine y_pi C (q := (yR3, yT3, 6)) (ci := 3) (k := 4) rfl (by decide) rfl rfl (by decide +kernel) g_184 d_S_beginRow_12 h (fun u3 h => ?_)
  refine y_iconst C (v := 0) d_S_beginRow_15 (by decide) ?_
  refine y_istore_n C (i := 3) (lvp := [(0, va_re w.1 (some o)), (1, .int a1), (2, .int a2)]) d_S_beginRow_16 rfl (by decide) rfl ?_
  refine y_sub [1, 0] rfl (w_S_beginRow_L17 F C hr hlocks _ _ (fun u10 h => ?_) _ _ _ h)
  exact y_vret C hr hlocks d_S_beginRow_39 h
/-! X_row -/
theorem d_X_row_0 : decode prog_1_method_35_code 0 = .ok (.aload_n 0, 1) := by decide +kernel
theorem d_X_row_1 : decode prog_1_method_35_code 1 = .ok (.iload_n 1, 1) := by decide +kernel
theorem d_X_row_2 : decode prog_1_method_35_code 2 = .ok (.invokevirtual 29, 3) := by decide +kernel
theorem d_X_row_5 : decode prog_1_method_35_code 5 = .ok (.astore 4, 2) := by decide +kernel
theorem d_X_row_7 : decode prog_1_method_35_code 7 = .ok (.aload 4, 2) := by decide +kernel
theorem d_X_row_9 : decode prog_1_method_35_code 9 = .ok (.ifnull 18, 3) := by decide +kernel
theorem d_X_row_12 : decode prog_1_method_35_code 12 = .ok (.iload_n 2, 1) := by decide +kernel
theorem d_X_row_13 : decode prog_1_method_35_code 13 = .ok (.ifCond .lt 14, 3) := by decide +kernel
theorem d_X_row_16 : decode prog_1_method_35_code 16 = .ok (.iload_n 2, 1) := by decide +kernel
theorem d_X_row_17 : decode prog_1_method_35_code 17 = .ok (.iconst 2, 1) := by decide +kernel
theorem d_X_row_18 : decode prog_1_method_35_code 18 = .ok (.if_icmp .gt 9, 3) := by decide +kernel
theorem d_X_row_21 : decode prog_1_method_35_code 21 = .ok (.iload_n 3, 1) := by decide +kernel
theorem d_X_row_22 : decode prog_1_method_35_code 22 = .ok (.bipush 100, 2) := by decide +kernel
theorem d_X_row_24 : decode prog_1_method_35_code 24 = .ok (.if_icmp .le 5, 3) := by decide +kernel
theorem d_X_row_27 : decode prog_1_method_35_code 27 = .ok (.iconst (-1), 1) := by decide +kernel
theorem d_X_row_28 : decode prog_1_method_35_code 28 = .ok (.ireturn, 1) := by decide +kernel
theorem d_X_row_29 : decode prog_1_method_35_code 29 = .ok (.iload_n 3, 1) := by decide +kernel
theorem d_X_row_30 : decode prog_1_method_35_code 30 = .ok (.ifCond .ge 6, 3) := by decide +kernel
theorem d_X_row_33 : decode prog_1_method_35_code 33 = .ok (.bipush (-14), 2) := by decide +kernel
theorem d_X_row_35 : decode prog_1_method_35_code 35 = .ok (.ireturn, 1) := by decide +kernel
theorem d_X_row_36 : decode prog_1_method_35_code 36 = .ok (.aload 4, 2) := by decide +kernel
theorem d_X_row_38 : decode prog_1_method_35_code 38 = .ok (.iload_n 2, 1) := by decide +kernel
theorem d_X_row_39 : decode prog_1_method_35_code 39 = .ok (.iload_n 3, 1) := by decide +kernel
theorem d_X_row_40 : decode prog_1_method_35_code 40 = .ok (.invokevirtual 229, 3) := by decide +kernel
theorem d_X_row_43 : decode prog_1_method_35_code 43 = .ok (.iconst 0, 1) := by decide +kernel
theorem d_X_row_44 : decode prog_1_method_35_code 44 = .ok (.ireturn, 1) := by decide +kernel
theorem gc_X_row_29 : GoodIn yGW (wsV "WhoseGlass" 29 yR4 m_X_shelfAt ws_X_shelfAt) := y_gV g_222 g_224 gs_0 g_1 g_225
theorem gc_X_row_229 : GoodIn yGW (wsV "WhoseGlass" 229 yR3 m_S_beginRow ws_S_beginRow) := y_gV g_619 g_620 g_621 g_5 g_622
set_option maxRecDepth 100000 in
def f_X_row (F : Nat) (u : Mm) (o : Nat) (a1 : Int32) (a2 : Int32) (a3 : Int32) : Option (Int32 × Mm) := ob (jk YX 4 (some o)) fun t => yb (f_X_shelfAt F u t a1) fun r1 u2 => (if r1 = none then some ((-1 : Int32), u2) else (if a2 < 0 then some ((-1 : Int32), u2) else (if (2 : Int32) < a2 then some ((-1 : Int32), u2) else (if a3 ≤ (100 : Int32) then (if 0 ≤ a3 then ob (jk YX 3 r1) fun t => yb (f_S_beginRow F u2 t a2 a3) fun v8 u9 => some ((0 : Int32), u9) else some ((-14 : Int32), u2)) else some ((-1 : Int32), u2)))))
set_option maxHeartbeats 4000000 in
set_option maxRecDepth 100000 in
theorem c_X_row (l : Launch) (w : WP) (F : Nat) (u : Mm) (o : Nat) (a1 : Int32) (a2 : Int32) (a3 : Int32) (out : Int32 × Mm) (h : f_X_row F u o a1 a2 a3 = some out) : yMet l m_X_row ws_X_row ({ frames := 1, cells := 0, slots := 0, locals := 23 } : Room) YX w u [va_re w.1 (some o), .int a1, .int a2, .int a3] yfi out := by
  refine y_entry (own := "WhoseGlass") (lv := [(0, va_re w.1 (some o)), (1, .int a1), (2, .int a2), (3, .int a3)]) (by decide +kernel) rfl (by simp [lv_args, y_cat, y_catI, y_catJ]) (by simp [lg_sl, y_cat, y_catI, y_catJ]) ?_
  intro p e s m args below meth c C hr hlocks
  unfold f_X_row at h
  refine y_aload_n C (i := 0) 0 d_X_row_0 rfl rfl ?_
  refine y_iload_n C (i := 1) 1 d_X_row_1 rfl rfl ?_
  refine y_callV 1 C (q := (yR4, yT4, 5)) (ci := 4) (fun t out hh => c_X_shelfAt l w F u t a1 out hh) gc_X_row_29 rfl (by decide) hd_X_shelfAt ⟨Nat.le_of_ble_eq_true rfl, Nat.le_of_ble_eq_true rfl⟩ rfl rfl rfl rfl (by simp [y_cat, y_catI, y_catJ]) d_X_row_2 h (fun r1 u2 h => ?_)
  refine y_stk (stp0 := [va_re w.1 r1]) rfl ?_
  refine y_astore C (i := 4) (lvp := [(0, va_re w.1 (some o)), (1, .int a1), (2, .int a2), (3, .int a3)]) d_X_row_5 (by decide) (by simp [List.filter, y_cat, y_catI, y_catJ]) ?_
  refine y_aload C (i := 4) 0 d_X_row_7 rfl ?_
  refine y_ifnull C 27 d_X_row_9 (by decide) h (fun k3 h => ?_) (fun k3 h => ?_)
  · refine y_iconst C (v := -1) d_X_row_27 (by decide) ?_
    exact y_iret C hr hlocks d_X_row_28 h
  · refine y_iload_n C (i := 2) 3 d_X_row_12 rfl rfl ?_
    refine y_if_lt C 27 d_X_row_13 (by decide) h (fun k4 h => ?_) (fun k4 h => ?_)
    · refine y_iconst C (v := -1) d_X_row_27 (by decide) ?_
      exact y_iret C hr hlocks d_X_row_28 h
    · refine y_iload_n C (i := 2) 3 d_X_row_16 rfl rfl ?_
      refine y_iconst C (v := 2) d_X_row_17 (by decide) ?_
      refine y_ic_gt C 27 d_X_row_18 (by decide) h (fun k5 h => ?_) (fun k5 h => ?_)
      · refine y_iconst C (v := -1) d_X_row_27 (by decide) ?_
        exact y_iret C hr hlocks d_X_row_28 h
      · refine y_iload_n C (i := 3) 4 d_X_row_21 rfl rfl ?_
        refine y_bipush C (v := 100) d_X_row_22 (by decide) ?_
        refine y_ic_le C 29 d_X_row_24 (by decide) h (fun k6 h => ?_) (fun k6 h => ?_)
        · refine y_iload_n C (i := 3) 4 d_X_row_29 rfl rfl ?_
          refine y_if_ge C 36 d_X_row_30 (by decide) h (fun k7 h => ?_) (fun k7 h => ?_)
          · refine y_aload C (i := 4) 0 d_X_row_36 rfl ?_
            refine y_iload_n C (i := 2) 3 d_X_row_38 rfl rfl ?_
            refine y_iload_n C (i := 3) 4 d_X_row_39 rfl rfl ?_
            refine y_callV 2 C (q := (yR3, yT3, 6)) (ci := 3) (fun t out hh => c_S_beginRow l w F u2 t a2 a3 out hh) gc_X_row_229 rfl (by decide) hd_S_beginRow ⟨Nat.le_of_ble_eq_true rfl, Nat.le_of_ble_eq_true rfl⟩ rfl rfl rfl rfl (by simp [y_cat, y_catI, y_catJ]) d_X_row_40 h (fun v8 u9 h => ?_)
            refine y_stk (stp0 := []) rfl ?_
            refine y_iconst C (v := 0) d_X_row_43 (by decide) ?_
            exact y_iret C hr hlocks d_X_row_44 h
          · refine y_bipush C (v := -14) d_X_row_33 (by decide) ?_
            exact y_iret C hr hlocks d_X_row_35 h
        · refine y_iconst C (v := -1) d_X_row_27 (by decide) ?_
          exact y_iret C hr hlocks d_X_row_28 h
/-! S_lowestBits -/
theorem d_S_lowestBits_0 : decode prog_6_method_6_code 0 = .ok (.aload_n 0, 1) := by decide +kernel
theorem d_S_lowestBits_1 : decode prog_6_method_6_code 1 = .ok (.getfield 19, 3) := by decide +kernel
theorem d_S_lowestBits_4 : decode prog_6_method_6_code 4 = .ok (.lookupswitch 34 #[(0, 28), (1, 31)], 28) := by decide +kernel
theorem d_S_lowestBits_32 : decode prog_6_method_6_code 32 = .ok (.iload_n 1, 1) := by decide +kernel
theorem d_S_lowestBits_33 : decode prog_6_method_6_code 33 = .ok (.i2b, 1) := by decide +kernel
theorem d_S_lowestBits_34 : decode prog_6_method_6_code 34 = .ok (.ireturn, 1) := by decide +kernel
theorem d_S_lowestBits_35 : decode prog_6_method_6_code 35 = .ok (.iload_n 1, 1) := by decide +kernel
theorem d_S_lowestBits_36 : decode prog_6_method_6_code 36 = .ok (.i2s, 1) := by decide +kernel
theorem d_S_lowestBits_37 : decode prog_6_method_6_code 37 = .ok (.ireturn, 1) := by decide +kernel
theorem d_S_lowestBits_38 : decode prog_6_method_6_code 38 = .ok (.iload_n 1, 1) := by decide +kernel
theorem d_S_lowestBits_39 : decode prog_6_method_6_code 39 = .ok (.ireturn, 1) := by decide +kernel
set_option maxRecDepth 100000 in
def f_S_lowestBits (F : Nat) (u : Mm) (o : Nat) (a1 : Int32) : Option (Int32 × Mm) := ob (jgi YX 3 3 u (some o)) fun (x1 : Int32) => (if x1 = (0 : Int32) then some ((a1.toInt8.toInt32), u) else (if x1 = (1 : Int32) then some ((a1.toInt16.toInt32), u) else some (a1, u)))
set_option maxHeartbeats 4000000 in
set_option maxRecDepth 100000 in
theorem c_S_lowestBits (l : Launch) (w : WP) (F : Nat) (u : Mm) (o : Nat) (a1 : Int32) (out : Int32 × Mm) (h : f_S_lowestBits F u o a1 = some out) : yMet l m_S_lowestBits ws_S_lowestBits ({ frames := 0, cells := 0, slots := 0, locals := 0 } : Room) YX w u [va_re w.1 (some o), .int a1] yfi out := by
  refine y_entry (own := "WhoseGlass$Shelf") (lv := [(0, va_re w.1 (some o)), (1, .int a1)]) (by decide +kernel) rfl (by simp [lv_args, y_cat, y_catI, y_catJ]) (by simp [lg_sl, y_cat, y_catI, y_catJ]) ?_
  intro p e s m args below meth c C hr hlocks
  unfold f_S_lowestBits at h
  refine y_aload_n C (i := 0) 0 d_S_lowestBits_0 rfl rfl ?_
  refine y_gi C (q := (yR3, yT3, 6)) (ci := 3) (k := 3) rfl (by decide) rfl g_182 d_S_lowestBits_1 h (fun x1 h => ?_)
  refine y_sp h (fun k2 h => ?_) (fun k2 h => ?_)
  · refine y_lsw C (off := 28) 32 d_S_lowestBits_4 (by decide) (by rw [k2]; decide +kernel) (by decide) ?_
    refine y_iload_n C (i := 1) 1 d_S_lowestBits_32 rfl rfl ?_
    refine y_i2b C d_S_lowestBits_33 ?_
    exact y_iret C hr hlocks d_S_lowestBits_34 h
  refine y_sp h (fun k3 h => ?_) (fun k3 h => ?_)
  · refine y_lsw C (off := 31) 35 d_S_lowestBits_4 (by decide) (by rw [k3]; decide +kernel) (by decide) ?_
    refine y_iload_n C (i := 1) 1 d_S_lowestBits_35 rfl rfl ?_
    refine y_i2s C d_S_lowestBits_36 ?_
    exact y_iret C hr hlocks d_S_lowestBits_37 h
  refine y_lsw C (off := 34) 38 d_S_lowestBits_4 (by decide) (by show Op.lookupswitch.offset [(0, 28), (1, 31)] 34 _ = _; rw [lv_osw (a := 0) k2 rfl, lv_osw (a := 1) k3 rfl]; rfl) (by decide) ?_
  refine y_iload_n C (i := 1) 1 d_S_lowestBits_38 rfl rfl ?_
  exact y_iret C hr hlocks d_S_lowestBits_39 h
/-! S_set -/
theorem d_S_set_0 : decode prog_6_method_5_code 0 = .ok (.iload_n 1, 1) := by decide +kernel
theorem d_S_set_1 : decode prog_6_method_5_code 1 = .ok (.ifCond .lt 23, 3) := by decide +kernel
theorem d_S_set_4 : decode prog_6_method_5_code 4 = .ok (.iload_n 1, 1) := by decide +kernel
theorem d_S_set_5 : decode prog_6_method_5_code 5 = .ok (.aload_n 0, 1) := by decide +kernel
theorem d_S_set_6 : decode prog_6_method_5_code 6 = .ok (.getfield 15, 3) := by decide +kernel
theorem d_S_set_9 : decode prog_6_method_5_code 9 = .ok (.arraylength, 1) := by decide +kernel
theorem d_S_set_10 : decode prog_6_method_5_code 10 = .ok (.if_icmp .ge 14, 3) := by decide +kernel
theorem d_S_set_13 : decode prog_6_method_5_code 13 = .ok (.aload_n 0, 1) := by decide +kernel
theorem d_S_set_14 : decode prog_6_method_5_code 14 = .ok (.getfield 15, 3) := by decide +kernel
theorem d_S_set_17 : decode prog_6_method_5_code 17 = .ok (.iload_n 1, 1) := by decide +kernel
theorem d_S_set_18 : decode prog_6_method_5_code 18 = .ok (.aload_n 0, 1) := by decide +kernel
theorem d_S_set_19 : decode prog_6_method_5_code 19 = .ok (.iload_n 2, 1) := by decide +kernel
theorem d_S_set_20 : decode prog_6_method_5_code 20 = .ok (.invokevirtual 25, 3) := by decide +kernel
theorem d_S_set_23 : decode prog_6_method_5_code 23 = .ok (.iastore, 1) := by decide +kernel
theorem d_S_set_24 : decode prog_6_method_5_code 24 = .ok (.return_, 1) := by decide +kernel
theorem gc_S_set_25 : GoodIn yGW (wsV "WhoseGlass$Shelf" 25 yR3 m_S_lowestBits ws_S_lowestBits) := y_gV g_631 g_633 gs_9 g_5 g_634
set_option maxRecDepth 100000 in
def f_S_set (F : Nat) (u : Mm) (o : Nat) (a1 : Int32) (a2 : Int32) : Option (Unit × Mm) := (if a1 < 0 then some ((), u) else ob (jgr YX 3 5 (some o)) fun (r2 : Option Nat) => ob (jln YX 6 r2) fun (x3 : Int32) => (if x3 ≤ a1 then some ((), u) else ob (jgr YX 3 5 (some o)) fun (r5 : Option Nat) => ob (jk YX 3 (some o)) fun t => yb (f_S_lowestBits F u t a2) fun x6 u7 => ob (jas YX u7 r5 a1 x6) fun (u8 : Mm) => some ((), u8)))
set_option maxHeartbeats 4000000 in
set_option maxRecDepth 100000 in
theorem c_S_set (l : Launch) (w : WP) (F : Nat) (u : Mm) (o : Nat) (a1 : Int32) (a2 : Int32) (out : Unit × Mm) (h : f_S_set F u o a1 a2 = some out) : yMet l m_S_set ws_S_set ({ frames := 1, cells := 0, slots := 0, locals := 21 } : Room) YX w u [va_re w.1 (some o), .int a1, .int a2] yfv out := by
  refine y_entry (own := "WhoseGlass$Shelf") (lv := [(0, va_re w.1 (some o)), (1, .int a1), (2, .int a2)]) (by decide +kernel) rfl (by simp [lv_args, y_cat, y_catI, y_catJ]) (by simp [lg_sl, y_cat, y_catI, y_catJ]) ?_
  intro p e s m args below meth c C hr hlocks
  unfold f_S_set at h
  refine y_iload_n C (i := 1) 1 d_S_set_0 rfl rfl ?_
  refine y_if_lt C 24 d_S_set_1 (by decide) h (fun k1 h => ?_) (fun k1 h => ?_)
  · exact y_vret C hr hlocks d_S_set_24 h
  · refine y_iload_n C (i := 1) 1 d_S_set_4 rfl rfl ?_
    refine y_aload_n C (i := 0) 0 d_S_set_5 rfl rfl ?_
    refine y_gr C (q := (yR3, yT3, 6)) (ci := 3) (k := 5) rfl (by decide) rfl (by decide) g_186 d_S_set_6 h (fun r2 h => ?_)
    refine y_lni C d_S_set_9 h (fun x3 h => ?_)
    refine y_ic_ge C 24 d_S_set_10 (by decide) h (fun k4 h => ?_) (fun k4 h => ?_)
    · exact y_vret C hr hlocks d_S_set_24 h
    · refine y_aload_n C (i := 0) 0 d_S_set_13 rfl rfl ?_
      refine y_gr C (q := (yR3, yT3, 6)) (ci := 3) (k := 5) rfl (by decide) rfl (by decide) g_186 d_S_set_14 h (fun r5 h => ?_)
      refine y_iload_n C (i := 1) 1 d_S_set_17 rfl rfl ?_
      refine y_aload_n C (i := 0) 0 d_S_set_18 rfl rfl ?_
      refine y_iload_n C (i := 2) 2 d_S_set_19 rfl rfl ?_
      refine y_callV 1 C (q := (yR3, yT3, 6)) (ci := 3) (fun t out hh => c_S_lowestBits l w F u t a2 out hh) gc_S_set_25 rfl (by decide) hd_S_lowestBits ⟨Nat.le_of_ble_eq_true rfl, Nat.le_of_ble_eq_true rfl⟩ rfl rfl rfl rfl (by simp [y_cat, y_catI, y_catJ]) d_S_set_20 h (fun x6 u7 h => ?_)
      refine y_stk (stp0 := [.int x6, .int a1, va_re w.1 r5]) rfl ?_
      refine y_as C d_S_set_23 h (fun u8 h => ?_)
      exact y_vret C hr hlocks d_S_set_24 h
/-! X_put -/
theorem d_X_put_0 : decode prog_1_method_36_code 0 = .ok (.aload_n 0, 1) := by decide +kernel
theorem d_X_put_1 : decode prog_1_method_36_code 1 = .ok (.iload_n 1, 1) := by decide +kernel
theorem d_X_put_2 : decode prog_1_method_36_code 2 = .ok (.invokevirtual 29, 3) := by decide +kernel
theorem d_X_put_5 : decode prog_1_method_36_code 5 = .ok (.astore 4, 2) := by decide +kernel
theorem d_X_put_7 : decode prog_1_method_36_code 7 = .ok (.aload 4, 2) := by decide +kernel
theorem d_X_put_9 : decode prog_1_method_36_code 9 = .ok (.ifnonnull 5, 3) := by decide +kernel
theorem d_X_put_12 : decode prog_1_method_36_code 12 = .ok (.iconst (-1), 1) := by decide +kernel
theorem d_X_put_13 : decode prog_1_method_36_code 13 = .ok (.ireturn, 1) := by decide +kernel
theorem d_X_put_14 : decode prog_1_method_36_code 14 = .ok (.aload 4, 2) := by decide +kernel
theorem d_X_put_16 : decode prog_1_method_36_code 16 = .ok (.getfield 33, 3) := by decide +kernel
theorem d_X_put_19 : decode prog_1_method_36_code 19 = .ok (.iconst 2, 1) := by decide +kernel
theorem d_X_put_20 : decode prog_1_method_36_code 20 = .ok (.if_icmp .eq 9, 3) := by decide +kernel
theorem d_X_put_23 : decode prog_1_method_36_code 23 = .ok (.aload 4, 2) := by decide +kernel
theorem d_X_put_25 : decode prog_1_method_36_code 25 = .ok (.invokevirtual 40, 3) := by decide +kernel
theorem d_X_put_28 : decode prog_1_method_36_code 28 = .ok (.ireturn, 1) := by decide +kernel
theorem d_X_put_29 : decode prog_1_method_36_code 29 = .ok (.iload_n 2, 1) := by decide +kernel
theorem d_X_put_30 : decode prog_1_method_36_code 30 = .ok (.aload 4, 2) := by decide +kernel
theorem d_X_put_32 : decode prog_1_method_36_code 32 = .ok (.getfield 207, 3) := by decide +kernel
theorem d_X_put_35 : decode prog_1_method_36_code 35 = .ok (.invokestatic 78, 3) := by decide +kernel
theorem d_X_put_38 : decode prog_1_method_36_code 38 = .ok (.ifCond .ne 6, 3) := by decide +kernel
theorem d_X_put_41 : decode prog_1_method_36_code 41 = .ok (.bipush (-13), 2) := by decide +kernel
theorem d_X_put_43 : decode prog_1_method_36_code 43 = .ok (.ireturn, 1) := by decide +kernel
theorem d_X_put_44 : decode prog_1_method_36_code 44 = .ok (.aload 4, 2) := by decide +kernel
theorem d_X_put_46 : decode prog_1_method_36_code 46 = .ok (.iload_n 2, 1) := by decide +kernel
theorem d_X_put_47 : decode prog_1_method_36_code 47 = .ok (.iload_n 3, 1) := by decide +kernel
theorem d_X_put_48 : decode prog_1_method_36_code 48 = .ok (.invokevirtual 232, 3) := by decide +kernel
theorem d_X_put_51 : decode prog_1_method_36_code 51 = .ok (.iconst 0, 1) := by decide +kernel
theorem d_X_put_52 : decode prog_1_method_36_code 52 = .ok (.ireturn, 1) := by decide +kernel
theorem gc_X_put_29 : GoodIn yGW (wsV "WhoseGlass" 29 yR4 m_X_shelfAt ws_X_shelfAt) := y_gV g_222 g_224 gs_0 g_1 g_225
theorem gc_X_put_232 : GoodIn yGW (wsV "WhoseGlass" 232 yR3 m_S_set ws_S_set) := y_gV g_627 g_628 g_629 g_5 g_630
theorem gc_X_put_40 : GoodIn yGW (wsV "WhoseGlass" 40 yR3 m_S_whyNot ws_S_whyNot) := y_gV g_226 g_227 g_228 g_5 g_229
set_option maxRecDepth 100000 in
def f_X_put (F : Nat) (u : Mm) (o : Nat) (a1 : Int32) (a2 : Int32) (a3 : Int32) : Option (Int32 × Mm) := ob (jk YX 4 (some o)) fun t => yb (f_X_shelfAt F u t a1) fun r1 u2 => (if r1 = none then some ((-1 : Int32), u2) else ob (jgi YX 3 0 u2 r1) fun (x4 : Int32) => (if x4 = (2 : Int32) then ob (jgi YX 3 4 u2 r1) fun (x6 : Int32) => yb (f_X_isBelow F u2 a2 x6) fun x7 u8 => (if x7 = 0 then some ((-13 : Int32), u8) else ob (jk YX 3 r1) fun t => yb (f_S_set F u8 t a2 a3) fun v10 u11 => some ((0 : Int32), u11)) else ob (jk YX 3 r1) fun t => yb (f_S_whyNot F u2 t ) fun x12 u13 => some (x12, u13)))
set_option maxHeartbeats 4000000 in
set_option maxRecDepth 100000 in
theorem c_X_put (l : Launch) (w : WP) (F : Nat) (u : Mm) (o : Nat) (a1 : Int32) (a2 : Int32) (a3 : Int32) (out : Int32 × Mm) (h : f_X_put F u o a1 a2 a3 = some out) : yMet l m_X_put ws_X_put ({ frames := 2, cells := 0, slots := 0, locals := 43 } : Room) YX w u [va_re w.1 (some o), .int a1, .int a2, .int a3] yfi out := by
  refine y_entry (own := "WhoseGlass") (lv := [(0, va_re w.1 (some o)), (1, .int a1), (2, .int a2), (3, .int a3)]) (by decide +kernel) rfl (by simp [lv_args, y_cat, y_catI, y_catJ]) (by simp [lg_sl, y_cat, y_catI, y_catJ]) ?_
  intro p e s m args below meth c C hr hlocks
  unfold f_X_put at h
  refine y_aload_n C (i := 0) 0 d_X_put_0 rfl rfl ?_
  refine y_iload_n C (i := 1) 1 d_X_put_1 rfl rfl ?_
  refine y_callV 1 C (q := (yR4, yT4, 5)) (ci := 4) (fun t out hh => c_X_shelfAt l w F u t a1 out hh) gc_X_put_29 rfl (by decide) hd_X_shelfAt ⟨Nat.le_of_ble_eq_true rfl, Nat.le_of_ble_eq_true rfl⟩ rfl rfl rfl rfl (by simp [y_cat, y_catI, y_catJ]) d_X_put_2 h (fun r1 u2 h => ?_)
  refine y_stk (stp0 := [va_re w.1 r1]) rfl ?_
  refine y_astore C (i := 4) (lvp := [(0, va_re w.1 (some o)), (1, .int a1), (2, .int a2), (3, .int a3)]) d_X_put_5 (by decide) (by simp [List.filter, y_cat, y_catI, y_catJ]) ?_
  refine y_aload C (i := 4) 0 d_X_put_7 rfl ?_
  refine y_ifnonnull C 14 d_X_put_9 (by decide) h (fun k3 h => ?_) (fun k3 h => ?_)
  · refine y_iconst C (v := -1) d_X_put_12 (by decide) ?_
    exact y_iret C hr hlocks d_X_put_13 h
  · refine y_aload C (i := 4) 0 d_X_put_14 rfl ?_
    refine y_gi C (q := (yR3, yT3, 6)) (ci := 3) (k := 0) rfl (by decide) rfl g_176 d_X_put_16 h (fun x4 h => ?_)
    refine y_iconst C (v := 2) d_X_put_19 (by decide) ?_
    refine y_ic_eq C 29 d_X_put_20 (by decide) h (fun k5 h => ?_) (fun k5 h => ?_)
    · refine y_iload_n C (i := 2) 3 d_X_put_29 rfl rfl ?_
      refine y_aload C (i := 4) 0 d_X_put_30 rfl ?_
      refine y_gi C (q := (yR3, yT3, 6)) (ci := 3) (k := 4) rfl (by decide) rfl g_185 d_X_put_32 h (fun x6 h => ?_)
      refine y_callS 2 C (fun out hh => c_X_isBelow l w F u2 a2 x6 out hh) (y_gc g_344) g_400 g_1 g_343 hn_X_isBelow ⟨Nat.le_of_ble_eq_true rfl, Nat.le_of_ble_eq_true rfl⟩ rfl rfl rfl rfl (by simp [y_cat, y_catI, y_catJ]) d_X_put_35 h (fun x7 u8 h => ?_)
      refine y_stk (stp0 := [.int x7]) rfl ?_
      refine y_if_ne C 44 d_X_put_38 (by decide) h (fun k9 h => ?_) (fun k9 h => ?_)
      · refine y_bipush C (v := -13) d_X_put_41 (by decide) ?_
        exact y_iret C hr hlocks d_X_put_43 h
      · refine y_aload C (i := 4) 0 d_X_put_44 rfl ?_
        refine y_iload_n C (i := 2) 3 d_X_put_46 rfl rfl ?_
        refine y_iload_n C (i := 3) 4 d_X_put_47 rfl rfl ?_
        refine y_callV 2 C (q := (yR3, yT3, 6)) (ci := 3) (fun t out hh => c_S_set l w F u8 t a2 a3 out hh) gc_X_put_232 rfl (by decide) hd_S_set ⟨Nat.le_of_ble_eq_true rfl, Nat.le_of_ble_eq_true rfl⟩ rfl rfl rfl rfl (by simp [y_cat, y_catI, y_catJ]) d_X_put_48 h (fun v10 u11 h => ?_)
        refine y_stk (stp0 := []) rfl ?_
        refine y_iconst C (v := 0) d_X_put_51 (by decide) ?_
        exact y_iret C hr hlocks d_X_put_52 h
    · refine y_aload C (i := 4) 0 d_X_put_23 rfl ?_
      refine y_callV 0 C (q := (yR3, yT3, 6)) (ci := 3) (fun t out hh => c_S_whyNot l w F u2 t out hh) gc_X_put_40 rfl (by decide) hd_S_whyNot ⟨Nat.le_of_ble_eq_true rfl, Nat.le_of_ble_eq_true rfl⟩ rfl rfl rfl rfl (by simp [y_cat, y_catI, y_catJ]) d_X_put_25 h (fun x12 u13 h => ?_)
      refine y_stk (stp0 := [.int x12]) rfl ?_
      exact y_iret C hr hlocks d_X_put_28 h
/-! S_hasStretch -/
theorem d_S_hasStretch_0 : decode prog_6_method_8_code 0 = .ok (.iload_n 1, 1) := by decide +kernel
theorem d_S_hasStretch_1 : decode prog_6_method_8_code 1 = .ok (.ifCond .lt 29, 3) := by decide +kernel
theorem d_S_hasStretch_4 : decode prog_6_method_8_code 4 = .ok (.iload_n 2, 1) := by decide +kernel
theorem d_S_hasStretch_5 : decode prog_6_method_8_code 5 = .ok (.ifCond .lt 25, 3) := by decide +kernel
theorem d_S_hasStretch_8 : decode prog_6_method_8_code 8 = .ok (.iload_n 1, 1) := by decide +kernel
theorem d_S_hasStretch_9 : decode prog_6_method_8_code 9 = .ok (.aload_n 0, 1) := by decide +kernel
theorem d_S_hasStretch_10 : decode prog_6_method_8_code 10 = .ok (.getfield 22, 3) := by decide +kernel
theorem d_S_hasStretch_13 : decode prog_6_method_8_code 13 = .ok (.if_icmp .gt 17, 3) := by decide +kernel
theorem d_S_hasStretch_16 : decode prog_6_method_8_code 16 = .ok (.iload_n 2, 1) := by decide +kernel
theorem d_S_hasStretch_17 : decode prog_6_method_8_code 17 = .ok (.aload_n 0, 1) := by decide +kernel
theorem d_S_hasStretch_18 : decode prog_6_method_8_code 18 = .ok (.getfield 22, 3) := by decide +kernel
theorem d_S_hasStretch_21 : decode prog_6_method_8_code 21 = .ok (.iload_n 1, 1) := by decide +kernel
theorem d_S_hasStretch_22 : decode prog_6_method_8_code 22 = .ok (.isub, 1) := by decide +kernel
theorem d_S_hasStretch_23 : decode prog_6_method_8_code 23 = .ok (.if_icmp .gt 7, 3) := by decide +kernel
theorem d_S_hasStretch_26 : decode prog_6_method_8_code 26 = .ok (.iconst 1, 1) := by decide +kernel
theorem d_S_hasStretch_27 : decode prog_6_method_8_code 27 = .ok (.goto 4, 3) := by decide +kernel
theorem d_S_hasStretch_30 : decode prog_6_method_8_code 30 = .ok (.iconst 0, 1) := by decide +kernel
theorem d_S_hasStretch_31 : decode prog_6_method_8_code 31 = .ok (.ireturn, 1) := by decide +kernel
set_option maxRecDepth 100000 in
def f_S_hasStretch (F : Nat) (u : Mm) (o : Nat) (a1 : Int32) (a2 : Int32) : Option (Int32 × Mm) := (if a1 < 0 then ob (jz (0 : Int32)) (fun v => some (v, u)) else (if a2 < 0 then ob (jz (0 : Int32)) (fun v => some (v, u)) else ob (jgi YX 3 4 u (some o)) fun (x3 : Int32) => (if x3 < a1 then ob (jz (0 : Int32)) (fun v => some (v, u)) else ob (jgi YX 3 4 u (some o)) fun (x5 : Int32) => (if (x5 - a1) < a2 then ob (jz (0 : Int32)) (fun v => some (v, u)) else ob (jz (1 : Int32)) (fun v => some (v, u))))))
set_option maxHeartbeats 4000000 in
set_option maxRecDepth 100000 in
theorem c_S_hasStretch (l : Launch) (w : WP) (F : Nat) (u : Mm) (o : Nat) (a1 : Int32) (a2 : Int32) (out : Int32 × Mm) (h : f_S_hasStretch F u o a1 a2 = some out) : yMet l m_S_hasStretch ws_S_hasStretch ({ frames := 0, cells := 0, slots := 0, locals := 0 } : Room) YX w u [va_re w.1 (some o), .int a1, .int a2] yfi out := by
  refine y_entry (own := "WhoseGlass$Shelf") (lv := [(0, va_re w.1 (some o)), (1, .int a1), (2, .int a2)]) (by decide +kernel) rfl (by simp [lv_args, y_cat, y_catI, y_catJ]) (by simp [lg_sl, y_cat, y_catI, y_catJ]) ?_
  intro p e s m args below meth c C hr hlocks
  unfold f_S_hasStretch at h
  refine y_iload_n C (i := 1) 1 d_S_hasStretch_0 rfl rfl ?_
  refine y_if_lt C 30 d_S_hasStretch_1 (by decide) h (fun k1 h => ?_) (fun k1 h => ?_)
  · refine y_iconst C (v := 0) d_S_hasStretch_30 (by decide) ?_
    exact y_zret C hr hlocks d_S_hasStretch_31 h
  · refine y_iload_n C (i := 2) 2 d_S_hasStretch_4 rfl rfl ?_
    refine y_if_lt C 30 d_S_hasStretch_5 (by decide) h (fun k2 h => ?_) (fun k2 h => ?_)
    · refine y_iconst C (v := 0) d_S_hasStretch_30 (by decide) ?_
      exact y_zret C hr hlocks d_S_hasStretch_31 h
    · refine y_iload_n C (i := 1) 1 d_S_hasStretch_8 rfl rfl ?_
      refine y_aload_n C (i := 0) 0 d_S_hasStretch_9 rfl rfl ?_
      refine y_gi C (q := (yR3, yT3, 6)) (ci := 3) (k := 4) rfl (by decide) rfl g_184 d_S_hasStretch_10 h (fun x3 h => ?_)
      refine y_ic_gt C 30 d_S_hasStretch_13 (by decide) h (fun k4 h => ?_) (fun k4 h => ?_)
      · refine y_iconst C (v := 0) d_S_hasStretch_30 (by decide) ?_
        exact y_zret C hr hlocks d_S_hasStretch_31 h
      · refine y_iload_n C (i := 2) 2 d_S_hasStretch_16 rfl rfl ?_
        refine y_aload_n C (i := 0) 0 d_S_hasStretch_17 rfl rfl ?_
        refine y_gi C (q := (yR3, yT3, 6)) (ci := 3) (k := 4) rfl (by decide) rfl g_184 d_S_hasStretch_18 h (fun x5 h => ?_)
        refine y_iload_n C (i := 1) 1 d_S_hasStretch_21 rfl rfl ?_
        refine y_isub C d_S_hasStretch_22 ?_
        refine y_ic_gt C 30 d_S_hasStretch_23 (by decide) h (fun k6 h => ?_) (fun k6 h => ?_)
        · refine y_iconst C (v := 0) d_S_hasStretch_30 (by decide) ?_
          exact y_zret C hr hlocks d_S_hasStretch_31 h
        · refine y_iconst C (v := 1) d_S_hasStretch_26 (by decide) ?_
          refine y_goto C (tgt := 31) d_S_hasStretch_27 (by decide) ?_
          exact y_zret C hr hlocks d_S_hasStretch_31 h
/-! X_copy -/
theorem d_X_copy_0 : decode prog_1_method_38_code 0 = .ok (.aload_n 0, 1) := by decide +kernel
theorem d_X_copy_1 : decode prog_1_method_38_code 1 = .ok (.iload_n 1, 1) := by decide +kernel
theorem d_X_copy_2 : decode prog_1_method_38_code 2 = .ok (.invokevirtual 29, 3) := by decide +kernel
theorem d_X_copy_5 : decode prog_1_method_38_code 5 = .ok (.astore 6, 2) := by decide +kernel
theorem d_X_copy_7 : decode prog_1_method_38_code 7 = .ok (.aload_n 0, 1) := by decide +kernel
theorem d_X_copy_8 : decode prog_1_method_38_code 8 = .ok (.iload_n 3, 1) := by decide +kernel
theorem d_X_copy_9 : decode prog_1_method_38_code 9 = .ok (.invokevirtual 29, 3) := by decide +kernel
theorem d_X_copy_12 : decode prog_1_method_38_code 12 = .ok (.astore 7, 2) := by decide +kernel
theorem d_X_copy_14 : decode prog_1_method_38_code 14 = .ok (.aload 6, 2) := by decide +kernel
theorem d_X_copy_16 : decode prog_1_method_38_code 16 = .ok (.ifnull 8, 3) := by decide +kernel
theorem d_X_copy_19 : decode prog_1_method_38_code 19 = .ok (.aload 7, 2) := by decide +kernel
theorem d_X_copy_21 : decode prog_1_method_38_code 21 = .ok (.ifnonnull 5, 3) := by decide +kernel
theorem d_X_copy_24 : decode prog_1_method_38_code 24 = .ok (.iconst (-1), 1) := by decide +kernel
theorem d_X_copy_25 : decode prog_1_method_38_code 25 = .ok (.ireturn, 1) := by decide +kernel
theorem d_X_copy_26 : decode prog_1_method_38_code 26 = .ok (.aload 6, 2) := by decide +kernel
theorem d_X_copy_28 : decode prog_1_method_38_code 28 = .ok (.getfield 33, 3) := by decide +kernel
theorem d_X_copy_31 : decode prog_1_method_38_code 31 = .ok (.ifCond .eq 11, 3) := by decide +kernel
theorem d_X_copy_34 : decode prog_1_method_38_code 34 = .ok (.aload 7, 2) := by decide +kernel
theorem d_X_copy_36 : decode prog_1_method_38_code 36 = .ok (.getfield 33, 3) := by decide +kernel
theorem d_X_copy_39 : decode prog_1_method_38_code 39 = .ok (.ifCond .ne 6, 3) := by decide +kernel
theorem d_X_copy_42 : decode prog_1_method_38_code 42 = .ok (.bipush (-11), 2) := by decide +kernel
theorem d_X_copy_44 : decode prog_1_method_38_code 44 = .ok (.ireturn, 1) := by decide +kernel
theorem d_X_copy_45 : decode prog_1_method_38_code 45 = .ok (.aload 6, 2) := by decide +kernel
theorem d_X_copy_47 : decode prog_1_method_38_code 47 = .ok (.getfield 33, 3) := by decide +kernel
theorem d_X_copy_50 : decode prog_1_method_38_code 50 = .ok (.iconst 2, 1) := by decide +kernel
theorem d_X_copy_51 : decode prog_1_method_38_code 51 = .ok (.if_icmp .ne 25, 3) := by decide +kernel
theorem d_X_copy_54 : decode prog_1_method_38_code 54 = .ok (.aload 7, 2) := by decide +kernel
theorem d_X_copy_56 : decode prog_1_method_38_code 56 = .ok (.getfield 33, 3) := by decide +kernel
theorem d_X_copy_59 : decode prog_1_method_38_code 59 = .ok (.iconst 2, 1) := by decide +kernel
theorem d_X_copy_60 : decode prog_1_method_38_code 60 = .ok (.if_icmp .ne 16, 3) := by decide +kernel
theorem d_X_copy_63 : decode prog_1_method_38_code 63 = .ok (.aload 6, 2) := by decide +kernel
theorem d_X_copy_65 : decode prog_1_method_38_code 65 = .ok (.getfield 37, 3) := by decide +kernel
theorem d_X_copy_68 : decode prog_1_method_38_code 68 = .ok (.aload 7, 2) := by decide +kernel
theorem d_X_copy_70 : decode prog_1_method_38_code 70 = .ok (.getfield 37, 3) := by decide +kernel
theorem d_X_copy_73 : decode prog_1_method_38_code 73 = .ok (.if_icmp .eq 6, 3) := by decide +kernel
theorem d_X_copy_76 : decode prog_1_method_38_code 76 = .ok (.bipush (-12), 2) := by decide +kernel
theorem d_X_copy_78 : decode prog_1_method_38_code 78 = .ok (.ireturn, 1) := by decide +kernel
theorem d_X_copy_79 : decode prog_1_method_38_code 79 = .ok (.aload 6, 2) := by decide +kernel
theorem d_X_copy_81 : decode prog_1_method_38_code 81 = .ok (.iload_n 2, 1) := by decide +kernel
theorem d_X_copy_82 : decode prog_1_method_38_code 82 = .ok (.iload 5, 2) := by decide +kernel
theorem d_X_copy_84 : decode prog_1_method_38_code 84 = .ok (.invokevirtual 247, 3) := by decide +kernel
theorem d_X_copy_87 : decode prog_1_method_38_code 87 = .ok (.ifCond .eq 15, 3) := by decide +kernel
theorem d_X_copy_90 : decode prog_1_method_38_code 90 = .ok (.aload 7, 2) := by decide +kernel
theorem d_X_copy_92 : decode prog_1_method_38_code 92 = .ok (.iload 4, 2) := by decide +kernel
theorem d_X_copy_94 : decode prog_1_method_38_code 94 = .ok (.iload 5, 2) := by decide +kernel
theorem d_X_copy_96 : decode prog_1_method_38_code 96 = .ok (.invokevirtual 247, 3) := by decide +kernel
theorem d_X_copy_99 : decode prog_1_method_38_code 99 = .ok (.ifCond .ne 6, 3) := by decide +kernel
theorem d_X_copy_102 : decode prog_1_method_38_code 102 = .ok (.bipush (-13), 2) := by decide +kernel
theorem d_X_copy_104 : decode prog_1_method_38_code 104 = .ok (.ireturn, 1) := by decide +kernel
theorem d_X_copy_105 : decode prog_1_method_38_code 105 = .ok (.aload 6, 2) := by decide +kernel
theorem d_X_copy_107 : decode prog_1_method_38_code 107 = .ok (.getfield 250, 3) := by decide +kernel
theorem d_X_copy_110 : decode prog_1_method_38_code 110 = .ok (.iload_n 2, 1) := by decide +kernel
theorem d_X_copy_111 : decode prog_1_method_38_code 111 = .ok (.aload 7, 2) := by decide +kernel
theorem d_X_copy_113 : decode prog_1_method_38_code 113 = .ok (.getfield 250, 3) := by decide +kernel
theorem d_X_copy_116 : decode prog_1_method_38_code 116 = .ok (.iload 4, 2) := by decide +kernel
theorem d_X_copy_118 : decode prog_1_method_38_code 118 = .ok (.iload 5, 2) := by decide +kernel
theorem d_X_copy_120 : decode prog_1_method_38_code 120 = .ok (.invokestatic 254, 3) := by decide +kernel
theorem d_X_copy_123 : decode prog_1_method_38_code 123 = .ok (.iload 5, 2) := by decide +kernel
theorem d_X_copy_125 : decode prog_1_method_38_code 125 = .ok (.ireturn, 1) := by decide +kernel
theorem gc_X_copy_29 : GoodIn yGW (wsV "WhoseGlass" 29 yR4 m_X_shelfAt ws_X_shelfAt) := y_gV g_222 g_224 gs_0 g_1 g_225
theorem gc_X_copy_247 : GoodIn yGW (wsV "WhoseGlass" 247 yR3 m_S_hasStretch ws_S_hasStretch) := y_gV g_639 g_640 g_641 g_5 g_642
set_option maxRecDepth 100000 in
def f_X_copy (F : Nat) (u : Mm) (o : Nat) (a1 : Int32) (a2 : Int32) (a3 : Int32) (a4 : Int32) (a5 : Int32) : Option (Int32 × Mm) := ob (jk YX 4 (some o)) fun t => yb (f_X_shelfAt F u t a1) fun r1 u2 => ob (jk YX 4 (some o)) fun t => yb (f_X_shelfAt F u2 t a3) fun r3 u4 => (if r1 = none then some ((-1 : Int32), u4) else (if r3 = none then some ((-1 : Int32), u4) else ob (jgi YX 3 0 u4 r1) fun (x7 : Int32) => (if x7 = 0 then some ((-11 : Int32), u4) else ob (jgi YX 3 0 u4 r3) fun (x9 : Int32) => (if x9 = 0 then some ((-11 : Int32), u4) else ob (jgi YX 3 0 u4 r1) fun (x11 : Int32) => (if x11 = (2 : Int32) then ob (jgi YX 3 0 u4 r3) fun (x13 : Int32) => (if x13 = (2 : Int32) then ob (jgi YX 3 3 u4 r1) fun (x15 : Int32) => ob (jgi YX 3 3 u4 r3) fun (x16 : Int32) => (if x15 = x16 then ob (jk YX 3 r1) fun t => yb (f_S_hasStretch F u4 t a2 a5) fun x18 u19 => (if x18 = 0 then some ((-13 : Int32), u19) else ob (jk YX 3 r3) fun t => yb (f_S_hasStretch F u19 t a4 a5) fun x21 u22 => (if x21 = 0 then some ((-13 : Int32), u22) else ob (jgr YX 3 5 r1) fun (r24 : Option Nat) => ob (jgr YX 3 5 r3) fun (r25 : Option Nat) => ob (jcp YX u22 r24 a2 r25 a4 a5) fun (u26 : Mm) => some (a5, u26))) else some ((-12 : Int32), u4)) else some ((-12 : Int32), u4)) else some ((-12 : Int32), u4))))))
set_option maxHeartbeats 4000000 in
set_option maxRecDepth 100000 in
theorem c_X_copy (l : Launch) (w : WP) (F : Nat) (u : Mm) (o : Nat) (a1 : Int32) (a2 : Int32) (a3 : Int32) (a4 : Int32) (a5 : Int32) (out : Int32 × Mm) (h : f_X_copy F u o a1 a2 a3 a4 a5 = some out) : yMet l m_X_copy ws_X_copy ({ frames := 1, cells := 0, slots := 0, locals := 40 } : Room) YX w u [va_re w.1 (some o), .int a1, .int a2, .int a3, .int a4, .int a5] yfi out := by
  refine y_entry (own := "WhoseGlass") (lv := [(0, va_re w.1 (some o)), (1, .int a1), (2, .int a2), (3, .int a3), (4, .int a4), (5, .int a5)]) (by decide +kernel) rfl (by simp [lv_args, y_cat, y_catI, y_catJ]) (by simp [lg_sl, y_cat, y_catI, y_catJ]) ?_
  intro p e s m args below meth c C hr hlocks
  unfold f_X_copy at h
  refine y_aload_n C (i := 0) 0 d_X_copy_0 rfl rfl ?_
  refine y_iload_n C (i := 1) 1 d_X_copy_1 rfl rfl ?_
  refine y_callV 1 C (q := (yR4, yT4, 5)) (ci := 4) (fun t out hh => c_X_shelfAt l w F u t a1 out hh) gc_X_copy_29 rfl (by decide) hd_X_shelfAt ⟨Nat.le_of_ble_eq_true rfl, Nat.le_of_ble_eq_true rfl⟩ rfl rfl rfl rfl (by simp [y_cat, y_catI, y_catJ]) d_X_copy_2 h (fun r1 u2 h => ?_)
  refine y_stk (stp0 := [va_re w.1 r1]) rfl ?_
  refine y_astore C (i := 6) (lvp := [(0, va_re w.1 (some o)), (1, .int a1), (2, .int a2), (3, .int a3), (4, .int a4), (5, .int a5)]) d_X_copy_5 (by decide) (by simp [List.filter, y_cat, y_catI, y_catJ]) ?_
  refine y_aload_n C (i := 0) 1 d_X_copy_7 rfl rfl ?_
  refine y_iload_n C (i := 3) 4 d_X_copy_8 rfl rfl ?_
  refine y_callV 1 C (q := (yR4, yT4, 5)) (ci := 4) (fun t out hh => c_X_shelfAt l w F u2 t a3 out hh) gc_X_copy_29 rfl (by decide) hd_X_shelfAt ⟨Nat.le_of_ble_eq_true rfl, Nat.le_of_ble_eq_true rfl⟩ rfl rfl rfl rfl (by simp [y_cat, y_catI, y_catJ]) d_X_copy_9 h (fun r3 u4 h => ?_)
  refine y_stk (stp0 := [va_re w.1 r3]) rfl ?_
  refine y_astore C (i := 7) (lvp := [(6, va_re w.1 r1), (0, va_re w.1 (some o)), (1, .int a1), (2, .int a2), (3, .int a3), (4, .int a4), (5, .int a5)]) d_X_copy_12 (by decide) (by simp [List.filter, y_cat, y_catI, y_catJ]) ?_
  refine y_aload C (i := 6) 1 d_X_copy_14 rfl ?_
  refine y_ifnull C 24 d_X_copy_16 (by decide) h (fun k5 h => ?_) (fun k5 h => ?_)
  · refine y_iconst C (v := -1) d_X_copy_24 (by decide) ?_
    exact y_iret C hr hlocks d_X_copy_25 h
  · refine y_aload C (i := 7) 0 d_X_copy_19 rfl ?_
    refine y_ifnonnull C 26 d_X_copy_21 (by decide) h (fun k6 h => ?_) (fun k6 h => ?_)
    · refine y_iconst C (v := -1) d_X_copy_24 (by decide) ?_
      exact y_iret C hr hlocks d_X_copy_25 h
    · refine y_aload C (i := 6) 1 d_X_copy_26 rfl ?_
      refine y_gi C (q := (yR3, yT3, 6)) (ci := 3) (k := 0) rfl (by decide) rfl g_176 d_X_copy_28 h (fun x7 h => ?_)
      refine y_if_eq C 42 d_X_copy_31 (by decide) h (fun k8 h => ?_) (fun k8 h => ?_)
      · refine y_bipush C (v := -11) d_X_copy_42 (by decide) ?_
        exact y_iret C hr hlocks d_X_copy_44 h
      · refine y_aload C (i := 7) 0 d_X_copy_34 rfl ?_
        refine y_gi C (q := (yR3, yT3, 6)) (ci := 3) (k := 0) rfl (by decide) rfl g_176 d_X_copy_36 h (fun x9 h => ?_)
        refine y_if_ne C 45 d_X_copy_39 (by decide) h (fun k10 h => ?_) (fun k10 h => ?_)
        · refine y_bipush C (v := -11) d_X_copy_42 (by decide) ?_
          exact y_iret C hr hlocks d_X_copy_44 h
        · refine y_aload C (i := 6) 1 d_X_copy_45 rfl ?_
          refine y_gi C (q := (yR3, yT3, 6)) (ci := 3) (k := 0) rfl (by decide) rfl g_176 d_X_copy_47 h (fun x11 h => ?_)
          refine y_iconst C (v := 2) d_X_copy_50 (by decide) ?_
          refine y_ic_ne C 76 d_X_copy_51 (by decide) h (fun k12 h => ?_) (fun k12 h => ?_)
          · refine y_aload C (i := 7) 0 d_X_copy_54 rfl ?_
            refine y_gi C (q := (yR3, yT3, 6)) (ci := 3) (k := 0) rfl (by decide) rfl g_176 d_X_copy_56 h (fun x13 h => ?_)
            refine y_iconst C (v := 2) d_X_copy_59 (by decide) ?_
            refine y_ic_ne C 76 d_X_copy_60 (by decide) h (fun k14 h => ?_) (fun k14 h => ?_)
            · refine y_aload C (i := 6) 1 d_X_copy_63 rfl ?_
              refine y_gi C (q := (yR3, yT3, 6)) (ci := 3) (k := 3) rfl (by decide) rfl g_181 d_X_copy_65 h (fun x15 h => ?_)
              refine y_aload C (i := 7) 0 d_X_copy_68 rfl ?_
              refine y_gi C (q := (yR3, yT3, 6)) (ci := 3) (k := 3) rfl (by decide) rfl g_181 d_X_copy_70 h (fun x16 h => ?_)
              refine y_ic_eq C 79 d_X_copy_73 (by decide) h (fun k17 h => ?_) (fun k17 h => ?_)
              · refine y_aload C (i := 6) 1 d_X_copy_79 rfl ?_
                refine y_iload_n C (i := 2) 4 d_X_copy_81 rfl rfl ?_
                refine y_iload C (i := 5) 7 d_X_copy_82 rfl ?_
                refine y_callV 2 C (q := (yR3, yT3, 6)) (ci := 3) (fun t out hh => c_S_hasStretch l w F u4 t a2 a5 out hh) gc_X_copy_247 rfl (by decide) hd_S_hasStretch ⟨Nat.le_of_ble_eq_true rfl, Nat.le_of_ble_eq_true rfl⟩ rfl rfl rfl rfl (by simp [y_cat, y_catI, y_catJ]) d_X_copy_84 h (fun x18 u19 h => ?_)
                refine y_stk (stp0 := [.int x18]) rfl ?_
                refine y_if_eq C 102 d_X_copy_87 (by decide) h (fun k20 h => ?_) (fun k20 h => ?_)
                · refine y_bipush C (v := -13) d_X_copy_102 (by decide) ?_
                  exact y_iret C hr hlocks d_X_copy_104 h
                · refine y_aload C (i := 7) 0 d_X_copy_90 rfl ?_
                  refine y_iload C (i := 4) 6 d_X_copy_92 rfl ?_
                  refine y_iload C (i := 5) 7 d_X_copy_94 rfl ?_
                  refine y_callV 2 C (q := (yR3, yT3, 6)) (ci := 3) (fun t out hh => c_S_hasStretch l w F u19 t a4 a5 out hh) gc_X_copy_247 rfl (by decide) hd_S_hasStretch ⟨Nat.le_of_ble_eq_true rfl, Nat.le_of_ble_eq_true rfl⟩ rfl rfl rfl rfl (by simp [y_cat, y_catI, y_catJ]) d_X_copy_96 h (fun x21 u22 h => ?_)
                  refine y_stk (stp0 := [.int x21]) rfl ?_
                  refine y_if_ne C 105 d_X_copy_99 (by decide) h (fun k23 h => ?_) (fun k23 h => ?_)
                  · refine y_bipush C (v := -13) d_X_copy_102 (by decide) ?_
                    exact y_iret C hr hlocks d_X_copy_104 h
                  · refine y_aload C (i := 6) 1 d_X_copy_105 rfl ?_
                    refine y_gr C (q := (yR3, yT3, 6)) (ci := 3) (k := 5) rfl (by decide) rfl (by decide) g_187 d_X_copy_107 h (fun r24 h => ?_)
                    refine y_iload_n C (i := 2) 4 d_X_copy_110 rfl rfl ?_
                    refine y_aload C (i := 7) 0 d_X_copy_111 rfl ?_
                    refine y_gr C (q := (yR3, yT3, 6)) (ci := 3) (k := 5) rfl (by decide) rfl (by decide) g_187 d_X_copy_113 h (fun r25 h => ?_)
                    refine y_iload C (i := 4) 6 d_X_copy_116 rfl ?_
                    refine y_iload C (i := 5) 7 d_X_copy_118 rfl ?_
                    refine y_cpy C g_643 g_645 g_644 g_14 (Nat.le_of_ble_eq_true rfl) (by simp [y_cat, y_catI, y_catJ]; decide +kernel) d_X_copy_120 h (fun u26 h => ?_)
                    refine y_iload C (i := 5) 7 d_X_copy_123 rfl ?_
                    exact y_iret C hr hlocks d_X_copy_125 h
              · refine y_bipush C (v := -12) d_X_copy_76 (by decide) ?_
                exact y_iret C hr hlocks d_X_copy_78 h
            · refine y_bipush C (v := -12) d_X_copy_76 (by decide) ?_
              exact y_iret C hr hlocks d_X_copy_78 h
          · refine y_bipush C (v := -12) d_X_copy_76 (by decide) ?_
            exact y_iret C hr hlocks d_X_copy_78 h
