/-! S_glassCost -/
theorem d_S_glassCost_0 : decode prog_6_method_9_code 0 = .ok (.aload_n 0, 1) := by decide +kernel
theorem d_S_glassCost_1 : decode prog_6_method_9_code 1 = .ok (.getfield 30, 3) := by decide +kernel
theorem d_S_glassCost_4 : decode prog_6_method_9_code 4 = .ok (.tableswitch 77 1 7 #[44, 51, 53, 55, 58, 66, 68], 44) := by decide +kernel
theorem d_S_glassCost_48 : decode prog_6_method_9_code 48 = .ok (.iconst 2, 1) := by decide +kernel
theorem d_S_glassCost_49 : decode prog_6_method_9_code 49 = .ok (.aload_n 0, 1) := by decide +kernel
theorem d_S_glassCost_50 : decode prog_6_method_9_code 50 = .ok (.getfield 33, 3) := by decide +kernel
theorem d_S_glassCost_53 : decode prog_6_method_9_code 53 = .ok (.iadd, 1) := by decide +kernel
theorem d_S_glassCost_54 : decode prog_6_method_9_code 54 = .ok (.ireturn, 1) := by decide +kernel
theorem d_S_glassCost_55 : decode prog_6_method_9_code 55 = .ok (.iconst 3, 1) := by decide +kernel
theorem d_S_glassCost_56 : decode prog_6_method_9_code 56 = .ok (.ireturn, 1) := by decide +kernel
theorem d_S_glassCost_57 : decode prog_6_method_9_code 57 = .ok (.iconst 4, 1) := by decide +kernel
theorem d_S_glassCost_58 : decode prog_6_method_9_code 58 = .ok (.ireturn, 1) := by decide +kernel
theorem d_S_glassCost_59 : decode prog_6_method_9_code 59 = .ok (.bipush 6, 2) := by decide +kernel
theorem d_S_glassCost_61 : decode prog_6_method_9_code 61 = .ok (.ireturn, 1) := by decide +kernel
theorem d_S_glassCost_62 : decode prog_6_method_9_code 62 = .ok (.bipush 11, 2) := by decide +kernel
theorem d_S_glassCost_64 : decode prog_6_method_9_code 64 = .ok (.aload_n 0, 1) := by decide +kernel
theorem d_S_glassCost_65 : decode prog_6_method_9_code 65 = .ok (.getfield 33, 3) := by decide +kernel
theorem d_S_glassCost_68 : decode prog_6_method_9_code 68 = .ok (.iadd, 1) := by decide +kernel
theorem d_S_glassCost_69 : decode prog_6_method_9_code 69 = .ok (.ireturn, 1) := by decide +kernel
theorem d_S_glassCost_70 : decode prog_6_method_9_code 70 = .ok (.iconst 3, 1) := by decide +kernel
theorem d_S_glassCost_71 : decode prog_6_method_9_code 71 = .ok (.ireturn, 1) := by decide +kernel
theorem d_S_glassCost_72 : decode prog_6_method_9_code 72 = .ok (.iconst 4, 1) := by decide +kernel
theorem d_S_glassCost_73 : decode prog_6_method_9_code 73 = .ok (.aload_n 0, 1) := by decide +kernel
theorem d_S_glassCost_74 : decode prog_6_method_9_code 74 = .ok (.getfield 33, 3) := by decide +kernel
theorem d_S_glassCost_77 : decode prog_6_method_9_code 77 = .ok (.iconst 1, 1) := by decide +kernel
theorem d_S_glassCost_78 : decode prog_6_method_9_code 78 = .ok (.iadd, 1) := by decide +kernel
theorem d_S_glassCost_79 : decode prog_6_method_9_code 79 = .ok (.imul, 1) := by decide +kernel
theorem d_S_glassCost_80 : decode prog_6_method_9_code 80 = .ok (.ireturn, 1) := by decide +kernel
theorem d_S_glassCost_81 : decode prog_6_method_9_code 81 = .ok (.iconst 2, 1) := by decide +kernel
theorem d_S_glassCost_82 : decode prog_6_method_9_code 82 = .ok (.ireturn, 1) := by decide +kernel
set_option maxRecDepth 100000 in
def f_S_glassCost (F : Nat) (u : Mm) (o : Nat) : Option (Int32 × Mm) := ob (jgi YX 3 1 u (some o)) fun (x1 : Int32) => (if x1 = (1 : Int32) then ob (jgi YX 3 2 u (some o)) fun (x3 : Int32) => some (((2 : Int32) + x3), u) else (if x1 = (2 : Int32) then some ((3 : Int32), u) else (if x1 = (3 : Int32) then some ((4 : Int32), u) else (if x1 = (4 : Int32) then some ((6 : Int32), u) else (if x1 = (5 : Int32) then ob (jgi YX 3 2 u (some o)) fun (x8 : Int32) => some (((11 : Int32) + x8), u) else (if x1 = (6 : Int32) then some ((3 : Int32), u) else (if x1 = (7 : Int32) then ob (jgi YX 3 2 u (some o)) fun (x11 : Int32) => some (((4 : Int32) * (x11 + (1 : Int32))), u) else some ((2 : Int32), u))))))))
set_option maxHeartbeats 4000000 in
set_option maxRecDepth 100000 in
theorem c_S_glassCost (l : Launch) (w : WP) (F : Nat) (u : Mm) (o : Nat) (out : Int32 × Mm) (h : f_S_glassCost F u o = some out) : yMet l m_S_glassCost ws_S_glassCost ({ frames := 0, cells := 0, slots := 0, locals := 0 } : Room) YX w u [va_re w.1 (some o)] yfi out := by
  refine y_entry (own := "WhoseGlass$Shelf") (lv := [(0, va_re w.1 (some o))]) (by decide +kernel) rfl (by simp [lv_args, y_cat, y_catI, y_catJ]) (by simp [lg_sl, y_cat, y_catI, y_catJ]) ?_
  intro p e s m args below meth c C hr hlocks
  unfold f_S_glassCost at h
  refine y_aload_n C (i := 0) 0 d_S_glassCost_0 rfl rfl ?_
  refine y_gi C (q := (yR3, yT3, 6)) (ci := 3) (k := 1) rfl (by decide) rfl g_178 d_S_glassCost_1 h (fun x1 h => ?_)
  refine y_sp h (fun k2 h => ?_) (fun k2 h => ?_)
  · refine y_tsw C (off := 44) 48 d_S_glassCost_4 (Or.inr ⟨by rw [k2]; decide, by rw [k2]; decide, by rw [k2]; rfl⟩) (by decide) ?_
    refine y_iconst C (v := 2) d_S_glassCost_48 (by decide) ?_
    refine y_aload_n C (i := 0) 0 d_S_glassCost_49 rfl rfl ?_
    refine y_gi C (q := (yR3, yT3, 6)) (ci := 3) (k := 2) rfl (by decide) rfl g_180 d_S_glassCost_50 h (fun x3 h => ?_)
    refine y_iadd C d_S_glassCost_53 ?_
    exact y_iret C hr hlocks d_S_glassCost_54 h
  refine y_sp h (fun k4 h => ?_) (fun k4 h => ?_)
  · refine y_tsw C (off := 51) 55 d_S_glassCost_4 (Or.inr ⟨by rw [k4]; decide, by rw [k4]; decide, by rw [k4]; rfl⟩) (by decide) ?_
    refine y_iconst C (v := 3) d_S_glassCost_55 (by decide) ?_
    exact y_iret C hr hlocks d_S_glassCost_56 h
  refine y_sp h (fun k5 h => ?_) (fun k5 h => ?_)
  · refine y_tsw C (off := 53) 57 d_S_glassCost_4 (Or.inr ⟨by rw [k5]; decide, by rw [k5]; decide, by rw [k5]; rfl⟩) (by decide) ?_
    refine y_iconst C (v := 4) d_S_glassCost_57 (by decide) ?_
    exact y_iret C hr hlocks d_S_glassCost_58 h
  refine y_sp h (fun k6 h => ?_) (fun k6 h => ?_)
  · refine y_tsw C (off := 55) 59 d_S_glassCost_4 (Or.inr ⟨by rw [k6]; decide, by rw [k6]; decide, by rw [k6]; rfl⟩) (by decide) ?_
    refine y_bipush C (v := 6) d_S_glassCost_59 (by decide) ?_
    exact y_iret C hr hlocks d_S_glassCost_61 h
  refine y_sp h (fun k7 h => ?_) (fun k7 h => ?_)
  · refine y_tsw C (off := 58) 62 d_S_glassCost_4 (Or.inr ⟨by rw [k7]; decide, by rw [k7]; decide, by rw [k7]; rfl⟩) (by decide) ?_
    refine y_bipush C (v := 11) d_S_glassCost_62 (by decide) ?_
    refine y_aload_n C (i := 0) 0 d_S_glassCost_64 rfl rfl ?_
    refine y_gi C (q := (yR3, yT3, 6)) (ci := 3) (k := 2) rfl (by decide) rfl g_180 d_S_glassCost_65 h (fun x8 h => ?_)
    refine y_iadd C d_S_glassCost_68 ?_
    exact y_iret C hr hlocks d_S_glassCost_69 h
  refine y_sp h (fun k9 h => ?_) (fun k9 h => ?_)
  · refine y_tsw C (off := 66) 70 d_S_glassCost_4 (Or.inr ⟨by rw [k9]; decide, by rw [k9]; decide, by rw [k9]; rfl⟩) (by decide) ?_
    refine y_iconst C (v := 3) d_S_glassCost_70 (by decide) ?_
    exact y_iret C hr hlocks d_S_glassCost_71 h
  refine y_sp h (fun k10 h => ?_) (fun k10 h => ?_)
  · refine y_tsw C (off := 68) 72 d_S_glassCost_4 (Or.inr ⟨by rw [k10]; decide, by rw [k10]; decide, by rw [k10]; rfl⟩) (by decide) ?_
    refine y_iconst C (v := 4) d_S_glassCost_72 (by decide) ?_
    refine y_aload_n C (i := 0) 0 d_S_glassCost_73 rfl rfl ?_
    refine y_gi C (q := (yR3, yT3, 6)) (ci := 3) (k := 2) rfl (by decide) rfl g_180 d_S_glassCost_74 h (fun x11 h => ?_)
    refine y_iconst C (v := 1) d_S_glassCost_77 (by decide) ?_
    refine y_iadd C d_S_glassCost_78 ?_
    refine y_imul C d_S_glassCost_79 ?_
    exact y_iret C hr hlocks d_S_glassCost_80 h
  refine y_tsw C (off := 77) 81 d_S_glassCost_4 (Or.inl ⟨by have ak2 := lv_neT (a := 1) k2 rfl; have ak4 := lv_neT (a := 2) k4 rfl; have ak5 := lv_neT (a := 3) k5 rfl; have ak6 := lv_neT (a := 4) k6 rfl; have ak7 := lv_neT (a := 5) k7 rfl; have ak9 := lv_neT (a := 6) k9 rfl; have ak10 := lv_neT (a := 7) k10 rfl; omega, rfl⟩) (by decide) ?_
  refine y_iconst C (v := 2) d_S_glassCost_81 (by decide) ?_
  exact y_iret C hr hlocks d_S_glassCost_82 h
/-! X_cost -/
theorem d_X_cost_0 : decode prog_1_method_39_code 0 = .ok (.aload_n 0, 1) := by decide +kernel
theorem d_X_cost_1 : decode prog_1_method_39_code 1 = .ok (.iload_n 1, 1) := by decide +kernel
theorem d_X_cost_2 : decode prog_1_method_39_code 2 = .ok (.invokevirtual 29, 3) := by decide +kernel
theorem d_X_cost_5 : decode prog_1_method_39_code 5 = .ok (.astore_n 2, 1) := by decide +kernel
theorem d_X_cost_6 : decode prog_1_method_39_code 6 = .ok (.aload_n 2, 1) := by decide +kernel
theorem d_X_cost_7 : decode prog_1_method_39_code 7 = .ok (.ifnonnull 5, 3) := by decide +kernel
theorem d_X_cost_10 : decode prog_1_method_39_code 10 = .ok (.iconst (-1), 1) := by decide +kernel
theorem d_X_cost_11 : decode prog_1_method_39_code 11 = .ok (.ireturn, 1) := by decide +kernel
theorem d_X_cost_12 : decode prog_1_method_39_code 12 = .ok (.aload_n 2, 1) := by decide +kernel
theorem d_X_cost_13 : decode prog_1_method_39_code 13 = .ok (.getfield 33, 3) := by decide +kernel
theorem d_X_cost_16 : decode prog_1_method_39_code 16 = .ok (.iconst 1, 1) := by decide +kernel
theorem d_X_cost_17 : decode prog_1_method_39_code 17 = .ok (.if_icmp .ne 10, 3) := by decide +kernel
theorem d_X_cost_20 : decode prog_1_method_39_code 20 = .ok (.aload_n 2, 1) := by decide +kernel
theorem d_X_cost_21 : decode prog_1_method_39_code 21 = .ok (.invokevirtual 260, 3) := by decide +kernel
theorem d_X_cost_24 : decode prog_1_method_39_code 24 = .ok (.goto 7, 3) := by decide +kernel
theorem d_X_cost_27 : decode prog_1_method_39_code 27 = .ok (.aload_n 2, 1) := by decide +kernel
theorem d_X_cost_28 : decode prog_1_method_39_code 28 = .ok (.invokevirtual 40, 3) := by decide +kernel
theorem d_X_cost_31 : decode prog_1_method_39_code 31 = .ok (.ireturn, 1) := by decide +kernel
theorem gc_X_cost_29 : GoodIn yGW (wsV "WhoseGlass" 29 yR4 m_X_shelfAt ws_X_shelfAt) := y_gV g_222 g_224 gs_0 g_1 g_225
theorem gc_X_cost_260 : GoodIn yGW (wsV "WhoseGlass" 260 yR3 m_S_glassCost ws_S_glassCost) := y_gV g_650 g_651 g_652 g_5 g_653
theorem gc_X_cost_40 : GoodIn yGW (wsV "WhoseGlass" 40 yR3 m_S_whyNot ws_S_whyNot) := y_gV g_226 g_227 g_228 g_5 g_229
set_option maxRecDepth 100000 in
def f_X_cost (F : Nat) (u : Mm) (o : Nat) (a1 : Int32) : Option (Int32 × Mm) := ob (jk YX 4 (some o)) fun t => yb (f_X_shelfAt F u t a1) fun r1 u2 => (if r1 = none then some ((-1 : Int32), u2) else ob (jgi YX 3 0 u2 r1) fun (x4 : Int32) => (if x4 = (1 : Int32) then ob (jk YX 3 r1) fun t => yb (f_S_glassCost F u2 t ) fun x6 u7 => some (x6, u7) else ob (jk YX 3 r1) fun t => yb (f_S_whyNot F u2 t ) fun x8 u9 => some (x8, u9)))
set_option maxHeartbeats 4000000 in
set_option maxRecDepth 100000 in
theorem c_X_cost (l : Launch) (w : WP) (F : Nat) (u : Mm) (o : Nat) (a1 : Int32) (out : Int32 × Mm) (h : f_X_cost F u o a1 = some out) : yMet l m_X_cost ws_X_cost ({ frames := 1, cells := 0, slots := 0, locals := 21 } : Room) YX w u [va_re w.1 (some o), .int a1] yfi out := by
  refine y_entry (own := "WhoseGlass") (lv := [(0, va_re w.1 (some o)), (1, .int a1)]) (by decide +kernel) rfl (by simp [lv_args, y_cat, y_catI, y_catJ]) (by simp [lg_sl, y_cat, y_catI, y_catJ]) ?_
  intro p e s m args below meth c C hr hlocks
  unfold f_X_cost at h
  refine y_aload_n C (i := 0) 0 d_X_cost_0 rfl rfl ?_
  refine y_iload_n C (i := 1) 1 d_X_cost_1 rfl rfl ?_
  refine y_callV 1 C (q := (yR4, yT4, 5)) (ci := 4) (fun t out hh => c_X_shelfAt l w F u t a1 out hh) gc_X_cost_29 rfl (by decide) hd_X_shelfAt ⟨Nat.le_of_ble_eq_true rfl, Nat.le_of_ble_eq_true rfl⟩ rfl rfl rfl rfl (by simp [y_cat, y_catI, y_catJ]) d_X_cost_2 h (fun r1 u2 h => ?_)
  refine y_stk (stp0 := [va_re w.1 r1]) rfl ?_
  refine y_astore_n C (i := 2) (lvp := [(0, va_re w.1 (some o)), (1, .int a1)]) d_X_cost_5 rfl (by decide) (by simp [List.filter, y_cat, y_catI, y_catJ]) ?_
  refine y_aload_n C (i := 2) 0 d_X_cost_6 rfl rfl ?_
  refine y_ifnonnull C 12 d_X_cost_7 (by decide) h (fun k3 h => ?_) (fun k3 h => ?_)
  · refine y_iconst C (v := -1) d_X_cost_10 (by decide) ?_
    exact y_iret C hr hlocks d_X_cost_11 h
  · refine y_aload_n C (i := 2) 0 d_X_cost_12 rfl rfl ?_
    refine y_gi C (q := (yR3, yT3, 6)) (ci := 3) (k := 0) rfl (by decide) rfl g_176 d_X_cost_13 h (fun x4 h => ?_)
    refine y_iconst C (v := 1) d_X_cost_16 (by decide) ?_
    refine y_ic_ne C 27 d_X_cost_17 (by decide) h (fun k5 h => ?_) (fun k5 h => ?_)
    · refine y_aload_n C (i := 2) 0 d_X_cost_20 rfl rfl ?_
      refine y_callV 0 C (q := (yR3, yT3, 6)) (ci := 3) (fun t out hh => c_S_glassCost l w F u2 t out hh) gc_X_cost_260 rfl (by decide) hd_S_glassCost ⟨Nat.le_of_ble_eq_true rfl, Nat.le_of_ble_eq_true rfl⟩ rfl rfl rfl rfl (by simp [y_cat, y_catI, y_catJ]) d_X_cost_21 h (fun x6 u7 h => ?_)
      refine y_stk (stp0 := [.int x6]) rfl ?_
      refine y_goto C (tgt := 31) d_X_cost_24 (by decide) ?_
      exact y_iret C hr hlocks d_X_cost_31 h
    · refine y_aload_n C (i := 2) 0 d_X_cost_27 rfl rfl ?_
      refine y_callV 0 C (q := (yR3, yT3, 6)) (ci := 3) (fun t out hh => c_S_whyNot l w F u2 t out hh) gc_X_cost_40 rfl (by decide) hd_S_whyNot ⟨Nat.le_of_ble_eq_true rfl, Nat.le_of_ble_eq_true rfl⟩ rfl rfl rfl rfl (by simp [y_cat, y_catI, y_catJ]) d_X_cost_28 h (fun x8 u9 h => ?_)
      refine y_stk (stp0 := [.int x8]) rfl ?_
      exact y_iret C hr hlocks d_X_cost_31 h
/-! M_thrown -/
theorem d_M_thrown_0 : decode prog_8_method_2_code 0 = .ok (.aload_n 0, 1) := by decide +kernel
theorem d_M_thrown_1 : decode prog_8_method_2_code 1 = .ok (.getfield 102, 3) := by decide +kernel
theorem d_M_thrown_4 : decode prog_8_method_2_code 4 = .ok (.ireturn, 1) := by decide +kernel
set_option maxRecDepth 100000 in
def f_M_thrown (F : Nat) (u : Mm) (o : Nat) : Option (Int32 × Mm) := ob (jgi YM 5 23 u (some o)) fun (x1 : Int32) => some (x1, u)
set_option maxHeartbeats 4000000 in
set_option maxRecDepth 100000 in
theorem c_M_thrown (l : Launch) (w : WP) (F : Nat) (u : Mm) (o : Nat) (out : Int32 × Mm) (h : f_M_thrown F u o = some out) : yMet l m_M_thrown ws_M_thrown ({ frames := 0, cells := 0, slots := 0, locals := 0 } : Room) YM w u [va_re w.1 (some o)] yfi out := by
  refine y_entry (own := "WhoseGlassModel") (lv := [(0, va_re w.1 (some o))]) (by decide +kernel) rfl (by simp [lv_args, y_cat, y_catI, y_catJ]) (by simp [lg_sl, y_cat, y_catI, y_catJ]) ?_
  intro p e s m args below meth c C hr hlocks
  unfold f_M_thrown at h
  refine y_aload_n C (i := 0) 0 d_M_thrown_0 rfl rfl ?_
  refine y_gi C (q := (yR5, yT5, 46)) (ci := 5) (k := 23) rfl (by decide) rfl g_807 d_M_thrown_1 h (fun x1 h => ?_)
  exact y_iret C hr hlocks d_M_thrown_4 h
/-! M_carry -/
theorem d_M_carry_0 : decode prog_8_method_23_code 0 = .ok (.aload_n 0, 1) := by decide +kernel
theorem d_M_carry_1 : decode prog_8_method_23_code 1 = .ok (.getfield 176, 3) := by decide +kernel
theorem d_M_carry_4 : decode prog_8_method_23_code 4 = .ok (.ifCond .eq 13, 3) := by decide +kernel
theorem d_M_carry_7 : decode prog_8_method_23_code 7 = .ok (.aload_n 0, 1) := by decide +kernel
theorem d_M_carry_8 : decode prog_8_method_23_code 8 = .ok (.getfield 180, 3) := by decide +kernel
theorem d_M_carry_11 : decode prog_8_method_23_code 11 = .ok (.aload_n 0, 1) := by decide +kernel
theorem d_M_carry_12 : decode prog_8_method_23_code 12 = .ok (.getfield 183, 3) := by decide +kernel
theorem d_M_carry_15 : decode prog_8_method_23_code 15 = .ok (.iload_n 1, 1) := by decide +kernel
theorem d_M_carry_16 : decode prog_8_method_23_code 16 = .ok (.iastore, 1) := by decide +kernel
theorem d_M_carry_17 : decode prog_8_method_23_code 17 = .ok (.aload_n 0, 1) := by decide +kernel
theorem d_M_carry_18 : decode prog_8_method_23_code 18 = .ok (.dup, 1) := by decide +kernel
theorem d_M_carry_19 : decode prog_8_method_23_code 19 = .ok (.getfield 183, 3) := by decide +kernel
theorem d_M_carry_22 : decode prog_8_method_23_code 22 = .ok (.iconst 1, 1) := by decide +kernel
theorem d_M_carry_23 : decode prog_8_method_23_code 23 = .ok (.iadd, 1) := by decide +kernel
theorem d_M_carry_24 : decode prog_8_method_23_code 24 = .ok (.putfield 183, 3) := by decide +kernel
theorem d_M_carry_27 : decode prog_8_method_23_code 27 = .ok (.aload_n 0, 1) := by decide +kernel
theorem d_M_carry_28 : decode prog_8_method_23_code 28 = .ok (.getfield 180, 3) := by decide +kernel
theorem d_M_carry_31 : decode prog_8_method_23_code 31 = .ok (.aload_n 0, 1) := by decide +kernel
theorem d_M_carry_32 : decode prog_8_method_23_code 32 = .ok (.getfield 183, 3) := by decide +kernel
theorem d_M_carry_35 : decode prog_8_method_23_code 35 = .ok (.iconst 1, 1) := by decide +kernel
theorem d_M_carry_36 : decode prog_8_method_23_code 36 = .ok (.isub, 1) := by decide +kernel
theorem d_M_carry_37 : decode prog_8_method_23_code 37 = .ok (.iaload, 1) := by decide +kernel
theorem d_M_carry_38 : decode prog_8_method_23_code 38 = .ok (.ireturn, 1) := by decide +kernel
set_option maxRecDepth 100000 in
def f_M_carry (F : Nat) (u : Mm) (o : Nat) (a1 : Int32) : Option (Int32 × Mm) := ob (jgi YM 5 28 u (some o)) fun (x1 : Int32) => ob ((if x1 = 0 then some u else ob (jgk YM u (some o)) fun (r4 : Option Nat) => ob (jgi YM 5 27 u (some o)) fun (x5 : Int32) => ob (jas YM u r4 x5 a1) fun (u6 : Mm) => some u6) : Option (Mm)) fun q2 => ob (jgi YM 5 27 q2 (some o)) fun (x7 : Int32) => ob (jpi YM 5 27 q2 (some o) (x7 + (1 : Int32))) fun (u8 : Mm) => ob (jgk YM u8 (some o)) fun (r9 : Option Nat) => ob (jgi YM 5 27 u8 (some o)) fun (x10 : Int32) => ob (jal YM u8 r9 (x10 - (1 : Int32))) fun (x11 : Int32) => some (x11, u8)
set_option maxHeartbeats 4000000 in
set_option maxRecDepth 100000 in
theorem c_M_carry (l : Launch) (w : WP) (F : Nat) (u : Mm) (o : Nat) (a1 : Int32) (out : Int32 × Mm) (h : f_M_carry F u o a1 = some out) : yMet l m_M_carry ws_M_carry ({ frames := 0, cells := 0, slots := 0, locals := 0 } : Room) YM w u [va_re w.1 (some o), .int a1] yfi out := by
  refine y_entry (own := "WhoseGlassModel") (lv := [(0, va_re w.1 (some o)), (1, .int a1)]) (by decide +kernel) rfl (by simp [lv_args, y_cat, y_catI, y_catJ]) (by simp [lg_sl, y_cat, y_catI, y_catJ]) ?_
  intro p e s m args below meth c C hr hlocks
  unfold f_M_carry at h
  refine y_aload_n C (i := 0) 0 d_M_carry_0 rfl rfl ?_
  refine y_gi C (q := (yR5, yT5, 46)) (ci := 5) (k := 28) rfl (by decide) rfl g_812 d_M_carry_1 h (fun x1 h => ?_)
  obtain ⟨q2, hq2, h⟩ := ob_e h
  have hJq2 : yG p l e ({ frames := 0, cells := 0, slots := 0, locals := 0 } : Room) s m args below meth c YM w 2 (MQ below (yQ YM w yfi out) args s 0 0 (yA YM w)) q2 17 [(0, va_re w.1 (some o))] [] := by
    refine y_aload_n C (i := 0) 0 d_M_carry_17 rfl rfl ?_
    refine y_dup C d_M_carry_18 (y_cat _ _) ?_
    refine y_gi C (q := (yR5, yT5, 46)) (ci := 5) (k := 27) rfl (by decide) rfl g_811 d_M_carry_19 h (fun x7 h => ?_)
    refine y_iconst C (v := 1) d_M_carry_22 (by decide) ?_
    refine y_iadd C d_M_carry_23 ?_
    refine y_pi C (q := (yR5, yT5, 46)) (ci := 5) (k := 27) rfl (by decide) rfl rfl (by decide +kernel) g_811 d_M_carry_24 h (fun u8 h => ?_)
    refine y_aload_n C (i := 0) 0 d_M_carry_27 rfl rfl ?_
    refine y_gk C (q := (yR5, yT5, 46)) rfl (by decide) g_813 d_M_carry_28 h (fun r9 h => ?_)
    refine y_aload_n C (i := 0) 0 d_M_carry_31 rfl rfl ?_
    refine y_gi C (q := (yR5, yT5, 46)) (ci := 5) (k := 27) rfl (by decide) rfl g_811 d_M_carry_32 h (fun x10 h => ?_)
    refine y_iconst C (v := 1) d_M_carry_35 (by decide) ?_
    refine y_isub C d_M_carry_36 ?_
    refine y_al C d_M_carry_37 h (fun x11 h => ?_)
    exact y_iret C hr hlocks d_M_carry_38 h
  refine y_if_eq C 17 d_M_carry_4 (by decide) hq2 (fun k3 hq2 => ?_) (fun k3 hq2 => ?_)
  · cases hq2
    exact y_sub [0] rfl hJq2
  · refine y_aload_n C (i := 0) 0 d_M_carry_7 rfl rfl ?_
    refine y_gk C (q := (yR5, yT5, 46)) rfl (by decide) g_813 d_M_carry_8 hq2 (fun r4 hq2 => ?_)
    refine y_aload_n C (i := 0) 0 d_M_carry_11 rfl rfl ?_
    refine y_gi C (q := (yR5, yT5, 46)) (ci := 5) (k := 27) rfl (by decide) rfl g_811 d_M_carry_12 hq2 (fun x5 hq2 => ?_)
    refine y_iload_n C (i := 1) 1 d_M_carry_15 rfl rfl ?_
    refine y_as C d_M_carry_16 hq2 (fun u6 hq2 => ?_)
    cases hq2
    exact y_sub [0] rfl hJq2
/-! M_carryAll -/
theorem d_M_carryAll_0 : decode prog_8_method_24_code 0 = .ok (.aload_n 0, 1) := by decide +kernel
theorem d_M_carryAll_1 : decode prog_8_method_24_code 1 = .ok (.aload_n 1, 1) := by decide +kernel
theorem d_M_carryAll_2 : decode prog_8_method_24_code 2 = .ok (.putfield 180, 3) := by decide +kernel
theorem d_M_carryAll_5 : decode prog_8_method_24_code 5 = .ok (.aload_n 0, 1) := by decide +kernel
theorem d_M_carryAll_6 : decode prog_8_method_24_code 6 = .ok (.iload_n 2, 1) := by decide +kernel
theorem d_M_carryAll_7 : decode prog_8_method_24_code 7 = .ok (.putfield 176, 3) := by decide +kernel
theorem d_M_carryAll_10 : decode prog_8_method_24_code 10 = .ok (.aload_n 0, 1) := by decide +kernel
theorem d_M_carryAll_11 : decode prog_8_method_24_code 11 = .ok (.iconst 0, 1) := by decide +kernel
theorem d_M_carryAll_12 : decode prog_8_method_24_code 12 = .ok (.putfield 183, 3) := by decide +kernel
theorem d_M_carryAll_15 : decode prog_8_method_24_code 15 = .ok (.aload_n 0, 1) := by decide +kernel
theorem d_M_carryAll_16 : decode prog_8_method_24_code 16 = .ok (.aload_n 0, 1) := by decide +kernel
theorem d_M_carryAll_17 : decode prog_8_method_24_code 17 = .ok (.aload_n 0, 1) := by decide +kernel
theorem d_M_carryAll_18 : decode prog_8_method_24_code 18 = .ok (.getfield 105, 3) := by decide +kernel
theorem d_M_carryAll_21 : decode prog_8_method_24_code 21 = .ok (.invokevirtual 186, 3) := by decide +kernel
theorem d_M_carryAll_24 : decode prog_8_method_24_code 24 = .ok (.putfield 105, 3) := by decide +kernel
theorem d_M_carryAll_27 : decode prog_8_method_24_code 27 = .ok (.aload_n 0, 1) := by decide +kernel
theorem d_M_carryAll_28 : decode prog_8_method_24_code 28 = .ok (.aload_n 0, 1) := by decide +kernel
theorem d_M_carryAll_29 : decode prog_8_method_24_code 29 = .ok (.aload_n 0, 1) := by decide +kernel
theorem d_M_carryAll_30 : decode prog_8_method_24_code 30 = .ok (.getfield 112, 3) := by decide +kernel
theorem d_M_carryAll_33 : decode prog_8_method_24_code 33 = .ok (.invokevirtual 186, 3) := by decide +kernel
theorem d_M_carryAll_36 : decode prog_8_method_24_code 36 = .ok (.putfield 112, 3) := by decide +kernel
theorem d_M_carryAll_39 : decode prog_8_method_24_code 39 = .ok (.aload_n 0, 1) := by decide +kernel
theorem d_M_carryAll_40 : decode prog_8_method_24_code 40 = .ok (.aload_n 0, 1) := by decide +kernel
theorem d_M_carryAll_41 : decode prog_8_method_24_code 41 = .ok (.aload_n 0, 1) := by decide +kernel
theorem d_M_carryAll_42 : decode prog_8_method_24_code 42 = .ok (.getfield 7, 3) := by decide +kernel
theorem d_M_carryAll_45 : decode prog_8_method_24_code 45 = .ok (.invokevirtual 186, 3) := by decide +kernel
theorem d_M_carryAll_48 : decode prog_8_method_24_code 48 = .ok (.putfield 7, 3) := by decide +kernel
theorem d_M_carryAll_51 : decode prog_8_method_24_code 51 = .ok (.aload_n 0, 1) := by decide +kernel
theorem d_M_carryAll_52 : decode prog_8_method_24_code 52 = .ok (.aload_n 0, 1) := by decide +kernel
theorem d_M_carryAll_53 : decode prog_8_method_24_code 53 = .ok (.aload_n 0, 1) := by decide +kernel
theorem d_M_carryAll_54 : decode prog_8_method_24_code 54 = .ok (.getfield 133, 3) := by decide +kernel
theorem d_M_carryAll_57 : decode prog_8_method_24_code 57 = .ok (.invokevirtual 186, 3) := by decide +kernel
theorem d_M_carryAll_60 : decode prog_8_method_24_code 60 = .ok (.putfield 133, 3) := by decide +kernel
theorem d_M_carryAll_63 : decode prog_8_method_24_code 63 = .ok (.iconst 0, 1) := by decide +kernel
theorem d_M_carryAll_64 : decode prog_8_method_24_code 64 = .ok (.istore_n 3, 1) := by decide +kernel
theorem d_M_carryAll_65 : decode prog_8_method_24_code 65 = .ok (.iload_n 3, 1) := by decide +kernel
theorem d_M_carryAll_66 : decode prog_8_method_24_code 66 = .ok (.bipush 12, 2) := by decide +kernel
theorem d_M_carryAll_68 : decode prog_8_method_24_code 68 = .ok (.if_icmp .ge 121, 3) := by decide +kernel
theorem d_M_carryAll_71 : decode prog_8_method_24_code 71 = .ok (.aload_n 0, 1) := by decide +kernel
theorem d_M_carryAll_72 : decode prog_8_method_24_code 72 = .ok (.getfield 13, 3) := by decide +kernel
theorem d_M_carryAll_75 : decode prog_8_method_24_code 75 = .ok (.iload_n 3, 1) := by decide +kernel
theorem d_M_carryAll_76 : decode prog_8_method_24_code 76 = .ok (.aload_n 0, 1) := by decide +kernel
theorem d_M_carryAll_77 : decode prog_8_method_24_code 77 = .ok (.aload_n 0, 1) := by decide +kernel
theorem d_M_carryAll_78 : decode prog_8_method_24_code 78 = .ok (.getfield 13, 3) := by decide +kernel
theorem d_M_carryAll_81 : decode prog_8_method_24_code 81 = .ok (.iload_n 3, 1) := by decide +kernel
theorem d_M_carryAll_82 : decode prog_8_method_24_code 82 = .ok (.iaload, 1) := by decide +kernel
theorem d_M_carryAll_83 : decode prog_8_method_24_code 83 = .ok (.invokevirtual 186, 3) := by decide +kernel
theorem d_M_carryAll_86 : decode prog_8_method_24_code 86 = .ok (.iastore, 1) := by decide +kernel
theorem d_M_carryAll_87 : decode prog_8_method_24_code 87 = .ok (.aload_n 0, 1) := by decide +kernel
theorem d_M_carryAll_88 : decode prog_8_method_24_code 88 = .ok (.getfield 17, 3) := by decide +kernel
theorem d_M_carryAll_91 : decode prog_8_method_24_code 91 = .ok (.iload_n 3, 1) := by decide +kernel
theorem d_M_carryAll_92 : decode prog_8_method_24_code 92 = .ok (.aload_n 0, 1) := by decide +kernel
theorem d_M_carryAll_93 : decode prog_8_method_24_code 93 = .ok (.aload_n 0, 1) := by decide +kernel
theorem d_M_carryAll_94 : decode prog_8_method_24_code 94 = .ok (.getfield 17, 3) := by decide +kernel
theorem d_M_carryAll_97 : decode prog_8_method_24_code 97 = .ok (.iload_n 3, 1) := by decide +kernel
theorem d_M_carryAll_98 : decode prog_8_method_24_code 98 = .ok (.iaload, 1) := by decide +kernel
theorem d_M_carryAll_99 : decode prog_8_method_24_code 99 = .ok (.invokevirtual 186, 3) := by decide +kernel
theorem d_M_carryAll_102 : decode prog_8_method_24_code 102 = .ok (.iastore, 1) := by decide +kernel
theorem d_M_carryAll_103 : decode prog_8_method_24_code 103 = .ok (.aload_n 0, 1) := by decide +kernel
theorem d_M_carryAll_104 : decode prog_8_method_24_code 104 = .ok (.getfield 20, 3) := by decide +kernel
theorem d_M_carryAll_107 : decode prog_8_method_24_code 107 = .ok (.iload_n 3, 1) := by decide +kernel
theorem d_M_carryAll_108 : decode prog_8_method_24_code 108 = .ok (.aload_n 0, 1) := by decide +kernel
theorem d_M_carryAll_109 : decode prog_8_method_24_code 109 = .ok (.aload_n 0, 1) := by decide +kernel
theorem d_M_carryAll_110 : decode prog_8_method_24_code 110 = .ok (.getfield 20, 3) := by decide +kernel
theorem d_M_carryAll_113 : decode prog_8_method_24_code 113 = .ok (.iload_n 3, 1) := by decide +kernel
theorem d_M_carryAll_114 : decode prog_8_method_24_code 114 = .ok (.iaload, 1) := by decide +kernel
theorem d_M_carryAll_115 : decode prog_8_method_24_code 115 = .ok (.invokevirtual 186, 3) := by decide +kernel
theorem d_M_carryAll_118 : decode prog_8_method_24_code 118 = .ok (.iastore, 1) := by decide +kernel
theorem d_M_carryAll_119 : decode prog_8_method_24_code 119 = .ok (.aload_n 0, 1) := by decide +kernel
theorem d_M_carryAll_120 : decode prog_8_method_24_code 120 = .ok (.getfield 23, 3) := by decide +kernel
theorem d_M_carryAll_123 : decode prog_8_method_24_code 123 = .ok (.iload_n 3, 1) := by decide +kernel
theorem d_M_carryAll_124 : decode prog_8_method_24_code 124 = .ok (.aload_n 0, 1) := by decide +kernel
theorem d_M_carryAll_125 : decode prog_8_method_24_code 125 = .ok (.aload_n 0, 1) := by decide +kernel
theorem d_M_carryAll_126 : decode prog_8_method_24_code 126 = .ok (.getfield 23, 3) := by decide +kernel
theorem d_M_carryAll_129 : decode prog_8_method_24_code 129 = .ok (.iload_n 3, 1) := by decide +kernel
theorem d_M_carryAll_130 : decode prog_8_method_24_code 130 = .ok (.iaload, 1) := by decide +kernel
theorem d_M_carryAll_131 : decode prog_8_method_24_code 131 = .ok (.invokevirtual 186, 3) := by decide +kernel
theorem d_M_carryAll_134 : decode prog_8_method_24_code 134 = .ok (.iastore, 1) := by decide +kernel
theorem d_M_carryAll_135 : decode prog_8_method_24_code 135 = .ok (.aload_n 0, 1) := by decide +kernel
theorem d_M_carryAll_136 : decode prog_8_method_24_code 136 = .ok (.getfield 26, 3) := by decide +kernel
theorem d_M_carryAll_139 : decode prog_8_method_24_code 139 = .ok (.iload_n 3, 1) := by decide +kernel
theorem d_M_carryAll_140 : decode prog_8_method_24_code 140 = .ok (.aload_n 0, 1) := by decide +kernel
theorem d_M_carryAll_141 : decode prog_8_method_24_code 141 = .ok (.aload_n 0, 1) := by decide +kernel
theorem d_M_carryAll_142 : decode prog_8_method_24_code 142 = .ok (.getfield 26, 3) := by decide +kernel
theorem d_M_carryAll_145 : decode prog_8_method_24_code 145 = .ok (.iload_n 3, 1) := by decide +kernel
theorem d_M_carryAll_146 : decode prog_8_method_24_code 146 = .ok (.iaload, 1) := by decide +kernel
theorem d_M_carryAll_147 : decode prog_8_method_24_code 147 = .ok (.invokevirtual 186, 3) := by decide +kernel
theorem d_M_carryAll_150 : decode prog_8_method_24_code 150 = .ok (.iastore, 1) := by decide +kernel
theorem d_M_carryAll_151 : decode prog_8_method_24_code 151 = .ok (.aload_n 0, 1) := by decide +kernel
theorem d_M_carryAll_152 : decode prog_8_method_24_code 152 = .ok (.getfield 29, 3) := by decide +kernel
theorem d_M_carryAll_155 : decode prog_8_method_24_code 155 = .ok (.iload_n 3, 1) := by decide +kernel
theorem d_M_carryAll_156 : decode prog_8_method_24_code 156 = .ok (.aload_n 0, 1) := by decide +kernel
theorem d_M_carryAll_157 : decode prog_8_method_24_code 157 = .ok (.aload_n 0, 1) := by decide +kernel
theorem d_M_carryAll_158 : decode prog_8_method_24_code 158 = .ok (.getfield 29, 3) := by decide +kernel
theorem d_M_carryAll_161 : decode prog_8_method_24_code 161 = .ok (.iload_n 3, 1) := by decide +kernel
theorem d_M_carryAll_162 : decode prog_8_method_24_code 162 = .ok (.iaload, 1) := by decide +kernel
theorem d_M_carryAll_163 : decode prog_8_method_24_code 163 = .ok (.invokevirtual 186, 3) := by decide +kernel
theorem d_M_carryAll_166 : decode prog_8_method_24_code 166 = .ok (.iastore, 1) := by decide +kernel
theorem d_M_carryAll_167 : decode prog_8_method_24_code 167 = .ok (.aload_n 0, 1) := by decide +kernel
theorem d_M_carryAll_168 : decode prog_8_method_24_code 168 = .ok (.getfield 32, 3) := by decide +kernel
theorem d_M_carryAll_171 : decode prog_8_method_24_code 171 = .ok (.iload_n 3, 1) := by decide +kernel
theorem d_M_carryAll_172 : decode prog_8_method_24_code 172 = .ok (.aload_n 0, 1) := by decide +kernel
theorem d_M_carryAll_173 : decode prog_8_method_24_code 173 = .ok (.aload_n 0, 1) := by decide +kernel
theorem d_M_carryAll_174 : decode prog_8_method_24_code 174 = .ok (.getfield 32, 3) := by decide +kernel
theorem d_M_carryAll_177 : decode prog_8_method_24_code 177 = .ok (.iload_n 3, 1) := by decide +kernel
theorem d_M_carryAll_178 : decode prog_8_method_24_code 178 = .ok (.iaload, 1) := by decide +kernel
theorem d_M_carryAll_179 : decode prog_8_method_24_code 179 = .ok (.invokevirtual 186, 3) := by decide +kernel
theorem d_M_carryAll_182 : decode prog_8_method_24_code 182 = .ok (.iastore, 1) := by decide +kernel
theorem d_M_carryAll_183 : decode prog_8_method_24_code 183 = .ok (.iinc 3 1, 3) := by decide +kernel
theorem d_M_carryAll_186 : decode prog_8_method_24_code 186 = .ok (.goto (-121), 3) := by decide +kernel
theorem d_M_carryAll_189 : decode prog_8_method_24_code 189 = .ok (.iconst 0, 1) := by decide +kernel
theorem d_M_carryAll_190 : decode prog_8_method_24_code 190 = .ok (.istore_n 3, 1) := by decide +kernel
theorem d_M_carryAll_191 : decode prog_8_method_24_code 191 = .ok (.iload_n 3, 1) := by decide +kernel
theorem d_M_carryAll_192 : decode prog_8_method_24_code 192 = .ok (.bipush 6, 2) := by decide +kernel
theorem d_M_carryAll_194 : decode prog_8_method_24_code 194 = .ok (.if_icmp .ge 153, 3) := by decide +kernel
theorem d_M_carryAll_197 : decode prog_8_method_24_code 197 = .ok (.aload_n 0, 1) := by decide +kernel
theorem d_M_carryAll_198 : decode prog_8_method_24_code 198 = .ok (.getfield 35, 3) := by decide +kernel
theorem d_M_carryAll_201 : decode prog_8_method_24_code 201 = .ok (.iload_n 3, 1) := by decide +kernel
theorem d_M_carryAll_202 : decode prog_8_method_24_code 202 = .ok (.aload_n 0, 1) := by decide +kernel
theorem d_M_carryAll_203 : decode prog_8_method_24_code 203 = .ok (.aload_n 0, 1) := by decide +kernel
theorem d_M_carryAll_204 : decode prog_8_method_24_code 204 = .ok (.getfield 35, 3) := by decide +kernel
theorem d_M_carryAll_207 : decode prog_8_method_24_code 207 = .ok (.iload_n 3, 1) := by decide +kernel
theorem d_M_carryAll_208 : decode prog_8_method_24_code 208 = .ok (.iaload, 1) := by decide +kernel
theorem d_M_carryAll_209 : decode prog_8_method_24_code 209 = .ok (.invokevirtual 186, 3) := by decide +kernel
theorem d_M_carryAll_212 : decode prog_8_method_24_code 212 = .ok (.iastore, 1) := by decide +kernel
theorem d_M_carryAll_213 : decode prog_8_method_24_code 213 = .ok (.aload_n 0, 1) := by decide +kernel
theorem d_M_carryAll_214 : decode prog_8_method_24_code 214 = .ok (.getfield 38, 3) := by decide +kernel
theorem d_M_carryAll_217 : decode prog_8_method_24_code 217 = .ok (.iload_n 3, 1) := by decide +kernel
theorem d_M_carryAll_218 : decode prog_8_method_24_code 218 = .ok (.aload_n 0, 1) := by decide +kernel
theorem d_M_carryAll_219 : decode prog_8_method_24_code 219 = .ok (.aload_n 0, 1) := by decide +kernel
theorem d_M_carryAll_220 : decode prog_8_method_24_code 220 = .ok (.getfield 38, 3) := by decide +kernel
theorem d_M_carryAll_223 : decode prog_8_method_24_code 223 = .ok (.iload_n 3, 1) := by decide +kernel
theorem d_M_carryAll_224 : decode prog_8_method_24_code 224 = .ok (.iaload, 1) := by decide +kernel
theorem d_M_carryAll_225 : decode prog_8_method_24_code 225 = .ok (.invokevirtual 186, 3) := by decide +kernel
theorem d_M_carryAll_228 : decode prog_8_method_24_code 228 = .ok (.iastore, 1) := by decide +kernel
theorem d_M_carryAll_229 : decode prog_8_method_24_code 229 = .ok (.aload_n 0, 1) := by decide +kernel
theorem d_M_carryAll_230 : decode prog_8_method_24_code 230 = .ok (.getfield 41, 3) := by decide +kernel
theorem d_M_carryAll_233 : decode prog_8_method_24_code 233 = .ok (.iload_n 3, 1) := by decide +kernel
theorem d_M_carryAll_234 : decode prog_8_method_24_code 234 = .ok (.aload_n 0, 1) := by decide +kernel
theorem d_M_carryAll_235 : decode prog_8_method_24_code 235 = .ok (.aload_n 0, 1) := by decide +kernel
theorem d_M_carryAll_236 : decode prog_8_method_24_code 236 = .ok (.getfield 41, 3) := by decide +kernel
theorem d_M_carryAll_239 : decode prog_8_method_24_code 239 = .ok (.iload_n 3, 1) := by decide +kernel
theorem d_M_carryAll_240 : decode prog_8_method_24_code 240 = .ok (.iaload, 1) := by decide +kernel
theorem d_M_carryAll_241 : decode prog_8_method_24_code 241 = .ok (.invokevirtual 186, 3) := by decide +kernel
theorem d_M_carryAll_244 : decode prog_8_method_24_code 244 = .ok (.iastore, 1) := by decide +kernel
theorem d_M_carryAll_245 : decode prog_8_method_24_code 245 = .ok (.aload_n 0, 1) := by decide +kernel
theorem d_M_carryAll_246 : decode prog_8_method_24_code 246 = .ok (.getfield 44, 3) := by decide +kernel
theorem d_M_carryAll_249 : decode prog_8_method_24_code 249 = .ok (.iload_n 3, 1) := by decide +kernel
theorem d_M_carryAll_250 : decode prog_8_method_24_code 250 = .ok (.aload_n 0, 1) := by decide +kernel
theorem d_M_carryAll_251 : decode prog_8_method_24_code 251 = .ok (.aload_n 0, 1) := by decide +kernel
theorem d_M_carryAll_252 : decode prog_8_method_24_code 252 = .ok (.getfield 44, 3) := by decide +kernel
theorem d_M_carryAll_255 : decode prog_8_method_24_code 255 = .ok (.iload_n 3, 1) := by decide +kernel
theorem d_M_carryAll_256 : decode prog_8_method_24_code 256 = .ok (.iaload, 1) := by decide +kernel
theorem d_M_carryAll_257 : decode prog_8_method_24_code 257 = .ok (.invokevirtual 186, 3) := by decide +kernel
theorem d_M_carryAll_260 : decode prog_8_method_24_code 260 = .ok (.iastore, 1) := by decide +kernel
theorem d_M_carryAll_261 : decode prog_8_method_24_code 261 = .ok (.aload_n 0, 1) := by decide +kernel
theorem d_M_carryAll_262 : decode prog_8_method_24_code 262 = .ok (.getfield 47, 3) := by decide +kernel
theorem d_M_carryAll_265 : decode prog_8_method_24_code 265 = .ok (.iload_n 3, 1) := by decide +kernel
theorem d_M_carryAll_266 : decode prog_8_method_24_code 266 = .ok (.aload_n 0, 1) := by decide +kernel
theorem d_M_carryAll_267 : decode prog_8_method_24_code 267 = .ok (.aload_n 0, 1) := by decide +kernel
theorem d_M_carryAll_268 : decode prog_8_method_24_code 268 = .ok (.getfield 47, 3) := by decide +kernel
theorem d_M_carryAll_271 : decode prog_8_method_24_code 271 = .ok (.iload_n 3, 1) := by decide +kernel
theorem d_M_carryAll_272 : decode prog_8_method_24_code 272 = .ok (.iaload, 1) := by decide +kernel
theorem d_M_carryAll_273 : decode prog_8_method_24_code 273 = .ok (.invokevirtual 186, 3) := by decide +kernel
theorem d_M_carryAll_276 : decode prog_8_method_24_code 276 = .ok (.iastore, 1) := by decide +kernel
theorem d_M_carryAll_277 : decode prog_8_method_24_code 277 = .ok (.aload_n 0, 1) := by decide +kernel
theorem d_M_carryAll_278 : decode prog_8_method_24_code 278 = .ok (.getfield 50, 3) := by decide +kernel
theorem d_M_carryAll_281 : decode prog_8_method_24_code 281 = .ok (.iload_n 3, 1) := by decide +kernel
theorem d_M_carryAll_282 : decode prog_8_method_24_code 282 = .ok (.aload_n 0, 1) := by decide +kernel
theorem d_M_carryAll_283 : decode prog_8_method_24_code 283 = .ok (.aload_n 0, 1) := by decide +kernel
theorem d_M_carryAll_284 : decode prog_8_method_24_code 284 = .ok (.getfield 50, 3) := by decide +kernel
theorem d_M_carryAll_287 : decode prog_8_method_24_code 287 = .ok (.iload_n 3, 1) := by decide +kernel
theorem d_M_carryAll_288 : decode prog_8_method_24_code 288 = .ok (.iaload, 1) := by decide +kernel
theorem d_M_carryAll_289 : decode prog_8_method_24_code 289 = .ok (.invokevirtual 186, 3) := by decide +kernel
theorem d_M_carryAll_292 : decode prog_8_method_24_code 292 = .ok (.iastore, 1) := by decide +kernel
theorem d_M_carryAll_293 : decode prog_8_method_24_code 293 = .ok (.aload_n 0, 1) := by decide +kernel
theorem d_M_carryAll_294 : decode prog_8_method_24_code 294 = .ok (.getfield 53, 3) := by decide +kernel
theorem d_M_carryAll_297 : decode prog_8_method_24_code 297 = .ok (.iload_n 3, 1) := by decide +kernel
theorem d_M_carryAll_298 : decode prog_8_method_24_code 298 = .ok (.aload_n 0, 1) := by decide +kernel
theorem d_M_carryAll_299 : decode prog_8_method_24_code 299 = .ok (.aload_n 0, 1) := by decide +kernel
theorem d_M_carryAll_300 : decode prog_8_method_24_code 300 = .ok (.getfield 53, 3) := by decide +kernel
theorem d_M_carryAll_303 : decode prog_8_method_24_code 303 = .ok (.iload_n 3, 1) := by decide +kernel
theorem d_M_carryAll_304 : decode prog_8_method_24_code 304 = .ok (.iaload, 1) := by decide +kernel
theorem d_M_carryAll_305 : decode prog_8_method_24_code 305 = .ok (.invokevirtual 186, 3) := by decide +kernel
theorem d_M_carryAll_308 : decode prog_8_method_24_code 308 = .ok (.iastore, 1) := by decide +kernel
theorem d_M_carryAll_309 : decode prog_8_method_24_code 309 = .ok (.aload_n 0, 1) := by decide +kernel
theorem d_M_carryAll_310 : decode prog_8_method_24_code 310 = .ok (.getfield 56, 3) := by decide +kernel
theorem d_M_carryAll_313 : decode prog_8_method_24_code 313 = .ok (.iload_n 3, 1) := by decide +kernel
theorem d_M_carryAll_314 : decode prog_8_method_24_code 314 = .ok (.aload_n 0, 1) := by decide +kernel
theorem d_M_carryAll_315 : decode prog_8_method_24_code 315 = .ok (.aload_n 0, 1) := by decide +kernel
theorem d_M_carryAll_316 : decode prog_8_method_24_code 316 = .ok (.getfield 56, 3) := by decide +kernel
theorem d_M_carryAll_319 : decode prog_8_method_24_code 319 = .ok (.iload_n 3, 1) := by decide +kernel
theorem d_M_carryAll_320 : decode prog_8_method_24_code 320 = .ok (.iaload, 1) := by decide +kernel
theorem d_M_carryAll_321 : decode prog_8_method_24_code 321 = .ok (.invokevirtual 186, 3) := by decide +kernel
theorem d_M_carryAll_324 : decode prog_8_method_24_code 324 = .ok (.iastore, 1) := by decide +kernel
theorem d_M_carryAll_325 : decode prog_8_method_24_code 325 = .ok (.aload_n 0, 1) := by decide +kernel
theorem d_M_carryAll_326 : decode prog_8_method_24_code 326 = .ok (.getfield 59, 3) := by decide +kernel
theorem d_M_carryAll_329 : decode prog_8_method_24_code 329 = .ok (.iload_n 3, 1) := by decide +kernel
theorem d_M_carryAll_330 : decode prog_8_method_24_code 330 = .ok (.aload_n 0, 1) := by decide +kernel
theorem d_M_carryAll_331 : decode prog_8_method_24_code 331 = .ok (.aload_n 0, 1) := by decide +kernel
theorem d_M_carryAll_332 : decode prog_8_method_24_code 332 = .ok (.getfield 59, 3) := by decide +kernel
theorem d_M_carryAll_335 : decode prog_8_method_24_code 335 = .ok (.iload_n 3, 1) := by decide +kernel
theorem d_M_carryAll_336 : decode prog_8_method_24_code 336 = .ok (.iaload, 1) := by decide +kernel
theorem d_M_carryAll_337 : decode prog_8_method_24_code 337 = .ok (.invokevirtual 186, 3) := by decide +kernel
theorem d_M_carryAll_340 : decode prog_8_method_24_code 340 = .ok (.iastore, 1) := by decide +kernel
theorem d_M_carryAll_341 : decode prog_8_method_24_code 341 = .ok (.iinc 3 1, 3) := by decide +kernel
theorem d_M_carryAll_344 : decode prog_8_method_24_code 344 = .ok (.goto (-153), 3) := by decide +kernel
theorem d_M_carryAll_347 : decode prog_8_method_24_code 347 = .ok (.return_, 1) := by decide +kernel
theorem gc_M_carryAll_186 : GoodIn yGW (wsV "WhoseGlassModel" 186 yR5 m_M_carry ws_M_carry) := y_gV g_936 g_938 gs_12 g_6 g_939
set_option maxHeartbeats 4000000 in
set_option maxRecDepth 100000 in
def f_M_carryAll_L65 (F : Nat) (a0 : Option Nat) (k : Mm → Option (Unit × Mm)) : Nat → Mm → Int32 → Option (Unit × Mm)
  | 0, _, _ => none
  | n + 1, u, a3 => (if (12 : Int32) ≤ a3 then k u  else ob (jgr YM 5 4 a0) fun (r21 : Option Nat) => ob (jgr YM 5 4 a0) fun (r22 : Option Nat) => ob (jal YM u r22 a3) fun (x23 : Int32) => ob (jk YM 5 a0) fun t => yb (f_M_carry F u t x23) fun x24 u25 => ob (jas YM u25 r21 a3 x24) fun (u26 : Mm) => ob (jgr YM 5 5 a0) fun (r27 : Option Nat) => ob (jgr YM 5 5 a0) fun (r28 : Option Nat) => ob (jal YM u26 r28 a3) fun (x29 : Int32) => ob (jk YM 5 a0) fun t => yb (f_M_carry F u26 t x29) fun x30 u31 => ob (jas YM u31 r27 a3 x30) fun (u32 : Mm) => ob (jgr YM 5 6 a0) fun (r33 : Option Nat) => ob (jgr YM 5 6 a0) fun (r34 : Option Nat) => ob (jal YM u32 r34 a3) fun (x35 : Int32) => ob (jk YM 5 a0) fun t => yb (f_M_carry F u32 t x35) fun x36 u37 => ob (jas YM u37 r33 a3 x36) fun (u38 : Mm) => ob (jgr YM 5 7 a0) fun (r39 : Option Nat) => ob (jgr YM 5 7 a0) fun (r40 : Option Nat) => ob (jal YM u38 r40 a3) fun (x41 : Int32) => ob (jk YM 5 a0) fun t => yb (f_M_carry F u38 t x41) fun x42 u43 => ob (jas YM u43 r39 a3 x42) fun (u44 : Mm) => ob (jgr YM 5 8 a0) fun (r45 : Option Nat) => ob (jgr YM 5 8 a0) fun (r46 : Option Nat) => ob (jal YM u44 r46 a3) fun (x47 : Int32) => ob (jk YM 5 a0) fun t => yb (f_M_carry F u44 t x47) fun x48 u49 => ob (jas YM u49 r45 a3 x48) fun (u50 : Mm) => ob (jgr YM 5 9 a0) fun (r51 : Option Nat) => ob (jgr YM 5 9 a0) fun (r52 : Option Nat) => ob (jal YM u50 r52 a3) fun (x53 : Int32) => ob (jk YM 5 a0) fun t => yb (f_M_carry F u50 t x53) fun x54 u55 => ob (jas YM u55 r51 a3 x54) fun (u56 : Mm) => ob (jgr YM 5 10 a0) fun (r57 : Option Nat) => ob (jgr YM 5 10 a0) fun (r58 : Option Nat) => ob (jal YM u56 r58 a3) fun (x59 : Int32) => ob (jk YM 5 a0) fun t => yb (f_M_carry F u56 t x59) fun x60 u61 => ob (jas YM u61 r57 a3 x60) fun (u62 : Mm) => ob (some (a3 + (1 : Int32))) fun (x63 : Int32) => f_M_carryAll_L65 F a0 k n u62 x63)
set_option maxHeartbeats 4000000 in
set_option maxRecDepth 100000 in
theorem w_M_carryAll_L65 {p : Program} {l : Launch} {e : Env} {s : State} {m : MethodId} {args : Array Value} {below : List Frame} {meth : Method} {c : Code} {w : WP} {Q : State → Prop} (F : Nat) (C : yX p e ({ frames := 1, cells := 0, slots := 0, locals := 21 } : Room) s m args c YM w 4 prog_8_method_24_code "WhoseGlassModel") (hr : meth.sig.returnType = none) (hlocks : meth.locks = false) (a0 : Option Nat) {out : Unit × Mm} (k : Mm → Option (Unit × Mm)) (hk : ∀ (u : Mm), k u  = some out → yG p l e ({ frames := 1, cells := 0, slots := 0, locals := 21 } : Room) s m args below meth c YM w 4 Q u 189 [(0, va_re w.1 a0)] []) : ∀ (n : Nat) (u : Mm) (a3 : Int32), f_M_carryAll_L65 F a0 k n u a3 = some out → yG p l e ({ frames := 1, cells := 0, slots := 0, locals := 21 } : Room) s m args below meth c YM w 4 Q u 65 [(0, va_re w.1 a0), (3, .int a3)] [] := by
  intro n
  induction n with
  | zero => intro u a3 h; rw [f_M_carryAll_L65] at h; cases h
  | succ n ih =>
    intro u a3 h
    rw [f_M_carryAll_L65] at h
    refine y_iload_n C (i := 3) 1 d_M_carryAll_65 rfl rfl ?_
    refine y_bipush C (v := 12) d_M_carryAll_66 (by decide) ?_
    refine y_ic_ge C 189 d_M_carryAll_68 (by decide) h (fun k20 h => ?_) (fun k20 h => ?_)
    · exact y_sub [0] rfl (hk _ h)
    · refine y_aload_n C (i := 0) 0 d_M_carryAll_71 rfl rfl ?_
      refine y_gr C (q := (yR5, yT5, 46)) (ci := 5) (k := 4) rfl (by decide) rfl (by decide) g_788 d_M_carryAll_72 h (fun r21 h => ?_)
      refine y_iload_n C (i := 3) 1 d_M_carryAll_75 rfl rfl ?_
      refine y_aload_n C (i := 0) 0 d_M_carryAll_76 rfl rfl ?_
      refine y_aload_n C (i := 0) 0 d_M_carryAll_77 rfl rfl ?_
      refine y_gr C (q := (yR5, yT5, 46)) (ci := 5) (k := 4) rfl (by decide) rfl (by decide) g_788 d_M_carryAll_78 h (fun r22 h => ?_)
      refine y_iload_n C (i := 3) 1 d_M_carryAll_81 rfl rfl ?_
      refine y_al C d_M_carryAll_82 h (fun x23 h => ?_)
      refine y_callV 1 C (q := (yR5, yT5, 46)) (ci := 5) (fun t out hh => c_M_carry l w F u t x23 out hh) gc_M_carryAll_186 rfl (by decide) hd_M_carry ⟨Nat.le_of_ble_eq_true rfl, Nat.le_of_ble_eq_true rfl⟩ rfl rfl rfl rfl (by simp [y_cat, y_catI, y_catJ]) d_M_carryAll_83 h (fun x24 u25 h => ?_)
      refine y_stk (stp0 := [.int x24, .int a3, va_re w.1 r21]) rfl ?_
      refine y_as C d_M_carryAll_86 h (fun u26 h => ?_)
      refine y_aload_n C (i := 0) 0 d_M_carryAll_87 rfl rfl ?_
      refine y_gr C (q := (yR5, yT5, 46)) (ci := 5) (k := 5) rfl (by decide) rfl (by decide) g_789 d_M_carryAll_88 h (fun r27 h => ?_)
      refine y_iload_n C (i := 3) 1 d_M_carryAll_91 rfl rfl ?_
      refine y_aload_n C (i := 0) 0 d_M_carryAll_92 rfl rfl ?_
      refine y_aload_n C (i := 0) 0 d_M_carryAll_93 rfl rfl ?_
      refine y_gr C (q := (yR5, yT5, 46)) (ci := 5) (k := 5) rfl (by decide) rfl (by decide) g_789 d_M_carryAll_94 h (fun r28 h => ?_)
      refine y_iload_n C (i := 3) 1 d_M_carryAll_97 rfl rfl ?_
      refine y_al C d_M_carryAll_98 h (fun x29 h => ?_)
      refine y_callV 1 C (q := (yR5, yT5, 46)) (ci := 5) (fun t out hh => c_M_carry l w F u26 t x29 out hh) gc_M_carryAll_186 rfl (by decide) hd_M_carry ⟨Nat.le_of_ble_eq_true rfl, Nat.le_of_ble_eq_true rfl⟩ rfl rfl rfl rfl (by simp [y_cat, y_catI, y_catJ]) d_M_carryAll_99 h (fun x30 u31 h => ?_)
      refine y_stk (stp0 := [.int x30, .int a3, va_re w.1 r27]) rfl ?_
      refine y_as C d_M_carryAll_102 h (fun u32 h => ?_)
      refine y_aload_n C (i := 0) 0 d_M_carryAll_103 rfl rfl ?_
      refine y_gr C (q := (yR5, yT5, 46)) (ci := 5) (k := 6) rfl (by decide) rfl (by decide) g_790 d_M_carryAll_104 h (fun r33 h => ?_)
      refine y_iload_n C (i := 3) 1 d_M_carryAll_107 rfl rfl ?_
      refine y_aload_n C (i := 0) 0 d_M_carryAll_108 rfl rfl ?_
      refine y_aload_n C (i := 0) 0 d_M_carryAll_109 rfl rfl ?_
      refine y_gr C (q := (yR5, yT5, 46)) (ci := 5) (k := 6) rfl (by decide) rfl (by decide) g_790 d_M_carryAll_110 h (fun r34 h => ?_)
      refine y_iload_n C (i := 3) 1 d_M_carryAll_113 rfl rfl ?_
      refine y_al C d_M_carryAll_114 h (fun x35 h => ?_)
      refine y_callV 1 C (q := (yR5, yT5, 46)) (ci := 5) (fun t out hh => c_M_carry l w F u32 t x35 out hh) gc_M_carryAll_186 rfl (by decide) hd_M_carry ⟨Nat.le_of_ble_eq_true rfl, Nat.le_of_ble_eq_true rfl⟩ rfl rfl rfl rfl (by simp [y_cat, y_catI, y_catJ]) d_M_carryAll_115 h (fun x36 u37 h => ?_)
      refine y_stk (stp0 := [.int x36, .int a3, va_re w.1 r33]) rfl ?_
      refine y_as C d_M_carryAll_118 h (fun u38 h => ?_)
      refine y_aload_n C (i := 0) 0 d_M_carryAll_119 rfl rfl ?_
      refine y_gr C (q := (yR5, yT5, 46)) (ci := 5) (k := 7) rfl (by decide) rfl (by decide) g_791 d_M_carryAll_120 h (fun r39 h => ?_)
      refine y_iload_n C (i := 3) 1 d_M_carryAll_123 rfl rfl ?_
      refine y_aload_n C (i := 0) 0 d_M_carryAll_124 rfl rfl ?_
      refine y_aload_n C (i := 0) 0 d_M_carryAll_125 rfl rfl ?_
      refine y_gr C (q := (yR5, yT5, 46)) (ci := 5) (k := 7) rfl (by decide) rfl (by decide) g_791 d_M_carryAll_126 h (fun r40 h => ?_)
      refine y_iload_n C (i := 3) 1 d_M_carryAll_129 rfl rfl ?_
      refine y_al C d_M_carryAll_130 h (fun x41 h => ?_)
      refine y_callV 1 C (q := (yR5, yT5, 46)) (ci := 5) (fun t out hh => c_M_carry l w F u38 t x41 out hh) gc_M_carryAll_186 rfl (by decide) hd_M_carry ⟨Nat.le_of_ble_eq_true rfl, Nat.le_of_ble_eq_true rfl⟩ rfl rfl rfl rfl (by simp [y_cat, y_catI, y_catJ]) d_M_carryAll_131 h (fun x42 u43 h => ?_)
      refine y_stk (stp0 := [.int x42, .int a3, va_re w.1 r39]) rfl ?_
      refine y_as C d_M_carryAll_134 h (fun u44 h => ?_)
      refine y_aload_n C (i := 0) 0 d_M_carryAll_135 rfl rfl ?_
      refine y_gr C (q := (yR5, yT5, 46)) (ci := 5) (k := 8) rfl (by decide) rfl (by decide) g_792 d_M_carryAll_136 h (fun r45 h => ?_)
      refine y_iload_n C (i := 3) 1 d_M_carryAll_139 rfl rfl ?_
      refine y_aload_n C (i := 0) 0 d_M_carryAll_140 rfl rfl ?_
      refine y_aload_n C (i := 0) 0 d_M_carryAll_141 rfl rfl ?_
      refine y_gr C (q := (yR5, yT5, 46)) (ci := 5) (k := 8) rfl (by decide) rfl (by decide) g_792 d_M_carryAll_142 h (fun r46 h => ?_)
      refine y_iload_n C (i := 3) 1 d_M_carryAll_145 rfl rfl ?_
      refine y_al C d_M_carryAll_146 h (fun x47 h => ?_)
      refine y_callV 1 C (q := (yR5, yT5, 46)) (ci := 5) (fun t out hh => c_M_carry l w F u44 t x47 out hh) gc_M_carryAll_186 rfl (by decide) hd_M_carry ⟨Nat.le_of_ble_eq_true rfl, Nat.le_of_ble_eq_true rfl⟩ rfl rfl rfl rfl (by simp [y_cat, y_catI, y_catJ]) d_M_carryAll_147 h (fun x48 u49 h => ?_)
      refine y_stk (stp0 := [.int x48, .int a3, va_re w.1 r45]) rfl ?_
      refine y_as C d_M_carryAll_150 h (fun u50 h => ?_)
      refine y_aload_n C (i := 0) 0 d_M_carryAll_151 rfl rfl ?_
      refine y_gr C (q := (yR5, yT5, 46)) (ci := 5) (k := 9) rfl (by decide) rfl (by decide) g_793 d_M_carryAll_152 h (fun r51 h => ?_)
      refine y_iload_n C (i := 3) 1 d_M_carryAll_155 rfl rfl ?_
      refine y_aload_n C (i := 0) 0 d_M_carryAll_156 rfl rfl ?_
      refine y_aload_n C (i := 0) 0 d_M_carryAll_157 rfl rfl ?_
      refine y_gr C (q := (yR5, yT5, 46)) (ci := 5) (k := 9) rfl (by decide) rfl (by decide) g_793 d_M_carryAll_158 h (fun r52 h => ?_)
      refine y_iload_n C (i := 3) 1 d_M_carryAll_161 rfl rfl ?_
      refine y_al C d_M_carryAll_162 h (fun x53 h => ?_)
      refine y_callV 1 C (q := (yR5, yT5, 46)) (ci := 5) (fun t out hh => c_M_carry l w F u50 t x53 out hh) gc_M_carryAll_186 rfl (by decide) hd_M_carry ⟨Nat.le_of_ble_eq_true rfl, Nat.le_of_ble_eq_true rfl⟩ rfl rfl rfl rfl (by simp [y_cat, y_catI, y_catJ]) d_M_carryAll_163 h (fun x54 u55 h => ?_)
      refine y_stk (stp0 := [.int x54, .int a3, va_re w.1 r51]) rfl ?_
      refine y_as C d_M_carryAll_166 h (fun u56 h => ?_)
      refine y_aload_n C (i := 0) 0 d_M_carryAll_167 rfl rfl ?_
      refine y_gr C (q := (yR5, yT5, 46)) (ci := 5) (k := 10) rfl (by decide) rfl (by decide) g_794 d_M_carryAll_168 h (fun r57 h => ?_)
      refine y_iload_n C (i := 3) 1 d_M_carryAll_171 rfl rfl ?_
      refine y_aload_n C (i := 0) 0 d_M_carryAll_172 rfl rfl ?_
      refine y_aload_n C (i := 0) 0 d_M_carryAll_173 rfl rfl ?_
      refine y_gr C (q := (yR5, yT5, 46)) (ci := 5) (k := 10) rfl (by decide) rfl (by decide) g_794 d_M_carryAll_174 h (fun r58 h => ?_)
      refine y_iload_n C (i := 3) 1 d_M_carryAll_177 rfl rfl ?_
      refine y_al C d_M_carryAll_178 h (fun x59 h => ?_)
      refine y_callV 1 C (q := (yR5, yT5, 46)) (ci := 5) (fun t out hh => c_M_carry l w F u56 t x59 out hh) gc_M_carryAll_186 rfl (by decide) hd_M_carry ⟨Nat.le_of_ble_eq_true rfl, Nat.le_of_ble_eq_true rfl⟩ rfl rfl rfl rfl (by simp [y_cat, y_catI, y_catJ]) d_M_carryAll_179 h (fun x60 u61 h => ?_)
      refine y_stk (stp0 := [.int x60, .int a3, va_re w.1 r57]) rfl ?_
      refine y_as C d_M_carryAll_182 h (fun u62 h => ?_)
      refine y_iinc C (j := 1) (v := 1) (lvp := [(0, va_re w.1 a0)]) d_M_carryAll_183 rfl (by decide) (by decide) rfl h (fun x63 h => ?_)
      refine y_goto C (tgt := 65) d_M_carryAll_186 (by decide) ?_
      exact y_sub [1, 0] rfl (ih _ _ h)
set_option maxHeartbeats 4000000 in
set_option maxRecDepth 100000 in
def f_M_carryAll_L191 (F : Nat) (a0 : Option Nat) (k : Mm → Option (Unit × Mm)) : Nat → Mm → Int32 → Option (Unit × Mm)
  | 0, _, _ => none
  | n + 1, u, a3 => (if (6 : Int32) ≤ a3 then k u  else ob (jgr YM 5 11 a0) fun (r66 : Option Nat) => ob (jgr YM 5 11 a0) fun (r67 : Option Nat) => ob (jal YM u r67 a3) fun (x68 : Int32) => ob (jk YM 5 a0) fun t => yb (f_M_carry F u t x68) fun x69 u70 => ob (jas YM u70 r66 a3 x69) fun (u71 : Mm) => ob (jgr YM 5 12 a0) fun (r72 : Option Nat) => ob (jgr YM 5 12 a0) fun (r73 : Option Nat) => ob (jal YM u71 r73 a3) fun (x74 : Int32) => ob (jk YM 5 a0) fun t => yb (f_M_carry F u71 t x74) fun x75 u76 => ob (jas YM u76 r72 a3 x75) fun (u77 : Mm) => ob (jgr YM 5 13 a0) fun (r78 : Option Nat) => ob (jgr YM 5 13 a0) fun (r79 : Option Nat) => ob (jal YM u77 r79 a3) fun (x80 : Int32) => ob (jk YM 5 a0) fun t => yb (f_M_carry F u77 t x80) fun x81 u82 => ob (jas YM u82 r78 a3 x81) fun (u83 : Mm) => ob (jgr YM 5 14 a0) fun (r84 : Option Nat) => ob (jgr YM 5 14 a0) fun (r85 : Option Nat) => ob (jal YM u83 r85 a3) fun (x86 : Int32) => ob (jk YM 5 a0) fun t => yb (f_M_carry F u83 t x86) fun x87 u88 => ob (jas YM u88 r84 a3 x87) fun (u89 : Mm) => ob (jgr YM 5 15 a0) fun (r90 : Option Nat) => ob (jgr YM 5 15 a0) fun (r91 : Option Nat) => ob (jal YM u89 r91 a3) fun (x92 : Int32) => ob (jk YM 5 a0) fun t => yb (f_M_carry F u89 t x92) fun x93 u94 => ob (jas YM u94 r90 a3 x93) fun (u95 : Mm) => ob (jgr YM 5 16 a0) fun (r96 : Option Nat) => ob (jgr YM 5 16 a0) fun (r97 : Option Nat) => ob (jal YM u95 r97 a3) fun (x98 : Int32) => ob (jk YM 5 a0) fun t => yb (f_M_carry F u95 t x98) fun x99 u100 => ob (jas YM u100 r96 a3 x99) fun (u101 : Mm) => ob (jgr YM 5 17 a0) fun (r102 : Option Nat) => ob (jgr YM 5 17 a0) fun (r103 : Option Nat) => ob (jal YM u101 r103 a3) fun (x104 : Int32) => ob (jk YM 5 a0) fun t => yb (f_M_carry F u101 t x104) fun x105 u106 => ob (jas YM u106 r102 a3 x105) fun (u107 : Mm) => ob (jgr YM 5 18 a0) fun (r108 : Option Nat) => ob (jgr YM 5 18 a0) fun (r109 : Option Nat) => ob (jal YM u107 r109 a3) fun (x110 : Int32) => ob (jk YM 5 a0) fun t => yb (f_M_carry F u107 t x110) fun x111 u112 => ob (jas YM u112 r108 a3 x111) fun (u113 : Mm) => ob (jgr YM 5 19 a0) fun (r114 : Option Nat) => ob (jgr YM 5 19 a0) fun (r115 : Option Nat) => ob (jal YM u113 r115 a3) fun (x116 : Int32) => ob (jk YM 5 a0) fun t => yb (f_M_carry F u113 t x116) fun x117 u118 => ob (jas YM u118 r114 a3 x117) fun (u119 : Mm) => ob (some (a3 + (1 : Int32))) fun (x120 : Int32) => f_M_carryAll_L191 F a0 k n u119 x120)
set_option maxHeartbeats 4000000 in
set_option maxRecDepth 100000 in
theorem w_M_carryAll_L191 {p : Program} {l : Launch} {e : Env} {s : State} {m : MethodId} {args : Array Value} {below : List Frame} {meth : Method} {c : Code} {w : WP} {Q : State → Prop} (F : Nat) (C : yX p e ({ frames := 1, cells := 0, slots := 0, locals := 21 } : Room) s m args c YM w 4 prog_8_method_24_code "WhoseGlassModel") (hr : meth.sig.returnType = none) (hlocks : meth.locks = false) (a0 : Option Nat) {out : Unit × Mm} (k : Mm → Option (Unit × Mm)) (hk : ∀ (u : Mm), k u  = some out → yG p l e ({ frames := 1, cells := 0, slots := 0, locals := 21 } : Room) s m args below meth c YM w 4 Q u 347 [] []) : ∀ (n : Nat) (u : Mm) (a3 : Int32), f_M_carryAll_L191 F a0 k n u a3 = some out → yG p l e ({ frames := 1, cells := 0, slots := 0, locals := 21 } : Room) s m args below meth c YM w 4 Q u 191 [(0, va_re w.1 a0), (3, .int a3)] [] := by
  intro n
  induction n with
  | zero => intro u a3 h; rw [f_M_carryAll_L191] at h; cases h
  | succ n ih =>
    intro u a3 h
    rw [f_M_carryAll_L191] at h
    refine y_iload_n C (i := 3) 1 d_M_carryAll_191 rfl rfl ?_
    refine y_bipush C (v := 6) d_M_carryAll_192 (by decide) ?_
    refine y_ic_ge C 347 d_M_carryAll_194 (by decide) h (fun k65 h => ?_) (fun k65 h => ?_)
    · exact y_sub [] rfl (hk _ h)
    · refine y_aload_n C (i := 0) 0 d_M_carryAll_197 rfl rfl ?_
      refine y_gr C (q := (yR5, yT5, 46)) (ci := 5) (k := 11) rfl (by decide) rfl (by decide) g_795 d_M_carryAll_198 h (fun r66 h => ?_)
      refine y_iload_n C (i := 3) 1 d_M_carryAll_201 rfl rfl ?_
      refine y_aload_n C (i := 0) 0 d_M_carryAll_202 rfl rfl ?_
      refine y_aload_n C (i := 0) 0 d_M_carryAll_203 rfl rfl ?_
      refine y_gr C (q := (yR5, yT5, 46)) (ci := 5) (k := 11) rfl (by decide) rfl (by decide) g_795 d_M_carryAll_204 h (fun r67 h => ?_)
      refine y_iload_n C (i := 3) 1 d_M_carryAll_207 rfl rfl ?_
      refine y_al C d_M_carryAll_208 h (fun x68 h => ?_)
      refine y_callV 1 C (q := (yR5, yT5, 46)) (ci := 5) (fun t out hh => c_M_carry l w F u t x68 out hh) gc_M_carryAll_186 rfl (by decide) hd_M_carry ⟨Nat.le_of_ble_eq_true rfl, Nat.le_of_ble_eq_true rfl⟩ rfl rfl rfl rfl (by simp [y_cat, y_catI, y_catJ]) d_M_carryAll_209 h (fun x69 u70 h => ?_)
      refine y_stk (stp0 := [.int x69, .int a3, va_re w.1 r66]) rfl ?_
      refine y_as C d_M_carryAll_212 h (fun u71 h => ?_)
      refine y_aload_n C (i := 0) 0 d_M_carryAll_213 rfl rfl ?_
      refine y_gr C (q := (yR5, yT5, 46)) (ci := 5) (k := 12) rfl (by decide) rfl (by decide) g_796 d_M_carryAll_214 h (fun r72 h => ?_)
      refine y_iload_n C (i := 3) 1 d_M_carryAll_217 rfl rfl ?_
      refine y_aload_n C (i := 0) 0 d_M_carryAll_218 rfl rfl ?_
      refine y_aload_n C (i := 0) 0 d_M_carryAll_219 rfl rfl ?_
      refine y_gr C (q := (yR5, yT5, 46)) (ci := 5) (k := 12) rfl (by decide) rfl (by decide) g_796 d_M_carryAll_220 h (fun r73 h => ?_)
      refine y_iload_n C (i := 3) 1 d_M_carryAll_223 rfl rfl ?_
      refine y_al C d_M_carryAll_224 h (fun x74 h => ?_)
      refine y_callV 1 C (q := (yR5, yT5, 46)) (ci := 5) (fun t out hh => c_M_carry l w F u71 t x74 out hh) gc_M_carryAll_186 rfl (by decide) hd_M_carry ⟨Nat.le_of_ble_eq_true rfl, Nat.le_of_ble_eq_true rfl⟩ rfl rfl rfl rfl (by simp [y_cat, y_catI, y_catJ]) d_M_carryAll_225 h (fun x75 u76 h => ?_)
      refine y_stk (stp0 := [.int x75, .int a3, va_re w.1 r72]) rfl ?_
      refine y_as C d_M_carryAll_228 h (fun u77 h => ?_)
      refine y_aload_n C (i := 0) 0 d_M_carryAll_229 rfl rfl ?_
      refine y_gr C (q := (yR5, yT5, 46)) (ci := 5) (k := 13) rfl (by decide) rfl (by decide) g_797 d_M_carryAll_230 h (fun r78 h => ?_)
      refine y_iload_n C (i := 3) 1 d_M_carryAll_233 rfl rfl ?_
      refine y_aload_n C (i := 0) 0 d_M_carryAll_234 rfl rfl ?_
      refine y_aload_n C (i := 0) 0 d_M_carryAll_235 rfl rfl ?_
      refine y_gr C (q := (yR5, yT5, 46)) (ci := 5) (k := 13) rfl (by decide) rfl (by decide) g_797 d_M_carryAll_236 h (fun r79 h => ?_)
      refine y_iload_n C (i := 3) 1 d_M_carryAll_239 rfl rfl ?_
      refine y_al C d_M_carryAll_240 h (fun x80 h => ?_)
      refine y_callV 1 C (q := (yR5, yT5, 46)) (ci := 5) (fun t out hh => c_M_carry l w F u77 t x80 out hh) gc_M_carryAll_186 rfl (by decide) hd_M_carry ⟨Nat.le_of_ble_eq_true rfl, Nat.le_of_ble_eq_true rfl⟩ rfl rfl rfl rfl (by simp [y_cat, y_catI, y_catJ]) d_M_carryAll_241 h (fun x81 u82 h => ?_)
      refine y_stk (stp0 := [.int x81, .int a3, va_re w.1 r78]) rfl ?_
      refine y_as C d_M_carryAll_244 h (fun u83 h => ?_)
      refine y_aload_n C (i := 0) 0 d_M_carryAll_245 rfl rfl ?_
      refine y_gr C (q := (yR5, yT5, 46)) (ci := 5) (k := 14) rfl (by decide) rfl (by decide) g_798 d_M_carryAll_246 h (fun r84 h => ?_)
      refine y_iload_n C (i := 3) 1 d_M_carryAll_249 rfl rfl ?_
      refine y_aload_n C (i := 0) 0 d_M_carryAll_250 rfl rfl ?_
      refine y_aload_n C (i := 0) 0 d_M_carryAll_251 rfl rfl ?_
      refine y_gr C (q := (yR5, yT5, 46)) (ci := 5) (k := 14) rfl (by decide) rfl (by decide) g_798 d_M_carryAll_252 h (fun r85 h => ?_)
      refine y_iload_n C (i := 3) 1 d_M_carryAll_255 rfl rfl ?_
      refine y_al C d_M_carryAll_256 h (fun x86 h => ?_)
      refine y_callV 1 C (q := (yR5, yT5, 46)) (ci := 5) (fun t out hh => c_M_carry l w F u83 t x86 out hh) gc_M_carryAll_186 rfl (by decide) hd_M_carry ⟨Nat.le_of_ble_eq_true rfl, Nat.le_of_ble_eq_true rfl⟩ rfl rfl rfl rfl (by simp [y_cat, y_catI, y_catJ]) d_M_carryAll_257 h (fun x87 u88 h => ?_)
      refine y_stk (stp0 := [.int x87, .int a3, va_re w.1 r84]) rfl ?_
      refine y_as C d_M_carryAll_260 h (fun u89 h => ?_)
      refine y_aload_n C (i := 0) 0 d_M_carryAll_261 rfl rfl ?_
      refine y_gr C (q := (yR5, yT5, 46)) (ci := 5) (k := 15) rfl (by decide) rfl (by decide) g_799 d_M_carryAll_262 h (fun r90 h => ?_)
      refine y_iload_n C (i := 3) 1 d_M_carryAll_265 rfl rfl ?_
      refine y_aload_n C (i := 0) 0 d_M_carryAll_266 rfl rfl ?_
      refine y_aload_n C (i := 0) 0 d_M_carryAll_267 rfl rfl ?_
      refine y_gr C (q := (yR5, yT5, 46)) (ci := 5) (k := 15) rfl (by decide) rfl (by decide) g_799 d_M_carryAll_268 h (fun r91 h => ?_)
      refine y_iload_n C (i := 3) 1 d_M_carryAll_271 rfl rfl ?_
      refine y_al C d_M_carryAll_272 h (fun x92 h => ?_)
      refine y_callV 1 C (q := (yR5, yT5, 46)) (ci := 5) (fun t out hh => c_M_carry l w F u89 t x92 out hh) gc_M_carryAll_186 rfl (by decide) hd_M_carry ⟨Nat.le_of_ble_eq_true rfl, Nat.le_of_ble_eq_true rfl⟩ rfl rfl rfl rfl (by simp [y_cat, y_catI, y_catJ]) d_M_carryAll_273 h (fun x93 u94 h => ?_)
      refine y_stk (stp0 := [.int x93, .int a3, va_re w.1 r90]) rfl ?_
      refine y_as C d_M_carryAll_276 h (fun u95 h => ?_)
      refine y_aload_n C (i := 0) 0 d_M_carryAll_277 rfl rfl ?_
      refine y_gr C (q := (yR5, yT5, 46)) (ci := 5) (k := 16) rfl (by decide) rfl (by decide) g_800 d_M_carryAll_278 h (fun r96 h => ?_)
      refine y_iload_n C (i := 3) 1 d_M_carryAll_281 rfl rfl ?_
      refine y_aload_n C (i := 0) 0 d_M_carryAll_282 rfl rfl ?_
      refine y_aload_n C (i := 0) 0 d_M_carryAll_283 rfl rfl ?_
      refine y_gr C (q := (yR5, yT5, 46)) (ci := 5) (k := 16) rfl (by decide) rfl (by decide) g_800 d_M_carryAll_284 h (fun r97 h => ?_)
      refine y_iload_n C (i := 3) 1 d_M_carryAll_287 rfl rfl ?_
      refine y_al C d_M_carryAll_288 h (fun x98 h => ?_)
      refine y_callV 1 C (q := (yR5, yT5, 46)) (ci := 5) (fun t out hh => c_M_carry l w F u95 t x98 out hh) gc_M_carryAll_186 rfl (by decide) hd_M_carry ⟨Nat.le_of_ble_eq_true rfl, Nat.le_of_ble_eq_true rfl⟩ rfl rfl rfl rfl (by simp [y_cat, y_catI, y_catJ]) d_M_carryAll_289 h (fun x99 u100 h => ?_)
      refine y_stk (stp0 := [.int x99, .int a3, va_re w.1 r96]) rfl ?_
      refine y_as C d_M_carryAll_292 h (fun u101 h => ?_)
      refine y_aload_n C (i := 0) 0 d_M_carryAll_293 rfl rfl ?_
      refine y_gr C (q := (yR5, yT5, 46)) (ci := 5) (k := 17) rfl (by decide) rfl (by decide) g_801 d_M_carryAll_294 h (fun r102 h => ?_)
      refine y_iload_n C (i := 3) 1 d_M_carryAll_297 rfl rfl ?_
      refine y_aload_n C (i := 0) 0 d_M_carryAll_298 rfl rfl ?_
      refine y_aload_n C (i := 0) 0 d_M_carryAll_299 rfl rfl ?_
      refine y_gr C (q := (yR5, yT5, 46)) (ci := 5) (k := 17) rfl (by decide) rfl (by decide) g_801 d_M_carryAll_300 h (fun r103 h => ?_)
      refine y_iload_n C (i := 3) 1 d_M_carryAll_303 rfl rfl ?_
      refine y_al C d_M_carryAll_304 h (fun x104 h => ?_)
      refine y_callV 1 C (q := (yR5, yT5, 46)) (ci := 5) (fun t out hh => c_M_carry l w F u101 t x104 out hh) gc_M_carryAll_186 rfl (by decide) hd_M_carry ⟨Nat.le_of_ble_eq_true rfl, Nat.le_of_ble_eq_true rfl⟩ rfl rfl rfl rfl (by simp [y_cat, y_catI, y_catJ]) d_M_carryAll_305 h (fun x105 u106 h => ?_)
      refine y_stk (stp0 := [.int x105, .int a3, va_re w.1 r102]) rfl ?_
      refine y_as C d_M_carryAll_308 h (fun u107 h => ?_)
      refine y_aload_n C (i := 0) 0 d_M_carryAll_309 rfl rfl ?_
      refine y_gr C (q := (yR5, yT5, 46)) (ci := 5) (k := 18) rfl (by decide) rfl (by decide) g_802 d_M_carryAll_310 h (fun r108 h => ?_)
      refine y_iload_n C (i := 3) 1 d_M_carryAll_313 rfl rfl ?_
      refine y_aload_n C (i := 0) 0 d_M_carryAll_314 rfl rfl ?_
      refine y_aload_n C (i := 0) 0 d_M_carryAll_315 rfl rfl ?_
      refine y_gr C (q := (yR5, yT5, 46)) (ci := 5) (k := 18) rfl (by decide) rfl (by decide) g_802 d_M_carryAll_316 h (fun r109 h => ?_)
      refine y_iload_n C (i := 3) 1 d_M_carryAll_319 rfl rfl ?_
      refine y_al C d_M_carryAll_320 h (fun x110 h => ?_)
      refine y_callV 1 C (q := (yR5, yT5, 46)) (ci := 5) (fun t out hh => c_M_carry l w F u107 t x110 out hh) gc_M_carryAll_186 rfl (by decide) hd_M_carry ⟨Nat.le_of_ble_eq_true rfl, Nat.le_of_ble_eq_true rfl⟩ rfl rfl rfl rfl (by simp [y_cat, y_catI, y_catJ]) d_M_carryAll_321 h (fun x111 u112 h => ?_)
      refine y_stk (stp0 := [.int x111, .int a3, va_re w.1 r108]) rfl ?_
      refine y_as C d_M_carryAll_324 h (fun u113 h => ?_)
      refine y_aload_n C (i := 0) 0 d_M_carryAll_325 rfl rfl ?_
      refine y_gr C (q := (yR5, yT5, 46)) (ci := 5) (k := 19) rfl (by decide) rfl (by decide) g_803 d_M_carryAll_326 h (fun r114 h => ?_)
      refine y_iload_n C (i := 3) 1 d_M_carryAll_329 rfl rfl ?_
      refine y_aload_n C (i := 0) 0 d_M_carryAll_330 rfl rfl ?_
      refine y_aload_n C (i := 0) 0 d_M_carryAll_331 rfl rfl ?_
      refine y_gr C (q := (yR5, yT5, 46)) (ci := 5) (k := 19) rfl (by decide) rfl (by decide) g_803 d_M_carryAll_332 h (fun r115 h => ?_)
      refine y_iload_n C (i := 3) 1 d_M_carryAll_335 rfl rfl ?_
      refine y_al C d_M_carryAll_336 h (fun x116 h => ?_)
      refine y_callV 1 C (q := (yR5, yT5, 46)) (ci := 5) (fun t out hh => c_M_carry l w F u113 t x116 out hh) gc_M_carryAll_186 rfl (by decide) hd_M_carry ⟨Nat.le_of_ble_eq_true rfl, Nat.le_of_ble_eq_true rfl⟩ rfl rfl rfl rfl (by simp [y_cat, y_catI, y_catJ]) d_M_carryAll_337 h (fun x117 u118 h => ?_)
      refine y_stk (stp0 := [.int x117, .int a3, va_re w.1 r114]) rfl ?_
      refine y_as C d_M_carryAll_340 h (fun u119 h => ?_)
      refine y_iinc C (j := 1) (v := 1) (lvp := [(0, va_re w.1 a0)]) d_M_carryAll_341 rfl (by decide) (by decide) rfl h (fun x120 h => ?_)
      refine y_goto C (tgt := 191) d_M_carryAll_344 (by decide) ?_
      exact y_sub [1, 0] rfl (ih _ _ h)
set_option maxRecDepth 100000 in
def f_M_carryAll (F : Nat) (u : Mm) (o : Nat) (a1 : Option Nat) (a2 : Int32) : Option (Unit × Mm) := ob (jpk YM u (some o) a1) fun (u1 : Mm) => ob (jpz YM 5 28 u1 (some o) a2) fun (u2 : Mm) => ob (jpi YM 5 27 u2 (some o) (0 : Int32)) fun (u3 : Mm) => ob (jgi YM 5 0 u3 (some o)) fun (x4 : Int32) => ob (jk YM 5 (some o)) fun t => yb (f_M_carry F u3 t x4) fun x5 u6 => ob (jpi YM 5 0 u6 (some o) x5) fun (u7 : Mm) => ob (jgi YM 5 1 u7 (some o)) fun (x8 : Int32) => ob (jk YM 5 (some o)) fun t => yb (f_M_carry F u7 t x8) fun x9 u10 => ob (jpi YM 5 1 u10 (some o) x9) fun (u11 : Mm) => ob (jgi YM 5 2 u11 (some o)) fun (x12 : Int32) => ob (jk YM 5 (some o)) fun t => yb (f_M_carry F u11 t x12) fun x13 u14 => ob (jpi YM 5 2 u14 (some o) x13) fun (u15 : Mm) => ob (jgi YM 5 3 u15 (some o)) fun (x16 : Int32) => ob (jk YM 5 (some o)) fun t => yb (f_M_carry F u15 t x16) fun x17 u18 => ob (jpi YM 5 3 u18 (some o) x17) fun (u19 : Mm) => f_M_carryAll_L65 F (some o) (fun (u64 : Mm) => f_M_carryAll_L191 F (some o) (fun (u121 : Mm) => some ((), u121)) F u64 (0 : Int32)) F u19 (0 : Int32)
set_option maxHeartbeats 4000000 in
set_option maxRecDepth 100000 in
theorem c_M_carryAll (l : Launch) (w : WP) (F : Nat) (u : Mm) (o : Nat) (a1 : Option Nat) (a2 : Int32) (out : Unit × Mm) (h : f_M_carryAll F u o a1 a2 = some out) : yMet l m_M_carryAll ws_M_carryAll ({ frames := 1, cells := 0, slots := 0, locals := 21 } : Room) YM w u [va_re w.1 (some o), va_re w.1 a1, .int a2] yfv out := by
  refine y_entry (own := "WhoseGlassModel") (lv := [(0, va_re w.1 (some o)), (1, va_re w.1 a1), (2, .int a2)]) (by decide +kernel) rfl (by simp [lv_args, y_cat, y_catI, y_catJ]) (by simp [lg_sl, y_cat, y_catI, y_catJ]) ?_
  intro p e s m args below meth c C hr hlocks
  unfold f_M_carryAll at h
  refine y_aload_n C (i := 0) 0 d_M_carryAll_0 rfl rfl ?_
  refine y_aload_n C (i := 1) 1 d_M_carryAll_1 rfl rfl ?_
  refine y_pk C (q := (yR5, yT5, 46)) rfl (by decide) YM_one rfl (by decide +kernel) g_813 d_M_carryAll_2 h (fun u1 h => ?_)
  refine y_aload_n C (i := 0) 0 d_M_carryAll_5 rfl rfl ?_
  refine y_iload_n C (i := 2) 2 d_M_carryAll_6 rfl rfl ?_
  refine y_pz C (q := (yR5, yT5, 46)) (ci := 5) (k := 28) rfl (by decide) rfl rfl (by decide +kernel) g_812 d_M_carryAll_7 h (fun u2 h => ?_)
  refine y_aload_n C (i := 0) 0 d_M_carryAll_10 rfl rfl ?_
  refine y_iconst C (v := 0) d_M_carryAll_11 (by decide) ?_
  refine y_pi C (q := (yR5, yT5, 46)) (ci := 5) (k := 27) rfl (by decide) rfl rfl (by decide +kernel) g_811 d_M_carryAll_12 h (fun u3 h => ?_)
  refine y_aload_n C (i := 0) 0 d_M_carryAll_15 rfl rfl ?_
  refine y_aload_n C (i := 0) 0 d_M_carryAll_16 rfl rfl ?_
  refine y_aload_n C (i := 0) 0 d_M_carryAll_17 rfl rfl ?_
  refine y_gi C (q := (yR5, yT5, 46)) (ci := 5) (k := 0) rfl (by decide) rfl g_784 d_M_carryAll_18 h (fun x4 h => ?_)
  refine y_callV 1 C (q := (yR5, yT5, 46)) (ci := 5) (fun t out hh => c_M_carry l w F u3 t x4 out hh) gc_M_carryAll_186 rfl (by decide) hd_M_carry ⟨Nat.le_of_ble_eq_true rfl, Nat.le_of_ble_eq_true rfl⟩ rfl rfl rfl rfl (by simp [y_cat, y_catI, y_catJ]) d_M_carryAll_21 h (fun x5 u6 h => ?_)
  refine y_stk (stp0 := [.int x5, va_re w.1 (some o)]) rfl ?_
  refine y_pi C (q := (yR5, yT5, 46)) (ci := 5) (k := 0) rfl (by decide) rfl rfl (by decide +kernel) g_784 d_M_carryAll_24 h (fun u7 h => ?_)
  refine y_aload_n C (i := 0) 0 d_M_carryAll_27 rfl rfl ?_
  refine y_aload_n C (i := 0) 0 d_M_carryAll_28 rfl rfl ?_
  refine y_aload_n C (i := 0) 0 d_M_carryAll_29 rfl rfl ?_
  refine y_gi C (q := (yR5, yT5, 46)) (ci := 5) (k := 1) rfl (by decide) rfl g_785 d_M_carryAll_30 h (fun x8 h => ?_)
  refine y_callV 1 C (q := (yR5, yT5, 46)) (ci := 5) (fun t out hh => c_M_carry l w F u7 t x8 out hh) gc_M_carryAll_186 rfl (by decide) hd_M_carry ⟨Nat.le_of_ble_eq_true rfl, Nat.le_of_ble_eq_true rfl⟩ rfl rfl rfl rfl (by simp [y_cat, y_catI, y_catJ]) d_M_carryAll_33 h (fun x9 u10 h => ?_)
  refine y_stk (stp0 := [.int x9, va_re w.1 (some o)]) rfl ?_
  refine y_pi C (q := (yR5, yT5, 46)) (ci := 5) (k := 1) rfl (by decide) rfl rfl (by decide +kernel) g_785 d_M_carryAll_36 h (fun u11 h => ?_)
  refine y_aload_n C (i := 0) 0 d_M_carryAll_39 rfl rfl ?_
  refine y_aload_n C (i := 0) 0 d_M_carryAll_40 rfl rfl ?_
  refine y_aload_n C (i := 0) 0 d_M_carryAll_41 rfl rfl ?_
  refine y_gi C (q := (yR5, yT5, 46)) (ci := 5) (k := 2) rfl (by decide) rfl g_786 d_M_carryAll_42 h (fun x12 h => ?_)
  refine y_callV 1 C (q := (yR5, yT5, 46)) (ci := 5) (fun t out hh => c_M_carry l w F u11 t x12 out hh) gc_M_carryAll_186 rfl (by decide) hd_M_carry ⟨Nat.le_of_ble_eq_true rfl, Nat.le_of_ble_eq_true rfl⟩ rfl rfl rfl rfl (by simp [y_cat, y_catI, y_catJ]) d_M_carryAll_45 h (fun x13 u14 h => ?_)
  refine y_stk (stp0 := [.int x13, va_re w.1 (some o)]) rfl ?_
  refine y_pi C (q := (yR5, yT5, 46)) (ci := 5) (k := 2) rfl (by decide) rfl rfl (by decide +kernel) g_786 d_M_carryAll_48 h (fun u15 h => ?_)
  refine y_aload_n C (i := 0) 0 d_M_carryAll_51 rfl rfl ?_
  refine y_aload_n C (i := 0) 0 d_M_carryAll_52 rfl rfl ?_
  refine y_aload_n C (i := 0) 0 d_M_carryAll_53 rfl rfl ?_
  refine y_gi C (q := (yR5, yT5, 46)) (ci := 5) (k := 3) rfl (by decide) rfl g_787 d_M_carryAll_54 h (fun x16 h => ?_)
  refine y_callV 1 C (q := (yR5, yT5, 46)) (ci := 5) (fun t out hh => c_M_carry l w F u15 t x16 out hh) gc_M_carryAll_186 rfl (by decide) hd_M_carry ⟨Nat.le_of_ble_eq_true rfl, Nat.le_of_ble_eq_true rfl⟩ rfl rfl rfl rfl (by simp [y_cat, y_catI, y_catJ]) d_M_carryAll_57 h (fun x17 u18 h => ?_)
  refine y_stk (stp0 := [.int x17, va_re w.1 (some o)]) rfl ?_
  refine y_pi C (q := (yR5, yT5, 46)) (ci := 5) (k := 3) rfl (by decide) rfl rfl (by decide +kernel) g_787 d_M_carryAll_60 h (fun u19 h => ?_)
  refine y_iconst C (v := 0) d_M_carryAll_63 (by decide) ?_
  refine y_istore_n C (i := 3) (lvp := [(0, va_re w.1 (some o)), (1, va_re w.1 a1), (2, .int a2)]) d_M_carryAll_64 rfl (by decide) rfl ?_
  refine y_sub [1, 0] rfl (w_M_carryAll_L65 F C hr hlocks _ _ (fun u64 h => ?_) _ _ _ h)
  refine y_iconst C (v := 0) d_M_carryAll_189 (by decide) ?_
  refine y_istore_n C (i := 3) (lvp := [(0, va_re w.1 (some o))]) d_M_carryAll_190 rfl (by decide) rfl ?_
  refine y_sub [1, 0] rfl (w_M_carryAll_L191 F C hr hlocks _ _ (fun u121 h => ?_) _ _ _ h)
  exact y_vret C hr hlocks d_M_carryAll_347 h
/-! M_image -/
theorem d_M_image_0 : decode prog_8_method_28_code 0 = .ok (.aload_n 0, 1) := by decide +kernel
theorem d_M_image_1 : decode prog_8_method_28_code 1 = .ok (.iconst 0, 1) := by decide +kernel
theorem d_M_image_2 : decode prog_8_method_28_code 2 = .ok (.putfield 102, 3) := by decide +kernel
theorem d_M_image_5 : decode prog_8_method_28_code 5 = .ok (.aload_n 0, 1) := by decide +kernel
theorem d_M_image_6 : decode prog_8_method_28_code 6 = .ok (.iconst 1, 1) := by decide +kernel
theorem d_M_image_7 : decode prog_8_method_28_code 7 = .ok (.putfield 196, 3) := by decide +kernel
theorem d_M_image_10 : decode prog_8_method_28_code 10 = .ok (.aload_n 0, 1) := by decide +kernel
theorem d_M_image_11 : decode prog_8_method_28_code 11 = .ok (.aload_n 0, 1) := by decide +kernel
theorem d_M_image_12 : decode prog_8_method_28_code 12 = .ok (.getfield 68, 3) := by decide +kernel
theorem d_M_image_15 : decode prog_8_method_28_code 15 = .ok (.iconst 1, 1) := by decide +kernel
theorem d_M_image_16 : decode prog_8_method_28_code 16 = .ok (.invokevirtual 189, 3) := by decide +kernel
theorem d_M_image_19 : decode prog_8_method_28_code 19 = .ok (.aload_n 0, 1) := by decide +kernel
theorem d_M_image_20 : decode prog_8_method_28_code 20 = .ok (.getfield 133, 3) := by decide +kernel
theorem d_M_image_23 : decode prog_8_method_28_code 23 = .ok (.ireturn, 1) := by decide +kernel
theorem gc_M_image_189 : GoodIn yGW (wsV "WhoseGlassModel" 189 yR5 m_M_carryAll ws_M_carryAll) := y_gV g_932 g_934 gs_11 g_6 g_935
set_option maxRecDepth 100000 in
def f_M_image (F : Nat) (u : Mm) (o : Nat) : Option (Int32 × Mm) := ob (jpi YM 5 23 u (some o) (0 : Int32)) fun (u1 : Mm) => ob (jpz YM 5 26 u1 (some o) (1 : Int32)) fun (u2 : Mm) => ob (jgr YM 5 25 (some o)) fun (r3 : Option Nat) => ob (jk YM 5 (some o)) fun t => yb (f_M_carryAll F u2 t r3 (1 : Int32)) fun v4 u5 => ob (jgi YM 5 3 u5 (some o)) fun (x6 : Int32) => some (x6, u5)
set_option maxHeartbeats 4000000 in
set_option maxRecDepth 100000 in
theorem c_M_image (l : Launch) (w : WP) (F : Nat) (u : Mm) (o : Nat) (out : Int32 × Mm) (h : f_M_image F u o = some out) : yMet l m_M_image ws_M_image ({ frames := 2, cells := 0, slots := 0, locals := 44 } : Room) YM w u [va_re w.1 (some o)] yfi out := by
  refine y_entry (own := "WhoseGlassModel") (lv := [(0, va_re w.1 (some o))]) (by decide +kernel) rfl (by simp [lv_args, y_cat, y_catI, y_catJ]) (by simp [lg_sl, y_cat, y_catI, y_catJ]) ?_
  intro p e s m args below meth c C hr hlocks
  unfold f_M_image at h
  refine y_aload_n C (i := 0) 0 d_M_image_0 rfl rfl ?_
  refine y_iconst C (v := 0) d_M_image_1 (by decide) ?_
  refine y_pi C (q := (yR5, yT5, 46)) (ci := 5) (k := 23) rfl (by decide) rfl rfl (by decide +kernel) g_807 d_M_image_2 h (fun u1 h => ?_)
  refine y_aload_n C (i := 0) 0 d_M_image_5 rfl rfl ?_
  refine y_iconst C (v := 1) d_M_image_6 (by decide) ?_
  refine y_pz C (q := (yR5, yT5, 46)) (ci := 5) (k := 26) rfl (by decide) rfl rfl (by decide +kernel) g_810 d_M_image_7 h (fun u2 h => ?_)
  refine y_aload_n C (i := 0) 0 d_M_image_10 rfl rfl ?_
  refine y_aload_n C (i := 0) 0 d_M_image_11 rfl rfl ?_
  refine y_gr C (q := (yR5, yT5, 46)) (ci := 5) (k := 25) rfl (by decide) rfl (by decide) g_809 d_M_image_12 h (fun r3 h => ?_)
  refine y_iconst C (v := 1) d_M_image_15 (by decide) ?_
  refine y_callV 2 C (q := (yR5, yT5, 46)) (ci := 5) (fun t out hh => c_M_carryAll l w F u2 t r3 (1 : Int32) out hh) gc_M_image_189 rfl (by decide) hd_M_carryAll ⟨Nat.le_of_ble_eq_true rfl, Nat.le_of_ble_eq_true rfl⟩ rfl rfl rfl rfl (by simp [y_cat, y_catI, y_catJ]) d_M_image_16 h (fun v4 u5 h => ?_)
  refine y_stk (stp0 := []) rfl ?_
  refine y_aload_n C (i := 0) 0 d_M_image_19 rfl rfl ?_
  refine y_gi C (q := (yR5, yT5, 46)) (ci := 5) (k := 3) rfl (by decide) rfl g_787 d_M_image_20 h (fun x6 h => ?_)
  exact y_iret C hr hlocks d_M_image_23 h
/-! M_restore -/
theorem d_M_restore_0 : decode prog_8_method_29_code 0 = .ok (.aload_n 0, 1) := by decide +kernel
theorem d_M_restore_1 : decode prog_8_method_29_code 1 = .ok (.iconst 0, 1) := by decide +kernel
theorem d_M_restore_2 : decode prog_8_method_29_code 2 = .ok (.putfield 102, 3) := by decide +kernel
theorem d_M_restore_5 : decode prog_8_method_29_code 5 = .ok (.aload_n 0, 1) := by decide +kernel
theorem d_M_restore_6 : decode prog_8_method_29_code 6 = .ok (.getfield 196, 3) := by decide +kernel
theorem d_M_restore_9 : decode prog_8_method_29_code 9 = .ok (.ifCond .ne 6, 3) := by decide +kernel
theorem d_M_restore_12 : decode prog_8_method_29_code 12 = .ok (.bipush (-3), 2) := by decide +kernel
theorem d_M_restore_14 : decode prog_8_method_29_code 14 = .ok (.ireturn, 1) := by decide +kernel
theorem d_M_restore_15 : decode prog_8_method_29_code 15 = .ok (.aload_n 0, 1) := by decide +kernel
theorem d_M_restore_16 : decode prog_8_method_29_code 16 = .ok (.aload_n 0, 1) := by decide +kernel
theorem d_M_restore_17 : decode prog_8_method_29_code 17 = .ok (.getfield 68, 3) := by decide +kernel
theorem d_M_restore_20 : decode prog_8_method_29_code 20 = .ok (.iconst 0, 1) := by decide +kernel
theorem d_M_restore_21 : decode prog_8_method_29_code 21 = .ok (.invokevirtual 189, 3) := by decide +kernel
theorem d_M_restore_24 : decode prog_8_method_29_code 24 = .ok (.aload_n 0, 1) := by decide +kernel
theorem d_M_restore_25 : decode prog_8_method_29_code 25 = .ok (.getfield 133, 3) := by decide +kernel
theorem d_M_restore_28 : decode prog_8_method_29_code 28 = .ok (.ireturn, 1) := by decide +kernel
theorem gc_M_restore_189 : GoodIn yGW (wsV "WhoseGlassModel" 189 yR5 m_M_carryAll ws_M_carryAll) := y_gV g_932 g_934 gs_11 g_6 g_935
set_option maxRecDepth 100000 in
def f_M_restore (F : Nat) (u : Mm) (o : Nat) : Option (Int32 × Mm) := ob (jpi YM 5 23 u (some o) (0 : Int32)) fun (u1 : Mm) => ob (jgi YM 5 26 u1 (some o)) fun (x2 : Int32) => (if x2 = 0 then some ((-3 : Int32), u1) else ob (jgr YM 5 25 (some o)) fun (r4 : Option Nat) => ob (jk YM 5 (some o)) fun t => yb (f_M_carryAll F u1 t r4 (0 : Int32)) fun v5 u6 => ob (jgi YM 5 3 u6 (some o)) fun (x7 : Int32) => some (x7, u6))
set_option maxHeartbeats 4000000 in
set_option maxRecDepth 100000 in
theorem c_M_restore (l : Launch) (w : WP) (F : Nat) (u : Mm) (o : Nat) (out : Int32 × Mm) (h : f_M_restore F u o = some out) : yMet l m_M_restore ws_M_restore ({ frames := 2, cells := 0, slots := 0, locals := 44 } : Room) YM w u [va_re w.1 (some o)] yfi out := by
  refine y_entry (own := "WhoseGlassModel") (lv := [(0, va_re w.1 (some o))]) (by decide +kernel) rfl (by simp [lv_args, y_cat, y_catI, y_catJ]) (by simp [lg_sl, y_cat, y_catI, y_catJ]) ?_
  intro p e s m args below meth c C hr hlocks
  unfold f_M_restore at h
  refine y_aload_n C (i := 0) 0 d_M_restore_0 rfl rfl ?_
  refine y_iconst C (v := 0) d_M_restore_1 (by decide) ?_
  refine y_pi C (q := (yR5, yT5, 46)) (ci := 5) (k := 23) rfl (by decide) rfl rfl (by decide +kernel) g_807 d_M_restore_2 h (fun u1 h => ?_)
  refine y_aload_n C (i := 0) 0 d_M_restore_5 rfl rfl ?_
  refine y_gi C (q := (yR5, yT5, 46)) (ci := 5) (k := 26) rfl (by decide) rfl g_810 d_M_restore_6 h (fun x2 h => ?_)
  refine y_if_ne C 15 d_M_restore_9 (by decide) h (fun k3 h => ?_) (fun k3 h => ?_)
  · refine y_bipush C (v := -3) d_M_restore_12 (by decide) ?_
    exact y_iret C hr hlocks d_M_restore_14 h
  · refine y_aload_n C (i := 0) 0 d_M_restore_15 rfl rfl ?_
    refine y_aload_n C (i := 0) 0 d_M_restore_16 rfl rfl ?_
    refine y_gr C (q := (yR5, yT5, 46)) (ci := 5) (k := 25) rfl (by decide) rfl (by decide) g_809 d_M_restore_17 h (fun r4 h => ?_)
    refine y_iconst C (v := 0) d_M_restore_20 (by decide) ?_
    refine y_callV 2 C (q := (yR5, yT5, 46)) (ci := 5) (fun t out hh => c_M_carryAll l w F u1 t r4 (0 : Int32) out hh) gc_M_restore_189 rfl (by decide) hd_M_carryAll ⟨Nat.le_of_ble_eq_true rfl, Nat.le_of_ble_eq_true rfl⟩ rfl rfl rfl rfl (by simp [y_cat, y_catI, y_catJ]) d_M_restore_21 h (fun v5 u6 h => ?_)
    refine y_stk (stp0 := []) rfl ?_
    refine y_aload_n C (i := 0) 0 d_M_restore_24 rfl rfl ?_
    refine y_gi C (q := (yR5, yT5, 46)) (ci := 5) (k := 3) rfl (by decide) rfl g_787 d_M_restore_25 h (fun x7 h => ?_)
    exact y_iret C hr hlocks d_M_restore_28 h
/-! M_in -/
theorem d_M_in_0 : decode prog_8_method_3_code 0 = .ok (.lload_n 0, 1) := by decide +kernel
theorem d_M_in_1 : decode prog_8_method_3_code 1 = .ok (.lload_n 2, 1) := by decide +kernel
theorem d_M_in_2 : decode prog_8_method_3_code 2 = .ok (.lcmp, 1) := by decide +kernel
theorem d_M_in_3 : decode prog_8_method_3_code 3 = .ok (.ifCond .lt 14, 3) := by decide +kernel
theorem d_M_in_6 : decode prog_8_method_3_code 6 = .ok (.lload_n 0, 1) := by decide +kernel
theorem d_M_in_7 : decode prog_8_method_3_code 7 = .ok (.lload 4, 2) := by decide +kernel
theorem d_M_in_9 : decode prog_8_method_3_code 9 = .ok (.lcmp, 1) := by decide +kernel
theorem d_M_in_10 : decode prog_8_method_3_code 10 = .ok (.ifCond .gt 7, 3) := by decide +kernel
theorem d_M_in_13 : decode prog_8_method_3_code 13 = .ok (.iconst 1, 1) := by decide +kernel
theorem d_M_in_14 : decode prog_8_method_3_code 14 = .ok (.goto 4, 3) := by decide +kernel
theorem d_M_in_17 : decode prog_8_method_3_code 17 = .ok (.iconst 0, 1) := by decide +kernel
theorem d_M_in_18 : decode prog_8_method_3_code 18 = .ok (.ireturn, 1) := by decide +kernel
set_option maxRecDepth 100000 in
def f_M_in (F : Nat) (u : Mm) (a0 : Int64) (a2 : Int64) (a4 : Int64) : Option (Int32 × Mm) := (if (lg_cmp a0 a2) < 0 then ob (jz (0 : Int32)) (fun v => some (v, u)) else (if 0 < (lg_cmp a0 a4) then ob (jz (0 : Int32)) (fun v => some (v, u)) else ob (jz (1 : Int32)) (fun v => some (v, u))))
set_option maxHeartbeats 4000000 in
set_option maxRecDepth 100000 in
theorem c_M_in (l : Launch) (w : WP) (F : Nat) (u : Mm) (a0 : Int64) (a2 : Int64) (a4 : Int64) (out : Int32 × Mm) (h : f_M_in F u a0 a2 a4 = some out) : yMet l m_M_in ws_M_in ({ frames := 0, cells := 0, slots := 0, locals := 0 } : Room) YM w u [.long a0, .long a2, .long a4] yfi out := by
  refine y_entry (own := "WhoseGlassModel") (lv := [(0, .long a0), (2, .long a2), (4, .long a4)]) (by decide +kernel) rfl (by simp [lv_args, y_cat, y_catI, y_catJ]) (by simp [lg_sl, y_cat, y_catI, y_catJ]) ?_
  intro p e s m args below meth c C hr hlocks
  unfold f_M_in at h
  refine y_lload_n C (i := 0) 0 d_M_in_0 rfl rfl ?_
  refine y_lload_n C (i := 2) 1 d_M_in_1 rfl rfl ?_
  refine y_lcmp C d_M_in_2 ?_
  refine y_if_lt C 17 d_M_in_3 (by decide) h (fun k1 h => ?_) (fun k1 h => ?_)
  · refine y_iconst C (v := 0) d_M_in_17 (by decide) ?_
    exact y_zret C hr hlocks d_M_in_18 h
  · refine y_lload_n C (i := 0) 0 d_M_in_6 rfl rfl ?_
    refine y_lload C (i := 4) 2 d_M_in_7 rfl ?_
    refine y_lcmp C d_M_in_9 ?_
    refine y_if_gt C 17 d_M_in_10 (by decide) h (fun k2 h => ?_) (fun k2 h => ?_)
    · refine y_iconst C (v := 0) d_M_in_17 (by decide) ?_
      exact y_zret C hr hlocks d_M_in_18 h
    · refine y_iconst C (v := 1) d_M_in_13 (by decide) ?_
      refine y_goto C (tgt := 18) d_M_in_14 (by decide) ?_
      exact y_zret C hr hlocks d_M_in_18 h
/-! M_wrongRow -/
theorem d_M_wrongRow_0 : decode prog_8_method_78_code 0 = .ok (.iload_n 1, 1) := by decide +kernel
theorem d_M_wrongRow_1 : decode prog_8_method_78_code 1 = .ok (.i2l, 1) := by decide +kernel
theorem d_M_wrongRow_2 : decode prog_8_method_78_code 2 = .ok (.lconst 0, 1) := by decide +kernel
theorem d_M_wrongRow_3 : decode prog_8_method_78_code 3 = .ok (.ldc2_w 263, 3) := by decide +kernel
theorem d_M_wrongRow_6 : decode prog_8_method_78_code 6 = .ok (.invokestatic 108, 3) := by decide +kernel
theorem d_M_wrongRow_9 : decode prog_8_method_78_code 9 = .ok (.ifCond .ne 7, 3) := by decide +kernel
theorem d_M_wrongRow_12 : decode prog_8_method_78_code 12 = .ok (.iconst (-1), 1) := by decide +kernel
theorem d_M_wrongRow_13 : decode prog_8_method_78_code 13 = .ok (.goto 33, 3) := by decide +kernel
theorem d_M_wrongRow_16 : decode prog_8_method_78_code 16 = .ok (.aload_n 0, 1) := by decide +kernel
theorem d_M_wrongRow_17 : decode prog_8_method_78_code 17 = .ok (.getfield 80, 3) := by decide +kernel
theorem d_M_wrongRow_20 : decode prog_8_method_78_code 20 = .ok (.iload_n 1, 1) := by decide +kernel
theorem d_M_wrongRow_21 : decode prog_8_method_78_code 21 = .ok (.iaload, 1) := by decide +kernel
theorem d_M_wrongRow_22 : decode prog_8_method_78_code 22 = .ok (.ifCond .ne 8, 3) := by decide +kernel
theorem d_M_wrongRow_25 : decode prog_8_method_78_code 25 = .ok (.bipush (-11), 2) := by decide +kernel
theorem d_M_wrongRow_27 : decode prog_8_method_78_code 27 = .ok (.goto 19, 3) := by decide +kernel
theorem d_M_wrongRow_30 : decode prog_8_method_78_code 30 = .ok (.aload_n 0, 1) := by decide +kernel
theorem d_M_wrongRow_31 : decode prog_8_method_78_code 31 = .ok (.getfield 80, 3) := by decide +kernel
theorem d_M_wrongRow_34 : decode prog_8_method_78_code 34 = .ok (.iload_n 1, 1) := by decide +kernel
theorem d_M_wrongRow_35 : decode prog_8_method_78_code 35 = .ok (.iaload, 1) := by decide +kernel
theorem d_M_wrongRow_36 : decode prog_8_method_78_code 36 = .ok (.iconst 2, 1) := by decide +kernel
theorem d_M_wrongRow_37 : decode prog_8_method_78_code 37 = .ok (.if_icmp .eq 8, 3) := by decide +kernel
theorem d_M_wrongRow_40 : decode prog_8_method_78_code 40 = .ok (.bipush (-12), 2) := by decide +kernel
theorem d_M_wrongRow_42 : decode prog_8_method_78_code 42 = .ok (.goto 4, 3) := by decide +kernel
theorem d_M_wrongRow_45 : decode prog_8_method_78_code 45 = .ok (.iconst 0, 1) := by decide +kernel
theorem d_M_wrongRow_46 : decode prog_8_method_78_code 46 = .ok (.ireturn, 1) := by decide +kernel
set_option maxRecDepth 100000 in
def f_M_wrongRow (F : Nat) (u : Mm) (o : Nat) (a1 : Int32) : Option (Int32 × Mm) := yb (f_M_in F u (a1.toInt64) (0 : Int64) (7 : Int64)) fun x1 u2 => (if x1 = 0 then some ((-1 : Int32), u2) else ob (jgr YM 5 39 (some o)) fun (r4 : Option Nat) => ob (jal YM u2 r4 a1) fun (x5 : Int32) => (if x5 = 0 then some ((-11 : Int32), u2) else ob (jgr YM 5 39 (some o)) fun (r7 : Option Nat) => ob (jal YM u2 r7 a1) fun (x8 : Int32) => (if x8 = (2 : Int32) then some ((0 : Int32), u2) else some ((-12 : Int32), u2))))
set_option maxHeartbeats 4000000 in
set_option maxRecDepth 100000 in
theorem c_M_wrongRow (l : Launch) (w : WP) (F : Nat) (u : Mm) (o : Nat) (a1 : Int32) (out : Int32 × Mm) (h : f_M_wrongRow F u o a1 = some out) : yMet l m_M_wrongRow ws_M_wrongRow ({ frames := 1, cells := 0, slots := 0, locals := 25 } : Room) YM w u [va_re w.1 (some o), .int a1] yfi out := by
  refine y_entry (own := "WhoseGlassModel") (lv := [(0, va_re w.1 (some o)), (1, .int a1)]) (by decide +kernel) rfl (by simp [lv_args, y_cat, y_catI, y_catJ]) (by simp [lg_sl, y_cat, y_catI, y_catJ]) ?_
  intro p e s m args below meth c C hr hlocks
  unfold f_M_wrongRow at h
  refine y_iload_n C (i := 1) 1 d_M_wrongRow_0 rfl rfl ?_
  refine y_i2l C d_M_wrongRow_1 ?_
  refine y_lconst C (v := 0) d_M_wrongRow_2 (by decide) ?_
  refine y_ldc2 C d_M_wrongRow_3 g_956 ?_
  refine y_callS 3 C (fun out hh => c_M_in l w F u (a1.toInt64) (0 : Int64) (7 : Int64) out hh) (y_gc g_959) g_957 g_6 g_958 hn_M_in ⟨Nat.le_of_ble_eq_true rfl, Nat.le_of_ble_eq_true rfl⟩ rfl rfl rfl rfl (by simp [y_cat, y_catI, y_catJ]) d_M_wrongRow_6 h (fun x1 u2 h => ?_)
  refine y_stk (stp0 := [.int x1]) rfl ?_
  refine y_if_ne C 16 d_M_wrongRow_9 (by decide) h (fun k3 h => ?_) (fun k3 h => ?_)
  · refine y_iconst C (v := -1) d_M_wrongRow_12 (by decide) ?_
    refine y_goto C (tgt := 46) d_M_wrongRow_13 (by decide) ?_
    exact y_iret C hr hlocks d_M_wrongRow_46 h
  · refine y_aload_n C (i := 0) 0 d_M_wrongRow_16 rfl rfl ?_
    refine y_gr C (q := (yR5, yT5, 46)) (ci := 5) (k := 39) rfl (by decide) rfl (by decide) g_823 d_M_wrongRow_17 h (fun r4 h => ?_)
    refine y_iload_n C (i := 1) 1 d_M_wrongRow_20 rfl rfl ?_
    refine y_al C d_M_wrongRow_21 h (fun x5 h => ?_)
    refine y_if_ne C 30 d_M_wrongRow_22 (by decide) h (fun k6 h => ?_) (fun k6 h => ?_)
    · refine y_bipush C (v := -11) d_M_wrongRow_25 (by decide) ?_
      refine y_goto C (tgt := 46) d_M_wrongRow_27 (by decide) ?_
      exact y_iret C hr hlocks d_M_wrongRow_46 h
    · refine y_aload_n C (i := 0) 0 d_M_wrongRow_30 rfl rfl ?_
      refine y_gr C (q := (yR5, yT5, 46)) (ci := 5) (k := 39) rfl (by decide) rfl (by decide) g_823 d_M_wrongRow_31 h (fun r7 h => ?_)
      refine y_iload_n C (i := 1) 1 d_M_wrongRow_34 rfl rfl ?_
      refine y_al C d_M_wrongRow_35 h (fun x8 h => ?_)
      refine y_iconst C (v := 2) d_M_wrongRow_36 (by decide) ?_
      refine y_ic_eq C 45 d_M_wrongRow_37 (by decide) h (fun k9 h => ?_) (fun k9 h => ?_)
      · refine y_iconst C (v := 0) d_M_wrongRow_45 (by decide) ?_
        exact y_iret C hr hlocks d_M_wrongRow_46 h
      · refine y_bipush C (v := -12) d_M_wrongRow_40 (by decide) ?_
        refine y_goto C (tgt := 46) d_M_wrongRow_42 (by decide) ?_
        exact y_iret C hr hlocks d_M_wrongRow_46 h
/-! M_wrongSort -/
theorem d_M_wrongSort_0 : decode prog_8_method_76_code 0 = .ok (.aload_n 0, 1) := by decide +kernel
theorem d_M_wrongSort_1 : decode prog_8_method_76_code 1 = .ok (.iload_n 1, 1) := by decide +kernel
theorem d_M_wrongSort_2 : decode prog_8_method_76_code 2 = .ok (.invokevirtual 312, 3) := by decide +kernel
theorem d_M_wrongSort_5 : decode prog_8_method_76_code 5 = .ok (.ifCond .ge 11, 3) := by decide +kernel
theorem d_M_wrongSort_8 : decode prog_8_method_76_code 8 = .ok (.aload_n 0, 1) := by decide +kernel
theorem d_M_wrongSort_9 : decode prog_8_method_76_code 9 = .ok (.iload_n 1, 1) := by decide +kernel
theorem d_M_wrongSort_10 : decode prog_8_method_76_code 10 = .ok (.invokevirtual 312, 3) := by decide +kernel
theorem d_M_wrongSort_13 : decode prog_8_method_76_code 13 = .ok (.goto 19, 3) := by decide +kernel
theorem d_M_wrongSort_16 : decode prog_8_method_76_code 16 = .ok (.aload_n 0, 1) := by decide +kernel
theorem d_M_wrongSort_17 : decode prog_8_method_76_code 17 = .ok (.getfield 89, 3) := by decide +kernel
theorem d_M_wrongSort_20 : decode prog_8_method_76_code 20 = .ok (.iload_n 1, 1) := by decide +kernel
theorem d_M_wrongSort_21 : decode prog_8_method_76_code 21 = .ok (.iaload, 1) := by decide +kernel
theorem d_M_wrongSort_22 : decode prog_8_method_76_code 22 = .ok (.iload_n 2, 1) := by decide +kernel
theorem d_M_wrongSort_23 : decode prog_8_method_76_code 23 = .ok (.if_icmp .eq 8, 3) := by decide +kernel
theorem d_M_wrongSort_26 : decode prog_8_method_76_code 26 = .ok (.bipush (-12), 2) := by decide +kernel
theorem d_M_wrongSort_28 : decode prog_8_method_76_code 28 = .ok (.goto 4, 3) := by decide +kernel
theorem d_M_wrongSort_31 : decode prog_8_method_76_code 31 = .ok (.iconst 0, 1) := by decide +kernel
theorem d_M_wrongSort_32 : decode prog_8_method_76_code 32 = .ok (.ireturn, 1) := by decide +kernel
theorem gc_M_wrongSort_312 : GoodIn yGW (wsV "WhoseGlassModel" 312 yR5 m_M_wrongRow ws_M_wrongRow) := y_gV g_952 g_954 gs_14 g_6 g_955
set_option maxRecDepth 100000 in
def f_M_wrongSort (F : Nat) (u : Mm) (o : Nat) (a1 : Int32) (a2 : Int32) : Option (Int32 × Mm) := ob (jk YM 5 (some o)) fun t => yb (f_M_wrongRow F u t a1) fun x1 u2 => (if 0 ≤ x1 then ob (jgr YM 5 42 (some o)) fun (r4 : Option Nat) => ob (jal YM u2 r4 a1) fun (x5 : Int32) => (if x5 = a2 then some ((0 : Int32), u2) else some ((-12 : Int32), u2)) else ob (jk YM 5 (some o)) fun t => yb (f_M_wrongRow F u2 t a1) fun x7 u8 => some (x7, u8))
set_option maxHeartbeats 4000000 in
set_option maxRecDepth 100000 in
theorem c_M_wrongSort (l : Launch) (w : WP) (F : Nat) (u : Mm) (o : Nat) (a1 : Int32) (a2 : Int32) (out : Int32 × Mm) (h : f_M_wrongSort F u o a1 a2 = some out) : yMet l m_M_wrongSort ws_M_wrongSort ({ frames := 2, cells := 0, slots := 0, locals := 46 } : Room) YM w u [va_re w.1 (some o), .int a1, .int a2] yfi out := by
  refine y_entry (own := "WhoseGlassModel") (lv := [(0, va_re w.1 (some o)), (1, .int a1), (2, .int a2)]) (by decide +kernel) rfl (by simp [lv_args, y_cat, y_catI, y_catJ]) (by simp [lg_sl, y_cat, y_catI, y_catJ]) ?_
  intro p e s m args below meth c C hr hlocks
  unfold f_M_wrongSort at h
  refine y_aload_n C (i := 0) 0 d_M_wrongSort_0 rfl rfl ?_
  refine y_iload_n C (i := 1) 1 d_M_wrongSort_1 rfl rfl ?_
  refine y_callV 1 C (q := (yR5, yT5, 46)) (ci := 5) (fun t out hh => c_M_wrongRow l w F u t a1 out hh) gc_M_wrongSort_312 rfl (by decide) hd_M_wrongRow ⟨Nat.le_of_ble_eq_true rfl, Nat.le_of_ble_eq_true rfl⟩ rfl rfl rfl rfl (by simp [y_cat, y_catI, y_catJ]) d_M_wrongSort_2 h (fun x1 u2 h => ?_)
  refine y_stk (stp0 := [.int x1]) rfl ?_
  refine y_if_ge C 16 d_M_wrongSort_5 (by decide) h (fun k3 h => ?_) (fun k3 h => ?_)
  · refine y_aload_n C (i := 0) 0 d_M_wrongSort_16 rfl rfl ?_
    refine y_gr C (q := (yR5, yT5, 46)) (ci := 5) (k := 42) rfl (by decide) rfl (by decide) g_826 d_M_wrongSort_17 h (fun r4 h => ?_)
    refine y_iload_n C (i := 1) 1 d_M_wrongSort_20 rfl rfl ?_
    refine y_al C d_M_wrongSort_21 h (fun x5 h => ?_)
    refine y_iload_n C (i := 2) 2 d_M_wrongSort_22 rfl rfl ?_
    refine y_ic_eq C 31 d_M_wrongSort_23 (by decide) h (fun k6 h => ?_) (fun k6 h => ?_)
    · refine y_iconst C (v := 0) d_M_wrongSort_31 (by decide) ?_
      exact y_iret C hr hlocks d_M_wrongSort_32 h
    · refine y_bipush C (v := -12) d_M_wrongSort_26 (by decide) ?_
      refine y_goto C (tgt := 32) d_M_wrongSort_28 (by decide) ?_
      exact y_iret C hr hlocks d_M_wrongSort_32 h
  · refine y_aload_n C (i := 0) 0 d_M_wrongSort_8 rfl rfl ?_
    refine y_iload_n C (i := 1) 1 d_M_wrongSort_9 rfl rfl ?_
    refine y_callV 1 C (q := (yR5, yT5, 46)) (ci := 5) (fun t out hh => c_M_wrongRow l w F u2 t a1 out hh) gc_M_wrongSort_312 rfl (by decide) hd_M_wrongRow ⟨Nat.le_of_ble_eq_true rfl, Nat.le_of_ble_eq_true rfl⟩ rfl rfl rfl rfl (by simp [y_cat, y_catI, y_catJ]) d_M_wrongSort_10 h (fun x7 u8 h => ?_)
    refine y_stk (stp0 := [.int x7]) rfl ?_
    refine y_goto C (tgt := 32) d_M_wrongSort_13 (by decide) ?_
    exact y_iret C hr hlocks d_M_wrongSort_32 h
/-! M_here -/
theorem d_M_here_0 : decode prog_8_method_30_code 0 = .ok (.aload_n 0, 1) := by decide +kernel
theorem d_M_here_1 : decode prog_8_method_30_code 1 = .ok (.getfield 199, 3) := by decide +kernel
theorem d_M_here_4 : decode prog_8_method_30_code 4 = .ok (.aload_n 0, 1) := by decide +kernel
theorem d_M_here_5 : decode prog_8_method_30_code 5 = .ok (.getfield 202, 3) := by decide +kernel
theorem d_M_here_8 : decode prog_8_method_30_code 8 = .ok (.if_icmp .lt 7, 3) := by decide +kernel
theorem d_M_here_11 : decode prog_8_method_30_code 11 = .ok (.iconst (-1), 1) := by decide +kernel
theorem d_M_here_12 : decode prog_8_method_30_code 12 = .ok (.goto 22, 3) := by decide +kernel
theorem d_M_here_15 : decode prog_8_method_30_code 15 = .ok (.aload_n 0, 1) := by decide +kernel
theorem d_M_here_16 : decode prog_8_method_30_code 16 = .ok (.getfield 95, 3) := by decide +kernel
theorem d_M_here_19 : decode prog_8_method_30_code 19 = .ok (.aload_n 0, 1) := by decide +kernel
theorem d_M_here_20 : decode prog_8_method_30_code 20 = .ok (.getfield 205, 3) := by decide +kernel
theorem d_M_here_23 : decode prog_8_method_30_code 23 = .ok (.aload_n 0, 1) := by decide +kernel
theorem d_M_here_24 : decode prog_8_method_30_code 24 = .ok (.getfield 199, 3) := by decide +kernel
theorem d_M_here_27 : decode prog_8_method_30_code 27 = .ok (.iadd, 1) := by decide +kernel
theorem d_M_here_28 : decode prog_8_method_30_code 28 = .ok (.laload, 1) := by decide +kernel
theorem d_M_here_29 : decode prog_8_method_30_code 29 = .ok (.l2i, 1) := by decide +kernel
theorem d_M_here_30 : decode prog_8_method_30_code 30 = .ok (.sipush 255, 3) := by decide +kernel
theorem d_M_here_33 : decode prog_8_method_30_code 33 = .ok (.iand, 1) := by decide +kernel
theorem d_M_here_34 : decode prog_8_method_30_code 34 = .ok (.ireturn, 1) := by decide +kernel
set_option maxRecDepth 100000 in
def f_M_here (F : Nat) (u : Mm) (o : Nat) : Option (Int32 × Mm) := ob (jgi YM 5 32 u (some o)) fun (x1 : Int32) => ob (jgi YM 5 31 u (some o)) fun (x2 : Int32) => (if x1 < x2 then ob (jgr YM 5 44 (some o)) fun (r4 : Option Nat) => ob (jgi YM 5 30 u (some o)) fun (x5 : Int32) => ob (jgi YM 5 32 u (some o)) fun (x6 : Int32) => ob (jll YM u r4 (x5 + x6)) fun (z7 : Int64) => some (((z7.toInt32) &&& (255 : Int32)), u) else some ((-1 : Int32), u))
set_option maxHeartbeats 4000000 in
set_option maxRecDepth 100000 in
theorem c_M_here (l : Launch) (w : WP) (F : Nat) (u : Mm) (o : Nat) (out : Int32 × Mm) (h : f_M_here F u o = some out) : yMet l m_M_here ws_M_here ({ frames := 0, cells := 0, slots := 0, locals := 0 } : Room) YM w u [va_re w.1 (some o)] yfi out := by
  refine y_entry (own := "WhoseGlassModel") (lv := [(0, va_re w.1 (some o))]) (by decide +kernel) rfl (by simp [lv_args, y_cat, y_catI, y_catJ]) (by simp [lg_sl, y_cat, y_catI, y_catJ]) ?_
  intro p e s m args below meth c C hr hlocks
  unfold f_M_here at h
  refine y_aload_n C (i := 0) 0 d_M_here_0 rfl rfl ?_
  refine y_gi C (q := (yR5, yT5, 46)) (ci := 5) (k := 32) rfl (by decide) rfl g_816 d_M_here_1 h (fun x1 h => ?_)
  refine y_aload_n C (i := 0) 0 d_M_here_4 rfl rfl ?_
  refine y_gi C (q := (yR5, yT5, 46)) (ci := 5) (k := 31) rfl (by decide) rfl g_815 d_M_here_5 h (fun x2 h => ?_)
  refine y_ic_lt C 15 d_M_here_8 (by decide) h (fun k3 h => ?_) (fun k3 h => ?_)
  · refine y_aload_n C (i := 0) 0 d_M_here_15 rfl rfl ?_
    refine y_gr C (q := (yR5, yT5, 46)) (ci := 5) (k := 44) rfl (by decide) rfl (by decide) g_828 d_M_here_16 h (fun r4 h => ?_)
    refine y_aload_n C (i := 0) 0 d_M_here_19 rfl rfl ?_
    refine y_gi C (q := (yR5, yT5, 46)) (ci := 5) (k := 30) rfl (by decide) rfl g_814 d_M_here_20 h (fun x5 h => ?_)
    refine y_aload_n C (i := 0) 0 d_M_here_23 rfl rfl ?_
    refine y_gi C (q := (yR5, yT5, 46)) (ci := 5) (k := 32) rfl (by decide) rfl g_816 d_M_here_24 h (fun x6 h => ?_)
    refine y_iadd C d_M_here_27 ?_
    refine y_ll C d_M_here_28 h (fun z7 h => ?_)
    refine y_l2i C d_M_here_29 ?_
    refine y_sipush C (v := 255) d_M_here_30 (by decide) ?_
    refine y_iand C d_M_here_33 ?_
    exact y_iret C hr hlocks d_M_here_34 h
  · refine y_iconst C (v := -1) d_M_here_11 (by decide) ?_
    refine y_goto C (tgt := 34) d_M_here_12 (by decide) ?_
    exact y_iret C hr hlocks d_M_here_34 h
/-! M_readDigit -/
theorem d_M_readDigit_0 : decode prog_8_method_31_code 0 = .ok (.aload_n 0, 1) := by decide +kernel
theorem d_M_readDigit_1 : decode prog_8_method_31_code 1 = .ok (.aload_n 0, 1) := by decide +kernel
theorem d_M_readDigit_2 : decode prog_8_method_31_code 2 = .ok (.getfield 208, 3) := by decide +kernel
theorem d_M_readDigit_5 : decode prog_8_method_31_code 5 = .ok (.ifCond .ne 20, 3) := by decide +kernel
theorem d_M_readDigit_8 : decode prog_8_method_31_code 8 = .ok (.aload_n 0, 1) := by decide +kernel
theorem d_M_readDigit_9 : decode prog_8_method_31_code 9 = .ok (.invokevirtual 211, 3) := by decide +kernel
theorem d_M_readDigit_12 : decode prog_8_method_31_code 12 = .ok (.i2l, 1) := by decide +kernel
theorem d_M_readDigit_13 : decode prog_8_method_31_code 13 = .ok (.ldc2_w 215, 3) := by decide +kernel
theorem d_M_readDigit_16 : decode prog_8_method_31_code 16 = .ok (.ldc2_w 217, 3) := by decide +kernel
theorem d_M_readDigit_19 : decode prog_8_method_31_code 19 = .ok (.invokestatic 108, 3) := by decide +kernel
theorem d_M_readDigit_22 : decode prog_8_method_31_code 22 = .ok (.ifCond .ne 7, 3) := by decide +kernel
theorem d_M_readDigit_25 : decode prog_8_method_31_code 25 = .ok (.iconst 1, 1) := by decide +kernel
theorem d_M_readDigit_26 : decode prog_8_method_31_code 26 = .ok (.goto 4, 3) := by decide +kernel
theorem d_M_readDigit_29 : decode prog_8_method_31_code 29 = .ok (.iconst 0, 1) := by decide +kernel
theorem d_M_readDigit_30 : decode prog_8_method_31_code 30 = .ok (.putfield 208, 3) := by decide +kernel
theorem d_M_readDigit_33 : decode prog_8_method_31_code 33 = .ok (.aload_n 0, 1) := by decide +kernel
theorem d_M_readDigit_34 : decode prog_8_method_31_code 34 = .ok (.getfield 208, 3) := by decide +kernel
theorem d_M_readDigit_37 : decode prog_8_method_31_code 37 = .ok (.ifCond .eq 5, 3) := by decide +kernel
theorem d_M_readDigit_40 : decode prog_8_method_31_code 40 = .ok (.iconst 0, 1) := by decide +kernel
theorem d_M_readDigit_41 : decode prog_8_method_31_code 41 = .ok (.ireturn, 1) := by decide +kernel
theorem d_M_readDigit_42 : decode prog_8_method_31_code 42 = .ok (.aload_n 0, 1) := by decide +kernel
theorem d_M_readDigit_43 : decode prog_8_method_31_code 43 = .ok (.dup, 1) := by decide +kernel
theorem d_M_readDigit_44 : decode prog_8_method_31_code 44 = .ok (.getfield 199, 3) := by decide +kernel
theorem d_M_readDigit_47 : decode prog_8_method_31_code 47 = .ok (.iconst 1, 1) := by decide +kernel
theorem d_M_readDigit_48 : decode prog_8_method_31_code 48 = .ok (.iadd, 1) := by decide +kernel
theorem d_M_readDigit_49 : decode prog_8_method_31_code 49 = .ok (.putfield 199, 3) := by decide +kernel
theorem d_M_readDigit_52 : decode prog_8_method_31_code 52 = .ok (.aload_n 0, 1) := by decide +kernel
theorem d_M_readDigit_53 : decode prog_8_method_31_code 53 = .ok (.getfield 95, 3) := by decide +kernel
theorem d_M_readDigit_56 : decode prog_8_method_31_code 56 = .ok (.aload_n 0, 1) := by decide +kernel
theorem d_M_readDigit_57 : decode prog_8_method_31_code 57 = .ok (.getfield 205, 3) := by decide +kernel
theorem d_M_readDigit_60 : decode prog_8_method_31_code 60 = .ok (.aload_n 0, 1) := by decide +kernel
theorem d_M_readDigit_61 : decode prog_8_method_31_code 61 = .ok (.getfield 199, 3) := by decide +kernel
theorem d_M_readDigit_64 : decode prog_8_method_31_code 64 = .ok (.iadd, 1) := by decide +kernel
theorem d_M_readDigit_65 : decode prog_8_method_31_code 65 = .ok (.iconst 1, 1) := by decide +kernel
theorem d_M_readDigit_66 : decode prog_8_method_31_code 66 = .ok (.isub, 1) := by decide +kernel
theorem d_M_readDigit_67 : decode prog_8_method_31_code 67 = .ok (.laload, 1) := by decide +kernel
theorem d_M_readDigit_68 : decode prog_8_method_31_code 68 = .ok (.l2i, 1) := by decide +kernel
theorem d_M_readDigit_69 : decode prog_8_method_31_code 69 = .ok (.bipush 48, 2) := by decide +kernel
theorem d_M_readDigit_71 : decode prog_8_method_31_code 71 = .ok (.isub, 1) := by decide +kernel
theorem d_M_readDigit_72 : decode prog_8_method_31_code 72 = .ok (.ireturn, 1) := by decide +kernel
theorem gc_M_readDigit_211 : GoodIn yGW (wsV "WhoseGlassModel" 211 yR5 m_M_here ws_M_here) := y_gV g_964 g_966 gs_16 g_6 g_967
set_option maxRecDepth 100000 in
def f_M_readDigit (F : Nat) (u : Mm) (o : Nat) : Option (Int32 × Mm) := ob (jgi YM 5 33 u (some o)) fun (x1 : Int32) => ob ((if x1 = 0 then ob (jk YM 5 (some o)) fun t => yb (f_M_here F u t ) fun x4 u5 => yb (f_M_in F u5 (x4.toInt64) (48 : Int64) (57 : Int64)) fun x6 u7 => (if x6 = 0 then some ((1 : Int32), u7) else some ((0 : Int32), u7)) else some ((1 : Int32), u)) : Option (Int32 × Mm)) fun q2 => ob (jpz YM 5 33 q2.2 (some o) q2.1) fun (u9 : Mm) => ob (jgi YM 5 33 u9 (some o)) fun (x10 : Int32) => (if x10 = 0 then ob (jgi YM 5 32 u9 (some o)) fun (x12 : Int32) => ob (jpi YM 5 32 u9 (some o) (x12 + (1 : Int32))) fun (u13 : Mm) => ob (jgr YM 5 44 (some o)) fun (r14 : Option Nat) => ob (jgi YM 5 30 u13 (some o)) fun (x15 : Int32) => ob (jgi YM 5 32 u13 (some o)) fun (x16 : Int32) => ob (jll YM u13 r14 ((x15 + x16) - (1 : Int32))) fun (z17 : Int64) => some (((z17.toInt32) - (48 : Int32)), u13) else some ((0 : Int32), u9))
set_option maxHeartbeats 4000000 in
set_option maxRecDepth 100000 in
theorem c_M_readDigit (l : Launch) (w : WP) (F : Nat) (u : Mm) (o : Nat) (out : Int32 × Mm) (h : f_M_readDigit F u o = some out) : yMet l m_M_readDigit ws_M_readDigit ({ frames := 1, cells := 0, slots := 0, locals := 25 } : Room) YM w u [va_re w.1 (some o)] yfi out := by
  refine y_entry (own := "WhoseGlassModel") (lv := [(0, va_re w.1 (some o))]) (by decide +kernel) rfl (by simp [lv_args, y_cat, y_catI, y_catJ]) (by simp [lg_sl, y_cat, y_catI, y_catJ]) ?_
  intro p e s m args below meth c C hr hlocks
  unfold f_M_readDigit at h
  refine y_aload_n C (i := 0) 0 d_M_readDigit_0 rfl rfl ?_
  refine y_aload_n C (i := 0) 0 d_M_readDigit_1 rfl rfl ?_
  refine y_gi C (q := (yR5, yT5, 46)) (ci := 5) (k := 33) rfl (by decide) rfl g_817 d_M_readDigit_2 h (fun x1 h => ?_)
  obtain ⟨q2, hq2, h⟩ := ob_e h
  have hJq2 : yG p l e ({ frames := 1, cells := 0, slots := 0, locals := 25 } : Room) s m args below meth c YM w 1 (MQ below (yQ YM w yfi out) args s 0 0 (yA YM w)) q2.2 30 [(0, va_re w.1 (some o))] [.int q2.1, va_re w.1 (some o)] := by
    refine y_pz C (q := (yR5, yT5, 46)) (ci := 5) (k := 33) rfl (by decide) rfl rfl (by decide +kernel) g_817 d_M_readDigit_30 h (fun u9 h => ?_)
    refine y_aload_n C (i := 0) 0 d_M_readDigit_33 rfl rfl ?_
    refine y_gi C (q := (yR5, yT5, 46)) (ci := 5) (k := 33) rfl (by decide) rfl g_817 d_M_readDigit_34 h (fun x10 h => ?_)
    refine y_if_eq C 42 d_M_readDigit_37 (by decide) h (fun k11 h => ?_) (fun k11 h => ?_)
    · refine y_aload_n C (i := 0) 0 d_M_readDigit_42 rfl rfl ?_
      refine y_dup C d_M_readDigit_43 (y_cat _ _) ?_
      refine y_gi C (q := (yR5, yT5, 46)) (ci := 5) (k := 32) rfl (by decide) rfl g_816 d_M_readDigit_44 h (fun x12 h => ?_)
      refine y_iconst C (v := 1) d_M_readDigit_47 (by decide) ?_
      refine y_iadd C d_M_readDigit_48 ?_
      refine y_pi C (q := (yR5, yT5, 46)) (ci := 5) (k := 32) rfl (by decide) rfl rfl (by decide +kernel) g_816 d_M_readDigit_49 h (fun u13 h => ?_)
      refine y_aload_n C (i := 0) 0 d_M_readDigit_52 rfl rfl ?_
      refine y_gr C (q := (yR5, yT5, 46)) (ci := 5) (k := 44) rfl (by decide) rfl (by decide) g_828 d_M_readDigit_53 h (fun r14 h => ?_)
      refine y_aload_n C (i := 0) 0 d_M_readDigit_56 rfl rfl ?_
      refine y_gi C (q := (yR5, yT5, 46)) (ci := 5) (k := 30) rfl (by decide) rfl g_814 d_M_readDigit_57 h (fun x15 h => ?_)
      refine y_aload_n C (i := 0) 0 d_M_readDigit_60 rfl rfl ?_
      refine y_gi C (q := (yR5, yT5, 46)) (ci := 5) (k := 32) rfl (by decide) rfl g_816 d_M_readDigit_61 h (fun x16 h => ?_)
      refine y_iadd C d_M_readDigit_64 ?_
      refine y_iconst C (v := 1) d_M_readDigit_65 (by decide) ?_
      refine y_isub C d_M_readDigit_66 ?_
      refine y_ll C d_M_readDigit_67 h (fun z17 h => ?_)
      refine y_l2i C d_M_readDigit_68 ?_
      refine y_bipush C (v := 48) d_M_readDigit_69 (by decide) ?_
      refine y_isub C d_M_readDigit_71 ?_
      exact y_iret C hr hlocks d_M_readDigit_72 h
    · refine y_iconst C (v := 0) d_M_readDigit_40 (by decide) ?_
      exact y_iret C hr hlocks d_M_readDigit_41 h
  refine y_if_ne C 25 d_M_readDigit_5 (by decide) hq2 (fun k3 hq2 => ?_) (fun k3 hq2 => ?_)
  · refine y_aload_n C (i := 0) 0 d_M_readDigit_8 rfl rfl ?_
    refine y_callV 0 C (q := (yR5, yT5, 46)) (ci := 5) (fun t out hh => c_M_here l w F u t out hh) gc_M_readDigit_211 rfl (by decide) hd_M_here ⟨Nat.le_of_ble_eq_true rfl, Nat.le_of_ble_eq_true rfl⟩ rfl rfl rfl rfl (by simp [y_cat, y_catI, y_catJ]) d_M_readDigit_9 hq2 (fun x4 u5 hq2 => ?_)
    refine y_stk (stp0 := [.int x4, va_re w.1 (some o)]) rfl ?_
    refine y_i2l C d_M_readDigit_12 ?_
    refine y_ldc2 C d_M_readDigit_13 g_972 ?_
    refine y_ldc2 C d_M_readDigit_16 g_973 ?_
    refine y_callS 3 C (fun out hh => c_M_in l w F u5 (x4.toInt64) (48 : Int64) (57 : Int64) out hh) (y_gc g_959) g_957 g_6 g_958 hn_M_in ⟨Nat.le_of_ble_eq_true rfl, Nat.le_of_ble_eq_true rfl⟩ rfl rfl rfl rfl (by simp [y_cat, y_catI, y_catJ]) d_M_readDigit_19 hq2 (fun x6 u7 hq2 => ?_)
    refine y_stk (stp0 := [.int x6, va_re w.1 (some o)]) rfl ?_
    refine y_if_ne C 29 d_M_readDigit_22 (by decide) hq2 (fun k8 hq2 => ?_) (fun k8 hq2 => ?_)
    · refine y_iconst C (v := 1) d_M_readDigit_25 (by decide) ?_
      refine y_goto C (tgt := 30) d_M_readDigit_26 (by decide) ?_
      cases hq2
      exact y_sub [0] rfl hJq2
    · refine y_iconst C (v := 0) d_M_readDigit_29 (by decide) ?_
      cases hq2
      exact y_sub [0] rfl hJq2
  · refine y_iconst C (v := 1) d_M_readDigit_25 (by decide) ?_
    refine y_goto C (tgt := 30) d_M_readDigit_26 (by decide) ?_
    cases hq2
    exact y_sub [0] rfl hJq2
/-! M_readTwo -/
theorem d_M_readTwo_0 : decode prog_8_method_32_code 0 = .ok (.aload_n 0, 1) := by decide +kernel
theorem d_M_readTwo_1 : decode prog_8_method_32_code 1 = .ok (.invokevirtual 219, 3) := by decide +kernel
theorem d_M_readTwo_4 : decode prog_8_method_32_code 4 = .ok (.istore_n 1, 1) := by decide +kernel
theorem d_M_readTwo_5 : decode prog_8_method_32_code 5 = .ok (.bipush 10, 2) := by decide +kernel
theorem d_M_readTwo_7 : decode prog_8_method_32_code 7 = .ok (.iload_n 1, 1) := by decide +kernel
theorem d_M_readTwo_8 : decode prog_8_method_32_code 8 = .ok (.imul, 1) := by decide +kernel
theorem d_M_readTwo_9 : decode prog_8_method_32_code 9 = .ok (.aload_n 0, 1) := by decide +kernel
theorem d_M_readTwo_10 : decode prog_8_method_32_code 10 = .ok (.invokevirtual 219, 3) := by decide +kernel
theorem d_M_readTwo_13 : decode prog_8_method_32_code 13 = .ok (.iadd, 1) := by decide +kernel
theorem d_M_readTwo_14 : decode prog_8_method_32_code 14 = .ok (.ireturn, 1) := by decide +kernel
theorem gc_M_readTwo_219 : GoodIn yGW (wsV "WhoseGlassModel" 219 yR5 m_M_readDigit ws_M_readDigit) := y_gV g_968 g_970 gs_17 g_6 g_971
set_option maxRecDepth 100000 in
def f_M_readTwo (F : Nat) (u : Mm) (o : Nat) : Option (Int32 × Mm) := ob (jk YM 5 (some o)) fun t => yb (f_M_readDigit F u t ) fun x1 u2 => ob (jk YM 5 (some o)) fun t => yb (f_M_readDigit F u2 t ) fun x3 u4 => some ((((10 : Int32) * x1) + x3), u4)
set_option maxHeartbeats 4000000 in
set_option maxRecDepth 100000 in
theorem c_M_readTwo (l : Launch) (w : WP) (F : Nat) (u : Mm) (o : Nat) (out : Int32 × Mm) (h : f_M_readTwo F u o = some out) : yMet l m_M_readTwo ws_M_readTwo ({ frames := 2, cells := 0, slots := 0, locals := 45 } : Room) YM w u [va_re w.1 (some o)] yfi out := by
  refine y_entry (own := "WhoseGlassModel") (lv := [(0, va_re w.1 (some o))]) (by decide +kernel) rfl (by simp [lv_args, y_cat, y_catI, y_catJ]) (by simp [lg_sl, y_cat, y_catI, y_catJ]) ?_
  intro p e s m args below meth c C hr hlocks
  unfold f_M_readTwo at h
  refine y_aload_n C (i := 0) 0 d_M_readTwo_0 rfl rfl ?_
  refine y_callV 0 C (q := (yR5, yT5, 46)) (ci := 5) (fun t out hh => c_M_readDigit l w F u t out hh) gc_M_readTwo_219 rfl (by decide) hd_M_readDigit ⟨Nat.le_of_ble_eq_true rfl, Nat.le_of_ble_eq_true rfl⟩ rfl rfl rfl rfl (by simp [y_cat, y_catI, y_catJ]) d_M_readTwo_1 h (fun x1 u2 h => ?_)
  refine y_stk (stp0 := [.int x1]) rfl ?_
  refine y_istore_n C (i := 1) (lvp := [(0, va_re w.1 (some o))]) d_M_readTwo_4 rfl (by decide) (by simp [List.filter, y_cat, y_catI, y_catJ]) ?_
  refine y_bipush C (v := 10) d_M_readTwo_5 (by decide) ?_
  refine y_iload_n C (i := 1) 0 d_M_readTwo_7 rfl rfl ?_
  refine y_imul C d_M_readTwo_8 ?_
  refine y_aload_n C (i := 0) 1 d_M_readTwo_9 rfl rfl ?_
  refine y_callV 0 C (q := (yR5, yT5, 46)) (ci := 5) (fun t out hh => c_M_readDigit l w F u2 t out hh) gc_M_readTwo_219 rfl (by decide) hd_M_readDigit ⟨Nat.le_of_ble_eq_true rfl, Nat.le_of_ble_eq_true rfl⟩ rfl rfl rfl rfl (by simp [y_cat, y_catI, y_catJ]) d_M_readTwo_10 h (fun x3 u4 h => ?_)
  refine y_stk (stp0 := [.int x3, .int ((10 : Int32) * x1)]) rfl ?_
  refine y_iadd C d_M_readTwo_13 ?_
  exact y_iret C hr hlocks d_M_readTwo_14 h
