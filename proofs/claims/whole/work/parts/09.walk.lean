/-! U_told -/
theorem d_U_told_0 : decode prog_3_method_4_code 0 = .ok (.iload_n 1, 1) := by decide +kernel
theorem d_U_told_1 : decode prog_3_method_4_code 1 = .ok (.tableswitch 104 0 8 #[51, 56, 61, 66, 71, 76, 81, 86, 91], 51) := by decide +kernel
theorem d_U_told_52 : decode prog_3_method_4_code 52 = .ok (.aload_n 0, 1) := by decide +kernel
theorem d_U_told_53 : decode prog_3_method_4_code 53 = .ok (.getfield 15, 3) := by decide +kernel
theorem d_U_told_56 : decode prog_3_method_4_code 56 = .ok (.ireturn, 1) := by decide +kernel
theorem d_U_told_57 : decode prog_3_method_4_code 57 = .ok (.aload_n 0, 1) := by decide +kernel
theorem d_U_told_58 : decode prog_3_method_4_code 58 = .ok (.getfield 18, 3) := by decide +kernel
theorem d_U_told_61 : decode prog_3_method_4_code 61 = .ok (.ireturn, 1) := by decide +kernel
theorem d_U_told_62 : decode prog_3_method_4_code 62 = .ok (.aload_n 0, 1) := by decide +kernel
theorem d_U_told_63 : decode prog_3_method_4_code 63 = .ok (.getfield 21, 3) := by decide +kernel
theorem d_U_told_66 : decode prog_3_method_4_code 66 = .ok (.ireturn, 1) := by decide +kernel
theorem d_U_told_67 : decode prog_3_method_4_code 67 = .ok (.aload_n 0, 1) := by decide +kernel
theorem d_U_told_68 : decode prog_3_method_4_code 68 = .ok (.getfield 24, 3) := by decide +kernel
theorem d_U_told_71 : decode prog_3_method_4_code 71 = .ok (.ireturn, 1) := by decide +kernel
theorem d_U_told_72 : decode prog_3_method_4_code 72 = .ok (.aload_n 0, 1) := by decide +kernel
theorem d_U_told_73 : decode prog_3_method_4_code 73 = .ok (.getfield 27, 3) := by decide +kernel
theorem d_U_told_76 : decode prog_3_method_4_code 76 = .ok (.ireturn, 1) := by decide +kernel
theorem d_U_told_77 : decode prog_3_method_4_code 77 = .ok (.aload_n 0, 1) := by decide +kernel
theorem d_U_told_78 : decode prog_3_method_4_code 78 = .ok (.getfield 30, 3) := by decide +kernel
theorem d_U_told_81 : decode prog_3_method_4_code 81 = .ok (.ireturn, 1) := by decide +kernel
theorem d_U_told_82 : decode prog_3_method_4_code 82 = .ok (.aload_n 0, 1) := by decide +kernel
theorem d_U_told_83 : decode prog_3_method_4_code 83 = .ok (.getfield 33, 3) := by decide +kernel
theorem d_U_told_86 : decode prog_3_method_4_code 86 = .ok (.ireturn, 1) := by decide +kernel
theorem d_U_told_87 : decode prog_3_method_4_code 87 = .ok (.aload_n 0, 1) := by decide +kernel
theorem d_U_told_88 : decode prog_3_method_4_code 88 = .ok (.getfield 36, 3) := by decide +kernel
theorem d_U_told_91 : decode prog_3_method_4_code 91 = .ok (.ireturn, 1) := by decide +kernel
theorem d_U_told_92 : decode prog_3_method_4_code 92 = .ok (.aload_n 0, 1) := by decide +kernel
theorem d_U_told_93 : decode prog_3_method_4_code 93 = .ok (.getfield 39, 3) := by decide +kernel
theorem d_U_told_96 : decode prog_3_method_4_code 96 = .ok (.ifCond .eq 7, 3) := by decide +kernel
theorem d_U_told_99 : decode prog_3_method_4_code 99 = .ok (.iconst 1, 1) := by decide +kernel
theorem d_U_told_100 : decode prog_3_method_4_code 100 = .ok (.goto 4, 3) := by decide +kernel
theorem d_U_told_103 : decode prog_3_method_4_code 103 = .ok (.iconst 0, 1) := by decide +kernel
theorem d_U_told_104 : decode prog_3_method_4_code 104 = .ok (.ireturn, 1) := by decide +kernel
theorem d_U_told_105 : decode prog_3_method_4_code 105 = .ok (.iconst (-1), 1) := by decide +kernel
theorem d_U_told_106 : decode prog_3_method_4_code 106 = .ok (.ireturn, 1) := by decide +kernel
set_option maxRecDepth 100000 in
def f_U_told (F : Nat) (u : Mm) (o : Nat) (a1 : Int32) : Option (Int32 × Mm) := (if a1 = (0 : Int32) then ob (jgi YX 1 1 u (some o)) fun (x2 : Int32) => some (x2, u) else (if a1 = (1 : Int32) then ob (jgi YX 1 2 u (some o)) fun (x4 : Int32) => some (x4, u) else (if a1 = (2 : Int32) then ob (jgi YX 1 3 u (some o)) fun (x6 : Int32) => some (x6, u) else (if a1 = (3 : Int32) then ob (jgi YX 1 4 u (some o)) fun (x8 : Int32) => some (x8, u) else (if a1 = (4 : Int32) then ob (jgi YX 1 5 u (some o)) fun (x10 : Int32) => some (x10, u) else (if a1 = (5 : Int32) then ob (jgi YX 1 6 u (some o)) fun (x12 : Int32) => some (x12, u) else (if a1 = (6 : Int32) then ob (jgi YX 1 7 u (some o)) fun (x14 : Int32) => some (x14, u) else (if a1 = (7 : Int32) then ob (jgi YX 1 8 u (some o)) fun (x16 : Int32) => some (x16, u) else (if a1 = (8 : Int32) then ob (jgi YX 1 9 u (some o)) fun (x18 : Int32) => (if x18 = 0 then some ((0 : Int32), u) else some ((1 : Int32), u)) else some ((-1 : Int32), u))))))))))
set_option maxHeartbeats 4000000 in
set_option maxRecDepth 100000 in
theorem c_U_told (l : Launch) (w : WP) (F : Nat) (u : Mm) (o : Nat) (a1 : Int32) (out : Int32 × Mm) (h : f_U_told F u o a1 = some out) : yMet l m_U_told ws_U_told ({ frames := 0, cells := 0, slots := 0, locals := 0 } : Room) YX w u [va_re w.1 (some o), .int a1] yfi out := by
  refine y_entry (own := "WhoseGlass$Guest") (lv := [(0, va_re w.1 (some o)), (1, .int a1)]) (by decide +kernel) rfl (by simp [lv_args, y_cat, y_catI, y_catJ]) (by simp [lg_sl, y_cat, y_catI, y_catJ]) ?_
  intro p e s m args below meth c C hr hlocks
  unfold f_U_told at h
  refine y_iload_n C (i := 1) 1 d_U_told_0 rfl rfl ?_
  refine y_sp h (fun k1 h => ?_) (fun k1 h => ?_)
  · refine y_tsw C (off := 51) 52 d_U_told_1 (Or.inr ⟨by rw [k1]; decide, by rw [k1]; decide, by rw [k1]; rfl⟩) (by decide) ?_
    refine y_aload_n C (i := 0) 0 d_U_told_52 rfl rfl ?_
    refine y_gi C (q := (yR1, yT1, 10)) (ci := 1) (k := 1) rfl (by decide) rfl g_86 d_U_told_53 h (fun x2 h => ?_)
    exact y_iret C hr hlocks d_U_told_56 h
  refine y_sp h (fun k3 h => ?_) (fun k3 h => ?_)
  · refine y_tsw C (off := 56) 57 d_U_told_1 (Or.inr ⟨by rw [k3]; decide, by rw [k3]; decide, by rw [k3]; rfl⟩) (by decide) ?_
    refine y_aload_n C (i := 0) 0 d_U_told_57 rfl rfl ?_
    refine y_gi C (q := (yR1, yT1, 10)) (ci := 1) (k := 2) rfl (by decide) rfl g_88 d_U_told_58 h (fun x4 h => ?_)
    exact y_iret C hr hlocks d_U_told_61 h
  refine y_sp h (fun k5 h => ?_) (fun k5 h => ?_)
  · refine y_tsw C (off := 61) 62 d_U_told_1 (Or.inr ⟨by rw [k5]; decide, by rw [k5]; decide, by rw [k5]; rfl⟩) (by decide) ?_
    refine y_aload_n C (i := 0) 0 d_U_told_62 rfl rfl ?_
    refine y_gi C (q := (yR1, yT1, 10)) (ci := 1) (k := 3) rfl (by decide) rfl g_90 d_U_told_63 h (fun x6 h => ?_)
    exact y_iret C hr hlocks d_U_told_66 h
  refine y_sp h (fun k7 h => ?_) (fun k7 h => ?_)
  · refine y_tsw C (off := 66) 67 d_U_told_1 (Or.inr ⟨by rw [k7]; decide, by rw [k7]; decide, by rw [k7]; rfl⟩) (by decide) ?_
    refine y_aload_n C (i := 0) 0 d_U_told_67 rfl rfl ?_
    refine y_gi C (q := (yR1, yT1, 10)) (ci := 1) (k := 4) rfl (by decide) rfl g_92 d_U_told_68 h (fun x8 h => ?_)
    exact y_iret C hr hlocks d_U_told_71 h
  refine y_sp h (fun k9 h => ?_) (fun k9 h => ?_)
  · refine y_tsw C (off := 71) 72 d_U_told_1 (Or.inr ⟨by rw [k9]; decide, by rw [k9]; decide, by rw [k9]; rfl⟩) (by decide) ?_
    refine y_aload_n C (i := 0) 0 d_U_told_72 rfl rfl ?_
    refine y_gi C (q := (yR1, yT1, 10)) (ci := 1) (k := 5) rfl (by decide) rfl g_94 d_U_told_73 h (fun x10 h => ?_)
    exact y_iret C hr hlocks d_U_told_76 h
  refine y_sp h (fun k11 h => ?_) (fun k11 h => ?_)
  · refine y_tsw C (off := 76) 77 d_U_told_1 (Or.inr ⟨by rw [k11]; decide, by rw [k11]; decide, by rw [k11]; rfl⟩) (by decide) ?_
    refine y_aload_n C (i := 0) 0 d_U_told_77 rfl rfl ?_
    refine y_gi C (q := (yR1, yT1, 10)) (ci := 1) (k := 6) rfl (by decide) rfl g_97 d_U_told_78 h (fun x12 h => ?_)
    exact y_iret C hr hlocks d_U_told_81 h
  refine y_sp h (fun k13 h => ?_) (fun k13 h => ?_)
  · refine y_tsw C (off := 81) 82 d_U_told_1 (Or.inr ⟨by rw [k13]; decide, by rw [k13]; decide, by rw [k13]; rfl⟩) (by decide) ?_
    refine y_aload_n C (i := 0) 0 d_U_told_82 rfl rfl ?_
    refine y_gi C (q := (yR1, yT1, 10)) (ci := 1) (k := 7) rfl (by decide) rfl g_101 d_U_told_83 h (fun x14 h => ?_)
    exact y_iret C hr hlocks d_U_told_86 h
  refine y_sp h (fun k15 h => ?_) (fun k15 h => ?_)
  · refine y_tsw C (off := 86) 87 d_U_told_1 (Or.inr ⟨by rw [k15]; decide, by rw [k15]; decide, by rw [k15]; rfl⟩) (by decide) ?_
    refine y_aload_n C (i := 0) 0 d_U_told_87 rfl rfl ?_
    refine y_gi C (q := (yR1, yT1, 10)) (ci := 1) (k := 8) rfl (by decide) rfl g_104 d_U_told_88 h (fun x16 h => ?_)
    exact y_iret C hr hlocks d_U_told_91 h
  refine y_sp h (fun k17 h => ?_) (fun k17 h => ?_)
  · refine y_tsw C (off := 91) 92 d_U_told_1 (Or.inr ⟨by rw [k17]; decide, by rw [k17]; decide, by rw [k17]; rfl⟩) (by decide) ?_
    refine y_aload_n C (i := 0) 0 d_U_told_92 rfl rfl ?_
    refine y_gi C (q := (yR1, yT1, 10)) (ci := 1) (k := 9) rfl (by decide) rfl g_107 d_U_told_93 h (fun x18 h => ?_)
    refine y_if_eq C 103 d_U_told_96 (by decide) h (fun k19 h => ?_) (fun k19 h => ?_)
    · refine y_iconst C (v := 0) d_U_told_103 (by decide) ?_
      exact y_iret C hr hlocks d_U_told_104 h
    · refine y_iconst C (v := 1) d_U_told_99 (by decide) ?_
      refine y_goto C (tgt := 104) d_U_told_100 (by decide) ?_
      exact y_iret C hr hlocks d_U_told_104 h
  refine y_tsw C (off := 104) 105 d_U_told_1 (Or.inl ⟨by have ak1 := lv_neT (a := 0) k1 rfl; have ak3 := lv_neT (a := 1) k3 rfl; have ak5 := lv_neT (a := 2) k5 rfl; have ak7 := lv_neT (a := 3) k7 rfl; have ak9 := lv_neT (a := 4) k9 rfl; have ak11 := lv_neT (a := 5) k11 rfl; have ak13 := lv_neT (a := 6) k13 rfl; have ak15 := lv_neT (a := 7) k15 rfl; have ak17 := lv_neT (a := 8) k17 rfl; omega, rfl⟩) (by decide) ?_
  refine y_iconst C (v := -1) d_U_told_105 (by decide) ?_
  exact y_iret C hr hlocks d_U_told_106 h
/-! X_guest -/
theorem d_X_guest_0 : decode prog_1_method_4_code 0 = .ok (.aload_n 0, 1) := by decide +kernel
theorem d_X_guest_1 : decode prog_1_method_4_code 1 = .ok (.getfield 10, 3) := by decide +kernel
theorem d_X_guest_4 : decode prog_1_method_4_code 4 = .ok (.iload_n 1, 1) := by decide +kernel
theorem d_X_guest_5 : decode prog_1_method_4_code 5 = .ok (.invokevirtual 71, 3) := by decide +kernel
theorem d_X_guest_8 : decode prog_1_method_4_code 8 = .ok (.astore_n 3, 1) := by decide +kernel
theorem d_X_guest_9 : decode prog_1_method_4_code 9 = .ok (.aload_n 3, 1) := by decide +kernel
theorem d_X_guest_10 : decode prog_1_method_4_code 10 = .ok (.ifnonnull 7, 3) := by decide +kernel
theorem d_X_guest_13 : decode prog_1_method_4_code 13 = .ok (.iconst (-1), 1) := by decide +kernel
theorem d_X_guest_14 : decode prog_1_method_4_code 14 = .ok (.goto 8, 3) := by decide +kernel
theorem d_X_guest_17 : decode prog_1_method_4_code 17 = .ok (.aload_n 3, 1) := by decide +kernel
theorem d_X_guest_18 : decode prog_1_method_4_code 18 = .ok (.iload_n 2, 1) := by decide +kernel
theorem d_X_guest_19 : decode prog_1_method_4_code 19 = .ok (.invokevirtual 75, 3) := by decide +kernel
theorem d_X_guest_22 : decode prog_1_method_4_code 22 = .ok (.ireturn, 1) := by decide +kernel
theorem gc_X_guest_71 : GoodIn yGW (wsV "WhoseGlass" 71 yR2 m_H_guestAt ws_H_guestAt) := y_gV g_391 g_268 g_269 g_2 g_270
theorem gc_X_guest_75 : GoodIn yGW (wsV "WhoseGlass" 75 yR1 m_U_told ws_U_told) := y_gV g_392 g_393 g_394 g_4 g_395
set_option maxRecDepth 100000 in
def f_X_guest (F : Nat) (u : Mm) (o : Nat) (a1 : Int32) (a2 : Int32) : Option (Int32 × Mm) := ob (jgr YX 4 0 (some o)) fun (r1 : Option Nat) => ob (jk YX 2 r1) fun t => yb (f_H_guestAt F u t a1) fun r2 u3 => (if r2 = none then some ((-1 : Int32), u3) else ob (jk YX 1 r2) fun t => yb (f_U_told F u3 t a2) fun x5 u6 => some (x5, u6))
set_option maxHeartbeats 4000000 in
set_option maxRecDepth 100000 in
theorem c_X_guest (l : Launch) (w : WP) (F : Nat) (u : Mm) (o : Nat) (a1 : Int32) (a2 : Int32) (out : Int32 × Mm) (h : f_X_guest F u o a1 a2 = some out) : yMet l m_X_guest ws_X_guest ({ frames := 1, cells := 0, slots := 0, locals := 21 } : Room) YX w u [va_re w.1 (some o), .int a1, .int a2] yfi out := by
  refine y_entry (own := "WhoseGlass") (lv := [(0, va_re w.1 (some o)), (1, .int a1), (2, .int a2)]) (by decide +kernel) rfl (by simp [lv_args, y_cat, y_catI, y_catJ]) (by simp [lg_sl, y_cat, y_catI, y_catJ]) ?_
  intro p e s m args below meth c C hr hlocks
  unfold f_X_guest at h
  refine y_aload_n C (i := 0) 0 d_X_guest_0 rfl rfl ?_
  refine y_gr C (q := (yR4, yT4, 5)) (ci := 4) (k := 0) rfl (by decide) rfl (by decide) g_202 d_X_guest_1 h (fun r1 h => ?_)
  refine y_iload_n C (i := 1) 1 d_X_guest_4 rfl rfl ?_
  refine y_callV 1 C (q := (yR2, yT2, 9)) (ci := 2) (fun t out hh => c_H_guestAt l w F u t a1 out hh) gc_X_guest_71 rfl (by decide) hd_H_guestAt ⟨Nat.le_of_ble_eq_true rfl, Nat.le_of_ble_eq_true rfl⟩ rfl rfl rfl rfl (by simp [y_cat, y_catI, y_catJ]) d_X_guest_5 h (fun r2 u3 h => ?_)
  refine y_stk (stp0 := [va_re w.1 r2]) rfl ?_
  refine y_astore_n C (i := 3) (lvp := [(0, va_re w.1 (some o)), (1, .int a1), (2, .int a2)]) d_X_guest_8 rfl (by decide) (by simp [List.filter, y_cat, y_catI, y_catJ]) ?_
  refine y_aload_n C (i := 3) 0 d_X_guest_9 rfl rfl ?_
  refine y_ifnonnull C 17 d_X_guest_10 (by decide) h (fun k4 h => ?_) (fun k4 h => ?_)
  · refine y_iconst C (v := -1) d_X_guest_13 (by decide) ?_
    refine y_goto C (tgt := 22) d_X_guest_14 (by decide) ?_
    exact y_iret C hr hlocks d_X_guest_22 h
  · refine y_aload_n C (i := 3) 0 d_X_guest_17 rfl rfl ?_
    refine y_iload_n C (i := 2) 3 d_X_guest_18 rfl rfl ?_
    refine y_callV 1 C (q := (yR1, yT1, 10)) (ci := 1) (fun t out hh => c_U_told l w F u3 t a2 out hh) gc_X_guest_75 rfl (by decide) hd_U_told ⟨Nat.le_of_ble_eq_true rfl, Nat.le_of_ble_eq_true rfl⟩ rfl rfl rfl rfl (by simp [y_cat, y_catI, y_catJ]) d_X_guest_19 h (fun x5 u6 h => ?_)
    refine y_stk (stp0 := [.int x5]) rfl ?_
    exact y_iret C hr hlocks d_X_guest_22 h
/-! X_comes -/
theorem d_X_comes_0 : decode prog_1_method_5_code 0 = .ok (.aload_n 0, 1) := by decide +kernel
theorem d_X_comes_1 : decode prog_1_method_5_code 1 = .ok (.iload_n 1, 1) := by decide +kernel
theorem d_X_comes_2 : decode prog_1_method_5_code 2 = .ok (.invokevirtual 29, 3) := by decide +kernel
theorem d_X_comes_5 : decode prog_1_method_5_code 5 = .ok (.astore_n 3, 1) := by decide +kernel
theorem d_X_comes_6 : decode prog_1_method_5_code 6 = .ok (.aload_n 3, 1) := by decide +kernel
theorem d_X_comes_7 : decode prog_1_method_5_code 7 = .ok (.ifnull 12, 3) := by decide +kernel
theorem d_X_comes_10 : decode prog_1_method_5_code 10 = .ok (.iload_n 2, 1) := by decide +kernel
theorem d_X_comes_11 : decode prog_1_method_5_code 11 = .ok (.bipush 6, 2) := by decide +kernel
theorem d_X_comes_13 : decode prog_1_method_5_code 13 = .ok (.invokestatic 78, 3) := by decide +kernel
theorem d_X_comes_16 : decode prog_1_method_5_code 16 = .ok (.ifCond .ne 5, 3) := by decide +kernel
theorem d_X_comes_19 : decode prog_1_method_5_code 19 = .ok (.iconst (-1), 1) := by decide +kernel
theorem d_X_comes_20 : decode prog_1_method_5_code 20 = .ok (.ireturn, 1) := by decide +kernel
theorem d_X_comes_21 : decode prog_1_method_5_code 21 = .ok (.aload_n 3, 1) := by decide +kernel
theorem d_X_comes_22 : decode prog_1_method_5_code 22 = .ok (.getfield 33, 3) := by decide +kernel
theorem d_X_comes_25 : decode prog_1_method_5_code 25 = .ok (.iconst 1, 1) := by decide +kernel
theorem d_X_comes_26 : decode prog_1_method_5_code 26 = .ok (.if_icmp .eq 8, 3) := by decide +kernel
theorem d_X_comes_29 : decode prog_1_method_5_code 29 = .ok (.aload_n 3, 1) := by decide +kernel
theorem d_X_comes_30 : decode prog_1_method_5_code 30 = .ok (.invokevirtual 40, 3) := by decide +kernel
theorem d_X_comes_33 : decode prog_1_method_5_code 33 = .ok (.ireturn, 1) := by decide +kernel
theorem d_X_comes_34 : decode prog_1_method_5_code 34 = .ok (.aload_n 0, 1) := by decide +kernel
theorem d_X_comes_35 : decode prog_1_method_5_code 35 = .ok (.getfield 10, 3) := by decide +kernel
theorem d_X_comes_38 : decode prog_1_method_5_code 38 = .ok (.aload_n 3, 1) := by decide +kernel
theorem d_X_comes_39 : decode prog_1_method_5_code 39 = .ok (.getfield 82, 3) := by decide +kernel
theorem d_X_comes_42 : decode prog_1_method_5_code 42 = .ok (.aload_n 3, 1) := by decide +kernel
theorem d_X_comes_43 : decode prog_1_method_5_code 43 = .ok (.getfield 85, 3) := by decide +kernel
theorem d_X_comes_46 : decode prog_1_method_5_code 46 = .ok (.bipush 9, 2) := by decide +kernel
theorem d_X_comes_48 : decode prog_1_method_5_code 48 = .ok (.invokevirtual 88, 3) := by decide +kernel
theorem d_X_comes_51 : decode prog_1_method_5_code 51 = .ok (.astore 4, 2) := by decide +kernel
theorem d_X_comes_53 : decode prog_1_method_5_code 53 = .ok (.aload 4, 2) := by decide +kernel
theorem d_X_comes_55 : decode prog_1_method_5_code 55 = .ok (.ifnonnull 6, 3) := by decide +kernel
theorem d_X_comes_58 : decode prog_1_method_5_code 58 = .ok (.bipush (-2), 2) := by decide +kernel
theorem d_X_comes_60 : decode prog_1_method_5_code 60 = .ok (.ireturn, 1) := by decide +kernel
theorem d_X_comes_61 : decode prog_1_method_5_code 61 = .ok (.aload 4, 2) := by decide +kernel
theorem d_X_comes_63 : decode prog_1_method_5_code 63 = .ok (.iload_n 2, 1) := by decide +kernel
theorem d_X_comes_64 : decode prog_1_method_5_code 64 = .ok (.aload_n 0, 1) := by decide +kernel
theorem d_X_comes_65 : decode prog_1_method_5_code 65 = .ok (.getfield 10, 3) := by decide +kernel
theorem d_X_comes_68 : decode prog_1_method_5_code 68 = .ok (.getfield 92, 3) := by decide +kernel
theorem d_X_comes_71 : decode prog_1_method_5_code 71 = .ok (.invokevirtual 95, 3) := by decide +kernel
theorem d_X_comes_74 : decode prog_1_method_5_code 74 = .ok (.aload 4, 2) := by decide +kernel
theorem d_X_comes_76 : decode prog_1_method_5_code 76 = .ok (.getfield 99, 3) := by decide +kernel
theorem d_X_comes_79 : decode prog_1_method_5_code 79 = .ok (.ireturn, 1) := by decide +kernel
theorem gc_X_comes_29 : GoodIn yGW (wsV "WhoseGlass" 29 yR4 m_X_shelfAt ws_X_shelfAt) := y_gV g_222 g_224 gs_0 g_1 g_225
theorem gc_X_comes_88 : GoodIn yGW (wsV "WhoseGlass" 88 yR2 m_H_addGlass ws_H_addGlass) := y_gV g_401 g_310 g_311 g_2 g_312
theorem gc_X_comes_95 : GoodIn yGW (wsV "WhoseGlass" 95 yR0 m_G_layAt ws_G_layAt) := y_gV g_402 g_330 g_331 g_3 g_332
theorem gc_X_comes_40 : GoodIn yGW (wsV "WhoseGlass" 40 yR3 m_S_whyNot ws_S_whyNot) := y_gV g_226 g_227 g_228 g_5 g_229
set_option maxRecDepth 100000 in
def f_X_comes (F : Nat) (u : Mm) (o : Nat) (a1 : Int32) (a2 : Int32) : Option (Int32 × Mm) := ob (jk YX 4 (some o)) fun t => yb (f_X_shelfAt F u t a1) fun r1 u2 => (if r1 = none then some ((-1 : Int32), u2) else yb (f_X_isBelow F u2 a2 (6 : Int32)) fun x4 u5 => (if x4 = 0 then some ((-1 : Int32), u5) else ob (jgi YX 3 0 u5 r1) fun (x7 : Int32) => (if x7 = (1 : Int32) then ob (jgr YX 4 0 (some o)) fun (r9 : Option Nat) => ob (jgi YX 3 1 u5 r1) fun (x10 : Int32) => ob (jgi YX 3 2 u5 r1) fun (x11 : Int32) => ob (jk YX 2 r9) fun t => yb (f_H_addGlass F u5 t x10 x11 (9 : Int32)) fun r12 u13 => (if r12 = none then some ((-2 : Int32), u13) else ob (jgr YX 4 0 (some o)) fun (r15 : Option Nat) => ob (jgi YX 2 5 u13 r15) fun (x16 : Int32) => ob (jk YX 0 r12) fun t => yb (f_G_layAt F u13 t a2 x16) fun v17 u18 => ob (jgi YX 0 0 u18 r12) fun (x19 : Int32) => some (x19, u18)) else ob (jk YX 3 r1) fun t => yb (f_S_whyNot F u5 t ) fun x20 u21 => some (x20, u21))))
set_option maxHeartbeats 4000000 in
set_option maxRecDepth 100000 in
theorem c_X_comes (l : Launch) (w : WP) (F : Nat) (u : Mm) (o : Nat) (a1 : Int32) (a2 : Int32) (out : Int32 × Mm) (h : f_X_comes F u o a1 a2 = some out) : yMet l m_X_comes ws_X_comes ({ frames := 2, cells := 0, slots := 0, locals := 47 } : Room) YX w u [va_re w.1 (some o), .int a1, .int a2] yfi out := by
  refine y_entry (own := "WhoseGlass") (lv := [(0, va_re w.1 (some o)), (1, .int a1), (2, .int a2)]) (by decide +kernel) rfl (by simp [lv_args, y_cat, y_catI, y_catJ]) (by simp [lg_sl, y_cat, y_catI, y_catJ]) ?_
  intro p e s m args below meth c C hr hlocks
  unfold f_X_comes at h
  refine y_aload_n C (i := 0) 0 d_X_comes_0 rfl rfl ?_
  refine y_iload_n C (i := 1) 1 d_X_comes_1 rfl rfl ?_
  refine y_callV 1 C (q := (yR4, yT4, 5)) (ci := 4) (fun t out hh => c_X_shelfAt l w F u t a1 out hh) gc_X_comes_29 rfl (by decide) hd_X_shelfAt ⟨Nat.le_of_ble_eq_true rfl, Nat.le_of_ble_eq_true rfl⟩ rfl rfl rfl rfl (by simp [y_cat, y_catI, y_catJ]) d_X_comes_2 h (fun r1 u2 h => ?_)
  refine y_stk (stp0 := [va_re w.1 r1]) rfl ?_
  refine y_astore_n C (i := 3) (lvp := [(0, va_re w.1 (some o)), (1, .int a1), (2, .int a2)]) d_X_comes_5 rfl (by decide) (by simp [List.filter, y_cat, y_catI, y_catJ]) ?_
  refine y_aload_n C (i := 3) 0 d_X_comes_6 rfl rfl ?_
  refine y_ifnull C 19 d_X_comes_7 (by decide) h (fun k3 h => ?_) (fun k3 h => ?_)
  · refine y_iconst C (v := -1) d_X_comes_19 (by decide) ?_
    exact y_iret C hr hlocks d_X_comes_20 h
  · refine y_iload_n C (i := 2) 3 d_X_comes_10 rfl rfl ?_
    refine y_bipush C (v := 6) d_X_comes_11 (by decide) ?_
    refine y_callS 2 C (fun out hh => c_X_isBelow l w F u2 a2 (6 : Int32) out hh) (y_gc g_344) g_400 g_1 g_343 hn_X_isBelow ⟨Nat.le_of_ble_eq_true rfl, Nat.le_of_ble_eq_true rfl⟩ rfl rfl rfl rfl (by simp [y_cat, y_catI, y_catJ]) d_X_comes_13 h (fun x4 u5 h => ?_)
    refine y_stk (stp0 := [.int x4]) rfl ?_
    refine y_if_ne C 21 d_X_comes_16 (by decide) h (fun k6 h => ?_) (fun k6 h => ?_)
    · refine y_iconst C (v := -1) d_X_comes_19 (by decide) ?_
      exact y_iret C hr hlocks d_X_comes_20 h
    · refine y_aload_n C (i := 3) 0 d_X_comes_21 rfl rfl ?_
      refine y_gi C (q := (yR3, yT3, 6)) (ci := 3) (k := 0) rfl (by decide) rfl g_176 d_X_comes_22 h (fun x7 h => ?_)
      refine y_iconst C (v := 1) d_X_comes_25 (by decide) ?_
      refine y_ic_eq C 34 d_X_comes_26 (by decide) h (fun k8 h => ?_) (fun k8 h => ?_)
      · refine y_aload_n C (i := 0) 1 d_X_comes_34 rfl rfl ?_
        refine y_gr C (q := (yR4, yT4, 5)) (ci := 4) (k := 0) rfl (by decide) rfl (by decide) g_202 d_X_comes_35 h (fun r9 h => ?_)
        refine y_aload_n C (i := 3) 0 d_X_comes_38 rfl rfl ?_
        refine y_gi C (q := (yR3, yT3, 6)) (ci := 3) (k := 1) rfl (by decide) rfl g_177 d_X_comes_39 h (fun x10 h => ?_)
        refine y_aload_n C (i := 3) 0 d_X_comes_42 rfl rfl ?_
        refine y_gi C (q := (yR3, yT3, 6)) (ci := 3) (k := 2) rfl (by decide) rfl g_179 d_X_comes_43 h (fun x11 h => ?_)
        refine y_bipush C (v := 9) d_X_comes_46 (by decide) ?_
        refine y_callV 3 C (q := (yR2, yT2, 9)) (ci := 2) (fun t out hh => c_H_addGlass l w F u5 t x10 x11 (9 : Int32) out hh) gc_X_comes_88 rfl (by decide) hd_H_addGlass ⟨Nat.le_of_ble_eq_true rfl, Nat.le_of_ble_eq_true rfl⟩ rfl rfl rfl rfl (by simp [y_cat, y_catI, y_catJ]) d_X_comes_48 h (fun r12 u13 h => ?_)
        refine y_stk (stp0 := [va_re w.1 r12]) rfl ?_
        refine y_astore C (i := 4) (lvp := [(3, va_re w.1 r1), (0, va_re w.1 (some o)), (1, .int a1), (2, .int a2)]) d_X_comes_51 (by decide) (by simp [List.filter, y_cat, y_catI, y_catJ]) ?_
        refine y_aload C (i := 4) 0 d_X_comes_53 rfl ?_
        refine y_ifnonnull C 61 d_X_comes_55 (by decide) h (fun k14 h => ?_) (fun k14 h => ?_)
        · refine y_bipush C (v := -2) d_X_comes_58 (by decide) ?_
          exact y_iret C hr hlocks d_X_comes_60 h
        · refine y_aload C (i := 4) 0 d_X_comes_61 rfl ?_
          refine y_iload_n C (i := 2) 4 d_X_comes_63 rfl rfl ?_
          refine y_aload_n C (i := 0) 2 d_X_comes_64 rfl rfl ?_
          refine y_gr C (q := (yR4, yT4, 5)) (ci := 4) (k := 0) rfl (by decide) rfl (by decide) g_202 d_X_comes_65 h (fun r15 h => ?_)
          refine y_gi C (q := (yR2, yT2, 9)) (ci := 2) (k := 5) rfl (by decide) rfl g_142 d_X_comes_68 h (fun x16 h => ?_)
          refine y_callV 2 C (q := (yR0, yT0, 8)) (ci := 0) (fun t out hh => c_G_layAt l w F u13 t a2 x16 out hh) gc_X_comes_95 rfl (by decide) hd_G_layAt ⟨Nat.le_of_ble_eq_true rfl, Nat.le_of_ble_eq_true rfl⟩ rfl rfl rfl rfl (by simp [y_cat, y_catI, y_catJ]) d_X_comes_71 h (fun v17 u18 h => ?_)
          refine y_stk (stp0 := []) rfl ?_
          refine y_aload C (i := 4) 0 d_X_comes_74 rfl ?_
          refine y_gi C (q := (yR0, yT0, 8)) (ci := 0) (k := 0) rfl (by decide) rfl g_41 d_X_comes_76 h (fun x19 h => ?_)
          exact y_iret C hr hlocks d_X_comes_79 h
      · refine y_aload_n C (i := 3) 0 d_X_comes_29 rfl rfl ?_
        refine y_callV 0 C (q := (yR3, yT3, 6)) (ci := 3) (fun t out hh => c_S_whyNot l w F u5 t out hh) gc_X_comes_40 rfl (by decide) hd_S_whyNot ⟨Nat.le_of_ble_eq_true rfl, Nat.le_of_ble_eq_true rfl⟩ rfl rfl rfl rfl (by simp [y_cat, y_catI, y_catJ]) d_X_comes_30 h (fun x20 u21 h => ?_)
        refine y_stk (stp0 := [.int x20]) rfl ?_
        exact y_iret C hr hlocks d_X_comes_33 h
/-! X_go -/
theorem d_X_go_0 : decode prog_1_method_6_code 0 = .ok (.aload_n 0, 1) := by decide +kernel
theorem d_X_go_1 : decode prog_1_method_6_code 1 = .ok (.getfield 10, 3) := by decide +kernel
theorem d_X_go_4 : decode prog_1_method_6_code 4 = .ok (.iload_n 1, 1) := by decide +kernel
theorem d_X_go_5 : decode prog_1_method_6_code 5 = .ok (.invokevirtual 71, 3) := by decide +kernel
theorem d_X_go_8 : decode prog_1_method_6_code 8 = .ok (.astore_n 3, 1) := by decide +kernel
theorem d_X_go_9 : decode prog_1_method_6_code 9 = .ok (.aload_n 3, 1) := by decide +kernel
theorem d_X_go_10 : decode prog_1_method_6_code 10 = .ok (.ifnull 12, 3) := by decide +kernel
theorem d_X_go_13 : decode prog_1_method_6_code 13 = .ok (.iload_n 2, 1) := by decide +kernel
theorem d_X_go_14 : decode prog_1_method_6_code 14 = .ok (.bipush 6, 2) := by decide +kernel
theorem d_X_go_16 : decode prog_1_method_6_code 16 = .ok (.invokestatic 78, 3) := by decide +kernel
theorem d_X_go_19 : decode prog_1_method_6_code 19 = .ok (.ifCond .ne 5, 3) := by decide +kernel
theorem d_X_go_22 : decode prog_1_method_6_code 22 = .ok (.iconst (-1), 1) := by decide +kernel
theorem d_X_go_23 : decode prog_1_method_6_code 23 = .ok (.ireturn, 1) := by decide +kernel
theorem d_X_go_24 : decode prog_1_method_6_code 24 = .ok (.aload_n 3, 1) := by decide +kernel
theorem d_X_go_25 : decode prog_1_method_6_code 25 = .ok (.getfield 102, 3) := by decide +kernel
theorem d_X_go_28 : decode prog_1_method_6_code 28 = .ok (.istore 4, 2) := by decide +kernel
theorem d_X_go_30 : decode prog_1_method_6_code 30 = .ok (.aload_n 3, 1) := by decide +kernel
theorem d_X_go_31 : decode prog_1_method_6_code 31 = .ok (.iload_n 2, 1) := by decide +kernel
theorem d_X_go_32 : decode prog_1_method_6_code 32 = .ok (.putfield 102, 3) := by decide +kernel
theorem d_X_go_35 : decode prog_1_method_6_code 35 = .ok (.iload 4, 2) := by decide +kernel
theorem d_X_go_37 : decode prog_1_method_6_code 37 = .ok (.ireturn, 1) := by decide +kernel
theorem gc_X_go_71 : GoodIn yGW (wsV "WhoseGlass" 71 yR2 m_H_guestAt ws_H_guestAt) := y_gV g_391 g_268 g_269 g_2 g_270
set_option maxRecDepth 100000 in
def f_X_go (F : Nat) (u : Mm) (o : Nat) (a1 : Int32) (a2 : Int32) : Option (Int32 × Mm) := ob (jgr YX 4 0 (some o)) fun (r1 : Option Nat) => ob (jk YX 2 r1) fun t => yb (f_H_guestAt F u t a1) fun r2 u3 => (if r2 = none then some ((-1 : Int32), u3) else yb (f_X_isBelow F u3 a2 (6 : Int32)) fun x5 u6 => (if x5 = 0 then some ((-1 : Int32), u6) else ob (jgi YX 1 5 u6 r2) fun (x8 : Int32) => ob (jpi YX 1 5 u6 r2 a2) fun (u9 : Mm) => some (x8, u9)))
set_option maxHeartbeats 4000000 in
set_option maxRecDepth 100000 in
theorem c_X_go (l : Launch) (w : WP) (F : Nat) (u : Mm) (o : Nat) (a1 : Int32) (a2 : Int32) (out : Int32 × Mm) (h : f_X_go F u o a1 a2 = some out) : yMet l m_X_go ws_X_go ({ frames := 1, cells := 0, slots := 0, locals := 21 } : Room) YX w u [va_re w.1 (some o), .int a1, .int a2] yfi out := by
  refine y_entry (own := "WhoseGlass") (lv := [(0, va_re w.1 (some o)), (1, .int a1), (2, .int a2)]) (by decide +kernel) rfl (by simp [lv_args, y_cat, y_catI, y_catJ]) (by simp [lg_sl, y_cat, y_catI, y_catJ]) ?_
  intro p e s m args below meth c C hr hlocks
  unfold f_X_go at h
  refine y_aload_n C (i := 0) 0 d_X_go_0 rfl rfl ?_
  refine y_gr C (q := (yR4, yT4, 5)) (ci := 4) (k := 0) rfl (by decide) rfl (by decide) g_202 d_X_go_1 h (fun r1 h => ?_)
  refine y_iload_n C (i := 1) 1 d_X_go_4 rfl rfl ?_
  refine y_callV 1 C (q := (yR2, yT2, 9)) (ci := 2) (fun t out hh => c_H_guestAt l w F u t a1 out hh) gc_X_go_71 rfl (by decide) hd_H_guestAt ⟨Nat.le_of_ble_eq_true rfl, Nat.le_of_ble_eq_true rfl⟩ rfl rfl rfl rfl (by simp [y_cat, y_catI, y_catJ]) d_X_go_5 h (fun r2 u3 h => ?_)
  refine y_stk (stp0 := [va_re w.1 r2]) rfl ?_
  refine y_astore_n C (i := 3) (lvp := [(0, va_re w.1 (some o)), (1, .int a1), (2, .int a2)]) d_X_go_8 rfl (by decide) (by simp [List.filter, y_cat, y_catI, y_catJ]) ?_
  refine y_aload_n C (i := 3) 0 d_X_go_9 rfl rfl ?_
  refine y_ifnull C 22 d_X_go_10 (by decide) h (fun k4 h => ?_) (fun k4 h => ?_)
  · refine y_iconst C (v := -1) d_X_go_22 (by decide) ?_
    exact y_iret C hr hlocks d_X_go_23 h
  · refine y_iload_n C (i := 2) 3 d_X_go_13 rfl rfl ?_
    refine y_bipush C (v := 6) d_X_go_14 (by decide) ?_
    refine y_callS 2 C (fun out hh => c_X_isBelow l w F u3 a2 (6 : Int32) out hh) (y_gc g_344) g_400 g_1 g_343 hn_X_isBelow ⟨Nat.le_of_ble_eq_true rfl, Nat.le_of_ble_eq_true rfl⟩ rfl rfl rfl rfl (by simp [y_cat, y_catI, y_catJ]) d_X_go_16 h (fun x5 u6 h => ?_)
    refine y_stk (stp0 := [.int x5]) rfl ?_
    refine y_if_ne C 24 d_X_go_19 (by decide) h (fun k7 h => ?_) (fun k7 h => ?_)
    · refine y_iconst C (v := -1) d_X_go_22 (by decide) ?_
      exact y_iret C hr hlocks d_X_go_23 h
    · refine y_aload_n C (i := 3) 0 d_X_go_24 rfl rfl ?_
      refine y_gi C (q := (yR1, yT1, 10)) (ci := 1) (k := 5) rfl (by decide) rfl g_95 d_X_go_25 h (fun x8 h => ?_)
      refine y_istore C (i := 4) (lvp := [(3, va_re w.1 r2), (0, va_re w.1 (some o)), (1, .int a1), (2, .int a2)]) d_X_go_28 (by decide) (by simp [List.filter, y_cat, y_catI, y_catJ]) ?_
      refine y_aload_n C (i := 3) 1 d_X_go_30 rfl rfl ?_
      refine y_iload_n C (i := 2) 4 d_X_go_31 rfl rfl ?_
      refine y_pi C (q := (yR1, yT1, 10)) (ci := 1) (k := 5) rfl (by decide) rfl rfl (by decide +kernel) g_95 d_X_go_32 h (fun u9 h => ?_)
      refine y_iload C (i := 4) 0 d_X_go_35 rfl ?_
      exact y_iret C hr hlocks d_X_go_37 h
/-! X_sip -/
theorem d_X_sip_0 : decode prog_1_method_7_code 0 = .ok (.aload_n 0, 1) := by decide +kernel
theorem d_X_sip_1 : decode prog_1_method_7_code 1 = .ok (.getfield 10, 3) := by decide +kernel
theorem d_X_sip_4 : decode prog_1_method_7_code 4 = .ok (.iload_n 1, 1) := by decide +kernel
theorem d_X_sip_5 : decode prog_1_method_7_code 5 = .ok (.invokevirtual 71, 3) := by decide +kernel
theorem d_X_sip_8 : decode prog_1_method_7_code 8 = .ok (.astore_n 2, 1) := by decide +kernel
theorem d_X_sip_9 : decode prog_1_method_7_code 9 = .ok (.aload_n 2, 1) := by decide +kernel
theorem d_X_sip_10 : decode prog_1_method_7_code 10 = .ok (.ifnonnull 5, 3) := by decide +kernel
theorem d_X_sip_13 : decode prog_1_method_7_code 13 = .ok (.iconst (-1), 1) := by decide +kernel
theorem d_X_sip_14 : decode prog_1_method_7_code 14 = .ok (.ireturn, 1) := by decide +kernel
theorem d_X_sip_15 : decode prog_1_method_7_code 15 = .ok (.aload_n 0, 1) := by decide +kernel
theorem d_X_sip_16 : decode prog_1_method_7_code 16 = .ok (.getfield 10, 3) := by decide +kernel
theorem d_X_sip_19 : decode prog_1_method_7_code 19 = .ok (.aload_n 2, 1) := by decide +kernel
theorem d_X_sip_20 : decode prog_1_method_7_code 20 = .ok (.getfield 105, 3) := by decide +kernel
theorem d_X_sip_23 : decode prog_1_method_7_code 23 = .ok (.invokevirtual 61, 3) := by decide +kernel
theorem d_X_sip_26 : decode prog_1_method_7_code 26 = .ok (.astore_n 3, 1) := by decide +kernel
theorem d_X_sip_27 : decode prog_1_method_7_code 27 = .ok (.aload_n 3, 1) := by decide +kernel
theorem d_X_sip_28 : decode prog_1_method_7_code 28 = .ok (.ifnull 10, 3) := by decide +kernel
theorem d_X_sip_31 : decode prog_1_method_7_code 31 = .ok (.aload_n 3, 1) := by decide +kernel
theorem d_X_sip_32 : decode prog_1_method_7_code 32 = .ok (.getfield 108, 3) := by decide +kernel
theorem d_X_sip_35 : decode prog_1_method_7_code 35 = .ok (.ifCond .gt 6, 3) := by decide +kernel
theorem d_X_sip_38 : decode prog_1_method_7_code 38 = .ok (.bipush (-3), 2) := by decide +kernel
theorem d_X_sip_40 : decode prog_1_method_7_code 40 = .ok (.ireturn, 1) := by decide +kernel
theorem d_X_sip_41 : decode prog_1_method_7_code 41 = .ok (.aload_n 2, 1) := by decide +kernel
theorem d_X_sip_42 : decode prog_1_method_7_code 42 = .ok (.aload_n 3, 1) := by decide +kernel
theorem d_X_sip_43 : decode prog_1_method_7_code 43 = .ok (.invokevirtual 111, 3) := by decide +kernel
theorem d_X_sip_46 : decode prog_1_method_7_code 46 = .ok (.ireturn, 1) := by decide +kernel
theorem gc_X_sip_71 : GoodIn yGW (wsV "WhoseGlass" 71 yR2 m_H_guestAt ws_H_guestAt) := y_gV g_391 g_268 g_269 g_2 g_270
theorem gc_X_sip_61 : GoodIn yGW (wsV "WhoseGlass" 61 yR2 m_H_glassAt ws_H_glassAt) := y_gV g_381 g_260 g_261 g_2 g_262
theorem gc_X_sip_111 : GoodIn yGW (wsV "WhoseGlass" 111 yR1 m_U_sipFrom ws_U_sipFrom) := y_gV g_411 g_318 g_319 g_4 g_320
set_option maxRecDepth 100000 in
def f_X_sip (F : Nat) (u : Mm) (o : Nat) (a1 : Int32) : Option (Int32 × Mm) := ob (jgr YX 4 0 (some o)) fun (r1 : Option Nat) => ob (jk YX 2 r1) fun t => yb (f_H_guestAt F u t a1) fun r2 u3 => (if r2 = none then some ((-1 : Int32), u3) else ob (jgr YX 4 0 (some o)) fun (r5 : Option Nat) => ob (jgi YX 1 6 u3 r2) fun (x6 : Int32) => ob (jk YX 2 r5) fun t => yb (f_H_glassAt F u3 t x6) fun r7 u8 => (if r7 = none then some ((-3 : Int32), u8) else ob (jgi YX 0 3 u8 r7) fun (x10 : Int32) => (if 0 < x10 then ob (jk YX 1 r2) fun t => yb (f_U_sipFrom F u8 t r7) fun x12 u13 => some (x12, u13) else some ((-3 : Int32), u8))))
set_option maxHeartbeats 4000000 in
set_option maxRecDepth 100000 in
theorem c_X_sip (l : Launch) (w : WP) (F : Nat) (u : Mm) (o : Nat) (a1 : Int32) (out : Int32 × Mm) (h : f_X_sip F u o a1 = some out) : yMet l m_X_sip ws_X_sip ({ frames := 2, cells := 0, slots := 0, locals := 42 } : Room) YX w u [va_re w.1 (some o), .int a1] yfi out := by
  refine y_entry (own := "WhoseGlass") (lv := [(0, va_re w.1 (some o)), (1, .int a1)]) (by decide +kernel) rfl (by simp [lv_args, y_cat, y_catI, y_catJ]) (by simp [lg_sl, y_cat, y_catI, y_catJ]) ?_
  intro p e s m args below meth c C hr hlocks
  unfold f_X_sip at h
  refine y_aload_n C (i := 0) 0 d_X_sip_0 rfl rfl ?_
  refine y_gr C (q := (yR4, yT4, 5)) (ci := 4) (k := 0) rfl (by decide) rfl (by decide) g_202 d_X_sip_1 h (fun r1 h => ?_)
  refine y_iload_n C (i := 1) 1 d_X_sip_4 rfl rfl ?_
  refine y_callV 1 C (q := (yR2, yT2, 9)) (ci := 2) (fun t out hh => c_H_guestAt l w F u t a1 out hh) gc_X_sip_71 rfl (by decide) hd_H_guestAt ⟨Nat.le_of_ble_eq_true rfl, Nat.le_of_ble_eq_true rfl⟩ rfl rfl rfl rfl (by simp [y_cat, y_catI, y_catJ]) d_X_sip_5 h (fun r2 u3 h => ?_)
  refine y_stk (stp0 := [va_re w.1 r2]) rfl ?_
  refine y_astore_n C (i := 2) (lvp := [(0, va_re w.1 (some o)), (1, .int a1)]) d_X_sip_8 rfl (by decide) (by simp [List.filter, y_cat, y_catI, y_catJ]) ?_
  refine y_aload_n C (i := 2) 0 d_X_sip_9 rfl rfl ?_
  refine y_ifnonnull C 15 d_X_sip_10 (by decide) h (fun k4 h => ?_) (fun k4 h => ?_)
  · refine y_iconst C (v := -1) d_X_sip_13 (by decide) ?_
    exact y_iret C hr hlocks d_X_sip_14 h
  · refine y_aload_n C (i := 0) 1 d_X_sip_15 rfl rfl ?_
    refine y_gr C (q := (yR4, yT4, 5)) (ci := 4) (k := 0) rfl (by decide) rfl (by decide) g_202 d_X_sip_16 h (fun r5 h => ?_)
    refine y_aload_n C (i := 2) 0 d_X_sip_19 rfl rfl ?_
    refine y_gi C (q := (yR1, yT1, 10)) (ci := 1) (k := 6) rfl (by decide) rfl g_98 d_X_sip_20 h (fun x6 h => ?_)
    refine y_callV 1 C (q := (yR2, yT2, 9)) (ci := 2) (fun t out hh => c_H_glassAt l w F u3 t x6 out hh) gc_X_sip_61 rfl (by decide) hd_H_glassAt ⟨Nat.le_of_ble_eq_true rfl, Nat.le_of_ble_eq_true rfl⟩ rfl rfl rfl rfl (by simp [y_cat, y_catI, y_catJ]) d_X_sip_23 h (fun r7 u8 h => ?_)
    refine y_stk (stp0 := [va_re w.1 r7]) rfl ?_
    refine y_astore_n C (i := 3) (lvp := [(2, va_re w.1 r2), (0, va_re w.1 (some o)), (1, .int a1)]) d_X_sip_26 rfl (by decide) (by simp [List.filter, y_cat, y_catI, y_catJ]) ?_
    refine y_aload_n C (i := 3) 0 d_X_sip_27 rfl rfl ?_
    refine y_ifnull C 38 d_X_sip_28 (by decide) h (fun k9 h => ?_) (fun k9 h => ?_)
    · refine y_bipush C (v := -3) d_X_sip_38 (by decide) ?_
      exact y_iret C hr hlocks d_X_sip_40 h
    · refine y_aload_n C (i := 3) 0 d_X_sip_31 rfl rfl ?_
      refine y_gi C (q := (yR0, yT0, 8)) (ci := 0) (k := 3) rfl (by decide) rfl g_48 d_X_sip_32 h (fun x10 h => ?_)
      refine y_if_gt C 41 d_X_sip_35 (by decide) h (fun k11 h => ?_) (fun k11 h => ?_)
      · refine y_aload_n C (i := 2) 1 d_X_sip_41 rfl rfl ?_
        refine y_aload_n C (i := 3) 0 d_X_sip_42 rfl rfl ?_
        refine y_callV 1 C (q := (yR1, yT1, 10)) (ci := 1) (fun t out hh => c_U_sipFrom l w F u8 t r7 out hh) gc_X_sip_111 rfl (by decide) hd_U_sipFrom ⟨Nat.le_of_ble_eq_true rfl, Nat.le_of_ble_eq_true rfl⟩ rfl rfl rfl rfl (by simp [y_cat, y_catI, y_catJ]) d_X_sip_43 h (fun x12 u13 h => ?_)
        refine y_stk (stp0 := [.int x12]) rfl ?_
        exact y_iret C hr hlocks d_X_sip_46 h
      · refine y_bipush C (v := -3) d_X_sip_38 (by decide) ?_
        exact y_iret C hr hlocks d_X_sip_40 h
/-! X_lay -/
theorem d_X_lay_0 : decode prog_1_method_8_code 0 = .ok (.aload_n 0, 1) := by decide +kernel
theorem d_X_lay_1 : decode prog_1_method_8_code 1 = .ok (.getfield 10, 3) := by decide +kernel
theorem d_X_lay_4 : decode prog_1_method_8_code 4 = .ok (.iload_n 1, 1) := by decide +kernel
theorem d_X_lay_5 : decode prog_1_method_8_code 5 = .ok (.invokevirtual 71, 3) := by decide +kernel
theorem d_X_lay_8 : decode prog_1_method_8_code 8 = .ok (.astore_n 2, 1) := by decide +kernel
theorem d_X_lay_9 : decode prog_1_method_8_code 9 = .ok (.aload_n 2, 1) := by decide +kernel
theorem d_X_lay_10 : decode prog_1_method_8_code 10 = .ok (.ifnonnull 5, 3) := by decide +kernel
theorem d_X_lay_13 : decode prog_1_method_8_code 13 = .ok (.iconst (-1), 1) := by decide +kernel
theorem d_X_lay_14 : decode prog_1_method_8_code 14 = .ok (.ireturn, 1) := by decide +kernel
theorem d_X_lay_15 : decode prog_1_method_8_code 15 = .ok (.aload_n 0, 1) := by decide +kernel
theorem d_X_lay_16 : decode prog_1_method_8_code 16 = .ok (.getfield 10, 3) := by decide +kernel
theorem d_X_lay_19 : decode prog_1_method_8_code 19 = .ok (.aload_n 2, 1) := by decide +kernel
theorem d_X_lay_20 : decode prog_1_method_8_code 20 = .ok (.getfield 105, 3) := by decide +kernel
theorem d_X_lay_23 : decode prog_1_method_8_code 23 = .ok (.invokevirtual 61, 3) := by decide +kernel
theorem d_X_lay_26 : decode prog_1_method_8_code 26 = .ok (.astore_n 3, 1) := by decide +kernel
theorem d_X_lay_27 : decode prog_1_method_8_code 27 = .ok (.aload_n 3, 1) := by decide +kernel
theorem d_X_lay_28 : decode prog_1_method_8_code 28 = .ok (.ifnonnull 6, 3) := by decide +kernel
theorem d_X_lay_31 : decode prog_1_method_8_code 31 = .ok (.bipush (-3), 2) := by decide +kernel
theorem d_X_lay_33 : decode prog_1_method_8_code 33 = .ok (.ireturn, 1) := by decide +kernel
theorem d_X_lay_34 : decode prog_1_method_8_code 34 = .ok (.aload_n 0, 1) := by decide +kernel
theorem d_X_lay_35 : decode prog_1_method_8_code 35 = .ok (.getfield 10, 3) := by decide +kernel
theorem d_X_lay_38 : decode prog_1_method_8_code 38 = .ok (.aload_n 2, 1) := by decide +kernel
theorem d_X_lay_39 : decode prog_1_method_8_code 39 = .ok (.aload_n 3, 1) := by decide +kernel
theorem d_X_lay_40 : decode prog_1_method_8_code 40 = .ok (.invokevirtual 115, 3) := by decide +kernel
theorem d_X_lay_43 : decode prog_1_method_8_code 43 = .ok (.aload_n 3, 1) := by decide +kernel
theorem d_X_lay_44 : decode prog_1_method_8_code 44 = .ok (.getfield 99, 3) := by decide +kernel
theorem d_X_lay_47 : decode prog_1_method_8_code 47 = .ok (.ireturn, 1) := by decide +kernel
theorem gc_X_lay_71 : GoodIn yGW (wsV "WhoseGlass" 71 yR2 m_H_guestAt ws_H_guestAt) := y_gV g_391 g_268 g_269 g_2 g_270
theorem gc_X_lay_61 : GoodIn yGW (wsV "WhoseGlass" 61 yR2 m_H_glassAt ws_H_glassAt) := y_gV g_381 g_260 g_261 g_2 g_262
theorem gc_X_lay_115 : GoodIn yGW (wsV "WhoseGlass" 115 yR2 m_H_layDown ws_H_layDown) := y_gV g_416 g_326 g_327 g_2 g_328
set_option maxRecDepth 100000 in
def f_X_lay (F : Nat) (u : Mm) (o : Nat) (a1 : Int32) : Option (Int32 × Mm) := ob (jgr YX 4 0 (some o)) fun (r1 : Option Nat) => ob (jk YX 2 r1) fun t => yb (f_H_guestAt F u t a1) fun r2 u3 => (if r2 = none then some ((-1 : Int32), u3) else ob (jgr YX 4 0 (some o)) fun (r5 : Option Nat) => ob (jgi YX 1 6 u3 r2) fun (x6 : Int32) => ob (jk YX 2 r5) fun t => yb (f_H_glassAt F u3 t x6) fun r7 u8 => (if r7 = none then some ((-3 : Int32), u8) else ob (jgr YX 4 0 (some o)) fun (r10 : Option Nat) => ob (jk YX 2 r10) fun t => yb (f_H_layDown F u8 t r2 r7) fun v11 u12 => ob (jgi YX 0 0 u12 r7) fun (x13 : Int32) => some (x13, u12)))
set_option maxHeartbeats 4000000 in
set_option maxRecDepth 100000 in
theorem c_X_lay (l : Launch) (w : WP) (F : Nat) (u : Mm) (o : Nat) (a1 : Int32) (out : Int32 × Mm) (h : f_X_lay F u o a1 = some out) : yMet l m_X_lay ws_X_lay ({ frames := 2, cells := 0, slots := 0, locals := 44 } : Room) YX w u [va_re w.1 (some o), .int a1] yfi out := by
  refine y_entry (own := "WhoseGlass") (lv := [(0, va_re w.1 (some o)), (1, .int a1)]) (by decide +kernel) rfl (by simp [lv_args, y_cat, y_catI, y_catJ]) (by simp [lg_sl, y_cat, y_catI, y_catJ]) ?_
  intro p e s m args below meth c C hr hlocks
  unfold f_X_lay at h
  refine y_aload_n C (i := 0) 0 d_X_lay_0 rfl rfl ?_
  refine y_gr C (q := (yR4, yT4, 5)) (ci := 4) (k := 0) rfl (by decide) rfl (by decide) g_202 d_X_lay_1 h (fun r1 h => ?_)
  refine y_iload_n C (i := 1) 1 d_X_lay_4 rfl rfl ?_
  refine y_callV 1 C (q := (yR2, yT2, 9)) (ci := 2) (fun t out hh => c_H_guestAt l w F u t a1 out hh) gc_X_lay_71 rfl (by decide) hd_H_guestAt ⟨Nat.le_of_ble_eq_true rfl, Nat.le_of_ble_eq_true rfl⟩ rfl rfl rfl rfl (by simp [y_cat, y_catI, y_catJ]) d_X_lay_5 h (fun r2 u3 h => ?_)
  refine y_stk (stp0 := [va_re w.1 r2]) rfl ?_
  refine y_astore_n C (i := 2) (lvp := [(0, va_re w.1 (some o)), (1, .int a1)]) d_X_lay_8 rfl (by decide) (by simp [List.filter, y_cat, y_catI, y_catJ]) ?_
  refine y_aload_n C (i := 2) 0 d_X_lay_9 rfl rfl ?_
  refine y_ifnonnull C 15 d_X_lay_10 (by decide) h (fun k4 h => ?_) (fun k4 h => ?_)
  · refine y_iconst C (v := -1) d_X_lay_13 (by decide) ?_
    exact y_iret C hr hlocks d_X_lay_14 h
  · refine y_aload_n C (i := 0) 1 d_X_lay_15 rfl rfl ?_
    refine y_gr C (q := (yR4, yT4, 5)) (ci := 4) (k := 0) rfl (by decide) rfl (by decide) g_202 d_X_lay_16 h (fun r5 h => ?_)
    refine y_aload_n C (i := 2) 0 d_X_lay_19 rfl rfl ?_
    refine y_gi C (q := (yR1, yT1, 10)) (ci := 1) (k := 6) rfl (by decide) rfl g_98 d_X_lay_20 h (fun x6 h => ?_)
    refine y_callV 1 C (q := (yR2, yT2, 9)) (ci := 2) (fun t out hh => c_H_glassAt l w F u3 t x6 out hh) gc_X_lay_61 rfl (by decide) hd_H_glassAt ⟨Nat.le_of_ble_eq_true rfl, Nat.le_of_ble_eq_true rfl⟩ rfl rfl rfl rfl (by simp [y_cat, y_catI, y_catJ]) d_X_lay_23 h (fun r7 u8 h => ?_)
    refine y_stk (stp0 := [va_re w.1 r7]) rfl ?_
    refine y_astore_n C (i := 3) (lvp := [(2, va_re w.1 r2), (0, va_re w.1 (some o)), (1, .int a1)]) d_X_lay_26 rfl (by decide) (by simp [List.filter, y_cat, y_catI, y_catJ]) ?_
    refine y_aload_n C (i := 3) 0 d_X_lay_27 rfl rfl ?_
    refine y_ifnonnull C 34 d_X_lay_28 (by decide) h (fun k9 h => ?_) (fun k9 h => ?_)
    · refine y_bipush C (v := -3) d_X_lay_31 (by decide) ?_
      exact y_iret C hr hlocks d_X_lay_33 h
    · refine y_aload_n C (i := 0) 2 d_X_lay_34 rfl rfl ?_
      refine y_gr C (q := (yR4, yT4, 5)) (ci := 4) (k := 0) rfl (by decide) rfl (by decide) g_202 d_X_lay_35 h (fun r10 h => ?_)
      refine y_aload_n C (i := 2) 1 d_X_lay_38 rfl rfl ?_
      refine y_aload_n C (i := 3) 0 d_X_lay_39 rfl rfl ?_
      refine y_callV 2 C (q := (yR2, yT2, 9)) (ci := 2) (fun t out hh => c_H_layDown l w F u8 t r2 r7 out hh) gc_X_lay_115 rfl (by decide) hd_H_layDown ⟨Nat.le_of_ble_eq_true rfl, Nat.le_of_ble_eq_true rfl⟩ rfl rfl rfl rfl (by simp [y_cat, y_catI, y_catJ]) d_X_lay_40 h (fun v11 u12 h => ?_)
      refine y_stk (stp0 := []) rfl ?_
      refine y_aload_n C (i := 3) 0 d_X_lay_43 rfl rfl ?_
      refine y_gi C (q := (yR0, yT0, 8)) (ci := 0) (k := 0) rfl (by decide) rfl g_41 d_X_lay_44 h (fun x13 h => ?_)
      exact y_iret C hr hlocks d_X_lay_47 h
/-! X_take -/
theorem d_X_take_0 : decode prog_1_method_9_code 0 = .ok (.aload_n 0, 1) := by decide +kernel
theorem d_X_take_1 : decode prog_1_method_9_code 1 = .ok (.getfield 10, 3) := by decide +kernel
theorem d_X_take_4 : decode prog_1_method_9_code 4 = .ok (.iload_n 1, 1) := by decide +kernel
theorem d_X_take_5 : decode prog_1_method_9_code 5 = .ok (.invokevirtual 71, 3) := by decide +kernel
theorem d_X_take_8 : decode prog_1_method_9_code 8 = .ok (.astore_n 2, 1) := by decide +kernel
theorem d_X_take_9 : decode prog_1_method_9_code 9 = .ok (.aload_n 2, 1) := by decide +kernel
theorem d_X_take_10 : decode prog_1_method_9_code 10 = .ok (.ifnonnull 5, 3) := by decide +kernel
theorem d_X_take_13 : decode prog_1_method_9_code 13 = .ok (.iconst (-1), 1) := by decide +kernel
theorem d_X_take_14 : decode prog_1_method_9_code 14 = .ok (.ireturn, 1) := by decide +kernel
theorem d_X_take_15 : decode prog_1_method_9_code 15 = .ok (.aload_n 2, 1) := by decide +kernel
theorem d_X_take_16 : decode prog_1_method_9_code 16 = .ok (.getfield 105, 3) := by decide +kernel
theorem d_X_take_19 : decode prog_1_method_9_code 19 = .ok (.bipush (-4), 2) := by decide +kernel
theorem d_X_take_21 : decode prog_1_method_9_code 21 = .ok (.if_icmp .ne 14, 3) := by decide +kernel
theorem d_X_take_24 : decode prog_1_method_9_code 24 = .ok (.aload_n 0, 1) := by decide +kernel
theorem d_X_take_25 : decode prog_1_method_9_code 25 = .ok (.getfield 10, 3) := by decide +kernel
theorem d_X_take_28 : decode prog_1_method_9_code 28 = .ok (.aload_n 2, 1) := by decide +kernel
theorem d_X_take_29 : decode prog_1_method_9_code 29 = .ok (.invokevirtual 119, 3) := by decide +kernel
theorem d_X_take_32 : decode prog_1_method_9_code 32 = .ok (.goto 5, 3) := by decide +kernel
theorem d_X_take_35 : decode prog_1_method_9_code 35 = .ok (.bipush (-3), 2) := by decide +kernel
theorem d_X_take_37 : decode prog_1_method_9_code 37 = .ok (.ireturn, 1) := by decide +kernel
theorem gc_X_take_71 : GoodIn yGW (wsV "WhoseGlass" 71 yR2 m_H_guestAt ws_H_guestAt) := y_gV g_391 g_268 g_269 g_2 g_270
theorem gc_X_take_119 : GoodIn yGW (wsV "WhoseGlass" 119 yR2 m_H_takeUp ws_H_takeUp) := y_gV g_421 g_294 g_295 g_2 g_296
set_option maxRecDepth 100000 in
def f_X_take (F : Nat) (u : Mm) (o : Nat) (a1 : Int32) : Option (Int32 × Mm) := ob (jgr YX 4 0 (some o)) fun (r1 : Option Nat) => ob (jk YX 2 r1) fun t => yb (f_H_guestAt F u t a1) fun r2 u3 => (if r2 = none then some ((-1 : Int32), u3) else ob (jgi YX 1 6 u3 r2) fun (x5 : Int32) => (if x5 = (-4 : Int32) then ob (jgr YX 4 0 (some o)) fun (r7 : Option Nat) => ob (jk YX 2 r7) fun t => yb (f_H_takeUp F u3 t r2) fun x8 u9 => some (x8, u9) else some ((-3 : Int32), u3)))
set_option maxHeartbeats 4000000 in
set_option maxRecDepth 100000 in
theorem c_X_take (l : Launch) (w : WP) (F : Nat) (u : Mm) (o : Nat) (a1 : Int32) (out : Int32 × Mm) (h : f_X_take F u o a1 = some out) : yMet l m_X_take ws_X_take ({ frames := 3, cells := 0, slots := 0, locals := 79 } : Room) YX w u [va_re w.1 (some o), .int a1] yfi out := by
  refine y_entry (own := "WhoseGlass") (lv := [(0, va_re w.1 (some o)), (1, .int a1)]) (by decide +kernel) rfl (by simp [lv_args, y_cat, y_catI, y_catJ]) (by simp [lg_sl, y_cat, y_catI, y_catJ]) ?_
  intro p e s m args below meth c C hr hlocks
  unfold f_X_take at h
  refine y_aload_n C (i := 0) 0 d_X_take_0 rfl rfl ?_
  refine y_gr C (q := (yR4, yT4, 5)) (ci := 4) (k := 0) rfl (by decide) rfl (by decide) g_202 d_X_take_1 h (fun r1 h => ?_)
  refine y_iload_n C (i := 1) 1 d_X_take_4 rfl rfl ?_
  refine y_callV 1 C (q := (yR2, yT2, 9)) (ci := 2) (fun t out hh => c_H_guestAt l w F u t a1 out hh) gc_X_take_71 rfl (by decide) hd_H_guestAt ⟨Nat.le_of_ble_eq_true rfl, Nat.le_of_ble_eq_true rfl⟩ rfl rfl rfl rfl (by simp [y_cat, y_catI, y_catJ]) d_X_take_5 h (fun r2 u3 h => ?_)
  refine y_stk (stp0 := [va_re w.1 r2]) rfl ?_
  refine y_astore_n C (i := 2) (lvp := [(0, va_re w.1 (some o)), (1, .int a1)]) d_X_take_8 rfl (by decide) (by simp [List.filter, y_cat, y_catI, y_catJ]) ?_
  refine y_aload_n C (i := 2) 0 d_X_take_9 rfl rfl ?_
  refine y_ifnonnull C 15 d_X_take_10 (by decide) h (fun k4 h => ?_) (fun k4 h => ?_)
  · refine y_iconst C (v := -1) d_X_take_13 (by decide) ?_
    exact y_iret C hr hlocks d_X_take_14 h
  · refine y_aload_n C (i := 2) 0 d_X_take_15 rfl rfl ?_
    refine y_gi C (q := (yR1, yT1, 10)) (ci := 1) (k := 6) rfl (by decide) rfl g_98 d_X_take_16 h (fun x5 h => ?_)
    refine y_bipush C (v := -4) d_X_take_19 (by decide) ?_
    refine y_ic_ne C 35 d_X_take_21 (by decide) h (fun k6 h => ?_) (fun k6 h => ?_)
    · refine y_aload_n C (i := 0) 1 d_X_take_24 rfl rfl ?_
      refine y_gr C (q := (yR4, yT4, 5)) (ci := 4) (k := 0) rfl (by decide) rfl (by decide) g_202 d_X_take_25 h (fun r7 h => ?_)
      refine y_aload_n C (i := 2) 0 d_X_take_28 rfl rfl ?_
      refine y_callV 1 C (q := (yR2, yT2, 9)) (ci := 2) (fun t out hh => c_H_takeUp l w F u3 t r2 out hh) gc_X_take_119 rfl (by decide) hd_H_takeUp ⟨Nat.le_of_ble_eq_true rfl, Nat.le_of_ble_eq_true rfl⟩ rfl rfl rfl rfl (by simp [y_cat, y_catI, y_catJ]) d_X_take_29 h (fun x8 u9 h => ?_)
      refine y_stk (stp0 := [.int x8]) rfl ?_
      refine y_goto C (tgt := 37) d_X_take_32 (by decide) ?_
      exact y_iret C hr hlocks d_X_take_37 h
    · refine y_bipush C (v := -3) d_X_take_35 (by decide) ?_
      exact y_iret C hr hlocks d_X_take_37 h
/-! X_fill -/
theorem d_X_fill_0 : decode prog_1_method_10_code 0 = .ok (.iload_n 1, 1) := by decide +kernel
theorem d_X_fill_1 : decode prog_1_method_10_code 1 = .ok (.bipush 6, 2) := by decide +kernel
theorem d_X_fill_3 : decode prog_1_method_10_code 3 = .ok (.invokestatic 78, 3) := by decide +kernel
theorem d_X_fill_6 : decode prog_1_method_10_code 6 = .ok (.ifCond .ne 5, 3) := by decide +kernel
theorem d_X_fill_9 : decode prog_1_method_10_code 9 = .ok (.iconst (-1), 1) := by decide +kernel
theorem d_X_fill_10 : decode prog_1_method_10_code 10 = .ok (.ireturn, 1) := by decide +kernel
theorem d_X_fill_11 : decode prog_1_method_10_code 11 = .ok (.iconst 0, 1) := by decide +kernel
theorem d_X_fill_12 : decode prog_1_method_10_code 12 = .ok (.istore_n 2, 1) := by decide +kernel
theorem d_X_fill_13 : decode prog_1_method_10_code 13 = .ok (.iconst 0, 1) := by decide +kernel
theorem d_X_fill_14 : decode prog_1_method_10_code 14 = .ok (.istore_n 3, 1) := by decide +kernel
theorem d_X_fill_15 : decode prog_1_method_10_code 15 = .ok (.iload_n 3, 1) := by decide +kernel
theorem d_X_fill_16 : decode prog_1_method_10_code 16 = .ok (.aload_n 0, 1) := by decide +kernel
theorem d_X_fill_17 : decode prog_1_method_10_code 17 = .ok (.getfield 10, 3) := by decide +kernel
theorem d_X_fill_20 : decode prog_1_method_10_code 20 = .ok (.getfield 123, 3) := by decide +kernel
theorem d_X_fill_23 : decode prog_1_method_10_code 23 = .ok (.if_icmp .ge 52, 3) := by decide +kernel
theorem d_X_fill_26 : decode prog_1_method_10_code 26 = .ok (.aload_n 0, 1) := by decide +kernel
theorem d_X_fill_27 : decode prog_1_method_10_code 27 = .ok (.getfield 10, 3) := by decide +kernel
theorem d_X_fill_30 : decode prog_1_method_10_code 30 = .ok (.iload_n 3, 1) := by decide +kernel
theorem d_X_fill_31 : decode prog_1_method_10_code 31 = .ok (.invokevirtual 61, 3) := by decide +kernel
theorem d_X_fill_34 : decode prog_1_method_10_code 34 = .ok (.astore 4, 2) := by decide +kernel
theorem d_X_fill_36 : decode prog_1_method_10_code 36 = .ok (.aload 4, 2) := by decide +kernel
theorem d_X_fill_38 : decode prog_1_method_10_code 38 = .ok (.ifnull 31, 3) := by decide +kernel
theorem d_X_fill_41 : decode prog_1_method_10_code 41 = .ok (.aload 4, 2) := by decide +kernel
theorem d_X_fill_43 : decode prog_1_method_10_code 43 = .ok (.getfield 126, 3) := by decide +kernel
theorem d_X_fill_46 : decode prog_1_method_10_code 46 = .ok (.iload_n 1, 1) := by decide +kernel
theorem d_X_fill_47 : decode prog_1_method_10_code 47 = .ok (.if_icmp .ne 22, 3) := by decide +kernel
theorem d_X_fill_50 : decode prog_1_method_10_code 50 = .ok (.aload 4, 2) := by decide +kernel
theorem d_X_fill_52 : decode prog_1_method_10_code 52 = .ok (.getfield 108, 3) := by decide +kernel
theorem d_X_fill_55 : decode prog_1_method_10_code 55 = .ok (.iconst 5, 1) := by decide +kernel
theorem d_X_fill_56 : decode prog_1_method_10_code 56 = .ok (.if_icmp .ge 13, 3) := by decide +kernel
theorem d_X_fill_59 : decode prog_1_method_10_code 59 = .ok (.aload 4, 2) := by decide +kernel
theorem d_X_fill_61 : decode prog_1_method_10_code 61 = .ok (.bipush 9, 2) := by decide +kernel
theorem d_X_fill_63 : decode prog_1_method_10_code 63 = .ok (.putfield 108, 3) := by decide +kernel
theorem d_X_fill_66 : decode prog_1_method_10_code 66 = .ok (.iinc 2 1, 3) := by decide +kernel
theorem d_X_fill_69 : decode prog_1_method_10_code 69 = .ok (.iinc 3 1, 3) := by decide +kernel
theorem d_X_fill_72 : decode prog_1_method_10_code 72 = .ok (.goto (-57), 3) := by decide +kernel
theorem d_X_fill_75 : decode prog_1_method_10_code 75 = .ok (.iload_n 2, 1) := by decide +kernel
theorem d_X_fill_76 : decode prog_1_method_10_code 76 = .ok (.ireturn, 1) := by decide +kernel
theorem gc_X_fill_61 : GoodIn yGW (wsV "WhoseGlass" 61 yR2 m_H_glassAt ws_H_glassAt) := y_gV g_381 g_260 g_261 g_2 g_262
set_option maxHeartbeats 4000000 in
set_option maxRecDepth 100000 in
def f_X_fill_L15 (F : Nat) (a0 : Option Nat) (a1 : Int32) (k : Mm → Int32 → Option (Int32 × Mm)) : Nat → Mm → Int32 → Int32 → Option (Int32 × Mm)
  | 0, _, _, _ => none
  | n + 1, u, a2, a3 => ob (jgr YX 4 0 a0) fun (r4 : Option Nat) => ob (jgi YX 2 2 u r4) fun (x5 : Int32) => (if x5 ≤ a3 then k u a2 else ob (jgr YX 4 0 a0) fun (r7 : Option Nat) => ob (jk YX 2 r7) fun t => yb (f_H_glassAt F u t a3) fun r8 u9 => ob ((if r8 = none then some (a2, u9) else ob (jgi YX 0 4 u9 r8) fun (x12 : Int32) => (if x12 = a1 then ob (jgi YX 0 3 u9 r8) fun (x14 : Int32) => (if (5 : Int32) ≤ x14 then some (a2, u9) else ob (jpi YX 0 3 u9 r8 (9 : Int32)) fun (u16 : Mm) => ob (some (a2 + (1 : Int32))) fun (x17 : Int32) => some (x17, u16)) else some (a2, u9))) : Option (Int32 × Mm)) fun q10 => ob (some (a3 + (1 : Int32))) fun (x18 : Int32) => f_X_fill_L15 F a0 a1 k n q10.2 q10.1 x18)
set_option maxHeartbeats 4000000 in
set_option maxRecDepth 100000 in
theorem w_X_fill_L15 {p : Program} {l : Launch} {e : Env} {s : State} {m : MethodId} {args : Array Value} {below : List Frame} {meth : Method} {c : Code} {w : WP} {Q : State → Prop} (F : Nat) (C : yX p e ({ frames := 1, cells := 0, slots := 0, locals := 21 } : Room) s m args c YX w 5 prog_1_method_10_code "WhoseGlass") (hr : meth.sig.returnType = (some .int)) (hlocks : meth.locks = false) (a0 : Option Nat) (a1 : Int32) {out : Int32 × Mm} (k : Mm → Int32 → Option (Int32 × Mm)) (hk : ∀ (u : Mm) (a2 : Int32), k u a2 = some out → yG p l e ({ frames := 1, cells := 0, slots := 0, locals := 21 } : Room) s m args below meth c YX w 5 Q u 75 [(2, .int a2)] []) : ∀ (n : Nat) (u : Mm) (a2 : Int32) (a3 : Int32), f_X_fill_L15 F a0 a1 k n u a2 a3 = some out → yG p l e ({ frames := 1, cells := 0, slots := 0, locals := 21 } : Room) s m args below meth c YX w 5 Q u 15 [(0, va_re w.1 a0), (1, .int a1), (2, .int a2), (3, .int a3)] [] := by
  intro n
  induction n with
  | zero => intro u a2 a3 h; rw [f_X_fill_L15] at h; cases h
  | succ n ih =>
    intro u a2 a3 h
    rw [f_X_fill_L15] at h
    refine y_iload_n C (i := 3) 3 d_X_fill_15 rfl rfl ?_
    refine y_aload_n C (i := 0) 0 d_X_fill_16 rfl rfl ?_
    refine y_gr C (q := (yR4, yT4, 5)) (ci := 4) (k := 0) rfl (by decide) rfl (by decide) g_202 d_X_fill_17 h (fun r4 h => ?_)
    refine y_gi C (q := (yR2, yT2, 9)) (ci := 2) (k := 2) rfl (by decide) rfl g_134 d_X_fill_20 h (fun x5 h => ?_)
    refine y_ic_ge C 75 d_X_fill_23 (by decide) h (fun k6 h => ?_) (fun k6 h => ?_)
    · exact y_sub [2] rfl (hk _ _ h)
    · refine y_aload_n C (i := 0) 0 d_X_fill_26 rfl rfl ?_
      refine y_gr C (q := (yR4, yT4, 5)) (ci := 4) (k := 0) rfl (by decide) rfl (by decide) g_202 d_X_fill_27 h (fun r7 h => ?_)
      refine y_iload_n C (i := 3) 3 d_X_fill_30 rfl rfl ?_
      refine y_callV 1 C (q := (yR2, yT2, 9)) (ci := 2) (fun t out hh => c_H_glassAt l w F u t a3 out hh) gc_X_fill_61 rfl (by decide) hd_H_glassAt ⟨Nat.le_of_ble_eq_true rfl, Nat.le_of_ble_eq_true rfl⟩ rfl rfl rfl rfl (by simp [y_cat, y_catI, y_catJ]) d_X_fill_31 h (fun r8 u9 h => ?_)
      refine y_stk (stp0 := [va_re w.1 r8]) rfl ?_
      refine y_astore C (i := 4) (lvp := [(0, va_re w.1 a0), (1, .int a1), (2, .int a2), (3, .int a3)]) d_X_fill_34 (by decide) (by simp [List.filter, y_cat, y_catI, y_catJ]) ?_
      refine y_aload C (i := 4) 0 d_X_fill_36 rfl ?_
      obtain ⟨q10, hq10, h⟩ := ob_e h
      have hJq10 : yG p l e ({ frames := 1, cells := 0, slots := 0, locals := 21 } : Room) s m args below meth c YX w 5 Q q10.2 69 [(0, va_re w.1 a0), (1, .int a1), (2, .int q10.1), (3, .int a3)] [] := by
        refine y_iinc C (j := 3) (v := 1) (lvp := [(0, va_re w.1 a0), (1, .int a1), (2, .int q10.1)]) d_X_fill_69 rfl (by decide) (by decide) rfl h (fun x18 h => ?_)
        refine y_goto C (tgt := 15) d_X_fill_72 (by decide) ?_
        exact y_sub [1, 2, 3, 0] rfl (ih _ _ _ h)
      refine y_ifnull C 69 d_X_fill_38 (by decide) hq10 (fun k11 hq10 => ?_) (fun k11 hq10 => ?_)
      · cases hq10
        exact y_sub [1, 2, 3, 4] rfl hJq10
      · refine y_aload C (i := 4) 0 d_X_fill_41 rfl ?_
        refine y_gi C (q := (yR0, yT0, 8)) (ci := 0) (k := 4) rfl (by decide) rfl g_52 d_X_fill_43 hq10 (fun x12 hq10 => ?_)
        refine y_iload_n C (i := 1) 2 d_X_fill_46 rfl rfl ?_
        refine y_ic_ne C 69 d_X_fill_47 (by decide) hq10 (fun k13 hq10 => ?_) (fun k13 hq10 => ?_)
        · refine y_aload C (i := 4) 0 d_X_fill_50 rfl ?_
          refine y_gi C (q := (yR0, yT0, 8)) (ci := 0) (k := 3) rfl (by decide) rfl g_48 d_X_fill_52 hq10 (fun x14 hq10 => ?_)
          refine y_iconst C (v := 5) d_X_fill_55 (by decide) ?_
          refine y_ic_ge C 69 d_X_fill_56 (by decide) hq10 (fun k15 hq10 => ?_) (fun k15 hq10 => ?_)
          · cases hq10
            exact y_sub [1, 2, 3, 4] rfl hJq10
          · refine y_aload C (i := 4) 0 d_X_fill_59 rfl ?_
            refine y_bipush C (v := 9) d_X_fill_61 (by decide) ?_
            refine y_pi C (q := (yR0, yT0, 8)) (ci := 0) (k := 3) rfl (by decide) rfl rfl (by decide +kernel) g_48 d_X_fill_63 hq10 (fun u16 hq10 => ?_)
            refine y_iinc C (j := 3) (v := 1) (lvp := [(4, va_re w.1 r8), (0, va_re w.1 a0), (1, .int a1), (3, .int a3)]) d_X_fill_66 rfl (by decide) (by decide) rfl hq10 (fun x17 hq10 => ?_)
            cases hq10
            exact y_sub [2, 3, 0, 4] rfl hJq10
        · cases hq10
          exact y_sub [1, 2, 3, 4] rfl hJq10
set_option maxRecDepth 100000 in
def f_X_fill (F : Nat) (u : Mm) (o : Nat) (a1 : Int32) : Option (Int32 × Mm) := yb (f_X_isBelow F u a1 (6 : Int32)) fun x1 u2 => (if x1 = 0 then some ((-1 : Int32), u2) else f_X_fill_L15 F (some o) a1 (fun (u19 : Mm) (x20 : Int32) => some (x20, u19)) F u2 (0 : Int32) (0 : Int32))
set_option maxHeartbeats 4000000 in
set_option maxRecDepth 100000 in
theorem c_X_fill (l : Launch) (w : WP) (F : Nat) (u : Mm) (o : Nat) (a1 : Int32) (out : Int32 × Mm) (h : f_X_fill F u o a1 = some out) : yMet l m_X_fill ws_X_fill ({ frames := 1, cells := 0, slots := 0, locals := 21 } : Room) YX w u [va_re w.1 (some o), .int a1] yfi out := by
  refine y_entry (own := "WhoseGlass") (lv := [(0, va_re w.1 (some o)), (1, .int a1)]) (by decide +kernel) rfl (by simp [lv_args, y_cat, y_catI, y_catJ]) (by simp [lg_sl, y_cat, y_catI, y_catJ]) ?_
  intro p e s m args below meth c C hr hlocks
  unfold f_X_fill at h
  refine y_iload_n C (i := 1) 1 d_X_fill_0 rfl rfl ?_
  refine y_bipush C (v := 6) d_X_fill_1 (by decide) ?_
  refine y_callS 2 C (fun out hh => c_X_isBelow l w F u a1 (6 : Int32) out hh) (y_gc g_344) g_400 g_1 g_343 hn_X_isBelow ⟨Nat.le_of_ble_eq_true rfl, Nat.le_of_ble_eq_true rfl⟩ rfl rfl rfl rfl (by simp [y_cat, y_catI, y_catJ]) d_X_fill_3 h (fun x1 u2 h => ?_)
  refine y_stk (stp0 := [.int x1]) rfl ?_
  refine y_if_ne C 11 d_X_fill_6 (by decide) h (fun k3 h => ?_) (fun k3 h => ?_)
  · refine y_iconst C (v := -1) d_X_fill_9 (by decide) ?_
    exact y_iret C hr hlocks d_X_fill_10 h
  · refine y_iconst C (v := 0) d_X_fill_11 (by decide) ?_
    refine y_istore_n C (i := 2) (lvp := [(0, va_re w.1 (some o)), (1, .int a1)]) d_X_fill_12 rfl (by decide) rfl ?_
    refine y_iconst C (v := 0) d_X_fill_13 (by decide) ?_
    refine y_istore_n C (i := 3) (lvp := [(2, .int (0 : Int32)), (0, va_re w.1 (some o)), (1, .int a1)]) d_X_fill_14 rfl (by decide) rfl ?_
    refine y_sub [2, 3, 1, 0] rfl (w_X_fill_L15 F C hr hlocks _ _ _ (fun u19 x20 h => ?_) _ _ _ _ h)
    refine y_iload_n C (i := 2) 0 d_X_fill_75 rfl rfl ?_
    exact y_iret C hr hlocks d_X_fill_76 h
/-! G_sink -/
theorem d_G_sink_0 : decode prog_2_method_5_code 0 = .ok (.aload_n 0, 1) := by decide +kernel
theorem d_G_sink_1 : decode prog_2_method_5_code 1 = .ok (.bipush 20, 2) := by decide +kernel
theorem d_G_sink_3 : decode prog_2_method_5_code 3 = .ok (.putfield 31, 3) := by decide +kernel
theorem d_G_sink_6 : decode prog_2_method_5_code 6 = .ok (.aload_n 0, 1) := by decide +kernel
theorem d_G_sink_7 : decode prog_2_method_5_code 7 = .ok (.iconst 0, 1) := by decide +kernel
theorem d_G_sink_8 : decode prog_2_method_5_code 8 = .ok (.putfield 21, 3) := by decide +kernel
theorem d_G_sink_11 : decode prog_2_method_5_code 11 = .ok (.aload_n 0, 1) := by decide +kernel
theorem d_G_sink_12 : decode prog_2_method_5_code 12 = .ok (.iconst 0, 1) := by decide +kernel
theorem d_G_sink_13 : decode prog_2_method_5_code 13 = .ok (.putfield 24, 3) := by decide +kernel
theorem d_G_sink_16 : decode prog_2_method_5_code 16 = .ok (.aload_n 0, 1) := by decide +kernel
theorem d_G_sink_17 : decode prog_2_method_5_code 17 = .ok (.iconst 0, 1) := by decide +kernel
theorem d_G_sink_18 : decode prog_2_method_5_code 18 = .ok (.putfield 27, 3) := by decide +kernel
theorem d_G_sink_21 : decode prog_2_method_5_code 21 = .ok (.return_, 1) := by decide +kernel
set_option maxRecDepth 100000 in
def f_G_sink (F : Nat) (u : Mm) (o : Nat) : Option (Unit × Mm) := ob (jpi YX 0 4 u (some o) (20 : Int32)) fun (u1 : Mm) => ob (jpi YX 0 3 u1 (some o) (0 : Int32)) fun (u2 : Mm) => ob (jpi YX 0 6 u2 (some o) (0 : Int32)) fun (u3 : Mm) => ob (jpz YX 0 7 u3 (some o) (0 : Int32)) fun (u4 : Mm) => some ((), u4)
set_option maxHeartbeats 4000000 in
set_option maxRecDepth 100000 in
theorem c_G_sink (l : Launch) (w : WP) (F : Nat) (u : Mm) (o : Nat) (out : Unit × Mm) (h : f_G_sink F u o = some out) : yMet l m_G_sink ws_G_sink ({ frames := 0, cells := 0, slots := 0, locals := 0 } : Room) YX w u [va_re w.1 (some o)] yfv out := by
  refine y_entry (own := "WhoseGlass$Glass") (lv := [(0, va_re w.1 (some o))]) (by decide +kernel) rfl (by simp [lv_args, y_cat, y_catI, y_catJ]) (by simp [lg_sl, y_cat, y_catI, y_catJ]) ?_
  intro p e s m args below meth c C hr hlocks
  unfold f_G_sink at h
  refine y_aload_n C (i := 0) 0 d_G_sink_0 rfl rfl ?_
  refine y_bipush C (v := 20) d_G_sink_1 (by decide) ?_
  refine y_pi C (q := (yR0, yT0, 8)) (ci := 0) (k := 4) rfl (by decide) rfl rfl (by decide +kernel) g_50 d_G_sink_3 h (fun u1 h => ?_)
  refine y_aload_n C (i := 0) 0 d_G_sink_6 rfl rfl ?_
  refine y_iconst C (v := 0) d_G_sink_7 (by decide) ?_
  refine y_pi C (q := (yR0, yT0, 8)) (ci := 0) (k := 3) rfl (by decide) rfl rfl (by decide +kernel) g_46 d_G_sink_8 h (fun u2 h => ?_)
  refine y_aload_n C (i := 0) 0 d_G_sink_11 rfl rfl ?_
  refine y_iconst C (v := 0) d_G_sink_12 (by decide) ?_
  refine y_pi C (q := (yR0, yT0, 8)) (ci := 0) (k := 6) rfl (by decide) rfl rfl (by decide +kernel) g_57 d_G_sink_13 h (fun u3 h => ?_)
  refine y_aload_n C (i := 0) 0 d_G_sink_16 rfl rfl ?_
  refine y_iconst C (v := 0) d_G_sink_17 (by decide) ?_
  refine y_pz C (q := (yR0, yT0, 8)) (ci := 0) (k := 7) rfl (by decide) rfl rfl (by decide +kernel) g_59 d_G_sink_18 h (fun u4 h => ?_)
  exact y_vret C hr hlocks d_G_sink_21 h
/-! X_clear -/
theorem d_X_clear_0 : decode prog_1_method_11_code 0 = .ok (.iload_n 1, 1) := by decide +kernel
theorem d_X_clear_1 : decode prog_1_method_11_code 1 = .ok (.bipush 6, 2) := by decide +kernel
theorem d_X_clear_3 : decode prog_1_method_11_code 3 = .ok (.invokestatic 78, 3) := by decide +kernel
theorem d_X_clear_6 : decode prog_1_method_11_code 6 = .ok (.ifCond .eq 13, 3) := by decide +kernel
theorem d_X_clear_9 : decode prog_1_method_11_code 9 = .ok (.iload_n 2, 1) := by decide +kernel
theorem d_X_clear_10 : decode prog_1_method_11_code 10 = .ok (.ifCond .lt 9, 3) := by decide +kernel
theorem d_X_clear_13 : decode prog_1_method_11_code 13 = .ok (.iload_n 2, 1) := by decide +kernel
theorem d_X_clear_14 : decode prog_1_method_11_code 14 = .ok (.bipush 99, 2) := by decide +kernel
theorem d_X_clear_16 : decode prog_1_method_11_code 16 = .ok (.if_icmp .le 5, 3) := by decide +kernel
theorem d_X_clear_19 : decode prog_1_method_11_code 19 = .ok (.iconst (-1), 1) := by decide +kernel
theorem d_X_clear_20 : decode prog_1_method_11_code 20 = .ok (.ireturn, 1) := by decide +kernel
theorem d_X_clear_21 : decode prog_1_method_11_code 21 = .ok (.iconst 0, 1) := by decide +kernel
theorem d_X_clear_22 : decode prog_1_method_11_code 22 = .ok (.istore_n 3, 1) := by decide +kernel
theorem d_X_clear_23 : decode prog_1_method_11_code 23 = .ok (.iconst 0, 1) := by decide +kernel
theorem d_X_clear_24 : decode prog_1_method_11_code 24 = .ok (.istore 4, 2) := by decide +kernel
theorem d_X_clear_26 : decode prog_1_method_11_code 26 = .ok (.iload 4, 2) := by decide +kernel
theorem d_X_clear_28 : decode prog_1_method_11_code 28 = .ok (.aload_n 0, 1) := by decide +kernel
theorem d_X_clear_29 : decode prog_1_method_11_code 29 = .ok (.getfield 10, 3) := by decide +kernel
theorem d_X_clear_32 : decode prog_1_method_11_code 32 = .ok (.getfield 123, 3) := by decide +kernel
theorem d_X_clear_35 : decode prog_1_method_11_code 35 = .ok (.if_icmp .ge 59, 3) := by decide +kernel
theorem d_X_clear_38 : decode prog_1_method_11_code 38 = .ok (.aload_n 0, 1) := by decide +kernel
theorem d_X_clear_39 : decode prog_1_method_11_code 39 = .ok (.getfield 10, 3) := by decide +kernel
theorem d_X_clear_42 : decode prog_1_method_11_code 42 = .ok (.iload 4, 2) := by decide +kernel
theorem d_X_clear_44 : decode prog_1_method_11_code 44 = .ok (.invokevirtual 61, 3) := by decide +kernel
theorem d_X_clear_47 : decode prog_1_method_11_code 47 = .ok (.astore 5, 2) := by decide +kernel
theorem d_X_clear_49 : decode prog_1_method_11_code 49 = .ok (.aload 5, 2) := by decide +kernel
theorem d_X_clear_51 : decode prog_1_method_11_code 51 = .ok (.ifnull 37, 3) := by decide +kernel
theorem d_X_clear_54 : decode prog_1_method_11_code 54 = .ok (.aload 5, 2) := by decide +kernel
theorem d_X_clear_56 : decode prog_1_method_11_code 56 = .ok (.getfield 126, 3) := by decide +kernel
theorem d_X_clear_59 : decode prog_1_method_11_code 59 = .ok (.iload_n 1, 1) := by decide +kernel
theorem d_X_clear_60 : decode prog_1_method_11_code 60 = .ok (.if_icmp .ne 28, 3) := by decide +kernel
theorem d_X_clear_63 : decode prog_1_method_11_code 63 = .ok (.aload_n 0, 1) := by decide +kernel
theorem d_X_clear_64 : decode prog_1_method_11_code 64 = .ok (.getfield 10, 3) := by decide +kernel
theorem d_X_clear_67 : decode prog_1_method_11_code 67 = .ok (.getfield 92, 3) := by decide +kernel
theorem d_X_clear_70 : decode prog_1_method_11_code 70 = .ok (.aload 5, 2) := by decide +kernel
theorem d_X_clear_72 : decode prog_1_method_11_code 72 = .ok (.getfield 129, 3) := by decide +kernel
theorem d_X_clear_75 : decode prog_1_method_11_code 75 = .ok (.isub, 1) := by decide +kernel
theorem d_X_clear_76 : decode prog_1_method_11_code 76 = .ok (.iload_n 2, 1) := by decide +kernel
theorem d_X_clear_77 : decode prog_1_method_11_code 77 = .ok (.if_icmp .lt 11, 3) := by decide +kernel
theorem d_X_clear_80 : decode prog_1_method_11_code 80 = .ok (.aload 5, 2) := by decide +kernel
theorem d_X_clear_82 : decode prog_1_method_11_code 82 = .ok (.invokevirtual 132, 3) := by decide +kernel
theorem d_X_clear_85 : decode prog_1_method_11_code 85 = .ok (.iinc 3 1, 3) := by decide +kernel
theorem d_X_clear_88 : decode prog_1_method_11_code 88 = .ok (.iinc 4 1, 3) := by decide +kernel
theorem d_X_clear_91 : decode prog_1_method_11_code 91 = .ok (.goto (-65), 3) := by decide +kernel
theorem d_X_clear_94 : decode prog_1_method_11_code 94 = .ok (.iload_n 3, 1) := by decide +kernel
theorem d_X_clear_95 : decode prog_1_method_11_code 95 = .ok (.ireturn, 1) := by decide +kernel
theorem gc_X_clear_61 : GoodIn yGW (wsV "WhoseGlass" 61 yR2 m_H_glassAt ws_H_glassAt) := y_gV g_381 g_260 g_261 g_2 g_262
theorem gc_X_clear_132 : GoodIn yGW (wsV "WhoseGlass" 132 yR0 m_G_sink ws_G_sink) := y_gV g_430 g_431 g_432 g_3 g_433
set_option maxHeartbeats 4000000 in
set_option maxRecDepth 100000 in
def f_X_clear_L26 (F : Nat) (a0 : Option Nat) (a1 : Int32) (a2 : Int32) (k : Mm → Int32 → Option (Int32 × Mm)) : Nat → Mm → Int32 → Int32 → Option (Int32 × Mm)
  | 0, _, _, _ => none
  | n + 1, u, a3, a4 => ob (jgr YX 4 0 a0) fun (r6 : Option Nat) => ob (jgi YX 2 2 u r6) fun (x7 : Int32) => (if x7 ≤ a4 then k u a3 else ob (jgr YX 4 0 a0) fun (r9 : Option Nat) => ob (jk YX 2 r9) fun t => yb (f_H_glassAt F u t a4) fun r10 u11 => ob ((if r10 = none then some (a3, u11) else ob (jgi YX 0 4 u11 r10) fun (x14 : Int32) => (if x14 = a1 then ob (jgr YX 4 0 a0) fun (r16 : Option Nat) => ob (jgi YX 2 5 u11 r16) fun (x17 : Int32) => ob (jgi YX 0 5 u11 r10) fun (x18 : Int32) => (if (x17 - x18) < a2 then some (a3, u11) else ob (jk YX 0 r10) fun t => yb (f_G_sink F u11 t ) fun v20 u21 => ob (some (a3 + (1 : Int32))) fun (x22 : Int32) => some (x22, u21)) else some (a3, u11))) : Option (Int32 × Mm)) fun q12 => ob (some (a4 + (1 : Int32))) fun (x23 : Int32) => f_X_clear_L26 F a0 a1 a2 k n q12.2 q12.1 x23)
set_option maxHeartbeats 4000000 in
set_option maxRecDepth 100000 in
theorem w_X_clear_L26 {p : Program} {l : Launch} {e : Env} {s : State} {m : MethodId} {args : Array Value} {below : List Frame} {meth : Method} {c : Code} {w : WP} {Q : State → Prop} (F : Nat) (C : yX p e ({ frames := 1, cells := 0, slots := 0, locals := 21 } : Room) s m args c YX w 6 prog_1_method_11_code "WhoseGlass") (hr : meth.sig.returnType = (some .int)) (hlocks : meth.locks = false) (a0 : Option Nat) (a1 : Int32) (a2 : Int32) {out : Int32 × Mm} (k : Mm → Int32 → Option (Int32 × Mm)) (hk : ∀ (u : Mm) (a3 : Int32), k u a3 = some out → yG p l e ({ frames := 1, cells := 0, slots := 0, locals := 21 } : Room) s m args below meth c YX w 6 Q u 94 [(3, .int a3)] []) : ∀ (n : Nat) (u : Mm) (a3 : Int32) (a4 : Int32), f_X_clear_L26 F a0 a1 a2 k n u a3 a4 = some out → yG p l e ({ frames := 1, cells := 0, slots := 0, locals := 21 } : Room) s m args below meth c YX w 6 Q u 26 [(0, va_re w.1 a0), (1, .int a1), (2, .int a2), (3, .int a3), (4, .int a4)] [] := by
  intro n
  induction n with
  | zero => intro u a3 a4 h; rw [f_X_clear_L26] at h; cases h
  | succ n ih =>
    intro u a3 a4 h
    rw [f_X_clear_L26] at h
    refine y_iload C (i := 4) 4 d_X_clear_26 rfl ?_
    refine y_aload_n C (i := 0) 0 d_X_clear_28 rfl rfl ?_
    refine y_gr C (q := (yR4, yT4, 5)) (ci := 4) (k := 0) rfl (by decide) rfl (by decide) g_202 d_X_clear_29 h (fun r6 h => ?_)
    refine y_gi C (q := (yR2, yT2, 9)) (ci := 2) (k := 2) rfl (by decide) rfl g_134 d_X_clear_32 h (fun x7 h => ?_)
    refine y_ic_ge C 94 d_X_clear_35 (by decide) h (fun k8 h => ?_) (fun k8 h => ?_)
    · exact y_sub [3] rfl (hk _ _ h)
    · refine y_aload_n C (i := 0) 0 d_X_clear_38 rfl rfl ?_
      refine y_gr C (q := (yR4, yT4, 5)) (ci := 4) (k := 0) rfl (by decide) rfl (by decide) g_202 d_X_clear_39 h (fun r9 h => ?_)
      refine y_iload C (i := 4) 4 d_X_clear_42 rfl ?_
      refine y_callV 1 C (q := (yR2, yT2, 9)) (ci := 2) (fun t out hh => c_H_glassAt l w F u t a4 out hh) gc_X_clear_61 rfl (by decide) hd_H_glassAt ⟨Nat.le_of_ble_eq_true rfl, Nat.le_of_ble_eq_true rfl⟩ rfl rfl rfl rfl (by simp [y_cat, y_catI, y_catJ]) d_X_clear_44 h (fun r10 u11 h => ?_)
      refine y_stk (stp0 := [va_re w.1 r10]) rfl ?_
      refine y_astore C (i := 5) (lvp := [(0, va_re w.1 a0), (1, .int a1), (2, .int a2), (3, .int a3), (4, .int a4)]) d_X_clear_47 (by decide) (by simp [List.filter, y_cat, y_catI, y_catJ]) ?_
      refine y_aload C (i := 5) 0 d_X_clear_49 rfl ?_
      obtain ⟨q12, hq12, h⟩ := ob_e h
      have hJq12 : yG p l e ({ frames := 1, cells := 0, slots := 0, locals := 21 } : Room) s m args below meth c YX w 6 Q q12.2 88 [(0, va_re w.1 a0), (1, .int a1), (2, .int a2), (3, .int q12.1), (4, .int a4)] [] := by
        refine y_iinc C (j := 4) (v := 1) (lvp := [(0, va_re w.1 a0), (1, .int a1), (2, .int a2), (3, .int q12.1)]) d_X_clear_88 rfl (by decide) (by decide) rfl h (fun x23 h => ?_)
        refine y_goto C (tgt := 26) d_X_clear_91 (by decide) ?_
        exact y_sub [1, 2, 3, 4, 0] rfl (ih _ _ _ h)
      refine y_ifnull C 88 d_X_clear_51 (by decide) hq12 (fun k13 hq12 => ?_) (fun k13 hq12 => ?_)
      · cases hq12
        exact y_sub [1, 2, 3, 4, 5] rfl hJq12
      · refine y_aload C (i := 5) 0 d_X_clear_54 rfl ?_
        refine y_gi C (q := (yR0, yT0, 8)) (ci := 0) (k := 4) rfl (by decide) rfl g_52 d_X_clear_56 hq12 (fun x14 hq12 => ?_)
        refine y_iload_n C (i := 1) 2 d_X_clear_59 rfl rfl ?_
        refine y_ic_ne C 88 d_X_clear_60 (by decide) hq12 (fun k15 hq12 => ?_) (fun k15 hq12 => ?_)
        · refine y_aload_n C (i := 0) 1 d_X_clear_63 rfl rfl ?_
          refine y_gr C (q := (yR4, yT4, 5)) (ci := 4) (k := 0) rfl (by decide) rfl (by decide) g_202 d_X_clear_64 hq12 (fun r16 hq12 => ?_)
          refine y_gi C (q := (yR2, yT2, 9)) (ci := 2) (k := 5) rfl (by decide) rfl g_142 d_X_clear_67 hq12 (fun x17 hq12 => ?_)
          refine y_aload C (i := 5) 0 d_X_clear_70 rfl ?_
          refine y_gi C (q := (yR0, yT0, 8)) (ci := 0) (k := 5) rfl (by decide) rfl g_55 d_X_clear_72 hq12 (fun x18 hq12 => ?_)
          refine y_isub C d_X_clear_75 ?_
          refine y_iload_n C (i := 2) 3 d_X_clear_76 rfl rfl ?_
          refine y_ic_lt C 88 d_X_clear_77 (by decide) hq12 (fun k19 hq12 => ?_) (fun k19 hq12 => ?_)
          · cases hq12
            exact y_sub [1, 2, 3, 4, 5] rfl hJq12
          · refine y_aload C (i := 5) 0 d_X_clear_80 rfl ?_
            refine y_callV 0 C (q := (yR0, yT0, 8)) (ci := 0) (fun t out hh => c_G_sink l w F u11 t out hh) gc_X_clear_132 rfl (by decide) hd_G_sink ⟨Nat.le_of_ble_eq_true rfl, Nat.le_of_ble_eq_true rfl⟩ rfl rfl rfl rfl (by simp [y_cat, y_catI, y_catJ]) d_X_clear_82 hq12 (fun v20 u21 hq12 => ?_)
            refine y_stk (stp0 := []) rfl ?_
            refine y_iinc C (j := 4) (v := 1) (lvp := [(5, va_re w.1 r10), (0, va_re w.1 a0), (1, .int a1), (2, .int a2), (4, .int a4)]) d_X_clear_85 rfl (by decide) (by decide) rfl hq12 (fun x22 hq12 => ?_)
            cases hq12
            exact y_sub [2, 3, 4, 0, 5] rfl hJq12
        · cases hq12
          exact y_sub [1, 2, 3, 4, 5] rfl hJq12
set_option maxRecDepth 100000 in
def f_X_clear (F : Nat) (u : Mm) (o : Nat) (a1 : Int32) (a2 : Int32) : Option (Int32 × Mm) := yb (f_X_isBelow F u a1 (6 : Int32)) fun x1 u2 => (if x1 = 0 then some ((-1 : Int32), u2) else (if a2 < 0 then some ((-1 : Int32), u2) else (if a2 ≤ (99 : Int32) then f_X_clear_L26 F (some o) a1 a2 (fun (u24 : Mm) (x25 : Int32) => some (x25, u24)) F u2 (0 : Int32) (0 : Int32) else some ((-1 : Int32), u2))))
set_option maxHeartbeats 4000000 in
set_option maxRecDepth 100000 in
theorem c_X_clear (l : Launch) (w : WP) (F : Nat) (u : Mm) (o : Nat) (a1 : Int32) (a2 : Int32) (out : Int32 × Mm) (h : f_X_clear F u o a1 a2 = some out) : yMet l m_X_clear ws_X_clear ({ frames := 1, cells := 0, slots := 0, locals := 21 } : Room) YX w u [va_re w.1 (some o), .int a1, .int a2] yfi out := by
  refine y_entry (own := "WhoseGlass") (lv := [(0, va_re w.1 (some o)), (1, .int a1), (2, .int a2)]) (by decide +kernel) rfl (by simp [lv_args, y_cat, y_catI, y_catJ]) (by simp [lg_sl, y_cat, y_catI, y_catJ]) ?_
  intro p e s m args below meth c C hr hlocks
  unfold f_X_clear at h
  refine y_iload_n C (i := 1) 1 d_X_clear_0 rfl rfl ?_
  refine y_bipush C (v := 6) d_X_clear_1 (by decide) ?_
  refine y_callS 2 C (fun out hh => c_X_isBelow l w F u a1 (6 : Int32) out hh) (y_gc g_344) g_400 g_1 g_343 hn_X_isBelow ⟨Nat.le_of_ble_eq_true rfl, Nat.le_of_ble_eq_true rfl⟩ rfl rfl rfl rfl (by simp [y_cat, y_catI, y_catJ]) d_X_clear_3 h (fun x1 u2 h => ?_)
  refine y_stk (stp0 := [.int x1]) rfl ?_
  refine y_if_eq C 19 d_X_clear_6 (by decide) h (fun k3 h => ?_) (fun k3 h => ?_)
  · refine y_iconst C (v := -1) d_X_clear_19 (by decide) ?_
    exact y_iret C hr hlocks d_X_clear_20 h
  · refine y_iload_n C (i := 2) 2 d_X_clear_9 rfl rfl ?_
    refine y_if_lt C 19 d_X_clear_10 (by decide) h (fun k4 h => ?_) (fun k4 h => ?_)
    · refine y_iconst C (v := -1) d_X_clear_19 (by decide) ?_
      exact y_iret C hr hlocks d_X_clear_20 h
    · refine y_iload_n C (i := 2) 2 d_X_clear_13 rfl rfl ?_
      refine y_bipush C (v := 99) d_X_clear_14 (by decide) ?_
      refine y_ic_le C 21 d_X_clear_16 (by decide) h (fun k5 h => ?_) (fun k5 h => ?_)
      · refine y_iconst C (v := 0) d_X_clear_21 (by decide) ?_
        refine y_istore_n C (i := 3) (lvp := [(0, va_re w.1 (some o)), (1, .int a1), (2, .int a2)]) d_X_clear_22 rfl (by decide) rfl ?_
        refine y_iconst C (v := 0) d_X_clear_23 (by decide) ?_
        refine y_istore C (i := 4) (lvp := [(3, .int (0 : Int32)), (0, va_re w.1 (some o)), (1, .int a1), (2, .int a2)]) d_X_clear_24 (by decide) rfl ?_
        refine y_sub [2, 3, 4, 1, 0] rfl (w_X_clear_L26 F C hr hlocks _ _ _ _ (fun u24 x25 h => ?_) _ _ _ _ h)
        refine y_iload_n C (i := 3) 0 d_X_clear_94 rfl rfl ?_
        exact y_iret C hr hlocks d_X_clear_95 h
      · refine y_iconst C (v := -1) d_X_clear_19 (by decide) ?_
        exact y_iret C hr hlocks d_X_clear_20 h
/-! X_minutes -/
theorem d_X_minutes_0 : decode prog_1_method_12_code 0 = .ok (.iload_n 1, 1) := by decide +kernel
theorem d_X_minutes_1 : decode prog_1_method_12_code 1 = .ok (.iconst 1, 1) := by decide +kernel
theorem d_X_minutes_2 : decode prog_1_method_12_code 2 = .ok (.if_icmp .lt 9, 3) := by decide +kernel
theorem d_X_minutes_5 : decode prog_1_method_12_code 5 = .ok (.iload_n 1, 1) := by decide +kernel
theorem d_X_minutes_6 : decode prog_1_method_12_code 6 = .ok (.bipush 99, 2) := by decide +kernel
theorem d_X_minutes_8 : decode prog_1_method_12_code 8 = .ok (.if_icmp .le 5, 3) := by decide +kernel
theorem d_X_minutes_11 : decode prog_1_method_12_code 11 = .ok (.iconst (-1), 1) := by decide +kernel
theorem d_X_minutes_12 : decode prog_1_method_12_code 12 = .ok (.ireturn, 1) := by decide +kernel
theorem d_X_minutes_13 : decode prog_1_method_12_code 13 = .ok (.aload_n 0, 1) := by decide +kernel
theorem d_X_minutes_14 : decode prog_1_method_12_code 14 = .ok (.getfield 10, 3) := by decide +kernel
theorem d_X_minutes_17 : decode prog_1_method_12_code 17 = .ok (.getfield 92, 3) := by decide +kernel
theorem d_X_minutes_20 : decode prog_1_method_12_code 20 = .ok (.iload_n 1, 1) := by decide +kernel
theorem d_X_minutes_21 : decode prog_1_method_12_code 21 = .ok (.iadd, 1) := by decide +kernel
theorem d_X_minutes_22 : decode prog_1_method_12_code 22 = .ok (.sipush 999, 3) := by decide +kernel
theorem d_X_minutes_25 : decode prog_1_method_12_code 25 = .ok (.if_icmp .le 6, 3) := by decide +kernel
theorem d_X_minutes_28 : decode prog_1_method_12_code 28 = .ok (.bipush (-2), 2) := by decide +kernel
theorem d_X_minutes_30 : decode prog_1_method_12_code 30 = .ok (.ireturn, 1) := by decide +kernel
theorem d_X_minutes_31 : decode prog_1_method_12_code 31 = .ok (.aload_n 0, 1) := by decide +kernel
theorem d_X_minutes_32 : decode prog_1_method_12_code 32 = .ok (.getfield 10, 3) := by decide +kernel
theorem d_X_minutes_35 : decode prog_1_method_12_code 35 = .ok (.iload_n 1, 1) := by decide +kernel
theorem d_X_minutes_36 : decode prog_1_method_12_code 36 = .ok (.invokevirtual 135, 3) := by decide +kernel
theorem d_X_minutes_39 : decode prog_1_method_12_code 39 = .ok (.aload_n 0, 1) := by decide +kernel
theorem d_X_minutes_40 : decode prog_1_method_12_code 40 = .ok (.getfield 10, 3) := by decide +kernel
theorem d_X_minutes_43 : decode prog_1_method_12_code 43 = .ok (.getfield 92, 3) := by decide +kernel
theorem d_X_minutes_46 : decode prog_1_method_12_code 46 = .ok (.ireturn, 1) := by decide +kernel
theorem gc_X_minutes_135 : GoodIn yGW (wsV "WhoseGlass" 135 yR2 m_H_passMinutes ws_H_passMinutes) := y_gV g_438 g_279 g_280 g_2 g_281
set_option maxRecDepth 100000 in
def f_X_minutes (F : Nat) (u : Mm) (o : Nat) (a1 : Int32) : Option (Int32 × Mm) := (if a1 < (1 : Int32) then some ((-1 : Int32), u) else (if a1 ≤ (99 : Int32) then ob (jgr YX 4 0 (some o)) fun (r3 : Option Nat) => ob (jgi YX 2 5 u r3) fun (x4 : Int32) => (if (x4 + a1) ≤ (999 : Int32) then ob (jgr YX 4 0 (some o)) fun (r6 : Option Nat) => ob (jk YX 2 r6) fun t => yb (f_H_passMinutes F u t a1) fun v7 u8 => ob (jgr YX 4 0 (some o)) fun (r9 : Option Nat) => ob (jgi YX 2 5 u8 r9) fun (x10 : Int32) => some (x10, u8) else some ((-2 : Int32), u)) else some ((-1 : Int32), u)))
set_option maxHeartbeats 4000000 in
set_option maxRecDepth 100000 in
theorem c_X_minutes (l : Launch) (w : WP) (F : Nat) (u : Mm) (o : Nat) (a1 : Int32) (out : Int32 × Mm) (h : f_X_minutes F u o a1 = some out) : yMet l m_X_minutes ws_X_minutes ({ frames := 5, cells := 0, slots := 0, locals := 125 } : Room) YX w u [va_re w.1 (some o), .int a1] yfi out := by
  refine y_entry (own := "WhoseGlass") (lv := [(0, va_re w.1 (some o)), (1, .int a1)]) (by decide +kernel) rfl (by simp [lv_args, y_cat, y_catI, y_catJ]) (by simp [lg_sl, y_cat, y_catI, y_catJ]) ?_
  intro p e s m args below meth c C hr hlocks
  unfold f_X_minutes at h
  refine y_iload_n C (i := 1) 1 d_X_minutes_0 rfl rfl ?_
  refine y_iconst C (v := 1) d_X_minutes_1 (by decide) ?_
  refine y_ic_lt C 11 d_X_minutes_2 (by decide) h (fun k1 h => ?_) (fun k1 h => ?_)
  · refine y_iconst C (v := -1) d_X_minutes_11 (by decide) ?_
    exact y_iret C hr hlocks d_X_minutes_12 h
  · refine y_iload_n C (i := 1) 1 d_X_minutes_5 rfl rfl ?_
    refine y_bipush C (v := 99) d_X_minutes_6 (by decide) ?_
    refine y_ic_le C 13 d_X_minutes_8 (by decide) h (fun k2 h => ?_) (fun k2 h => ?_)
    · refine y_aload_n C (i := 0) 0 d_X_minutes_13 rfl rfl ?_
      refine y_gr C (q := (yR4, yT4, 5)) (ci := 4) (k := 0) rfl (by decide) rfl (by decide) g_202 d_X_minutes_14 h (fun r3 h => ?_)
      refine y_gi C (q := (yR2, yT2, 9)) (ci := 2) (k := 5) rfl (by decide) rfl g_142 d_X_minutes_17 h (fun x4 h => ?_)
      refine y_iload_n C (i := 1) 1 d_X_minutes_20 rfl rfl ?_
      refine y_iadd C d_X_minutes_21 ?_
      refine y_sipush C (v := 999) d_X_minutes_22 (by decide) ?_
      refine y_ic_le C 31 d_X_minutes_25 (by decide) h (fun k5 h => ?_) (fun k5 h => ?_)
      · refine y_aload_n C (i := 0) 0 d_X_minutes_31 rfl rfl ?_
        refine y_gr C (q := (yR4, yT4, 5)) (ci := 4) (k := 0) rfl (by decide) rfl (by decide) g_202 d_X_minutes_32 h (fun r6 h => ?_)
        refine y_iload_n C (i := 1) 1 d_X_minutes_35 rfl rfl ?_
        refine y_callV 1 C (q := (yR2, yT2, 9)) (ci := 2) (fun t out hh => c_H_passMinutes l w F u t a1 out hh) gc_X_minutes_135 rfl (by decide) hd_H_passMinutes ⟨Nat.le_of_ble_eq_true rfl, Nat.le_of_ble_eq_true rfl⟩ rfl rfl rfl rfl (by simp [y_cat, y_catI, y_catJ]) d_X_minutes_36 h (fun v7 u8 h => ?_)
        refine y_stk (stp0 := []) rfl ?_
        refine y_aload_n C (i := 0) 0 d_X_minutes_39 rfl rfl ?_
        refine y_gr C (q := (yR4, yT4, 5)) (ci := 4) (k := 0) rfl (by decide) rfl (by decide) g_202 d_X_minutes_40 h (fun r9 h => ?_)
        refine y_gi C (q := (yR2, yT2, 9)) (ci := 2) (k := 5) rfl (by decide) rfl g_142 d_X_minutes_43 h (fun x10 h => ?_)
        exact y_iret C hr hlocks d_X_minutes_46 h
      · refine y_bipush C (v := -2) d_X_minutes_28 (by decide) ?_
        exact y_iret C hr hlocks d_X_minutes_30 h
    · refine y_iconst C (v := -1) d_X_minutes_11 (by decide) ?_
      exact y_iret C hr hlocks d_X_minutes_12 h
/-! X_like -/
theorem d_X_like_0 : decode prog_1_method_13_code 0 = .ok (.aload_n 0, 1) := by decide +kernel
theorem d_X_like_1 : decode prog_1_method_13_code 1 = .ok (.getfield 10, 3) := by decide +kernel
theorem d_X_like_4 : decode prog_1_method_13_code 4 = .ok (.iload_n 1, 1) := by decide +kernel
theorem d_X_like_5 : decode prog_1_method_13_code 5 = .ok (.invokevirtual 61, 3) := by decide +kernel
theorem d_X_like_8 : decode prog_1_method_13_code 8 = .ok (.astore_n 3, 1) := by decide +kernel
theorem d_X_like_9 : decode prog_1_method_13_code 9 = .ok (.aload_n 0, 1) := by decide +kernel
theorem d_X_like_10 : decode prog_1_method_13_code 10 = .ok (.getfield 10, 3) := by decide +kernel
theorem d_X_like_13 : decode prog_1_method_13_code 13 = .ok (.iload_n 2, 1) := by decide +kernel
theorem d_X_like_14 : decode prog_1_method_13_code 14 = .ok (.invokevirtual 61, 3) := by decide +kernel
theorem d_X_like_17 : decode prog_1_method_13_code 17 = .ok (.astore 4, 2) := by decide +kernel
theorem d_X_like_19 : decode prog_1_method_13_code 19 = .ok (.aload_n 3, 1) := by decide +kernel
theorem d_X_like_20 : decode prog_1_method_13_code 20 = .ok (.ifnull 8, 3) := by decide +kernel
theorem d_X_like_23 : decode prog_1_method_13_code 23 = .ok (.aload 4, 2) := by decide +kernel
theorem d_X_like_25 : decode prog_1_method_13_code 25 = .ok (.ifnonnull 7, 3) := by decide +kernel
theorem d_X_like_28 : decode prog_1_method_13_code 28 = .ok (.iconst (-1), 1) := by decide +kernel
theorem d_X_like_29 : decode prog_1_method_13_code 29 = .ok (.goto 9, 3) := by decide +kernel
theorem d_X_like_32 : decode prog_1_method_13_code 32 = .ok (.aload_n 3, 1) := by decide +kernel
theorem d_X_like_33 : decode prog_1_method_13_code 33 = .ok (.aload 4, 2) := by decide +kernel
theorem d_X_like_35 : decode prog_1_method_13_code 35 = .ok (.invokevirtual 139, 3) := by decide +kernel
theorem d_X_like_38 : decode prog_1_method_13_code 38 = .ok (.ireturn, 1) := by decide +kernel
theorem gc_X_like_61 : GoodIn yGW (wsV "WhoseGlass" 61 yR2 m_H_glassAt ws_H_glassAt) := y_gV g_381 g_260 g_261 g_2 g_262
theorem gc_X_like_139 : GoodIn yGW (wsV "WhoseGlass" 139 yR0 m_G_likeTo ws_G_likeTo) := y_gV g_443 g_302 g_303 g_3 g_304
set_option maxRecDepth 100000 in
def f_X_like (F : Nat) (u : Mm) (o : Nat) (a1 : Int32) (a2 : Int32) : Option (Int32 × Mm) := ob (jgr YX 4 0 (some o)) fun (r1 : Option Nat) => ob (jk YX 2 r1) fun t => yb (f_H_glassAt F u t a1) fun r2 u3 => ob (jgr YX 4 0 (some o)) fun (r4 : Option Nat) => ob (jk YX 2 r4) fun t => yb (f_H_glassAt F u3 t a2) fun r5 u6 => (if r2 = none then some ((-1 : Int32), u6) else (if r5 = none then some ((-1 : Int32), u6) else ob (jk YX 0 r2) fun t => yb (f_G_likeTo F u6 t r5) fun x9 u10 => some (x9, u10)))
set_option maxHeartbeats 4000000 in
set_option maxRecDepth 100000 in
theorem c_X_like (l : Launch) (w : WP) (F : Nat) (u : Mm) (o : Nat) (a1 : Int32) (a2 : Int32) (out : Int32 × Mm) (h : f_X_like F u o a1 a2 = some out) : yMet l m_X_like ws_X_like ({ frames := 1, cells := 0, slots := 0, locals := 28 } : Room) YX w u [va_re w.1 (some o), .int a1, .int a2] yfi out := by
  refine y_entry (own := "WhoseGlass") (lv := [(0, va_re w.1 (some o)), (1, .int a1), (2, .int a2)]) (by decide +kernel) rfl (by simp [lv_args, y_cat, y_catI, y_catJ]) (by simp [lg_sl, y_cat, y_catI, y_catJ]) ?_
  intro p e s m args below meth c C hr hlocks
  unfold f_X_like at h
  refine y_aload_n C (i := 0) 0 d_X_like_0 rfl rfl ?_
  refine y_gr C (q := (yR4, yT4, 5)) (ci := 4) (k := 0) rfl (by decide) rfl (by decide) g_202 d_X_like_1 h (fun r1 h => ?_)
  refine y_iload_n C (i := 1) 1 d_X_like_4 rfl rfl ?_
  refine y_callV 1 C (q := (yR2, yT2, 9)) (ci := 2) (fun t out hh => c_H_glassAt l w F u t a1 out hh) gc_X_like_61 rfl (by decide) hd_H_glassAt ⟨Nat.le_of_ble_eq_true rfl, Nat.le_of_ble_eq_true rfl⟩ rfl rfl rfl rfl (by simp [y_cat, y_catI, y_catJ]) d_X_like_5 h (fun r2 u3 h => ?_)
  refine y_stk (stp0 := [va_re w.1 r2]) rfl ?_
  refine y_astore_n C (i := 3) (lvp := [(0, va_re w.1 (some o)), (1, .int a1), (2, .int a2)]) d_X_like_8 rfl (by decide) (by simp [List.filter, y_cat, y_catI, y_catJ]) ?_
  refine y_aload_n C (i := 0) 1 d_X_like_9 rfl rfl ?_
  refine y_gr C (q := (yR4, yT4, 5)) (ci := 4) (k := 0) rfl (by decide) rfl (by decide) g_202 d_X_like_10 h (fun r4 h => ?_)
  refine y_iload_n C (i := 2) 3 d_X_like_13 rfl rfl ?_
  refine y_callV 1 C (q := (yR2, yT2, 9)) (ci := 2) (fun t out hh => c_H_glassAt l w F u3 t a2 out hh) gc_X_like_61 rfl (by decide) hd_H_glassAt ⟨Nat.le_of_ble_eq_true rfl, Nat.le_of_ble_eq_true rfl⟩ rfl rfl rfl rfl (by simp [y_cat, y_catI, y_catJ]) d_X_like_14 h (fun r5 u6 h => ?_)
  refine y_stk (stp0 := [va_re w.1 r5]) rfl ?_
  refine y_astore C (i := 4) (lvp := [(3, va_re w.1 r2), (0, va_re w.1 (some o)), (1, .int a1), (2, .int a2)]) d_X_like_17 (by decide) (by simp [List.filter, y_cat, y_catI, y_catJ]) ?_
  refine y_aload_n C (i := 3) 1 d_X_like_19 rfl rfl ?_
  refine y_ifnull C 28 d_X_like_20 (by decide) h (fun k7 h => ?_) (fun k7 h => ?_)
  · refine y_iconst C (v := -1) d_X_like_28 (by decide) ?_
    refine y_goto C (tgt := 38) d_X_like_29 (by decide) ?_
    exact y_iret C hr hlocks d_X_like_38 h
  · refine y_aload C (i := 4) 0 d_X_like_23 rfl ?_
    refine y_ifnonnull C 32 d_X_like_25 (by decide) h (fun k8 h => ?_) (fun k8 h => ?_)
    · refine y_iconst C (v := -1) d_X_like_28 (by decide) ?_
      refine y_goto C (tgt := 38) d_X_like_29 (by decide) ?_
      exact y_iret C hr hlocks d_X_like_38 h
    · refine y_aload_n C (i := 3) 1 d_X_like_32 rfl rfl ?_
      refine y_aload C (i := 4) 0 d_X_like_33 rfl ?_
      refine y_callV 1 C (q := (yR0, yT0, 8)) (ci := 0) (fun t out hh => c_G_likeTo l w F u6 t r5 out hh) gc_X_like_139 rfl (by decide) hd_G_likeTo ⟨Nat.le_of_ble_eq_true rfl, Nat.le_of_ble_eq_true rfl⟩ rfl rfl rfl rfl (by simp [y_cat, y_catI, y_catJ]) d_X_like_35 h (fun x9 u10 h => ?_)
      refine y_stk (stp0 := [.int x9]) rfl ?_
      exact y_iret C hr hlocks d_X_like_38 h
/-! X_mine -/
theorem d_X_mine_0 : decode prog_1_method_14_code 0 = .ok (.aload_n 0, 1) := by decide +kernel
theorem d_X_mine_1 : decode prog_1_method_14_code 1 = .ok (.getfield 10, 3) := by decide +kernel
theorem d_X_mine_4 : decode prog_1_method_14_code 4 = .ok (.iload_n 1, 1) := by decide +kernel
theorem d_X_mine_5 : decode prog_1_method_14_code 5 = .ok (.invokevirtual 71, 3) := by decide +kernel
theorem d_X_mine_8 : decode prog_1_method_14_code 8 = .ok (.astore_n 2, 1) := by decide +kernel
theorem d_X_mine_9 : decode prog_1_method_14_code 9 = .ok (.aload_n 2, 1) := by decide +kernel
theorem d_X_mine_10 : decode prog_1_method_14_code 10 = .ok (.ifnonnull 7, 3) := by decide +kernel
theorem d_X_mine_13 : decode prog_1_method_14_code 13 = .ok (.iconst (-1), 1) := by decide +kernel
theorem d_X_mine_14 : decode prog_1_method_14_code 14 = .ok (.goto 11, 3) := by decide +kernel
theorem d_X_mine_17 : decode prog_1_method_14_code 17 = .ok (.aload_n 0, 1) := by decide +kernel
theorem d_X_mine_18 : decode prog_1_method_14_code 18 = .ok (.getfield 10, 3) := by decide +kernel
theorem d_X_mine_21 : decode prog_1_method_14_code 21 = .ok (.aload_n 2, 1) := by decide +kernel
theorem d_X_mine_22 : decode prog_1_method_14_code 22 = .ok (.invokevirtual 142, 3) := by decide +kernel
theorem d_X_mine_25 : decode prog_1_method_14_code 25 = .ok (.ireturn, 1) := by decide +kernel
theorem gc_X_mine_71 : GoodIn yGW (wsV "WhoseGlass" 71 yR2 m_H_guestAt ws_H_guestAt) := y_gV g_391 g_268 g_269 g_2 g_270
theorem gc_X_mine_142 : GoodIn yGW (wsV "WhoseGlass" 142 yR2 m_H_choiceOf ws_H_choiceOf) := y_gV g_448 g_298 g_299 g_2 g_300
set_option maxRecDepth 100000 in
def f_X_mine (F : Nat) (u : Mm) (o : Nat) (a1 : Int32) : Option (Int32 × Mm) := ob (jgr YX 4 0 (some o)) fun (r1 : Option Nat) => ob (jk YX 2 r1) fun t => yb (f_H_guestAt F u t a1) fun r2 u3 => (if r2 = none then some ((-1 : Int32), u3) else ob (jgr YX 4 0 (some o)) fun (r5 : Option Nat) => ob (jk YX 2 r5) fun t => yb (f_H_choiceOf F u3 t r2) fun x6 u7 => some (x6, u7))
set_option maxHeartbeats 4000000 in
set_option maxRecDepth 100000 in
theorem c_X_mine (l : Launch) (w : WP) (F : Nat) (u : Mm) (o : Nat) (a1 : Int32) (out : Int32 × Mm) (h : f_X_mine F u o a1 = some out) : yMet l m_X_mine ws_X_mine ({ frames := 2, cells := 0, slots := 0, locals := 56 } : Room) YX w u [va_re w.1 (some o), .int a1] yfi out := by
  refine y_entry (own := "WhoseGlass") (lv := [(0, va_re w.1 (some o)), (1, .int a1)]) (by decide +kernel) rfl (by simp [lv_args, y_cat, y_catI, y_catJ]) (by simp [lg_sl, y_cat, y_catI, y_catJ]) ?_
  intro p e s m args below meth c C hr hlocks
  unfold f_X_mine at h
  refine y_aload_n C (i := 0) 0 d_X_mine_0 rfl rfl ?_
  refine y_gr C (q := (yR4, yT4, 5)) (ci := 4) (k := 0) rfl (by decide) rfl (by decide) g_202 d_X_mine_1 h (fun r1 h => ?_)
  refine y_iload_n C (i := 1) 1 d_X_mine_4 rfl rfl ?_
  refine y_callV 1 C (q := (yR2, yT2, 9)) (ci := 2) (fun t out hh => c_H_guestAt l w F u t a1 out hh) gc_X_mine_71 rfl (by decide) hd_H_guestAt ⟨Nat.le_of_ble_eq_true rfl, Nat.le_of_ble_eq_true rfl⟩ rfl rfl rfl rfl (by simp [y_cat, y_catI, y_catJ]) d_X_mine_5 h (fun r2 u3 h => ?_)
  refine y_stk (stp0 := [va_re w.1 r2]) rfl ?_
  refine y_astore_n C (i := 2) (lvp := [(0, va_re w.1 (some o)), (1, .int a1)]) d_X_mine_8 rfl (by decide) (by simp [List.filter, y_cat, y_catI, y_catJ]) ?_
  refine y_aload_n C (i := 2) 0 d_X_mine_9 rfl rfl ?_
  refine y_ifnonnull C 17 d_X_mine_10 (by decide) h (fun k4 h => ?_) (fun k4 h => ?_)
  · refine y_iconst C (v := -1) d_X_mine_13 (by decide) ?_
    refine y_goto C (tgt := 25) d_X_mine_14 (by decide) ?_
    exact y_iret C hr hlocks d_X_mine_25 h
  · refine y_aload_n C (i := 0) 1 d_X_mine_17 rfl rfl ?_
    refine y_gr C (q := (yR4, yT4, 5)) (ci := 4) (k := 0) rfl (by decide) rfl (by decide) g_202 d_X_mine_18 h (fun r5 h => ?_)
    refine y_aload_n C (i := 2) 0 d_X_mine_21 rfl rfl ?_
    refine y_callV 1 C (q := (yR2, yT2, 9)) (ci := 2) (fun t out hh => c_H_choiceOf l w F u3 t r2 out hh) gc_X_mine_142 rfl (by decide) hd_H_choiceOf ⟨Nat.le_of_ble_eq_true rfl, Nat.le_of_ble_eq_true rfl⟩ rfl rfl rfl rfl (by simp [y_cat, y_catI, y_catJ]) d_X_mine_22 h (fun x6 u7 h => ?_)
    refine y_stk (stp0 := [.int x6]) rfl ?_
    exact y_iret C hr hlocks d_X_mine_25 h
/-! H_likeToAllAt -/
theorem d_H_likeToAllAt_0 : decode prog_4_method_13_code 0 = .ok (.iconst 0, 1) := by decide +kernel
theorem d_H_likeToAllAt_1 : decode prog_4_method_13_code 1 = .ok (.istore_n 3, 1) := by decide +kernel
theorem d_H_likeToAllAt_2 : decode prog_4_method_13_code 2 = .ok (.iconst 0, 1) := by decide +kernel
theorem d_H_likeToAllAt_3 : decode prog_4_method_13_code 3 = .ok (.istore 4, 2) := by decide +kernel
theorem d_H_likeToAllAt_5 : decode prog_4_method_13_code 5 = .ok (.iload 4, 2) := by decide +kernel
theorem d_H_likeToAllAt_7 : decode prog_4_method_13_code 7 = .ok (.aload_n 0, 1) := by decide +kernel
theorem d_H_likeToAllAt_8 : decode prog_4_method_13_code 8 = .ok (.getfield 34, 3) := by decide +kernel
theorem d_H_likeToAllAt_11 : decode prog_4_method_13_code 11 = .ok (.if_icmp .ge 40, 3) := by decide +kernel
theorem d_H_likeToAllAt_14 : decode prog_4_method_13_code 14 = .ok (.aload_n 0, 1) := by decide +kernel
theorem d_H_likeToAllAt_15 : decode prog_4_method_13_code 15 = .ok (.iload 4, 2) := by decide +kernel
theorem d_H_likeToAllAt_17 : decode prog_4_method_13_code 17 = .ok (.invokevirtual 49, 3) := by decide +kernel
theorem d_H_likeToAllAt_20 : decode prog_4_method_13_code 20 = .ok (.astore 5, 2) := by decide +kernel
theorem d_H_likeToAllAt_22 : decode prog_4_method_13_code 22 = .ok (.aload 5, 2) := by decide +kernel
theorem d_H_likeToAllAt_24 : decode prog_4_method_13_code 24 = .ok (.ifnull 21, 3) := by decide +kernel
theorem d_H_likeToAllAt_27 : decode prog_4_method_13_code 27 = .ok (.aload 5, 2) := by decide +kernel
theorem d_H_likeToAllAt_29 : decode prog_4_method_13_code 29 = .ok (.getfield 132, 3) := by decide +kernel
theorem d_H_likeToAllAt_32 : decode prog_4_method_13_code 32 = .ok (.iload_n 2, 1) := by decide +kernel
theorem d_H_likeToAllAt_33 : decode prog_4_method_13_code 33 = .ok (.if_icmp .ne 12, 3) := by decide +kernel
theorem d_H_likeToAllAt_36 : decode prog_4_method_13_code 36 = .ok (.iload_n 3, 1) := by decide +kernel
theorem d_H_likeToAllAt_37 : decode prog_4_method_13_code 37 = .ok (.aload_n 1, 1) := by decide +kernel
theorem d_H_likeToAllAt_38 : decode prog_4_method_13_code 38 = .ok (.aload 5, 2) := by decide +kernel
theorem d_H_likeToAllAt_40 : decode prog_4_method_13_code 40 = .ok (.invokevirtual 135, 3) := by decide +kernel
theorem d_H_likeToAllAt_43 : decode prog_4_method_13_code 43 = .ok (.iadd, 1) := by decide +kernel
theorem d_H_likeToAllAt_44 : decode prog_4_method_13_code 44 = .ok (.istore_n 3, 1) := by decide +kernel
theorem d_H_likeToAllAt_45 : decode prog_4_method_13_code 45 = .ok (.iinc 4 1, 3) := by decide +kernel
theorem d_H_likeToAllAt_48 : decode prog_4_method_13_code 48 = .ok (.goto (-43), 3) := by decide +kernel
theorem d_H_likeToAllAt_51 : decode prog_4_method_13_code 51 = .ok (.iload_n 3, 1) := by decide +kernel
theorem d_H_likeToAllAt_52 : decode prog_4_method_13_code 52 = .ok (.ireturn, 1) := by decide +kernel
theorem gc_H_likeToAllAt_49 : GoodIn yGW (wsV "WhoseGlass$House" 49 yR2 m_H_glassAt ws_H_glassAt) := y_gV g_259 g_260 g_261 g_2 g_262
theorem gc_H_likeToAllAt_135 : GoodIn yGW (wsV "WhoseGlass$House" 135 yR0 m_G_likeTo ws_G_likeTo) := y_gV g_301 g_302 g_303 g_3 g_304
set_option maxHeartbeats 4000000 in
set_option maxRecDepth 100000 in
def f_H_likeToAllAt_L5 (F : Nat) (a0 : Option Nat) (a1 : Option Nat) (a2 : Int32) (k : Mm → Int32 → Option (Int32 × Mm)) : Nat → Mm → Int32 → Int32 → Option (Int32 × Mm)
  | 0, _, _, _ => none
  | n + 1, u, a3, a4 => ob (jgi YX 2 2 u a0) fun (x1 : Int32) => (if x1 ≤ a4 then k u a3 else ob (jk YX 2 a0) fun t => yb (f_H_glassAt F u t a4) fun r3 u4 => ob ((if r3 = none then some (a3, u4) else ob (jgi YX 0 4 u4 r3) fun (x7 : Int32) => (if x7 = a2 then ob (jk YX 0 a1) fun t => yb (f_G_likeTo F u4 t r3) fun x9 u10 => ob (some (a3 + x9)) fun (x11 : Int32) => some (x11, u10) else some (a3, u4))) : Option (Int32 × Mm)) fun q5 => ob (some (a4 + (1 : Int32))) fun (x12 : Int32) => f_H_likeToAllAt_L5 F a0 a1 a2 k n q5.2 q5.1 x12)
set_option maxHeartbeats 4000000 in
set_option maxRecDepth 100000 in
theorem w_H_likeToAllAt_L5 {p : Program} {l : Launch} {e : Env} {s : State} {m : MethodId} {args : Array Value} {below : List Frame} {meth : Method} {c : Code} {w : WP} {Q : State → Prop} (F : Nat) (C : yX p e ({ frames := 1, cells := 0, slots := 0, locals := 28 } : Room) s m args c YX w 6 prog_4_method_13_code "WhoseGlass$House") (hr : meth.sig.returnType = (some .int)) (hlocks : meth.locks = false) (a0 : Option Nat) (a1 : Option Nat) (a2 : Int32) {out : Int32 × Mm} (k : Mm → Int32 → Option (Int32 × Mm)) (hk : ∀ (u : Mm) (a3 : Int32), k u a3 = some out → yG p l e ({ frames := 1, cells := 0, slots := 0, locals := 28 } : Room) s m args below meth c YX w 6 Q u 51 [(3, .int a3)] []) : ∀ (n : Nat) (u : Mm) (a3 : Int32) (a4 : Int32), f_H_likeToAllAt_L5 F a0 a1 a2 k n u a3 a4 = some out → yG p l e ({ frames := 1, cells := 0, slots := 0, locals := 28 } : Room) s m args below meth c YX w 6 Q u 5 [(0, va_re w.1 a0), (1, va_re w.1 a1), (2, .int a2), (3, .int a3), (4, .int a4)] [] := by
  intro n
  induction n with
  | zero => intro u a3 a4 h; rw [f_H_likeToAllAt_L5] at h; cases h
  | succ n ih =>
    intro u a3 a4 h
    rw [f_H_likeToAllAt_L5] at h
    refine y_iload C (i := 4) 4 d_H_likeToAllAt_5 rfl ?_
    refine y_aload_n C (i := 0) 0 d_H_likeToAllAt_7 rfl rfl ?_
    refine y_gi C (q := (yR2, yT2, 9)) (ci := 2) (k := 2) rfl (by decide) rfl g_133 d_H_likeToAllAt_8 h (fun x1 h => ?_)
    refine y_ic_ge C 51 d_H_likeToAllAt_11 (by decide) h (fun k2 h => ?_) (fun k2 h => ?_)
    · exact y_sub [3] rfl (hk _ _ h)
    · refine y_aload_n C (i := 0) 0 d_H_likeToAllAt_14 rfl rfl ?_
      refine y_iload C (i := 4) 4 d_H_likeToAllAt_15 rfl ?_
      refine y_callV 1 C (q := (yR2, yT2, 9)) (ci := 2) (fun t out hh => c_H_glassAt l w F u t a4 out hh) gc_H_likeToAllAt_49 rfl (by decide) hd_H_glassAt ⟨Nat.le_of_ble_eq_true rfl, Nat.le_of_ble_eq_true rfl⟩ rfl rfl rfl rfl (by simp [y_cat, y_catI, y_catJ]) d_H_likeToAllAt_17 h (fun r3 u4 h => ?_)
      refine y_stk (stp0 := [va_re w.1 r3]) rfl ?_
      refine y_astore C (i := 5) (lvp := [(0, va_re w.1 a0), (1, va_re w.1 a1), (2, .int a2), (3, .int a3), (4, .int a4)]) d_H_likeToAllAt_20 (by decide) (by simp [List.filter, y_cat, y_catI, y_catJ]) ?_
      refine y_aload C (i := 5) 0 d_H_likeToAllAt_22 rfl ?_
      obtain ⟨q5, hq5, h⟩ := ob_e h
      have hJq5 : yG p l e ({ frames := 1, cells := 0, slots := 0, locals := 28 } : Room) s m args below meth c YX w 6 Q q5.2 45 [(0, va_re w.1 a0), (1, va_re w.1 a1), (2, .int a2), (3, .int q5.1), (4, .int a4)] [] := by
        refine y_iinc C (j := 4) (v := 1) (lvp := [(0, va_re w.1 a0), (1, va_re w.1 a1), (2, .int a2), (3, .int q5.1)]) d_H_likeToAllAt_45 rfl (by decide) (by decide) rfl h (fun x12 h => ?_)
        refine y_goto C (tgt := 5) d_H_likeToAllAt_48 (by decide) ?_
        exact y_sub [1, 2, 3, 4, 0] rfl (ih _ _ _ h)
      refine y_ifnull C 45 d_H_likeToAllAt_24 (by decide) hq5 (fun k6 hq5 => ?_) (fun k6 hq5 => ?_)
      · cases hq5
        exact y_sub [1, 2, 3, 4, 5] rfl hJq5
      · refine y_aload C (i := 5) 0 d_H_likeToAllAt_27 rfl ?_
        refine y_gi C (q := (yR0, yT0, 8)) (ci := 0) (k := 4) rfl (by decide) rfl g_53 d_H_likeToAllAt_29 hq5 (fun x7 hq5 => ?_)
        refine y_iload_n C (i := 2) 3 d_H_likeToAllAt_32 rfl rfl ?_
        refine y_ic_ne C 45 d_H_likeToAllAt_33 (by decide) hq5 (fun k8 hq5 => ?_) (fun k8 hq5 => ?_)
        · refine y_iload_n C (i := 3) 4 d_H_likeToAllAt_36 rfl rfl ?_
          refine y_aload_n C (i := 1) 2 d_H_likeToAllAt_37 rfl rfl ?_
          refine y_aload C (i := 5) 0 d_H_likeToAllAt_38 rfl ?_
          refine y_callV 1 C (q := (yR0, yT0, 8)) (ci := 0) (fun t out hh => c_G_likeTo l w F u4 t r3 out hh) gc_H_likeToAllAt_135 rfl (by decide) hd_G_likeTo ⟨Nat.le_of_ble_eq_true rfl, Nat.le_of_ble_eq_true rfl⟩ rfl rfl rfl rfl (by simp [y_cat, y_catI, y_catJ]) d_H_likeToAllAt_40 hq5 (fun x9 u10 hq5 => ?_)
          refine y_stk (stp0 := [.int x9, .int a3]) rfl ?_
          refine y_iadd C d_H_likeToAllAt_43 ?_
          refine y_istore_nB C (i := 3) (lvp := [(5, va_re w.1 r3), (0, va_re w.1 a0), (1, va_re w.1 a1), (2, .int a2), (4, .int a4)]) d_H_likeToAllAt_44 rfl (by decide) rfl hq5 (fun x11 hq5 => ?_)
          cases hq5
          exact y_sub [2, 3, 4, 0, 5] rfl hJq5
        · cases hq5
          exact y_sub [1, 2, 3, 4, 5] rfl hJq5
set_option maxRecDepth 100000 in
def f_H_likeToAllAt (F : Nat) (u : Mm) (o : Nat) (a1 : Option Nat) (a2 : Int32) : Option (Int32 × Mm) := f_H_likeToAllAt_L5 F (some o) a1 a2 (fun (u13 : Mm) (x14 : Int32) => some (x14, u13)) F u (0 : Int32) (0 : Int32)
set_option maxHeartbeats 4000000 in
set_option maxRecDepth 100000 in
theorem c_H_likeToAllAt (l : Launch) (w : WP) (F : Nat) (u : Mm) (o : Nat) (a1 : Option Nat) (a2 : Int32) (out : Int32 × Mm) (h : f_H_likeToAllAt F u o a1 a2 = some out) : yMet l m_H_likeToAllAt ws_H_likeToAllAt ({ frames := 1, cells := 0, slots := 0, locals := 28 } : Room) YX w u [va_re w.1 (some o), va_re w.1 a1, .int a2] yfi out := by
  refine y_entry (own := "WhoseGlass$House") (lv := [(0, va_re w.1 (some o)), (1, va_re w.1 a1), (2, .int a2)]) (by decide +kernel) rfl (by simp [lv_args, y_cat, y_catI, y_catJ]) (by simp [lg_sl, y_cat, y_catI, y_catJ]) ?_
  intro p e s m args below meth c C hr hlocks
  unfold f_H_likeToAllAt at h
  refine y_iconst C (v := 0) d_H_likeToAllAt_0 (by decide) ?_
  refine y_istore_n C (i := 3) (lvp := [(0, va_re w.1 (some o)), (1, va_re w.1 a1), (2, .int a2)]) d_H_likeToAllAt_1 rfl (by decide) rfl ?_
  refine y_iconst C (v := 0) d_H_likeToAllAt_2 (by decide) ?_
  refine y_istore C (i := 4) (lvp := [(3, .int (0 : Int32)), (0, va_re w.1 (some o)), (1, va_re w.1 a1), (2, .int a2)]) d_H_likeToAllAt_3 (by decide) rfl ?_
  refine y_sub [2, 3, 4, 1, 0] rfl (w_H_likeToAllAt_L5 F C hr hlocks _ _ _ _ (fun u13 x14 h => ?_) _ _ _ _ h)
  refine y_iload_n C (i := 3) 0 d_H_likeToAllAt_51 rfl rfl ?_
  exact y_iret C hr hlocks d_H_likeToAllAt_52 h
/-! X_reduced -/
theorem d_X_reduced_0 : decode prog_1_method_45_code 0 = .ok (.iload_n 0, 1) := by decide +kernel
theorem d_X_reduced_1 : decode prog_1_method_45_code 1 = .ok (.iload_n 1, 1) := by decide +kernel
theorem d_X_reduced_2 : decode prog_1_method_45_code 2 = .ok (.invokestatic 268, 3) := by decide +kernel
theorem d_X_reduced_5 : decode prog_1_method_45_code 5 = .ok (.istore_n 2, 1) := by decide +kernel
theorem d_X_reduced_6 : decode prog_1_method_45_code 6 = .ok (.iload_n 2, 1) := by decide +kernel
theorem d_X_reduced_7 : decode prog_1_method_45_code 7 = .ok (.iconst 1, 1) := by decide +kernel
theorem d_X_reduced_8 : decode prog_1_method_45_code 8 = .ok (.if_icmp .le 25, 3) := by decide +kernel
theorem d_X_reduced_11 : decode prog_1_method_45_code 11 = .ok (.iload_n 0, 1) := by decide +kernel
theorem d_X_reduced_12 : decode prog_1_method_45_code 12 = .ok (.iload_n 2, 1) := by decide +kernel
theorem d_X_reduced_13 : decode prog_1_method_45_code 13 = .ok (.irem, 1) := by decide +kernel
theorem d_X_reduced_14 : decode prog_1_method_45_code 14 = .ok (.ifCond .ne 13, 3) := by decide +kernel
theorem d_X_reduced_17 : decode prog_1_method_45_code 17 = .ok (.iload_n 1, 1) := by decide +kernel
theorem d_X_reduced_18 : decode prog_1_method_45_code 18 = .ok (.iload_n 2, 1) := by decide +kernel
theorem d_X_reduced_19 : decode prog_1_method_45_code 19 = .ok (.irem, 1) := by decide +kernel
theorem d_X_reduced_20 : decode prog_1_method_45_code 20 = .ok (.ifCond .ne 7, 3) := by decide +kernel
theorem d_X_reduced_23 : decode prog_1_method_45_code 23 = .ok (.iload_n 0, 1) := by decide +kernel
theorem d_X_reduced_24 : decode prog_1_method_45_code 24 = .ok (.iload_n 2, 1) := by decide +kernel
theorem d_X_reduced_25 : decode prog_1_method_45_code 25 = .ok (.idiv, 1) := by decide +kernel
theorem d_X_reduced_26 : decode prog_1_method_45_code 26 = .ok (.ireturn, 1) := by decide +kernel
theorem d_X_reduced_27 : decode prog_1_method_45_code 27 = .ok (.iinc 2 (-1), 3) := by decide +kernel
theorem d_X_reduced_30 : decode prog_1_method_45_code 30 = .ok (.goto (-24), 3) := by decide +kernel
theorem d_X_reduced_33 : decode prog_1_method_45_code 33 = .ok (.iload_n 0, 1) := by decide +kernel
theorem d_X_reduced_34 : decode prog_1_method_45_code 34 = .ok (.ireturn, 1) := by decide +kernel
set_option maxHeartbeats 4000000 in
set_option maxRecDepth 100000 in
def f_X_reduced_L6 (F : Nat) (a0 : Int32) (a1 : Int32) (k : Mm → Option (Int32 × Mm)) : Nat → Mm → Int32 → Option (Int32 × Mm)
  | 0, _, _ => none
  | n + 1, u, a2 => (if a2 ≤ (1 : Int32) then k u  else ob (jrm a0 a2) fun (x3 : Int32) => (if x3 = 0 then ob (jrm a1 a2) fun (x5 : Int32) => (if x5 = 0 then ob (jdv a0 a2) fun (x7 : Int32) => some (x7, u) else ob (some (a2 + (-1 : Int32))) fun (x8 : Int32) => f_X_reduced_L6 F a0 a1 k n u x8) else ob (some (a2 + (-1 : Int32))) fun (x9 : Int32) => f_X_reduced_L6 F a0 a1 k n u x9))
set_option maxHeartbeats 4000000 in
set_option maxRecDepth 100000 in
theorem w_X_reduced_L6 {p : Program} {l : Launch} {e : Env} {s : State} {m : MethodId} {args : Array Value} {below : List Frame} {meth : Method} {c : Code} {w : WP} (F : Nat) (C : yX p e ({ frames := 1, cells := 0, slots := 0, locals := 21 } : Room) s m args c YX w 3 prog_1_method_45_code "WhoseGlass") (hr : meth.sig.returnType = (some .int)) (hlocks : meth.locks = false) (a0 : Int32) (a1 : Int32) {out : Int32 × Mm} (k : Mm → Option (Int32 × Mm)) (hk : ∀ (u : Mm), k u  = some out → yG p l e ({ frames := 1, cells := 0, slots := 0, locals := 21 } : Room) s m args below meth c YX w 3 (MQ below (yQ YX w yfi out) args s 0 0 (yA YX w)) u 33 [(0, .int a0)] []) : ∀ (n : Nat) (u : Mm) (a2 : Int32), f_X_reduced_L6 F a0 a1 k n u a2 = some out → yG p l e ({ frames := 1, cells := 0, slots := 0, locals := 21 } : Room) s m args below meth c YX w 3 (MQ below (yQ YX w yfi out) args s 0 0 (yA YX w)) u 6 [(0, .int a0), (1, .int a1), (2, .int a2)] [] := by
  intro n
  induction n with
  | zero => intro u a2 h; rw [f_X_reduced_L6] at h; cases h
  | succ n ih =>
    intro u a2 h
    rw [f_X_reduced_L6] at h
    refine y_iload_n C (i := 2) 2 d_X_reduced_6 rfl rfl ?_
    refine y_iconst C (v := 1) d_X_reduced_7 (by decide) ?_
    refine y_ic_le C 33 d_X_reduced_8 (by decide) h (fun k2 h => ?_) (fun k2 h => ?_)
    · exact y_sub [0] rfl (hk _ h)
    · refine y_iload_n C (i := 0) 0 d_X_reduced_11 rfl rfl ?_
      refine y_iload_n C (i := 2) 2 d_X_reduced_12 rfl rfl ?_
      refine y_irem C d_X_reduced_13 h (fun x3 h => ?_)
      refine y_if_ne C 27 d_X_reduced_14 (by decide) h (fun k4 h => ?_) (fun k4 h => ?_)
      · refine y_iload_n C (i := 1) 1 d_X_reduced_17 rfl rfl ?_
        refine y_iload_n C (i := 2) 2 d_X_reduced_18 rfl rfl ?_
        refine y_irem C d_X_reduced_19 h (fun x5 h => ?_)
        refine y_if_ne C 27 d_X_reduced_20 (by decide) h (fun k6 h => ?_) (fun k6 h => ?_)
        · refine y_iload_n C (i := 0) 0 d_X_reduced_23 rfl rfl ?_
          refine y_iload_n C (i := 2) 2 d_X_reduced_24 rfl rfl ?_
          refine y_idiv C d_X_reduced_25 h (fun x7 h => ?_)
          exact y_iret C hr hlocks d_X_reduced_26 h
        · refine y_iinc C (j := 2) (v := -1) (lvp := [(0, .int a0), (1, .int a1)]) d_X_reduced_27 rfl (by decide) (by decide) rfl h (fun x8 h => ?_)
          refine y_goto C (tgt := 6) d_X_reduced_30 (by decide) ?_
          exact y_sub [1, 2, 0] rfl (ih _ _ h)
      · refine y_iinc C (j := 2) (v := -1) (lvp := [(0, .int a0), (1, .int a1)]) d_X_reduced_27 rfl (by decide) (by decide) rfl h (fun x9 h => ?_)
        refine y_goto C (tgt := 6) d_X_reduced_30 (by decide) ?_
        exact y_sub [1, 2, 0] rfl (ih _ _ h)
set_option maxRecDepth 100000 in
def f_X_reduced (F : Nat) (u : Mm) (a0 : Int32) (a1 : Int32) : Option (Int32 × Mm) := ob (some (if a0 < a1 then a1 else a0)) fun (x1 : Int32) => f_X_reduced_L6 F a0 a1 (fun (u10 : Mm) => some (a0, u10)) F u x1
set_option maxHeartbeats 4000000 in
set_option maxRecDepth 100000 in
theorem c_X_reduced (l : Launch) (w : WP) (F : Nat) (u : Mm) (a0 : Int32) (a1 : Int32) (out : Int32 × Mm) (h : f_X_reduced F u a0 a1 = some out) : yMet l m_X_reduced ws_X_reduced ({ frames := 1, cells := 0, slots := 0, locals := 21 } : Room) YX w u [.int a0, .int a1] yfi out := by
  refine y_entry (own := "WhoseGlass") (lv := [(0, .int a0), (1, .int a1)]) (by decide +kernel) rfl (by simp [lv_args, y_cat, y_catI, y_catJ]) (by simp [lg_sl, y_cat, y_catI, y_catJ]) ?_
  intro p e s m args below meth c C hr hlocks
  unfold f_X_reduced at h
  refine y_iload_n C (i := 0) 0 d_X_reduced_0 rfl rfl ?_
  refine y_iload_n C (i := 1) 1 d_X_reduced_1 rfl rfl ?_
  refine y_mmax C g_460 g_461 g_8 g_462 (Nat.le_of_ble_eq_true rfl) (by simp [y_cat, y_catI, y_catJ]) d_X_reduced_2 ?_
  refine y_istore_nB C (i := 2) (lvp := [(0, .int a0), (1, .int a1)]) d_X_reduced_5 rfl (by decide) rfl h (fun x1 h => ?_)
  refine y_sub [1, 2, 0] rfl (w_X_reduced_L6 F C hr hlocks _ _ _ (fun u10 h => ?_) _ _ _ h)
  refine y_iload_n C (i := 0) 0 d_X_reduced_33 rfl rfl ?_
  exact y_iret C hr hlocks d_X_reduced_34 h
