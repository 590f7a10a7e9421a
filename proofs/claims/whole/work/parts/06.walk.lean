/-! X_shelfAt -/
theorem d_X_shelfAt_0 : decode prog_1_method_41_code 0 = .ok (.iload_n 1, 1) := by decide +kernel
theorem d_X_shelfAt_1 : decode prog_1_method_41_code 1 = .ok (.ifCond .lt 21, 3) := by decide +kernel
theorem d_X_shelfAt_4 : decode prog_1_method_41_code 4 = .ok (.iload_n 1, 1) := by decide +kernel
theorem d_X_shelfAt_5 : decode prog_1_method_41_code 5 = .ok (.aload_n 0, 1) := by decide +kernel
theorem d_X_shelfAt_6 : decode prog_1_method_41_code 6 = .ok (.getfield 24, 3) := by decide +kernel
theorem d_X_shelfAt_9 : decode prog_1_method_41_code 9 = .ok (.arraylength, 1) := by decide +kernel
theorem d_X_shelfAt_10 : decode prog_1_method_41_code 10 = .ok (.if_icmp .ge 12, 3) := by decide +kernel
theorem d_X_shelfAt_13 : decode prog_1_method_41_code 13 = .ok (.aload_n 0, 1) := by decide +kernel
theorem d_X_shelfAt_14 : decode prog_1_method_41_code 14 = .ok (.getfield 24, 3) := by decide +kernel
theorem d_X_shelfAt_17 : decode prog_1_method_41_code 17 = .ok (.iload_n 1, 1) := by decide +kernel
theorem d_X_shelfAt_18 : decode prog_1_method_41_code 18 = .ok (.aaload, 1) := by decide +kernel
theorem d_X_shelfAt_19 : decode prog_1_method_41_code 19 = .ok (.goto 4, 3) := by decide +kernel
theorem d_X_shelfAt_22 : decode prog_1_method_41_code 22 = .ok (.aconst_null, 1) := by decide +kernel
theorem d_X_shelfAt_23 : decode prog_1_method_41_code 23 = .ok (.areturn, 1) := by decide +kernel
set_option maxRecDepth 100000 in
def f_X_shelfAt (F : Nat) (u : Mm) (o : Nat) (a1 : Int32) : Option (Option Nat × Mm) := (if a1 < 0 then some (none, u) else ob (jgr YX 4 4 (some o)) fun (r2 : Option Nat) => ob (jln YX 10 r2) fun (x3 : Int32) => (if x3 ≤ a1 then some (none, u) else ob (jgr YX 4 4 (some o)) fun (r5 : Option Nat) => ob (jaa YX 10 r5 a1) fun (r6 : Option Nat) => some (r6, u)))
set_option maxHeartbeats 4000000 in
set_option maxRecDepth 100000 in
theorem c_X_shelfAt (l : Launch) (w : WP) (F : Nat) (u : Mm) (o : Nat) (a1 : Int32) (out : Option Nat × Mm) (h : f_X_shelfAt F u o a1 = some out) : yMet l m_X_shelfAt ws_X_shelfAt ({ frames := 0, cells := 0, slots := 0, locals := 0 } : Room) YX w u [va_re w.1 (some o), .int a1] (yfr w) out := by
  refine y_entry (own := "WhoseGlass") (lv := [(0, va_re w.1 (some o)), (1, .int a1)]) (by decide +kernel) rfl (by simp [lv_args, y_cat, y_catI, y_catJ]) (by simp [lg_sl, y_cat, y_catI, y_catJ]) ?_
  intro p e s m args below meth c C hr hlocks
  unfold f_X_shelfAt at h
  refine y_iload_n C (i := 1) 1 d_X_shelfAt_0 rfl rfl ?_
  refine y_if_lt C 22 d_X_shelfAt_1 (by decide) h (fun k1 h => ?_) (fun k1 h => ?_)
  · refine y_null C d_X_shelfAt_22 ?_
    exact y_aret C hr hlocks d_X_shelfAt_23 h
  · refine y_iload_n C (i := 1) 1 d_X_shelfAt_4 rfl rfl ?_
    refine y_aload_n C (i := 0) 0 d_X_shelfAt_5 rfl rfl ?_
    refine y_gr C (q := (yR4, yT4, 5)) (ci := 4) (k := 4) rfl (by decide) rfl (by decide) g_206 d_X_shelfAt_6 h (fun r2 h => ?_)
    refine y_lnr C (ki := 2) rfl d_X_shelfAt_9 h (fun x3 h => ?_)
    refine y_ic_ge C 22 d_X_shelfAt_10 (by decide) h (fun k4 h => ?_) (fun k4 h => ?_)
    · refine y_null C d_X_shelfAt_22 ?_
      exact y_aret C hr hlocks d_X_shelfAt_23 h
    · refine y_aload_n C (i := 0) 0 d_X_shelfAt_13 rfl rfl ?_
      refine y_gr C (q := (yR4, yT4, 5)) (ci := 4) (k := 4) rfl (by decide) rfl (by decide) g_206 d_X_shelfAt_14 h (fun r5 h => ?_)
      refine y_iload_n C (i := 1) 1 d_X_shelfAt_17 rfl rfl ?_
      refine y_aa C (ki := 2) rfl d_X_shelfAt_18 h (fun r6 h => ?_)
      refine y_goto C (tgt := 23) d_X_shelfAt_19 (by decide) ?_
      exact y_aret C hr hlocks d_X_shelfAt_23 h
/-! S_whyNot -/
theorem d_S_whyNot_0 : decode prog_6_method_2_code 0 = .ok (.aload_n 0, 1) := by decide +kernel
theorem d_S_whyNot_1 : decode prog_6_method_2_code 1 = .ok (.getfield 9, 3) := by decide +kernel
theorem d_S_whyNot_4 : decode prog_6_method_2_code 4 = .ok (.ifCond .ne 8, 3) := by decide +kernel
theorem d_S_whyNot_7 : decode prog_6_method_2_code 7 = .ok (.bipush (-11), 2) := by decide +kernel
theorem d_S_whyNot_9 : decode prog_6_method_2_code 9 = .ok (.goto 5, 3) := by decide +kernel
theorem d_S_whyNot_12 : decode prog_6_method_2_code 12 = .ok (.bipush (-12), 2) := by decide +kernel
theorem d_S_whyNot_14 : decode prog_6_method_2_code 14 = .ok (.ireturn, 1) := by decide +kernel
set_option maxRecDepth 100000 in
def f_S_whyNot (F : Nat) (u : Mm) (o : Nat) : Option (Int32 × Mm) := ob (jgi YX 3 0 u (some o)) fun (x1 : Int32) => (if x1 = 0 then some ((-11 : Int32), u) else some ((-12 : Int32), u))
set_option maxHeartbeats 4000000 in
set_option maxRecDepth 100000 in
theorem c_S_whyNot (l : Launch) (w : WP) (F : Nat) (u : Mm) (o : Nat) (out : Int32 × Mm) (h : f_S_whyNot F u o = some out) : yMet l m_S_whyNot ws_S_whyNot ({ frames := 0, cells := 0, slots := 0, locals := 0 } : Room) YX w u [va_re w.1 (some o)] yfi out := by
  refine y_entry (own := "WhoseGlass$Shelf") (lv := [(0, va_re w.1 (some o))]) (by decide +kernel) rfl (by simp [lv_args, y_cat, y_catI, y_catJ]) (by simp [lg_sl, y_cat, y_catI, y_catJ]) ?_
  intro p e s m args below meth c C hr hlocks
  unfold f_S_whyNot at h
  refine y_aload_n C (i := 0) 0 d_S_whyNot_0 rfl rfl ?_
  refine y_gi C (q := (yR3, yT3, 6)) (ci := 3) (k := 0) rfl (by decide) rfl g_175 d_S_whyNot_1 h (fun x1 h => ?_)
  refine y_if_ne C 12 d_S_whyNot_4 (by decide) h (fun k2 h => ?_) (fun k2 h => ?_)
  · refine y_bipush C (v := -11) d_S_whyNot_7 (by decide) ?_
    refine y_goto C (tgt := 14) d_S_whyNot_9 (by decide) ?_
    exact y_iret C hr hlocks d_S_whyNot_14 h
  · refine y_bipush C (v := -12) d_S_whyNot_12 (by decide) ?_
    exact y_iret C hr hlocks d_S_whyNot_14 h
/-! S_elementAt -/
theorem d_S_elementAt_0 : decode prog_6_method_4_code 0 = .ok (.iload_n 1, 1) := by decide +kernel
theorem d_S_elementAt_1 : decode prog_6_method_4_code 1 = .ok (.ifCond .lt 21, 3) := by decide +kernel
theorem d_S_elementAt_4 : decode prog_6_method_4_code 4 = .ok (.iload_n 1, 1) := by decide +kernel
theorem d_S_elementAt_5 : decode prog_6_method_4_code 5 = .ok (.aload_n 0, 1) := by decide +kernel
theorem d_S_elementAt_6 : decode prog_6_method_4_code 6 = .ok (.getfield 15, 3) := by decide +kernel
theorem d_S_elementAt_9 : decode prog_6_method_4_code 9 = .ok (.arraylength, 1) := by decide +kernel
theorem d_S_elementAt_10 : decode prog_6_method_4_code 10 = .ok (.if_icmp .ge 12, 3) := by decide +kernel
theorem d_S_elementAt_13 : decode prog_6_method_4_code 13 = .ok (.aload_n 0, 1) := by decide +kernel
theorem d_S_elementAt_14 : decode prog_6_method_4_code 14 = .ok (.getfield 15, 3) := by decide +kernel
theorem d_S_elementAt_17 : decode prog_6_method_4_code 17 = .ok (.iload_n 1, 1) := by decide +kernel
theorem d_S_elementAt_18 : decode prog_6_method_4_code 18 = .ok (.iaload, 1) := by decide +kernel
theorem d_S_elementAt_19 : decode prog_6_method_4_code 19 = .ok (.goto 4, 3) := by decide +kernel
theorem d_S_elementAt_22 : decode prog_6_method_4_code 22 = .ok (.iconst 0, 1) := by decide +kernel
theorem d_S_elementAt_23 : decode prog_6_method_4_code 23 = .ok (.ireturn, 1) := by decide +kernel
set_option maxRecDepth 100000 in
def f_S_elementAt (F : Nat) (u : Mm) (o : Nat) (a1 : Int32) : Option (Int32 × Mm) := (if a1 < 0 then some ((0 : Int32), u) else ob (jgr YX 3 5 (some o)) fun (r2 : Option Nat) => ob (jln YX 6 r2) fun (x3 : Int32) => (if x3 ≤ a1 then some ((0 : Int32), u) else ob (jgr YX 3 5 (some o)) fun (r5 : Option Nat) => ob (jal YX u r5 a1) fun (x6 : Int32) => some (x6, u)))
set_option maxHeartbeats 4000000 in
set_option maxRecDepth 100000 in
theorem c_S_elementAt (l : Launch) (w : WP) (F : Nat) (u : Mm) (o : Nat) (a1 : Int32) (out : Int32 × Mm) (h : f_S_elementAt F u o a1 = some out) : yMet l m_S_elementAt ws_S_elementAt ({ frames := 0, cells := 0, slots := 0, locals := 0 } : Room) YX w u [va_re w.1 (some o), .int a1] yfi out := by
  refine y_entry (own := "WhoseGlass$Shelf") (lv := [(0, va_re w.1 (some o)), (1, .int a1)]) (by decide +kernel) rfl (by simp [lv_args, y_cat, y_catI, y_catJ]) (by simp [lg_sl, y_cat, y_catI, y_catJ]) ?_
  intro p e s m args below meth c C hr hlocks
  unfold f_S_elementAt at h
  refine y_iload_n C (i := 1) 1 d_S_elementAt_0 rfl rfl ?_
  refine y_if_lt C 22 d_S_elementAt_1 (by decide) h (fun k1 h => ?_) (fun k1 h => ?_)
  · refine y_iconst C (v := 0) d_S_elementAt_22 (by decide) ?_
    exact y_iret C hr hlocks d_S_elementAt_23 h
  · refine y_iload_n C (i := 1) 1 d_S_elementAt_4 rfl rfl ?_
    refine y_aload_n C (i := 0) 0 d_S_elementAt_5 rfl rfl ?_
    refine y_gr C (q := (yR3, yT3, 6)) (ci := 3) (k := 5) rfl (by decide) rfl (by decide) g_186 d_S_elementAt_6 h (fun r2 h => ?_)
    refine y_lni C d_S_elementAt_9 h (fun x3 h => ?_)
    refine y_ic_ge C 22 d_S_elementAt_10 (by decide) h (fun k4 h => ?_) (fun k4 h => ?_)
    · refine y_iconst C (v := 0) d_S_elementAt_22 (by decide) ?_
      exact y_iret C hr hlocks d_S_elementAt_23 h
    · refine y_aload_n C (i := 0) 0 d_S_elementAt_13 rfl rfl ?_
      refine y_gr C (q := (yR3, yT3, 6)) (ci := 3) (k := 5) rfl (by decide) rfl (by decide) g_186 d_S_elementAt_14 h (fun r5 h => ?_)
      refine y_iload_n C (i := 1) 1 d_S_elementAt_17 rfl rfl ?_
      refine y_al C d_S_elementAt_18 h (fun x6 h => ?_)
      refine y_goto C (tgt := 23) d_S_elementAt_19 (by decide) ?_
      exact y_iret C hr hlocks d_S_elementAt_23 h
/-! T_mostDigits -/
theorem d_T_mostDigits_0 : decode prog_5_method_10_code 0 = .ok (.iload_n 0, 1) := by decide +kernel
theorem d_T_mostDigits_1 : decode prog_5_method_10_code 1 = .ok (.tableswitch 99 99 116 #[93, 99, 99, 99, 87, 91, 99, 99, 99, 99, 97, 99, 99, 89, 99, 99, 99, 95], 87) := by decide +kernel
theorem d_T_mostDigits_88 : decode prog_5_method_10_code 88 = .ok (.iconst 4, 1) := by decide +kernel
theorem d_T_mostDigits_89 : decode prog_5_method_10_code 89 = .ok (.ireturn, 1) := by decide +kernel
theorem d_T_mostDigits_90 : decode prog_5_method_10_code 90 = .ok (.iconst 5, 1) := by decide +kernel
theorem d_T_mostDigits_91 : decode prog_5_method_10_code 91 = .ok (.ireturn, 1) := by decide +kernel
theorem d_T_mostDigits_92 : decode prog_5_method_10_code 92 = .ok (.iconst 3, 1) := by decide +kernel
theorem d_T_mostDigits_93 : decode prog_5_method_10_code 93 = .ok (.ireturn, 1) := by decide +kernel
theorem d_T_mostDigits_94 : decode prog_5_method_10_code 94 = .ok (.iconst 1, 1) := by decide +kernel
theorem d_T_mostDigits_95 : decode prog_5_method_10_code 95 = .ok (.ireturn, 1) := by decide +kernel
theorem d_T_mostDigits_96 : decode prog_5_method_10_code 96 = .ok (.iconst 2, 1) := by decide +kernel
theorem d_T_mostDigits_97 : decode prog_5_method_10_code 97 = .ok (.ireturn, 1) := by decide +kernel
theorem d_T_mostDigits_98 : decode prog_5_method_10_code 98 = .ok (.iconst 0, 1) := by decide +kernel
theorem d_T_mostDigits_99 : decode prog_5_method_10_code 99 = .ok (.ireturn, 1) := by decide +kernel
theorem d_T_mostDigits_100 : decode prog_5_method_10_code 100 = .ok (.iconst (-1), 1) := by decide +kernel
theorem d_T_mostDigits_101 : decode prog_5_method_10_code 101 = .ok (.ireturn, 1) := by decide +kernel
set_option maxRecDepth 100000 in
def f_T_mostDigits (F : Nat) (u : Mm) (a0 : Int32) : Option (Int32 × Mm) := (if a0 = (99 : Int32) then some ((1 : Int32), u) else (if a0 = (103 : Int32) then some ((4 : Int32), u) else (if a0 = (104 : Int32) then some ((3 : Int32), u) else (if a0 = (109 : Int32) then some ((0 : Int32), u) else (if a0 = (112 : Int32) then some ((5 : Int32), u) else (if a0 = (116 : Int32) then some ((2 : Int32), u) else some ((-1 : Int32), u)))))))
set_option maxHeartbeats 4000000 in
set_option maxRecDepth 100000 in
theorem c_T_mostDigits (l : Launch) (w : WP) (F : Nat) (u : Mm) (a0 : Int32) (out : Int32 × Mm) (h : f_T_mostDigits F u a0 = some out) : yMet l m_T_mostDigits ws_T_mostDigits ({ frames := 0, cells := 0, slots := 0, locals := 0 } : Room) YX w u [.int a0] yfi out := by
  refine y_entry (own := "WhoseGlass$HouseText") (lv := [(0, .int a0)]) (by decide +kernel) rfl (by simp [lv_args, y_cat, y_catI, y_catJ]) (by simp [lg_sl, y_cat, y_catI, y_catJ]) ?_
  intro p e s m args below meth c C hr hlocks
  unfold f_T_mostDigits at h
  refine y_iload_n C (i := 0) 0 d_T_mostDigits_0 rfl rfl ?_
  refine y_sp h (fun k1 h => ?_) (fun k1 h => ?_)
  · refine y_tsw C (off := 93) 94 d_T_mostDigits_1 (Or.inr ⟨by rw [k1]; decide, by rw [k1]; decide, by rw [k1]; rfl⟩) (by decide) ?_
    refine y_iconst C (v := 1) d_T_mostDigits_94 (by decide) ?_
    exact y_iret C hr hlocks d_T_mostDigits_95 h
  refine y_sp h (fun k2 h => ?_) (fun k2 h => ?_)
  · refine y_tsw C (off := 87) 88 d_T_mostDigits_1 (Or.inr ⟨by rw [k2]; decide, by rw [k2]; decide, by rw [k2]; rfl⟩) (by decide) ?_
    refine y_iconst C (v := 4) d_T_mostDigits_88 (by decide) ?_
    exact y_iret C hr hlocks d_T_mostDigits_89 h
  refine y_sp h (fun k3 h => ?_) (fun k3 h => ?_)
  · refine y_tsw C (off := 91) 92 d_T_mostDigits_1 (Or.inr ⟨by rw [k3]; decide, by rw [k3]; decide, by rw [k3]; rfl⟩) (by decide) ?_
    refine y_iconst C (v := 3) d_T_mostDigits_92 (by decide) ?_
    exact y_iret C hr hlocks d_T_mostDigits_93 h
  refine y_sp h (fun k4 h => ?_) (fun k4 h => ?_)
  · refine y_tsw C (off := 97) 98 d_T_mostDigits_1 (Or.inr ⟨by rw [k4]; decide, by rw [k4]; decide, by rw [k4]; rfl⟩) (by decide) ?_
    refine y_iconst C (v := 0) d_T_mostDigits_98 (by decide) ?_
    exact y_iret C hr hlocks d_T_mostDigits_99 h
  refine y_sp h (fun k5 h => ?_) (fun k5 h => ?_)
  · refine y_tsw C (off := 89) 90 d_T_mostDigits_1 (Or.inr ⟨by rw [k5]; decide, by rw [k5]; decide, by rw [k5]; rfl⟩) (by decide) ?_
    refine y_iconst C (v := 5) d_T_mostDigits_90 (by decide) ?_
    exact y_iret C hr hlocks d_T_mostDigits_91 h
  refine y_sp h (fun k6 h => ?_) (fun k6 h => ?_)
  · refine y_tsw C (off := 95) 96 d_T_mostDigits_1 (Or.inr ⟨by rw [k6]; decide, by rw [k6]; decide, by rw [k6]; rfl⟩) (by decide) ?_
    refine y_iconst C (v := 2) d_T_mostDigits_96 (by decide) ?_
    exact y_iret C hr hlocks d_T_mostDigits_97 h
  refine y_tsw C (off := 99) 100 d_T_mostDigits_1 (y_tdef 17 (by decide) (fun i hi0 => ?_)) (by decide) ?_
  · rcases (by omega : i = 0 ∨ i = 1 ∨ i = 2 ∨ i = 3 ∨ i = 4 ∨ i = 5 ∨ i = 6 ∨ i = 7 ∨ i = 8 ∨ i = 9 ∨ i = 10 ∨ i = 11 ∨ i = 12 ∨ i = 13 ∨ i = 14 ∨ i = 15 ∨ i = 16 ∨ i = 17) with rfl | rfl | rfl | rfl | rfl | rfl | rfl | rfl | rfl | rfl | rfl | rfl | rfl | rfl | rfl | rfl | rfl | rfl
    · exact Or.inl (lv_neT (a := 99) k1 rfl)
    · exact Or.inr rfl
    · exact Or.inr rfl
    · exact Or.inr rfl
    · exact Or.inl (lv_neT (a := 103) k2 rfl)
    · exact Or.inl (lv_neT (a := 104) k3 rfl)
    · exact Or.inr rfl
    · exact Or.inr rfl
    · exact Or.inr rfl
    · exact Or.inr rfl
    · exact Or.inl (lv_neT (a := 109) k4 rfl)
    · exact Or.inr rfl
    · exact Or.inr rfl
    · exact Or.inl (lv_neT (a := 112) k5 rfl)
    · exact Or.inr rfl
    · exact Or.inr rfl
    · exact Or.inr rfl
    · exact Or.inl (lv_neT (a := 116) k6 rfl)
  refine y_iconst C (v := -1) d_T_mostDigits_100 (by decide) ?_
  exact y_iret C hr hlocks d_T_mostDigits_101 h
/-! T_isDigit -/
theorem d_T_isDigit_0 : decode prog_5_method_8_code 0 = .ok (.iload_n 1, 1) := by decide +kernel
theorem d_T_isDigit_1 : decode prog_5_method_8_code 1 = .ok (.aload_n 0, 1) := by decide +kernel
theorem d_T_isDigit_2 : decode prog_5_method_8_code 2 = .ok (.getfield 9, 3) := by decide +kernel
theorem d_T_isDigit_5 : decode prog_5_method_8_code 5 = .ok (.if_icmp .ge 27, 3) := by decide +kernel
theorem d_T_isDigit_8 : decode prog_5_method_8_code 8 = .ok (.aload_n 0, 1) := by decide +kernel
theorem d_T_isDigit_9 : decode prog_5_method_8_code 9 = .ok (.iload_n 1, 1) := by decide +kernel
theorem d_T_isDigit_10 : decode prog_5_method_8_code 10 = .ok (.invokevirtual 25, 3) := by decide +kernel
theorem d_T_isDigit_13 : decode prog_5_method_8_code 13 = .ok (.bipush 48, 2) := by decide +kernel
theorem d_T_isDigit_15 : decode prog_5_method_8_code 15 = .ok (.if_icmp .lt 17, 3) := by decide +kernel
theorem d_T_isDigit_18 : decode prog_5_method_8_code 18 = .ok (.aload_n 0, 1) := by decide +kernel
theorem d_T_isDigit_19 : decode prog_5_method_8_code 19 = .ok (.iload_n 1, 1) := by decide +kernel
theorem d_T_isDigit_20 : decode prog_5_method_8_code 20 = .ok (.invokevirtual 25, 3) := by decide +kernel
theorem d_T_isDigit_23 : decode prog_5_method_8_code 23 = .ok (.bipush 57, 2) := by decide +kernel
theorem d_T_isDigit_25 : decode prog_5_method_8_code 25 = .ok (.if_icmp .gt 7, 3) := by decide +kernel
theorem d_T_isDigit_28 : decode prog_5_method_8_code 28 = .ok (.iconst 1, 1) := by decide +kernel
theorem d_T_isDigit_29 : decode prog_5_method_8_code 29 = .ok (.goto 4, 3) := by decide +kernel
theorem d_T_isDigit_32 : decode prog_5_method_8_code 32 = .ok (.iconst 0, 1) := by decide +kernel
theorem d_T_isDigit_33 : decode prog_5_method_8_code 33 = .ok (.ireturn, 1) := by decide +kernel
theorem gc_T_isDigit_25 : GoodIn yGW (wsV "WhoseGlass$HouseText" 25 yR3 m_S_elementAt ws_S_elementAt) := y_gV g_236 g_237 g_238 g_5 g_239
set_option maxRecDepth 100000 in
def f_T_isDigit (F : Nat) (u : Mm) (a0 : Option Nat) (a1 : Int32) : Option (Int32 × Mm) := ob (jgi YX 3 4 u a0) fun (x1 : Int32) => (if x1 ≤ a1 then ob (jz (0 : Int32)) (fun v => some (v, u)) else ob (jk YX 3 a0) fun t => yb (f_S_elementAt F u t a1) fun x3 u4 => (if x3 < (48 : Int32) then ob (jz (0 : Int32)) (fun v => some (v, u4)) else ob (jk YX 3 a0) fun t => yb (f_S_elementAt F u4 t a1) fun x6 u7 => (if (57 : Int32) < x6 then ob (jz (0 : Int32)) (fun v => some (v, u7)) else ob (jz (1 : Int32)) (fun v => some (v, u7)))))
set_option maxHeartbeats 4000000 in
set_option maxRecDepth 100000 in
theorem c_T_isDigit (l : Launch) (w : WP) (F : Nat) (u : Mm) (a0 : Option Nat) (a1 : Int32) (out : Int32 × Mm) (h : f_T_isDigit F u a0 a1 = some out) : yMet l m_T_isDigit ws_T_isDigit ({ frames := 1, cells := 0, slots := 0, locals := 21 } : Room) YX w u [va_re w.1 a0, .int a1] yfi out := by
  refine y_entry (own := "WhoseGlass$HouseText") (lv := [(0, va_re w.1 a0), (1, .int a1)]) (by decide +kernel) rfl (by simp [lv_args, y_cat, y_catI, y_catJ]) (by simp [lg_sl, y_cat, y_catI, y_catJ]) ?_
  intro p e s m args below meth c C hr hlocks
  unfold f_T_isDigit at h
  refine y_iload_n C (i := 1) 1 d_T_isDigit_0 rfl rfl ?_
  refine y_aload_n C (i := 0) 0 d_T_isDigit_1 rfl rfl ?_
  refine y_gi C (q := (yR3, yT3, 6)) (ci := 3) (k := 4) rfl (by decide) rfl g_183 d_T_isDigit_2 h (fun x1 h => ?_)
  refine y_ic_ge C 32 d_T_isDigit_5 (by decide) h (fun k2 h => ?_) (fun k2 h => ?_)
  · refine y_iconst C (v := 0) d_T_isDigit_32 (by decide) ?_
    exact y_zret C hr hlocks d_T_isDigit_33 h
  · refine y_aload_n C (i := 0) 0 d_T_isDigit_8 rfl rfl ?_
    refine y_iload_n C (i := 1) 1 d_T_isDigit_9 rfl rfl ?_
    refine y_callV 1 C (q := (yR3, yT3, 6)) (ci := 3) (fun t out hh => c_S_elementAt l w F u t a1 out hh) gc_T_isDigit_25 rfl (by decide) hd_S_elementAt ⟨Nat.le_of_ble_eq_true rfl, Nat.le_of_ble_eq_true rfl⟩ rfl rfl rfl rfl (by simp [y_cat, y_catI, y_catJ]) d_T_isDigit_10 h (fun x3 u4 h => ?_)
    refine y_stk (stp0 := [.int x3]) rfl ?_
    refine y_bipush C (v := 48) d_T_isDigit_13 (by decide) ?_
    refine y_ic_lt C 32 d_T_isDigit_15 (by decide) h (fun k5 h => ?_) (fun k5 h => ?_)
    · refine y_iconst C (v := 0) d_T_isDigit_32 (by decide) ?_
      exact y_zret C hr hlocks d_T_isDigit_33 h
    · refine y_aload_n C (i := 0) 0 d_T_isDigit_18 rfl rfl ?_
      refine y_iload_n C (i := 1) 1 d_T_isDigit_19 rfl rfl ?_
      refine y_callV 1 C (q := (yR3, yT3, 6)) (ci := 3) (fun t out hh => c_S_elementAt l w F u4 t a1 out hh) gc_T_isDigit_25 rfl (by decide) hd_S_elementAt ⟨Nat.le_of_ble_eq_true rfl, Nat.le_of_ble_eq_true rfl⟩ rfl rfl rfl rfl (by simp [y_cat, y_catI, y_catJ]) d_T_isDigit_20 h (fun x6 u7 h => ?_)
      refine y_stk (stp0 := [.int x6]) rfl ?_
      refine y_bipush C (v := 57) d_T_isDigit_23 (by decide) ?_
      refine y_ic_gt C 32 d_T_isDigit_25 (by decide) h (fun k8 h => ?_) (fun k8 h => ?_)
      · refine y_iconst C (v := 0) d_T_isDigit_32 (by decide) ?_
        exact y_zret C hr hlocks d_T_isDigit_33 h
      · refine y_iconst C (v := 1) d_T_isDigit_28 (by decide) ?_
        refine y_goto C (tgt := 33) d_T_isDigit_29 (by decide) ?_
        exact y_zret C hr hlocks d_T_isDigit_33 h
/-! T_digitsEnd -/
theorem d_T_digitsEnd_0 : decode prog_5_method_6_code 0 = .ok (.iload_n 1, 1) := by decide +kernel
theorem d_T_digitsEnd_1 : decode prog_5_method_6_code 1 = .ok (.aload_n 0, 1) := by decide +kernel
theorem d_T_digitsEnd_2 : decode prog_5_method_6_code 2 = .ok (.getfield 9, 3) := by decide +kernel
theorem d_T_digitsEnd_5 : decode prog_5_method_6_code 5 = .ok (.if_icmp .ge 14, 3) := by decide +kernel
theorem d_T_digitsEnd_8 : decode prog_5_method_6_code 8 = .ok (.aload_n 0, 1) := by decide +kernel
theorem d_T_digitsEnd_9 : decode prog_5_method_6_code 9 = .ok (.iload_n 1, 1) := by decide +kernel
theorem d_T_digitsEnd_10 : decode prog_5_method_6_code 10 = .ok (.invokevirtual 25, 3) := by decide +kernel
theorem d_T_digitsEnd_13 : decode prog_5_method_6_code 13 = .ok (.invokestatic 49, 3) := by decide +kernel
theorem d_T_digitsEnd_16 : decode prog_5_method_6_code 16 = .ok (.goto 4, 3) := by decide +kernel
theorem d_T_digitsEnd_19 : decode prog_5_method_6_code 19 = .ok (.iconst (-1), 1) := by decide +kernel
theorem d_T_digitsEnd_20 : decode prog_5_method_6_code 20 = .ok (.istore_n 2, 1) := by decide +kernel
theorem d_T_digitsEnd_21 : decode prog_5_method_6_code 21 = .ok (.iload_n 2, 1) := by decide +kernel
theorem d_T_digitsEnd_22 : decode prog_5_method_6_code 22 = .ok (.iconst (-1), 1) := by decide +kernel
theorem d_T_digitsEnd_23 : decode prog_5_method_6_code 23 = .ok (.if_icmp .ne 5, 3) := by decide +kernel
theorem d_T_digitsEnd_26 : decode prog_5_method_6_code 26 = .ok (.iload_n 1, 1) := by decide +kernel
theorem d_T_digitsEnd_27 : decode prog_5_method_6_code 27 = .ok (.ireturn, 1) := by decide +kernel
theorem d_T_digitsEnd_28 : decode prog_5_method_6_code 28 = .ok (.iconst 0, 1) := by decide +kernel
theorem d_T_digitsEnd_29 : decode prog_5_method_6_code 29 = .ok (.istore_n 3, 1) := by decide +kernel
theorem d_T_digitsEnd_30 : decode prog_5_method_6_code 30 = .ok (.iload_n 3, 1) := by decide +kernel
theorem d_T_digitsEnd_31 : decode prog_5_method_6_code 31 = .ok (.iload_n 2, 1) := by decide +kernel
theorem d_T_digitsEnd_32 : decode prog_5_method_6_code 32 = .ok (.if_icmp .ge 21, 3) := by decide +kernel
theorem d_T_digitsEnd_35 : decode prog_5_method_6_code 35 = .ok (.aload_n 0, 1) := by decide +kernel
theorem d_T_digitsEnd_36 : decode prog_5_method_6_code 36 = .ok (.iload_n 1, 1) := by decide +kernel
theorem d_T_digitsEnd_37 : decode prog_5_method_6_code 37 = .ok (.iconst 1, 1) := by decide +kernel
theorem d_T_digitsEnd_38 : decode prog_5_method_6_code 38 = .ok (.iadd, 1) := by decide +kernel
theorem d_T_digitsEnd_39 : decode prog_5_method_6_code 39 = .ok (.iload_n 3, 1) := by decide +kernel
theorem d_T_digitsEnd_40 : decode prog_5_method_6_code 40 = .ok (.iadd, 1) := by decide +kernel
theorem d_T_digitsEnd_41 : decode prog_5_method_6_code 41 = .ok (.invokestatic 52, 3) := by decide +kernel
theorem d_T_digitsEnd_44 : decode prog_5_method_6_code 44 = .ok (.ifCond .eq 9, 3) := by decide +kernel
theorem d_T_digitsEnd_47 : decode prog_5_method_6_code 47 = .ok (.iinc 3 1, 3) := by decide +kernel
theorem d_T_digitsEnd_50 : decode prog_5_method_6_code 50 = .ok (.goto (-20), 3) := by decide +kernel
theorem d_T_digitsEnd_53 : decode prog_5_method_6_code 53 = .ok (.iload_n 1, 1) := by decide +kernel
theorem d_T_digitsEnd_54 : decode prog_5_method_6_code 54 = .ok (.iconst 1, 1) := by decide +kernel
theorem d_T_digitsEnd_55 : decode prog_5_method_6_code 55 = .ok (.iadd, 1) := by decide +kernel
theorem d_T_digitsEnd_56 : decode prog_5_method_6_code 56 = .ok (.iload_n 3, 1) := by decide +kernel
theorem d_T_digitsEnd_57 : decode prog_5_method_6_code 57 = .ok (.iadd, 1) := by decide +kernel
theorem d_T_digitsEnd_58 : decode prog_5_method_6_code 58 = .ok (.ireturn, 1) := by decide +kernel
theorem gc_T_digitsEnd_25 : GoodIn yGW (wsV "WhoseGlass$HouseText" 25 yR3 m_S_elementAt ws_S_elementAt) := y_gV g_236 g_237 g_238 g_5 g_239
set_option maxHeartbeats 4000000 in
set_option maxRecDepth 100000 in
def f_T_digitsEnd_L30 (F : Nat) (a0 : Option Nat) (a1 : Int32) (a2 : Int32) (k : Mm → Int32 → Option (Int32 × Mm)) : Nat → Mm → Int32 → Option (Int32 × Mm)
  | 0, _, _ => none
  | n + 1, u, a3 => (if a2 ≤ a3 then k u a3 else yb (f_T_isDigit F u a0 ((a1 + (1 : Int32)) + a3)) fun x10 u11 => (if x10 = 0 then k u11 a3 else ob (some (a3 + (1 : Int32))) fun (x13 : Int32) => f_T_digitsEnd_L30 F a0 a1 a2 k n u11 x13))
set_option maxHeartbeats 4000000 in
set_option maxRecDepth 100000 in
theorem w_T_digitsEnd_L30 {p : Program} {l : Launch} {e : Env} {s : State} {m : MethodId} {args : Array Value} {below : List Frame} {meth : Method} {c : Code} {w : WP} {Q : State → Prop} (F : Nat) (C : yX p e ({ frames := 2, cells := 0, slots := 0, locals := 42 } : Room) s m args c YX w 4 prog_5_method_6_code "WhoseGlass$HouseText") (hr : meth.sig.returnType = (some .int)) (hlocks : meth.locks = false) (a0 : Option Nat) (a1 : Int32) (a2 : Int32) {out : Int32 × Mm} (k : Mm → Int32 → Option (Int32 × Mm)) (hk : ∀ (u : Mm) (a3 : Int32), k u a3 = some out → yG p l e ({ frames := 2, cells := 0, slots := 0, locals := 42 } : Room) s m args below meth c YX w 4 Q u 53 [(1, .int a1), (3, .int a3)] []) : ∀ (n : Nat) (u : Mm) (a3 : Int32), f_T_digitsEnd_L30 F a0 a1 a2 k n u a3 = some out → yG p l e ({ frames := 2, cells := 0, slots := 0, locals := 42 } : Room) s m args below meth c YX w 4 Q u 30 [(0, va_re w.1 a0), (1, .int a1), (2, .int a2), (3, .int a3)] [] := by
  intro n
  induction n with
  | zero => intro u a3 h; rw [f_T_digitsEnd_L30] at h; cases h
  | succ n ih =>
    intro u a3 h
    rw [f_T_digitsEnd_L30] at h
    refine y_iload_n C (i := 3) 3 d_T_digitsEnd_30 rfl rfl ?_
    refine y_iload_n C (i := 2) 2 d_T_digitsEnd_31 rfl rfl ?_
    refine y_ic_ge C 53 d_T_digitsEnd_32 (by decide) h (fun k9 h => ?_) (fun k9 h => ?_)
    · exact y_sub [1, 3] rfl (hk _ _ h)
    · refine y_aload_n C (i := 0) 0 d_T_digitsEnd_35 rfl rfl ?_
      refine y_iload_n C (i := 1) 1 d_T_digitsEnd_36 rfl rfl ?_
      refine y_iconst C (v := 1) d_T_digitsEnd_37 (by decide) ?_
      refine y_iadd C d_T_digitsEnd_38 ?_
      refine y_iload_n C (i := 3) 3 d_T_digitsEnd_39 rfl rfl ?_
      refine y_iadd C d_T_digitsEnd_40 ?_
      refine y_callS 2 C (fun out hh => c_T_isDigit l w F u a0 ((a1 + (1 : Int32)) + a3) out hh) (y_gc g_245) g_243 g_7 g_244 hn_T_isDigit ⟨Nat.le_of_ble_eq_true rfl, Nat.le_of_ble_eq_true rfl⟩ rfl rfl rfl rfl (by simp [y_cat, y_catI, y_catJ]) d_T_digitsEnd_41 h (fun x10 u11 h => ?_)
      refine y_stk (stp0 := [.int x10]) rfl ?_
      refine y_if_eq C 53 d_T_digitsEnd_44 (by decide) h (fun k12 h => ?_) (fun k12 h => ?_)
      · exact y_sub [1, 3] rfl (hk _ _ h)
      · refine y_iinc C (j := 3) (v := 1) (lvp := [(0, va_re w.1 a0), (1, .int a1), (2, .int a2)]) d_T_digitsEnd_47 rfl (by decide) (by decide) rfl h (fun x13 h => ?_)
        refine y_goto C (tgt := 30) d_T_digitsEnd_50 (by decide) ?_
        exact y_sub [1, 2, 3, 0] rfl (ih _ _ h)
set_option maxRecDepth 100000 in
def f_T_digitsEnd (F : Nat) (u : Mm) (a0 : Option Nat) (a1 : Int32) : Option (Int32 × Mm) := ob (jgi YX 3 4 u a0) fun (x1 : Int32) => ob ((if x1 ≤ a1 then some ((-1 : Int32), u) else ob (jk YX 3 a0) fun t => yb (f_S_elementAt F u t a1) fun x4 u5 => yb (f_T_mostDigits F u5 x4) fun x6 u7 => some (x6, u7)) : Option (Int32 × Mm)) fun q2 => (if q2.1 = (-1 : Int32) then some (a1, q2.2) else f_T_digitsEnd_L30 F a0 a1 q2.1 (fun (u14 : Mm) (x15 : Int32) => some (((a1 + (1 : Int32)) + x15), u14)) F q2.2 (0 : Int32))
set_option maxHeartbeats 4000000 in
set_option maxRecDepth 100000 in
theorem c_T_digitsEnd (l : Launch) (w : WP) (F : Nat) (u : Mm) (a0 : Option Nat) (a1 : Int32) (out : Int32 × Mm) (h : f_T_digitsEnd F u a0 a1 = some out) : yMet l m_T_digitsEnd ws_T_digitsEnd ({ frames := 2, cells := 0, slots := 0, locals := 42 } : Room) YX w u [va_re w.1 a0, .int a1] yfi out := by
  refine y_entry (own := "WhoseGlass$HouseText") (lv := [(0, va_re w.1 a0), (1, .int a1)]) (by decide +kernel) rfl (by simp [lv_args, y_cat, y_catI, y_catJ]) (by simp [lg_sl, y_cat, y_catI, y_catJ]) ?_
  intro p e s m args below meth c C hr hlocks
  unfold f_T_digitsEnd at h
  refine y_iload_n C (i := 1) 1 d_T_digitsEnd_0 rfl rfl ?_
  refine y_aload_n C (i := 0) 0 d_T_digitsEnd_1 rfl rfl ?_
  refine y_gi C (q := (yR3, yT3, 6)) (ci := 3) (k := 4) rfl (by decide) rfl g_183 d_T_digitsEnd_2 h (fun x1 h => ?_)
  obtain ⟨q2, hq2, h⟩ := ob_e h
  have hJq2 : yG p l e ({ frames := 2, cells := 0, slots := 0, locals := 42 } : Room) s m args below meth c YX w 4 (MQ below (yQ YX w yfi out) args s 0 0 (yA YX w)) q2.2 20 [(0, va_re w.1 a0), (1, .int a1)] [.int q2.1] := by
    refine y_istore_n C (i := 2) (lvp := [(0, va_re w.1 a0), (1, .int a1)]) d_T_digitsEnd_20 rfl (by decide) rfl ?_
    refine y_iload_n C (i := 2) 0 d_T_digitsEnd_21 rfl rfl ?_
    refine y_iconst C (v := -1) d_T_digitsEnd_22 (by decide) ?_
    refine y_ic_ne C 28 d_T_digitsEnd_23 (by decide) h (fun k8 h => ?_) (fun k8 h => ?_)
    · refine y_iload_n C (i := 1) 2 d_T_digitsEnd_26 rfl rfl ?_
      exact y_iret C hr hlocks d_T_digitsEnd_27 h
    · refine y_iconst C (v := 0) d_T_digitsEnd_28 (by decide) ?_
      refine y_istore_n C (i := 3) (lvp := [(2, .int q2.1), (0, va_re w.1 a0), (1, .int a1)]) d_T_digitsEnd_29 rfl (by decide) rfl ?_
      refine y_sub [2, 3, 1, 0] rfl (w_T_digitsEnd_L30 F C hr hlocks _ _ _ _ (fun u14 x15 h => ?_) _ _ _ h)
      refine y_iload_n C (i := 1) 0 d_T_digitsEnd_53 rfl rfl ?_
      refine y_iconst C (v := 1) d_T_digitsEnd_54 (by decide) ?_
      refine y_iadd C d_T_digitsEnd_55 ?_
      refine y_iload_n C (i := 3) 1 d_T_digitsEnd_56 rfl rfl ?_
      refine y_iadd C d_T_digitsEnd_57 ?_
      exact y_iret C hr hlocks d_T_digitsEnd_58 h
  refine y_ic_ge C 19 d_T_digitsEnd_5 (by decide) hq2 (fun k3 hq2 => ?_) (fun k3 hq2 => ?_)
  · refine y_iconst C (v := -1) d_T_digitsEnd_19 (by decide) ?_
    cases hq2
    exact y_sub [0, 1] rfl hJq2
  · refine y_aload_n C (i := 0) 0 d_T_digitsEnd_8 rfl rfl ?_
    refine y_iload_n C (i := 1) 1 d_T_digitsEnd_9 rfl rfl ?_
    refine y_callV 1 C (q := (yR3, yT3, 6)) (ci := 3) (fun t out hh => c_S_elementAt l w F u t a1 out hh) gc_T_digitsEnd_25 rfl (by decide) hd_S_elementAt ⟨Nat.le_of_ble_eq_true rfl, Nat.le_of_ble_eq_true rfl⟩ rfl rfl rfl rfl (by simp [y_cat, y_catI, y_catJ]) d_T_digitsEnd_10 hq2 (fun x4 u5 hq2 => ?_)
    refine y_stk (stp0 := [.int x4]) rfl ?_
    refine y_callS 1 C (fun out hh => c_T_mostDigits l w F u5 x4 out hh) (y_gc g_242) g_240 g_7 g_241 hn_T_mostDigits ⟨Nat.le_of_ble_eq_true rfl, Nat.le_of_ble_eq_true rfl⟩ rfl rfl rfl rfl (by simp [y_cat, y_catI, y_catJ]) d_T_digitsEnd_13 hq2 (fun x6 u7 hq2 => ?_)
    refine y_stk (stp0 := [.int x6]) rfl ?_
    refine y_goto C (tgt := 20) d_T_digitsEnd_16 (by decide) ?_
    cases hq2
    exact y_sub [0, 1] rfl hJq2
/-! T_leastDigits -/
theorem d_T_leastDigits_0 : decode prog_5_method_9_code 0 = .ok (.iload_n 0, 1) := by decide +kernel
theorem d_T_leastDigits_1 : decode prog_5_method_9_code 1 = .ok (.bipush 116, 2) := by decide +kernel
theorem d_T_leastDigits_3 : decode prog_5_method_9_code 3 = .ok (.if_icmp .ne 7, 3) := by decide +kernel
theorem d_T_leastDigits_6 : decode prog_5_method_9_code 6 = .ok (.iconst 1, 1) := by decide +kernel
theorem d_T_leastDigits_7 : decode prog_5_method_9_code 7 = .ok (.goto 7, 3) := by decide +kernel
theorem d_T_leastDigits_10 : decode prog_5_method_9_code 10 = .ok (.iload_n 0, 1) := by decide +kernel
theorem d_T_leastDigits_11 : decode prog_5_method_9_code 11 = .ok (.invokestatic 49, 3) := by decide +kernel
theorem d_T_leastDigits_14 : decode prog_5_method_9_code 14 = .ok (.ireturn, 1) := by decide +kernel
set_option maxRecDepth 100000 in
def f_T_leastDigits (F : Nat) (u : Mm) (a0 : Int32) : Option (Int32 × Mm) := (if a0 = (116 : Int32) then some ((1 : Int32), u) else yb (f_T_mostDigits F u a0) fun x2 u3 => some (x2, u3))
set_option maxHeartbeats 4000000 in
set_option maxRecDepth 100000 in
theorem c_T_leastDigits (l : Launch) (w : WP) (F : Nat) (u : Mm) (a0 : Int32) (out : Int32 × Mm) (h : f_T_leastDigits F u a0 = some out) : yMet l m_T_leastDigits ws_T_leastDigits ({ frames := 1, cells := 0, slots := 0, locals := 20 } : Room) YX w u [.int a0] yfi out := by
  refine y_entry (own := "WhoseGlass$HouseText") (lv := [(0, .int a0)]) (by decide +kernel) rfl (by simp [lv_args, y_cat, y_catI, y_catJ]) (by simp [lg_sl, y_cat, y_catI, y_catJ]) ?_
  intro p e s m args below meth c C hr hlocks
  unfold f_T_leastDigits at h
  refine y_iload_n C (i := 0) 0 d_T_leastDigits_0 rfl rfl ?_
  refine y_bipush C (v := 116) d_T_leastDigits_1 (by decide) ?_
  refine y_ic_ne C 10 d_T_leastDigits_3 (by decide) h (fun k1 h => ?_) (fun k1 h => ?_)
  · refine y_iconst C (v := 1) d_T_leastDigits_6 (by decide) ?_
    refine y_goto C (tgt := 14) d_T_leastDigits_7 (by decide) ?_
    exact y_iret C hr hlocks d_T_leastDigits_14 h
  · refine y_iload_n C (i := 0) 0 d_T_leastDigits_10 rfl rfl ?_
    refine y_callS 1 C (fun out hh => c_T_mostDigits l w F u a0 out hh) (y_gc g_242) g_240 g_7 g_241 hn_T_mostDigits ⟨Nat.le_of_ble_eq_true rfl, Nat.le_of_ble_eq_true rfl⟩ rfl rfl rfl rfl (by simp [y_cat, y_catI, y_catJ]) d_T_leastDigits_11 h (fun x2 u3 h => ?_)
    refine y_stk (stp0 := [.int x2]) rfl ?_
    exact y_iret C hr hlocks d_T_leastDigits_14 h
/-! T_isAt -/
theorem d_T_isAt_0 : decode prog_5_method_7_code 0 = .ok (.iload_n 1, 1) := by decide +kernel
theorem d_T_isAt_1 : decode prog_5_method_7_code 1 = .ok (.aload_n 0, 1) := by decide +kernel
theorem d_T_isAt_2 : decode prog_5_method_7_code 2 = .ok (.getfield 9, 3) := by decide +kernel
theorem d_T_isAt_5 : decode prog_5_method_7_code 5 = .ok (.if_icmp .ge 16, 3) := by decide +kernel
theorem d_T_isAt_8 : decode prog_5_method_7_code 8 = .ok (.aload_n 0, 1) := by decide +kernel
theorem d_T_isAt_9 : decode prog_5_method_7_code 9 = .ok (.iload_n 1, 1) := by decide +kernel
theorem d_T_isAt_10 : decode prog_5_method_7_code 10 = .ok (.invokevirtual 25, 3) := by decide +kernel
theorem d_T_isAt_13 : decode prog_5_method_7_code 13 = .ok (.iload_n 2, 1) := by decide +kernel
theorem d_T_isAt_14 : decode prog_5_method_7_code 14 = .ok (.if_icmp .ne 7, 3) := by decide +kernel
theorem d_T_isAt_17 : decode prog_5_method_7_code 17 = .ok (.iconst 1, 1) := by decide +kernel
theorem d_T_isAt_18 : decode prog_5_method_7_code 18 = .ok (.goto 4, 3) := by decide +kernel
theorem d_T_isAt_21 : decode prog_5_method_7_code 21 = .ok (.iconst 0, 1) := by decide +kernel
theorem d_T_isAt_22 : decode prog_5_method_7_code 22 = .ok (.ireturn, 1) := by decide +kernel
theorem gc_T_isAt_25 : GoodIn yGW (wsV "WhoseGlass$HouseText" 25 yR3 m_S_elementAt ws_S_elementAt) := y_gV g_236 g_237 g_238 g_5 g_239
set_option maxRecDepth 100000 in
def f_T_isAt (F : Nat) (u : Mm) (a0 : Option Nat) (a1 : Int32) (a2 : Int32) : Option (Int32 × Mm) := ob (jgi YX 3 4 u a0) fun (x1 : Int32) => (if x1 ≤ a1 then ob (jz (0 : Int32)) (fun v => some (v, u)) else ob (jk YX 3 a0) fun t => yb (f_S_elementAt F u t a1) fun x3 u4 => (if x3 = a2 then ob (jz (1 : Int32)) (fun v => some (v, u4)) else ob (jz (0 : Int32)) (fun v => some (v, u4))))
set_option maxHeartbeats 4000000 in
set_option maxRecDepth 100000 in
theorem c_T_isAt (l : Launch) (w : WP) (F : Nat) (u : Mm) (a0 : Option Nat) (a1 : Int32) (a2 : Int32) (out : Int32 × Mm) (h : f_T_isAt F u a0 a1 a2 = some out) : yMet l m_T_isAt ws_T_isAt ({ frames := 1, cells := 0, slots := 0, locals := 21 } : Room) YX w u [va_re w.1 a0, .int a1, .int a2] yfi out := by
  refine y_entry (own := "WhoseGlass$HouseText") (lv := [(0, va_re w.1 a0), (1, .int a1), (2, .int a2)]) (by decide +kernel) rfl (by simp [lv_args, y_cat, y_catI, y_catJ]) (by simp [lg_sl, y_cat, y_catI, y_catJ]) ?_
  intro p e s m args below meth c C hr hlocks
  unfold f_T_isAt at h
  refine y_iload_n C (i := 1) 1 d_T_isAt_0 rfl rfl ?_
  refine y_aload_n C (i := 0) 0 d_T_isAt_1 rfl rfl ?_
  refine y_gi C (q := (yR3, yT3, 6)) (ci := 3) (k := 4) rfl (by decide) rfl g_183 d_T_isAt_2 h (fun x1 h => ?_)
  refine y_ic_ge C 21 d_T_isAt_5 (by decide) h (fun k2 h => ?_) (fun k2 h => ?_)
  · refine y_iconst C (v := 0) d_T_isAt_21 (by decide) ?_
    exact y_zret C hr hlocks d_T_isAt_22 h
  · refine y_aload_n C (i := 0) 0 d_T_isAt_8 rfl rfl ?_
    refine y_iload_n C (i := 1) 1 d_T_isAt_9 rfl rfl ?_
    refine y_callV 1 C (q := (yR3, yT3, 6)) (ci := 3) (fun t out hh => c_S_elementAt l w F u t a1 out hh) gc_T_isAt_25 rfl (by decide) hd_S_elementAt ⟨Nat.le_of_ble_eq_true rfl, Nat.le_of_ble_eq_true rfl⟩ rfl rfl rfl rfl (by simp [y_cat, y_catI, y_catJ]) d_T_isAt_10 h (fun x3 u4 h => ?_)
    refine y_stk (stp0 := [.int x3]) rfl ?_
    refine y_iload_n C (i := 2) 2 d_T_isAt_13 rfl rfl ?_
    refine y_ic_ne C 21 d_T_isAt_14 (by decide) h (fun k5 h => ?_) (fun k5 h => ?_)
    · refine y_iconst C (v := 1) d_T_isAt_17 (by decide) ?_
      refine y_goto C (tgt := 22) d_T_isAt_18 (by decide) ?_
      exact y_zret C hr hlocks d_T_isAt_22 h
    · refine y_iconst C (v := 0) d_T_isAt_21 (by decide) ?_
      exact y_zret C hr hlocks d_T_isAt_22 h
/-! T_isWhole -/
theorem d_T_isWhole_0 : decode prog_5_method_3_code 0 = .ok (.iload_n 2, 1) := by decide +kernel
theorem d_T_isWhole_1 : decode prog_5_method_3_code 1 = .ok (.iload_n 1, 1) := by decide +kernel
theorem d_T_isWhole_2 : decode prog_5_method_3_code 2 = .ok (.if_icmp .le 33, 3) := by decide +kernel
theorem d_T_isWhole_5 : decode prog_5_method_3_code 5 = .ok (.iload_n 2, 1) := by decide +kernel
theorem d_T_isWhole_6 : decode prog_5_method_3_code 6 = .ok (.iload_n 1, 1) := by decide +kernel
theorem d_T_isWhole_7 : decode prog_5_method_3_code 7 = .ok (.isub, 1) := by decide +kernel
theorem d_T_isWhole_8 : decode prog_5_method_3_code 8 = .ok (.iconst 1, 1) := by decide +kernel
theorem d_T_isWhole_9 : decode prog_5_method_3_code 9 = .ok (.isub, 1) := by decide +kernel
theorem d_T_isWhole_10 : decode prog_5_method_3_code 10 = .ok (.aload_n 0, 1) := by decide +kernel
theorem d_T_isWhole_11 : decode prog_5_method_3_code 11 = .ok (.iload_n 1, 1) := by decide +kernel
theorem d_T_isWhole_12 : decode prog_5_method_3_code 12 = .ok (.invokevirtual 25, 3) := by decide +kernel
theorem d_T_isWhole_15 : decode prog_5_method_3_code 15 = .ok (.invokestatic 29, 3) := by decide +kernel
theorem d_T_isWhole_18 : decode prog_5_method_3_code 18 = .ok (.if_icmp .lt 17, 3) := by decide +kernel
theorem d_T_isWhole_21 : decode prog_5_method_3_code 21 = .ok (.aload_n 0, 1) := by decide +kernel
theorem d_T_isWhole_22 : decode prog_5_method_3_code 22 = .ok (.iload_n 2, 1) := by decide +kernel
theorem d_T_isWhole_23 : decode prog_5_method_3_code 23 = .ok (.bipush 59, 2) := by decide +kernel
theorem d_T_isWhole_25 : decode prog_5_method_3_code 25 = .ok (.invokestatic 32, 3) := by decide +kernel
theorem d_T_isWhole_28 : decode prog_5_method_3_code 28 = .ok (.ifCond .eq 7, 3) := by decide +kernel
theorem d_T_isWhole_31 : decode prog_5_method_3_code 31 = .ok (.iconst 1, 1) := by decide +kernel
theorem d_T_isWhole_32 : decode prog_5_method_3_code 32 = .ok (.goto 4, 3) := by decide +kernel
theorem d_T_isWhole_35 : decode prog_5_method_3_code 35 = .ok (.iconst 0, 1) := by decide +kernel
theorem d_T_isWhole_36 : decode prog_5_method_3_code 36 = .ok (.ireturn, 1) := by decide +kernel
theorem gc_T_isWhole_25 : GoodIn yGW (wsV "WhoseGlass$HouseText" 25 yR3 m_S_elementAt ws_S_elementAt) := y_gV g_236 g_237 g_238 g_5 g_239
set_option maxRecDepth 100000 in
def f_T_isWhole (F : Nat) (u : Mm) (a0 : Option Nat) (a1 : Int32) (a2 : Int32) : Option (Int32 × Mm) := (if a2 ≤ a1 then ob (jz (0 : Int32)) (fun v => some (v, u)) else ob (jk YX 3 a0) fun t => yb (f_S_elementAt F u t a1) fun x2 u3 => yb (f_T_leastDigits F u3 x2) fun x4 u5 => (if ((a2 - a1) - (1 : Int32)) < x4 then ob (jz (0 : Int32)) (fun v => some (v, u5)) else yb (f_T_isAt F u5 a0 a2 (59 : Int32)) fun x7 u8 => (if x7 = 0 then ob (jz (0 : Int32)) (fun v => some (v, u8)) else ob (jz (1 : Int32)) (fun v => some (v, u8)))))
set_option maxHeartbeats 4000000 in
set_option maxRecDepth 100000 in
theorem c_T_isWhole (l : Launch) (w : WP) (F : Nat) (u : Mm) (a0 : Option Nat) (a1 : Int32) (a2 : Int32) (out : Int32 × Mm) (h : f_T_isWhole F u a0 a1 a2 = some out) : yMet l m_T_isWhole ws_T_isWhole ({ frames := 2, cells := 0, slots := 0, locals := 43 } : Room) YX w u [va_re w.1 a0, .int a1, .int a2] yfi out := by
  refine y_entry (own := "WhoseGlass$HouseText") (lv := [(0, va_re w.1 a0), (1, .int a1), (2, .int a2)]) (by decide +kernel) rfl (by simp [lv_args, y_cat, y_catI, y_catJ]) (by simp [lg_sl, y_cat, y_catI, y_catJ]) ?_
  intro p e s m args below meth c C hr hlocks
  unfold f_T_isWhole at h
  refine y_iload_n C (i := 2) 2 d_T_isWhole_0 rfl rfl ?_
  refine y_iload_n C (i := 1) 1 d_T_isWhole_1 rfl rfl ?_
  refine y_ic_le C 35 d_T_isWhole_2 (by decide) h (fun k1 h => ?_) (fun k1 h => ?_)
  · refine y_iconst C (v := 0) d_T_isWhole_35 (by decide) ?_
    exact y_zret C hr hlocks d_T_isWhole_36 h
  · refine y_iload_n C (i := 2) 2 d_T_isWhole_5 rfl rfl ?_
    refine y_iload_n C (i := 1) 1 d_T_isWhole_6 rfl rfl ?_
    refine y_isub C d_T_isWhole_7 ?_
    refine y_iconst C (v := 1) d_T_isWhole_8 (by decide) ?_
    refine y_isub C d_T_isWhole_9 ?_
    refine y_aload_n C (i := 0) 0 d_T_isWhole_10 rfl rfl ?_
    refine y_iload_n C (i := 1) 1 d_T_isWhole_11 rfl rfl ?_
    refine y_callV 1 C (q := (yR3, yT3, 6)) (ci := 3) (fun t out hh => c_S_elementAt l w F u t a1 out hh) gc_T_isWhole_25 rfl (by decide) hd_S_elementAt ⟨Nat.le_of_ble_eq_true rfl, Nat.le_of_ble_eq_true rfl⟩ rfl rfl rfl rfl (by simp [y_cat, y_catI, y_catJ]) d_T_isWhole_12 h (fun x2 u3 h => ?_)
    refine y_stk (stp0 := [.int x2, .int ((a2 - a1) - (1 : Int32))]) rfl ?_
    refine y_callS 1 C (fun out hh => c_T_leastDigits l w F u3 x2 out hh) (y_gc g_251) g_249 g_7 g_250 hn_T_leastDigits ⟨Nat.le_of_ble_eq_true rfl, Nat.le_of_ble_eq_true rfl⟩ rfl rfl rfl rfl (by simp [y_cat, y_catI, y_catJ]) d_T_isWhole_15 h (fun x4 u5 h => ?_)
    refine y_stk (stp0 := [.int x4, .int ((a2 - a1) - (1 : Int32))]) rfl ?_
    refine y_ic_lt C 35 d_T_isWhole_18 (by decide) h (fun k6 h => ?_) (fun k6 h => ?_)
    · refine y_iconst C (v := 0) d_T_isWhole_35 (by decide) ?_
      exact y_zret C hr hlocks d_T_isWhole_36 h
    · refine y_aload_n C (i := 0) 0 d_T_isWhole_21 rfl rfl ?_
      refine y_iload_n C (i := 2) 2 d_T_isWhole_22 rfl rfl ?_
      refine y_bipush C (v := 59) d_T_isWhole_23 (by decide) ?_
      refine y_callS 3 C (fun out hh => c_T_isAt l w F u5 a0 a2 (59 : Int32) out hh) (y_gc g_254) g_252 g_7 g_253 hn_T_isAt ⟨Nat.le_of_ble_eq_true rfl, Nat.le_of_ble_eq_true rfl⟩ rfl rfl rfl rfl (by simp [y_cat, y_catI, y_catJ]) d_T_isWhole_25 h (fun x7 u8 h => ?_)
      refine y_stk (stp0 := [.int x7]) rfl ?_
      refine y_if_eq C 35 d_T_isWhole_28 (by decide) h (fun k9 h => ?_) (fun k9 h => ?_)
      · refine y_iconst C (v := 0) d_T_isWhole_35 (by decide) ?_
        exact y_zret C hr hlocks d_T_isWhole_36 h
      · refine y_iconst C (v := 1) d_T_isWhole_31 (by decide) ?_
        refine y_goto C (tgt := 36) d_T_isWhole_32 (by decide) ?_
        exact y_zret C hr hlocks d_T_isWhole_36 h
/-! T_breakIn -/
theorem d_T_breakIn_0 : decode prog_5_method_2_code 0 = .ok (.iconst 0, 1) := by decide +kernel
theorem d_T_breakIn_1 : decode prog_5_method_2_code 1 = .ok (.istore_n 1, 1) := by decide +kernel
theorem d_T_breakIn_2 : decode prog_5_method_2_code 2 = .ok (.iconst 0, 1) := by decide +kernel
theorem d_T_breakIn_3 : decode prog_5_method_2_code 3 = .ok (.istore_n 2, 1) := by decide +kernel
theorem d_T_breakIn_4 : decode prog_5_method_2_code 4 = .ok (.iload_n 2, 1) := by decide +kernel
theorem d_T_breakIn_5 : decode prog_5_method_2_code 5 = .ok (.aload_n 0, 1) := by decide +kernel
theorem d_T_breakIn_6 : decode prog_5_method_2_code 6 = .ok (.getfield 9, 3) := by decide +kernel
theorem d_T_breakIn_9 : decode prog_5_method_2_code 9 = .ok (.if_icmp .gt 41, 3) := by decide +kernel
theorem d_T_breakIn_12 : decode prog_5_method_2_code 12 = .ok (.aload_n 0, 1) := by decide +kernel
theorem d_T_breakIn_13 : decode prog_5_method_2_code 13 = .ok (.iload_n 1, 1) := by decide +kernel
theorem d_T_breakIn_14 : decode prog_5_method_2_code 14 = .ok (.invokestatic 15, 3) := by decide +kernel
theorem d_T_breakIn_17 : decode prog_5_method_2_code 17 = .ok (.istore_n 3, 1) := by decide +kernel
theorem d_T_breakIn_18 : decode prog_5_method_2_code 18 = .ok (.aload_n 0, 1) := by decide +kernel
theorem d_T_breakIn_19 : decode prog_5_method_2_code 19 = .ok (.iload_n 1, 1) := by decide +kernel
theorem d_T_breakIn_20 : decode prog_5_method_2_code 20 = .ok (.iload_n 3, 1) := by decide +kernel
theorem d_T_breakIn_21 : decode prog_5_method_2_code 21 = .ok (.invokestatic 21, 3) := by decide +kernel
theorem d_T_breakIn_24 : decode prog_5_method_2_code 24 = .ok (.ifCond .ne 5, 3) := by decide +kernel
theorem d_T_breakIn_27 : decode prog_5_method_2_code 27 = .ok (.iload_n 3, 1) := by decide +kernel
theorem d_T_breakIn_28 : decode prog_5_method_2_code 28 = .ok (.ireturn, 1) := by decide +kernel
theorem d_T_breakIn_29 : decode prog_5_method_2_code 29 = .ok (.iload_n 3, 1) := by decide +kernel
theorem d_T_breakIn_30 : decode prog_5_method_2_code 30 = .ok (.iconst 1, 1) := by decide +kernel
theorem d_T_breakIn_31 : decode prog_5_method_2_code 31 = .ok (.iadd, 1) := by decide +kernel
theorem d_T_breakIn_32 : decode prog_5_method_2_code 32 = .ok (.istore_n 1, 1) := by decide +kernel
theorem d_T_breakIn_33 : decode prog_5_method_2_code 33 = .ok (.iload_n 1, 1) := by decide +kernel
theorem d_T_breakIn_34 : decode prog_5_method_2_code 34 = .ok (.aload_n 0, 1) := by decide +kernel
theorem d_T_breakIn_35 : decode prog_5_method_2_code 35 = .ok (.getfield 9, 3) := by decide +kernel
theorem d_T_breakIn_38 : decode prog_5_method_2_code 38 = .ok (.if_icmp .lt 6, 3) := by decide +kernel
theorem d_T_breakIn_41 : decode prog_5_method_2_code 41 = .ok (.bipush (-4), 2) := by decide +kernel
theorem d_T_breakIn_43 : decode prog_5_method_2_code 43 = .ok (.ireturn, 1) := by decide +kernel
theorem d_T_breakIn_44 : decode prog_5_method_2_code 44 = .ok (.iinc 2 1, 3) := by decide +kernel
theorem d_T_breakIn_47 : decode prog_5_method_2_code 47 = .ok (.goto (-43), 3) := by decide +kernel
theorem d_T_breakIn_50 : decode prog_5_method_2_code 50 = .ok (.bipush (-4), 2) := by decide +kernel
theorem d_T_breakIn_52 : decode prog_5_method_2_code 52 = .ok (.ireturn, 1) := by decide +kernel
set_option maxHeartbeats 4000000 in
set_option maxRecDepth 100000 in
def f_T_breakIn_L4 (F : Nat) (a0 : Option Nat) (k : Mm → Option (Int32 × Mm)) : Nat → Mm → Int32 → Int32 → Option (Int32 × Mm)
  | 0, _, _, _ => none
  | n + 1, u, a1, a2 => ob (jgi YX 3 4 u a0) fun (x1 : Int32) => (if x1 < a2 then k u  else yb (f_T_digitsEnd F u a0 a1) fun x3 u4 => yb (f_T_isWhole F u4 a0 a1 x3) fun x5 u6 => (if x5 = 0 then some (x3, u6) else ob (some (x3 + (1 : Int32))) fun (x8 : Int32) => ob (jgi YX 3 4 u6 a0) fun (x9 : Int32) => (if x8 < x9 then ob (some (a2 + (1 : Int32))) fun (x11 : Int32) => f_T_breakIn_L4 F a0 k n u6 x8 x11 else some ((-4 : Int32), u6))))
set_option maxHeartbeats 4000000 in
set_option maxRecDepth 100000 in
theorem w_T_breakIn_L4 {p : Program} {l : Launch} {e : Env} {s : State} {m : MethodId} {args : Array Value} {below : List Frame} {meth : Method} {c : Code} {w : WP} (F : Nat) (C : yX p e ({ frames := 3, cells := 0, slots := 0, locals := 65 } : Room) s m args c YX w 4 prog_5_method_2_code "WhoseGlass$HouseText") (hr : meth.sig.returnType = (some .int)) (hlocks : meth.locks = false) (a0 : Option Nat) {out : Int32 × Mm} (k : Mm → Option (Int32 × Mm)) (hk : ∀ (u : Mm), k u  = some out → yG p l e ({ frames := 3, cells := 0, slots := 0, locals := 65 } : Room) s m args below meth c YX w 4 (MQ below (yQ YX w yfi out) args s 0 0 (yA YX w)) u 50 [] []) : ∀ (n : Nat) (u : Mm) (a1 : Int32) (a2 : Int32), f_T_breakIn_L4 F a0 k n u a1 a2 = some out → yG p l e ({ frames := 3, cells := 0, slots := 0, locals := 65 } : Room) s m args below meth c YX w 4 (MQ below (yQ YX w yfi out) args s 0 0 (yA YX w)) u 4 [(0, va_re w.1 a0), (1, .int a1), (2, .int a2)] [] := by
  intro n
  induction n with
  | zero => intro u a1 a2 h; rw [f_T_breakIn_L4] at h; cases h
  | succ n ih =>
    intro u a1 a2 h
    rw [f_T_breakIn_L4] at h
    refine y_iload_n C (i := 2) 2 d_T_breakIn_4 rfl rfl ?_
    refine y_aload_n C (i := 0) 0 d_T_breakIn_5 rfl rfl ?_
    refine y_gi C (q := (yR3, yT3, 6)) (ci := 3) (k := 4) rfl (by decide) rfl g_183 d_T_breakIn_6 h (fun x1 h => ?_)
    refine y_ic_gt C 50 d_T_breakIn_9 (by decide) h (fun k2 h => ?_) (fun k2 h => ?_)
    · exact y_sub [] rfl (hk _ h)
    · refine y_aload_n C (i := 0) 0 d_T_breakIn_12 rfl rfl ?_
      refine y_iload_n C (i := 1) 1 d_T_breakIn_13 rfl rfl ?_
      refine y_callS 2 C (fun out hh => c_T_digitsEnd l w F u a0 a1 out hh) (y_gc g_235) g_233 g_7 g_234 hn_T_digitsEnd ⟨Nat.le_of_ble_eq_true rfl, Nat.le_of_ble_eq_true rfl⟩ rfl rfl rfl rfl (by simp [y_cat, y_catI, y_catJ]) d_T_breakIn_14 h (fun x3 u4 h => ?_)
      refine y_stk (stp0 := [.int x3]) rfl ?_
      refine y_istore_n C (i := 3) (lvp := [(0, va_re w.1 a0), (1, .int a1), (2, .int a2)]) d_T_breakIn_17 rfl (by decide) rfl ?_
      refine y_aload_n C (i := 0) 1 d_T_breakIn_18 rfl rfl ?_
      refine y_iload_n C (i := 1) 2 d_T_breakIn_19 rfl rfl ?_
      refine y_iload_n C (i := 3) 0 d_T_breakIn_20 rfl rfl ?_
      refine y_callS 3 C (fun out hh => c_T_isWhole l w F u4 a0 a1 x3 out hh) (y_gc g_248) g_246 g_7 g_247 hn_T_isWhole ⟨Nat.le_of_ble_eq_true rfl, Nat.le_of_ble_eq_true rfl⟩ rfl rfl rfl rfl (by simp [y_cat, y_catI, y_catJ]) d_T_breakIn_21 h (fun x5 u6 h => ?_)
      refine y_stk (stp0 := [.int x5]) rfl ?_
      refine y_if_ne C 29 d_T_breakIn_24 (by decide) h (fun k7 h => ?_) (fun k7 h => ?_)
      · refine y_iload_n C (i := 3) 0 d_T_breakIn_27 rfl rfl ?_
        exact y_iret C hr hlocks d_T_breakIn_28 h
      · refine y_iload_n C (i := 3) 0 d_T_breakIn_29 rfl rfl ?_
        refine y_iconst C (v := 1) d_T_breakIn_30 (by decide) ?_
        refine y_iadd C d_T_breakIn_31 ?_
        refine y_istore_nB C (i := 1) (lvp := [(3, .int x3), (0, va_re w.1 a0), (2, .int a2)]) d_T_breakIn_32 rfl (by decide) (by simp [List.filter, y_cat, y_catI, y_catJ]) h (fun x8 h => ?_)
        refine y_iload_n C (i := 1) 0 d_T_breakIn_33 rfl rfl ?_
        refine y_aload_n C (i := 0) 2 d_T_breakIn_34 rfl rfl ?_
        refine y_gi C (q := (yR3, yT3, 6)) (ci := 3) (k := 4) rfl (by decide) rfl g_183 d_T_breakIn_35 h (fun x9 h => ?_)
        refine y_ic_lt C 44 d_T_breakIn_38 (by decide) h (fun k10 h => ?_) (fun k10 h => ?_)
        · refine y_iinc C (j := 3) (v := 1) (lvp := [(1, .int x8), (3, .int x3), (0, va_re w.1 a0)]) d_T_breakIn_44 rfl (by decide) (by decide) rfl h (fun x11 h => ?_)
          refine y_goto C (tgt := 4) d_T_breakIn_47 (by decide) ?_
          exact y_sub [3, 1, 0] rfl (ih _ _ _ h)
        · refine y_bipush C (v := -4) d_T_breakIn_41 (by decide) ?_
          exact y_iret C hr hlocks d_T_breakIn_43 h
set_option maxRecDepth 100000 in
def f_T_breakIn (F : Nat) (u : Mm) (a0 : Option Nat) : Option (Int32 × Mm) := f_T_breakIn_L4 F a0 (fun (u12 : Mm) => some ((-4 : Int32), u12)) F u (0 : Int32) (0 : Int32)
set_option maxHeartbeats 4000000 in
set_option maxRecDepth 100000 in
theorem c_T_breakIn (l : Launch) (w : WP) (F : Nat) (u : Mm) (a0 : Option Nat) (out : Int32 × Mm) (h : f_T_breakIn F u a0 = some out) : yMet l m_T_breakIn ws_T_breakIn ({ frames := 3, cells := 0, slots := 0, locals := 65 } : Room) YX w u [va_re w.1 a0] yfi out := by
  refine y_entry (own := "WhoseGlass$HouseText") (lv := [(0, va_re w.1 a0)]) (by decide +kernel) rfl (by simp [lv_args, y_cat, y_catI, y_catJ]) (by simp [lg_sl, y_cat, y_catI, y_catJ]) ?_
  intro p e s m args below meth c C hr hlocks
  unfold f_T_breakIn at h
  refine y_iconst C (v := 0) d_T_breakIn_0 (by decide) ?_
  refine y_istore_n C (i := 1) (lvp := [(0, va_re w.1 a0)]) d_T_breakIn_1 rfl (by decide) (by simp [List.filter, y_cat, y_catI, y_catJ]) ?_
  refine y_iconst C (v := 0) d_T_breakIn_2 (by decide) ?_
  refine y_istore_n C (i := 2) (lvp := [(1, .int (0 : Int32)), (0, va_re w.1 a0)]) d_T_breakIn_3 rfl (by decide) rfl ?_
  refine y_sub [2, 1, 0] rfl (w_T_breakIn_L4 F C hr hlocks _ _ (fun u12 h => ?_) _ _ _ _ h)
  refine y_bipush C (v := -4) d_T_breakIn_50 (by decide) ?_
  exact y_iret C hr hlocks d_T_breakIn_52 h
/-! H_glassAt -/
theorem d_H_glassAt_0 : decode prog_4_method_3_code 0 = .ok (.iload_n 1, 1) := by decide +kernel
theorem d_H_glassAt_1 : decode prog_4_method_3_code 1 = .ok (.ifCond .lt 29, 3) := by decide +kernel
theorem d_H_glassAt_4 : decode prog_4_method_3_code 4 = .ok (.iload_n 1, 1) := by decide +kernel
theorem d_H_glassAt_5 : decode prog_4_method_3_code 5 = .ok (.aload_n 0, 1) := by decide +kernel
theorem d_H_glassAt_6 : decode prog_4_method_3_code 6 = .ok (.getfield 34, 3) := by decide +kernel
theorem d_H_glassAt_9 : decode prog_4_method_3_code 9 = .ok (.if_icmp .ge 21, 3) := by decide +kernel
theorem d_H_glassAt_12 : decode prog_4_method_3_code 12 = .ok (.iload_n 1, 1) := by decide +kernel
theorem d_H_glassAt_13 : decode prog_4_method_3_code 13 = .ok (.aload_n 0, 1) := by decide +kernel
theorem d_H_glassAt_14 : decode prog_4_method_3_code 14 = .ok (.getfield 11, 3) := by decide +kernel
theorem d_H_glassAt_17 : decode prog_4_method_3_code 17 = .ok (.arraylength, 1) := by decide +kernel
theorem d_H_glassAt_18 : decode prog_4_method_3_code 18 = .ok (.if_icmp .ge 12, 3) := by decide +kernel
theorem d_H_glassAt_21 : decode prog_4_method_3_code 21 = .ok (.aload_n 0, 1) := by decide +kernel
theorem d_H_glassAt_22 : decode prog_4_method_3_code 22 = .ok (.getfield 11, 3) := by decide +kernel
theorem d_H_glassAt_25 : decode prog_4_method_3_code 25 = .ok (.iload_n 1, 1) := by decide +kernel
theorem d_H_glassAt_26 : decode prog_4_method_3_code 26 = .ok (.aaload, 1) := by decide +kernel
theorem d_H_glassAt_27 : decode prog_4_method_3_code 27 = .ok (.goto 4, 3) := by decide +kernel
theorem d_H_glassAt_30 : decode prog_4_method_3_code 30 = .ok (.aconst_null, 1) := by decide +kernel
theorem d_H_glassAt_31 : decode prog_4_method_3_code 31 = .ok (.areturn, 1) := by decide +kernel
set_option maxRecDepth 100000 in
def f_H_glassAt (F : Nat) (u : Mm) (o : Nat) (a1 : Int32) : Option (Option Nat × Mm) := (if a1 < 0 then some (none, u) else ob (jgi YX 2 2 u (some o)) fun (x2 : Int32) => (if x2 ≤ a1 then some (none, u) else ob (jgr YX 2 0 (some o)) fun (r4 : Option Nat) => ob (jln YX 8 r4) fun (x5 : Int32) => (if x5 ≤ a1 then some (none, u) else ob (jgr YX 2 0 (some o)) fun (r7 : Option Nat) => ob (jaa YX 8 r7 a1) fun (r8 : Option Nat) => some (r8, u))))
set_option maxHeartbeats 4000000 in
set_option maxRecDepth 100000 in
theorem c_H_glassAt (l : Launch) (w : WP) (F : Nat) (u : Mm) (o : Nat) (a1 : Int32) (out : Option Nat × Mm) (h : f_H_glassAt F u o a1 = some out) : yMet l m_H_glassAt ws_H_glassAt ({ frames := 0, cells := 0, slots := 0, locals := 0 } : Room) YX w u [va_re w.1 (some o), .int a1] (yfr w) out := by
  refine y_entry (own := "WhoseGlass$House") (lv := [(0, va_re w.1 (some o)), (1, .int a1)]) (by decide +kernel) rfl (by simp [lv_args, y_cat, y_catI, y_catJ]) (by simp [lg_sl, y_cat, y_catI, y_catJ]) ?_
  intro p e s m args below meth c C hr hlocks
  unfold f_H_glassAt at h
  refine y_iload_n C (i := 1) 1 d_H_glassAt_0 rfl rfl ?_
  refine y_if_lt C 30 d_H_glassAt_1 (by decide) h (fun k1 h => ?_) (fun k1 h => ?_)
  · refine y_null C d_H_glassAt_30 ?_
    exact y_aret C hr hlocks d_H_glassAt_31 h
  · refine y_iload_n C (i := 1) 1 d_H_glassAt_4 rfl rfl ?_
    refine y_aload_n C (i := 0) 0 d_H_glassAt_5 rfl rfl ?_
    refine y_gi C (q := (yR2, yT2, 9)) (ci := 2) (k := 2) rfl (by decide) rfl g_133 d_H_glassAt_6 h (fun x2 h => ?_)
    refine y_ic_ge C 30 d_H_glassAt_9 (by decide) h (fun k3 h => ?_) (fun k3 h => ?_)
    · refine y_null C d_H_glassAt_30 ?_
      exact y_aret C hr hlocks d_H_glassAt_31 h
    · refine y_iload_n C (i := 1) 1 d_H_glassAt_12 rfl rfl ?_
      refine y_aload_n C (i := 0) 0 d_H_glassAt_13 rfl rfl ?_
      refine y_gr C (q := (yR2, yT2, 9)) (ci := 2) (k := 0) rfl (by decide) rfl (by decide) g_131 d_H_glassAt_14 h (fun r4 h => ?_)
      refine y_lnr C (ki := 0) rfl d_H_glassAt_17 h (fun x5 h => ?_)
      refine y_ic_ge C 30 d_H_glassAt_18 (by decide) h (fun k6 h => ?_) (fun k6 h => ?_)
      · refine y_null C d_H_glassAt_30 ?_
        exact y_aret C hr hlocks d_H_glassAt_31 h
      · refine y_aload_n C (i := 0) 0 d_H_glassAt_21 rfl rfl ?_
        refine y_gr C (q := (yR2, yT2, 9)) (ci := 2) (k := 0) rfl (by decide) rfl (by decide) g_131 d_H_glassAt_22 h (fun r7 h => ?_)
        refine y_iload_n C (i := 1) 1 d_H_glassAt_25 rfl rfl ?_
        refine y_aa C (ki := 0) rfl d_H_glassAt_26 h (fun r8 h => ?_)
        refine y_goto C (tgt := 31) d_H_glassAt_27 (by decide) ?_
        exact y_aret C hr hlocks d_H_glassAt_31 h
/-! G_become -/
theorem d_G_become_0 : decode prog_2_method_3_code 0 = .ok (.aload_n 0, 1) := by decide +kernel
theorem d_G_become_1 : decode prog_2_method_3_code 1 = .ok (.aload_n 1, 1) := by decide +kernel
theorem d_G_become_2 : decode prog_2_method_3_code 2 = .ok (.getfield 15, 3) := by decide +kernel
theorem d_G_become_5 : decode prog_2_method_3_code 5 = .ok (.putfield 15, 3) := by decide +kernel
theorem d_G_become_8 : decode prog_2_method_3_code 8 = .ok (.aload_n 0, 1) := by decide +kernel
theorem d_G_become_9 : decode prog_2_method_3_code 9 = .ok (.aload_n 1, 1) := by decide +kernel
theorem d_G_become_10 : decode prog_2_method_3_code 10 = .ok (.getfield 18, 3) := by decide +kernel
theorem d_G_become_13 : decode prog_2_method_3_code 13 = .ok (.putfield 18, 3) := by decide +kernel
theorem d_G_become_16 : decode prog_2_method_3_code 16 = .ok (.aload_n 0, 1) := by decide +kernel
theorem d_G_become_17 : decode prog_2_method_3_code 17 = .ok (.aload_n 1, 1) := by decide +kernel
theorem d_G_become_18 : decode prog_2_method_3_code 18 = .ok (.getfield 21, 3) := by decide +kernel
theorem d_G_become_21 : decode prog_2_method_3_code 21 = .ok (.putfield 21, 3) := by decide +kernel
theorem d_G_become_24 : decode prog_2_method_3_code 24 = .ok (.aload_n 0, 1) := by decide +kernel
theorem d_G_become_25 : decode prog_2_method_3_code 25 = .ok (.aload_n 1, 1) := by decide +kernel
theorem d_G_become_26 : decode prog_2_method_3_code 26 = .ok (.getfield 31, 3) := by decide +kernel
theorem d_G_become_29 : decode prog_2_method_3_code 29 = .ok (.putfield 31, 3) := by decide +kernel
theorem d_G_become_32 : decode prog_2_method_3_code 32 = .ok (.aload_n 0, 1) := by decide +kernel
theorem d_G_become_33 : decode prog_2_method_3_code 33 = .ok (.aload_n 1, 1) := by decide +kernel
theorem d_G_become_34 : decode prog_2_method_3_code 34 = .ok (.getfield 34, 3) := by decide +kernel
theorem d_G_become_37 : decode prog_2_method_3_code 37 = .ok (.putfield 34, 3) := by decide +kernel
theorem d_G_become_40 : decode prog_2_method_3_code 40 = .ok (.aload_n 0, 1) := by decide +kernel
theorem d_G_become_41 : decode prog_2_method_3_code 41 = .ok (.aload_n 1, 1) := by decide +kernel
theorem d_G_become_42 : decode prog_2_method_3_code 42 = .ok (.getfield 24, 3) := by decide +kernel
theorem d_G_become_45 : decode prog_2_method_3_code 45 = .ok (.putfield 24, 3) := by decide +kernel
theorem d_G_become_48 : decode prog_2_method_3_code 48 = .ok (.aload_n 0, 1) := by decide +kernel
theorem d_G_become_49 : decode prog_2_method_3_code 49 = .ok (.aload_n 1, 1) := by decide +kernel
theorem d_G_become_50 : decode prog_2_method_3_code 50 = .ok (.getfield 27, 3) := by decide +kernel
theorem d_G_become_53 : decode prog_2_method_3_code 53 = .ok (.putfield 27, 3) := by decide +kernel
theorem d_G_become_56 : decode prog_2_method_3_code 56 = .ok (.return_, 1) := by decide +kernel
set_option maxRecDepth 100000 in
def f_G_become (F : Nat) (u : Mm) (o : Nat) (a1 : Option Nat) : Option (Unit × Mm) := ob (jgi YX 0 1 u a1) fun (x1 : Int32) => ob (jpi YX 0 1 u (some o) x1) fun (u2 : Mm) => ob (jgi YX 0 2 u2 a1) fun (x3 : Int32) => ob (jpi YX 0 2 u2 (some o) x3) fun (u4 : Mm) => ob (jgi YX 0 3 u4 a1) fun (x5 : Int32) => ob (jpi YX 0 3 u4 (some o) x5) fun (u6 : Mm) => ob (jgi YX 0 4 u6 a1) fun (x7 : Int32) => ob (jpi YX 0 4 u6 (some o) x7) fun (u8 : Mm) => ob (jgi YX 0 5 u8 a1) fun (x9 : Int32) => ob (jpi YX 0 5 u8 (some o) x9) fun (u10 : Mm) => ob (jgi YX 0 6 u10 a1) fun (x11 : Int32) => ob (jpi YX 0 6 u10 (some o) x11) fun (u12 : Mm) => ob (jgi YX 0 7 u12 a1) fun (x13 : Int32) => ob (jpz YX 0 7 u12 (some o) x13) fun (u14 : Mm) => some ((), u14)
set_option maxHeartbeats 4000000 in
set_option maxRecDepth 100000 in
theorem c_G_become (l : Launch) (w : WP) (F : Nat) (u : Mm) (o : Nat) (a1 : Option Nat) (out : Unit × Mm) (h : f_G_become F u o a1 = some out) : yMet l m_G_become ws_G_become ({ frames := 0, cells := 0, slots := 0, locals := 0 } : Room) YX w u [va_re w.1 (some o), va_re w.1 a1] yfv out := by
  refine y_entry (own := "WhoseGlass$Glass") (lv := [(0, va_re w.1 (some o)), (1, va_re w.1 a1)]) (by decide +kernel) rfl (by simp [lv_args, y_cat, y_catI, y_catJ]) (by simp [lg_sl, y_cat, y_catI, y_catJ]) ?_
  intro p e s m args below meth c C hr hlocks
  unfold f_G_become at h
  refine y_aload_n C (i := 0) 0 d_G_become_0 rfl rfl ?_
  refine y_aload_n C (i := 1) 1 d_G_become_1 rfl rfl ?_
  refine y_gi C (q := (yR0, yT0, 8)) (ci := 0) (k := 1) rfl (by decide) rfl g_43 d_G_become_2 h (fun x1 h => ?_)
  refine y_pi C (q := (yR0, yT0, 8)) (ci := 0) (k := 1) rfl (by decide) rfl rfl (by decide +kernel) g_43 d_G_become_5 h (fun u2 h => ?_)
  refine y_aload_n C (i := 0) 0 d_G_become_8 rfl rfl ?_
  refine y_aload_n C (i := 1) 1 d_G_become_9 rfl rfl ?_
  refine y_gi C (q := (yR0, yT0, 8)) (ci := 0) (k := 2) rfl (by decide) rfl g_45 d_G_become_10 h (fun x3 h => ?_)
  refine y_pi C (q := (yR0, yT0, 8)) (ci := 0) (k := 2) rfl (by decide) rfl rfl (by decide +kernel) g_45 d_G_become_13 h (fun u4 h => ?_)
  refine y_aload_n C (i := 0) 0 d_G_become_16 rfl rfl ?_
  refine y_aload_n C (i := 1) 1 d_G_become_17 rfl rfl ?_
  refine y_gi C (q := (yR0, yT0, 8)) (ci := 0) (k := 3) rfl (by decide) rfl g_46 d_G_become_18 h (fun x5 h => ?_)
  refine y_pi C (q := (yR0, yT0, 8)) (ci := 0) (k := 3) rfl (by decide) rfl rfl (by decide +kernel) g_46 d_G_become_21 h (fun u6 h => ?_)
  refine y_aload_n C (i := 0) 0 d_G_become_24 rfl rfl ?_
  refine y_aload_n C (i := 1) 1 d_G_become_25 rfl rfl ?_
  refine y_gi C (q := (yR0, yT0, 8)) (ci := 0) (k := 4) rfl (by decide) rfl g_50 d_G_become_26 h (fun x7 h => ?_)
  refine y_pi C (q := (yR0, yT0, 8)) (ci := 0) (k := 4) rfl (by decide) rfl rfl (by decide +kernel) g_50 d_G_become_29 h (fun u8 h => ?_)
  refine y_aload_n C (i := 0) 0 d_G_become_32 rfl rfl ?_
  refine y_aload_n C (i := 1) 1 d_G_become_33 rfl rfl ?_
  refine y_gi C (q := (yR0, yT0, 8)) (ci := 0) (k := 5) rfl (by decide) rfl g_54 d_G_become_34 h (fun x9 h => ?_)
  refine y_pi C (q := (yR0, yT0, 8)) (ci := 0) (k := 5) rfl (by decide) rfl rfl (by decide +kernel) g_54 d_G_become_37 h (fun u10 h => ?_)
  refine y_aload_n C (i := 0) 0 d_G_become_40 rfl rfl ?_
  refine y_aload_n C (i := 1) 1 d_G_become_41 rfl rfl ?_
  refine y_gi C (q := (yR0, yT0, 8)) (ci := 0) (k := 6) rfl (by decide) rfl g_57 d_G_become_42 h (fun x11 h => ?_)
  refine y_pi C (q := (yR0, yT0, 8)) (ci := 0) (k := 6) rfl (by decide) rfl rfl (by decide +kernel) g_57 d_G_become_45 h (fun u12 h => ?_)
  refine y_aload_n C (i := 0) 0 d_G_become_48 rfl rfl ?_
  refine y_aload_n C (i := 1) 1 d_G_become_49 rfl rfl ?_
  refine y_gi C (q := (yR0, yT0, 8)) (ci := 0) (k := 7) rfl (by decide) rfl g_59 d_G_become_50 h (fun x13 h => ?_)
  refine y_pz C (q := (yR0, yT0, 8)) (ci := 0) (k := 7) rfl (by decide) rfl rfl (by decide +kernel) g_59 d_G_become_53 h (fun u14 h => ?_)
  exact y_vret C hr hlocks d_G_become_56 h
/-! H_guestAt -/
theorem d_H_guestAt_0 : decode prog_4_method_4_code 0 = .ok (.iload_n 1, 1) := by decide +kernel
theorem d_H_guestAt_1 : decode prog_4_method_4_code 1 = .ok (.ifCond .lt 29, 3) := by decide +kernel
theorem d_H_guestAt_4 : decode prog_4_method_4_code 4 = .ok (.iload_n 1, 1) := by decide +kernel
theorem d_H_guestAt_5 : decode prog_4_method_4_code 5 = .ok (.aload_n 0, 1) := by decide +kernel
theorem d_H_guestAt_6 : decode prog_4_method_4_code 6 = .ok (.getfield 37, 3) := by decide +kernel
theorem d_H_guestAt_9 : decode prog_4_method_4_code 9 = .ok (.if_icmp .ge 21, 3) := by decide +kernel
theorem d_H_guestAt_12 : decode prog_4_method_4_code 12 = .ok (.iload_n 1, 1) := by decide +kernel
theorem d_H_guestAt_13 : decode prog_4_method_4_code 13 = .ok (.aload_n 0, 1) := by decide +kernel
theorem d_H_guestAt_14 : decode prog_4_method_4_code 14 = .ok (.getfield 19, 3) := by decide +kernel
theorem d_H_guestAt_17 : decode prog_4_method_4_code 17 = .ok (.arraylength, 1) := by decide +kernel
theorem d_H_guestAt_18 : decode prog_4_method_4_code 18 = .ok (.if_icmp .ge 12, 3) := by decide +kernel
theorem d_H_guestAt_21 : decode prog_4_method_4_code 21 = .ok (.aload_n 0, 1) := by decide +kernel
theorem d_H_guestAt_22 : decode prog_4_method_4_code 22 = .ok (.getfield 19, 3) := by decide +kernel
theorem d_H_guestAt_25 : decode prog_4_method_4_code 25 = .ok (.iload_n 1, 1) := by decide +kernel
theorem d_H_guestAt_26 : decode prog_4_method_4_code 26 = .ok (.aaload, 1) := by decide +kernel
theorem d_H_guestAt_27 : decode prog_4_method_4_code 27 = .ok (.goto 4, 3) := by decide +kernel
theorem d_H_guestAt_30 : decode prog_4_method_4_code 30 = .ok (.aconst_null, 1) := by decide +kernel
theorem d_H_guestAt_31 : decode prog_4_method_4_code 31 = .ok (.areturn, 1) := by decide +kernel
set_option maxRecDepth 100000 in
def f_H_guestAt (F : Nat) (u : Mm) (o : Nat) (a1 : Int32) : Option (Option Nat × Mm) := (if a1 < 0 then some (none, u) else ob (jgi YX 2 3 u (some o)) fun (x2 : Int32) => (if x2 ≤ a1 then some (none, u) else ob (jgr YX 2 1 (some o)) fun (r4 : Option Nat) => ob (jln YX 9 r4) fun (x5 : Int32) => (if x5 ≤ a1 then some (none, u) else ob (jgr YX 2 1 (some o)) fun (r7 : Option Nat) => ob (jaa YX 9 r7 a1) fun (r8 : Option Nat) => some (r8, u))))
set_option maxHeartbeats 4000000 in
set_option maxRecDepth 100000 in
theorem c_H_guestAt (l : Launch) (w : WP) (F : Nat) (u : Mm) (o : Nat) (a1 : Int32) (out : Option Nat × Mm) (h : f_H_guestAt F u o a1 = some out) : yMet l m_H_guestAt ws_H_guestAt ({ frames := 0, cells := 0, slots := 0, locals := 0 } : Room) YX w u [va_re w.1 (some o), .int a1] (yfr w) out := by
  refine y_entry (own := "WhoseGlass$House") (lv := [(0, va_re w.1 (some o)), (1, .int a1)]) (by decide +kernel) rfl (by simp [lv_args, y_cat, y_catI, y_catJ]) (by simp [lg_sl, y_cat, y_catI, y_catJ]) ?_
  intro p e s m args below meth c C hr hlocks
  unfold f_H_guestAt at h
  refine y_iload_n C (i := 1) 1 d_H_guestAt_0 rfl rfl ?_
  refine y_if_lt C 30 d_H_guestAt_1 (by decide) h (fun k1 h => ?_) (fun k1 h => ?_)
  · refine y_null C d_H_guestAt_30 ?_
    exact y_aret C hr hlocks d_H_guestAt_31 h
  · refine y_iload_n C (i := 1) 1 d_H_guestAt_4 rfl rfl ?_
    refine y_aload_n C (i := 0) 0 d_H_guestAt_5 rfl rfl ?_
    refine y_gi C (q := (yR2, yT2, 9)) (ci := 2) (k := 3) rfl (by decide) rfl g_135 d_H_guestAt_6 h (fun x2 h => ?_)
    refine y_ic_ge C 30 d_H_guestAt_9 (by decide) h (fun k3 h => ?_) (fun k3 h => ?_)
    · refine y_null C d_H_guestAt_30 ?_
      exact y_aret C hr hlocks d_H_guestAt_31 h
    · refine y_iload_n C (i := 1) 1 d_H_guestAt_12 rfl rfl ?_
      refine y_aload_n C (i := 0) 0 d_H_guestAt_13 rfl rfl ?_
      refine y_gr C (q := (yR2, yT2, 9)) (ci := 2) (k := 1) rfl (by decide) rfl (by decide) g_132 d_H_guestAt_14 h (fun r4 h => ?_)
      refine y_lnr C (ki := 1) rfl d_H_guestAt_17 h (fun x5 h => ?_)
      refine y_ic_ge C 30 d_H_guestAt_18 (by decide) h (fun k6 h => ?_) (fun k6 h => ?_)
      · refine y_null C d_H_guestAt_30 ?_
        exact y_aret C hr hlocks d_H_guestAt_31 h
      · refine y_aload_n C (i := 0) 0 d_H_guestAt_21 rfl rfl ?_
        refine y_gr C (q := (yR2, yT2, 9)) (ci := 2) (k := 1) rfl (by decide) rfl (by decide) g_132 d_H_guestAt_22 h (fun r7 h => ?_)
        refine y_iload_n C (i := 1) 1 d_H_guestAt_25 rfl rfl ?_
        refine y_aa C (ki := 1) rfl d_H_guestAt_26 h (fun r8 h => ?_)
        refine y_goto C (tgt := 31) d_H_guestAt_27 (by decide) ?_
        exact y_aret C hr hlocks d_H_guestAt_31 h
/-! U_become -/
theorem d_U_become_0 : decode prog_3_method_3_code 0 = .ok (.aload_n 0, 1) := by decide +kernel
theorem d_U_become_1 : decode prog_3_method_3_code 1 = .ok (.aload_n 1, 1) := by decide +kernel
theorem d_U_become_2 : decode prog_3_method_3_code 2 = .ok (.getfield 15, 3) := by decide +kernel
theorem d_U_become_5 : decode prog_3_method_3_code 5 = .ok (.putfield 15, 3) := by decide +kernel
theorem d_U_become_8 : decode prog_3_method_3_code 8 = .ok (.aload_n 0, 1) := by decide +kernel
theorem d_U_become_9 : decode prog_3_method_3_code 9 = .ok (.aload_n 1, 1) := by decide +kernel
theorem d_U_become_10 : decode prog_3_method_3_code 10 = .ok (.getfield 18, 3) := by decide +kernel
theorem d_U_become_13 : decode prog_3_method_3_code 13 = .ok (.putfield 18, 3) := by decide +kernel
theorem d_U_become_16 : decode prog_3_method_3_code 16 = .ok (.aload_n 0, 1) := by decide +kernel
theorem d_U_become_17 : decode prog_3_method_3_code 17 = .ok (.aload_n 1, 1) := by decide +kernel
theorem d_U_become_18 : decode prog_3_method_3_code 18 = .ok (.getfield 21, 3) := by decide +kernel
theorem d_U_become_21 : decode prog_3_method_3_code 21 = .ok (.putfield 21, 3) := by decide +kernel
theorem d_U_become_24 : decode prog_3_method_3_code 24 = .ok (.aload_n 0, 1) := by decide +kernel
theorem d_U_become_25 : decode prog_3_method_3_code 25 = .ok (.aload_n 1, 1) := by decide +kernel
theorem d_U_become_26 : decode prog_3_method_3_code 26 = .ok (.getfield 24, 3) := by decide +kernel
theorem d_U_become_29 : decode prog_3_method_3_code 29 = .ok (.putfield 24, 3) := by decide +kernel
theorem d_U_become_32 : decode prog_3_method_3_code 32 = .ok (.aload_n 0, 1) := by decide +kernel
theorem d_U_become_33 : decode prog_3_method_3_code 33 = .ok (.aload_n 1, 1) := by decide +kernel
theorem d_U_become_34 : decode prog_3_method_3_code 34 = .ok (.getfield 27, 3) := by decide +kernel
theorem d_U_become_37 : decode prog_3_method_3_code 37 = .ok (.putfield 27, 3) := by decide +kernel
theorem d_U_become_40 : decode prog_3_method_3_code 40 = .ok (.aload_n 0, 1) := by decide +kernel
theorem d_U_become_41 : decode prog_3_method_3_code 41 = .ok (.aload_n 1, 1) := by decide +kernel
theorem d_U_become_42 : decode prog_3_method_3_code 42 = .ok (.getfield 30, 3) := by decide +kernel
theorem d_U_become_45 : decode prog_3_method_3_code 45 = .ok (.putfield 30, 3) := by decide +kernel
theorem d_U_become_48 : decode prog_3_method_3_code 48 = .ok (.aload_n 0, 1) := by decide +kernel
theorem d_U_become_49 : decode prog_3_method_3_code 49 = .ok (.aload_n 1, 1) := by decide +kernel
theorem d_U_become_50 : decode prog_3_method_3_code 50 = .ok (.getfield 33, 3) := by decide +kernel
theorem d_U_become_53 : decode prog_3_method_3_code 53 = .ok (.putfield 33, 3) := by decide +kernel
theorem d_U_become_56 : decode prog_3_method_3_code 56 = .ok (.aload_n 0, 1) := by decide +kernel
theorem d_U_become_57 : decode prog_3_method_3_code 57 = .ok (.aload_n 1, 1) := by decide +kernel
theorem d_U_become_58 : decode prog_3_method_3_code 58 = .ok (.getfield 36, 3) := by decide +kernel
theorem d_U_become_61 : decode prog_3_method_3_code 61 = .ok (.putfield 36, 3) := by decide +kernel
theorem d_U_become_64 : decode prog_3_method_3_code 64 = .ok (.aload_n 0, 1) := by decide +kernel
theorem d_U_become_65 : decode prog_3_method_3_code 65 = .ok (.aload_n 1, 1) := by decide +kernel
theorem d_U_become_66 : decode prog_3_method_3_code 66 = .ok (.getfield 39, 3) := by decide +kernel
theorem d_U_become_69 : decode prog_3_method_3_code 69 = .ok (.putfield 39, 3) := by decide +kernel
theorem d_U_become_72 : decode prog_3_method_3_code 72 = .ok (.return_, 1) := by decide +kernel
set_option maxRecDepth 100000 in
def f_U_become (F : Nat) (u : Mm) (o : Nat) (a1 : Option Nat) : Option (Unit × Mm) := ob (jgi YX 1 1 u a1) fun (x1 : Int32) => ob (jpi YX 1 1 u (some o) x1) fun (u2 : Mm) => ob (jgi YX 1 2 u2 a1) fun (x3 : Int32) => ob (jpi YX 1 2 u2 (some o) x3) fun (u4 : Mm) => ob (jgi YX 1 3 u4 a1) fun (x5 : Int32) => ob (jpi YX 1 3 u4 (some o) x5) fun (u6 : Mm) => ob (jgi YX 1 4 u6 a1) fun (x7 : Int32) => ob (jpi YX 1 4 u6 (some o) x7) fun (u8 : Mm) => ob (jgi YX 1 5 u8 a1) fun (x9 : Int32) => ob (jpi YX 1 5 u8 (some o) x9) fun (u10 : Mm) => ob (jgi YX 1 6 u10 a1) fun (x11 : Int32) => ob (jpi YX 1 6 u10 (some o) x11) fun (u12 : Mm) => ob (jgi YX 1 7 u12 a1) fun (x13 : Int32) => ob (jpi YX 1 7 u12 (some o) x13) fun (u14 : Mm) => ob (jgi YX 1 8 u14 a1) fun (x15 : Int32) => ob (jpi YX 1 8 u14 (some o) x15) fun (u16 : Mm) => ob (jgi YX 1 9 u16 a1) fun (x17 : Int32) => ob (jpz YX 1 9 u16 (some o) x17) fun (u18 : Mm) => some ((), u18)
set_option maxHeartbeats 4000000 in
set_option maxRecDepth 100000 in
theorem c_U_become (l : Launch) (w : WP) (F : Nat) (u : Mm) (o : Nat) (a1 : Option Nat) (out : Unit × Mm) (h : f_U_become F u o a1 = some out) : yMet l m_U_become ws_U_become ({ frames := 0, cells := 0, slots := 0, locals := 0 } : Room) YX w u [va_re w.1 (some o), va_re w.1 a1] yfv out := by
  refine y_entry (own := "WhoseGlass$Guest") (lv := [(0, va_re w.1 (some o)), (1, va_re w.1 a1)]) (by decide +kernel) rfl (by simp [lv_args, y_cat, y_catI, y_catJ]) (by simp [lg_sl, y_cat, y_catI, y_catJ]) ?_
  intro p e s m args below meth c C hr hlocks
  unfold f_U_become at h
  refine y_aload_n C (i := 0) 0 d_U_become_0 rfl rfl ?_
  refine y_aload_n C (i := 1) 1 d_U_become_1 rfl rfl ?_
  refine y_gi C (q := (yR1, yT1, 10)) (ci := 1) (k := 1) rfl (by decide) rfl g_86 d_U_become_2 h (fun x1 h => ?_)
  refine y_pi C (q := (yR1, yT1, 10)) (ci := 1) (k := 1) rfl (by decide) rfl rfl (by decide +kernel) g_86 d_U_become_5 h (fun u2 h => ?_)
  refine y_aload_n C (i := 0) 0 d_U_become_8 rfl rfl ?_
  refine y_aload_n C (i := 1) 1 d_U_become_9 rfl rfl ?_
  refine y_gi C (q := (yR1, yT1, 10)) (ci := 1) (k := 2) rfl (by decide) rfl g_88 d_U_become_10 h (fun x3 h => ?_)
  refine y_pi C (q := (yR1, yT1, 10)) (ci := 1) (k := 2) rfl (by decide) rfl rfl (by decide +kernel) g_88 d_U_become_13 h (fun u4 h => ?_)
  refine y_aload_n C (i := 0) 0 d_U_become_16 rfl rfl ?_
  refine y_aload_n C (i := 1) 1 d_U_become_17 rfl rfl ?_
  refine y_gi C (q := (yR1, yT1, 10)) (ci := 1) (k := 3) rfl (by decide) rfl g_90 d_U_become_18 h (fun x5 h => ?_)
  refine y_pi C (q := (yR1, yT1, 10)) (ci := 1) (k := 3) rfl (by decide) rfl rfl (by decide +kernel) g_90 d_U_become_21 h (fun u6 h => ?_)
  refine y_aload_n C (i := 0) 0 d_U_become_24 rfl rfl ?_
  refine y_aload_n C (i := 1) 1 d_U_become_25 rfl rfl ?_
  refine y_gi C (q := (yR1, yT1, 10)) (ci := 1) (k := 4) rfl (by decide) rfl g_92 d_U_become_26 h (fun x7 h => ?_)
  refine y_pi C (q := (yR1, yT1, 10)) (ci := 1) (k := 4) rfl (by decide) rfl rfl (by decide +kernel) g_92 d_U_become_29 h (fun u8 h => ?_)
  refine y_aload_n C (i := 0) 0 d_U_become_32 rfl rfl ?_
  refine y_aload_n C (i := 1) 1 d_U_become_33 rfl rfl ?_
  refine y_gi C (q := (yR1, yT1, 10)) (ci := 1) (k := 5) rfl (by decide) rfl g_94 d_U_become_34 h (fun x9 h => ?_)
  refine y_pi C (q := (yR1, yT1, 10)) (ci := 1) (k := 5) rfl (by decide) rfl rfl (by decide +kernel) g_94 d_U_become_37 h (fun u10 h => ?_)
  refine y_aload_n C (i := 0) 0 d_U_become_40 rfl rfl ?_
  refine y_aload_n C (i := 1) 1 d_U_become_41 rfl rfl ?_
  refine y_gi C (q := (yR1, yT1, 10)) (ci := 1) (k := 6) rfl (by decide) rfl g_97 d_U_become_42 h (fun x11 h => ?_)
  refine y_pi C (q := (yR1, yT1, 10)) (ci := 1) (k := 6) rfl (by decide) rfl rfl (by decide +kernel) g_97 d_U_become_45 h (fun u12 h => ?_)
  refine y_aload_n C (i := 0) 0 d_U_become_48 rfl rfl ?_
  refine y_aload_n C (i := 1) 1 d_U_become_49 rfl rfl ?_
  refine y_gi C (q := (yR1, yT1, 10)) (ci := 1) (k := 7) rfl (by decide) rfl g_101 d_U_become_50 h (fun x13 h => ?_)
  refine y_pi C (q := (yR1, yT1, 10)) (ci := 1) (k := 7) rfl (by decide) rfl rfl (by decide +kernel) g_101 d_U_become_53 h (fun u14 h => ?_)
  refine y_aload_n C (i := 0) 0 d_U_become_56 rfl rfl ?_
  refine y_aload_n C (i := 1) 1 d_U_become_57 rfl rfl ?_
  refine y_gi C (q := (yR1, yT1, 10)) (ci := 1) (k := 8) rfl (by decide) rfl g_104 d_U_become_58 h (fun x15 h => ?_)
  refine y_pi C (q := (yR1, yT1, 10)) (ci := 1) (k := 8) rfl (by decide) rfl rfl (by decide +kernel) g_104 d_U_become_61 h (fun u16 h => ?_)
  refine y_aload_n C (i := 0) 0 d_U_become_64 rfl rfl ?_
  refine y_aload_n C (i := 1) 1 d_U_become_65 rfl rfl ?_
  refine y_gi C (q := (yR1, yT1, 10)) (ci := 1) (k := 9) rfl (by decide) rfl g_107 d_U_become_66 h (fun x17 h => ?_)
  refine y_pz C (q := (yR1, yT1, 10)) (ci := 1) (k := 9) rfl (by decide) rfl rfl (by decide +kernel) g_107 d_U_become_69 h (fun u18 h => ?_)
  exact y_vret C hr hlocks d_U_become_72 h
/-! H_become -/
theorem d_H_become_0 : decode prog_4_method_2_code 0 = .ok (.aload_n 0, 1) := by decide +kernel
theorem d_H_become_1 : decode prog_4_method_2_code 1 = .ok (.aload_n 1, 1) := by decide +kernel
theorem d_H_become_2 : decode prog_4_method_2_code 2 = .ok (.getfield 34, 3) := by decide +kernel
theorem d_H_become_5 : decode prog_4_method_2_code 5 = .ok (.putfield 34, 3) := by decide +kernel
theorem d_H_become_8 : decode prog_4_method_2_code 8 = .ok (.aload_n 0, 1) := by decide +kernel
theorem d_H_become_9 : decode prog_4_method_2_code 9 = .ok (.aload_n 1, 1) := by decide +kernel
theorem d_H_become_10 : decode prog_4_method_2_code 10 = .ok (.getfield 37, 3) := by decide +kernel
theorem d_H_become_13 : decode prog_4_method_2_code 13 = .ok (.putfield 37, 3) := by decide +kernel
theorem d_H_become_16 : decode prog_4_method_2_code 16 = .ok (.aload_n 0, 1) := by decide +kernel
theorem d_H_become_17 : decode prog_4_method_2_code 17 = .ok (.aload_n 1, 1) := by decide +kernel
theorem d_H_become_18 : decode prog_4_method_2_code 18 = .ok (.getfield 23, 3) := by decide +kernel
theorem d_H_become_21 : decode prog_4_method_2_code 21 = .ok (.putfield 23, 3) := by decide +kernel
theorem d_H_become_24 : decode prog_4_method_2_code 24 = .ok (.aload_n 0, 1) := by decide +kernel
theorem d_H_become_25 : decode prog_4_method_2_code 25 = .ok (.aload_n 1, 1) := by decide +kernel
theorem d_H_become_26 : decode prog_4_method_2_code 26 = .ok (.getfield 40, 3) := by decide +kernel
theorem d_H_become_29 : decode prog_4_method_2_code 29 = .ok (.putfield 40, 3) := by decide +kernel
theorem d_H_become_32 : decode prog_4_method_2_code 32 = .ok (.aload_n 0, 1) := by decide +kernel
theorem d_H_become_33 : decode prog_4_method_2_code 33 = .ok (.iconst 0, 1) := by decide +kernel
theorem d_H_become_34 : decode prog_4_method_2_code 34 = .ok (.putfield 43, 3) := by decide +kernel
theorem d_H_become_37 : decode prog_4_method_2_code 37 = .ok (.aload_n 0, 1) := by decide +kernel
theorem d_H_become_38 : decode prog_4_method_2_code 38 = .ok (.iconst 0, 1) := by decide +kernel
theorem d_H_become_39 : decode prog_4_method_2_code 39 = .ok (.putfield 46, 3) := by decide +kernel
theorem d_H_become_42 : decode prog_4_method_2_code 42 = .ok (.aload_n 0, 1) := by decide +kernel
theorem d_H_become_43 : decode prog_4_method_2_code 43 = .ok (.bipush (-4), 2) := by decide +kernel
theorem d_H_become_45 : decode prog_4_method_2_code 45 = .ok (.putfield 27, 3) := by decide +kernel
theorem d_H_become_48 : decode prog_4_method_2_code 48 = .ok (.iconst 0, 1) := by decide +kernel
theorem d_H_become_49 : decode prog_4_method_2_code 49 = .ok (.istore_n 2, 1) := by decide +kernel
theorem d_H_become_50 : decode prog_4_method_2_code 50 = .ok (.iload_n 2, 1) := by decide +kernel
theorem d_H_become_51 : decode prog_4_method_2_code 51 = .ok (.aload_n 0, 1) := by decide +kernel
theorem d_H_become_52 : decode prog_4_method_2_code 52 = .ok (.getfield 34, 3) := by decide +kernel
theorem d_H_become_55 : decode prog_4_method_2_code 55 = .ok (.if_icmp .ge 37, 3) := by decide +kernel
theorem d_H_become_58 : decode prog_4_method_2_code 58 = .ok (.aload_n 0, 1) := by decide +kernel
theorem d_H_become_59 : decode prog_4_method_2_code 59 = .ok (.iload_n 2, 1) := by decide +kernel
theorem d_H_become_60 : decode prog_4_method_2_code 60 = .ok (.invokevirtual 49, 3) := by decide +kernel
theorem d_H_become_63 : decode prog_4_method_2_code 63 = .ok (.astore_n 3, 1) := by decide +kernel
theorem d_H_become_64 : decode prog_4_method_2_code 64 = .ok (.aload_n 1, 1) := by decide +kernel
theorem d_H_become_65 : decode prog_4_method_2_code 65 = .ok (.iload_n 2, 1) := by decide +kernel
theorem d_H_become_66 : decode prog_4_method_2_code 66 = .ok (.invokevirtual 49, 3) := by decide +kernel
theorem d_H_become_69 : decode prog_4_method_2_code 69 = .ok (.astore 4, 2) := by decide +kernel
theorem d_H_become_71 : decode prog_4_method_2_code 71 = .ok (.aload_n 3, 1) := by decide +kernel
theorem d_H_become_72 : decode prog_4_method_2_code 72 = .ok (.ifnull 14, 3) := by decide +kernel
theorem d_H_become_75 : decode prog_4_method_2_code 75 = .ok (.aload 4, 2) := by decide +kernel
theorem d_H_become_77 : decode prog_4_method_2_code 77 = .ok (.ifnull 9, 3) := by decide +kernel
theorem d_H_become_80 : decode prog_4_method_2_code 80 = .ok (.aload_n 3, 1) := by decide +kernel
theorem d_H_become_81 : decode prog_4_method_2_code 81 = .ok (.aload 4, 2) := by decide +kernel
theorem d_H_become_83 : decode prog_4_method_2_code 83 = .ok (.invokevirtual 53, 3) := by decide +kernel
theorem d_H_become_86 : decode prog_4_method_2_code 86 = .ok (.iinc 2 1, 3) := by decide +kernel
theorem d_H_become_89 : decode prog_4_method_2_code 89 = .ok (.goto (-39), 3) := by decide +kernel
theorem d_H_become_92 : decode prog_4_method_2_code 92 = .ok (.iconst 0, 1) := by decide +kernel
theorem d_H_become_93 : decode prog_4_method_2_code 93 = .ok (.istore_n 2, 1) := by decide +kernel
theorem d_H_become_94 : decode prog_4_method_2_code 94 = .ok (.iload_n 2, 1) := by decide +kernel
theorem d_H_become_95 : decode prog_4_method_2_code 95 = .ok (.aload_n 0, 1) := by decide +kernel
theorem d_H_become_96 : decode prog_4_method_2_code 96 = .ok (.getfield 37, 3) := by decide +kernel
theorem d_H_become_99 : decode prog_4_method_2_code 99 = .ok (.if_icmp .ge 37, 3) := by decide +kernel
theorem d_H_become_102 : decode prog_4_method_2_code 102 = .ok (.aload_n 0, 1) := by decide +kernel
theorem d_H_become_103 : decode prog_4_method_2_code 103 = .ok (.iload_n 2, 1) := by decide +kernel
theorem d_H_become_104 : decode prog_4_method_2_code 104 = .ok (.invokevirtual 57, 3) := by decide +kernel
theorem d_H_become_107 : decode prog_4_method_2_code 107 = .ok (.astore_n 3, 1) := by decide +kernel
theorem d_H_become_108 : decode prog_4_method_2_code 108 = .ok (.aload_n 1, 1) := by decide +kernel
theorem d_H_become_109 : decode prog_4_method_2_code 109 = .ok (.iload_n 2, 1) := by decide +kernel
theorem d_H_become_110 : decode prog_4_method_2_code 110 = .ok (.invokevirtual 57, 3) := by decide +kernel
theorem d_H_become_113 : decode prog_4_method_2_code 113 = .ok (.astore 4, 2) := by decide +kernel
theorem d_H_become_115 : decode prog_4_method_2_code 115 = .ok (.aload_n 3, 1) := by decide +kernel
theorem d_H_become_116 : decode prog_4_method_2_code 116 = .ok (.ifnull 14, 3) := by decide +kernel
theorem d_H_become_119 : decode prog_4_method_2_code 119 = .ok (.aload 4, 2) := by decide +kernel
theorem d_H_become_121 : decode prog_4_method_2_code 121 = .ok (.ifnull 9, 3) := by decide +kernel
theorem d_H_become_124 : decode prog_4_method_2_code 124 = .ok (.aload_n 3, 1) := by decide +kernel
theorem d_H_become_125 : decode prog_4_method_2_code 125 = .ok (.aload 4, 2) := by decide +kernel
theorem d_H_become_127 : decode prog_4_method_2_code 127 = .ok (.invokevirtual 61, 3) := by decide +kernel
theorem d_H_become_130 : decode prog_4_method_2_code 130 = .ok (.iinc 2 1, 3) := by decide +kernel
theorem d_H_become_133 : decode prog_4_method_2_code 133 = .ok (.goto (-39), 3) := by decide +kernel
theorem d_H_become_136 : decode prog_4_method_2_code 136 = .ok (.return_, 1) := by decide +kernel
theorem gc_H_become_49 : GoodIn yGW (wsV "WhoseGlass$House" 49 yR2 m_H_glassAt ws_H_glassAt) := y_gV g_259 g_260 g_261 g_2 g_262
theorem gc_H_become_53 : GoodIn yGW (wsV "WhoseGlass$House" 53 yR0 m_G_become ws_G_become) := y_gV g_263 g_264 g_265 g_3 g_266
theorem gc_H_become_57 : GoodIn yGW (wsV "WhoseGlass$House" 57 yR2 m_H_guestAt ws_H_guestAt) := y_gV g_267 g_268 g_269 g_2 g_270
theorem gc_H_become_61 : GoodIn yGW (wsV "WhoseGlass$House" 61 yR1 m_U_become ws_U_become) := y_gV g_271 g_272 g_273 g_4 g_274
set_option maxHeartbeats 4000000 in
set_option maxRecDepth 100000 in
def f_H_become_L50 (F : Nat) (a0 : Option Nat) (a1 : Option Nat) (k : Mm → Option (Unit × Mm)) : Nat → Mm → Int32 → Option (Unit × Mm)
  | 0, _, _ => none
  | n + 1, u, a2 => ob (jgi YX 2 2 u a0) fun (x12 : Int32) => (if x12 ≤ a2 then k u  else ob (jk YX 2 a0) fun t => yb (f_H_glassAt F u t a2) fun r14 u15 => ob (jk YX 2 a1) fun t => yb (f_H_glassAt F u15 t a2) fun r16 u17 => ob ((if r14 = none then some u17 else (if r16 = none then some u17 else ob (jk YX 0 r14) fun t => yb (f_G_become F u17 t r16) fun v21 u22 => some u22)) : Option (Mm)) fun q18 => ob (some (a2 + (1 : Int32))) fun (x23 : Int32) => f_H_become_L50 F a0 a1 k n q18 x23)
set_option maxHeartbeats 4000000 in
set_option maxRecDepth 100000 in
theorem w_H_become_L50 {p : Program} {l : Launch} {e : Env} {s : State} {m : MethodId} {args : Array Value} {below : List Frame} {meth : Method} {c : Code} {w : WP} {Q : State → Prop} (F : Nat) (C : yX p e ({ frames := 1, cells := 0, slots := 0, locals := 21 } : Room) s m args c YX w 5 prog_4_method_2_code "WhoseGlass$House") (hr : meth.sig.returnType = none) (hlocks : meth.locks = false) (a0 : Option Nat) (a1 : Option Nat) {out : Unit × Mm} (k : Mm → Option (Unit × Mm)) (hk : ∀ (u : Mm), k u  = some out → yG p l e ({ frames := 1, cells := 0, slots := 0, locals := 21 } : Room) s m args below meth c YX w 5 Q u 92 [(0, va_re w.1 a0), (1, va_re w.1 a1)] []) : ∀ (n : Nat) (u : Mm) (a2 : Int32), f_H_become_L50 F a0 a1 k n u a2 = some out → yG p l e ({ frames := 1, cells := 0, slots := 0, locals := 21 } : Room) s m args below meth c YX w 5 Q u 50 [(0, va_re w.1 a0), (1, va_re w.1 a1), (2, .int a2)] [] := by
  intro n
  induction n with
  | zero => intro u a2 h; rw [f_H_become_L50] at h; cases h
  | succ n ih =>
    intro u a2 h
    rw [f_H_become_L50] at h
    refine y_iload_n C (i := 2) 2 d_H_become_50 rfl rfl ?_
    refine y_aload_n C (i := 0) 0 d_H_become_51 rfl rfl ?_
    refine y_gi C (q := (yR2, yT2, 9)) (ci := 2) (k := 2) rfl (by decide) rfl g_133 d_H_become_52 h (fun x12 h => ?_)
    refine y_ic_ge C 92 d_H_become_55 (by decide) h (fun k13 h => ?_) (fun k13 h => ?_)
    · exact y_sub [0, 1] rfl (hk _ h)
    · refine y_aload_n C (i := 0) 0 d_H_become_58 rfl rfl ?_
      refine y_iload_n C (i := 2) 2 d_H_become_59 rfl rfl ?_
      refine y_callV 1 C (q := (yR2, yT2, 9)) (ci := 2) (fun t out hh => c_H_glassAt l w F u t a2 out hh) gc_H_become_49 rfl (by decide) hd_H_glassAt ⟨Nat.le_of_ble_eq_true rfl, Nat.le_of_ble_eq_true rfl⟩ rfl rfl rfl rfl (by simp [y_cat, y_catI, y_catJ]) d_H_become_60 h (fun r14 u15 h => ?_)
      refine y_stk (stp0 := [va_re w.1 r14]) rfl ?_
      refine y_astore_n C (i := 3) (lvp := [(0, va_re w.1 a0), (1, va_re w.1 a1), (2, .int a2)]) d_H_become_63 rfl (by decide) (by simp [List.filter, y_cat, y_catI, y_catJ]) ?_
      refine y_aload_n C (i := 1) 2 d_H_become_64 rfl rfl ?_
      refine y_iload_n C (i := 2) 3 d_H_become_65 rfl rfl ?_
      refine y_callV 1 C (q := (yR2, yT2, 9)) (ci := 2) (fun t out hh => c_H_glassAt l w F u15 t a2 out hh) gc_H_become_49 rfl (by decide) hd_H_glassAt ⟨Nat.le_of_ble_eq_true rfl, Nat.le_of_ble_eq_true rfl⟩ rfl rfl rfl rfl (by simp [y_cat, y_catI, y_catJ]) d_H_become_66 h (fun r16 u17 h => ?_)
      refine y_stk (stp0 := [va_re w.1 r16]) rfl ?_
      refine y_astore C (i := 4) (lvp := [(3, va_re w.1 r14), (0, va_re w.1 a0), (1, va_re w.1 a1), (2, .int a2)]) d_H_become_69 (by decide) (by simp [List.filter, y_cat, y_catI, y_catJ]) ?_
      refine y_aload_n C (i := 3) 1 d_H_become_71 rfl rfl ?_
      obtain ⟨q18, hq18, h⟩ := ob_e h
      have hJq18 : yG p l e ({ frames := 1, cells := 0, slots := 0, locals := 21 } : Room) s m args below meth c YX w 5 Q q18 86 [(0, va_re w.1 a0), (1, va_re w.1 a1), (2, .int a2)] [] := by
        refine y_iinc C (j := 2) (v := 1) (lvp := [(0, va_re w.1 a0), (1, va_re w.1 a1)]) d_H_become_86 rfl (by decide) (by decide) (by simp [List.filter, y_cat, y_catI, y_catJ]) h (fun x23 h => ?_)
        refine y_goto C (tgt := 50) d_H_become_89 (by decide) ?_
        exact y_sub [1, 2, 0] rfl (ih _ _ h)
      refine y_ifnull C 86 d_H_become_72 (by decide) hq18 (fun k19 hq18 => ?_) (fun k19 hq18 => ?_)
      · cases hq18
        exact y_sub [2, 3, 4] rfl hJq18
      · refine y_aload C (i := 4) 0 d_H_become_75 rfl ?_
        refine y_ifnull C 86 d_H_become_77 (by decide) hq18 (fun k20 hq18 => ?_) (fun k20 hq18 => ?_)
        · cases hq18
          exact y_sub [2, 3, 4] rfl hJq18
        · refine y_aload_n C (i := 3) 1 d_H_become_80 rfl rfl ?_
          refine y_aload C (i := 4) 0 d_H_become_81 rfl ?_
          refine y_callV 1 C (q := (yR0, yT0, 8)) (ci := 0) (fun t out hh => c_G_become l w F u17 t r16 out hh) gc_H_become_53 rfl (by decide) hd_G_become ⟨Nat.le_of_ble_eq_true rfl, Nat.le_of_ble_eq_true rfl⟩ rfl rfl rfl rfl (by simp [y_cat, y_catI, y_catJ]) d_H_become_83 hq18 (fun v21 u22 hq18 => ?_)
          refine y_stk (stp0 := []) rfl ?_
          cases hq18
          exact y_sub [2, 3, 4] rfl hJq18
set_option maxHeartbeats 4000000 in
set_option maxRecDepth 100000 in
def f_H_become_L94 (F : Nat) (a0 : Option Nat) (a1 : Option Nat) (k : Mm → Option (Unit × Mm)) : Nat → Mm → Int32 → Option (Unit × Mm)
  | 0, _, _ => none
  | n + 1, u, a2 => ob (jgi YX 2 3 u a0) fun (x25 : Int32) => (if x25 ≤ a2 then k u  else ob (jk YX 2 a0) fun t => yb (f_H_guestAt F u t a2) fun r27 u28 => ob (jk YX 2 a1) fun t => yb (f_H_guestAt F u28 t a2) fun r29 u30 => ob ((if r27 = none then some u30 else (if r29 = none then some u30 else ob (jk YX 1 r27) fun t => yb (f_U_become F u30 t r29) fun v34 u35 => some u35)) : Option (Mm)) fun q31 => ob (some (a2 + (1 : Int32))) fun (x36 : Int32) => f_H_become_L94 F a0 a1 k n q31 x36)
set_option maxHeartbeats 4000000 in
set_option maxRecDepth 100000 in
theorem w_H_become_L94 {p : Program} {l : Launch} {e : Env} {s : State} {m : MethodId} {args : Array Value} {below : List Frame} {meth : Method} {c : Code} {w : WP} {Q : State → Prop} (F : Nat) (C : yX p e ({ frames := 1, cells := 0, slots := 0, locals := 21 } : Room) s m args c YX w 5 prog_4_method_2_code "WhoseGlass$House") (hr : meth.sig.returnType = none) (hlocks : meth.locks = false) (a0 : Option Nat) (a1 : Option Nat) {out : Unit × Mm} (k : Mm → Option (Unit × Mm)) (hk : ∀ (u : Mm), k u  = some out → yG p l e ({ frames := 1, cells := 0, slots := 0, locals := 21 } : Room) s m args below meth c YX w 5 Q u 136 [] []) : ∀ (n : Nat) (u : Mm) (a2 : Int32), f_H_become_L94 F a0 a1 k n u a2 = some out → yG p l e ({ frames := 1, cells := 0, slots := 0, locals := 21 } : Room) s m args below meth c YX w 5 Q u 94 [(0, va_re w.1 a0), (1, va_re w.1 a1), (2, .int a2)] [] := by
  intro n
  induction n with
  | zero => intro u a2 h; rw [f_H_become_L94] at h; cases h
  | succ n ih =>
    intro u a2 h
    rw [f_H_become_L94] at h
    refine y_iload_n C (i := 2) 2 d_H_become_94 rfl rfl ?_
    refine y_aload_n C (i := 0) 0 d_H_become_95 rfl rfl ?_
    refine y_gi C (q := (yR2, yT2, 9)) (ci := 2) (k := 3) rfl (by decide) rfl g_135 d_H_become_96 h (fun x25 h => ?_)
    refine y_ic_ge C 136 d_H_become_99 (by decide) h (fun k26 h => ?_) (fun k26 h => ?_)
    · exact y_sub [] rfl (hk _ h)
    · refine y_aload_n C (i := 0) 0 d_H_become_102 rfl rfl ?_
      refine y_iload_n C (i := 2) 2 d_H_become_103 rfl rfl ?_
      refine y_callV 1 C (q := (yR2, yT2, 9)) (ci := 2) (fun t out hh => c_H_guestAt l w F u t a2 out hh) gc_H_become_57 rfl (by decide) hd_H_guestAt ⟨Nat.le_of_ble_eq_true rfl, Nat.le_of_ble_eq_true rfl⟩ rfl rfl rfl rfl (by simp [y_cat, y_catI, y_catJ]) d_H_become_104 h (fun r27 u28 h => ?_)
      refine y_stk (stp0 := [va_re w.1 r27]) rfl ?_
      refine y_astore_n C (i := 3) (lvp := [(0, va_re w.1 a0), (1, va_re w.1 a1), (2, .int a2)]) d_H_become_107 rfl (by decide) (by simp [List.filter, y_cat, y_catI, y_catJ]) ?_
      refine y_aload_n C (i := 1) 2 d_H_become_108 rfl rfl ?_
      refine y_iload_n C (i := 2) 3 d_H_become_109 rfl rfl ?_
      refine y_callV 1 C (q := (yR2, yT2, 9)) (ci := 2) (fun t out hh => c_H_guestAt l w F u28 t a2 out hh) gc_H_become_57 rfl (by decide) hd_H_guestAt ⟨Nat.le_of_ble_eq_true rfl, Nat.le_of_ble_eq_true rfl⟩ rfl rfl rfl rfl (by simp [y_cat, y_catI, y_catJ]) d_H_become_110 h (fun r29 u30 h => ?_)
      refine y_stk (stp0 := [va_re w.1 r29]) rfl ?_
      refine y_astore C (i := 4) (lvp := [(3, va_re w.1 r27), (0, va_re w.1 a0), (1, va_re w.1 a1), (2, .int a2)]) d_H_become_113 (by decide) (by simp [List.filter, y_cat, y_catI, y_catJ]) ?_
      refine y_aload_n C (i := 3) 1 d_H_become_115 rfl rfl ?_
      obtain ⟨q31, hq31, h⟩ := ob_e h
      have hJq31 : yG p l e ({ frames := 1, cells := 0, slots := 0, locals := 21 } : Room) s m args below meth c YX w 5 Q q31 130 [(0, va_re w.1 a0), (1, va_re w.1 a1), (2, .int a2)] [] := by
        refine y_iinc C (j := 2) (v := 1) (lvp := [(0, va_re w.1 a0), (1, va_re w.1 a1)]) d_H_become_130 rfl (by decide) (by decide) (by simp [List.filter, y_cat, y_catI, y_catJ]) h (fun x36 h => ?_)
        refine y_goto C (tgt := 94) d_H_become_133 (by decide) ?_
        exact y_sub [1, 2, 0] rfl (ih _ _ h)
      refine y_ifnull C 130 d_H_become_116 (by decide) hq31 (fun k32 hq31 => ?_) (fun k32 hq31 => ?_)
      · cases hq31
        exact y_sub [2, 3, 4] rfl hJq31
      · refine y_aload C (i := 4) 0 d_H_become_119 rfl ?_
        refine y_ifnull C 130 d_H_become_121 (by decide) hq31 (fun k33 hq31 => ?_) (fun k33 hq31 => ?_)
        · cases hq31
          exact y_sub [2, 3, 4] rfl hJq31
        · refine y_aload_n C (i := 3) 1 d_H_become_124 rfl rfl ?_
          refine y_aload C (i := 4) 0 d_H_become_125 rfl ?_
          refine y_callV 1 C (q := (yR1, yT1, 10)) (ci := 1) (fun t out hh => c_U_become l w F u30 t r29 out hh) gc_H_become_61 rfl (by decide) hd_U_become ⟨Nat.le_of_ble_eq_true rfl, Nat.le_of_ble_eq_true rfl⟩ rfl rfl rfl rfl (by simp [y_cat, y_catI, y_catJ]) d_H_become_127 hq31 (fun v34 u35 hq31 => ?_)
          refine y_stk (stp0 := []) rfl ?_
          cases hq31
          exact y_sub [2, 3, 4] rfl hJq31
set_option maxRecDepth 100000 in
def f_H_become (F : Nat) (u : Mm) (o : Nat) (a1 : Option Nat) : Option (Unit × Mm) := ob (jgi YX 2 2 u a1) fun (x1 : Int32) => ob (jpi YX 2 2 u (some o) x1) fun (u2 : Mm) => ob (jgi YX 2 3 u2 a1) fun (x3 : Int32) => ob (jpi YX 2 3 u2 (some o) x3) fun (u4 : Mm) => ob (jgi YX 2 4 u4 a1) fun (x5 : Int32) => ob (jpi YX 2 4 u4 (some o) x5) fun (u6 : Mm) => ob (jgi YX 2 5 u6 a1) fun (x7 : Int32) => ob (jpi YX 2 5 u6 (some o) x7) fun (u8 : Mm) => ob (jpi YX 2 6 u8 (some o) (0 : Int32)) fun (u9 : Mm) => ob (jpi YX 2 7 u9 (some o) (0 : Int32)) fun (u10 : Mm) => ob (jpi YX 2 8 u10 (some o) (-4 : Int32)) fun (u11 : Mm) => f_H_become_L50 F (some o) a1 (fun (u24 : Mm) => f_H_become_L94 F (some o) a1 (fun (u37 : Mm) => some ((), u37)) F u24 (0 : Int32)) F u11 (0 : Int32)
set_option maxHeartbeats 4000000 in
set_option maxRecDepth 100000 in
theorem c_H_become (l : Launch) (w : WP) (F : Nat) (u : Mm) (o : Nat) (a1 : Option Nat) (out : Unit × Mm) (h : f_H_become F u o a1 = some out) : yMet l m_H_become ws_H_become ({ frames := 1, cells := 0, slots := 0, locals := 21 } : Room) YX w u [va_re w.1 (some o), va_re w.1 a1] yfv out := by
  refine y_entry (own := "WhoseGlass$House") (lv := [(0, va_re w.1 (some o)), (1, va_re w.1 a1)]) (by decide +kernel) rfl (by simp [lv_args, y_cat, y_catI, y_catJ]) (by simp [lg_sl, y_cat, y_catI, y_catJ]) ?_
  intro p e s m args below meth c C hr hlocks
  unfold f_H_become at h
  refine y_aload_n C (i := 0) 0 d_H_become_0 rfl rfl ?_
  refine y_aload_n C (i := 1) 1 d_H_become_1 rfl rfl ?_
  refine y_gi C (q := (yR2, yT2, 9)) (ci := 2) (k := 2) rfl (by decide) rfl g_133 d_H_become_2 h (fun x1 h => ?_)
  refine y_pi C (q := (yR2, yT2, 9)) (ci := 2) (k := 2) rfl (by decide) rfl rfl (by decide +kernel) g_133 d_H_become_5 h (fun u2 h => ?_)
  refine y_aload_n C (i := 0) 0 d_H_become_8 rfl rfl ?_
  refine y_aload_n C (i := 1) 1 d_H_become_9 rfl rfl ?_
  refine y_gi C (q := (yR2, yT2, 9)) (ci := 2) (k := 3) rfl (by decide) rfl g_135 d_H_become_10 h (fun x3 h => ?_)
  refine y_pi C (q := (yR2, yT2, 9)) (ci := 2) (k := 3) rfl (by decide) rfl rfl (by decide +kernel) g_135 d_H_become_13 h (fun u4 h => ?_)
  refine y_aload_n C (i := 0) 0 d_H_become_16 rfl rfl ?_
  refine y_aload_n C (i := 1) 1 d_H_become_17 rfl rfl ?_
  refine y_gi C (q := (yR2, yT2, 9)) (ci := 2) (k := 4) rfl (by decide) rfl g_137 d_H_become_18 h (fun x5 h => ?_)
  refine y_pi C (q := (yR2, yT2, 9)) (ci := 2) (k := 4) rfl (by decide) rfl rfl (by decide +kernel) g_137 d_H_become_21 h (fun u6 h => ?_)
  refine y_aload_n C (i := 0) 0 d_H_become_24 rfl rfl ?_
  refine y_aload_n C (i := 1) 1 d_H_become_25 rfl rfl ?_
  refine y_gi C (q := (yR2, yT2, 9)) (ci := 2) (k := 5) rfl (by decide) rfl g_140 d_H_become_26 h (fun x7 h => ?_)
  refine y_pi C (q := (yR2, yT2, 9)) (ci := 2) (k := 5) rfl (by decide) rfl rfl (by decide +kernel) g_140 d_H_become_29 h (fun u8 h => ?_)
  refine y_aload_n C (i := 0) 0 d_H_become_32 rfl rfl ?_
  refine y_iconst C (v := 0) d_H_become_33 (by decide) ?_
  refine y_pi C (q := (yR2, yT2, 9)) (ci := 2) (k := 6) rfl (by decide) rfl rfl (by decide +kernel) g_143 d_H_become_34 h (fun u9 h => ?_)
  refine y_aload_n C (i := 0) 0 d_H_become_37 rfl rfl ?_
  refine y_iconst C (v := 0) d_H_become_38 (by decide) ?_
  refine y_pi C (q := (yR2, yT2, 9)) (ci := 2) (k := 7) rfl (by decide) rfl rfl (by decide +kernel) g_145 d_H_become_39 h (fun u10 h => ?_)
  refine y_aload_n C (i := 0) 0 d_H_become_42 rfl rfl ?_
  refine y_bipush C (v := -4) d_H_become_43 (by decide) ?_
  refine y_pi C (q := (yR2, yT2, 9)) (ci := 2) (k := 8) rfl (by decide) rfl rfl (by decide +kernel) g_147 d_H_become_45 h (fun u11 h => ?_)
  refine y_iconst C (v := 0) d_H_become_48 (by decide) ?_
  refine y_istore_n C (i := 2) (lvp := [(0, va_re w.1 (some o)), (1, va_re w.1 a1)]) d_H_become_49 rfl (by decide) (by simp [List.filter, y_cat, y_catI, y_catJ]) ?_
  refine y_sub [1, 2, 0] rfl (w_H_become_L50 F C hr hlocks _ _ _ (fun u24 h => ?_) _ _ _ h)
  refine y_iconst C (v := 0) d_H_become_92 (by decide) ?_
  refine y_istore_n C (i := 2) (lvp := [(0, va_re w.1 (some o)), (1, va_re w.1 a1)]) d_H_become_93 rfl (by decide) (by simp [List.filter, y_cat, y_catI, y_catJ]) ?_
  refine y_sub [1, 2, 0] rfl (w_H_become_L94 F C hr hlocks _ _ _ (fun u37 h => ?_) _ _ _ h)
  exact y_vret C hr hlocks d_H_become_136 h
/-! X_isMultiple -/
theorem d_X_isMultiple_0 : decode prog_1_method_44_code 0 = .ok (.iload_n 1, 1) := by decide +kernel
theorem d_X_isMultiple_1 : decode prog_1_method_44_code 1 = .ok (.ifCond .le 13, 3) := by decide +kernel
theorem d_X_isMultiple_4 : decode prog_1_method_44_code 4 = .ok (.iload_n 0, 1) := by decide +kernel
theorem d_X_isMultiple_5 : decode prog_1_method_44_code 5 = .ok (.iload_n 1, 1) := by decide +kernel
theorem d_X_isMultiple_6 : decode prog_1_method_44_code 6 = .ok (.irem, 1) := by decide +kernel
theorem d_X_isMultiple_7 : decode prog_1_method_44_code 7 = .ok (.ifCond .ne 7, 3) := by decide +kernel
theorem d_X_isMultiple_10 : decode prog_1_method_44_code 10 = .ok (.iconst 1, 1) := by decide +kernel
theorem d_X_isMultiple_11 : decode prog_1_method_44_code 11 = .ok (.goto 4, 3) := by decide +kernel
theorem d_X_isMultiple_14 : decode prog_1_method_44_code 14 = .ok (.iconst 0, 1) := by decide +kernel
theorem d_X_isMultiple_15 : decode prog_1_method_44_code 15 = .ok (.ireturn, 1) := by decide +kernel
set_option maxRecDepth 100000 in
def f_X_isMultiple (F : Nat) (u : Mm) (a0 : Int32) (a1 : Int32) : Option (Int32 × Mm) := (if a1 ≤ 0 then ob (jz (0 : Int32)) (fun v => some (v, u)) else ob (jrm a0 a1) fun (x2 : Int32) => (if x2 = 0 then ob (jz (1 : Int32)) (fun v => some (v, u)) else ob (jz (0 : Int32)) (fun v => some (v, u))))
set_option maxHeartbeats 4000000 in
set_option maxRecDepth 100000 in
theorem c_X_isMultiple (l : Launch) (w : WP) (F : Nat) (u : Mm) (a0 : Int32) (a1 : Int32) (out : Int32 × Mm) (h : f_X_isMultiple F u a0 a1 = some out) : yMet l m_X_isMultiple ws_X_isMultiple ({ frames := 0, cells := 0, slots := 0, locals := 0 } : Room) YX w u [.int a0, .int a1] yfi out := by
  refine y_entry (own := "WhoseGlass") (lv := [(0, .int a0), (1, .int a1)]) (by decide +kernel) rfl (by simp [lv_args, y_cat, y_catI, y_catJ]) (by simp [lg_sl, y_cat, y_catI, y_catJ]) ?_
  intro p e s m args below meth c C hr hlocks
  unfold f_X_isMultiple at h
  refine y_iload_n C (i := 1) 1 d_X_isMultiple_0 rfl rfl ?_
  refine y_if_le C 14 d_X_isMultiple_1 (by decide) h (fun k1 h => ?_) (fun k1 h => ?_)
  · refine y_iconst C (v := 0) d_X_isMultiple_14 (by decide) ?_
    exact y_zret C hr hlocks d_X_isMultiple_15 h
  · refine y_iload_n C (i := 0) 0 d_X_isMultiple_4 rfl rfl ?_
    refine y_iload_n C (i := 1) 1 d_X_isMultiple_5 rfl rfl ?_
    refine y_irem C d_X_isMultiple_6 h (fun x2 h => ?_)
    refine y_if_ne C 14 d_X_isMultiple_7 (by decide) h (fun k3 h => ?_) (fun k3 h => ?_)
    · refine y_iconst C (v := 1) d_X_isMultiple_10 (by decide) ?_
      refine y_goto C (tgt := 15) d_X_isMultiple_11 (by decide) ?_
      exact y_zret C hr hlocks d_X_isMultiple_15 h
    · refine y_iconst C (v := 0) d_X_isMultiple_14 (by decide) ?_
      exact y_zret C hr hlocks d_X_isMultiple_15 h
/-! H_placeBehind -/
theorem d_H_placeBehind_0 : decode prog_4_method_9_code 0 = .ok (.iload_n 1, 1) := by decide +kernel
theorem d_H_placeBehind_1 : decode prog_4_method_9_code 1 = .ok (.iconst 1, 1) := by decide +kernel
theorem d_H_placeBehind_2 : decode prog_4_method_9_code 2 = .ok (.iadd, 1) := by decide +kernel
theorem d_H_placeBehind_3 : decode prog_4_method_9_code 3 = .ok (.bipush 6, 2) := by decide +kernel
theorem d_H_placeBehind_5 : decode prog_4_method_9_code 5 = .ok (.irem, 1) := by decide +kernel
theorem d_H_placeBehind_6 : decode prog_4_method_9_code 6 = .ok (.istore_n 2, 1) := by decide +kernel
theorem d_H_placeBehind_7 : decode prog_4_method_9_code 7 = .ok (.iload_n 2, 1) := by decide +kernel
theorem d_H_placeBehind_8 : decode prog_4_method_9_code 8 = .ok (.aload_n 0, 1) := by decide +kernel
theorem d_H_placeBehind_9 : decode prog_4_method_9_code 9 = .ok (.getfield 27, 3) := by decide +kernel
theorem d_H_placeBehind_12 : decode prog_4_method_9_code 12 = .ok (.if_icmp .ne 12, 3) := by decide +kernel
theorem d_H_placeBehind_15 : decode prog_4_method_9_code 15 = .ok (.iload_n 2, 1) := by decide +kernel
theorem d_H_placeBehind_16 : decode prog_4_method_9_code 16 = .ok (.iconst 1, 1) := by decide +kernel
theorem d_H_placeBehind_17 : decode prog_4_method_9_code 17 = .ok (.iadd, 1) := by decide +kernel
theorem d_H_placeBehind_18 : decode prog_4_method_9_code 18 = .ok (.bipush 6, 2) := by decide +kernel
theorem d_H_placeBehind_20 : decode prog_4_method_9_code 20 = .ok (.irem, 1) := by decide +kernel
theorem d_H_placeBehind_21 : decode prog_4_method_9_code 21 = .ok (.goto 4, 3) := by decide +kernel
theorem d_H_placeBehind_24 : decode prog_4_method_9_code 24 = .ok (.iload_n 2, 1) := by decide +kernel
theorem d_H_placeBehind_25 : decode prog_4_method_9_code 25 = .ok (.ireturn, 1) := by decide +kernel
set_option maxRecDepth 100000 in
def f_H_placeBehind (F : Nat) (u : Mm) (o : Nat) (a1 : Int32) : Option (Int32 × Mm) := ob (jrm (a1 + (1 : Int32)) (6 : Int32)) fun (x1 : Int32) => ob (jgi YX 2 8 u (some o)) fun (x2 : Int32) => (if x1 = x2 then ob (jrm (x1 + (1 : Int32)) (6 : Int32)) fun (x4 : Int32) => some (x4, u) else some (x1, u))
set_option maxHeartbeats 4000000 in
set_option maxRecDepth 100000 in
theorem c_H_placeBehind (l : Launch) (w : WP) (F : Nat) (u : Mm) (o : Nat) (a1 : Int32) (out : Int32 × Mm) (h : f_H_placeBehind F u o a1 = some out) : yMet l m_H_placeBehind ws_H_placeBehind ({ frames := 0, cells := 0, slots := 0, locals := 0 } : Room) YX w u [va_re w.1 (some o), .int a1] yfi out := by
  refine y_entry (own := "WhoseGlass$House") (lv := [(0, va_re w.1 (some o)), (1, .int a1)]) (by decide +kernel) rfl (by simp [lv_args, y_cat, y_catI, y_catJ]) (by simp [lg_sl, y_cat, y_catI, y_catJ]) ?_
  intro p e s m args below meth c C hr hlocks
  unfold f_H_placeBehind at h
  refine y_iload_n C (i := 1) 1 d_H_placeBehind_0 rfl rfl ?_
  refine y_iconst C (v := 1) d_H_placeBehind_1 (by decide) ?_
  refine y_iadd C d_H_placeBehind_2 ?_
  refine y_bipush C (v := 6) d_H_placeBehind_3 (by decide) ?_
  refine y_irem C d_H_placeBehind_5 h (fun x1 h => ?_)
  refine y_istore_n C (i := 2) (lvp := [(0, va_re w.1 (some o)), (1, .int a1)]) d_H_placeBehind_6 rfl (by decide) rfl ?_
  refine y_iload_n C (i := 2) 0 d_H_placeBehind_7 rfl rfl ?_
  refine y_aload_n C (i := 0) 1 d_H_placeBehind_8 rfl rfl ?_
  refine y_gi C (q := (yR2, yT2, 9)) (ci := 2) (k := 8) rfl (by decide) rfl g_147 d_H_placeBehind_9 h (fun x2 h => ?_)
  refine y_ic_ne C 24 d_H_placeBehind_12 (by decide) h (fun k3 h => ?_) (fun k3 h => ?_)
  · refine y_iload_n C (i := 2) 0 d_H_placeBehind_15 rfl rfl ?_
    refine y_iconst C (v := 1) d_H_placeBehind_16 (by decide) ?_
    refine y_iadd C d_H_placeBehind_17 ?_
    refine y_bipush C (v := 6) d_H_placeBehind_18 (by decide) ?_
    refine y_irem C d_H_placeBehind_20 h (fun x4 h => ?_)
    refine y_goto C (tgt := 25) d_H_placeBehind_21 (by decide) ?_
    exact y_iret C hr hlocks d_H_placeBehind_25 h
  · refine y_iload_n C (i := 2) 0 d_H_placeBehind_24 rfl rfl ?_
    exact y_iret C hr hlocks d_H_placeBehind_25 h
/-! G_likeTo -/
theorem d_G_likeTo_0 : decode prog_2_method_8_code 0 = .ok (.aload_n 0, 1) := by decide +kernel
theorem d_G_likeTo_1 : decode prog_2_method_8_code 1 = .ok (.getfield 9, 3) := by decide +kernel
theorem d_G_likeTo_4 : decode prog_2_method_8_code 4 = .ok (.aload_n 1, 1) := by decide +kernel
theorem d_G_likeTo_5 : decode prog_2_method_8_code 5 = .ok (.getfield 9, 3) := by decide +kernel
theorem d_G_likeTo_8 : decode prog_2_method_8_code 8 = .ok (.if_icmp .ne 7, 3) := by decide +kernel
theorem d_G_likeTo_11 : decode prog_2_method_8_code 11 = .ok (.iconst 1, 1) := by decide +kernel
theorem d_G_likeTo_12 : decode prog_2_method_8_code 12 = .ok (.goto 4, 3) := by decide +kernel
theorem d_G_likeTo_15 : decode prog_2_method_8_code 15 = .ok (.iconst 0, 1) := by decide +kernel
theorem d_G_likeTo_16 : decode prog_2_method_8_code 16 = .ok (.istore_n 2, 1) := by decide +kernel
theorem d_G_likeTo_17 : decode prog_2_method_8_code 17 = .ok (.aload_n 0, 1) := by decide +kernel
theorem d_G_likeTo_18 : decode prog_2_method_8_code 18 = .ok (.getfield 18, 3) := by decide +kernel
theorem d_G_likeTo_21 : decode prog_2_method_8_code 21 = .ok (.aload_n 1, 1) := by decide +kernel
theorem d_G_likeTo_22 : decode prog_2_method_8_code 22 = .ok (.getfield 18, 3) := by decide +kernel
theorem d_G_likeTo_25 : decode prog_2_method_8_code 25 = .ok (.if_icmp .ne 7, 3) := by decide +kernel
theorem d_G_likeTo_28 : decode prog_2_method_8_code 28 = .ok (.iconst 3, 1) := by decide +kernel
theorem d_G_likeTo_29 : decode prog_2_method_8_code 29 = .ok (.goto 4, 3) := by decide +kernel
theorem d_G_likeTo_32 : decode prog_2_method_8_code 32 = .ok (.iconst 1, 1) := by decide +kernel
theorem d_G_likeTo_33 : decode prog_2_method_8_code 33 = .ok (.istore_n 3, 1) := by decide +kernel
theorem d_G_likeTo_34 : decode prog_2_method_8_code 34 = .ok (.aload_n 1, 1) := by decide +kernel
theorem d_G_likeTo_35 : decode prog_2_method_8_code 35 = .ok (.getfield 15, 3) := by decide +kernel
theorem d_G_likeTo_38 : decode prog_2_method_8_code 38 = .ok (.iconst 2, 1) := by decide +kernel
theorem d_G_likeTo_39 : decode prog_2_method_8_code 39 = .ok (.if_icmp .eq 11, 3) := by decide +kernel
theorem d_G_likeTo_42 : decode prog_2_method_8_code 42 = .ok (.aload_n 1, 1) := by decide +kernel
theorem d_G_likeTo_43 : decode prog_2_method_8_code 43 = .ok (.getfield 15, 3) := by decide +kernel
theorem d_G_likeTo_46 : decode prog_2_method_8_code 46 = .ok (.iconst 4, 1) := by decide +kernel
theorem d_G_likeTo_47 : decode prog_2_method_8_code 47 = .ok (.if_icmp .ne 7, 3) := by decide +kernel
theorem d_G_likeTo_50 : decode prog_2_method_8_code 50 = .ok (.iconst 1, 1) := by decide +kernel
theorem d_G_likeTo_51 : decode prog_2_method_8_code 51 = .ok (.goto 4, 3) := by decide +kernel
theorem d_G_likeTo_54 : decode prog_2_method_8_code 54 = .ok (.iconst 0, 1) := by decide +kernel
theorem d_G_likeTo_55 : decode prog_2_method_8_code 55 = .ok (.istore 4, 2) := by decide +kernel
theorem d_G_likeTo_57 : decode prog_2_method_8_code 57 = .ok (.aload_n 1, 1) := by decide +kernel
theorem d_G_likeTo_58 : decode prog_2_method_8_code 58 = .ok (.getfield 15, 3) := by decide +kernel
theorem d_G_likeTo_61 : decode prog_2_method_8_code 61 = .ok (.iconst 3, 1) := by decide +kernel
theorem d_G_likeTo_62 : decode prog_2_method_8_code 62 = .ok (.if_icmp .eq 21, 3) := by decide +kernel
theorem d_G_likeTo_65 : decode prog_2_method_8_code 65 = .ok (.aload_n 1, 1) := by decide +kernel
theorem d_G_likeTo_66 : decode prog_2_method_8_code 66 = .ok (.getfield 15, 3) := by decide +kernel
theorem d_G_likeTo_69 : decode prog_2_method_8_code 69 = .ok (.bipush 6, 2) := by decide +kernel
theorem d_G_likeTo_71 : decode prog_2_method_8_code 71 = .ok (.if_icmp .eq 12, 3) := by decide +kernel
theorem d_G_likeTo_74 : decode prog_2_method_8_code 74 = .ok (.aload_n 1, 1) := by decide +kernel
theorem d_G_likeTo_75 : decode prog_2_method_8_code 75 = .ok (.getfield 15, 3) := by decide +kernel
theorem d_G_likeTo_78 : decode prog_2_method_8_code 78 = .ok (.bipush 7, 2) := by decide +kernel
theorem d_G_likeTo_80 : decode prog_2_method_8_code 80 = .ok (.if_icmp .ne 7, 3) := by decide +kernel
theorem d_G_likeTo_83 : decode prog_2_method_8_code 83 = .ok (.iconst 1, 1) := by decide +kernel
theorem d_G_likeTo_84 : decode prog_2_method_8_code 84 = .ok (.goto 4, 3) := by decide +kernel
theorem d_G_likeTo_87 : decode prog_2_method_8_code 87 = .ok (.iconst 0, 1) := by decide +kernel
theorem d_G_likeTo_88 : decode prog_2_method_8_code 88 = .ok (.istore 5, 2) := by decide +kernel
theorem d_G_likeTo_90 : decode prog_2_method_8_code 90 = .ok (.iload 4, 2) := by decide +kernel
theorem d_G_likeTo_92 : decode prog_2_method_8_code 92 = .ok (.ifCond .eq 9, 3) := by decide +kernel
theorem d_G_likeTo_95 : decode prog_2_method_8_code 95 = .ok (.iload_n 3, 1) := by decide +kernel
theorem d_G_likeTo_96 : decode prog_2_method_8_code 96 = .ok (.iconst 3, 1) := by decide +kernel
theorem d_G_likeTo_97 : decode prog_2_method_8_code 97 = .ok (.iadd, 1) := by decide +kernel
theorem d_G_likeTo_98 : decode prog_2_method_8_code 98 = .ok (.goto 4, 3) := by decide +kernel
theorem d_G_likeTo_101 : decode prog_2_method_8_code 101 = .ok (.iload_n 3, 1) := by decide +kernel
theorem d_G_likeTo_102 : decode prog_2_method_8_code 102 = .ok (.istore 6, 2) := by decide +kernel
theorem d_G_likeTo_104 : decode prog_2_method_8_code 104 = .ok (.iload 5, 2) := by decide +kernel
theorem d_G_likeTo_106 : decode prog_2_method_8_code 106 = .ok (.ifCond .eq 9, 3) := by decide +kernel
theorem d_G_likeTo_109 : decode prog_2_method_8_code 109 = .ok (.iload_n 3, 1) := by decide +kernel
theorem d_G_likeTo_110 : decode prog_2_method_8_code 110 = .ok (.iconst 4, 1) := by decide +kernel
theorem d_G_likeTo_111 : decode prog_2_method_8_code 111 = .ok (.iadd, 1) := by decide +kernel
theorem d_G_likeTo_112 : decode prog_2_method_8_code 112 = .ok (.goto 4, 3) := by decide +kernel
theorem d_G_likeTo_115 : decode prog_2_method_8_code 115 = .ok (.iload_n 3, 1) := by decide +kernel
theorem d_G_likeTo_116 : decode prog_2_method_8_code 116 = .ok (.istore 7, 2) := by decide +kernel
theorem d_G_likeTo_118 : decode prog_2_method_8_code 118 = .ok (.iload_n 2, 1) := by decide +kernel
theorem d_G_likeTo_119 : decode prog_2_method_8_code 119 = .ok (.ifCond .eq 8, 3) := by decide +kernel
theorem d_G_likeTo_122 : decode prog_2_method_8_code 122 = .ok (.bipush 20, 2) := by decide +kernel
theorem d_G_likeTo_124 : decode prog_2_method_8_code 124 = .ok (.goto 4, 3) := by decide +kernel
theorem d_G_likeTo_127 : decode prog_2_method_8_code 127 = .ok (.iconst 0, 1) := by decide +kernel
theorem d_G_likeTo_128 : decode prog_2_method_8_code 128 = .ok (.istore 8, 2) := by decide +kernel
theorem d_G_likeTo_130 : decode prog_2_method_8_code 130 = .ok (.aload_n 0, 1) := by decide +kernel
theorem d_G_likeTo_131 : decode prog_2_method_8_code 131 = .ok (.getfield 15, 3) := by decide +kernel
theorem d_G_likeTo_134 : decode prog_2_method_8_code 134 = .ok (.tableswitch 116 1 7 #[42, 45, 48, 51, 69, 88, 102], 42) := by decide +kernel
theorem d_G_likeTo_176 : decode prog_2_method_8_code 176 = .ok (.iload 8, 2) := by decide +kernel
theorem d_G_likeTo_178 : decode prog_2_method_8_code 178 = .ok (.ireturn, 1) := by decide +kernel
theorem d_G_likeTo_179 : decode prog_2_method_8_code 179 = .ok (.iload 6, 2) := by decide +kernel
theorem d_G_likeTo_181 : decode prog_2_method_8_code 181 = .ok (.ireturn, 1) := by decide +kernel
theorem d_G_likeTo_182 : decode prog_2_method_8_code 182 = .ok (.iload 7, 2) := by decide +kernel
theorem d_G_likeTo_184 : decode prog_2_method_8_code 184 = .ok (.ireturn, 1) := by decide +kernel
theorem d_G_likeTo_185 : decode prog_2_method_8_code 185 = .ok (.aload_n 1, 1) := by decide +kernel
theorem d_G_likeTo_186 : decode prog_2_method_8_code 186 = .ok (.getfield 15, 3) := by decide +kernel
theorem d_G_likeTo_189 : decode prog_2_method_8_code 189 = .ok (.iconst 4, 1) := by decide +kernel
theorem d_G_likeTo_190 : decode prog_2_method_8_code 190 = .ok (.if_icmp .ne 10, 3) := by decide +kernel
theorem d_G_likeTo_193 : decode prog_2_method_8_code 193 = .ok (.iload 6, 2) := by decide +kernel
theorem d_G_likeTo_195 : decode prog_2_method_8_code 195 = .ok (.iconst 1, 1) := by decide +kernel
theorem d_G_likeTo_196 : decode prog_2_method_8_code 196 = .ok (.iadd, 1) := by decide +kernel
theorem d_G_likeTo_197 : decode prog_2_method_8_code 197 = .ok (.goto 5, 3) := by decide +kernel
theorem d_G_likeTo_200 : decode prog_2_method_8_code 200 = .ok (.iload 6, 2) := by decide +kernel
theorem d_G_likeTo_202 : decode prog_2_method_8_code 202 = .ok (.ireturn, 1) := by decide +kernel
theorem d_G_likeTo_203 : decode prog_2_method_8_code 203 = .ok (.aload_n 1, 1) := by decide +kernel
theorem d_G_likeTo_204 : decode prog_2_method_8_code 204 = .ok (.getfield 15, 3) := by decide +kernel
theorem d_G_likeTo_207 : decode prog_2_method_8_code 207 = .ok (.iconst 5, 1) := by decide +kernel
theorem d_G_likeTo_208 : decode prog_2_method_8_code 208 = .ok (.if_icmp .ne 11, 3) := by decide +kernel
theorem d_G_likeTo_211 : decode prog_2_method_8_code 211 = .ok (.iload_n 2, 1) := by decide +kernel
theorem d_G_likeTo_212 : decode prog_2_method_8_code 212 = .ok (.ifCond .ne 7, 3) := by decide +kernel
theorem d_G_likeTo_215 : decode prog_2_method_8_code 215 = .ok (.iconst 5, 1) := by decide +kernel
theorem d_G_likeTo_216 : decode prog_2_method_8_code 216 = .ok (.goto 5, 3) := by decide +kernel
theorem d_G_likeTo_219 : decode prog_2_method_8_code 219 = .ok (.iload 8, 2) := by decide +kernel
theorem d_G_likeTo_221 : decode prog_2_method_8_code 221 = .ok (.ireturn, 1) := by decide +kernel
theorem d_G_likeTo_222 : decode prog_2_method_8_code 222 = .ok (.iload_n 2, 1) := by decide +kernel
theorem d_G_likeTo_223 : decode prog_2_method_8_code 223 = .ok (.ifCond .eq 10, 3) := by decide +kernel
theorem d_G_likeTo_226 : decode prog_2_method_8_code 226 = .ok (.iconst 2, 1) := by decide +kernel
theorem d_G_likeTo_227 : decode prog_2_method_8_code 227 = .ok (.iload 7, 2) := by decide +kernel
theorem d_G_likeTo_229 : decode prog_2_method_8_code 229 = .ok (.imul, 1) := by decide +kernel
theorem d_G_likeTo_230 : decode prog_2_method_8_code 230 = .ok (.goto 5, 3) := by decide +kernel
theorem d_G_likeTo_233 : decode prog_2_method_8_code 233 = .ok (.iload 7, 2) := by decide +kernel
theorem d_G_likeTo_235 : decode prog_2_method_8_code 235 = .ok (.ireturn, 1) := by decide +kernel
theorem d_G_likeTo_236 : decode prog_2_method_8_code 236 = .ok (.aload_n 1, 1) := by decide +kernel
theorem d_G_likeTo_237 : decode prog_2_method_8_code 237 = .ok (.getfield 21, 3) := by decide +kernel
theorem d_G_likeTo_240 : decode prog_2_method_8_code 240 = .ok (.ifCond .ne 7, 3) := by decide +kernel
theorem d_G_likeTo_243 : decode prog_2_method_8_code 243 = .ok (.iconst 0, 1) := by decide +kernel
theorem d_G_likeTo_244 : decode prog_2_method_8_code 244 = .ok (.goto 5, 3) := by decide +kernel
theorem d_G_likeTo_247 : decode prog_2_method_8_code 247 = .ok (.iload 7, 2) := by decide +kernel
theorem d_G_likeTo_249 : decode prog_2_method_8_code 249 = .ok (.ireturn, 1) := by decide +kernel
theorem d_G_likeTo_250 : decode prog_2_method_8_code 250 = .ok (.iload_n 3, 1) := by decide +kernel
theorem d_G_likeTo_251 : decode prog_2_method_8_code 251 = .ok (.ireturn, 1) := by decide +kernel
set_option maxRecDepth 100000 in
def f_G_likeTo (F : Nat) (u : Mm) (o : Nat) (a1 : Option Nat) : Option (Int32 × Mm) := ob (jgi YX 0 0 u (some o)) fun (x1 : Int32) => ob (jgi YX 0 0 u a1) fun (x2 : Int32) => ob ((if x1 = x2 then some (1 : Int32) else some (0 : Int32)) : Option (Int32)) fun q3 => ob (jgi YX 0 2 u (some o)) fun (x5 : Int32) => ob (jgi YX 0 2 u a1) fun (x6 : Int32) => ob ((if x5 = x6 then some (3 : Int32) else some (1 : Int32)) : Option (Int32)) fun q7 => ob (jgi YX 0 1 u a1) fun (x9 : Int32) => ob ((if x9 = (2 : Int32) then some (1 : Int32) else ob (jgi YX 0 1 u a1) fun (x12 : Int32) => (if x12 = (4 : Int32) then some (1 : Int32) else some (0 : Int32))) : Option (Int32)) fun q10 => ob (jgi YX 0 1 u a1) fun (x14 : Int32) => ob ((if x14 = (3 : Int32) then some (1 : Int32) else ob (jgi YX 0 1 u a1) fun (x17 : Int32) => (if x17 = (6 : Int32) then some (1 : Int32) else ob (jgi YX 0 1 u a1) fun (x19 : Int32) => (if x19 = (7 : Int32) then some (1 : Int32) else some (0 : Int32)))) : Option (Int32)) fun q15 => ob ((if q10 = 0 then some q7 else some (q7 + (3 : Int32))) : Option (Int32)) fun q21 => ob ((if q15 = 0 then some q7 else some (q7 + (4 : Int32))) : Option (Int32)) fun q23 => ob ((if q3 = 0 then some (0 : Int32) else some (20 : Int32)) : Option (Int32)) fun q25 => ob (jgi YX 0 1 u (some o)) fun (x27 : Int32) => (if x27 = (1 : Int32) then some (q25, u) else (if x27 = (2 : Int32) then some (q21, u) else (if x27 = (3 : Int32) then some (q23, u) else (if x27 = (4 : Int32) then ob (jgi YX 0 1 u a1) fun (x32 : Int32) => (if x32 = (4 : Int32) then some ((q21 + (1 : Int32)), u) else some (q21, u)) else (if x27 = (5 : Int32) then ob (jgi YX 0 1 u a1) fun (x35 : Int32) => (if x35 = (5 : Int32) then (if q3 = 0 then some ((5 : Int32), u) else some (q25, u)) else some (q25, u)) else (if x27 = (6 : Int32) then (if q3 = 0 then some (q23, u) else some (((2 : Int32) * q23), u)) else (if x27 = (7 : Int32) then ob (jgi YX 0 3 u a1) fun (x41 : Int32) => (if x41 = 0 then some ((0 : Int32), u) else some (q23, u)) else some (q7, u))))))))
set_option maxHeartbeats 4000000 in
set_option maxRecDepth 100000 in
theorem c_G_likeTo (l : Launch) (w : WP) (F : Nat) (u : Mm) (o : Nat) (a1 : Option Nat) (out : Int32 × Mm) (h : f_G_likeTo F u o a1 = some out) : yMet l m_G_likeTo ws_G_likeTo ({ frames := 0, cells := 0, slots := 0, locals := 0 } : Room) YX w u [va_re w.1 (some o), va_re w.1 a1] yfi out := by
  refine y_entry (own := "WhoseGlass$Glass") (lv := [(0, va_re w.1 (some o)), (1, va_re w.1 a1)]) (by decide +kernel) rfl (by simp [lv_args, y_cat, y_catI, y_catJ]) (by simp [lg_sl, y_cat, y_catI, y_catJ]) ?_
  intro p e s m args below meth c C hr hlocks
  unfold f_G_likeTo at h
  refine y_aload_n C (i := 0) 0 d_G_likeTo_0 rfl rfl ?_
  refine y_gi C (q := (yR0, yT0, 8)) (ci := 0) (k := 0) rfl (by decide) rfl g_39 d_G_likeTo_1 h (fun x1 h => ?_)
  refine y_aload_n C (i := 1) 1 d_G_likeTo_4 rfl rfl ?_
  refine y_gi C (q := (yR0, yT0, 8)) (ci := 0) (k := 0) rfl (by decide) rfl g_39 d_G_likeTo_5 h (fun x2 h => ?_)
  obtain ⟨q3, hq3, h⟩ := ob_e h
  have hJq3 : yG p l e ({ frames := 0, cells := 0, slots := 0, locals := 0 } : Room) s m args below meth c YX w 9 (MQ below (yQ YX w yfi out) args s 0 0 (yA YX w)) u 16 [(0, va_re w.1 (some o)), (1, va_re w.1 a1)] [.int q3] := by
    refine y_istore_n C (i := 2) (lvp := [(0, va_re w.1 (some o)), (1, va_re w.1 a1)]) d_G_likeTo_16 rfl (by decide) (by simp [List.filter, y_cat, y_catI, y_catJ]) ?_
    refine y_aload_n C (i := 0) 1 d_G_likeTo_17 rfl rfl ?_
    refine y_gi C (q := (yR0, yT0, 8)) (ci := 0) (k := 2) rfl (by decide) rfl g_45 d_G_likeTo_18 h (fun x5 h => ?_)
    refine y_aload_n C (i := 1) 2 d_G_likeTo_21 rfl rfl ?_
    refine y_gi C (q := (yR0, yT0, 8)) (ci := 0) (k := 2) rfl (by decide) rfl g_45 d_G_likeTo_22 h (fun x6 h => ?_)
    obtain ⟨q7, hq7, h⟩ := ob_e h
    have hJq7 : yG p l e ({ frames := 0, cells := 0, slots := 0, locals := 0 } : Room) s m args below meth c YX w 9 (MQ below (yQ YX w yfi out) args s 0 0 (yA YX w)) u 33 [(0, va_re w.1 (some o)), (1, va_re w.1 a1), (2, .int q3)] [.int q7] := by
      refine y_istore_n C (i := 3) (lvp := [(0, va_re w.1 (some o)), (1, va_re w.1 a1), (2, .int q3)]) d_G_likeTo_33 rfl (by decide) rfl ?_
      refine y_aload_n C (i := 1) 2 d_G_likeTo_34 rfl rfl ?_
      refine y_gi C (q := (yR0, yT0, 8)) (ci := 0) (k := 1) rfl (by decide) rfl g_43 d_G_likeTo_35 h (fun x9 h => ?_)
      refine y_iconst C (v := 2) d_G_likeTo_38 (by decide) ?_
      obtain ⟨q10, hq10, h⟩ := ob_e h
      have hJq10 : yG p l e ({ frames := 0, cells := 0, slots := 0, locals := 0 } : Room) s m args below meth c YX w 9 (MQ below (yQ YX w yfi out) args s 0 0 (yA YX w)) u 55 [(0, va_re w.1 (some o)), (1, va_re w.1 a1), (2, .int q3), (3, .int q7)] [.int q10] := by
        refine y_istore C (i := 4) (lvp := [(0, va_re w.1 (some o)), (1, va_re w.1 a1), (2, .int q3), (3, .int q7)]) d_G_likeTo_55 (by decide) rfl ?_
        refine y_aload_n C (i := 1) 2 d_G_likeTo_57 rfl rfl ?_
        refine y_gi C (q := (yR0, yT0, 8)) (ci := 0) (k := 1) rfl (by decide) rfl g_43 d_G_likeTo_58 h (fun x14 h => ?_)
        refine y_iconst C (v := 3) d_G_likeTo_61 (by decide) ?_
        obtain ⟨q15, hq15, h⟩ := ob_e h
        have hJq15 : yG p l e ({ frames := 0, cells := 0, slots := 0, locals := 0 } : Room) s m args below meth c YX w 9 (MQ below (yQ YX w yfi out) args s 0 0 (yA YX w)) u 88 [(0, va_re w.1 (some o)), (1, va_re w.1 a1), (2, .int q3), (3, .int q7), (4, .int q10)] [.int q15] := by
          refine y_istore C (i := 5) (lvp := [(0, va_re w.1 (some o)), (1, va_re w.1 a1), (2, .int q3), (3, .int q7), (4, .int q10)]) d_G_likeTo_88 (by decide) rfl ?_
          refine y_iload C (i := 4) 5 d_G_likeTo_90 rfl ?_
          obtain ⟨q21, hq21, h⟩ := ob_e h
          have hJq21 : yG p l e ({ frames := 0, cells := 0, slots := 0, locals := 0 } : Room) s m args below meth c YX w 9 (MQ below (yQ YX w yfi out) args s 0 0 (yA YX w)) u 102 [(0, va_re w.1 (some o)), (1, va_re w.1 a1), (2, .int q3), (3, .int q7), (5, .int q15)] [.int q21] := by
            refine y_istore C (i := 6) (lvp := [(0, va_re w.1 (some o)), (1, va_re w.1 a1), (2, .int q3), (3, .int q7), (5, .int q15)]) d_G_likeTo_102 (by decide) rfl ?_
            refine y_iload C (i := 5) 5 d_G_likeTo_104 rfl ?_
            obtain ⟨q23, hq23, h⟩ := ob_e h
            have hJq23 : yG p l e ({ frames := 0, cells := 0, slots := 0, locals := 0 } : Room) s m args below meth c YX w 9 (MQ below (yQ YX w yfi out) args s 0 0 (yA YX w)) u 116 [(0, va_re w.1 (some o)), (1, va_re w.1 a1), (2, .int q3), (3, .int q7), (6, .int q21)] [.int q23] := by
              refine y_istore C (i := 7) (lvp := [(0, va_re w.1 (some o)), (1, va_re w.1 a1), (2, .int q3), (3, .int q7), (6, .int q21)]) d_G_likeTo_116 (by decide) rfl ?_
              refine y_iload_n C (i := 2) 3 d_G_likeTo_118 rfl rfl ?_
              obtain ⟨q25, hq25, h⟩ := ob_e h
              have hJq25 : yG p l e ({ frames := 0, cells := 0, slots := 0, locals := 0 } : Room) s m args below meth c YX w 9 (MQ below (yQ YX w yfi out) args s 0 0 (yA YX w)) u 128 [(0, va_re w.1 (some o)), (1, va_re w.1 a1), (2, .int q3), (3, .int q7), (6, .int q21), (7, .int q23)] [.int q25] := by
                refine y_istore C (i := 8) (lvp := [(0, va_re w.1 (some o)), (1, va_re w.1 a1), (2, .int q3), (3, .int q7), (6, .int q21), (7, .int q23)]) d_G_likeTo_128 (by decide) rfl ?_
                refine y_aload_n C (i := 0) 1 d_G_likeTo_130 rfl rfl ?_
                refine y_gi C (q := (yR0, yT0, 8)) (ci := 0) (k := 1) rfl (by decide) rfl g_43 d_G_likeTo_131 h (fun x27 h => ?_)
                refine y_sp h (fun k28 h => ?_) (fun k28 h => ?_)
                · refine y_tsw C (off := 42) 176 d_G_likeTo_134 (Or.inr ⟨by rw [k28]; decide, by rw [k28]; decide, by rw [k28]; rfl⟩) (by decide) ?_
                  refine y_iload C (i := 8) 0 d_G_likeTo_176 rfl ?_
                  exact y_iret C hr hlocks d_G_likeTo_178 h
                refine y_sp h (fun k29 h => ?_) (fun k29 h => ?_)
                · refine y_tsw C (off := 45) 179 d_G_likeTo_134 (Or.inr ⟨by rw [k29]; decide, by rw [k29]; decide, by rw [k29]; rfl⟩) (by decide) ?_
                  refine y_iload C (i := 6) 5 d_G_likeTo_179 rfl ?_
                  exact y_iret C hr hlocks d_G_likeTo_181 h
                refine y_sp h (fun k30 h => ?_) (fun k30 h => ?_)
                · refine y_tsw C (off := 48) 182 d_G_likeTo_134 (Or.inr ⟨by rw [k30]; decide, by rw [k30]; decide, by rw [k30]; rfl⟩) (by decide) ?_
                  refine y_iload C (i := 7) 6 d_G_likeTo_182 rfl ?_
                  exact y_iret C hr hlocks d_G_likeTo_184 h
                refine y_sp h (fun k31 h => ?_) (fun k31 h => ?_)
                · refine y_tsw C (off := 51) 185 d_G_likeTo_134 (Or.inr ⟨by rw [k31]; decide, by rw [k31]; decide, by rw [k31]; rfl⟩) (by decide) ?_
                  refine y_aload_n C (i := 1) 2 d_G_likeTo_185 rfl rfl ?_
                  refine y_gi C (q := (yR0, yT0, 8)) (ci := 0) (k := 1) rfl (by decide) rfl g_43 d_G_likeTo_186 h (fun x32 h => ?_)
                  refine y_iconst C (v := 4) d_G_likeTo_189 (by decide) ?_
                  refine y_ic_ne C 200 d_G_likeTo_190 (by decide) h (fun k33 h => ?_) (fun k33 h => ?_)
                  · refine y_iload C (i := 6) 5 d_G_likeTo_193 rfl ?_
                    refine y_iconst C (v := 1) d_G_likeTo_195 (by decide) ?_
                    refine y_iadd C d_G_likeTo_196 ?_
                    refine y_goto C (tgt := 202) d_G_likeTo_197 (by decide) ?_
                    exact y_iret C hr hlocks d_G_likeTo_202 h
                  · refine y_iload C (i := 6) 5 d_G_likeTo_200 rfl ?_
                    exact y_iret C hr hlocks d_G_likeTo_202 h
                refine y_sp h (fun k34 h => ?_) (fun k34 h => ?_)
                · refine y_tsw C (off := 69) 203 d_G_likeTo_134 (Or.inr ⟨by rw [k34]; decide, by rw [k34]; decide, by rw [k34]; rfl⟩) (by decide) ?_
                  refine y_aload_n C (i := 1) 2 d_G_likeTo_203 rfl rfl ?_
                  refine y_gi C (q := (yR0, yT0, 8)) (ci := 0) (k := 1) rfl (by decide) rfl g_43 d_G_likeTo_204 h (fun x35 h => ?_)
                  refine y_iconst C (v := 5) d_G_likeTo_207 (by decide) ?_
                  refine y_ic_ne C 219 d_G_likeTo_208 (by decide) h (fun k36 h => ?_) (fun k36 h => ?_)
                  · refine y_iload_n C (i := 2) 3 d_G_likeTo_211 rfl rfl ?_
                    refine y_if_ne C 219 d_G_likeTo_212 (by decide) h (fun k37 h => ?_) (fun k37 h => ?_)
                    · refine y_iconst C (v := 5) d_G_likeTo_215 (by decide) ?_
                      refine y_goto C (tgt := 221) d_G_likeTo_216 (by decide) ?_
                      exact y_iret C hr hlocks d_G_likeTo_221 h
                    · refine y_iload C (i := 8) 0 d_G_likeTo_219 rfl ?_
                      exact y_iret C hr hlocks d_G_likeTo_221 h
                  · refine y_iload C (i := 8) 0 d_G_likeTo_219 rfl ?_
                    exact y_iret C hr hlocks d_G_likeTo_221 h
                refine y_sp h (fun k38 h => ?_) (fun k38 h => ?_)
                · refine y_tsw C (off := 88) 222 d_G_likeTo_134 (Or.inr ⟨by rw [k38]; decide, by rw [k38]; decide, by rw [k38]; rfl⟩) (by decide) ?_
                  refine y_iload_n C (i := 2) 3 d_G_likeTo_222 rfl rfl ?_
                  refine y_if_eq C 233 d_G_likeTo_223 (by decide) h (fun k39 h => ?_) (fun k39 h => ?_)
                  · refine y_iload C (i := 7) 6 d_G_likeTo_233 rfl ?_
                    exact y_iret C hr hlocks d_G_likeTo_235 h
                  · refine y_iconst C (v := 2) d_G_likeTo_226 (by decide) ?_
                    refine y_iload C (i := 7) 6 d_G_likeTo_227 rfl ?_
                    refine y_imul C d_G_likeTo_229 ?_
                    refine y_goto C (tgt := 235) d_G_likeTo_230 (by decide) ?_
                    exact y_iret C hr hlocks d_G_likeTo_235 h
                refine y_sp h (fun k40 h => ?_) (fun k40 h => ?_)
                · refine y_tsw C (off := 102) 236 d_G_likeTo_134 (Or.inr ⟨by rw [k40]; decide, by rw [k40]; decide, by rw [k40]; rfl⟩) (by decide) ?_
                  refine y_aload_n C (i := 1) 2 d_G_likeTo_236 rfl rfl ?_
                  refine y_gi C (q := (yR0, yT0, 8)) (ci := 0) (k := 3) rfl (by decide) rfl g_46 d_G_likeTo_237 h (fun x41 h => ?_)
                  refine y_if_ne C 247 d_G_likeTo_240 (by decide) h (fun k42 h => ?_) (fun k42 h => ?_)
                  · refine y_iconst C (v := 0) d_G_likeTo_243 (by decide) ?_
                    refine y_goto C (tgt := 249) d_G_likeTo_244 (by decide) ?_
                    exact y_iret C hr hlocks d_G_likeTo_249 h
                  · refine y_iload C (i := 7) 6 d_G_likeTo_247 rfl ?_
                    exact y_iret C hr hlocks d_G_likeTo_249 h
                refine y_tsw C (off := 116) 250 d_G_likeTo_134 (Or.inl ⟨by have ak28 := lv_neT (a := 1) k28 rfl; have ak29 := lv_neT (a := 2) k29 rfl; have ak30 := lv_neT (a := 3) k30 rfl; have ak31 := lv_neT (a := 4) k31 rfl; have ak34 := lv_neT (a := 5) k34 rfl; have ak38 := lv_neT (a := 6) k38 rfl; have ak40 := lv_neT (a := 7) k40 rfl; omega, rfl⟩) (by decide) ?_
                refine y_iload_n C (i := 3) 4 d_G_likeTo_250 rfl rfl ?_
                exact y_iret C hr hlocks d_G_likeTo_251 h
              refine y_if_eq C 127 d_G_likeTo_119 (by decide) hq25 (fun k26 hq25 => ?_) (fun k26 hq25 => ?_)
              · refine y_iconst C (v := 0) d_G_likeTo_127 (by decide) ?_
                cases hq25
                exact y_sub [1, 2, 3, 4, 5, 0] rfl hJq25
              · refine y_bipush C (v := 20) d_G_likeTo_122 (by decide) ?_
                refine y_goto C (tgt := 128) d_G_likeTo_124 (by decide) ?_
                cases hq25
                exact y_sub [1, 2, 3, 4, 5, 0] rfl hJq25
            refine y_if_eq C 115 d_G_likeTo_106 (by decide) hq23 (fun k24 hq23 => ?_) (fun k24 hq23 => ?_)
            · refine y_iload_n C (i := 3) 4 d_G_likeTo_115 rfl rfl ?_
              cases hq23
              exact y_sub [1, 2, 3, 4, 0] rfl hJq23
            · refine y_iload_n C (i := 3) 4 d_G_likeTo_109 rfl rfl ?_
              refine y_iconst C (v := 4) d_G_likeTo_110 (by decide) ?_
              refine y_iadd C d_G_likeTo_111 ?_
              refine y_goto C (tgt := 116) d_G_likeTo_112 (by decide) ?_
              cases hq23
              exact y_sub [1, 2, 3, 4, 0] rfl hJq23
          refine y_if_eq C 101 d_G_likeTo_92 (by decide) hq21 (fun k22 hq21 => ?_) (fun k22 hq21 => ?_)
          · refine y_iload_n C (i := 3) 4 d_G_likeTo_101 rfl rfl ?_
            cases hq21
            exact y_sub [1, 2, 3, 4, 0] rfl hJq21
          · refine y_iload_n C (i := 3) 4 d_G_likeTo_95 rfl rfl ?_
            refine y_iconst C (v := 3) d_G_likeTo_96 (by decide) ?_
            refine y_iadd C d_G_likeTo_97 ?_
            refine y_goto C (tgt := 102) d_G_likeTo_98 (by decide) ?_
            cases hq21
            exact y_sub [1, 2, 3, 4, 0] rfl hJq21
        refine y_ic_eq C 83 d_G_likeTo_62 (by decide) hq15 (fun k16 hq15 => ?_) (fun k16 hq15 => ?_)
        · refine y_iconst C (v := 1) d_G_likeTo_83 (by decide) ?_
          refine y_goto C (tgt := 88) d_G_likeTo_84 (by decide) ?_
          cases hq15
          exact y_sub [1, 2, 3, 4, 0] rfl hJq15
        · refine y_aload_n C (i := 1) 2 d_G_likeTo_65 rfl rfl ?_
          refine y_gi C (q := (yR0, yT0, 8)) (ci := 0) (k := 1) rfl (by decide) rfl g_43 d_G_likeTo_66 hq15 (fun x17 hq15 => ?_)
          refine y_bipush C (v := 6) d_G_likeTo_69 (by decide) ?_
          refine y_ic_eq C 83 d_G_likeTo_71 (by decide) hq15 (fun k18 hq15 => ?_) (fun k18 hq15 => ?_)
          · refine y_iconst C (v := 1) d_G_likeTo_83 (by decide) ?_
            refine y_goto C (tgt := 88) d_G_likeTo_84 (by decide) ?_
            cases hq15
            exact y_sub [1, 2, 3, 4, 0] rfl hJq15
          · refine y_aload_n C (i := 1) 2 d_G_likeTo_74 rfl rfl ?_
            refine y_gi C (q := (yR0, yT0, 8)) (ci := 0) (k := 1) rfl (by decide) rfl g_43 d_G_likeTo_75 hq15 (fun x19 hq15 => ?_)
            refine y_bipush C (v := 7) d_G_likeTo_78 (by decide) ?_
            refine y_ic_ne C 87 d_G_likeTo_80 (by decide) hq15 (fun k20 hq15 => ?_) (fun k20 hq15 => ?_)
            · refine y_iconst C (v := 1) d_G_likeTo_83 (by decide) ?_
              refine y_goto C (tgt := 88) d_G_likeTo_84 (by decide) ?_
              cases hq15
              exact y_sub [1, 2, 3, 4, 0] rfl hJq15
            · refine y_iconst C (v := 0) d_G_likeTo_87 (by decide) ?_
              cases hq15
              exact y_sub [1, 2, 3, 4, 0] rfl hJq15
      refine y_ic_eq C 50 d_G_likeTo_39 (by decide) hq10 (fun k11 hq10 => ?_) (fun k11 hq10 => ?_)
      · refine y_iconst C (v := 1) d_G_likeTo_50 (by decide) ?_
        refine y_goto C (tgt := 55) d_G_likeTo_51 (by decide) ?_
        cases hq10
        exact y_sub [1, 2, 3, 0] rfl hJq10
      · refine y_aload_n C (i := 1) 2 d_G_likeTo_42 rfl rfl ?_
        refine y_gi C (q := (yR0, yT0, 8)) (ci := 0) (k := 1) rfl (by decide) rfl g_43 d_G_likeTo_43 hq10 (fun x12 hq10 => ?_)
        refine y_iconst C (v := 4) d_G_likeTo_46 (by decide) ?_
        refine y_ic_ne C 54 d_G_likeTo_47 (by decide) hq10 (fun k13 hq10 => ?_) (fun k13 hq10 => ?_)
        · refine y_iconst C (v := 1) d_G_likeTo_50 (by decide) ?_
          refine y_goto C (tgt := 55) d_G_likeTo_51 (by decide) ?_
          cases hq10
          exact y_sub [1, 2, 3, 0] rfl hJq10
        · refine y_iconst C (v := 0) d_G_likeTo_54 (by decide) ?_
          cases hq10
          exact y_sub [1, 2, 3, 0] rfl hJq10
    refine y_ic_ne C 32 d_G_likeTo_25 (by decide) hq7 (fun k8 hq7 => ?_) (fun k8 hq7 => ?_)
    · refine y_iconst C (v := 3) d_G_likeTo_28 (by decide) ?_
      refine y_goto C (tgt := 33) d_G_likeTo_29 (by decide) ?_
      cases hq7
      exact y_sub [1, 2, 0] rfl hJq7
    · refine y_iconst C (v := 1) d_G_likeTo_32 (by decide) ?_
      cases hq7
      exact y_sub [1, 2, 0] rfl hJq7
  refine y_ic_ne C 15 d_G_likeTo_8 (by decide) hq3 (fun k4 hq3 => ?_) (fun k4 hq3 => ?_)
  · refine y_iconst C (v := 1) d_G_likeTo_11 (by decide) ?_
    refine y_goto C (tgt := 16) d_G_likeTo_12 (by decide) ?_
    cases hq3
    exact y_sub [0, 1] rfl hJq3
  · refine y_iconst C (v := 0) d_G_likeTo_15 (by decide) ?_
    cases hq3
    exact y_sub [0, 1] rfl hJq3
