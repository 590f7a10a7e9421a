/-! PURE 83: the class made -/
theorem d_X_init_0 : decode prog_1_method_1_code 0 = .ok (.aload_n 0, 1) := by decide +kernel
theorem d_X_init_1 : decode prog_1_method_1_code 1 = .ok (.invokespecial 1, 3) := by decide +kernel
theorem d_X_init_4 : decode prog_1_method_1_code 4 = .ok (.aload_n 0, 1) := by decide +kernel
theorem d_X_init_5 : decode prog_1_method_1_code 5 = .ok (.new 7, 3) := by decide +kernel
theorem d_X_init_8 : decode prog_1_method_1_code 8 = .ok (.dup, 1) := by decide +kernel
theorem d_X_init_9 : decode prog_1_method_1_code 9 = .ok (.invokespecial 9, 3) := by decide +kernel
theorem d_X_init_12 : decode prog_1_method_1_code 12 = .ok (.putfield 10, 3) := by decide +kernel
theorem d_X_init_15 : decode prog_1_method_1_code 15 = .ok (.aload_n 0, 1) := by decide +kernel
theorem d_X_init_16 : decode prog_1_method_1_code 16 = .ok (.new 7, 3) := by decide +kernel
theorem d_X_init_19 : decode prog_1_method_1_code 19 = .ok (.dup, 1) := by decide +kernel
theorem d_X_init_20 : decode prog_1_method_1_code 20 = .ok (.invokespecial 9, 3) := by decide +kernel
theorem d_X_init_23 : decode prog_1_method_1_code 23 = .ok (.putfield 16, 3) := by decide +kernel
theorem d_X_init_26 : decode prog_1_method_1_code 26 = .ok (.aload_n 0, 1) := by decide +kernel
theorem d_X_init_27 : decode prog_1_method_1_code 27 = .ok (.new 7, 3) := by decide +kernel
theorem d_X_init_30 : decode prog_1_method_1_code 30 = .ok (.dup, 1) := by decide +kernel
theorem d_X_init_31 : decode prog_1_method_1_code 31 = .ok (.invokespecial 9, 3) := by decide +kernel
theorem d_X_init_34 : decode prog_1_method_1_code 34 = .ok (.putfield 19, 3) := by decide +kernel
theorem d_X_init_37 : decode prog_1_method_1_code 37 = .ok (.aload_n 0, 1) := by decide +kernel
theorem d_X_init_38 : decode prog_1_method_1_code 38 = .ok (.bipush 8, 2) := by decide +kernel
theorem d_X_init_40 : decode prog_1_method_1_code 40 = .ok (.anewarray 22, 3) := by decide +kernel
theorem d_X_init_43 : decode prog_1_method_1_code 43 = .ok (.putfield 24, 3) := by decide +kernel
theorem d_X_init_46 : decode prog_1_method_1_code 46 = .ok (.iconst 0, 1) := by decide +kernel
theorem d_X_init_47 : decode prog_1_method_1_code 47 = .ok (.istore_n 1, 1) := by decide +kernel
theorem d_X_init_48 : decode prog_1_method_1_code 48 = .ok (.iload_n 1, 1) := by decide +kernel
theorem d_X_init_49 : decode prog_1_method_1_code 49 = .ok (.bipush 8, 2) := by decide +kernel
theorem d_X_init_51 : decode prog_1_method_1_code 51 = .ok (.if_icmp .ge 22, 3) := by decide +kernel
theorem d_X_init_54 : decode prog_1_method_1_code 54 = .ok (.aload_n 0, 1) := by decide +kernel
theorem d_X_init_55 : decode prog_1_method_1_code 55 = .ok (.getfield 24, 3) := by decide +kernel
theorem d_X_init_58 : decode prog_1_method_1_code 58 = .ok (.iload_n 1, 1) := by decide +kernel
theorem d_X_init_59 : decode prog_1_method_1_code 59 = .ok (.new 22, 3) := by decide +kernel
theorem d_X_init_62 : decode prog_1_method_1_code 62 = .ok (.dup, 1) := by decide +kernel
theorem d_X_init_63 : decode prog_1_method_1_code 63 = .ok (.invokespecial 28, 3) := by decide +kernel
theorem d_X_init_66 : decode prog_1_method_1_code 66 = .ok (.aastore, 1) := by decide +kernel
theorem d_X_init_67 : decode prog_1_method_1_code 67 = .ok (.iinc 1 1, 3) := by decide +kernel
theorem d_X_init_70 : decode prog_1_method_1_code 70 = .ok (.goto (-22), 3) := by decide +kernel
theorem d_X_init_73 : decode prog_1_method_1_code 73 = .ok (.return_, 1) := by decide +kernel
def m_X_init : MethodName := ⟨"WhoseGlass", "<init>", "()V"⟩
abbrev ws_X_init : List Cond := yWs m_X_init prog_1_method_1_code 2 none
theorem hn_X_init : m_X_init.cls ≠ "java/lang/invoke/MethodHandle" ∧ m_X_init.cls ≠ "java/lang/invoke/VarHandle" ∧ (parseMethodDescriptor m_X_init.desc).map (fun d => d.parameters.length) = some 0 := ⟨by decide +kernel, by decide +kernel, by decide +kernel⟩
theorem gR_X0 {n : Nat} : gR n rX0 := ⟨fun _ _ _ e => (by cases e), fun _ _ _ => rfl⟩
theorem gM_X0 {n : Nat} : gM n m0X := ⟨fun _ _ _ => rfl, fun _ _ _ => rfl, rfl⟩
set_option maxHeartbeats 4000000 in
set_option maxRecDepth 100000 in
theorem c_X_init (l : Launch) (sz : Nat) (ad0 : Nat → Nat) (w2 : va_G × (Nat → ClassId)) : gMet l m_X_init ws_X_init ({ frames := 4, cells := 80, slots := 1405, locals := 110 } : Room) (1, kdX, lnX, rX0) (ad0, w2) m0X [.ref (ad0 0)] YX mXo 80 1405 sz := by
  refine g_entry (own := "WhoseGlass") (lv := [(0, .ref (ad0 0))]) (by decide +kernel) rfl rfl rfl (Nat.le_of_ble_eq_true rfl) ?_
  intro p e s m args below meth c ls C hr hlocks hl hsz hP hD hS hA
  obtain ⟨t0, hb0⟩ : ∃ t0, ad0 0 = t0 := ⟨_, rfl⟩
  rw [hb0] at hl
  refine lv_aload_n C.1 C.2.1 d_X_init_0 rfl (lv_at hl 0 rfl) ?_
  refine g_obj C hl z_21 d_X_init_1 (Nat.le_of_ble_eq_true rfl) (Nat.le_of_ble_eq_true rfl) ?_
  refine lv_aload_n C.1 C.2.1 d_X_init_4 rfl (lv_at hl 0 rfl) ?_
  refine g_new (ci := 2) (q := (yR2, yT2, 9)) C hP hD hS hA rfl rfl gR_X0 gM_X0 z_24 z_25 g_2 (Nat.le_of_ble_eq_true rfl) (Nat.le_of_ble_eq_true rfl) d_X_init_5 (fun ad1 H1 a1 hP hD hS => ?_)
  refine lv_dup C.1 C.2.1 d_X_init_8 rfl ?_
  refine g_call (y := m_H_init) (id := 1) (As := []) (mc := 20) (ms := 174) 0 C hl hP hD hS hA (show gMet l m_H_init ws_H_init _ (1 + 1, kdX, lnX, rX0) (ad1, w2) m0X [.ref (ad1 1)] (22, kdX, lnX, rHo 1 rX0) (mHo 1 m0X) 20 174 H1.size from c_H_init l 0 H1.size (by decide) rX0 ad1 w2 m0X gR_X0 gM_X0) (y_gc z_28) rfl rfl g_2 z_26 z_27 rfl hn_H_init ⟨Nat.le_of_ble_eq_true rfl, Nat.le_of_ble_eq_true rfl⟩ ⟨Nat.le_of_ble_eq_true rfl, Nat.le_of_ble_eq_true rfl⟩ rfl rfl (Nat.le_of_ble_eq_true rfl) d_X_init_9 (fun ad2 H2 locs2 a2 hP hD hS => ?_)
  have b2 : ad2 0 = t0 := (a2 0 (by decide)).trans ((a1 0 (by decide)).trans hb0)
  rw [← a2 1 (by decide), ← b2]
  refine g_putr (ci := 4) (q := (yR4, yT4, 5)) (id := 0) (k := 0) (t := 1) C hP hD hS (by decide) rfl rfl (by decide) rfl (by decide) g_202 rfl rfl (by rfl) (fun _ => rfl) (fun _ => rfl) d_X_init_12 (fun H3 locs3 hP hD hS => ?_)
  have R1 : gR 22 (rup (rHo 1 rX0) 0 0 1) := gR_put (gR_Ho (b := 1) gR_X0) (by decide) (by decide)
  have M1 : gM 22 (mHo 1 m0X) := gM_Ho (b := 1) gM_X0
  generalize hr1 : rup (rHo 1 rX0) 0 0 1 = rf1 at hP hD R1
  generalize hm1 : mHo 1 m0X = μ1 at hP hD M1
  refine lv_aload_n C.1 C.2.1 d_X_init_15 rfl (lv_at hl 0 rfl) ?_
  refine g_new (ci := 2) (q := (yR2, yT2, 9)) C hP hD hS hA rfl rfl R1 M1 z_24 z_25 g_2 (Nat.le_of_ble_eq_true rfl) (Nat.le_of_ble_eq_true rfl) d_X_init_16 (fun ad3 H3 a3 hP hD hS => ?_)
  refine lv_dup C.1 C.2.1 d_X_init_19 rfl ?_
  refine g_call (y := m_H_init) (id := 22) (As := []) (mc := 20) (ms := 174) 0 C hl hP hD hS hA (show gMet l m_H_init ws_H_init _ (22 + 1, kdX, lnX, rf1) (ad3, w2) μ1 [.ref (ad3 22)] (43, kdX, lnX, rHo 22 rf1) (mHo 22 μ1) 20 174 H3.size from c_H_init l 1 H3.size (by decide) rf1 ad3 w2 μ1 R1.up M1.up) (y_gc z_28) rfl rfl g_2 z_26 z_27 rfl hn_H_init ⟨Nat.le_of_ble_eq_true rfl, Nat.le_of_ble_eq_true rfl⟩ ⟨Nat.le_of_ble_eq_true rfl, Nat.le_of_ble_eq_true rfl⟩ rfl rfl (Nat.le_of_ble_eq_true rfl) d_X_init_20 (fun ad4 H4 locs4 a4 hP hD hS => ?_)
  have b4 : ad4 0 = t0 := (a4 0 (by decide)).trans ((a3 0 (by decide)).trans b2)
  rw [← a4 22 (by decide), ← b4]
  refine g_putr (ci := 4) (q := (yR4, yT4, 5)) (id := 0) (k := 1) (t := 22) C hP hD hS (by decide) rfl rfl (by decide) rfl (by decide) g_203 rfl rfl (by rfl) (fun _ => rfl) (fun _ => rfl) d_X_init_23 (fun H5 locs5 hP hD hS => ?_)
  have R2 : gR 43 (rup (rHo 22 rf1) 0 1 22) := gR_put (gR_Ho (b := 22) R1.up) (by decide) (by decide)
  have M2 : gM 43 (mHo 22 μ1) := gM_Ho (b := 22) M1.up
  generalize hr2 : rup (rHo 22 rf1) 0 1 22 = rf2 at hP hD R2
  generalize hm2 : mHo 22 μ1 = μ2 at hP hD M2
  refine lv_aload_n C.1 C.2.1 d_X_init_26 rfl (lv_at hl 0 rfl) ?_
  refine g_new (ci := 2) (q := (yR2, yT2, 9)) C hP hD hS hA rfl rfl R2 M2 z_24 z_25 g_2 (Nat.le_of_ble_eq_true rfl) (Nat.le_of_ble_eq_true rfl) d_X_init_27 (fun ad5 H5 a5 hP hD hS => ?_)
  refine lv_dup C.1 C.2.1 d_X_init_30 rfl ?_
  refine g_call (y := m_H_init) (id := 43) (As := []) (mc := 20) (ms := 174) 0 C hl hP hD hS hA (show gMet l m_H_init ws_H_init _ (43 + 1, kdX, lnX, rf2) (ad5, w2) μ2 [.ref (ad5 43)] (64, kdX, lnX, rHo 43 rf2) (mHo 43 μ2) 20 174 H5.size from c_H_init l 2 H5.size (by decide) rf2 ad5 w2 μ2 R2.up M2.up) (y_gc z_28) rfl rfl g_2 z_26 z_27 rfl hn_H_init ⟨Nat.le_of_ble_eq_true rfl, Nat.le_of_ble_eq_true rfl⟩ ⟨Nat.le_of_ble_eq_true rfl, Nat.le_of_ble_eq_true rfl⟩ rfl rfl (Nat.le_of_ble_eq_true rfl) d_X_init_31 (fun ad6 H6 locs6 a6 hP hD hS => ?_)
  have b6 : ad6 0 = t0 := (a6 0 (by decide)).trans ((a5 0 (by decide)).trans b4)
  rw [← a6 43 (by decide), ← b6]
  refine g_putr (ci := 4) (q := (yR4, yT4, 5)) (id := 0) (k := 2) (t := 43) C hP hD hS (by decide) rfl rfl (by decide) rfl (by decide) g_204 rfl rfl (by rfl) (fun _ => rfl) (fun _ => rfl) d_X_init_34 (fun H7 locs7 hP hD hS => ?_)
  have R3 : gR 64 (rup (rHo 43 rf2) 0 2 43) := gR_put (gR_Ho (b := 43) R2.up) (by decide) (by decide)
  have M3 : gM 64 (mHo 43 μ2) := gM_Ho (b := 43) M2.up
  generalize hr3 : rup (rHo 43 rf2) 0 2 43 = rf3 at hP hD R3
  generalize hm3 : mHo 43 μ2 = μ3 at hP hD M3
  refine lv_aload_n C.1 C.2.1 d_X_init_37 rfl (lv_at hl 0 rfl) ?_
  refine lv_bipush (v := 8) C.1 C.2.1 d_X_init_38 (by decide) ?_
  refine g_newr (N := 8) (ki := 2) (cn := "WhoseGlass$Shelf") C hP hD hS hA rfl rfl R3 M3 rfl z_168 C.2.2.2.2.2.2.2.1.2.2 (by decide) rfl (by decide) (Nat.le_of_ble_eq_true rfl) (Nat.le_of_ble_eq_true rfl) d_X_init_40 (fun ad7 H8 a7 hP hD hS => ?_)
  have b7 : ad7 0 = t0 := (a7 0 (by decide)).trans b6
  rw [← b7]
  refine g_putr (ci := 4) (q := (yR4, yT4, 5)) (id := 0) (k := 4) (t := 64) C hP hD hS (by decide) rfl rfl (by decide) rfl (by decide) g_206 rfl rfl (by rfl) (fun _ => rfl) (fun _ => rfl) d_X_init_43 (fun H9 locs9 hP hD hS => ?_)
  have R4 : gR 65 (rup rf3 0 4 64) := gR_put R3.up (by decide) (by decide)
  have erX : rXo = rSh 8 (rup rf3 0 4 64) := by unfold rXo; rw [hr1, hr2, hr3]
  have emX : mXo = μ3 := by unfold mXo; rw [hm1, hm2, hm3]
  have e04 : rup rf3 0 4 64 0 4 = some 64 := by unfold rup; rw [if_pos ⟨rfl, rfl⟩]
  generalize hr4 : rup rf3 0 4 64 = rf4 at hP hD R4 erX e04
  rw [emX]
  refine lv_iconst (v := 0) C.1 C.2.1 d_X_init_46 (by decide) ?_
  refine lv_istore_n (i := 1) (lv' := [(1, .int (nI 0)), (0, .ref t0)]) C.1 C.2.1 d_X_init_47 rfl hl (by decide) rfl (fun ls1 hl1 => ?_)
  refine W.widen (k := 64 + 2 * 0) (n := 557 + 106 * 0) (Nat.le_of_ble_eq_true rfl) (Nat.le_of_ble_eq_true rfl) ?_
  have lp : ∀ r d (ad : Nat → Nat) (H : Heap) (locs : List Loc) (ls : Array Slot), d + r = 8 → lv_has ls 2 [(1, .int (nI d)), (0, .ref t0)] → ad 0 = t0 → (∀ i, i < 1 → ad i = ad0 i) → va_P w2.1 yCl (yW (65 + 2 * d, kdX, lnX, rSh d rf4) (ad, w2) μ3) H → va_D (gA (1, kdX, lnX, rX0) (ad0, w2) sz) (yW (65 + 2 * d, kdX, lnX, rSh d rf4) (ad, w2) μ3) → va_S (gA (1, kdX, lnX, rX0) (ad0, w2) sz) s.heap H locs → W p l e ({ frames := 4, cells := 80, slots := 1405, locals := 110 } : Room) s m args below meth c H locs (64 + 2 * d) (557 + 106 * d) (MQ below (gQ (1, kdX, lnX, rX0) (ad0, w2) sz YX μ3) args s 80 1405 (gA (1, kdX, lnX, rX0) (ad0, w2) sz)) (F0 m 48 ls []) := by
    intro r
    induction r with
    | zero =>
      intro d ad H locs ls hj hl hb ha hP hD hS
      obtain rfl : d = 8 := by omega
      refine lv_iload_n C.1 C.2.1 d_X_init_48 rfl (lv_at hl 0 rfl) ?_
      refine lv_bipush (v := 8) C.1 C.2.1 d_X_init_49 (by decide) ?_
      refine lv_icmp_ge (tgt := 73) C.1 C.2.1 d_X_init_51 (by decide) (fun _ => ?_) (fun z => absurd (by decide) z)
      have hP1 : va_P w2.1 yCl (yW YX (ad, w2) μ3) H := yP_cg (Y := (81, kdX, lnX, rSh 8 rf4)) (Y' := YX) (w := (ad, w2)) (μ := μ3) (μ' := μ3) rfl (fun _ _ => rfl) (fun _ _ => rfl) (fun id k h1 h2 h3 => by
        have := rXo_e id h1 k h2 h3
        rw [erX] at this
        exact this) (fun _ _ _ _ => rfl) (fun _ _ _ _ => rfl) rfl hP
      have hD1 : va_D (gA (1, kdX, lnX, rX0) (ad0, w2) sz) (yW YX (ad, w2) μ3) := yD_cg (Y := (81, kdX, lnX, rSh 8 rf4)) (Y' := YX) (μ := μ3) rfl hD
      exact W.vret C.1 C.2.1 hr (fun t ht hW => ⟨ad, rfl, ha, by rw [ht]; exact hP1, hD1, hS.F ht⟩) hS.2.2 d_X_init_73 hlocks
    | succ r ih =>
      intro d ad H locs ls hj hl hb ha hP hD hS
      have hd : d < 8 := by omega
      have hRj : gR (65 + 2 * d) (rSh d rf4) := gR_Sh R4 rfl
      have hMj : gM (65 + 2 * d) μ3 := ⟨fun id k hq => M3.1 id k (by omega), fun id k hq => M3.2.1 id k (by omega), M3.2.2⟩
      refine lv_iload_n C.1 C.2.1 d_X_init_48 rfl (lv_at hl 0 rfl) ?_
      refine lv_bipush (v := 8) C.1 C.2.1 d_X_init_49 (by decide) ?_
      refine lv_icmp_ge (tgt := 73) C.1 C.2.1 d_X_init_51 (by decide) (fun z => absurd z (nI_ge (b := 8) hd (by decide))) (fun _ => ?_)
      refine lv_aload_n C.1 C.2.1 d_X_init_54 rfl (lv_at hl 1 rfl) ?_
      rw [← hb]
      refine g_getr (ci := 4) (q := (yR4, yT4, 5)) (id := 0) (k := 4) (t := 64) C hP (by omega) rfl rfl (by decide) rfl (by decide) (by unfold rSh; rw [if_neg (by omega), if_neg (by omega)]; exact e04) g_206 d_X_init_55 ?_
      refine lv_iload_n C.1 C.2.1 d_X_init_58 rfl (lv_at hl 0 rfl) ?_
      refine g_new (ci := 3) (q := (yR3, yT3, 6)) C hP hD hS hA rfl (ks0 hd) hRj hMj z_168 z_170 g_5 (by show 64 + 2 * d + 1 ≤ 80; omega) (by show 557 + 106 * d + 6 ≤ 1405; omega) d_X_init_59 (fun ad3 H3 a3 hP hD hS => ?_)
      refine lv_dup C.1 C.2.1 d_X_init_62 rfl ?_
      refine g_callN (y := m_S_init) (host := "WhoseGlass") (id := 65 + 2 * d) (As := []) (mc := 1) (ms := 100) 0 C hl hP hD hS hA (c_S_init l d H3.size hd (rSh d rf4) ad3 w2 μ3 hRj.up hMj.up (hMj.1 _ _ (Nat.le_refl _))) (y_gc z_173) rfl rfl g_5 (by decide +kernel) z_172 rfl hn_S_init ⟨Nat.le_of_ble_eq_true rfl, Nat.le_of_ble_eq_true rfl⟩ ⟨by show 64 + 2 * d + 1 + 1 ≤ 80; omega, by show 557 + 106 * d + 6 + 100 ≤ 1405; omega⟩ rfl rfl (Nat.le_of_ble_eq_true rfl) d_X_init_63 (fun ad4 H4 locs4 a4 hP hD hS => ?_)
      have b3 : ad3 0 = t0 := (a3 0 (by omega)).trans hb
      have b4 : ad4 0 = t0 := (a4 0 (by omega)).trans b3
      rw [← a3 64 (by omega), ← a4 64 (by omega), ← a4 (65 + 2 * d) (by omega)]
      refine g_asr (ci := 3) (q := (yR3, yT3, 6)) (ki := 2) (id := 64) (i := d) (t := 65 + 2 * d) C hP hD hS (by omega) rfl rfl (by omega) (ks0 hd) rfl (show d < 8 from hd) (by decide) d_X_init_66 (fun H5 locs5 hP hD hS => ?_)
      rw [rSh_s] at hP hD
      refine lv_iinc (k := 0) (v := nI (d + 1)) (lv' := [(1, .int (nI (d + 1))), (0, .ref t0)]) C.1 C.2.1 d_X_init_67 hl rfl (nI_1 d) (by decide) rfl (fun ls2 hl2 => ?_)
      refine lv_goto (tgt := 48) C.1 C.2.1 d_X_init_70 (by decide) ?_
      refine W.widen (k := 64 + 2 * (d + 1)) (n := 557 + 106 * (d + 1)) (by omega) (by show 557 + 106 * d + 6 + 100 ≤ _; omega) ?_
      have en : 65 + 2 * d + 1 + 1 = 65 + 2 * (d + 1) := by omega
      rw [en] at hP hD
      exact ih (d + 1) ad4 H5 locs5 ls2 (by omega) hl2 b4 (fun i hi => (a4 i (by omega)).trans ((a3 i (by omega)).trans (ha i hi))) hP hD hS
  refine lp 8 0 ad7 H9 locs9 ls1 rfl hl1 b7 (fun i hi => ?_) ?_ ?_ hS
  · obtain rfl : i = 0 := by omega
    rw [b7, hb0]
  · rw [rSh_0]; exact hP
  · rw [rSh_0]; exact hD
