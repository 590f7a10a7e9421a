/-! PURE 81: House, Shelf made -/
theorem d_H_init_0 : decode prog_4_method_1_code 0 = .ok (.aload_n 0, 1) := by decide +kernel
theorem d_H_init_1 : decode prog_4_method_1_code 1 = .ok (.invokespecial 3, 3) := by decide +kernel
theorem d_H_init_4 : decode prog_4_method_1_code 4 = .ok (.aload_n 0, 1) := by decide +kernel
theorem d_H_init_5 : decode prog_4_method_1_code 5 = .ok (.bipush 12, 2) := by decide +kernel
theorem d_H_init_7 : decode prog_4_method_1_code 7 = .ok (.anewarray 9, 3) := by decide +kernel
theorem d_H_init_10 : decode prog_4_method_1_code 10 = .ok (.putfield 11, 3) := by decide +kernel
theorem d_H_init_13 : decode prog_4_method_1_code 13 = .ok (.aload_n 0, 1) := by decide +kernel
theorem d_H_init_14 : decode prog_4_method_1_code 14 = .ok (.bipush 6, 2) := by decide +kernel
theorem d_H_init_16 : decode prog_4_method_1_code 16 = .ok (.anewarray 17, 3) := by decide +kernel
theorem d_H_init_19 : decode prog_4_method_1_code 19 = .ok (.putfield 19, 3) := by decide +kernel
theorem d_H_init_22 : decode prog_4_method_1_code 22 = .ok (.aload_n 0, 1) := by decide +kernel
theorem d_H_init_23 : decode prog_4_method_1_code 23 = .ok (.bipush 20, 2) := by decide +kernel
theorem d_H_init_25 : decode prog_4_method_1_code 25 = .ok (.putfield 23, 3) := by decide +kernel
theorem d_H_init_28 : decode prog_4_method_1_code 28 = .ok (.aload_n 0, 1) := by decide +kernel
theorem d_H_init_29 : decode prog_4_method_1_code 29 = .ok (.bipush (-4), 2) := by decide +kernel
theorem d_H_init_31 : decode prog_4_method_1_code 31 = .ok (.putfield 27, 3) := by decide +kernel
theorem d_H_init_34 : decode prog_4_method_1_code 34 = .ok (.iconst 0, 1) := by decide +kernel
theorem d_H_init_35 : decode prog_4_method_1_code 35 = .ok (.istore_n 1, 1) := by decide +kernel
theorem d_H_init_36 : decode prog_4_method_1_code 36 = .ok (.iload_n 1, 1) := by decide +kernel
theorem d_H_init_37 : decode prog_4_method_1_code 37 = .ok (.bipush 12, 2) := by decide +kernel
theorem d_H_init_39 : decode prog_4_method_1_code 39 = .ok (.if_icmp .ge 23, 3) := by decide +kernel
theorem d_H_init_42 : decode prog_4_method_1_code 42 = .ok (.aload_n 0, 1) := by decide +kernel
theorem d_H_init_43 : decode prog_4_method_1_code 43 = .ok (.getfield 11, 3) := by decide +kernel
theorem d_H_init_46 : decode prog_4_method_1_code 46 = .ok (.iload_n 1, 1) := by decide +kernel
theorem d_H_init_47 : decode prog_4_method_1_code 47 = .ok (.new 9, 3) := by decide +kernel
theorem d_H_init_50 : decode prog_4_method_1_code 50 = .ok (.dup, 1) := by decide +kernel
theorem d_H_init_51 : decode prog_4_method_1_code 51 = .ok (.iload_n 1, 1) := by decide +kernel
theorem d_H_init_52 : decode prog_4_method_1_code 52 = .ok (.invokespecial 30, 3) := by decide +kernel
theorem d_H_init_55 : decode prog_4_method_1_code 55 = .ok (.aastore, 1) := by decide +kernel
theorem d_H_init_56 : decode prog_4_method_1_code 56 = .ok (.iinc 1 1, 3) := by decide +kernel
theorem d_H_init_59 : decode prog_4_method_1_code 59 = .ok (.goto (-23), 3) := by decide +kernel
theorem d_H_init_62 : decode prog_4_method_1_code 62 = .ok (.iconst 0, 1) := by decide +kernel
theorem d_H_init_63 : decode prog_4_method_1_code 63 = .ok (.istore_n 1, 1) := by decide +kernel
theorem d_H_init_64 : decode prog_4_method_1_code 64 = .ok (.iload_n 1, 1) := by decide +kernel
theorem d_H_init_65 : decode prog_4_method_1_code 65 = .ok (.bipush 6, 2) := by decide +kernel
theorem d_H_init_67 : decode prog_4_method_1_code 67 = .ok (.if_icmp .ge 23, 3) := by decide +kernel
theorem d_H_init_70 : decode prog_4_method_1_code 70 = .ok (.aload_n 0, 1) := by decide +kernel
theorem d_H_init_71 : decode prog_4_method_1_code 71 = .ok (.getfield 19, 3) := by decide +kernel
theorem d_H_init_74 : decode prog_4_method_1_code 74 = .ok (.iload_n 1, 1) := by decide +kernel
theorem d_H_init_75 : decode prog_4_method_1_code 75 = .ok (.new 17, 3) := by decide +kernel
theorem d_H_init_78 : decode prog_4_method_1_code 78 = .ok (.dup, 1) := by decide +kernel
theorem d_H_init_79 : decode prog_4_method_1_code 79 = .ok (.iload_n 1, 1) := by decide +kernel
theorem d_H_init_80 : decode prog_4_method_1_code 80 = .ok (.invokespecial 33, 3) := by decide +kernel
theorem d_H_init_83 : decode prog_4_method_1_code 83 = .ok (.aastore, 1) := by decide +kernel
theorem d_H_init_84 : decode prog_4_method_1_code 84 = .ok (.iinc 1 1, 3) := by decide +kernel
theorem d_H_init_87 : decode prog_4_method_1_code 87 = .ok (.goto (-23), 3) := by decide +kernel
theorem d_H_init_90 : decode prog_4_method_1_code 90 = .ok (.return_, 1) := by decide +kernel
theorem d_S_init_0 : decode prog_6_method_1_code 0 = .ok (.aload_n 0, 1) := by decide +kernel
theorem d_S_init_1 : decode prog_6_method_1_code 1 = .ok (.invokespecial 3, 3) := by decide +kernel
theorem d_S_init_4 : decode prog_6_method_1_code 4 = .ok (.aload_n 0, 1) := by decide +kernel
theorem d_S_init_5 : decode prog_6_method_1_code 5 = .ok (.iconst 0, 1) := by decide +kernel
theorem d_S_init_6 : decode prog_6_method_1_code 6 = .ok (.putfield 9, 3) := by decide +kernel
theorem d_S_init_9 : decode prog_6_method_1_code 9 = .ok (.aload_n 0, 1) := by decide +kernel
theorem d_S_init_10 : decode prog_6_method_1_code 10 = .ok (.bipush 100, 2) := by decide +kernel
theorem d_S_init_12 : decode prog_6_method_1_code 12 = .ok (.newarray .int, 2) := by decide +kernel
theorem d_S_init_14 : decode prog_6_method_1_code 14 = .ok (.putfield 15, 3) := by decide +kernel
theorem d_S_init_17 : decode prog_6_method_1_code 17 = .ok (.return_, 1) := by decide +kernel
def rL (a o i : Nat) (rf : Nat → Nat → Option Nat) : Nat → Nat → Option Nat := fun id k => if id = a ∧ k < i then some (o + k) else rf id k
def mL (o i : Nat) (μ : Mm) : Mm := (fun id k => if o ≤ id ∧ id < o + i ∧ k = 0 then nI (id - o) else μ.1 id k, μ.2.1, μ.2.2)
theorem rL_0 {a o : Nat} {rf : Nat → Nat → Option Nat} : rL a o 0 rf = rf := by
  funext id k
  exact if_neg (fun z => Nat.not_lt_zero _ z.2)
theorem rL_s {a o i : Nat} {rf : Nat → Nat → Option Nat} : rup (rL a o i rf) a i (o + i) = rL a o (i + 1) rf := by
  funext id k
  unfold rup rL
  by_cases q : id = a ∧ k = i
  · rw [if_pos q, if_pos ⟨q.1, by omega⟩, q.2]
  · rw [if_neg q]
    by_cases q2 : id = a ∧ k < i
    · rw [if_pos q2, if_pos ⟨q2.1, by omega⟩]
    · rw [if_neg q2, if_neg (by omega)]
theorem mL_0 {o : Nat} {μ : Mm} : mL o 0 μ = μ := by
  unfold mL
  have e : (fun id k => if o ≤ id ∧ id < o + 0 ∧ k = 0 then nI (id - o) else μ.1 id k) = μ.1 := by
    funext id k
    exact if_neg (by omega)
  rw [e]
theorem mL_s {o i : Nat} {μ : Mm} : (y2 (mL o i μ).1 (o + i) 0 (nI i), (mL o i μ).2.1, (mL o i μ).2.2) = mL o (i + 1) μ := by
  have e : y2 (mL o i μ).1 (o + i) 0 (nI i) = (mL o (i + 1) μ).1 := by
    funext id k
    show y2 (fun id k => if o ≤ id ∧ id < o + i ∧ k = 0 then nI (id - o) else μ.1 id k) (o + i) 0 (nI i) id k = if o ≤ id ∧ id < o + (i + 1) ∧ k = 0 then nI (id - o) else μ.1 id k
    by_cases q : k = 0 ∧ id = o + i
    · obtain ⟨rfl, rfl⟩ := q
      rw [y2_s, if_pos (by omega), Nat.add_sub_cancel_left]
    · rw [y2_o _ _ q]
      by_cases q2 : o ≤ id ∧ id < o + i ∧ k = 0
      · rw [if_pos q2, if_pos (by omega)]
      · rw [if_neg q2, if_neg (by omega)]
  rw [e]
  rfl
theorem gR_L {n a o i : Nat} {rf : Nat → Nat → Option Nat} (h : gR n rf) (ha : a < n) (ho : o + i ≤ n) : gR n (rL a o i rf) := by
  refine ⟨fun x b t e => ?_, fun x b hq => ?_⟩
  · unfold rL at e
    by_cases c : x = a ∧ b < i
    · rw [if_pos c] at e; cases e; omega
    · rw [if_neg c] at e; exact h.1 x b t e
  · unfold rL
    rw [if_neg (by omega)]
    exact h.2 x b hq
theorem gM_L {n o i : Nat} {μ : Mm} (h : gM n μ) (ho : o + i ≤ n) : gM n (mL o i μ) := by
  refine ⟨fun a b hq => ?_, h.2.1, h.2.2⟩
  show (if o ≤ a ∧ a < o + i ∧ b = 0 then nI (a - o) else μ.1 a b) = 0
  rw [if_neg (by omega)]
  exact h.1 a b hq
def rHo (b : Nat) (rf0 : Nat → Nat → Option Nat) : Nat → Nat → Option Nat := rL (b + 2) (b + 15) 6 (rL (b + 1) (b + 3) 12 (rup (rup rf0 b 0 (b + 1)) b 1 (b + 2)))
def mHo (b : Nat) (μ0 : Mm) : Mm := mL (b + 15) 6 (mL (b + 3) 12 (y2 (y2 μ0.1 b 4 20) b 8 (-4), μ0.2.1, μ0.2.2))
theorem kb0 {h : Nat} (hh : h < 3) : kdX (1 + 21 * h) = 2 := kd_h hh
theorem kb1 {h : Nat} (hh : h < 3) : kdX (1 + 21 * h + 1) = 0 + 8 ∧ lnX (1 + 21 * h + 1) = 12 := by
  rcases (by omega : h = 0 ∨ h = 1 ∨ h = 2) with rfl | rfl | rfl <;> exact ⟨rfl, rfl⟩
theorem kb2 {h : Nat} (hh : h < 3) : kdX (1 + 21 * h + 2) = 1 + 8 ∧ lnX (1 + 21 * h + 2) = 6 := by
  rcases (by omega : h = 0 ∨ h = 1 ∨ h = 2) with rfl | rfl | rfl <;> exact ⟨rfl, rfl⟩
theorem kb3 {h i : Nat} (hh : h < 3) (hi : i < 12) : kdX (1 + 21 * h + 3 + i) = 0 := by
  rw [show 1 + 21 * h + 3 + i = gI h i by unfold gI; omega]; exact kd_g hh hi
theorem kb4 {h i : Nat} (hh : h < 3) (hi : i < 6) : kdX (1 + 21 * h + 15 + i) = 1 := by
  rw [show 1 + 21 * h + 15 + i = pI h i by unfold pI; omega]; exact kd_p hh hi
def m_H_init : MethodName := ⟨"WhoseGlass$House", "<init>", "()V"⟩
abbrev ws_H_init : List Cond := yWs m_H_init prog_4_method_1_code 2 none
theorem hn_H_init : m_H_init.cls ≠ "java/lang/invoke/MethodHandle" ∧ m_H_init.cls ≠ "java/lang/invoke/VarHandle" ∧ (parseMethodDescriptor m_H_init.desc).map (fun d => d.parameters.length) = some 0 := ⟨by decide +kernel, by decide +kernel, by decide +kernel⟩
def m_S_init : MethodName := ⟨"WhoseGlass$Shelf", "<init>", "()V"⟩
abbrev ws_S_init : List Cond := yWs m_S_init prog_6_method_1_code 1 none
theorem hn_S_init : m_S_init.cls ≠ "java/lang/invoke/MethodHandle" ∧ m_S_init.cls ≠ "java/lang/invoke/VarHandle" ∧ (parseMethodDescriptor m_S_init.desc).map (fun d => d.parameters.length) = some 0 := ⟨by decide +kernel, by decide +kernel, by decide +kernel⟩
set_option maxHeartbeats 4000000 in
set_option maxRecDepth 100000 in
theorem c_H_init (l : Launch) (h sz : Nat) (hh : h < 3) (rf0 : Nat → Nat → Option Nat) (ad0 : Nat → Nat) (w2 : va_G × (Nat → ClassId)) (μ0 : Mm) (hR0 : gR (1 + 21 * h + 1) rf0) (hM0 : gM (1 + 21 * h + 1) μ0) : gMet l m_H_init ws_H_init ({ frames := 3, cells := 20, slots := 174, locals := 60 } : Room) (1 + 21 * h + 1, kdX, lnX, rf0) (ad0, w2) μ0 [.ref (ad0 (1 + 21 * h))] (1 + 21 * h + 21, kdX, lnX, rHo (1 + 21 * h) rf0) (mHo (1 + 21 * h) μ0) 20 174 sz := by
  generalize hb : 1 + 21 * h = b at *
  have k0 : kdX b = 2 := by rw [← hb]; exact kb0 hh
  have k1 : kdX (b + 1) = 0 + 8 ∧ lnX (b + 1) = 12 := by rw [← hb]; exact kb1 hh
  have k2 : kdX (b + 2) = 1 + 8 ∧ lnX (b + 2) = 6 := by rw [← hb]; exact kb2 hh
  have k3 : ∀ i, i < 12 → kdX (b + 3 + i) = 0 := fun i hi => by rw [← hb]; exact kb3 hh hi
  have k4 : ∀ i, i < 6 → kdX (b + 15 + i) = 1 := fun i hi => by rw [← hb]; exact kb4 hh hi
  refine g_entry (own := "WhoseGlass$House") (lv := [(0, .ref (ad0 b))]) (by decide +kernel) rfl rfl rfl (Nat.le_of_ble_eq_true rfl) ?_
  intro p e s m args below meth c ls C hr hlocks hl hsz hP hD hS hA
  obtain ⟨t0, hb0⟩ : ∃ t0, ad0 b = t0 := ⟨_, rfl⟩
  rw [hb0] at hl
  refine lv_aload_n C.1 C.2.1 d_H_init_0 rfl (lv_at hl 0 rfl) ?_
  refine g_obj C hl z_29 d_H_init_1 (Nat.le_of_ble_eq_true rfl) (Nat.le_of_ble_eq_true rfl) ?_
  refine lv_aload_n C.1 C.2.1 d_H_init_4 rfl (lv_at hl 0 rfl) ?_
  refine lv_bipush (v := 12) C.1 C.2.1 d_H_init_5 (by decide) ?_
  refine g_newr (N := 12) (ki := 0) (cn := "WhoseGlass$Glass") C hP hD hS hA k1.1 k1.2 hR0 hM0 rfl z_30 C.2.2.2.2.2.2.2.1.1 (by decide) rfl (by decide) (Nat.le_of_ble_eq_true rfl) (Nat.le_of_ble_eq_true rfl) d_H_init_7 (fun ad1 H1 a1 hP hD hS => ?_)
  have hb1 : ad1 b = t0 := (a1 b (by omega)).trans hb0
  rw [← hb1]
  refine g_putr (ci := 2) (q := (yR2, yT2, 9)) (k := 0) (t := b + 1) C hP hD hS (by omega) k0 rfl (by decide) rfl (by decide) g_131 rfl rfl (by rfl) (fun _ => rfl) (fun _ => rfl) d_H_init_10 (fun H2 locs2 hP hD hS => ?_)
  refine lv_aload_n C.1 C.2.1 d_H_init_13 rfl (lv_at hl 0 rfl) ?_
  refine lv_bipush (v := 6) C.1 C.2.1 d_H_init_14 (by decide) ?_
  have hR1 := gR_put (k := 0) (t := b + 1) hR0.up (show b < b + 1 + 1 by omega) (by omega)
  refine g_newr (N := 6) (ki := 1) (cn := "WhoseGlass$Guest") C hP hD hS hA k2.1 k2.2 hR1 hM0.up rfl z_32 C.2.2.2.2.2.2.2.1.2.1 (by decide) rfl (by decide) (Nat.le_of_ble_eq_true rfl) (Nat.le_of_ble_eq_true rfl) d_H_init_16 (fun ad2 H3 a2 hP hD hS => ?_)
  have hb2 : ad2 b = t0 := (a2 b (by omega)).trans hb1
  rw [← hb2]
  refine g_putr (ci := 2) (q := (yR2, yT2, 9)) (k := 1) (t := b + 2) C hP hD hS (by omega) k0 rfl (by decide) rfl (by decide) g_132 rfl rfl (by rfl) (fun _ => rfl) (fun _ => rfl) d_H_init_19 (fun H4 locs4 hP hD hS => ?_)
  have hR2 := gR_put (k := 1) (t := b + 2) hR1.up (show b < b + 1 + 1 + 1 by omega) (by omega)
  generalize hrf : rup (rup rf0 b 0 (b + 1)) b 1 (b + 2) = rf2 at hP hD hR2
  refine lv_aload_n C.1 C.2.1 d_H_init_22 rfl (lv_at hl 0 rfl) ?_
  refine lv_bipush (v := 20) C.1 C.2.1 d_H_init_23 (by decide) ?_
  rw [← hb2]
  refine g_puti (ci := 2) (q := (yR2, yT2, 9)) (k := 4) C hP hD hS (by omega) k0 rfl (by decide) rfl g_137 rfl (by decide +kernel) d_H_init_25 (fun H5 locs5 hP hD hS => ?_)
  refine lv_aload_n C.1 C.2.1 d_H_init_28 rfl (lv_at hl 0 rfl) ?_
  refine lv_bipush (v := -4) C.1 C.2.1 d_H_init_29 (by decide) ?_
  rw [← hb2]
  refine g_puti (ci := 2) (q := (yR2, yT2, 9)) (k := 8) C hP hD hS (by omega) k0 rfl (by decide) rfl g_147 rfl (by decide +kernel) d_H_init_31 (fun H6 locs6 hP hD hS => ?_)
  have hM2 : gM (b + 3) (y2 (y2 μ0.1 b 4 20) b 8 (-4), μ0.2.1, μ0.2.2) := gM_put (gM_put hM0.up.up (by omega)) (by omega)
  dsimp only at hP hD
  generalize hmu : ((y2 (y2 μ0.1 b 4 20) b 8 (-4), μ0.2.1, μ0.2.2) : Mm) = μ2 at hP hD hM2
  have eh : (b + 21, kdX, lnX, rHo b rf0) = ((b + 15 + 6, kdX, lnX, rL (b + 2) (b + 15) 6 (rL (b + 1) (b + 3) 12 rf2)) : Sy) := by unfold rHo; rw [hrf]
  have em : mHo b μ0 = mL (b + 15) 6 (mL (b + 3) 12 μ2) := by unfold mHo; rw [hmu]
  rw [eh, em]
  refine lv_iconst (v := 0) C.1 C.2.1 d_H_init_34 (by decide) ?_
  refine lv_istore_n (i := 1) (lv' := [(1, .int (nI 0)), (0, .ref t0)]) C.1 C.2.1 d_H_init_35 rfl hl (by decide) rfl (fun ls1 hl1 => ?_)
  refine W.widen (k := 2 + 0) (n := 18 + 8 * 0) (by omega) (by omega) ?_
  have lpP : ∀ r j (ad : Nat → Nat) (H : Heap) (locs : List Loc) (ls : Array Slot), j + r = 6 → lv_has ls 2 [(1, .int (nI j)), (0, .ref t0)] → ad b = t0 → (∀ i, i < b + 1 → ad i = ad0 i) → va_P w2.1 yCl (yW (b + 15 + j, kdX, lnX, rL (b + 2) (b + 15) j (rL (b + 1) (b + 3) 12 rf2)) (ad, w2) (mL (b + 15) j (mL (b + 3) 12 μ2))) H → va_D (gA (b + 1, kdX, lnX, rf0) (ad0, w2) sz) (yW (b + 15 + j, kdX, lnX, rL (b + 2) (b + 15) j (rL (b + 1) (b + 3) 12 rf2)) (ad, w2) (mL (b + 15) j (mL (b + 3) 12 μ2))) → va_S (gA (b + 1, kdX, lnX, rf0) (ad0, w2) sz) s.heap H locs → W p l e ({ frames := 3, cells := 20, slots := 174, locals := 60 } : Room) s m args below meth c H locs (14 + j) (114 + 10 * j) (MQ below (gQ (b + 1, kdX, lnX, rf0) (ad0, w2) sz (b + 15 + 6, kdX, lnX, rL (b + 2) (b + 15) 6 (rL (b + 1) (b + 3) 12 rf2)) (mL (b + 15) 6 (mL (b + 3) 12 μ2))) args s 20 174 (gA (b + 1, kdX, lnX, rf0) (ad0, w2) sz)) (F0 m 64 ls []) := by
    intro r
    induction r with
    | zero =>
      intro j ad H locs ls hj hl hb ha hP hD hS
      obtain rfl : j = 6 := by omega
      refine lv_iload_n C.1 C.2.1 d_H_init_64 rfl (lv_at hl 0 rfl) ?_
      refine lv_bipush (v := 6) C.1 C.2.1 d_H_init_65 (by decide) ?_
      refine lv_icmp_ge (tgt := 90) C.1 C.2.1 d_H_init_67 (by decide) (fun _ => ?_) (fun z => absurd (by decide) z)
      exact W.vret C.1 C.2.1 hr (fun t ht hW => ⟨ad, rfl, ha, by rw [ht]; exact hP, hD, hS.F ht⟩) hS.2.2 d_H_init_90 hlocks
    | succ r ih =>
      intro j ad H locs ls hj hl hb ha hP hD hS
      have hRj : gR (b + 15 + j) (rL (b + 2) (b + 15) j (rL (b + 1) (b + 3) 12 rf2)) := gR_L (gR_L ⟨fun id k t e => by have := hR2.1 id k t e; omega, fun id k hq => hR2.2 id k (by omega)⟩ (by omega) (by omega)) (by omega) (by omega)
      have hMj : gM (b + 15 + j) (mL (b + 15) j (mL (b + 3) 12 μ2)) := gM_L (gM_L ⟨fun id k hq => hM2.1 id k (by omega), fun id k hq => hM2.2.1 id k (by omega), hM2.2.2⟩ (by omega)) (by omega)
      refine lv_iload_n C.1 C.2.1 d_H_init_64 rfl (lv_at hl 0 rfl) ?_
      refine lv_bipush (v := 6) C.1 C.2.1 d_H_init_65 (by decide) ?_
      refine lv_icmp_ge (tgt := 90) C.1 C.2.1 d_H_init_67 (by decide) (fun z => absurd z (nI_ge (b := 6) (by omega) (by decide))) (fun _ => ?_)
      refine lv_aload_n C.1 C.2.1 d_H_init_70 rfl (lv_at hl 1 rfl) ?_
      rw [← hb]
      refine g_getr (ci := 2) (q := (yR2, yT2, 9)) (k := 1) (t := b + 2) C hP (by omega) k0 rfl (by decide) rfl (by decide) (by unfold rL; rw [if_neg (by omega), if_neg (by omega), ← hrf]; unfold rup; rw [if_pos ⟨rfl, rfl⟩]) g_132 d_H_init_71 ?_
      refine lv_iload_n C.1 C.2.1 d_H_init_74 rfl (lv_at hl 0 rfl) ?_
      refine g_new (ci := 1) (q := (yR1, yT1, 10)) C hP hD hS hA rfl (k4 j (by omega)) hRj hMj z_32 z_79 g_4 (by show 14 + j + 1 ≤ 20; omega) (by show 114 + 10 * j + 10 ≤ 174; omega) d_H_init_75 (fun ad3 H3 a3 hP hD hS => ?_)
      refine lv_dup C.1 C.2.1 d_H_init_78 rfl ?_
      refine lv_iload_n C.1 C.2.1 d_H_init_79 rfl (lv_at hl 0 rfl) ?_
      refine g_call (y := m_U_init) (id := b + 15 + j) (As := [.int (nI j)]) (mc := 0) (ms := 0) 1 C hl hP hD hS hA (c_U_init l (b + 15 + j) (nI j) H3.size (by omega) (k4 j (by omega))) (y_gc z_82) rfl rfl g_4 z_80 z_81 rfl hn_U_init ⟨Nat.le_of_ble_eq_true rfl, Nat.le_of_ble_eq_true rfl⟩ ⟨by show 14 + j + 1 + 0 ≤ 20; omega, by show 114 + 10 * j + 10 + 0 ≤ 174; omega⟩ rfl rfl (Nat.le_of_ble_eq_true rfl) d_H_init_80 (fun ad4 H4 locs4 a4 hP hD hS => ?_)
      rw [mL_s] at hP hD
      have b3 : ad3 b = t0 := (a3 b (by omega)).trans hb
      have b4 : ad4 b = t0 := (a4 b (by omega)).trans b3
      rw [← a3 (b + 2) (by omega), ← a4 (b + 2) (by omega), ← a4 (b + 15 + j) (by omega)]
      refine g_asr (ci := 1) (q := (yR1, yT1, 10)) (ki := 1) (id := b + 2) (i := j) (t := b + 15 + j) C hP hD hS (by omega) k2.1 rfl (by omega) (k4 j (by omega)) rfl (by rw [k2.2]; omega) (by rw [k2.2]; decide) d_H_init_83 (fun H5 locs5 hP hD hS => ?_)
      rw [rL_s] at hP hD
      refine lv_iinc (k := 0) (v := nI (j + 1)) (lv' := [(1, .int (nI (j + 1))), (0, .ref t0)]) C.1 C.2.1 d_H_init_84 hl rfl (nI_1 j) (by decide) rfl (fun ls2 hl2 => ?_)
      refine lv_goto (tgt := 64) C.1 C.2.1 d_H_init_87 (by decide) ?_
      refine W.widen (k := 14 + (j + 1)) (n := 114 + 10 * (j + 1)) (by omega) (by show 114 + 10 * j + 10 + 0 ≤ _; omega) ?_
      exact ih (j + 1) ad4 H5 locs5 ls2 (by omega) hl2 b4 (fun i hi => (a4 i (by omega)).trans ((a3 i (by omega)).trans (ha i hi))) hP hD hS
  have lpG : ∀ r j (ad : Nat → Nat) (H : Heap) (locs : List Loc) (ls : Array Slot), j + r = 12 → lv_has ls 2 [(1, .int (nI j)), (0, .ref t0)] → ad b = t0 → (∀ i, i < b + 1 → ad i = ad0 i) → va_P w2.1 yCl (yW (b + 3 + j, kdX, lnX, rL (b + 1) (b + 3) j rf2) (ad, w2) (mL (b + 3) j μ2)) H → va_D (gA (b + 1, kdX, lnX, rf0) (ad0, w2) sz) (yW (b + 3 + j, kdX, lnX, rL (b + 1) (b + 3) j rf2) (ad, w2) (mL (b + 3) j μ2)) → va_S (gA (b + 1, kdX, lnX, rf0) (ad0, w2) sz) s.heap H locs → W p l e ({ frames := 3, cells := 20, slots := 174, locals := 60 } : Room) s m args below meth c H locs (2 + j) (18 + 8 * j) (MQ below (gQ (b + 1, kdX, lnX, rf0) (ad0, w2) sz (b + 15 + 6, kdX, lnX, rL (b + 2) (b + 15) 6 (rL (b + 1) (b + 3) 12 rf2)) (mL (b + 15) 6 (mL (b + 3) 12 μ2))) args s 20 174 (gA (b + 1, kdX, lnX, rf0) (ad0, w2) sz)) (F0 m 36 ls []) := by
    intro r
    induction r with
    | zero =>
      intro j ad H locs ls hj hl hb ha hP hD hS
      obtain rfl : j = 12 := by omega
      refine lv_iload_n C.1 C.2.1 d_H_init_36 rfl (lv_at hl 0 rfl) ?_
      refine lv_bipush (v := 12) C.1 C.2.1 d_H_init_37 (by decide) ?_
      refine lv_icmp_ge (tgt := 62) C.1 C.2.1 d_H_init_39 (by decide) (fun _ => ?_) (fun z => absurd (by decide) z)
      refine lv_iconst (v := 0) C.1 C.2.1 d_H_init_62 (by decide) ?_
      refine lv_istore_n (i := 1) (lv' := [(1, .int (nI 0)), (0, .ref t0)]) C.1 C.2.1 d_H_init_63 rfl hl (by decide) rfl (fun ls1 hl1 => ?_)
      refine lpP 6 0 ad H locs ls1 rfl hl1 hb ha ?_ ?_ hS
      · rw [rL_0, mL_0]; exact hP
      · rw [rL_0, mL_0]; exact hD
    | succ r ih =>
      intro j ad H locs ls hj hl hb ha hP hD hS
      have hRj : gR (b + 3 + j) (rL (b + 1) (b + 3) j rf2) := gR_L ⟨fun id k t e => by have := hR2.1 id k t e; omega, fun id k hq => hR2.2 id k (by omega)⟩ (by omega) (by omega)
      have hMj : gM (b + 3 + j) (mL (b + 3) j μ2) := gM_L ⟨fun id k hq => hM2.1 id k (by omega), fun id k hq => hM2.2.1 id k (by omega), hM2.2.2⟩ (by omega)
      refine lv_iload_n C.1 C.2.1 d_H_init_36 rfl (lv_at hl 0 rfl) ?_
      refine lv_bipush (v := 12) C.1 C.2.1 d_H_init_37 (by decide) ?_
      refine lv_icmp_ge (tgt := 62) C.1 C.2.1 d_H_init_39 (by decide) (fun z => absurd z (nI_ge (b := 12) (by omega) (by decide))) (fun _ => ?_)
      refine lv_aload_n C.1 C.2.1 d_H_init_42 rfl (lv_at hl 1 rfl) ?_
      rw [← hb]
      refine g_getr (ci := 2) (q := (yR2, yT2, 9)) (k := 0) (t := b + 1) C hP (by omega) k0 rfl (by decide) rfl (by decide) (by unfold rL; rw [if_neg (by omega), ← hrf]; unfold rup; rw [if_neg (by omega), if_pos ⟨rfl, rfl⟩]) g_131 d_H_init_43 ?_
      refine lv_iload_n C.1 C.2.1 d_H_init_46 rfl (lv_at hl 0 rfl) ?_
      refine g_new (ci := 0) (q := (yR0, yT0, 8)) C hP hD hS hA rfl (k3 j (by omega)) hRj hMj z_30 z_34 g_3 (by show 2 + j + 1 ≤ 20; omega) (by show 18 + 8 * j + 8 ≤ 174; omega) d_H_init_47 (fun ad3 H3 a3 hP hD hS => ?_)
      refine lv_dup C.1 C.2.1 d_H_init_50 rfl ?_
      refine lv_iload_n C.1 C.2.1 d_H_init_51 rfl (lv_at hl 0 rfl) ?_
      refine g_call (y := m_G_init) (id := b + 3 + j) (As := [.int (nI j)]) (mc := 0) (ms := 0) 1 C hl hP hD hS hA (c_G_init l (b + 3 + j) (nI j) H3.size (by omega) (k3 j (by omega))) (y_gc z_37) rfl rfl g_3 z_35 z_36 rfl hn_G_init ⟨Nat.le_of_ble_eq_true rfl, Nat.le_of_ble_eq_true rfl⟩ ⟨by show 2 + j + 1 + 0 ≤ 20; omega, by show 18 + 8 * j + 8 + 0 ≤ 174; omega⟩ rfl rfl (Nat.le_of_ble_eq_true rfl) d_H_init_52 (fun ad4 H4 locs4 a4 hP hD hS => ?_)
      rw [mL_s] at hP hD
      have b3 : ad3 b = t0 := (a3 b (by omega)).trans hb
      have b4 : ad4 b = t0 := (a4 b (by omega)).trans b3
      rw [← a3 (b + 1) (by omega), ← a4 (b + 1) (by omega), ← a4 (b + 3 + j) (by omega)]
      refine g_asr (ci := 0) (q := (yR0, yT0, 8)) (ki := 0) (id := b + 1) (i := j) (t := b + 3 + j) C hP hD hS (by omega) k1.1 rfl (by omega) (k3 j (by omega)) rfl (by rw [k1.2]; omega) (by rw [k1.2]; decide) d_H_init_55 (fun H5 locs5 hP hD hS => ?_)
      rw [rL_s] at hP hD
      refine lv_iinc (k := 0) (v := nI (j + 1)) (lv' := [(1, .int (nI (j + 1))), (0, .ref t0)]) C.1 C.2.1 d_H_init_56 hl rfl (nI_1 j) (by decide) rfl (fun ls2 hl2 => ?_)
      refine lv_goto (tgt := 36) C.1 C.2.1 d_H_init_59 (by decide) ?_
      refine W.widen (k := 2 + (j + 1)) (n := 18 + 8 * (j + 1)) (by omega) (by show 18 + 8 * j + 8 + 0 ≤ _; omega) ?_
      exact ih (j + 1) ad4 H5 locs5 ls2 (by omega) hl2 b4 (fun i hi => (a4 i (by omega)).trans ((a3 i (by omega)).trans (ha i hi))) hP hD hS
  refine lpG 12 0 ad2 H6 locs6 ls1 rfl hl1 hb2 (fun i hi => (a2 i (by omega)).trans (a1 i (by omega))) ?_ ?_ hS
  · rw [rL_0, mL_0]; exact hP
  · rw [rL_0, mL_0]; exact hD
