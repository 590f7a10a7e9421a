/-! PURE 84: the reference made -/
theorem d_M_init_0 : decode prog_8_method_1_code 0 = .ok (.aload_n 0, 1) := by decide +kernel
theorem d_M_init_1 : decode prog_8_method_1_code 1 = .ok (.invokespecial 1, 3) := by decide +kernel
theorem d_M_init_4 : decode prog_8_method_1_code 4 = .ok (.aload_n 0, 1) := by decide +kernel
theorem d_M_init_5 : decode prog_8_method_1_code 5 = .ok (.bipush 20, 2) := by decide +kernel
theorem d_M_init_7 : decode prog_8_method_1_code 7 = .ok (.putfield 7, 3) := by decide +kernel
theorem d_M_init_10 : decode prog_8_method_1_code 10 = .ok (.aload_n 0, 1) := by decide +kernel
theorem d_M_init_11 : decode prog_8_method_1_code 11 = .ok (.bipush 12, 2) := by decide +kernel
theorem d_M_init_13 : decode prog_8_method_1_code 13 = .ok (.newarray .int, 2) := by decide +kernel
theorem d_M_init_15 : decode prog_8_method_1_code 15 = .ok (.putfield 13, 3) := by decide +kernel
theorem d_M_init_18 : decode prog_8_method_1_code 18 = .ok (.aload_n 0, 1) := by decide +kernel
theorem d_M_init_19 : decode prog_8_method_1_code 19 = .ok (.bipush 12, 2) := by decide +kernel
theorem d_M_init_21 : decode prog_8_method_1_code 21 = .ok (.newarray .int, 2) := by decide +kernel
theorem d_M_init_23 : decode prog_8_method_1_code 23 = .ok (.putfield 17, 3) := by decide +kernel
theorem d_M_init_26 : decode prog_8_method_1_code 26 = .ok (.aload_n 0, 1) := by decide +kernel
theorem d_M_init_27 : decode prog_8_method_1_code 27 = .ok (.bipush 12, 2) := by decide +kernel
theorem d_M_init_29 : decode prog_8_method_1_code 29 = .ok (.newarray .int, 2) := by decide +kernel
theorem d_M_init_31 : decode prog_8_method_1_code 31 = .ok (.putfield 20, 3) := by decide +kernel
theorem d_M_init_34 : decode prog_8_method_1_code 34 = .ok (.aload_n 0, 1) := by decide +kernel
theorem d_M_init_35 : decode prog_8_method_1_code 35 = .ok (.bipush 12, 2) := by decide +kernel
theorem d_M_init_37 : decode prog_8_method_1_code 37 = .ok (.newarray .int, 2) := by decide +kernel
theorem d_M_init_39 : decode prog_8_method_1_code 39 = .ok (.putfield 23, 3) := by decide +kernel
theorem d_M_init_42 : decode prog_8_method_1_code 42 = .ok (.aload_n 0, 1) := by decide +kernel
theorem d_M_init_43 : decode prog_8_method_1_code 43 = .ok (.bipush 12, 2) := by decide +kernel
theorem d_M_init_45 : decode prog_8_method_1_code 45 = .ok (.newarray .int, 2) := by decide +kernel
theorem d_M_init_47 : decode prog_8_method_1_code 47 = .ok (.putfield 26, 3) := by decide +kernel
theorem d_M_init_50 : decode prog_8_method_1_code 50 = .ok (.aload_n 0, 1) := by decide +kernel
theorem d_M_init_51 : decode prog_8_method_1_code 51 = .ok (.bipush 12, 2) := by decide +kernel
theorem d_M_init_53 : decode prog_8_method_1_code 53 = .ok (.newarray .int, 2) := by decide +kernel
theorem d_M_init_55 : decode prog_8_method_1_code 55 = .ok (.putfield 29, 3) := by decide +kernel
theorem d_M_init_58 : decode prog_8_method_1_code 58 = .ok (.aload_n 0, 1) := by decide +kernel
theorem d_M_init_59 : decode prog_8_method_1_code 59 = .ok (.bipush 12, 2) := by decide +kernel
theorem d_M_init_61 : decode prog_8_method_1_code 61 = .ok (.newarray .int, 2) := by decide +kernel
theorem d_M_init_63 : decode prog_8_method_1_code 63 = .ok (.putfield 32, 3) := by decide +kernel
theorem d_M_init_66 : decode prog_8_method_1_code 66 = .ok (.aload_n 0, 1) := by decide +kernel
theorem d_M_init_67 : decode prog_8_method_1_code 67 = .ok (.bipush 6, 2) := by decide +kernel
theorem d_M_init_69 : decode prog_8_method_1_code 69 = .ok (.newarray .int, 2) := by decide +kernel
theorem d_M_init_71 : decode prog_8_method_1_code 71 = .ok (.putfield 35, 3) := by decide +kernel
theorem d_M_init_74 : decode prog_8_method_1_code 74 = .ok (.aload_n 0, 1) := by decide +kernel
theorem d_M_init_75 : decode prog_8_method_1_code 75 = .ok (.bipush 6, 2) := by decide +kernel
theorem d_M_init_77 : decode prog_8_method_1_code 77 = .ok (.newarray .int, 2) := by decide +kernel
theorem d_M_init_79 : decode prog_8_method_1_code 79 = .ok (.putfield 38, 3) := by decide +kernel
theorem d_M_init_82 : decode prog_8_method_1_code 82 = .ok (.aload_n 0, 1) := by decide +kernel
theorem d_M_init_83 : decode prog_8_method_1_code 83 = .ok (.bipush 6, 2) := by decide +kernel
theorem d_M_init_85 : decode prog_8_method_1_code 85 = .ok (.newarray .int, 2) := by decide +kernel
theorem d_M_init_87 : decode prog_8_method_1_code 87 = .ok (.putfield 41, 3) := by decide +kernel
theorem d_M_init_90 : decode prog_8_method_1_code 90 = .ok (.aload_n 0, 1) := by decide +kernel
theorem d_M_init_91 : decode prog_8_method_1_code 91 = .ok (.bipush 6, 2) := by decide +kernel
theorem d_M_init_93 : decode prog_8_method_1_code 93 = .ok (.newarray .int, 2) := by decide +kernel
theorem d_M_init_95 : decode prog_8_method_1_code 95 = .ok (.putfield 44, 3) := by decide +kernel
theorem d_M_init_98 : decode prog_8_method_1_code 98 = .ok (.aload_n 0, 1) := by decide +kernel
theorem d_M_init_99 : decode prog_8_method_1_code 99 = .ok (.bipush 6, 2) := by decide +kernel
theorem d_M_init_101 : decode prog_8_method_1_code 101 = .ok (.newarray .int, 2) := by decide +kernel
theorem d_M_init_103 : decode prog_8_method_1_code 103 = .ok (.putfield 47, 3) := by decide +kernel
theorem d_M_init_106 : decode prog_8_method_1_code 106 = .ok (.aload_n 0, 1) := by decide +kernel
theorem d_M_init_107 : decode prog_8_method_1_code 107 = .ok (.bipush 6, 2) := by decide +kernel
theorem d_M_init_109 : decode prog_8_method_1_code 109 = .ok (.newarray .int, 2) := by decide +kernel
theorem d_M_init_111 : decode prog_8_method_1_code 111 = .ok (.putfield 50, 3) := by decide +kernel
theorem d_M_init_114 : decode prog_8_method_1_code 114 = .ok (.aload_n 0, 1) := by decide +kernel
theorem d_M_init_115 : decode prog_8_method_1_code 115 = .ok (.bipush 6, 2) := by decide +kernel
theorem d_M_init_117 : decode prog_8_method_1_code 117 = .ok (.newarray .int, 2) := by decide +kernel
theorem d_M_init_119 : decode prog_8_method_1_code 119 = .ok (.putfield 53, 3) := by decide +kernel
theorem d_M_init_122 : decode prog_8_method_1_code 122 = .ok (.aload_n 0, 1) := by decide +kernel
theorem d_M_init_123 : decode prog_8_method_1_code 123 = .ok (.bipush 6, 2) := by decide +kernel
theorem d_M_init_125 : decode prog_8_method_1_code 125 = .ok (.newarray .int, 2) := by decide +kernel
theorem d_M_init_127 : decode prog_8_method_1_code 127 = .ok (.putfield 56, 3) := by decide +kernel
theorem d_M_init_130 : decode prog_8_method_1_code 130 = .ok (.aload_n 0, 1) := by decide +kernel
theorem d_M_init_131 : decode prog_8_method_1_code 131 = .ok (.bipush 6, 2) := by decide +kernel
theorem d_M_init_133 : decode prog_8_method_1_code 133 = .ok (.newarray .int, 2) := by decide +kernel
theorem d_M_init_135 : decode prog_8_method_1_code 135 = .ok (.putfield 59, 3) := by decide +kernel
theorem d_M_init_138 : decode prog_8_method_1_code 138 = .ok (.aload_n 0, 1) := by decide +kernel
theorem d_M_init_139 : decode prog_8_method_1_code 139 = .ok (.iconst (-1), 1) := by decide +kernel
theorem d_M_init_140 : decode prog_8_method_1_code 140 = .ok (.putfield 62, 3) := by decide +kernel
theorem d_M_init_143 : decode prog_8_method_1_code 143 = .ok (.aload_n 0, 1) := by decide +kernel
theorem d_M_init_144 : decode prog_8_method_1_code 144 = .ok (.sipush 142, 3) := by decide +kernel
theorem d_M_init_147 : decode prog_8_method_1_code 147 = .ok (.newarray .int, 2) := by decide +kernel
theorem d_M_init_149 : decode prog_8_method_1_code 149 = .ok (.putfield 65, 3) := by decide +kernel
theorem d_M_init_152 : decode prog_8_method_1_code 152 = .ok (.aload_n 0, 1) := by decide +kernel
theorem d_M_init_153 : decode prog_8_method_1_code 153 = .ok (.sipush 142, 3) := by decide +kernel
theorem d_M_init_156 : decode prog_8_method_1_code 156 = .ok (.newarray .int, 2) := by decide +kernel
theorem d_M_init_158 : decode prog_8_method_1_code 158 = .ok (.putfield 68, 3) := by decide +kernel
theorem d_M_init_161 : decode prog_8_method_1_code 161 = .ok (.aload_n 0, 1) := by decide +kernel
theorem d_M_init_162 : decode prog_8_method_1_code 162 = .ok (.bipush 51, 2) := by decide +kernel
theorem d_M_init_164 : decode prog_8_method_1_code 164 = .ok (.newarray .int, 2) := by decide +kernel
theorem d_M_init_166 : decode prog_8_method_1_code 166 = .ok (.putfield 71, 3) := by decide +kernel
theorem d_M_init_169 : decode prog_8_method_1_code 169 = .ok (.aload_n 0, 1) := by decide +kernel
theorem d_M_init_170 : decode prog_8_method_1_code 170 = .ok (.bipush 51, 2) := by decide +kernel
theorem d_M_init_172 : decode prog_8_method_1_code 172 = .ok (.newarray .int, 2) := by decide +kernel
theorem d_M_init_174 : decode prog_8_method_1_code 174 = .ok (.putfield 74, 3) := by decide +kernel
theorem d_M_init_177 : decode prog_8_method_1_code 177 = .ok (.aload_n 0, 1) := by decide +kernel
theorem d_M_init_178 : decode prog_8_method_1_code 178 = .ok (.sipush 255, 3) := by decide +kernel
theorem d_M_init_181 : decode prog_8_method_1_code 181 = .ok (.newarray .int, 2) := by decide +kernel
theorem d_M_init_183 : decode prog_8_method_1_code 183 = .ok (.putfield 77, 3) := by decide +kernel
theorem d_M_init_186 : decode prog_8_method_1_code 186 = .ok (.aload_n 0, 1) := by decide +kernel
theorem d_M_init_187 : decode prog_8_method_1_code 187 = .ok (.bipush 8, 2) := by decide +kernel
theorem d_M_init_189 : decode prog_8_method_1_code 189 = .ok (.newarray .int, 2) := by decide +kernel
theorem d_M_init_191 : decode prog_8_method_1_code 191 = .ok (.putfield 80, 3) := by decide +kernel
theorem d_M_init_194 : decode prog_8_method_1_code 194 = .ok (.aload_n 0, 1) := by decide +kernel
theorem d_M_init_195 : decode prog_8_method_1_code 195 = .ok (.bipush 8, 2) := by decide +kernel
theorem d_M_init_197 : decode prog_8_method_1_code 197 = .ok (.newarray .int, 2) := by decide +kernel
theorem d_M_init_199 : decode prog_8_method_1_code 199 = .ok (.putfield 83, 3) := by decide +kernel
theorem d_M_init_202 : decode prog_8_method_1_code 202 = .ok (.aload_n 0, 1) := by decide +kernel
theorem d_M_init_203 : decode prog_8_method_1_code 203 = .ok (.bipush 8, 2) := by decide +kernel
theorem d_M_init_205 : decode prog_8_method_1_code 205 = .ok (.newarray .int, 2) := by decide +kernel
theorem d_M_init_207 : decode prog_8_method_1_code 207 = .ok (.putfield 86, 3) := by decide +kernel
theorem d_M_init_210 : decode prog_8_method_1_code 210 = .ok (.aload_n 0, 1) := by decide +kernel
theorem d_M_init_211 : decode prog_8_method_1_code 211 = .ok (.bipush 8, 2) := by decide +kernel
theorem d_M_init_213 : decode prog_8_method_1_code 213 = .ok (.newarray .int, 2) := by decide +kernel
theorem d_M_init_215 : decode prog_8_method_1_code 215 = .ok (.putfield 89, 3) := by decide +kernel
theorem d_M_init_218 : decode prog_8_method_1_code 218 = .ok (.aload_n 0, 1) := by decide +kernel
theorem d_M_init_219 : decode prog_8_method_1_code 219 = .ok (.bipush 8, 2) := by decide +kernel
theorem d_M_init_221 : decode prog_8_method_1_code 221 = .ok (.newarray .int, 2) := by decide +kernel
theorem d_M_init_223 : decode prog_8_method_1_code 223 = .ok (.putfield 92, 3) := by decide +kernel
theorem d_M_init_226 : decode prog_8_method_1_code 226 = .ok (.aload_n 0, 1) := by decide +kernel
theorem d_M_init_227 : decode prog_8_method_1_code 227 = .ok (.sipush 800, 3) := by decide +kernel
theorem d_M_init_230 : decode prog_8_method_1_code 230 = .ok (.newarray .long, 2) := by decide +kernel
theorem d_M_init_232 : decode prog_8_method_1_code 232 = .ok (.putfield 95, 3) := by decide +kernel
theorem d_M_init_235 : decode prog_8_method_1_code 235 = .ok (.aload_n 0, 1) := by decide +kernel
theorem d_M_init_236 : decode prog_8_method_1_code 236 = .ok (.bipush 100, 2) := by decide +kernel
theorem d_M_init_238 : decode prog_8_method_1_code 238 = .ok (.newarray .long, 2) := by decide +kernel
theorem d_M_init_240 : decode prog_8_method_1_code 240 = .ok (.putfield 99, 3) := by decide +kernel
theorem d_M_init_243 : decode prog_8_method_1_code 243 = .ok (.aload_n 0, 1) := by decide +kernel
theorem d_M_init_244 : decode prog_8_method_1_code 244 = .ok (.iconst 0, 1) := by decide +kernel
theorem d_M_init_245 : decode prog_8_method_1_code 245 = .ok (.putfield 102, 3) := by decide +kernel
theorem d_M_init_248 : decode prog_8_method_1_code 248 = .ok (.return_, 1) := by decide +kernel
def m_M_init : MethodName := ⟨"WhoseGlassModel", "<init>", "()V"⟩
abbrev ws_M_init : List Cond := yWs m_M_init prog_8_method_1_code 1 none
theorem hn_M_init : m_M_init.cls ≠ "java/lang/invoke/MethodHandle" ∧ m_M_init.cls ≠ "java/lang/invoke/VarHandle" ∧ (parseMethodDescriptor m_M_init.desc).map (fun d => d.parameters.length) = some 0 := ⟨by decide +kernel, by decide +kernel, by decide +kernel⟩
def rMo : Nat → Nat → Option Nat := (rup (rup (rup (rup (rup (rup (rup (rup (rup (rup (rup (rup (rup (rup (rup (rup (rup (rup (rup (rup (rup (rup (rup (rup (rup (rup (rup (rup rX0 0 4 1) 0 5 2) 0 6 3) 0 7 4) 0 8 5) 0 9 6) 0 10 7) 0 11 8) 0 12 9) 0 13 10) 0 14 11) 0 15 12) 0 16 13) 0 17 14) 0 18 15) 0 19 16) 0 24 17) 0 25 18) 0 35 19) 0 36 20) 0 37 21) 0 39 22) 0 40 23) 0 41 24) 0 42 25) 0 43 26) 0 44 27) 0 45 28)
theorem rMo_e : ∀ id, id < 29 → ∀ k, k < yLn YM id → yIr YM id k = true → rfM id k = rMo id k := by decide +kernel
def mMo : Mm := (y2 (y2 m0X.1 0 2 20) 0 22 (-1), m0X.2.1, m0X.2.2)
set_option maxHeartbeats 4000000 in
set_option maxRecDepth 100000 in
theorem c_M_init (l : Launch) (sz : Nat) (ad0 : Nat → Nat) (w2 : va_G × (Nat → ClassId)) : gMet l m_M_init ws_M_init ({ frames := 2, cells := 28, slots := 1719, locals := 40 } : Room) (1, kdM, lnM, rX0) (ad0, w2) m0X [.ref (ad0 0)] YM mMo 28 1719 sz := by
  refine g_entry (own := "WhoseGlassModel") (lv := [(0, .ref (ad0 0))]) (by decide +kernel) rfl rfl rfl (Nat.le_of_ble_eq_true rfl) ?_
  intro p e s m args below meth c ls C hr hlocks hl hsz hP hD hS hA
  obtain ⟨t0, b0⟩ : ∃ t0, ad0 0 = t0 := ⟨_, rfl⟩
  rw [b0] at hl
  have z0 : ∀ i, i < 1 → ad0 i = ad0 i := fun _ _ => rfl
  refine lv_aload_n C.1 C.2.1 d_M_init_0 rfl (lv_at hl 0 rfl) ?_
  refine g_obj C hl z_783 d_M_init_1 (Nat.le_of_ble_eq_true rfl) (Nat.le_of_ble_eq_true rfl) ?_
  have R0 : gR 1 rX0 := gR_X0
  have M0 : gM 1 m0X := gM_X0
  refine lv_aload_n C.1 C.2.1 d_M_init_4 rfl (lv_at hl 0 rfl) ?_
  refine lv_bipush (v := 20) C.1 C.2.1 d_M_init_5 (by decide) ?_
  rw [← b0]
  refine g_puti (ci := 5) (q := (yR5, yT5, 46)) (id := 0) (k := 2) C hP hD hS (by decide) rfl rfl (by decide) rfl g_786 rfl (by decide +kernel) d_M_init_7 (fun H2 locs2 hP hD hS => ?_)
  have M0b : gM 1 (y2 m0X.1 0 2 20, m0X.2.1, m0X.2.2) := gM_put M0 (by decide)
  clear M0
  have M0 := M0b
  clear M0b
  generalize hm1 : ((y2 m0X.1 0 2 20, m0X.2.1, m0X.2.2) : Mm) = mu1 at hP hD M0
  refine lv_aload_n C.1 C.2.1 d_M_init_10 rfl (lv_at hl 0 rfl) ?_
  refine lv_bipush (v := 12) C.1 C.2.1 d_M_init_11 (by decide) ?_
  refine g_newi (N := 12) C hP hD hS hA rfl rfl R0 M0 z_201 (by decide) rfl (by decide) (Nat.le_of_ble_eq_true rfl) (Nat.le_of_ble_eq_true rfl) d_M_init_13 (fun ad1 H1 a1 hP hD hS => ?_)
  have b1 : ad1 0 = t0 := (a1 0 (by decide)).trans b0
  have z1 : ∀ i, i < 1 → ad1 i = ad0 i := fun i hi => (a1 i (by omega)).trans (z0 i hi)
  rw [← b1]
  clear a1 b0 z0
  refine g_putr (ci := 5) (q := (yR5, yT5, 46)) (id := 0) (k := 4) (t := 1) C hP hD hS (by decide) rfl rfl (by decide) rfl (by decide) g_788 rfl rfl (by rfl) (fun _ => rfl) (fun _ => rfl) d_M_init_15 (fun H2 locs2 hP hD hS => ?_)
  have R1 : gR 2 (rup rX0 0 4 1) := gR_put R0.up (by decide) (by decide)
  have M1 : gM 2 mu1 := M0.up
  clear R0 M0
  generalize hr1 : rup rX0 0 4 1 = rf1 at hP hD R1
  refine lv_aload_n C.1 C.2.1 d_M_init_18 rfl (lv_at hl 0 rfl) ?_
  refine lv_bipush (v := 12) C.1 C.2.1 d_M_init_19 (by decide) ?_
  refine g_newi (N := 12) C hP hD hS hA rfl rfl R1 M1 z_201 (by decide) rfl (by decide) (Nat.le_of_ble_eq_true rfl) (Nat.le_of_ble_eq_true rfl) d_M_init_21 (fun ad2 H1 a1 hP hD hS => ?_)
  have b2 : ad2 0 = t0 := (a1 0 (by decide)).trans b1
  have z2 : ∀ i, i < 1 → ad2 i = ad0 i := fun i hi => (a1 i (by omega)).trans (z1 i hi)
  rw [← b2]
  clear a1 b1 z1
  refine g_putr (ci := 5) (q := (yR5, yT5, 46)) (id := 0) (k := 5) (t := 2) C hP hD hS (by decide) rfl rfl (by decide) rfl (by decide) g_789 rfl rfl (by rfl) (fun _ => rfl) (fun _ => rfl) d_M_init_23 (fun H2 locs2 hP hD hS => ?_)
  have R2 : gR 3 (rup rf1 0 5 2) := gR_put R1.up (by decide) (by decide)
  have M2 : gM 3 mu1 := M1.up
  clear R1 M1
  generalize hr2 : rup rf1 0 5 2 = rf2 at hP hD R2
  refine lv_aload_n C.1 C.2.1 d_M_init_26 rfl (lv_at hl 0 rfl) ?_
  refine lv_bipush (v := 12) C.1 C.2.1 d_M_init_27 (by decide) ?_
  refine g_newi (N := 12) C hP hD hS hA rfl rfl R2 M2 z_201 (by decide) rfl (by decide) (Nat.le_of_ble_eq_true rfl) (Nat.le_of_ble_eq_true rfl) d_M_init_29 (fun ad3 H1 a1 hP hD hS => ?_)
  have b3 : ad3 0 = t0 := (a1 0 (by decide)).trans b2
  have z3 : ∀ i, i < 1 → ad3 i = ad0 i := fun i hi => (a1 i (by omega)).trans (z2 i hi)
  rw [← b3]
  clear a1 b2 z2
  refine g_putr (ci := 5) (q := (yR5, yT5, 46)) (id := 0) (k := 6) (t := 3) C hP hD hS (by decide) rfl rfl (by decide) rfl (by decide) g_790 rfl rfl (by rfl) (fun _ => rfl) (fun _ => rfl) d_M_init_31 (fun H2 locs2 hP hD hS => ?_)
  have R3 : gR 4 (rup rf2 0 6 3) := gR_put R2.up (by decide) (by decide)
  have M3 : gM 4 mu1 := M2.up
  clear R2 M2
  generalize hr3 : rup rf2 0 6 3 = rf3 at hP hD R3
  refine lv_aload_n C.1 C.2.1 d_M_init_34 rfl (lv_at hl 0 rfl) ?_
  refine lv_bipush (v := 12) C.1 C.2.1 d_M_init_35 (by decide) ?_
  refine g_newi (N := 12) C hP hD hS hA rfl rfl R3 M3 z_201 (by decide) rfl (by decide) (Nat.le_of_ble_eq_true rfl) (Nat.le_of_ble_eq_true rfl) d_M_init_37 (fun ad4 H1 a1 hP hD hS => ?_)
  have b4 : ad4 0 = t0 := (a1 0 (by decide)).trans b3
  have z4 : ∀ i, i < 1 → ad4 i = ad0 i := fun i hi => (a1 i (by omega)).trans (z3 i hi)
  rw [← b4]
  clear a1 b3 z3
  refine g_putr (ci := 5) (q := (yR5, yT5, 46)) (id := 0) (k := 7) (t := 4) C hP hD hS (by decide) rfl rfl (by decide) rfl (by decide) g_791 rfl rfl (by rfl) (fun _ => rfl) (fun _ => rfl) d_M_init_39 (fun H2 locs2 hP hD hS => ?_)
  have R4 : gR 5 (rup rf3 0 7 4) := gR_put R3.up (by decide) (by decide)
  have M4 : gM 5 mu1 := M3.up
  clear R3 M3
  generalize hr4 : rup rf3 0 7 4 = rf4 at hP hD R4
  refine lv_aload_n C.1 C.2.1 d_M_init_42 rfl (lv_at hl 0 rfl) ?_
  refine lv_bipush (v := 12) C.1 C.2.1 d_M_init_43 (by decide) ?_
  refine g_newi (N := 12) C hP hD hS hA rfl rfl R4 M4 z_201 (by decide) rfl (by decide) (Nat.le_of_ble_eq_true rfl) (Nat.le_of_ble_eq_true rfl) d_M_init_45 (fun ad5 H1 a1 hP hD hS => ?_)
  have b5 : ad5 0 = t0 := (a1 0 (by decide)).trans b4
  have z5 : ∀ i, i < 1 → ad5 i = ad0 i := fun i hi => (a1 i (by omega)).trans (z4 i hi)
  rw [← b5]
  clear a1 b4 z4
  refine g_putr (ci := 5) (q := (yR5, yT5, 46)) (id := 0) (k := 8) (t := 5) C hP hD hS (by decide) rfl rfl (by decide) rfl (by decide) g_792 rfl rfl (by rfl) (fun _ => rfl) (fun _ => rfl) d_M_init_47 (fun H2 locs2 hP hD hS => ?_)
  have R5 : gR 6 (rup rf4 0 8 5) := gR_put R4.up (by decide) (by decide)
  have M5 : gM 6 mu1 := M4.up
  clear R4 M4
  generalize hr5 : rup rf4 0 8 5 = rf5 at hP hD R5
  refine lv_aload_n C.1 C.2.1 d_M_init_50 rfl (lv_at hl 0 rfl) ?_
  refine lv_bipush (v := 12) C.1 C.2.1 d_M_init_51 (by decide) ?_
  refine g_newi (N := 12) C hP hD hS hA rfl rfl R5 M5 z_201 (by decide) rfl (by decide) (Nat.le_of_ble_eq_true rfl) (Nat.le_of_ble_eq_true rfl) d_M_init_53 (fun ad6 H1 a1 hP hD hS => ?_)
  have b6 : ad6 0 = t0 := (a1 0 (by decide)).trans b5
  have z6 : ∀ i, i < 1 → ad6 i = ad0 i := fun i hi => (a1 i (by omega)).trans (z5 i hi)
  rw [← b6]
  clear a1 b5 z5
  refine g_putr (ci := 5) (q := (yR5, yT5, 46)) (id := 0) (k := 9) (t := 6) C hP hD hS (by decide) rfl rfl (by decide) rfl (by decide) g_793 rfl rfl (by rfl) (fun _ => rfl) (fun _ => rfl) d_M_init_55 (fun H2 locs2 hP hD hS => ?_)
  have R6 : gR 7 (rup rf5 0 9 6) := gR_put R5.up (by decide) (by decide)
  have M6 : gM 7 mu1 := M5.up
  clear R5 M5
  generalize hr6 : rup rf5 0 9 6 = rf6 at hP hD R6
  refine lv_aload_n C.1 C.2.1 d_M_init_58 rfl (lv_at hl 0 rfl) ?_
  refine lv_bipush (v := 12) C.1 C.2.1 d_M_init_59 (by decide) ?_
  refine g_newi (N := 12) C hP hD hS hA rfl rfl R6 M6 z_201 (by decide) rfl (by decide) (Nat.le_of_ble_eq_true rfl) (Nat.le_of_ble_eq_true rfl) d_M_init_61 (fun ad7 H1 a1 hP hD hS => ?_)
  have b7 : ad7 0 = t0 := (a1 0 (by decide)).trans b6
  have z7 : ∀ i, i < 1 → ad7 i = ad0 i := fun i hi => (a1 i (by omega)).trans (z6 i hi)
  rw [← b7]
  clear a1 b6 z6
  refine g_putr (ci := 5) (q := (yR5, yT5, 46)) (id := 0) (k := 10) (t := 7) C hP hD hS (by decide) rfl rfl (by decide) rfl (by decide) g_794 rfl rfl (by rfl) (fun _ => rfl) (fun _ => rfl) d_M_init_63 (fun H2 locs2 hP hD hS => ?_)
  have R7 : gR 8 (rup rf6 0 10 7) := gR_put R6.up (by decide) (by decide)
  have M7 : gM 8 mu1 := M6.up
  clear R6 M6
  generalize hr7 : rup rf6 0 10 7 = rf7 at hP hD R7
  refine lv_aload_n C.1 C.2.1 d_M_init_66 rfl (lv_at hl 0 rfl) ?_
  refine lv_bipush (v := 6) C.1 C.2.1 d_M_init_67 (by decide) ?_
  refine g_newi (N := 6) C hP hD hS hA rfl rfl R7 M7 z_201 (by decide) rfl (by decide) (Nat.le_of_ble_eq_true rfl) (Nat.le_of_ble_eq_true rfl) d_M_init_69 (fun ad8 H1 a1 hP hD hS => ?_)
  have b8 : ad8 0 = t0 := (a1 0 (by decide)).trans b7
  have z8 : ∀ i, i < 1 → ad8 i = ad0 i := fun i hi => (a1 i (by omega)).trans (z7 i hi)
  rw [← b8]
  clear a1 b7 z7
  refine g_putr (ci := 5) (q := (yR5, yT5, 46)) (id := 0) (k := 11) (t := 8) C hP hD hS (by decide) rfl rfl (by decide) rfl (by decide) g_795 rfl rfl (by rfl) (fun _ => rfl) (fun _ => rfl) d_M_init_71 (fun H2 locs2 hP hD hS => ?_)
  have R8 : gR 9 (rup rf7 0 11 8) := gR_put R7.up (by decide) (by decide)
  have M8 : gM 9 mu1 := M7.up
  clear R7 M7
  generalize hr8 : rup rf7 0 11 8 = rf8 at hP hD R8
  refine lv_aload_n C.1 C.2.1 d_M_init_74 rfl (lv_at hl 0 rfl) ?_
  refine lv_bipush (v := 6) C.1 C.2.1 d_M_init_75 (by decide) ?_
  refine g_newi (N := 6) C hP hD hS hA rfl rfl R8 M8 z_201 (by decide) rfl (by decide) (Nat.le_of_ble_eq_true rfl) (Nat.le_of_ble_eq_true rfl) d_M_init_77 (fun ad9 H1 a1 hP hD hS => ?_)
  have b9 : ad9 0 = t0 := (a1 0 (by decide)).trans b8
  have z9 : ∀ i, i < 1 → ad9 i = ad0 i := fun i hi => (a1 i (by omega)).trans (z8 i hi)
  rw [← b9]
  clear a1 b8 z8
  refine g_putr (ci := 5) (q := (yR5, yT5, 46)) (id := 0) (k := 12) (t := 9) C hP hD hS (by decide) rfl rfl (by decide) rfl (by decide) g_796 rfl rfl (by rfl) (fun _ => rfl) (fun _ => rfl) d_M_init_79 (fun H2 locs2 hP hD hS => ?_)
  have R9 : gR 10 (rup rf8 0 12 9) := gR_put R8.up (by decide) (by decide)
  have M9 : gM 10 mu1 := M8.up
  clear R8 M8
  generalize hr9 : rup rf8 0 12 9 = rf9 at hP hD R9
  refine lv_aload_n C.1 C.2.1 d_M_init_82 rfl (lv_at hl 0 rfl) ?_
  refine lv_bipush (v := 6) C.1 C.2.1 d_M_init_83 (by decide) ?_
  refine g_newi (N := 6) C hP hD hS hA rfl rfl R9 M9 z_201 (by decide) rfl (by decide) (Nat.le_of_ble_eq_true rfl) (Nat.le_of_ble_eq_true rfl) d_M_init_85 (fun ad10 H1 a1 hP hD hS => ?_)
  have b10 : ad10 0 = t0 := (a1 0 (by decide)).trans b9
  have z10 : ∀ i, i < 1 → ad10 i = ad0 i := fun i hi => (a1 i (by omega)).trans (z9 i hi)
  rw [← b10]
  clear a1 b9 z9
  refine g_putr (ci := 5) (q := (yR5, yT5, 46)) (id := 0) (k := 13) (t := 10) C hP hD hS (by decide) rfl rfl (by decide) rfl (by decide) g_797 rfl rfl (by rfl) (fun _ => rfl) (fun _ => rfl) d_M_init_87 (fun H2 locs2 hP hD hS => ?_)
  have R10 : gR 11 (rup rf9 0 13 10) := gR_put R9.up (by decide) (by decide)
  have M10 : gM 11 mu1 := M9.up
  clear R9 M9
  generalize hr10 : rup rf9 0 13 10 = rf10 at hP hD R10
  refine lv_aload_n C.1 C.2.1 d_M_init_90 rfl (lv_at hl 0 rfl) ?_
  refine lv_bipush (v := 6) C.1 C.2.1 d_M_init_91 (by decide) ?_
  refine g_newi (N := 6) C hP hD hS hA rfl rfl R10 M10 z_201 (by decide) rfl (by decide) (Nat.le_of_ble_eq_true rfl) (Nat.le_of_ble_eq_true rfl) d_M_init_93 (fun ad11 H1 a1 hP hD hS => ?_)
  have b11 : ad11 0 = t0 := (a1 0 (by decide)).trans b10
  have z11 : ∀ i, i < 1 → ad11 i = ad0 i := fun i hi => (a1 i (by omega)).trans (z10 i hi)
  rw [← b11]
  clear a1 b10 z10
  refine g_putr (ci := 5) (q := (yR5, yT5, 46)) (id := 0) (k := 14) (t := 11) C hP hD hS (by decide) rfl rfl (by decide) rfl (by decide) g_798 rfl rfl (by rfl) (fun _ => rfl) (fun _ => rfl) d_M_init_95 (fun H2 locs2 hP hD hS => ?_)
  have R11 : gR 12 (rup rf10 0 14 11) := gR_put R10.up (by decide) (by decide)
  have M11 : gM 12 mu1 := M10.up
  clear R10 M10
  generalize hr11 : rup rf10 0 14 11 = rf11 at hP hD R11
  refine lv_aload_n C.1 C.2.1 d_M_init_98 rfl (lv_at hl 0 rfl) ?_
  refine lv_bipush (v := 6) C.1 C.2.1 d_M_init_99 (by decide) ?_
  refine g_newi (N := 6) C hP hD hS hA rfl rfl R11 M11 z_201 (by decide) rfl (by decide) (Nat.le_of_ble_eq_true rfl) (Nat.le_of_ble_eq_true rfl) d_M_init_101 (fun ad12 H1 a1 hP hD hS => ?_)
  have b12 : ad12 0 = t0 := (a1 0 (by decide)).trans b11
  have z12 : ∀ i, i < 1 → ad12 i = ad0 i := fun i hi => (a1 i (by omega)).trans (z11 i hi)
  rw [← b12]
  clear a1 b11 z11
  refine g_putr (ci := 5) (q := (yR5, yT5, 46)) (id := 0) (k := 15) (t := 12) C hP hD hS (by decide) rfl rfl (by decide) rfl (by decide) g_799 rfl rfl (by rfl) (fun _ => rfl) (fun _ => rfl) d_M_init_103 (fun H2 locs2 hP hD hS => ?_)
  have R12 : gR 13 (rup rf11 0 15 12) := gR_put R11.up (by decide) (by decide)
  have M12 : gM 13 mu1 := M11.up
  clear R11 M11
  generalize hr12 : rup rf11 0 15 12 = rf12 at hP hD R12
  refine lv_aload_n C.1 C.2.1 d_M_init_106 rfl (lv_at hl 0 rfl) ?_
  refine lv_bipush (v := 6) C.1 C.2.1 d_M_init_107 (by decide) ?_
  refine g_newi (N := 6) C hP hD hS hA rfl rfl R12 M12 z_201 (by decide) rfl (by decide) (Nat.le_of_ble_eq_true rfl) (Nat.le_of_ble_eq_true rfl) d_M_init_109 (fun ad13 H1 a1 hP hD hS => ?_)
  have b13 : ad13 0 = t0 := (a1 0 (by decide)).trans b12
  have z13 : ∀ i, i < 1 → ad13 i = ad0 i := fun i hi => (a1 i (by omega)).trans (z12 i hi)
  rw [← b13]
  clear a1 b12 z12
  refine g_putr (ci := 5) (q := (yR5, yT5, 46)) (id := 0) (k := 16) (t := 13) C hP hD hS (by decide) rfl rfl (by decide) rfl (by decide) g_800 rfl rfl (by rfl) (fun _ => rfl) (fun _ => rfl) d_M_init_111 (fun H2 locs2 hP hD hS => ?_)
  have R13 : gR 14 (rup rf12 0 16 13) := gR_put R12.up (by decide) (by decide)
  have M13 : gM 14 mu1 := M12.up
  clear R12 M12
  generalize hr13 : rup rf12 0 16 13 = rf13 at hP hD R13
  refine lv_aload_n C.1 C.2.1 d_M_init_114 rfl (lv_at hl 0 rfl) ?_
  refine lv_bipush (v := 6) C.1 C.2.1 d_M_init_115 (by decide) ?_
  refine g_newi (N := 6) C hP hD hS hA rfl rfl R13 M13 z_201 (by decide) rfl (by decide) (Nat.le_of_ble_eq_true rfl) (Nat.le_of_ble_eq_true rfl) d_M_init_117 (fun ad14 H1 a1 hP hD hS => ?_)
  have b14 : ad14 0 = t0 := (a1 0 (by decide)).trans b13
  have z14 : ∀ i, i < 1 → ad14 i = ad0 i := fun i hi => (a1 i (by omega)).trans (z13 i hi)
  rw [← b14]
  clear a1 b13 z13
  refine g_putr (ci := 5) (q := (yR5, yT5, 46)) (id := 0) (k := 17) (t := 14) C hP hD hS (by decide) rfl rfl (by decide) rfl (by decide) g_801 rfl rfl (by rfl) (fun _ => rfl) (fun _ => rfl) d_M_init_119 (fun H2 locs2 hP hD hS => ?_)
  have R14 : gR 15 (rup rf13 0 17 14) := gR_put R13.up (by decide) (by decide)
  have M14 : gM 15 mu1 := M13.up
  clear R13 M13
  generalize hr14 : rup rf13 0 17 14 = rf14 at hP hD R14
  refine lv_aload_n C.1 C.2.1 d_M_init_122 rfl (lv_at hl 0 rfl) ?_
  refine lv_bipush (v := 6) C.1 C.2.1 d_M_init_123 (by decide) ?_
  refine g_newi (N := 6) C hP hD hS hA rfl rfl R14 M14 z_201 (by decide) rfl (by decide) (Nat.le_of_ble_eq_true rfl) (Nat.le_of_ble_eq_true rfl) d_M_init_125 (fun ad15 H1 a1 hP hD hS => ?_)
  have b15 : ad15 0 = t0 := (a1 0 (by decide)).trans b14
  have z15 : ∀ i, i < 1 → ad15 i = ad0 i := fun i hi => (a1 i (by omega)).trans (z14 i hi)
  rw [← b15]
  clear a1 b14 z14
  refine g_putr (ci := 5) (q := (yR5, yT5, 46)) (id := 0) (k := 18) (t := 15) C hP hD hS (by decide) rfl rfl (by decide) rfl (by decide) g_802 rfl rfl (by rfl) (fun _ => rfl) (fun _ => rfl) d_M_init_127 (fun H2 locs2 hP hD hS => ?_)
  have R15 : gR 16 (rup rf14 0 18 15) := gR_put R14.up (by decide) (by decide)
  have M15 : gM 16 mu1 := M14.up
  clear R14 M14
  generalize hr15 : rup rf14 0 18 15 = rf15 at hP hD R15
  refine lv_aload_n C.1 C.2.1 d_M_init_130 rfl (lv_at hl 0 rfl) ?_
  refine lv_bipush (v := 6) C.1 C.2.1 d_M_init_131 (by decide) ?_
  refine g_newi (N := 6) C hP hD hS hA rfl rfl R15 M15 z_201 (by decide) rfl (by decide) (Nat.le_of_ble_eq_true rfl) (Nat.le_of_ble_eq_true rfl) d_M_init_133 (fun ad16 H1 a1 hP hD hS => ?_)
  have b16 : ad16 0 = t0 := (a1 0 (by decide)).trans b15
  have z16 : ∀ i, i < 1 → ad16 i = ad0 i := fun i hi => (a1 i (by omega)).trans (z15 i hi)
  rw [← b16]
  clear a1 b15 z15
  refine g_putr (ci := 5) (q := (yR5, yT5, 46)) (id := 0) (k := 19) (t := 16) C hP hD hS (by decide) rfl rfl (by decide) rfl (by decide) g_803 rfl rfl (by rfl) (fun _ => rfl) (fun _ => rfl) d_M_init_135 (fun H2 locs2 hP hD hS => ?_)
  have R16 : gR 17 (rup rf15 0 19 16) := gR_put R15.up (by decide) (by decide)
  have M16 : gM 17 mu1 := M15.up
  clear R15 M15
  generalize hr16 : rup rf15 0 19 16 = rf16 at hP hD R16
  refine lv_aload_n C.1 C.2.1 d_M_init_138 rfl (lv_at hl 0 rfl) ?_
  refine lv_iconst (v := -1) C.1 C.2.1 d_M_init_139 (by decide) ?_
  rw [← b16]
  refine g_puti (ci := 5) (q := (yR5, yT5, 46)) (id := 0) (k := 22) C hP hD hS (by decide) rfl rfl (by decide) rfl g_806 rfl (by decide +kernel) d_M_init_140 (fun H2 locs2 hP hD hS => ?_)
  have M16b : gM 17 (y2 mu1.1 0 22 (-1), mu1.2.1, mu1.2.2) := gM_put M16 (by decide)
  clear M16
  have M16 := M16b
  clear M16b
  generalize hm2 : ((y2 mu1.1 0 22 (-1), mu1.2.1, mu1.2.2) : Mm) = mu2 at hP hD M16
  refine lv_aload_n C.1 C.2.1 d_M_init_143 rfl (lv_at hl 0 rfl) ?_
  refine lv_sipush (v := 142) C.1 C.2.1 d_M_init_144 (by decide) ?_
  refine g_newi (N := 142) C hP hD hS hA rfl rfl R16 M16 z_201 (by decide) rfl (by decide) (Nat.le_of_ble_eq_true rfl) (Nat.le_of_ble_eq_true rfl) d_M_init_147 (fun ad17 H1 a1 hP hD hS => ?_)
  have b17 : ad17 0 = t0 := (a1 0 (by decide)).trans b16
  have z17 : ∀ i, i < 1 → ad17 i = ad0 i := fun i hi => (a1 i (by omega)).trans (z16 i hi)
  rw [← b17]
  clear a1 b16 z16
  refine g_putr (ci := 5) (q := (yR5, yT5, 46)) (id := 0) (k := 24) (t := 17) C hP hD hS (by decide) rfl rfl (by decide) rfl (by decide) g_808 rfl rfl (by rfl) (fun _ => rfl) (fun _ => rfl) d_M_init_149 (fun H2 locs2 hP hD hS => ?_)
  have R17 : gR 18 (rup rf16 0 24 17) := gR_put R16.up (by decide) (by decide)
  have M17 : gM 18 mu2 := M16.up
  clear R16 M16
  generalize hr17 : rup rf16 0 24 17 = rf17 at hP hD R17
  refine lv_aload_n C.1 C.2.1 d_M_init_152 rfl (lv_at hl 0 rfl) ?_
  refine lv_sipush (v := 142) C.1 C.2.1 d_M_init_153 (by decide) ?_
  refine g_newi (N := 142) C hP hD hS hA rfl rfl R17 M17 z_201 (by decide) rfl (by decide) (Nat.le_of_ble_eq_true rfl) (Nat.le_of_ble_eq_true rfl) d_M_init_156 (fun ad18 H1 a1 hP hD hS => ?_)
  have b18 : ad18 0 = t0 := (a1 0 (by decide)).trans b17
  have z18 : ∀ i, i < 1 → ad18 i = ad0 i := fun i hi => (a1 i (by omega)).trans (z17 i hi)
  rw [← b18]
  clear a1 b17 z17
  refine g_putr (ci := 5) (q := (yR5, yT5, 46)) (id := 0) (k := 25) (t := 18) C hP hD hS (by decide) rfl rfl (by decide) rfl (by decide) g_809 rfl rfl (by rfl) (fun _ => rfl) (fun _ => rfl) d_M_init_158 (fun H2 locs2 hP hD hS => ?_)
  have R18 : gR 19 (rup rf17 0 25 18) := gR_put R17.up (by decide) (by decide)
  have M18 : gM 19 mu2 := M17.up
  clear R17 M17
  generalize hr18 : rup rf17 0 25 18 = rf18 at hP hD R18
  refine lv_aload_n C.1 C.2.1 d_M_init_161 rfl (lv_at hl 0 rfl) ?_
  refine lv_bipush (v := 51) C.1 C.2.1 d_M_init_162 (by decide) ?_
  refine g_newi (N := 51) C hP hD hS hA rfl rfl R18 M18 z_201 (by decide) rfl (by decide) (Nat.le_of_ble_eq_true rfl) (Nat.le_of_ble_eq_true rfl) d_M_init_164 (fun ad19 H1 a1 hP hD hS => ?_)
  have b19 : ad19 0 = t0 := (a1 0 (by decide)).trans b18
  have z19 : ∀ i, i < 1 → ad19 i = ad0 i := fun i hi => (a1 i (by omega)).trans (z18 i hi)
  rw [← b19]
  clear a1 b18 z18
  refine g_putr (ci := 5) (q := (yR5, yT5, 46)) (id := 0) (k := 35) (t := 19) C hP hD hS (by decide) rfl rfl (by decide) rfl (by decide) g_819 rfl rfl (by rfl) (fun _ => rfl) (fun _ => rfl) d_M_init_166 (fun H2 locs2 hP hD hS => ?_)
  have R19 : gR 20 (rup rf18 0 35 19) := gR_put R18.up (by decide) (by decide)
  have M19 : gM 20 mu2 := M18.up
  clear R18 M18
  generalize hr19 : rup rf18 0 35 19 = rf19 at hP hD R19
  refine lv_aload_n C.1 C.2.1 d_M_init_169 rfl (lv_at hl 0 rfl) ?_
  refine lv_bipush (v := 51) C.1 C.2.1 d_M_init_170 (by decide) ?_
  refine g_newi (N := 51) C hP hD hS hA rfl rfl R19 M19 z_201 (by decide) rfl (by decide) (Nat.le_of_ble_eq_true rfl) (Nat.le_of_ble_eq_true rfl) d_M_init_172 (fun ad20 H1 a1 hP hD hS => ?_)
  have b20 : ad20 0 = t0 := (a1 0 (by decide)).trans b19
  have z20 : ∀ i, i < 1 → ad20 i = ad0 i := fun i hi => (a1 i (by omega)).trans (z19 i hi)
  rw [← b20]
  clear a1 b19 z19
  refine g_putr (ci := 5) (q := (yR5, yT5, 46)) (id := 0) (k := 36) (t := 20) C hP hD hS (by decide) rfl rfl (by decide) rfl (by decide) g_820 rfl rfl (by rfl) (fun _ => rfl) (fun _ => rfl) d_M_init_174 (fun H2 locs2 hP hD hS => ?_)
  have R20 : gR 21 (rup rf19 0 36 20) := gR_put R19.up (by decide) (by decide)
  have M20 : gM 21 mu2 := M19.up
  clear R19 M19
  generalize hr20 : rup rf19 0 36 20 = rf20 at hP hD R20
  refine lv_aload_n C.1 C.2.1 d_M_init_177 rfl (lv_at hl 0 rfl) ?_
  refine lv_sipush (v := 255) C.1 C.2.1 d_M_init_178 (by decide) ?_
  refine g_newi (N := 255) C hP hD hS hA rfl rfl R20 M20 z_201 (by decide) rfl (by decide) (Nat.le_of_ble_eq_true rfl) (Nat.le_of_ble_eq_true rfl) d_M_init_181 (fun ad21 H1 a1 hP hD hS => ?_)
  have b21 : ad21 0 = t0 := (a1 0 (by decide)).trans b20
  have z21 : ∀ i, i < 1 → ad21 i = ad0 i := fun i hi => (a1 i (by omega)).trans (z20 i hi)
  rw [← b21]
  clear a1 b20 z20
  refine g_putr (ci := 5) (q := (yR5, yT5, 46)) (id := 0) (k := 37) (t := 21) C hP hD hS (by decide) rfl rfl (by decide) rfl (by decide) g_821 rfl rfl (by rfl) (fun _ => rfl) (fun _ => rfl) d_M_init_183 (fun H2 locs2 hP hD hS => ?_)
  have R21 : gR 22 (rup rf20 0 37 21) := gR_put R20.up (by decide) (by decide)
  have M21 : gM 22 mu2 := M20.up
  clear R20 M20
  generalize hr21 : rup rf20 0 37 21 = rf21 at hP hD R21
  refine lv_aload_n C.1 C.2.1 d_M_init_186 rfl (lv_at hl 0 rfl) ?_
  refine lv_bipush (v := 8) C.1 C.2.1 d_M_init_187 (by decide) ?_
  refine g_newi (N := 8) C hP hD hS hA rfl rfl R21 M21 z_201 (by decide) rfl (by decide) (Nat.le_of_ble_eq_true rfl) (Nat.le_of_ble_eq_true rfl) d_M_init_189 (fun ad22 H1 a1 hP hD hS => ?_)
  have b22 : ad22 0 = t0 := (a1 0 (by decide)).trans b21
  have z22 : ∀ i, i < 1 → ad22 i = ad0 i := fun i hi => (a1 i (by omega)).trans (z21 i hi)
  rw [← b22]
  clear a1 b21 z21
  refine g_putr (ci := 5) (q := (yR5, yT5, 46)) (id := 0) (k := 39) (t := 22) C hP hD hS (by decide) rfl rfl (by decide) rfl (by decide) g_823 rfl rfl (by rfl) (fun _ => rfl) (fun _ => rfl) d_M_init_191 (fun H2 locs2 hP hD hS => ?_)
  have R22 : gR 23 (rup rf21 0 39 22) := gR_put R21.up (by decide) (by decide)
  have M22 : gM 23 mu2 := M21.up
  clear R21 M21
  generalize hr22 : rup rf21 0 39 22 = rf22 at hP hD R22
  refine lv_aload_n C.1 C.2.1 d_M_init_194 rfl (lv_at hl 0 rfl) ?_
  refine lv_bipush (v := 8) C.1 C.2.1 d_M_init_195 (by decide) ?_
  refine g_newi (N := 8) C hP hD hS hA rfl rfl R22 M22 z_201 (by decide) rfl (by decide) (Nat.le_of_ble_eq_true rfl) (Nat.le_of_ble_eq_true rfl) d_M_init_197 (fun ad23 H1 a1 hP hD hS => ?_)
  have b23 : ad23 0 = t0 := (a1 0 (by decide)).trans b22
  have z23 : ∀ i, i < 1 → ad23 i = ad0 i := fun i hi => (a1 i (by omega)).trans (z22 i hi)
  rw [← b23]
  clear a1 b22 z22
  refine g_putr (ci := 5) (q := (yR5, yT5, 46)) (id := 0) (k := 40) (t := 23) C hP hD hS (by decide) rfl rfl (by decide) rfl (by decide) g_824 rfl rfl (by rfl) (fun _ => rfl) (fun _ => rfl) d_M_init_199 (fun H2 locs2 hP hD hS => ?_)
  have R23 : gR 24 (rup rf22 0 40 23) := gR_put R22.up (by decide) (by decide)
  have M23 : gM 24 mu2 := M22.up
  clear R22 M22
  generalize hr23 : rup rf22 0 40 23 = rf23 at hP hD R23
  refine lv_aload_n C.1 C.2.1 d_M_init_202 rfl (lv_at hl 0 rfl) ?_
  refine lv_bipush (v := 8) C.1 C.2.1 d_M_init_203 (by decide) ?_
  refine g_newi (N := 8) C hP hD hS hA rfl rfl R23 M23 z_201 (by decide) rfl (by decide) (Nat.le_of_ble_eq_true rfl) (Nat.le_of_ble_eq_true rfl) d_M_init_205 (fun ad24 H1 a1 hP hD hS => ?_)
  have b24 : ad24 0 = t0 := (a1 0 (by decide)).trans b23
  have z24 : ∀ i, i < 1 → ad24 i = ad0 i := fun i hi => (a1 i (by omega)).trans (z23 i hi)
  rw [← b24]
  clear a1 b23 z23
  refine g_putr (ci := 5) (q := (yR5, yT5, 46)) (id := 0) (k := 41) (t := 24) C hP hD hS (by decide) rfl rfl (by decide) rfl (by decide) g_825 rfl rfl (by rfl) (fun _ => rfl) (fun _ => rfl) d_M_init_207 (fun H2 locs2 hP hD hS => ?_)
  have R24 : gR 25 (rup rf23 0 41 24) := gR_put R23.up (by decide) (by decide)
  have M24 : gM 25 mu2 := M23.up
  clear R23 M23
  generalize hr24 : rup rf23 0 41 24 = rf24 at hP hD R24
  refine lv_aload_n C.1 C.2.1 d_M_init_210 rfl (lv_at hl 0 rfl) ?_
  refine lv_bipush (v := 8) C.1 C.2.1 d_M_init_211 (by decide) ?_
  refine g_newi (N := 8) C hP hD hS hA rfl rfl R24 M24 z_201 (by decide) rfl (by decide) (Nat.le_of_ble_eq_true rfl) (Nat.le_of_ble_eq_true rfl) d_M_init_213 (fun ad25 H1 a1 hP hD hS => ?_)
  have b25 : ad25 0 = t0 := (a1 0 (by decide)).trans b24
  have z25 : ∀ i, i < 1 → ad25 i = ad0 i := fun i hi => (a1 i (by omega)).trans (z24 i hi)
  rw [← b25]
  clear a1 b24 z24
  refine g_putr (ci := 5) (q := (yR5, yT5, 46)) (id := 0) (k := 42) (t := 25) C hP hD hS (by decide) rfl rfl (by decide) rfl (by decide) g_826 rfl rfl (by rfl) (fun _ => rfl) (fun _ => rfl) d_M_init_215 (fun H2 locs2 hP hD hS => ?_)
  have R25 : gR 26 (rup rf24 0 42 25) := gR_put R24.up (by decide) (by decide)
  have M25 : gM 26 mu2 := M24.up
  clear R24 M24
  generalize hr25 : rup rf24 0 42 25 = rf25 at hP hD R25
  refine lv_aload_n C.1 C.2.1 d_M_init_218 rfl (lv_at hl 0 rfl) ?_
  refine lv_bipush (v := 8) C.1 C.2.1 d_M_init_219 (by decide) ?_
  refine g_newi (N := 8) C hP hD hS hA rfl rfl R25 M25 z_201 (by decide) rfl (by decide) (Nat.le_of_ble_eq_true rfl) (Nat.le_of_ble_eq_true rfl) d_M_init_221 (fun ad26 H1 a1 hP hD hS => ?_)
  have b26 : ad26 0 = t0 := (a1 0 (by decide)).trans b25
  have z26 : ∀ i, i < 1 → ad26 i = ad0 i := fun i hi => (a1 i (by omega)).trans (z25 i hi)
  rw [← b26]
  clear a1 b25 z25
  refine g_putr (ci := 5) (q := (yR5, yT5, 46)) (id := 0) (k := 43) (t := 26) C hP hD hS (by decide) rfl rfl (by decide) rfl (by decide) g_827 rfl rfl (by rfl) (fun _ => rfl) (fun _ => rfl) d_M_init_223 (fun H2 locs2 hP hD hS => ?_)
  have R26 : gR 27 (rup rf25 0 43 26) := gR_put R25.up (by decide) (by decide)
  have M26 : gM 27 mu2 := M25.up
  clear R25 M25
  generalize hr26 : rup rf25 0 43 26 = rf26 at hP hD R26
  refine lv_aload_n C.1 C.2.1 d_M_init_226 rfl (lv_at hl 0 rfl) ?_
  refine lv_sipush (v := 800) C.1 C.2.1 d_M_init_227 (by decide) ?_
  refine g_newl (N := 800) C hP hD hS hA rfl rfl R26 M26 z_923 (by decide) rfl (by decide) (Nat.le_of_ble_eq_true rfl) (Nat.le_of_ble_eq_true rfl) d_M_init_230 (fun ad27 H1 a1 hP hD hS => ?_)
  have b27 : ad27 0 = t0 := (a1 0 (by decide)).trans b26
  have z27 : ∀ i, i < 1 → ad27 i = ad0 i := fun i hi => (a1 i (by omega)).trans (z26 i hi)
  rw [← b27]
  clear a1 b26 z26
  refine g_putr (ci := 5) (q := (yR5, yT5, 46)) (id := 0) (k := 44) (t := 27) C hP hD hS (by decide) rfl rfl (by decide) rfl (by decide) g_828 rfl rfl (by rfl) (fun _ => rfl) (fun _ => rfl) d_M_init_232 (fun H2 locs2 hP hD hS => ?_)
  have R27 : gR 28 (rup rf26 0 44 27) := gR_put R26.up (by decide) (by decide)
  have M27 : gM 28 mu2 := M26.up
  clear R26 M26
  generalize hr27 : rup rf26 0 44 27 = rf27 at hP hD R27
  refine lv_aload_n C.1 C.2.1 d_M_init_235 rfl (lv_at hl 0 rfl) ?_
  refine lv_bipush (v := 100) C.1 C.2.1 d_M_init_236 (by decide) ?_
  refine g_newl (N := 100) C hP hD hS hA rfl rfl R27 M27 z_923 (by decide) rfl (by decide) (Nat.le_of_ble_eq_true rfl) (Nat.le_of_ble_eq_true rfl) d_M_init_238 (fun ad28 H1 a1 hP hD hS => ?_)
  have b28 : ad28 0 = t0 := (a1 0 (by decide)).trans b27
  have z28 : ∀ i, i < 1 → ad28 i = ad0 i := fun i hi => (a1 i (by omega)).trans (z27 i hi)
  rw [← b28]
  clear a1 b27 z27
  refine g_putr (ci := 5) (q := (yR5, yT5, 46)) (id := 0) (k := 45) (t := 28) C hP hD hS (by decide) rfl rfl (by decide) rfl (by decide) g_829 rfl rfl (by rfl) (fun _ => rfl) (fun _ => rfl) d_M_init_240 (fun H2 locs2 hP hD hS => ?_)
  have R28 : gR 29 (rup rf27 0 45 28) := gR_put R27.up (by decide) (by decide)
  have M28 : gM 29 mu2 := M27.up
  clear R27 M27
  generalize hr28 : rup rf27 0 45 28 = rf28 at hP hD R28
  refine lv_aload_n C.1 C.2.1 d_M_init_243 rfl (lv_at hl 0 rfl) ?_
  refine lv_iconst (v := 0) C.1 C.2.1 d_M_init_244 (by decide) ?_
  rw [← b28]
  refine g_puti (ci := 5) (q := (yR5, yT5, 46)) (id := 0) (k := 23) C hP hD hS (by decide) rfl rfl (by decide) rfl g_807 rfl (by decide +kernel) d_M_init_245 (fun H2 locs2 hP hD hS => ?_)
  rw [y2_same (id := 0) (k := 23) (v := 0) (by rw [← hm2, ← hm1]; rfl)] at hP hD
  have er : rMo = rf28 := by
    rw [← hr28, ← hr27, ← hr26, ← hr25, ← hr24, ← hr23, ← hr22, ← hr21, ← hr20, ← hr19, ← hr18, ← hr17, ← hr16, ← hr15, ← hr14, ← hr13, ← hr12, ← hr11, ← hr10, ← hr9, ← hr8, ← hr7, ← hr6, ← hr5, ← hr4, ← hr3, ← hr2, ← hr1]
    rfl
  have em : mMo = mu2 := by
    rw [← hm2, ← hm1]
    rfl
  rw [em]
  have hP1 : va_P w2.1 yCl (yW YM (ad28, w2) mu2) H2 := yP_cg (Y := (29, kdM, lnM, rf28)) (Y' := YM) (w := (ad28, w2)) (μ := mu2) (μ' := mu2) rfl (fun _ _ => rfl) (fun _ _ => rfl) (fun id k h1 h2 h3 => by
    have := rMo_e id h1 k h2 h3
    rw [er] at this
    exact this) (fun _ _ _ _ => rfl) (fun _ _ _ _ => rfl) rfl hP
  have hD1 : va_D (gA (1, kdM, lnM, rX0) (ad0, w2) sz) (yW YM (ad28, w2) mu2) := yD_cg (Y := (29, kdM, lnM, rf28)) (Y' := YM) (μ := mu2) rfl hD
  exact W.vret C.1 C.2.1 hr (fun t ht hW => ⟨ad28, rfl, z28, by rw [ht]; exact hP1, hD1, hS.F ht⟩) hS.2.2 d_M_init_248 hlocks
