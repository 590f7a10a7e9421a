/-! PURE 95: the law, cases 29.. -/
theorem z_591 : (Jvm.Cond.methodLink "WhoseGlassLaw" (141 : Nat) ({ cls := "WhoseGlass", name := "image", desc := "()I" } : Jvm.MethodName)) ∈ yGW := y_i3 111 rfl rfl
theorem z_592 : (Jvm.Cond.instanceMethod ({ cls := "WhoseGlass", name := "image", desc := "()I" } : Jvm.MethodName)) ∈ yGW := y_i3 112 rfl rfl
theorem z_593 : (Jvm.Cond.selects "WhoseGlass" ({ cls := "WhoseGlass", name := "image", desc := "()I" } : Jvm.MethodName) ({ cls := "WhoseGlass", name := "image", desc := "()I" } : Jvm.MethodName)) ∈ yGW := y_i3 113 rfl rfl
theorem z_594 : (Jvm.Cond.code ({ cls := "WhoseGlass", name := "image", desc := "()I" } : Jvm.MethodName) prog_1_method_31_code (1 : Nat) (Option.some Jvm.ClassFile.FieldType.int)) ∈ yGW := y_i3 114 rfl rfl
theorem d_law_1093 : decode code 1093 = .ok (.aload_n 1, 1) := by decide +kernel
theorem d_law_1094 : decode code 1094 = .ok (.invokevirtual 141, 3) := by decide +kernel
theorem d_law_1097 : decode code 1097 = .ok (.aload_n 2, 1) := by decide +kernel
theorem z_928 : (Jvm.Cond.methodLink "WhoseGlassLaw" (144 : Nat) ({ cls := "WhoseGlassModel", name := "image", desc := "()I" } : Jvm.MethodName)) ∈ yGW := y_i4 208 rfl rfl
theorem z_929 : (Jvm.Cond.instanceMethod ({ cls := "WhoseGlassModel", name := "image", desc := "()I" } : Jvm.MethodName)) ∈ yGW := y_i4 209 rfl rfl
theorem z_930 : (Jvm.Cond.selects "WhoseGlassModel" ({ cls := "WhoseGlassModel", name := "image", desc := "()I" } : Jvm.MethodName) ({ cls := "WhoseGlassModel", name := "image", desc := "()I" } : Jvm.MethodName)) ∈ yGW := y_i4 210 rfl rfl
theorem z_931 : (Jvm.Cond.code ({ cls := "WhoseGlassModel", name := "image", desc := "()I" } : Jvm.MethodName) prog_8_method_28_code (1 : Nat) (Option.some Jvm.ClassFile.FieldType.int)) ∈ yGW := y_i4 211 rfl rfl
theorem d_law_1098 : decode code 1098 = .ok (.invokevirtual 144, 3) := by decide +kernel
theorem d_law_1101 : decode code 1101 = .ok (.if_icmp .eq 392, 3) := by decide +kernel
theorem z_595 : (Jvm.Cond.methodLink "WhoseGlassLaw" (145 : Nat) ({ cls := "WhoseGlass", name := "restore", desc := "()I" } : Jvm.MethodName)) ∈ yGW := y_i3 115 rfl rfl
theorem z_596 : (Jvm.Cond.instanceMethod ({ cls := "WhoseGlass", name := "restore", desc := "()I" } : Jvm.MethodName)) ∈ yGW := y_i3 116 rfl rfl
theorem z_597 : (Jvm.Cond.selects "WhoseGlass" ({ cls := "WhoseGlass", name := "restore", desc := "()I" } : Jvm.MethodName) ({ cls := "WhoseGlass", name := "restore", desc := "()I" } : Jvm.MethodName)) ∈ yGW := y_i3 117 rfl rfl
theorem z_598 : (Jvm.Cond.code ({ cls := "WhoseGlass", name := "restore", desc := "()I" } : Jvm.MethodName) prog_1_method_32_code (1 : Nat) (Option.some Jvm.ClassFile.FieldType.int)) ∈ yGW := y_i3 118 rfl rfl
theorem d_law_1106 : decode code 1106 = .ok (.aload_n 1, 1) := by decide +kernel
theorem d_law_1107 : decode code 1107 = .ok (.invokevirtual 145, 3) := by decide +kernel
theorem d_law_1110 : decode code 1110 = .ok (.aload_n 2, 1) := by decide +kernel
theorem z_940 : (Jvm.Cond.methodLink "WhoseGlassLaw" (148 : Nat) ({ cls := "WhoseGlassModel", name := "restore", desc := "()I" } : Jvm.MethodName)) ∈ yGW := y_i4 220 rfl rfl
theorem z_941 : (Jvm.Cond.instanceMethod ({ cls := "WhoseGlassModel", name := "restore", desc := "()I" } : Jvm.MethodName)) ∈ yGW := y_i4 221 rfl rfl
theorem z_942 : (Jvm.Cond.selects "WhoseGlassModel" ({ cls := "WhoseGlassModel", name := "restore", desc := "()I" } : Jvm.MethodName) ({ cls := "WhoseGlassModel", name := "restore", desc := "()I" } : Jvm.MethodName)) ∈ yGW := y_i4 222 rfl rfl
theorem z_943 : (Jvm.Cond.code ({ cls := "WhoseGlassModel", name := "restore", desc := "()I" } : Jvm.MethodName) prog_8_method_29_code (1 : Nat) (Option.some Jvm.ClassFile.FieldType.int)) ∈ yGW := y_i4 223 rfl rfl
theorem d_law_1111 : decode code 1111 = .ok (.invokevirtual 148, 3) := by decide +kernel
theorem d_law_1114 : decode code 1114 = .ok (.if_icmp .eq 379, 3) := by decide +kernel
theorem z_599 : (Jvm.Cond.methodLink "WhoseGlassLaw" (149 : Nat) ({ cls := "WhoseGlass", name := "count", desc := "(I)I" } : Jvm.MethodName)) ∈ yGW := y_i3 119 rfl rfl
theorem z_600 : (Jvm.Cond.instanceMethod ({ cls := "WhoseGlass", name := "count", desc := "(I)I" } : Jvm.MethodName)) ∈ yGW := y_i3 120 rfl rfl
theorem z_601 : (Jvm.Cond.selects "WhoseGlass" ({ cls := "WhoseGlass", name := "count", desc := "(I)I" } : Jvm.MethodName) ({ cls := "WhoseGlass", name := "count", desc := "(I)I" } : Jvm.MethodName)) ∈ yGW := y_i3 121 rfl rfl
theorem z_602 : (Jvm.Cond.code ({ cls := "WhoseGlass", name := "count", desc := "(I)I" } : Jvm.MethodName) prog_1_method_33_code (2 : Nat) (Option.some Jvm.ClassFile.FieldType.int)) ∈ yGW := y_i3 122 rfl rfl
theorem d_law_1119 : decode code 1119 = .ok (.aload_n 1, 1) := by decide +kernel
theorem d_law_1120 : decode code 1120 = .ok (.aload_n 0, 1) := by decide +kernel
theorem d_law_1121 : decode code 1121 = .ok (.iload 4, 2) := by decide +kernel
theorem d_law_1123 : decode code 1123 = .ok (.iconst 1, 1) := by decide +kernel
theorem d_law_1124 : decode code 1124 = .ok (.iadd, 1) := by decide +kernel
theorem d_law_1125 : decode code 1125 = .ok (.iaload, 1) := by decide +kernel
theorem d_law_1126 : decode code 1126 = .ok (.invokevirtual 149, 3) := by decide +kernel
theorem d_law_1129 : decode code 1129 = .ok (.aload_n 2, 1) := by decide +kernel
theorem d_law_1130 : decode code 1130 = .ok (.aload_n 0, 1) := by decide +kernel
theorem d_law_1131 : decode code 1131 = .ok (.iload 4, 2) := by decide +kernel
theorem d_law_1133 : decode code 1133 = .ok (.iconst 1, 1) := by decide +kernel
theorem d_law_1134 : decode code 1134 = .ok (.iadd, 1) := by decide +kernel
theorem d_law_1135 : decode code 1135 = .ok (.iaload, 1) := by decide +kernel
theorem z_1235 : (Jvm.Cond.methodLink "WhoseGlassLaw" (152 : Nat) ({ cls := "WhoseGlassModel", name := "count", desc := "(I)I" } : Jvm.MethodName)) ∈ yGW := y_i6 35 rfl rfl
theorem z_1236 : (Jvm.Cond.instanceMethod ({ cls := "WhoseGlassModel", name := "count", desc := "(I)I" } : Jvm.MethodName)) ∈ yGW := y_i6 36 rfl rfl
theorem z_1237 : (Jvm.Cond.selects "WhoseGlassModel" ({ cls := "WhoseGlassModel", name := "count", desc := "(I)I" } : Jvm.MethodName) ({ cls := "WhoseGlassModel", name := "count", desc := "(I)I" } : Jvm.MethodName)) ∈ yGW := y_i6 37 rfl rfl
theorem z_1238 : (Jvm.Cond.code ({ cls := "WhoseGlassModel", name := "count", desc := "(I)I" } : Jvm.MethodName) prog_8_method_75_code (5 : Nat) (Option.some Jvm.ClassFile.FieldType.int)) ∈ yGW := y_i6 38 rfl rfl
theorem d_law_1136 : decode code 1136 = .ok (.invokevirtual 152, 3) := by decide +kernel
theorem d_law_1139 : decode code 1139 = .ok (.if_icmp .eq 354, 3) := by decide +kernel
theorem z_611 : (Jvm.Cond.methodLink "WhoseGlassLaw" (153 : Nat) ({ cls := "WhoseGlass", name := "keep", desc := "(IIII)I" } : Jvm.MethodName)) ∈ yGW := y_i3 131 rfl rfl
theorem z_612 : (Jvm.Cond.instanceMethod ({ cls := "WhoseGlass", name := "keep", desc := "(IIII)I" } : Jvm.MethodName)) ∈ yGW := y_i3 132 rfl rfl
theorem z_613 : (Jvm.Cond.selects "WhoseGlass" ({ cls := "WhoseGlass", name := "keep", desc := "(IIII)I" } : Jvm.MethodName) ({ cls := "WhoseGlass", name := "keep", desc := "(IIII)I" } : Jvm.MethodName)) ∈ yGW := y_i3 133 rfl rfl
theorem z_614 : (Jvm.Cond.code ({ cls := "WhoseGlass", name := "keep", desc := "(IIII)I" } : Jvm.MethodName) prog_1_method_34_code (6 : Nat) (Option.some Jvm.ClassFile.FieldType.int)) ∈ yGW := y_i3 134 rfl rfl
theorem d_law_1144 : decode code 1144 = .ok (.aload_n 1, 1) := by decide +kernel
theorem d_law_1145 : decode code 1145 = .ok (.aload_n 0, 1) := by decide +kernel
theorem d_law_1146 : decode code 1146 = .ok (.iload 4, 2) := by decide +kernel
theorem d_law_1148 : decode code 1148 = .ok (.iconst 1, 1) := by decide +kernel
theorem d_law_1149 : decode code 1149 = .ok (.iadd, 1) := by decide +kernel
theorem d_law_1150 : decode code 1150 = .ok (.iaload, 1) := by decide +kernel
theorem d_law_1151 : decode code 1151 = .ok (.aload_n 0, 1) := by decide +kernel
theorem d_law_1152 : decode code 1152 = .ok (.iload 4, 2) := by decide +kernel
theorem d_law_1154 : decode code 1154 = .ok (.iconst 2, 1) := by decide +kernel
theorem d_law_1155 : decode code 1155 = .ok (.iadd, 1) := by decide +kernel
theorem d_law_1156 : decode code 1156 = .ok (.iaload, 1) := by decide +kernel
theorem d_law_1157 : decode code 1157 = .ok (.aload_n 0, 1) := by decide +kernel
theorem d_law_1158 : decode code 1158 = .ok (.iload 4, 2) := by decide +kernel
theorem d_law_1160 : decode code 1160 = .ok (.iconst 3, 1) := by decide +kernel
theorem d_law_1161 : decode code 1161 = .ok (.iadd, 1) := by decide +kernel
theorem d_law_1162 : decode code 1162 = .ok (.iaload, 1) := by decide +kernel
theorem d_law_1163 : decode code 1163 = .ok (.aload_n 0, 1) := by decide +kernel
theorem d_law_1164 : decode code 1164 = .ok (.iload 4, 2) := by decide +kernel
theorem d_law_1166 : decode code 1166 = .ok (.iconst 4, 1) := by decide +kernel
theorem d_law_1167 : decode code 1167 = .ok (.iadd, 1) := by decide +kernel
theorem d_law_1168 : decode code 1168 = .ok (.iaload, 1) := by decide +kernel
theorem d_law_1169 : decode code 1169 = .ok (.invokevirtual 153, 3) := by decide +kernel
theorem d_law_1172 : decode code 1172 = .ok (.aload_n 2, 1) := by decide +kernel
theorem d_law_1173 : decode code 1173 = .ok (.aload_n 0, 1) := by decide +kernel
theorem d_law_1174 : decode code 1174 = .ok (.iload 4, 2) := by decide +kernel
theorem d_law_1176 : decode code 1176 = .ok (.iconst 1, 1) := by decide +kernel
theorem d_law_1177 : decode code 1177 = .ok (.iadd, 1) := by decide +kernel
theorem d_law_1178 : decode code 1178 = .ok (.iaload, 1) := by decide +kernel
theorem d_law_1179 : decode code 1179 = .ok (.aload_n 0, 1) := by decide +kernel
theorem d_law_1180 : decode code 1180 = .ok (.iload 4, 2) := by decide +kernel
theorem d_law_1182 : decode code 1182 = .ok (.iconst 2, 1) := by decide +kernel
theorem d_law_1183 : decode code 1183 = .ok (.iadd, 1) := by decide +kernel
theorem d_law_1184 : decode code 1184 = .ok (.iaload, 1) := by decide +kernel
theorem d_law_1185 : decode code 1185 = .ok (.aload_n 0, 1) := by decide +kernel
theorem d_law_1186 : decode code 1186 = .ok (.iload 4, 2) := by decide +kernel
theorem d_law_1188 : decode code 1188 = .ok (.iconst 3, 1) := by decide +kernel
theorem d_law_1189 : decode code 1189 = .ok (.iadd, 1) := by decide +kernel
theorem d_law_1190 : decode code 1190 = .ok (.iaload, 1) := by decide +kernel
theorem d_law_1191 : decode code 1191 = .ok (.aload_n 0, 1) := by decide +kernel
theorem d_law_1192 : decode code 1192 = .ok (.iload 4, 2) := by decide +kernel
theorem d_law_1194 : decode code 1194 = .ok (.iconst 4, 1) := by decide +kernel
theorem d_law_1195 : decode code 1195 = .ok (.iadd, 1) := by decide +kernel
theorem d_law_1196 : decode code 1196 = .ok (.iaload, 1) := by decide +kernel
theorem z_1239 : (Jvm.Cond.methodLink "WhoseGlassLaw" (157 : Nat) ({ cls := "WhoseGlassModel", name := "keep", desc := "(IIII)I" } : Jvm.MethodName)) ∈ yGW := y_i6 39 rfl rfl
theorem z_1240 : (Jvm.Cond.instanceMethod ({ cls := "WhoseGlassModel", name := "keep", desc := "(IIII)I" } : Jvm.MethodName)) ∈ yGW := y_i6 40 rfl rfl
theorem z_1241 : (Jvm.Cond.selects "WhoseGlassModel" ({ cls := "WhoseGlassModel", name := "keep", desc := "(IIII)I" } : Jvm.MethodName) ({ cls := "WhoseGlassModel", name := "keep", desc := "(IIII)I" } : Jvm.MethodName)) ∈ yGW := y_i6 41 rfl rfl
theorem z_1242 : (Jvm.Cond.code ({ cls := "WhoseGlassModel", name := "keep", desc := "(IIII)I" } : Jvm.MethodName) prog_8_method_77_code (5 : Nat) (Option.some Jvm.ClassFile.FieldType.int)) ∈ yGW := y_i6 42 rfl rfl
theorem d_law_1197 : decode code 1197 = .ok (.invokevirtual 157, 3) := by decide +kernel
theorem d_law_1200 : decode code 1200 = .ok (.if_icmp .eq 293, 3) := by decide +kernel
theorem gc_law_141 : GoodIn yGW (wsV "WhoseGlassLaw" 141 yR4 m_X_image ws_X_image) := y_gV z_591 z_592 z_593 g_1 z_594
theorem gc_law_144 : GoodIn yGW (wsV "WhoseGlassLaw" 144 yR5 m_M_image ws_M_image) := y_gV z_928 z_929 z_930 g_6 z_931
theorem l_c29 {p : Program} {l : Launch} {e : Env} {s : State} {m : MethodId} {below : List Frame} {meth : Method} {c : Code} {Q : State → Prop} {cells slots b L i : Nat} {xs : Nat → Int32} {w2 : va_G × (Nat → ClassId)} {aX aM : Nat → Nat} {qo : Nat} {σ τ : Mm} {g : Nat → Int64} (C : lC p l s m meth c b L xs w2) (D : lD s.heap.size aX aM qo) (hi : 6 * i + 6 ≤ L) (R : Rel σ τ) (hcs : cells + 1 ≤ room_1.cells ∧ slots + 6 ≤ room_1.slots) (J : ∀ (σ1 τ1 : Mm) (g1 : Nat → Int64), Rel σ1 τ1 → lG p l e s m below meth c b w2 aX aM qo Q (cells + 1) (slots + 6) σ1 τ1 g1 1493 (lvI b aX aM qo i) []) : lG p l e s m below meth c b w2 aX aM qo Q cells slots σ τ g 1093 (lvI b aX aM qo i) [] := by
  obtain ⟨N, R⟩ := R
  obtain ⟨p1, hp, q1, hq, e1, R1⟩ := q_image (F := 3000)  R (Nat.le_of_ble_eq_true rfl)
  refine l_aX C d_law_1093 ?_
  refine l_callX 0 C D (c_X_image l (aX, w2) 3000 σ 0  p1 hp) gc_law_141 hd_X_image ⟨Nat.le_of_ble_eq_true rfl, Nat.le_of_ble_eq_true rfl⟩ rfl rfl ⟨Nat.le_of_succ_le hcs.1, Nat.le_trans (Nat.le_add_right _ _) hcs.2⟩ rfl rfl (Nat.le_of_ble_eq_true rfl) d_law_1094 ?_
  refine l_aM C d_law_1097 ?_
  refine l_callM 0 C D (c_M_image l (aM, w2) 3000 τ 0  q1 hq) gc_law_144 hd_M_image ⟨Nat.le_of_ble_eq_true rfl, Nat.le_of_ble_eq_true rfl⟩ rfl rfl ⟨Nat.le_of_succ_le hcs.1, Nat.le_trans (Nat.le_add_right _ _) hcs.2⟩ rfl rfl (Nat.le_of_ble_eq_true rfl) d_law_1098 ?_
  refine l_ceq (tgt := 1493) C e1 d_law_1101 (by decide) ?_
  exact l_wide (Nat.le_succ _) (Nat.le_add_right _ _) (J p1.2 q1.2 g R1)
theorem gc_law_145 : GoodIn yGW (wsV "WhoseGlassLaw" 145 yR4 m_X_restore ws_X_restore) := y_gV z_595 z_596 z_597 g_1 z_598
theorem gc_law_148 : GoodIn yGW (wsV "WhoseGlassLaw" 148 yR5 m_M_restore ws_M_restore) := y_gV z_940 z_941 z_942 g_6 z_943
theorem l_c30 {p : Program} {l : Launch} {e : Env} {s : State} {m : MethodId} {below : List Frame} {meth : Method} {c : Code} {Q : State → Prop} {cells slots b L i : Nat} {xs : Nat → Int32} {w2 : va_G × (Nat → ClassId)} {aX aM : Nat → Nat} {qo : Nat} {σ τ : Mm} {g : Nat → Int64} (C : lC p l s m meth c b L xs w2) (D : lD s.heap.size aX aM qo) (hi : 6 * i + 6 ≤ L) (R : Rel σ τ) (hcs : cells + 1 ≤ room_1.cells ∧ slots + 6 ≤ room_1.slots) (J : ∀ (σ1 τ1 : Mm) (g1 : Nat → Int64), Rel σ1 τ1 → lG p l e s m below meth c b w2 aX aM qo Q (cells + 1) (slots + 6) σ1 τ1 g1 1493 (lvI b aX aM qo i) []) : lG p l e s m below meth c b w2 aX aM qo Q cells slots σ τ g 1106 (lvI b aX aM qo i) [] := by
  obtain ⟨N, R⟩ := R
  obtain ⟨p1, hp, q1, hq, e1, R1⟩ := q_restore (F := 3000)  R (Nat.le_of_ble_eq_true rfl)
  refine l_aX C d_law_1106 ?_
  refine l_callX 0 C D (c_X_restore l (aX, w2) 3000 σ 0  p1 hp) gc_law_145 hd_X_restore ⟨Nat.le_of_ble_eq_true rfl, Nat.le_of_ble_eq_true rfl⟩ rfl rfl ⟨Nat.le_of_succ_le hcs.1, Nat.le_trans (Nat.le_add_right _ _) hcs.2⟩ rfl rfl (Nat.le_of_ble_eq_true rfl) d_law_1107 ?_
  refine l_aM C d_law_1110 ?_
  refine l_callM 0 C D (c_M_restore l (aM, w2) 3000 τ 0  q1 hq) gc_law_148 hd_M_restore ⟨Nat.le_of_ble_eq_true rfl, Nat.le_of_ble_eq_true rfl⟩ rfl rfl ⟨Nat.le_of_succ_le hcs.1, Nat.le_trans (Nat.le_add_right _ _) hcs.2⟩ rfl rfl (Nat.le_of_ble_eq_true rfl) d_law_1111 ?_
  refine l_ceq (tgt := 1493) C e1 d_law_1114 (by decide) ?_
  exact l_wide (Nat.le_succ _) (Nat.le_add_right _ _) (J p1.2 q1.2 g R1)
theorem gc_law_149 : GoodIn yGW (wsV "WhoseGlassLaw" 149 yR4 m_X_count ws_X_count) := y_gV z_599 z_600 z_601 g_1 z_602
theorem gc_law_152 : GoodIn yGW (wsV "WhoseGlassLaw" 152 yR5 m_M_count ws_M_count) := y_gV z_1235 z_1236 z_1237 g_6 z_1238
theorem l_c31 {p : Program} {l : Launch} {e : Env} {s : State} {m : MethodId} {below : List Frame} {meth : Method} {c : Code} {Q : State → Prop} {cells slots b L i : Nat} {xs : Nat → Int32} {w2 : va_G × (Nat → ClassId)} {aX aM : Nat → Nat} {qo : Nat} {σ τ : Mm} {g : Nat → Int64} (C : lC p l s m meth c b L xs w2) (D : lD s.heap.size aX aM qo) (hi : 6 * i + 6 ≤ L) (R : Rel σ τ) (hcs : cells + 1 ≤ room_1.cells ∧ slots + 6 ≤ room_1.slots) (J : ∀ (σ1 τ1 : Mm) (g1 : Nat → Int64), Rel σ1 τ1 → lG p l e s m below meth c b w2 aX aM qo Q (cells + 1) (slots + 6) σ1 τ1 g1 1493 (lvI b aX aM qo i) []) : lG p l e s m below meth c b w2 aX aM qo Q cells slots σ τ g 1119 (lvI b aX aM qo i) [] := by
  obtain ⟨N, R⟩ := R
  obtain ⟨p1, hp, q1, hq, e1, R1⟩ := q_count (F := 3000) (xs (6 * i + 1)) R (Nat.le_of_ble_eq_true rfl)
  refine l_aX C d_law_1119 ?_
  refine l_arg 1 C hi (by decide) rfl d_law_1120 d_law_1121 d_law_1123 d_law_1124 d_law_1125 ?_
  refine l_callX 1 C D (c_X_count l (aX, w2) 3000 σ 0 _ p1 hp) gc_law_149 hd_X_count ⟨Nat.le_of_ble_eq_true rfl, Nat.le_of_ble_eq_true rfl⟩ rfl rfl ⟨Nat.le_of_succ_le hcs.1, Nat.le_trans (Nat.le_add_right _ _) hcs.2⟩ rfl rfl (Nat.le_of_ble_eq_true rfl) d_law_1126 ?_
  refine l_aM C d_law_1129 ?_
  refine l_arg 1 C hi (by decide) rfl d_law_1130 d_law_1131 d_law_1133 d_law_1134 d_law_1135 ?_
  refine l_callM 1 C D (c_M_count l (aM, w2) 3000 τ 0 _ q1 hq) gc_law_152 hd_M_count ⟨Nat.le_of_ble_eq_true rfl, Nat.le_of_ble_eq_true rfl⟩ rfl rfl ⟨Nat.le_of_succ_le hcs.1, Nat.le_trans (Nat.le_add_right _ _) hcs.2⟩ rfl rfl (Nat.le_of_ble_eq_true rfl) d_law_1136 ?_
  refine l_ceq (tgt := 1493) C e1 d_law_1139 (by decide) ?_
  exact l_wide (Nat.le_succ _) (Nat.le_add_right _ _) (J p1.2 q1.2 g R1)
theorem gc_law_153 : GoodIn yGW (wsV "WhoseGlassLaw" 153 yR4 m_X_keep ws_X_keep) := y_gV z_611 z_612 z_613 g_1 z_614
theorem gc_law_157 : GoodIn yGW (wsV "WhoseGlassLaw" 157 yR5 m_M_keep ws_M_keep) := y_gV z_1239 z_1240 z_1241 g_6 z_1242
theorem l_c32 {p : Program} {l : Launch} {e : Env} {s : State} {m : MethodId} {below : List Frame} {meth : Method} {c : Code} {Q : State → Prop} {cells slots b L i : Nat} {xs : Nat → Int32} {w2 : va_G × (Nat → ClassId)} {aX aM : Nat → Nat} {qo : Nat} {σ τ : Mm} {g : Nat → Int64} (C : lC p l s m meth c b L xs w2) (D : lD s.heap.size aX aM qo) (hi : 6 * i + 6 ≤ L) (R : Rel σ τ) (hcs : cells + 1 ≤ room_1.cells ∧ slots + 6 ≤ room_1.slots) (J : ∀ (σ1 τ1 : Mm) (g1 : Nat → Int64), Rel σ1 τ1 → lG p l e s m below meth c b w2 aX aM qo Q (cells + 1) (slots + 6) σ1 τ1 g1 1493 (lvI b aX aM qo i) []) : lG p l e s m below meth c b w2 aX aM qo Q cells slots σ τ g 1144 (lvI b aX aM qo i) [] := by
  obtain ⟨N, R⟩ := R
  obtain ⟨p1, hp, q1, hq, e1, R1⟩ := q_keep (F := 3000) (xs (6 * i + 1)) (xs (6 * i + 2)) (xs (6 * i + 3)) (xs (6 * i + 4)) R
  refine l_aX C d_law_1144 ?_
  refine l_arg 1 C hi (by decide) rfl d_law_1145 d_law_1146 d_law_1148 d_law_1149 d_law_1150 ?_
  refine l_arg 2 C hi (by decide) rfl d_law_1151 d_law_1152 d_law_1154 d_law_1155 d_law_1156 ?_
  refine l_arg 3 C hi (by decide) rfl d_law_1157 d_law_1158 d_law_1160 d_law_1161 d_law_1162 ?_
  refine l_arg 4 C hi (by decide) rfl d_law_1163 d_law_1164 d_law_1166 d_law_1167 d_law_1168 ?_
  refine l_callX 4 C D (c_X_keep l (aX, w2) 3000 σ 0 _ _ _ _ p1 hp) gc_law_153 hd_X_keep ⟨Nat.le_of_ble_eq_true rfl, Nat.le_of_ble_eq_true rfl⟩ rfl rfl ⟨Nat.le_of_succ_le hcs.1, Nat.le_trans (Nat.le_add_right _ _) hcs.2⟩ rfl rfl (Nat.le_of_ble_eq_true rfl) d_law_1169 ?_
  refine l_aM C d_law_1172 ?_
  refine l_arg 1 C hi (by decide) rfl d_law_1173 d_law_1174 d_law_1176 d_law_1177 d_law_1178 ?_
  refine l_arg 2 C hi (by decide) rfl d_law_1179 d_law_1180 d_law_1182 d_law_1183 d_law_1184 ?_
  refine l_arg 3 C hi (by decide) rfl d_law_1185 d_law_1186 d_law_1188 d_law_1189 d_law_1190 ?_
  refine l_arg 4 C hi (by decide) rfl d_law_1191 d_law_1192 d_law_1194 d_law_1195 d_law_1196 ?_
  refine l_callM 4 C D (c_M_keep l (aM, w2) 3000 τ 0 _ _ _ _ q1 hq) gc_law_157 hd_M_keep ⟨Nat.le_of_ble_eq_true rfl, Nat.le_of_ble_eq_true rfl⟩ rfl rfl ⟨Nat.le_of_succ_le hcs.1, Nat.le_trans (Nat.le_add_right _ _) hcs.2⟩ rfl rfl (Nat.le_of_ble_eq_true rfl) d_law_1197 ?_
  refine l_ceq (tgt := 1493) C e1 d_law_1200 (by decide) ?_
  exact l_wide (Nat.le_succ _) (Nat.le_add_right _ _) (J p1.2 q1.2 g R1)
