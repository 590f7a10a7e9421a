/-! PURE 94: the law, cases 25.. -/
theorem z_554 : (Jvm.Cond.methodLink "WhoseGlassLaw" (124 : Nat) ({ cls := "WhoseGlass", name := "driver", desc := "(I)I" } : Jvm.MethodName)) ∈ yGW := y_i3 74 rfl rfl
theorem z_555 : (Jvm.Cond.instanceMethod ({ cls := "WhoseGlass", name := "driver", desc := "(I)I" } : Jvm.MethodName)) ∈ yGW := y_i3 75 rfl rfl
theorem z_556 : (Jvm.Cond.selects "WhoseGlass" ({ cls := "WhoseGlass", name := "driver", desc := "(I)I" } : Jvm.MethodName) ({ cls := "WhoseGlass", name := "driver", desc := "(I)I" } : Jvm.MethodName)) ∈ yGW := y_i3 76 rfl rfl
theorem z_557 : (Jvm.Cond.code ({ cls := "WhoseGlass", name := "driver", desc := "(I)I" } : Jvm.MethodName) prog_1_method_27_code (2 : Nat) (Option.some Jvm.ClassFile.FieldType.int)) ∈ yGW := y_i3 77 rfl rfl
theorem d_law_969 : decode code 969 = .ok (.aload_n 1, 1) := by decide +kernel
theorem d_law_970 : decode code 970 = .ok (.aload_n 0, 1) := by decide +kernel
theorem d_law_971 : decode code 971 = .ok (.iload 4, 2) := by decide +kernel
theorem d_law_973 : decode code 973 = .ok (.iconst 1, 1) := by decide +kernel
theorem d_law_974 : decode code 974 = .ok (.iadd, 1) := by decide +kernel
theorem d_law_975 : decode code 975 = .ok (.iaload, 1) := by decide +kernel
theorem d_law_976 : decode code 976 = .ok (.invokevirtual 124, 3) := by decide +kernel
theorem d_law_979 : decode code 979 = .ok (.aload_n 2, 1) := by decide +kernel
theorem d_law_980 : decode code 980 = .ok (.aload_n 0, 1) := by decide +kernel
theorem d_law_981 : decode code 981 = .ok (.iload 4, 2) := by decide +kernel
theorem d_law_983 : decode code 983 = .ok (.iconst 1, 1) := by decide +kernel
theorem d_law_984 : decode code 984 = .ok (.iadd, 1) := by decide +kernel
theorem d_law_985 : decode code 985 = .ok (.iaload, 1) := by decide +kernel
theorem z_1200 : (Jvm.Cond.methodLink "WhoseGlassLaw" (127 : Nat) ({ cls := "WhoseGlassModel", name := "driver", desc := "(I)I" } : Jvm.MethodName)) ∈ yGW := y_i6 0 rfl rfl
theorem z_1201 : (Jvm.Cond.instanceMethod ({ cls := "WhoseGlassModel", name := "driver", desc := "(I)I" } : Jvm.MethodName)) ∈ yGW := y_i6 1 rfl rfl
theorem z_1202 : (Jvm.Cond.selects "WhoseGlassModel" ({ cls := "WhoseGlassModel", name := "driver", desc := "(I)I" } : Jvm.MethodName) ({ cls := "WhoseGlassModel", name := "driver", desc := "(I)I" } : Jvm.MethodName)) ∈ yGW := y_i6 2 rfl rfl
theorem z_1203 : (Jvm.Cond.code ({ cls := "WhoseGlassModel", name := "driver", desc := "(I)I" } : Jvm.MethodName) prog_8_method_68_code (4 : Nat) (Option.some Jvm.ClassFile.FieldType.int)) ∈ yGW := y_i6 3 rfl rfl
theorem d_law_986 : decode code 986 = .ok (.invokevirtual 127, 3) := by decide +kernel
theorem d_law_989 : decode code 989 = .ok (.if_icmp .eq 504, 3) := by decide +kernel
theorem z_562 : (Jvm.Cond.methodLink "WhoseGlassLaw" (128 : Nat) ({ cls := "WhoseGlass", name := "full", desc := "()I" } : Jvm.MethodName)) ∈ yGW := y_i3 82 rfl rfl
theorem z_563 : (Jvm.Cond.instanceMethod ({ cls := "WhoseGlass", name := "full", desc := "()I" } : Jvm.MethodName)) ∈ yGW := y_i3 83 rfl rfl
theorem z_564 : (Jvm.Cond.selects "WhoseGlass" ({ cls := "WhoseGlass", name := "full", desc := "()I" } : Jvm.MethodName) ({ cls := "WhoseGlass", name := "full", desc := "()I" } : Jvm.MethodName)) ∈ yGW := y_i3 84 rfl rfl
theorem z_565 : (Jvm.Cond.code ({ cls := "WhoseGlass", name := "full", desc := "()I" } : Jvm.MethodName) prog_1_method_28_code (2 : Nat) (Option.some Jvm.ClassFile.FieldType.int)) ∈ yGW := y_i3 85 rfl rfl
theorem d_law_994 : decode code 994 = .ok (.aload_n 1, 1) := by decide +kernel
theorem d_law_995 : decode code 995 = .ok (.invokevirtual 128, 3) := by decide +kernel
theorem d_law_998 : decode code 998 = .ok (.aload_n 2, 1) := by decide +kernel
theorem z_1204 : (Jvm.Cond.methodLink "WhoseGlassLaw" (132 : Nat) ({ cls := "WhoseGlassModel", name := "full", desc := "()I" } : Jvm.MethodName)) ∈ yGW := y_i6 4 rfl rfl
theorem z_1205 : (Jvm.Cond.instanceMethod ({ cls := "WhoseGlassModel", name := "full", desc := "()I" } : Jvm.MethodName)) ∈ yGW := y_i6 5 rfl rfl
theorem z_1206 : (Jvm.Cond.selects "WhoseGlassModel" ({ cls := "WhoseGlassModel", name := "full", desc := "()I" } : Jvm.MethodName) ({ cls := "WhoseGlassModel", name := "full", desc := "()I" } : Jvm.MethodName)) ∈ yGW := y_i6 6 rfl rfl
theorem z_1207 : (Jvm.Cond.code ({ cls := "WhoseGlassModel", name := "full", desc := "()I" } : Jvm.MethodName) prog_8_method_70_code (3 : Nat) (Option.some Jvm.ClassFile.FieldType.int)) ∈ yGW := y_i6 7 rfl rfl
theorem d_law_999 : decode code 999 = .ok (.invokevirtual 132, 3) := by decide +kernel
theorem d_law_1002 : decode code 1002 = .ok (.if_icmp .eq 491, 3) := by decide +kernel
theorem z_570 : (Jvm.Cond.methodLink "WhoseGlassLaw" (133 : Nat) ({ cls := "WhoseGlass", name := "seeded", desc := "(III)I" } : Jvm.MethodName)) ∈ yGW := y_i3 90 rfl rfl
theorem z_571 : (Jvm.Cond.instanceMethod ({ cls := "WhoseGlass", name := "seeded", desc := "(III)I" } : Jvm.MethodName)) ∈ yGW := y_i3 91 rfl rfl
theorem z_572 : (Jvm.Cond.selects "WhoseGlass" ({ cls := "WhoseGlass", name := "seeded", desc := "(III)I" } : Jvm.MethodName) ({ cls := "WhoseGlass", name := "seeded", desc := "(III)I" } : Jvm.MethodName)) ∈ yGW := y_i3 92 rfl rfl
theorem z_573 : (Jvm.Cond.code ({ cls := "WhoseGlass", name := "seeded", desc := "(III)I" } : Jvm.MethodName) prog_1_method_29_code (6 : Nat) (Option.some Jvm.ClassFile.FieldType.int)) ∈ yGW := y_i3 93 rfl rfl
theorem d_law_1007 : decode code 1007 = .ok (.aload_n 1, 1) := by decide +kernel
theorem d_law_1008 : decode code 1008 = .ok (.aload_n 0, 1) := by decide +kernel
theorem d_law_1009 : decode code 1009 = .ok (.iload 4, 2) := by decide +kernel
theorem d_law_1011 : decode code 1011 = .ok (.iconst 1, 1) := by decide +kernel
theorem d_law_1012 : decode code 1012 = .ok (.iadd, 1) := by decide +kernel
theorem d_law_1013 : decode code 1013 = .ok (.iaload, 1) := by decide +kernel
theorem d_law_1014 : decode code 1014 = .ok (.aload_n 0, 1) := by decide +kernel
theorem d_law_1015 : decode code 1015 = .ok (.iload 4, 2) := by decide +kernel
theorem d_law_1017 : decode code 1017 = .ok (.iconst 2, 1) := by decide +kernel
theorem d_law_1018 : decode code 1018 = .ok (.iadd, 1) := by decide +kernel
theorem d_law_1019 : decode code 1019 = .ok (.iaload, 1) := by decide +kernel
theorem d_law_1020 : decode code 1020 = .ok (.aload_n 0, 1) := by decide +kernel
theorem d_law_1021 : decode code 1021 = .ok (.iload 4, 2) := by decide +kernel
theorem d_law_1023 : decode code 1023 = .ok (.iconst 3, 1) := by decide +kernel
theorem d_law_1024 : decode code 1024 = .ok (.iadd, 1) := by decide +kernel
theorem d_law_1025 : decode code 1025 = .ok (.iaload, 1) := by decide +kernel
theorem d_law_1026 : decode code 1026 = .ok (.invokevirtual 133, 3) := by decide +kernel
theorem d_law_1029 : decode code 1029 = .ok (.aload_n 2, 1) := by decide +kernel
theorem d_law_1030 : decode code 1030 = .ok (.aload_n 0, 1) := by decide +kernel
theorem d_law_1031 : decode code 1031 = .ok (.iload 4, 2) := by decide +kernel
theorem d_law_1033 : decode code 1033 = .ok (.iconst 1, 1) := by decide +kernel
theorem d_law_1034 : decode code 1034 = .ok (.iadd, 1) := by decide +kernel
theorem d_law_1035 : decode code 1035 = .ok (.iaload, 1) := by decide +kernel
theorem d_law_1036 : decode code 1036 = .ok (.aload_n 0, 1) := by decide +kernel
theorem d_law_1037 : decode code 1037 = .ok (.iload 4, 2) := by decide +kernel
theorem d_law_1039 : decode code 1039 = .ok (.iconst 2, 1) := by decide +kernel
theorem d_law_1040 : decode code 1040 = .ok (.iadd, 1) := by decide +kernel
theorem d_law_1041 : decode code 1041 = .ok (.iaload, 1) := by decide +kernel
theorem d_law_1042 : decode code 1042 = .ok (.aload_n 0, 1) := by decide +kernel
theorem d_law_1043 : decode code 1043 = .ok (.iload 4, 2) := by decide +kernel
theorem d_law_1045 : decode code 1045 = .ok (.iconst 3, 1) := by decide +kernel
theorem d_law_1046 : decode code 1046 = .ok (.iadd, 1) := by decide +kernel
theorem d_law_1047 : decode code 1047 = .ok (.iaload, 1) := by decide +kernel
theorem z_1212 : (Jvm.Cond.methodLink "WhoseGlassLaw" (136 : Nat) ({ cls := "WhoseGlassModel", name := "seeded", desc := "(III)I" } : Jvm.MethodName)) ∈ yGW := y_i6 12 rfl rfl
theorem z_1213 : (Jvm.Cond.instanceMethod ({ cls := "WhoseGlassModel", name := "seeded", desc := "(III)I" } : Jvm.MethodName)) ∈ yGW := y_i6 13 rfl rfl
theorem z_1214 : (Jvm.Cond.selects "WhoseGlassModel" ({ cls := "WhoseGlassModel", name := "seeded", desc := "(III)I" } : Jvm.MethodName) ({ cls := "WhoseGlassModel", name := "seeded", desc := "(III)I" } : Jvm.MethodName)) ∈ yGW := y_i6 14 rfl rfl
theorem z_1215 : (Jvm.Cond.code ({ cls := "WhoseGlassModel", name := "seeded", desc := "(III)I" } : Jvm.MethodName) prog_8_method_72_code (6 : Nat) (Option.some Jvm.ClassFile.FieldType.int)) ∈ yGW := y_i6 15 rfl rfl
theorem d_law_1048 : decode code 1048 = .ok (.invokevirtual 136, 3) := by decide +kernel
theorem d_law_1051 : decode code 1051 = .ok (.if_icmp .eq 442, 3) := by decide +kernel
theorem z_581 : (Jvm.Cond.methodLink "WhoseGlassLaw" (137 : Nat) ({ cls := "WhoseGlass", name := "judge", desc := "(II)I" } : Jvm.MethodName)) ∈ yGW := y_i3 101 rfl rfl
theorem z_582 : (Jvm.Cond.instanceMethod ({ cls := "WhoseGlass", name := "judge", desc := "(II)I" } : Jvm.MethodName)) ∈ yGW := y_i3 102 rfl rfl
theorem z_583 : (Jvm.Cond.selects "WhoseGlass" ({ cls := "WhoseGlass", name := "judge", desc := "(II)I" } : Jvm.MethodName) ({ cls := "WhoseGlass", name := "judge", desc := "(II)I" } : Jvm.MethodName)) ∈ yGW := y_i3 103 rfl rfl
theorem z_584 : (Jvm.Cond.code ({ cls := "WhoseGlass", name := "judge", desc := "(II)I" } : Jvm.MethodName) prog_1_method_30_code (7 : Nat) (Option.some Jvm.ClassFile.FieldType.int)) ∈ yGW := y_i3 104 rfl rfl
theorem d_law_1056 : decode code 1056 = .ok (.aload_n 1, 1) := by decide +kernel
theorem d_law_1057 : decode code 1057 = .ok (.aload_n 0, 1) := by decide +kernel
theorem d_law_1058 : decode code 1058 = .ok (.iload 4, 2) := by decide +kernel
theorem d_law_1060 : decode code 1060 = .ok (.iconst 1, 1) := by decide +kernel
theorem d_law_1061 : decode code 1061 = .ok (.iadd, 1) := by decide +kernel
theorem d_law_1062 : decode code 1062 = .ok (.iaload, 1) := by decide +kernel
theorem d_law_1063 : decode code 1063 = .ok (.aload_n 0, 1) := by decide +kernel
theorem d_law_1064 : decode code 1064 = .ok (.iload 4, 2) := by decide +kernel
theorem d_law_1066 : decode code 1066 = .ok (.iconst 2, 1) := by decide +kernel
theorem d_law_1067 : decode code 1067 = .ok (.iadd, 1) := by decide +kernel
theorem d_law_1068 : decode code 1068 = .ok (.iaload, 1) := by decide +kernel
theorem d_law_1069 : decode code 1069 = .ok (.invokevirtual 137, 3) := by decide +kernel
theorem d_law_1072 : decode code 1072 = .ok (.aload_n 2, 1) := by decide +kernel
theorem d_law_1073 : decode code 1073 = .ok (.aload_n 0, 1) := by decide +kernel
theorem d_law_1074 : decode code 1074 = .ok (.iload 4, 2) := by decide +kernel
theorem d_law_1076 : decode code 1076 = .ok (.iconst 1, 1) := by decide +kernel
theorem d_law_1077 : decode code 1077 = .ok (.iadd, 1) := by decide +kernel
theorem d_law_1078 : decode code 1078 = .ok (.iaload, 1) := by decide +kernel
theorem d_law_1079 : decode code 1079 = .ok (.aload_n 0, 1) := by decide +kernel
theorem d_law_1080 : decode code 1080 = .ok (.iload 4, 2) := by decide +kernel
theorem d_law_1082 : decode code 1082 = .ok (.iconst 2, 1) := by decide +kernel
theorem d_law_1083 : decode code 1083 = .ok (.iadd, 1) := by decide +kernel
theorem d_law_1084 : decode code 1084 = .ok (.iaload, 1) := by decide +kernel
theorem z_1224 : (Jvm.Cond.methodLink "WhoseGlassLaw" (140 : Nat) ({ cls := "WhoseGlassModel", name := "judge", desc := "(II)I" } : Jvm.MethodName)) ∈ yGW := y_i6 24 rfl rfl
theorem z_1225 : (Jvm.Cond.instanceMethod ({ cls := "WhoseGlassModel", name := "judge", desc := "(II)I" } : Jvm.MethodName)) ∈ yGW := y_i6 25 rfl rfl
theorem z_1226 : (Jvm.Cond.selects "WhoseGlassModel" ({ cls := "WhoseGlassModel", name := "judge", desc := "(II)I" } : Jvm.MethodName) ({ cls := "WhoseGlassModel", name := "judge", desc := "(II)I" } : Jvm.MethodName)) ∈ yGW := y_i6 26 rfl rfl
theorem z_1227 : (Jvm.Cond.code ({ cls := "WhoseGlassModel", name := "judge", desc := "(II)I" } : Jvm.MethodName) prog_8_method_74_code (8 : Nat) (Option.some Jvm.ClassFile.FieldType.int)) ∈ yGW := y_i6 27 rfl rfl
theorem d_law_1085 : decode code 1085 = .ok (.invokevirtual 140, 3) := by decide +kernel
theorem d_law_1088 : decode code 1088 = .ok (.if_icmp .eq 405, 3) := by decide +kernel
theorem gc_law_124 : GoodIn yGW (wsV "WhoseGlassLaw" 124 yR4 m_X_driver ws_X_driver) := y_gV z_554 z_555 z_556 g_1 z_557
theorem gc_law_127 : GoodIn yGW (wsV "WhoseGlassLaw" 127 yR5 m_M_driver ws_M_driver) := y_gV z_1200 z_1201 z_1202 g_6 z_1203
theorem l_c25 {p : Program} {l : Launch} {e : Env} {s : State} {m : MethodId} {below : List Frame} {meth : Method} {c : Code} {Q : State → Prop} {cells slots b L i : Nat} {xs : Nat → Int32} {w2 : va_G × (Nat → ClassId)} {aX aM : Nat → Nat} {qo : Nat} {σ τ : Mm} {g : Nat → Int64} (C : lC p l s m meth c b L xs w2) (D : lD s.heap.size aX aM qo) (hi : 6 * i + 6 ≤ L) (R : Rel σ τ) (hcs : cells + 1 ≤ room_1.cells ∧ slots + 6 ≤ room_1.slots) (J : ∀ (σ1 τ1 : Mm) (g1 : Nat → Int64), Rel σ1 τ1 → lG p l e s m below meth c b w2 aX aM qo Q (cells + 1) (slots + 6) σ1 τ1 g1 1493 (lvI b aX aM qo i) []) : lG p l e s m below meth c b w2 aX aM qo Q cells slots σ τ g 969 (lvI b aX aM qo i) [] := by
  obtain ⟨N, R⟩ := R
  obtain ⟨p1, hp, q1, hq, e1, R1⟩ := q_driver (F := 3000) (xs (6 * i + 1)) R (Nat.le_of_ble_eq_true rfl)
  refine l_aX C d_law_969 ?_
  refine l_arg 1 C hi (by decide) rfl d_law_970 d_law_971 d_law_973 d_law_974 d_law_975 ?_
  refine l_callX 1 C D (c_X_driver l (aX, w2) 3000 σ 0 _ p1 hp) gc_law_124 hd_X_driver ⟨Nat.le_of_ble_eq_true rfl, Nat.le_of_ble_eq_true rfl⟩ rfl rfl ⟨Nat.le_of_succ_le hcs.1, Nat.le_trans (Nat.le_add_right _ _) hcs.2⟩ rfl rfl (Nat.le_of_ble_eq_true rfl) d_law_976 ?_
  refine l_aM C d_law_979 ?_
  refine l_arg 1 C hi (by decide) rfl d_law_980 d_law_981 d_law_983 d_law_984 d_law_985 ?_
  refine l_callM 1 C D (c_M_driver l (aM, w2) 3000 τ 0 _ q1 hq) gc_law_127 hd_M_driver ⟨Nat.le_of_ble_eq_true rfl, Nat.le_of_ble_eq_true rfl⟩ rfl rfl ⟨Nat.le_of_succ_le hcs.1, Nat.le_trans (Nat.le_add_right _ _) hcs.2⟩ rfl rfl (Nat.le_of_ble_eq_true rfl) d_law_986 ?_
  refine l_ceq (tgt := 1493) C e1 d_law_989 (by decide) ?_
  exact l_wide (Nat.le_succ _) (Nat.le_add_right _ _) (J p1.2 q1.2 g R1)
theorem gc_law_128 : GoodIn yGW (wsV "WhoseGlassLaw" 128 yR4 m_X_full ws_X_full) := y_gV z_562 z_563 z_564 g_1 z_565
theorem gc_law_132 : GoodIn yGW (wsV "WhoseGlassLaw" 132 yR5 m_M_full ws_M_full) := y_gV z_1204 z_1205 z_1206 g_6 z_1207
theorem l_c26 {p : Program} {l : Launch} {e : Env} {s : State} {m : MethodId} {below : List Frame} {meth : Method} {c : Code} {Q : State → Prop} {cells slots b L i : Nat} {xs : Nat → Int32} {w2 : va_G × (Nat → ClassId)} {aX aM : Nat → Nat} {qo : Nat} {σ τ : Mm} {g : Nat → Int64} (C : lC p l s m meth c b L xs w2) (D : lD s.heap.size aX aM qo) (hi : 6 * i + 6 ≤ L) (R : Rel σ τ) (hcs : cells + 1 ≤ room_1.cells ∧ slots + 6 ≤ room_1.slots) (J : ∀ (σ1 τ1 : Mm) (g1 : Nat → Int64), Rel σ1 τ1 → lG p l e s m below meth c b w2 aX aM qo Q (cells + 1) (slots + 6) σ1 τ1 g1 1493 (lvI b aX aM qo i) []) : lG p l e s m below meth c b w2 aX aM qo Q cells slots σ τ g 994 (lvI b aX aM qo i) [] := by
  obtain ⟨N, R⟩ := R
  obtain ⟨p1, hp, q1, hq, e1, R1⟩ := q_full (F := 3000)  R (Nat.le_of_ble_eq_true rfl)
  refine l_aX C d_law_994 ?_
  refine l_callX 0 C D (c_X_full l (aX, w2) 3000 σ 0  p1 hp) gc_law_128 hd_X_full ⟨Nat.le_of_ble_eq_true rfl, Nat.le_of_ble_eq_true rfl⟩ rfl rfl ⟨Nat.le_of_succ_le hcs.1, Nat.le_trans (Nat.le_add_right _ _) hcs.2⟩ rfl rfl (Nat.le_of_ble_eq_true rfl) d_law_995 ?_
  refine l_aM C d_law_998 ?_
  refine l_callM 0 C D (c_M_full l (aM, w2) 3000 τ 0  q1 hq) gc_law_132 hd_M_full ⟨Nat.le_of_ble_eq_true rfl, Nat.le_of_ble_eq_true rfl⟩ rfl rfl ⟨Nat.le_of_succ_le hcs.1, Nat.le_trans (Nat.le_add_right _ _) hcs.2⟩ rfl rfl (Nat.le_of_ble_eq_true rfl) d_law_999 ?_
  refine l_ceq (tgt := 1493) C e1 d_law_1002 (by decide) ?_
  exact l_wide (Nat.le_succ _) (Nat.le_add_right _ _) (J p1.2 q1.2 g R1)
theorem gc_law_133 : GoodIn yGW (wsV "WhoseGlassLaw" 133 yR4 m_X_seeded ws_X_seeded) := y_gV z_570 z_571 z_572 g_1 z_573
theorem gc_law_136 : GoodIn yGW (wsV "WhoseGlassLaw" 136 yR5 m_M_seeded ws_M_seeded) := y_gV z_1212 z_1213 z_1214 g_6 z_1215
theorem l_c27 {p : Program} {l : Launch} {e : Env} {s : State} {m : MethodId} {below : List Frame} {meth : Method} {c : Code} {Q : State → Prop} {cells slots b L i : Nat} {xs : Nat → Int32} {w2 : va_G × (Nat → ClassId)} {aX aM : Nat → Nat} {qo : Nat} {σ τ : Mm} {g : Nat → Int64} (C : lC p l s m meth c b L xs w2) (D : lD s.heap.size aX aM qo) (hi : 6 * i + 6 ≤ L) (R : Rel σ τ) (hcs : cells + 1 ≤ room_1.cells ∧ slots + 6 ≤ room_1.slots) (J : ∀ (σ1 τ1 : Mm) (g1 : Nat → Int64), Rel σ1 τ1 → lG p l e s m below meth c b w2 aX aM qo Q (cells + 1) (slots + 6) σ1 τ1 g1 1493 (lvI b aX aM qo i) []) : lG p l e s m below meth c b w2 aX aM qo Q cells slots σ τ g 1007 (lvI b aX aM qo i) [] := by
  obtain ⟨N, R⟩ := R
  obtain ⟨p1, hp, q1, hq, e1, R1⟩ := q_seeded (F := 3000) (xs (6 * i + 1)) (xs (6 * i + 2)) (xs (6 * i + 3)) R (Nat.le_of_ble_eq_true rfl)
  refine l_aX C d_law_1007 ?_
  refine l_arg 1 C hi (by decide) rfl d_law_1008 d_law_1009 d_law_1011 d_law_1012 d_law_1013 ?_
  refine l_arg 2 C hi (by decide) rfl d_law_1014 d_law_1015 d_law_1017 d_law_1018 d_law_1019 ?_
  refine l_arg 3 C hi (by decide) rfl d_law_1020 d_law_1021 d_law_1023 d_law_1024 d_law_1025 ?_
  refine l_callX 3 C D (c_X_seeded l (aX, w2) 3000 σ 0 _ _ _ p1 hp) gc_law_133 hd_X_seeded ⟨Nat.le_of_ble_eq_true rfl, Nat.le_of_ble_eq_true rfl⟩ rfl rfl ⟨Nat.le_of_succ_le hcs.1, Nat.le_trans (Nat.le_add_right _ _) hcs.2⟩ rfl rfl (Nat.le_of_ble_eq_true rfl) d_law_1026 ?_
  refine l_aM C d_law_1029 ?_
  refine l_arg 1 C hi (by decide) rfl d_law_1030 d_law_1031 d_law_1033 d_law_1034 d_law_1035 ?_
  refine l_arg 2 C hi (by decide) rfl d_law_1036 d_law_1037 d_law_1039 d_law_1040 d_law_1041 ?_
  refine l_arg 3 C hi (by decide) rfl d_law_1042 d_law_1043 d_law_1045 d_law_1046 d_law_1047 ?_
  refine l_callM 3 C D (c_M_seeded l (aM, w2) 3000 τ 0 _ _ _ q1 hq) gc_law_136 hd_M_seeded ⟨Nat.le_of_ble_eq_true rfl, Nat.le_of_ble_eq_true rfl⟩ rfl rfl ⟨Nat.le_of_succ_le hcs.1, Nat.le_trans (Nat.le_add_right _ _) hcs.2⟩ rfl rfl (Nat.le_of_ble_eq_true rfl) d_law_1048 ?_
  refine l_ceq (tgt := 1493) C e1 d_law_1051 (by decide) ?_
  exact l_wide (Nat.le_succ _) (Nat.le_add_right _ _) (J p1.2 q1.2 g R1)
theorem gc_law_137 : GoodIn yGW (wsV "WhoseGlassLaw" 137 yR4 m_X_judge ws_X_judge) := y_gV z_581 z_582 z_583 g_1 z_584
theorem gc_law_140 : GoodIn yGW (wsV "WhoseGlassLaw" 140 yR5 m_M_judge ws_M_judge) := y_gV z_1224 z_1225 z_1226 g_6 z_1227
theorem l_c28 {p : Program} {l : Launch} {e : Env} {s : State} {m : MethodId} {below : List Frame} {meth : Method} {c : Code} {Q : State → Prop} {cells slots b L i : Nat} {xs : Nat → Int32} {w2 : va_G × (Nat → ClassId)} {aX aM : Nat → Nat} {qo : Nat} {σ τ : Mm} {g : Nat → Int64} (C : lC p l s m meth c b L xs w2) (D : lD s.heap.size aX aM qo) (hi : 6 * i + 6 ≤ L) (R : Rel σ τ) (hcs : cells + 1 ≤ room_1.cells ∧ slots + 6 ≤ room_1.slots) (J : ∀ (σ1 τ1 : Mm) (g1 : Nat → Int64), Rel σ1 τ1 → lG p l e s m below meth c b w2 aX aM qo Q (cells + 1) (slots + 6) σ1 τ1 g1 1493 (lvI b aX aM qo i) []) : lG p l e s m below meth c b w2 aX aM qo Q cells slots σ τ g 1056 (lvI b aX aM qo i) [] := by
  obtain ⟨N, R⟩ := R
  obtain ⟨p1, hp, q1, hq, e1, R1⟩ := q_judge (F := 3000) (xs (6 * i + 1)) (xs (6 * i + 2)) R (Nat.le_of_ble_eq_true rfl)
  refine l_aX C d_law_1056 ?_
  refine l_arg 1 C hi (by decide) rfl d_law_1057 d_law_1058 d_law_1060 d_law_1061 d_law_1062 ?_
  refine l_arg 2 C hi (by decide) rfl d_law_1063 d_law_1064 d_law_1066 d_law_1067 d_law_1068 ?_
  refine l_callX 2 C D (c_X_judge l (aX, w2) 3000 σ 0 _ _ p1 hp) gc_law_137 hd_X_judge ⟨Nat.le_of_ble_eq_true rfl, Nat.le_of_ble_eq_true rfl⟩ rfl rfl ⟨Nat.le_of_succ_le hcs.1, Nat.le_trans (Nat.le_add_right _ _) hcs.2⟩ rfl rfl (Nat.le_of_ble_eq_true rfl) d_law_1069 ?_
  refine l_aM C d_law_1072 ?_
  refine l_arg 1 C hi (by decide) rfl d_law_1073 d_law_1074 d_law_1076 d_law_1077 d_law_1078 ?_
  refine l_arg 2 C hi (by decide) rfl d_law_1079 d_law_1080 d_law_1082 d_law_1083 d_law_1084 ?_
  refine l_callM 2 C D (c_M_judge l (aM, w2) 3000 τ 0 _ _ q1 hq) gc_law_140 hd_M_judge ⟨Nat.le_of_ble_eq_true rfl, Nat.le_of_ble_eq_true rfl⟩ rfl rfl ⟨Nat.le_of_succ_le hcs.1, Nat.le_trans (Nat.le_add_right _ _) hcs.2⟩ rfl rfl (Nat.le_of_ble_eq_true rfl) d_law_1085 ?_
  refine l_ceq (tgt := 1493) C e1 d_law_1088 (by decide) ?_
  exact l_wide (Nat.le_succ _) (Nat.le_add_right _ _) (J p1.2 q1.2 g R1)
