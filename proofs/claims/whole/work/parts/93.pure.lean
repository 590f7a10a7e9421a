/-! PURE 93: the law, cases 21.. -/
theorem z_514 : (Jvm.Cond.methodLink "WhoseGlassLaw" (108 : Nat) ({ cls := "WhoseGlass", name := "brought", desc := "(II)I" } : Jvm.MethodName)) ∈ yGW := y_i3 34 rfl rfl
theorem z_515 : (Jvm.Cond.instanceMethod ({ cls := "WhoseGlass", name := "brought", desc := "(II)I" } : Jvm.MethodName)) ∈ yGW := y_i3 35 rfl rfl
theorem z_516 : (Jvm.Cond.selects "WhoseGlass" ({ cls := "WhoseGlass", name := "brought", desc := "(II)I" } : Jvm.MethodName) ({ cls := "WhoseGlass", name := "brought", desc := "(II)I" } : Jvm.MethodName)) ∈ yGW := y_i3 36 rfl rfl
theorem z_517 : (Jvm.Cond.code ({ cls := "WhoseGlass", name := "brought", desc := "(II)I" } : Jvm.MethodName) prog_1_method_23_code (5 : Nat) (Option.some Jvm.ClassFile.FieldType.int)) ∈ yGW := y_i3 37 rfl rfl
theorem d_law_857 : decode code 857 = .ok (.aload_n 1, 1) := by decide +kernel
theorem d_law_858 : decode code 858 = .ok (.aload_n 0, 1) := by decide +kernel
theorem d_law_859 : decode code 859 = .ok (.iload 4, 2) := by decide +kernel
theorem d_law_861 : decode code 861 = .ok (.iconst 1, 1) := by decide +kernel
theorem d_law_862 : decode code 862 = .ok (.iadd, 1) := by decide +kernel
theorem d_law_863 : decode code 863 = .ok (.iaload, 1) := by decide +kernel
theorem d_law_864 : decode code 864 = .ok (.aload_n 0, 1) := by decide +kernel
theorem d_law_865 : decode code 865 = .ok (.iload 4, 2) := by decide +kernel
theorem d_law_867 : decode code 867 = .ok (.iconst 2, 1) := by decide +kernel
theorem d_law_868 : decode code 868 = .ok (.iadd, 1) := by decide +kernel
theorem d_law_869 : decode code 869 = .ok (.iaload, 1) := by decide +kernel
theorem d_law_870 : decode code 870 = .ok (.invokevirtual 108, 3) := by decide +kernel
theorem d_law_873 : decode code 873 = .ok (.aload_n 2, 1) := by decide +kernel
theorem d_law_874 : decode code 874 = .ok (.aload_n 0, 1) := by decide +kernel
theorem d_law_875 : decode code 875 = .ok (.iload 4, 2) := by decide +kernel
theorem d_law_877 : decode code 877 = .ok (.iconst 1, 1) := by decide +kernel
theorem d_law_878 : decode code 878 = .ok (.iadd, 1) := by decide +kernel
theorem d_law_879 : decode code 879 = .ok (.iaload, 1) := by decide +kernel
theorem d_law_880 : decode code 880 = .ok (.aload_n 0, 1) := by decide +kernel
theorem d_law_881 : decode code 881 = .ok (.iload 4, 2) := by decide +kernel
theorem d_law_883 : decode code 883 = .ok (.iconst 2, 1) := by decide +kernel
theorem d_law_884 : decode code 884 = .ok (.iadd, 1) := by decide +kernel
theorem d_law_885 : decode code 885 = .ok (.iaload, 1) := by decide +kernel
theorem z_1180 : (Jvm.Cond.methodLink "WhoseGlassLaw" (111 : Nat) ({ cls := "WhoseGlassModel", name := "brought", desc := "(II)I" } : Jvm.MethodName)) ∈ yGW := y_i5 220 rfl rfl
theorem z_1181 : (Jvm.Cond.instanceMethod ({ cls := "WhoseGlassModel", name := "brought", desc := "(II)I" } : Jvm.MethodName)) ∈ yGW := y_i5 221 rfl rfl
theorem z_1182 : (Jvm.Cond.selects "WhoseGlassModel" ({ cls := "WhoseGlassModel", name := "brought", desc := "(II)I" } : Jvm.MethodName) ({ cls := "WhoseGlassModel", name := "brought", desc := "(II)I" } : Jvm.MethodName)) ∈ yGW := y_i5 222 rfl rfl
theorem z_1183 : (Jvm.Cond.code ({ cls := "WhoseGlassModel", name := "brought", desc := "(II)I" } : Jvm.MethodName) prog_8_method_64_code (5 : Nat) (Option.some Jvm.ClassFile.FieldType.int)) ∈ yGW := y_i5 223 rfl rfl
theorem d_law_886 : decode code 886 = .ok (.invokevirtual 111, 3) := by decide +kernel
theorem d_law_889 : decode code 889 = .ok (.if_icmp .eq 604, 3) := by decide +kernel
theorem z_526 : (Jvm.Cond.methodLink "WhoseGlassLaw" (112 : Nat) ({ cls := "WhoseGlass", name := "particular", desc := "(I)I" } : Jvm.MethodName)) ∈ yGW := y_i3 46 rfl rfl
theorem z_527 : (Jvm.Cond.instanceMethod ({ cls := "WhoseGlass", name := "particular", desc := "(I)I" } : Jvm.MethodName)) ∈ yGW := y_i3 47 rfl rfl
theorem z_528 : (Jvm.Cond.selects "WhoseGlass" ({ cls := "WhoseGlass", name := "particular", desc := "(I)I" } : Jvm.MethodName) ({ cls := "WhoseGlass", name := "particular", desc := "(I)I" } : Jvm.MethodName)) ∈ yGW := y_i3 48 rfl rfl
theorem z_529 : (Jvm.Cond.code ({ cls := "WhoseGlass", name := "particular", desc := "(I)I" } : Jvm.MethodName) prog_1_method_24_code (4 : Nat) (Option.some Jvm.ClassFile.FieldType.int)) ∈ yGW := y_i3 49 rfl rfl
theorem d_law_894 : decode code 894 = .ok (.aload_n 1, 1) := by decide +kernel
theorem d_law_895 : decode code 895 = .ok (.aload_n 0, 1) := by decide +kernel
theorem d_law_896 : decode code 896 = .ok (.iload 4, 2) := by decide +kernel
theorem d_law_898 : decode code 898 = .ok (.iconst 1, 1) := by decide +kernel
theorem d_law_899 : decode code 899 = .ok (.iadd, 1) := by decide +kernel
theorem d_law_900 : decode code 900 = .ok (.iaload, 1) := by decide +kernel
theorem d_law_901 : decode code 901 = .ok (.invokevirtual 112, 3) := by decide +kernel
theorem d_law_904 : decode code 904 = .ok (.aload_n 2, 1) := by decide +kernel
theorem d_law_905 : decode code 905 = .ok (.aload_n 0, 1) := by decide +kernel
theorem d_law_906 : decode code 906 = .ok (.iload 4, 2) := by decide +kernel
theorem d_law_908 : decode code 908 = .ok (.iconst 1, 1) := by decide +kernel
theorem d_law_909 : decode code 909 = .ok (.iadd, 1) := by decide +kernel
theorem d_law_910 : decode code 910 = .ok (.iaload, 1) := by decide +kernel
theorem z_1188 : (Jvm.Cond.methodLink "WhoseGlassLaw" (115 : Nat) ({ cls := "WhoseGlassModel", name := "particular", desc := "(I)I" } : Jvm.MethodName)) ∈ yGW := y_i5 228 rfl rfl
theorem z_1189 : (Jvm.Cond.instanceMethod ({ cls := "WhoseGlassModel", name := "particular", desc := "(I)I" } : Jvm.MethodName)) ∈ yGW := y_i5 229 rfl rfl
theorem z_1190 : (Jvm.Cond.selects "WhoseGlassModel" ({ cls := "WhoseGlassModel", name := "particular", desc := "(I)I" } : Jvm.MethodName) ({ cls := "WhoseGlassModel", name := "particular", desc := "(I)I" } : Jvm.MethodName)) ∈ yGW := y_i5 230 rfl rfl
theorem z_1191 : (Jvm.Cond.code ({ cls := "WhoseGlassModel", name := "particular", desc := "(I)I" } : Jvm.MethodName) prog_8_method_65_code (6 : Nat) (Option.some Jvm.ClassFile.FieldType.int)) ∈ yGW := y_i5 231 rfl rfl
theorem d_law_911 : decode code 911 = .ok (.invokevirtual 115, 3) := by decide +kernel
theorem d_law_914 : decode code 914 = .ok (.if_icmp .eq 579, 3) := by decide +kernel
theorem z_538 : (Jvm.Cond.methodLink "WhoseGlassLaw" (116 : Nat) ({ cls := "WhoseGlass", name := "mark", desc := "(I)I" } : Jvm.MethodName)) ∈ yGW := y_i3 58 rfl rfl
theorem z_539 : (Jvm.Cond.instanceMethod ({ cls := "WhoseGlass", name := "mark", desc := "(I)I" } : Jvm.MethodName)) ∈ yGW := y_i3 59 rfl rfl
theorem z_540 : (Jvm.Cond.selects "WhoseGlass" ({ cls := "WhoseGlass", name := "mark", desc := "(I)I" } : Jvm.MethodName) ({ cls := "WhoseGlass", name := "mark", desc := "(I)I" } : Jvm.MethodName)) ∈ yGW := y_i3 60 rfl rfl
theorem z_541 : (Jvm.Cond.code ({ cls := "WhoseGlass", name := "mark", desc := "(I)I" } : Jvm.MethodName) prog_1_method_25_code (6 : Nat) (Option.some Jvm.ClassFile.FieldType.int)) ∈ yGW := y_i3 61 rfl rfl
theorem d_law_919 : decode code 919 = .ok (.aload_n 1, 1) := by decide +kernel
theorem d_law_920 : decode code 920 = .ok (.aload_n 0, 1) := by decide +kernel
theorem d_law_921 : decode code 921 = .ok (.iload 4, 2) := by decide +kernel
theorem d_law_923 : decode code 923 = .ok (.iconst 1, 1) := by decide +kernel
theorem d_law_924 : decode code 924 = .ok (.iadd, 1) := by decide +kernel
theorem d_law_925 : decode code 925 = .ok (.iaload, 1) := by decide +kernel
theorem d_law_926 : decode code 926 = .ok (.invokevirtual 116, 3) := by decide +kernel
theorem d_law_929 : decode code 929 = .ok (.aload_n 2, 1) := by decide +kernel
theorem d_law_930 : decode code 930 = .ok (.aload_n 0, 1) := by decide +kernel
theorem d_law_931 : decode code 931 = .ok (.iload 4, 2) := by decide +kernel
theorem d_law_933 : decode code 933 = .ok (.iconst 1, 1) := by decide +kernel
theorem d_law_934 : decode code 934 = .ok (.iadd, 1) := by decide +kernel
theorem d_law_935 : decode code 935 = .ok (.iaload, 1) := by decide +kernel
theorem z_1192 : (Jvm.Cond.methodLink "WhoseGlassLaw" (119 : Nat) ({ cls := "WhoseGlassModel", name := "mark", desc := "(I)I" } : Jvm.MethodName)) ∈ yGW := y_i5 232 rfl rfl
theorem z_1193 : (Jvm.Cond.instanceMethod ({ cls := "WhoseGlassModel", name := "mark", desc := "(I)I" } : Jvm.MethodName)) ∈ yGW := y_i5 233 rfl rfl
theorem z_1194 : (Jvm.Cond.selects "WhoseGlassModel" ({ cls := "WhoseGlassModel", name := "mark", desc := "(I)I" } : Jvm.MethodName) ({ cls := "WhoseGlassModel", name := "mark", desc := "(I)I" } : Jvm.MethodName)) ∈ yGW := y_i5 234 rfl rfl
theorem z_1195 : (Jvm.Cond.code ({ cls := "WhoseGlassModel", name := "mark", desc := "(I)I" } : Jvm.MethodName) prog_8_method_66_code (6 : Nat) (Option.some Jvm.ClassFile.FieldType.int)) ∈ yGW := y_i5 235 rfl rfl
theorem d_law_936 : decode code 936 = .ok (.invokevirtual 119, 3) := by decide +kernel
theorem d_law_939 : decode code 939 = .ok (.if_icmp .eq 554, 3) := by decide +kernel
theorem z_546 : (Jvm.Cond.methodLink "WhoseGlassLaw" (120 : Nat) ({ cls := "WhoseGlass", name := "close", desc := "(I)I" } : Jvm.MethodName)) ∈ yGW := y_i3 66 rfl rfl
theorem z_547 : (Jvm.Cond.instanceMethod ({ cls := "WhoseGlass", name := "close", desc := "(I)I" } : Jvm.MethodName)) ∈ yGW := y_i3 67 rfl rfl
theorem z_548 : (Jvm.Cond.selects "WhoseGlass" ({ cls := "WhoseGlass", name := "close", desc := "(I)I" } : Jvm.MethodName) ({ cls := "WhoseGlass", name := "close", desc := "(I)I" } : Jvm.MethodName)) ∈ yGW := y_i3 68 rfl rfl
theorem z_549 : (Jvm.Cond.code ({ cls := "WhoseGlass", name := "close", desc := "(I)I" } : Jvm.MethodName) prog_1_method_26_code (6 : Nat) (Option.some Jvm.ClassFile.FieldType.int)) ∈ yGW := y_i3 69 rfl rfl
theorem d_law_944 : decode code 944 = .ok (.aload_n 1, 1) := by decide +kernel
theorem d_law_945 : decode code 945 = .ok (.aload_n 0, 1) := by decide +kernel
theorem d_law_946 : decode code 946 = .ok (.iload 4, 2) := by decide +kernel
theorem d_law_948 : decode code 948 = .ok (.iconst 1, 1) := by decide +kernel
theorem d_law_949 : decode code 949 = .ok (.iadd, 1) := by decide +kernel
theorem d_law_950 : decode code 950 = .ok (.iaload, 1) := by decide +kernel
theorem d_law_951 : decode code 951 = .ok (.invokevirtual 120, 3) := by decide +kernel
theorem d_law_954 : decode code 954 = .ok (.aload_n 2, 1) := by decide +kernel
theorem d_law_955 : decode code 955 = .ok (.aload_n 0, 1) := by decide +kernel
theorem d_law_956 : decode code 956 = .ok (.iload 4, 2) := by decide +kernel
theorem d_law_958 : decode code 958 = .ok (.iconst 1, 1) := by decide +kernel
theorem d_law_959 : decode code 959 = .ok (.iadd, 1) := by decide +kernel
theorem d_law_960 : decode code 960 = .ok (.iaload, 1) := by decide +kernel
theorem z_1196 : (Jvm.Cond.methodLink "WhoseGlassLaw" (123 : Nat) ({ cls := "WhoseGlassModel", name := "close", desc := "(I)I" } : Jvm.MethodName)) ∈ yGW := y_i5 236 rfl rfl
theorem z_1197 : (Jvm.Cond.instanceMethod ({ cls := "WhoseGlassModel", name := "close", desc := "(I)I" } : Jvm.MethodName)) ∈ yGW := y_i5 237 rfl rfl
theorem z_1198 : (Jvm.Cond.selects "WhoseGlassModel" ({ cls := "WhoseGlassModel", name := "close", desc := "(I)I" } : Jvm.MethodName) ({ cls := "WhoseGlassModel", name := "close", desc := "(I)I" } : Jvm.MethodName)) ∈ yGW := y_i5 238 rfl rfl
theorem z_1199 : (Jvm.Cond.code ({ cls := "WhoseGlassModel", name := "close", desc := "(I)I" } : Jvm.MethodName) prog_8_method_67_code (5 : Nat) (Option.some Jvm.ClassFile.FieldType.int)) ∈ yGW := y_i5 239 rfl rfl
theorem d_law_961 : decode code 961 = .ok (.invokevirtual 123, 3) := by decide +kernel
theorem d_law_964 : decode code 964 = .ok (.if_icmp .eq 529, 3) := by decide +kernel
theorem gc_law_108 : GoodIn yGW (wsV "WhoseGlassLaw" 108 yR4 m_X_brought ws_X_brought) := y_gV z_514 z_515 z_516 g_1 z_517
theorem gc_law_111 : GoodIn yGW (wsV "WhoseGlassLaw" 111 yR5 m_M_brought ws_M_brought) := y_gV z_1180 z_1181 z_1182 g_6 z_1183
theorem l_c21 {p : Program} {l : Launch} {e : Env} {s : State} {m : MethodId} {below : List Frame} {meth : Method} {c : Code} {Q : State → Prop} {cells slots b L i : Nat} {xs : Nat → Int32} {w2 : va_G × (Nat → ClassId)} {aX aM : Nat → Nat} {qo : Nat} {σ τ : Mm} {g : Nat → Int64} (C : lC p l s m meth c b L xs w2) (D : lD s.heap.size aX aM qo) (hi : 6 * i + 6 ≤ L) (R : Rel σ τ) (hcs : cells + 1 ≤ room_1.cells ∧ slots + 6 ≤ room_1.slots) (J : ∀ (σ1 τ1 : Mm) (g1 : Nat → Int64), Rel σ1 τ1 → lG p l e s m below meth c b w2 aX aM qo Q (cells + 1) (slots + 6) σ1 τ1 g1 1493 (lvI b aX aM qo i) []) : lG p l e s m below meth c b w2 aX aM qo Q cells slots σ τ g 857 (lvI b aX aM qo i) [] := by
  obtain ⟨N, R⟩ := R
  obtain ⟨p1, hp, q1, hq, e1, R1⟩ := q_brought (F := 3000) (xs (6 * i + 1)) (xs (6 * i + 2)) R (Nat.le_of_ble_eq_true rfl)
  refine l_aX C d_law_857 ?_
  refine l_arg 1 C hi (by decide) rfl d_law_858 d_law_859 d_law_861 d_law_862 d_law_863 ?_
  refine l_arg 2 C hi (by decide) rfl d_law_864 d_law_865 d_law_867 d_law_868 d_law_869 ?_
  refine l_callX 2 C D (c_X_brought l (aX, w2) 3000 σ 0 _ _ p1 hp) gc_law_108 hd_X_brought ⟨Nat.le_of_ble_eq_true rfl, Nat.le_of_ble_eq_true rfl⟩ rfl rfl ⟨Nat.le_of_succ_le hcs.1, Nat.le_trans (Nat.le_add_right _ _) hcs.2⟩ rfl rfl (Nat.le_of_ble_eq_true rfl) d_law_870 ?_
  refine l_aM C d_law_873 ?_
  refine l_arg 1 C hi (by decide) rfl d_law_874 d_law_875 d_law_877 d_law_878 d_law_879 ?_
  refine l_arg 2 C hi (by decide) rfl d_law_880 d_law_881 d_law_883 d_law_884 d_law_885 ?_
  refine l_callM 2 C D (c_M_brought l (aM, w2) 3000 τ 0 _ _ q1 hq) gc_law_111 hd_M_brought ⟨Nat.le_of_ble_eq_true rfl, Nat.le_of_ble_eq_true rfl⟩ rfl rfl ⟨Nat.le_of_succ_le hcs.1, Nat.le_trans (Nat.le_add_right _ _) hcs.2⟩ rfl rfl (Nat.le_of_ble_eq_true rfl) d_law_886 ?_
  refine l_ceq (tgt := 1493) C e1 d_law_889 (by decide) ?_
  exact l_wide (Nat.le_succ _) (Nat.le_add_right _ _) (J p1.2 q1.2 g R1)
theorem gc_law_112 : GoodIn yGW (wsV "WhoseGlassLaw" 112 yR4 m_X_particular ws_X_particular) := y_gV z_526 z_527 z_528 g_1 z_529
theorem gc_law_115 : GoodIn yGW (wsV "WhoseGlassLaw" 115 yR5 m_M_particular ws_M_particular) := y_gV z_1188 z_1189 z_1190 g_6 z_1191
theorem l_c22 {p : Program} {l : Launch} {e : Env} {s : State} {m : MethodId} {below : List Frame} {meth : Method} {c : Code} {Q : State → Prop} {cells slots b L i : Nat} {xs : Nat → Int32} {w2 : va_G × (Nat → ClassId)} {aX aM : Nat → Nat} {qo : Nat} {σ τ : Mm} {g : Nat → Int64} (C : lC p l s m meth c b L xs w2) (D : lD s.heap.size aX aM qo) (hi : 6 * i + 6 ≤ L) (R : Rel σ τ) (hcs : cells + 1 ≤ room_1.cells ∧ slots + 6 ≤ room_1.slots) (J : ∀ (σ1 τ1 : Mm) (g1 : Nat → Int64), Rel σ1 τ1 → lG p l e s m below meth c b w2 aX aM qo Q (cells + 1) (slots + 6) σ1 τ1 g1 1493 (lvI b aX aM qo i) []) : lG p l e s m below meth c b w2 aX aM qo Q cells slots σ τ g 894 (lvI b aX aM qo i) [] := by
  obtain ⟨N, R⟩ := R
  obtain ⟨p1, hp, q1, hq, e1, R1⟩ := q_particular (F := 3000) (xs (6 * i + 1)) R (Nat.le_of_ble_eq_true rfl)
  refine l_aX C d_law_894 ?_
  refine l_arg 1 C hi (by decide) rfl d_law_895 d_law_896 d_law_898 d_law_899 d_law_900 ?_
  refine l_callX 1 C D (c_X_particular l (aX, w2) 3000 σ 0 _ p1 hp) gc_law_112 hd_X_particular ⟨Nat.le_of_ble_eq_true rfl, Nat.le_of_ble_eq_true rfl⟩ rfl rfl ⟨Nat.le_of_succ_le hcs.1, Nat.le_trans (Nat.le_add_right _ _) hcs.2⟩ rfl rfl (Nat.le_of_ble_eq_true rfl) d_law_901 ?_
  refine l_aM C d_law_904 ?_
  refine l_arg 1 C hi (by decide) rfl d_law_905 d_law_906 d_law_908 d_law_909 d_law_910 ?_
  refine l_callM 1 C D (c_M_particular l (aM, w2) 3000 τ 0 _ q1 hq) gc_law_115 hd_M_particular ⟨Nat.le_of_ble_eq_true rfl, Nat.le_of_ble_eq_true rfl⟩ rfl rfl ⟨Nat.le_of_succ_le hcs.1, Nat.le_trans (Nat.le_add_right _ _) hcs.2⟩ rfl rfl (Nat.le_of_ble_eq_true rfl) d_law_911 ?_
  refine l_ceq (tgt := 1493) C e1 d_law_914 (by decide) ?_
  exact l_wide (Nat.le_succ _) (Nat.le_add_right _ _) (J p1.2 q1.2 g R1)
theorem gc_law_116 : GoodIn yGW (wsV "WhoseGlassLaw" 116 yR4 m_X_mark ws_X_mark) := y_gV z_538 z_539 z_540 g_1 z_541
theorem gc_law_119 : GoodIn yGW (wsV "WhoseGlassLaw" 119 yR5 m_M_mark ws_M_mark) := y_gV z_1192 z_1193 z_1194 g_6 z_1195
theorem l_c23 {p : Program} {l : Launch} {e : Env} {s : State} {m : MethodId} {below : List Frame} {meth : Method} {c : Code} {Q : State → Prop} {cells slots b L i : Nat} {xs : Nat → Int32} {w2 : va_G × (Nat → ClassId)} {aX aM : Nat → Nat} {qo : Nat} {σ τ : Mm} {g : Nat → Int64} (C : lC p l s m meth c b L xs w2) (D : lD s.heap.size aX aM qo) (hi : 6 * i + 6 ≤ L) (R : Rel σ τ) (hcs : cells + 1 ≤ room_1.cells ∧ slots + 6 ≤ room_1.slots) (J : ∀ (σ1 τ1 : Mm) (g1 : Nat → Int64), Rel σ1 τ1 → lG p l e s m below meth c b w2 aX aM qo Q (cells + 1) (slots + 6) σ1 τ1 g1 1493 (lvI b aX aM qo i) []) : lG p l e s m below meth c b w2 aX aM qo Q cells slots σ τ g 919 (lvI b aX aM qo i) [] := by
  obtain ⟨N, R⟩ := R
  obtain ⟨p1, hp, q1, hq, e1, R1⟩ := q_mark (F := 3000) (xs (6 * i + 1)) R (Nat.le_of_ble_eq_true rfl)
  refine l_aX C d_law_919 ?_
  refine l_arg 1 C hi (by decide) rfl d_law_920 d_law_921 d_law_923 d_law_924 d_law_925 ?_
  refine l_callX 1 C D (c_X_mark l (aX, w2) 3000 σ 0 _ p1 hp) gc_law_116 hd_X_mark ⟨Nat.le_of_ble_eq_true rfl, Nat.le_of_ble_eq_true rfl⟩ rfl rfl ⟨Nat.le_of_succ_le hcs.1, Nat.le_trans (Nat.le_add_right _ _) hcs.2⟩ rfl rfl (Nat.le_of_ble_eq_true rfl) d_law_926 ?_
  refine l_aM C d_law_929 ?_
  refine l_arg 1 C hi (by decide) rfl d_law_930 d_law_931 d_law_933 d_law_934 d_law_935 ?_
  refine l_callM 1 C D (c_M_mark l (aM, w2) 3000 τ 0 _ q1 hq) gc_law_119 hd_M_mark ⟨Nat.le_of_ble_eq_true rfl, Nat.le_of_ble_eq_true rfl⟩ rfl rfl ⟨Nat.le_of_succ_le hcs.1, Nat.le_trans (Nat.le_add_right _ _) hcs.2⟩ rfl rfl (Nat.le_of_ble_eq_true rfl) d_law_936 ?_
  refine l_ceq (tgt := 1493) C e1 d_law_939 (by decide) ?_
  exact l_wide (Nat.le_succ _) (Nat.le_add_right _ _) (J p1.2 q1.2 g R1)
theorem gc_law_120 : GoodIn yGW (wsV "WhoseGlassLaw" 120 yR4 m_X_close ws_X_close) := y_gV z_546 z_547 z_548 g_1 z_549
theorem gc_law_123 : GoodIn yGW (wsV "WhoseGlassLaw" 123 yR5 m_M_close ws_M_close) := y_gV z_1196 z_1197 z_1198 g_6 z_1199
theorem l_c24 {p : Program} {l : Launch} {e : Env} {s : State} {m : MethodId} {below : List Frame} {meth : Method} {c : Code} {Q : State → Prop} {cells slots b L i : Nat} {xs : Nat → Int32} {w2 : va_G × (Nat → ClassId)} {aX aM : Nat → Nat} {qo : Nat} {σ τ : Mm} {g : Nat → Int64} (C : lC p l s m meth c b L xs w2) (D : lD s.heap.size aX aM qo) (hi : 6 * i + 6 ≤ L) (R : Rel σ τ) (hcs : cells + 1 ≤ room_1.cells ∧ slots + 6 ≤ room_1.slots) (J : ∀ (σ1 τ1 : Mm) (g1 : Nat → Int64), Rel σ1 τ1 → lG p l e s m below meth c b w2 aX aM qo Q (cells + 1) (slots + 6) σ1 τ1 g1 1493 (lvI b aX aM qo i) []) : lG p l e s m below meth c b w2 aX aM qo Q cells slots σ τ g 944 (lvI b aX aM qo i) [] := by
  obtain ⟨N, R⟩ := R
  obtain ⟨p1, hp, q1, hq, e1, R1⟩ := q_close (F := 3000) (xs (6 * i + 1)) R (Nat.le_of_ble_eq_true rfl)
  refine l_aX C d_law_944 ?_
  refine l_arg 1 C hi (by decide) rfl d_law_945 d_law_946 d_law_948 d_law_949 d_law_950 ?_
  refine l_callX 1 C D (c_X_close l (aX, w2) 3000 σ 0 _ p1 hp) gc_law_120 hd_X_close ⟨Nat.le_of_ble_eq_true rfl, Nat.le_of_ble_eq_true rfl⟩ rfl rfl ⟨Nat.le_of_succ_le hcs.1, Nat.le_trans (Nat.le_add_right _ _) hcs.2⟩ rfl rfl (Nat.le_of_ble_eq_true rfl) d_law_951 ?_
  refine l_aM C d_law_954 ?_
  refine l_arg 1 C hi (by decide) rfl d_law_955 d_law_956 d_law_958 d_law_959 d_law_960 ?_
  refine l_callM 1 C D (c_M_close l (aM, w2) 3000 τ 0 _ q1 hq) gc_law_123 hd_M_close ⟨Nat.le_of_ble_eq_true rfl, Nat.le_of_ble_eq_true rfl⟩ rfl rfl ⟨Nat.le_of_succ_le hcs.1, Nat.le_trans (Nat.le_add_right _ _) hcs.2⟩ rfl rfl (Nat.le_of_ble_eq_true rfl) d_law_961 ?_
  refine l_ceq (tgt := 1493) C e1 d_law_964 (by decide) ?_
  exact l_wide (Nat.le_succ _) (Nat.le_add_right _ _) (J p1.2 q1.2 g R1)
