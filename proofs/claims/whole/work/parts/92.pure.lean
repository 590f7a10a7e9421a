/-! PURE 92: the law, cases 17.. -/
theorem z_494 : (Jvm.Cond.methodLink "WhoseGlassLaw" (92 : Nat) ({ cls := "WhoseGlass", name := "fresh", desc := "(I)I" } : Jvm.MethodName)) ∈ yGW := y_i3 14 rfl rfl
theorem z_495 : (Jvm.Cond.instanceMethod ({ cls := "WhoseGlass", name := "fresh", desc := "(I)I" } : Jvm.MethodName)) ∈ yGW := y_i3 15 rfl rfl
theorem z_496 : (Jvm.Cond.selects "WhoseGlass" ({ cls := "WhoseGlass", name := "fresh", desc := "(I)I" } : Jvm.MethodName) ({ cls := "WhoseGlass", name := "fresh", desc := "(I)I" } : Jvm.MethodName)) ∈ yGW := y_i3 16 rfl rfl
theorem z_497 : (Jvm.Cond.code ({ cls := "WhoseGlass", name := "fresh", desc := "(I)I" } : Jvm.MethodName) prog_1_method_19_code (2 : Nat) (Option.some Jvm.ClassFile.FieldType.int)) ∈ yGW := y_i3 17 rfl rfl
theorem d_law_733 : decode code 733 = .ok (.aload_n 1, 1) := by decide +kernel
theorem d_law_734 : decode code 734 = .ok (.aload_n 0, 1) := by decide +kernel
theorem d_law_735 : decode code 735 = .ok (.iload 4, 2) := by decide +kernel
theorem d_law_737 : decode code 737 = .ok (.iconst 1, 1) := by decide +kernel
theorem d_law_738 : decode code 738 = .ok (.iadd, 1) := by decide +kernel
theorem d_law_739 : decode code 739 = .ok (.iaload, 1) := by decide +kernel
theorem d_law_740 : decode code 740 = .ok (.invokevirtual 92, 3) := by decide +kernel
theorem d_law_743 : decode code 743 = .ok (.aload_n 2, 1) := by decide +kernel
theorem d_law_744 : decode code 744 = .ok (.aload_n 0, 1) := by decide +kernel
theorem d_law_745 : decode code 745 = .ok (.iload 4, 2) := by decide +kernel
theorem d_law_747 : decode code 747 = .ok (.iconst 1, 1) := by decide +kernel
theorem d_law_748 : decode code 748 = .ok (.iadd, 1) := by decide +kernel
theorem d_law_749 : decode code 749 = .ok (.iaload, 1) := by decide +kernel
theorem z_1160 : (Jvm.Cond.methodLink "WhoseGlassLaw" (95 : Nat) ({ cls := "WhoseGlassModel", name := "fresh", desc := "(I)I" } : Jvm.MethodName)) ∈ yGW := y_i5 200 rfl rfl
theorem z_1161 : (Jvm.Cond.instanceMethod ({ cls := "WhoseGlassModel", name := "fresh", desc := "(I)I" } : Jvm.MethodName)) ∈ yGW := y_i5 201 rfl rfl
theorem z_1162 : (Jvm.Cond.selects "WhoseGlassModel" ({ cls := "WhoseGlassModel", name := "fresh", desc := "(I)I" } : Jvm.MethodName) ({ cls := "WhoseGlassModel", name := "fresh", desc := "(I)I" } : Jvm.MethodName)) ∈ yGW := y_i5 202 rfl rfl
theorem z_1163 : (Jvm.Cond.code ({ cls := "WhoseGlassModel", name := "fresh", desc := "(I)I" } : Jvm.MethodName) prog_8_method_59_code (2 : Nat) (Option.some Jvm.ClassFile.FieldType.int)) ∈ yGW := y_i5 203 rfl rfl
theorem d_law_750 : decode code 750 = .ok (.invokevirtual 95, 3) := by decide +kernel
theorem d_law_753 : decode code 753 = .ok (.if_icmp .eq 740, 3) := by decide +kernel
theorem z_498 : (Jvm.Cond.methodLink "WhoseGlassLaw" (96 : Nat) ({ cls := "WhoseGlass", name := "colds", desc := "(I)I" } : Jvm.MethodName)) ∈ yGW := y_i3 18 rfl rfl
theorem z_499 : (Jvm.Cond.instanceMethod ({ cls := "WhoseGlass", name := "colds", desc := "(I)I" } : Jvm.MethodName)) ∈ yGW := y_i3 19 rfl rfl
theorem z_500 : (Jvm.Cond.selects "WhoseGlass" ({ cls := "WhoseGlass", name := "colds", desc := "(I)I" } : Jvm.MethodName) ({ cls := "WhoseGlass", name := "colds", desc := "(I)I" } : Jvm.MethodName)) ∈ yGW := y_i3 20 rfl rfl
theorem z_501 : (Jvm.Cond.code ({ cls := "WhoseGlass", name := "colds", desc := "(I)I" } : Jvm.MethodName) prog_1_method_20_code (2 : Nat) (Option.some Jvm.ClassFile.FieldType.int)) ∈ yGW := y_i3 21 rfl rfl
theorem d_law_758 : decode code 758 = .ok (.aload_n 1, 1) := by decide +kernel
theorem d_law_759 : decode code 759 = .ok (.aload_n 0, 1) := by decide +kernel
theorem d_law_760 : decode code 760 = .ok (.iload 4, 2) := by decide +kernel
theorem d_law_762 : decode code 762 = .ok (.iconst 1, 1) := by decide +kernel
theorem d_law_763 : decode code 763 = .ok (.iadd, 1) := by decide +kernel
theorem d_law_764 : decode code 764 = .ok (.iaload, 1) := by decide +kernel
theorem d_law_765 : decode code 765 = .ok (.invokevirtual 96, 3) := by decide +kernel
theorem d_law_768 : decode code 768 = .ok (.aload_n 2, 1) := by decide +kernel
theorem d_law_769 : decode code 769 = .ok (.aload_n 0, 1) := by decide +kernel
theorem d_law_770 : decode code 770 = .ok (.iload 4, 2) := by decide +kernel
theorem d_law_772 : decode code 772 = .ok (.iconst 1, 1) := by decide +kernel
theorem d_law_773 : decode code 773 = .ok (.iadd, 1) := by decide +kernel
theorem d_law_774 : decode code 774 = .ok (.iaload, 1) := by decide +kernel
theorem z_1164 : (Jvm.Cond.methodLink "WhoseGlassLaw" (99 : Nat) ({ cls := "WhoseGlassModel", name := "colds", desc := "(I)I" } : Jvm.MethodName)) ∈ yGW := y_i5 204 rfl rfl
theorem z_1165 : (Jvm.Cond.instanceMethod ({ cls := "WhoseGlassModel", name := "colds", desc := "(I)I" } : Jvm.MethodName)) ∈ yGW := y_i5 205 rfl rfl
theorem z_1166 : (Jvm.Cond.selects "WhoseGlassModel" ({ cls := "WhoseGlassModel", name := "colds", desc := "(I)I" } : Jvm.MethodName) ({ cls := "WhoseGlassModel", name := "colds", desc := "(I)I" } : Jvm.MethodName)) ∈ yGW := y_i5 206 rfl rfl
theorem z_1167 : (Jvm.Cond.code ({ cls := "WhoseGlassModel", name := "colds", desc := "(I)I" } : Jvm.MethodName) prog_8_method_60_code (3 : Nat) (Option.some Jvm.ClassFile.FieldType.int)) ∈ yGW := y_i5 207 rfl rfl
theorem d_law_775 : decode code 775 = .ok (.invokevirtual 99, 3) := by decide +kernel
theorem d_law_778 : decode code 778 = .ok (.if_icmp .eq 715, 3) := by decide +kernel
theorem z_506 : (Jvm.Cond.methodLink "WhoseGlassLaw" (100 : Nat) ({ cls := "WhoseGlass", name := "had", desc := "(II)I" } : Jvm.MethodName)) ∈ yGW := y_i3 26 rfl rfl
theorem z_507 : (Jvm.Cond.instanceMethod ({ cls := "WhoseGlass", name := "had", desc := "(II)I" } : Jvm.MethodName)) ∈ yGW := y_i3 27 rfl rfl
theorem z_508 : (Jvm.Cond.selects "WhoseGlass" ({ cls := "WhoseGlass", name := "had", desc := "(II)I" } : Jvm.MethodName) ({ cls := "WhoseGlass", name := "had", desc := "(II)I" } : Jvm.MethodName)) ∈ yGW := y_i3 28 rfl rfl
theorem z_509 : (Jvm.Cond.code ({ cls := "WhoseGlass", name := "had", desc := "(II)I" } : Jvm.MethodName) prog_1_method_21_code (4 : Nat) (Option.some Jvm.ClassFile.FieldType.int)) ∈ yGW := y_i3 29 rfl rfl
theorem d_law_783 : decode code 783 = .ok (.aload_n 1, 1) := by decide +kernel
theorem d_law_784 : decode code 784 = .ok (.aload_n 0, 1) := by decide +kernel
theorem d_law_785 : decode code 785 = .ok (.iload 4, 2) := by decide +kernel
theorem d_law_787 : decode code 787 = .ok (.iconst 1, 1) := by decide +kernel
theorem d_law_788 : decode code 788 = .ok (.iadd, 1) := by decide +kernel
theorem d_law_789 : decode code 789 = .ok (.iaload, 1) := by decide +kernel
theorem d_law_790 : decode code 790 = .ok (.aload_n 0, 1) := by decide +kernel
theorem d_law_791 : decode code 791 = .ok (.iload 4, 2) := by decide +kernel
theorem d_law_793 : decode code 793 = .ok (.iconst 2, 1) := by decide +kernel
theorem d_law_794 : decode code 794 = .ok (.iadd, 1) := by decide +kernel
theorem d_law_795 : decode code 795 = .ok (.iaload, 1) := by decide +kernel
theorem d_law_796 : decode code 796 = .ok (.invokevirtual 100, 3) := by decide +kernel
theorem d_law_799 : decode code 799 = .ok (.aload_n 2, 1) := by decide +kernel
theorem d_law_800 : decode code 800 = .ok (.aload_n 0, 1) := by decide +kernel
theorem d_law_801 : decode code 801 = .ok (.iload 4, 2) := by decide +kernel
theorem d_law_803 : decode code 803 = .ok (.iconst 1, 1) := by decide +kernel
theorem d_law_804 : decode code 804 = .ok (.iadd, 1) := by decide +kernel
theorem d_law_805 : decode code 805 = .ok (.iaload, 1) := by decide +kernel
theorem d_law_806 : decode code 806 = .ok (.aload_n 0, 1) := by decide +kernel
theorem d_law_807 : decode code 807 = .ok (.iload 4, 2) := by decide +kernel
theorem d_law_809 : decode code 809 = .ok (.iconst 2, 1) := by decide +kernel
theorem d_law_810 : decode code 810 = .ok (.iadd, 1) := by decide +kernel
theorem d_law_811 : decode code 811 = .ok (.iaload, 1) := by decide +kernel
theorem z_1172 : (Jvm.Cond.methodLink "WhoseGlassLaw" (103 : Nat) ({ cls := "WhoseGlassModel", name := "had", desc := "(II)I" } : Jvm.MethodName)) ∈ yGW := y_i5 212 rfl rfl
theorem z_1173 : (Jvm.Cond.instanceMethod ({ cls := "WhoseGlassModel", name := "had", desc := "(II)I" } : Jvm.MethodName)) ∈ yGW := y_i5 213 rfl rfl
theorem z_1174 : (Jvm.Cond.selects "WhoseGlassModel" ({ cls := "WhoseGlassModel", name := "had", desc := "(II)I" } : Jvm.MethodName) ({ cls := "WhoseGlassModel", name := "had", desc := "(II)I" } : Jvm.MethodName)) ∈ yGW := y_i5 214 rfl rfl
theorem z_1175 : (Jvm.Cond.code ({ cls := "WhoseGlassModel", name := "had", desc := "(II)I" } : Jvm.MethodName) prog_8_method_61_code (4 : Nat) (Option.some Jvm.ClassFile.FieldType.int)) ∈ yGW := y_i5 215 rfl rfl
theorem d_law_812 : decode code 812 = .ok (.invokevirtual 103, 3) := by decide +kernel
theorem d_law_815 : decode code 815 = .ok (.if_icmp .eq 678, 3) := by decide +kernel
theorem z_510 : (Jvm.Cond.methodLink "WhoseGlassLaw" (104 : Nat) ({ cls := "WhoseGlass", name := "where", desc := "(II)I" } : Jvm.MethodName)) ∈ yGW := y_i3 30 rfl rfl
theorem z_511 : (Jvm.Cond.instanceMethod ({ cls := "WhoseGlass", name := "where", desc := "(II)I" } : Jvm.MethodName)) ∈ yGW := y_i3 31 rfl rfl
theorem z_512 : (Jvm.Cond.selects "WhoseGlass" ({ cls := "WhoseGlass", name := "where", desc := "(II)I" } : Jvm.MethodName) ({ cls := "WhoseGlass", name := "where", desc := "(II)I" } : Jvm.MethodName)) ∈ yGW := y_i3 32 rfl rfl
theorem z_513 : (Jvm.Cond.code ({ cls := "WhoseGlass", name := "where", desc := "(II)I" } : Jvm.MethodName) prog_1_method_22_code (4 : Nat) (Option.some Jvm.ClassFile.FieldType.int)) ∈ yGW := y_i3 33 rfl rfl
theorem d_law_820 : decode code 820 = .ok (.aload_n 1, 1) := by decide +kernel
theorem d_law_821 : decode code 821 = .ok (.aload_n 0, 1) := by decide +kernel
theorem d_law_822 : decode code 822 = .ok (.iload 4, 2) := by decide +kernel
theorem d_law_824 : decode code 824 = .ok (.iconst 1, 1) := by decide +kernel
theorem d_law_825 : decode code 825 = .ok (.iadd, 1) := by decide +kernel
theorem d_law_826 : decode code 826 = .ok (.iaload, 1) := by decide +kernel
theorem d_law_827 : decode code 827 = .ok (.aload_n 0, 1) := by decide +kernel
theorem d_law_828 : decode code 828 = .ok (.iload 4, 2) := by decide +kernel
theorem d_law_830 : decode code 830 = .ok (.iconst 2, 1) := by decide +kernel
theorem d_law_831 : decode code 831 = .ok (.iadd, 1) := by decide +kernel
theorem d_law_832 : decode code 832 = .ok (.iaload, 1) := by decide +kernel
theorem d_law_833 : decode code 833 = .ok (.invokevirtual 104, 3) := by decide +kernel
theorem d_law_836 : decode code 836 = .ok (.aload_n 2, 1) := by decide +kernel
theorem d_law_837 : decode code 837 = .ok (.aload_n 0, 1) := by decide +kernel
theorem d_law_838 : decode code 838 = .ok (.iload 4, 2) := by decide +kernel
theorem d_law_840 : decode code 840 = .ok (.iconst 1, 1) := by decide +kernel
theorem d_law_841 : decode code 841 = .ok (.iadd, 1) := by decide +kernel
theorem d_law_842 : decode code 842 = .ok (.iaload, 1) := by decide +kernel
theorem d_law_843 : decode code 843 = .ok (.aload_n 0, 1) := by decide +kernel
theorem d_law_844 : decode code 844 = .ok (.iload 4, 2) := by decide +kernel
theorem d_law_846 : decode code 846 = .ok (.iconst 2, 1) := by decide +kernel
theorem d_law_847 : decode code 847 = .ok (.iadd, 1) := by decide +kernel
theorem d_law_848 : decode code 848 = .ok (.iaload, 1) := by decide +kernel
theorem z_1176 : (Jvm.Cond.methodLink "WhoseGlassLaw" (107 : Nat) ({ cls := "WhoseGlassModel", name := "where", desc := "(II)I" } : Jvm.MethodName)) ∈ yGW := y_i5 216 rfl rfl
theorem z_1177 : (Jvm.Cond.instanceMethod ({ cls := "WhoseGlassModel", name := "where", desc := "(II)I" } : Jvm.MethodName)) ∈ yGW := y_i5 217 rfl rfl
theorem z_1178 : (Jvm.Cond.selects "WhoseGlassModel" ({ cls := "WhoseGlassModel", name := "where", desc := "(II)I" } : Jvm.MethodName) ({ cls := "WhoseGlassModel", name := "where", desc := "(II)I" } : Jvm.MethodName)) ∈ yGW := y_i5 218 rfl rfl
theorem z_1179 : (Jvm.Cond.code ({ cls := "WhoseGlassModel", name := "where", desc := "(II)I" } : Jvm.MethodName) prog_8_method_62_code (4 : Nat) (Option.some Jvm.ClassFile.FieldType.int)) ∈ yGW := y_i5 219 rfl rfl
theorem d_law_849 : decode code 849 = .ok (.invokevirtual 107, 3) := by decide +kernel
theorem d_law_852 : decode code 852 = .ok (.if_icmp .eq 641, 3) := by decide +kernel
theorem gc_law_92 : GoodIn yGW (wsV "WhoseGlassLaw" 92 yR4 m_X_fresh ws_X_fresh) := y_gV z_494 z_495 z_496 g_1 z_497
theorem gc_law_95 : GoodIn yGW (wsV "WhoseGlassLaw" 95 yR5 m_M_fresh ws_M_fresh) := y_gV z_1160 z_1161 z_1162 g_6 z_1163
theorem l_c17 {p : Program} {l : Launch} {e : Env} {s : State} {m : MethodId} {below : List Frame} {meth : Method} {c : Code} {Q : State → Prop} {cells slots b L i : Nat} {xs : Nat → Int32} {w2 : va_G × (Nat → ClassId)} {aX aM : Nat → Nat} {qo : Nat} {σ τ : Mm} {g : Nat → Int64} (C : lC p l s m meth c b L xs w2) (D : lD s.heap.size aX aM qo) (hi : 6 * i + 6 ≤ L) (R : Rel σ τ) (hcs : cells + 1 ≤ room_1.cells ∧ slots + 6 ≤ room_1.slots) (J : ∀ (σ1 τ1 : Mm) (g1 : Nat → Int64), Rel σ1 τ1 → lG p l e s m below meth c b w2 aX aM qo Q (cells + 1) (slots + 6) σ1 τ1 g1 1493 (lvI b aX aM qo i) []) : lG p l e s m below meth c b w2 aX aM qo Q cells slots σ τ g 733 (lvI b aX aM qo i) [] := by
  obtain ⟨N, R⟩ := R
  obtain ⟨p1, hp, q1, hq, e1, R1⟩ := q_fresh (F := 3000) (xs (6 * i + 1)) R (Nat.le_of_ble_eq_true rfl)
  refine l_aX C d_law_733 ?_
  refine l_arg 1 C hi (by decide) rfl d_law_734 d_law_735 d_law_737 d_law_738 d_law_739 ?_
  refine l_callX 1 C D (c_X_fresh l (aX, w2) 3000 σ 0 _ p1 hp) gc_law_92 hd_X_fresh ⟨Nat.le_of_ble_eq_true rfl, Nat.le_of_ble_eq_true rfl⟩ rfl rfl ⟨Nat.le_of_succ_le hcs.1, Nat.le_trans (Nat.le_add_right _ _) hcs.2⟩ rfl rfl (Nat.le_of_ble_eq_true rfl) d_law_740 ?_
  refine l_aM C d_law_743 ?_
  refine l_arg 1 C hi (by decide) rfl d_law_744 d_law_745 d_law_747 d_law_748 d_law_749 ?_
  refine l_callM 1 C D (c_M_fresh l (aM, w2) 3000 τ 0 _ q1 hq) gc_law_95 hd_M_fresh ⟨Nat.le_of_ble_eq_true rfl, Nat.le_of_ble_eq_true rfl⟩ rfl rfl ⟨Nat.le_of_succ_le hcs.1, Nat.le_trans (Nat.le_add_right _ _) hcs.2⟩ rfl rfl (Nat.le_of_ble_eq_true rfl) d_law_750 ?_
  refine l_ceq (tgt := 1493) C e1 d_law_753 (by decide) ?_
  exact l_wide (Nat.le_succ _) (Nat.le_add_right _ _) (J p1.2 q1.2 g R1)
theorem gc_law_96 : GoodIn yGW (wsV "WhoseGlassLaw" 96 yR4 m_X_colds ws_X_colds) := y_gV z_498 z_499 z_500 g_1 z_501
theorem gc_law_99 : GoodIn yGW (wsV "WhoseGlassLaw" 99 yR5 m_M_colds ws_M_colds) := y_gV z_1164 z_1165 z_1166 g_6 z_1167
theorem l_c18 {p : Program} {l : Launch} {e : Env} {s : State} {m : MethodId} {below : List Frame} {meth : Method} {c : Code} {Q : State → Prop} {cells slots b L i : Nat} {xs : Nat → Int32} {w2 : va_G × (Nat → ClassId)} {aX aM : Nat → Nat} {qo : Nat} {σ τ : Mm} {g : Nat → Int64} (C : lC p l s m meth c b L xs w2) (D : lD s.heap.size aX aM qo) (hi : 6 * i + 6 ≤ L) (R : Rel σ τ) (hcs : cells + 1 ≤ room_1.cells ∧ slots + 6 ≤ room_1.slots) (J : ∀ (σ1 τ1 : Mm) (g1 : Nat → Int64), Rel σ1 τ1 → lG p l e s m below meth c b w2 aX aM qo Q (cells + 1) (slots + 6) σ1 τ1 g1 1493 (lvI b aX aM qo i) []) : lG p l e s m below meth c b w2 aX aM qo Q cells slots σ τ g 758 (lvI b aX aM qo i) [] := by
  obtain ⟨N, R⟩ := R
  obtain ⟨p1, hp, q1, hq, e1, R1⟩ := q_colds (F := 3000) (xs (6 * i + 1)) R (Nat.le_of_ble_eq_true rfl)
  refine l_aX C d_law_758 ?_
  refine l_arg 1 C hi (by decide) rfl d_law_759 d_law_760 d_law_762 d_law_763 d_law_764 ?_
  refine l_callX 1 C D (c_X_colds l (aX, w2) 3000 σ 0 _ p1 hp) gc_law_96 hd_X_colds ⟨Nat.le_of_ble_eq_true rfl, Nat.le_of_ble_eq_true rfl⟩ rfl rfl ⟨Nat.le_of_succ_le hcs.1, Nat.le_trans (Nat.le_add_right _ _) hcs.2⟩ rfl rfl (Nat.le_of_ble_eq_true rfl) d_law_765 ?_
  refine l_aM C d_law_768 ?_
  refine l_arg 1 C hi (by decide) rfl d_law_769 d_law_770 d_law_772 d_law_773 d_law_774 ?_
  refine l_callM 1 C D (c_M_colds l (aM, w2) 3000 τ 0 _ q1 hq) gc_law_99 hd_M_colds ⟨Nat.le_of_ble_eq_true rfl, Nat.le_of_ble_eq_true rfl⟩ rfl rfl ⟨Nat.le_of_succ_le hcs.1, Nat.le_trans (Nat.le_add_right _ _) hcs.2⟩ rfl rfl (Nat.le_of_ble_eq_true rfl) d_law_775 ?_
  refine l_ceq (tgt := 1493) C e1 d_law_778 (by decide) ?_
  exact l_wide (Nat.le_succ _) (Nat.le_add_right _ _) (J p1.2 q1.2 g R1)
theorem gc_law_100 : GoodIn yGW (wsV "WhoseGlassLaw" 100 yR4 m_X_had ws_X_had) := y_gV z_506 z_507 z_508 g_1 z_509
theorem gc_law_103 : GoodIn yGW (wsV "WhoseGlassLaw" 103 yR5 m_M_had ws_M_had) := y_gV z_1172 z_1173 z_1174 g_6 z_1175
theorem l_c19 {p : Program} {l : Launch} {e : Env} {s : State} {m : MethodId} {below : List Frame} {meth : Method} {c : Code} {Q : State → Prop} {cells slots b L i : Nat} {xs : Nat → Int32} {w2 : va_G × (Nat → ClassId)} {aX aM : Nat → Nat} {qo : Nat} {σ τ : Mm} {g : Nat → Int64} (C : lC p l s m meth c b L xs w2) (D : lD s.heap.size aX aM qo) (hi : 6 * i + 6 ≤ L) (R : Rel σ τ) (hcs : cells + 1 ≤ room_1.cells ∧ slots + 6 ≤ room_1.slots) (J : ∀ (σ1 τ1 : Mm) (g1 : Nat → Int64), Rel σ1 τ1 → lG p l e s m below meth c b w2 aX aM qo Q (cells + 1) (slots + 6) σ1 τ1 g1 1493 (lvI b aX aM qo i) []) : lG p l e s m below meth c b w2 aX aM qo Q cells slots σ τ g 783 (lvI b aX aM qo i) [] := by
  obtain ⟨N, R⟩ := R
  obtain ⟨p1, hp, q1, hq, e1, R1⟩ := q_had (F := 3000) (xs (6 * i + 1)) (xs (6 * i + 2)) R (Nat.le_of_ble_eq_true rfl)
  refine l_aX C d_law_783 ?_
  refine l_arg 1 C hi (by decide) rfl d_law_784 d_law_785 d_law_787 d_law_788 d_law_789 ?_
  refine l_arg 2 C hi (by decide) rfl d_law_790 d_law_791 d_law_793 d_law_794 d_law_795 ?_
  refine l_callX 2 C D (c_X_had l (aX, w2) 3000 σ 0 _ _ p1 hp) gc_law_100 hd_X_had ⟨Nat.le_of_ble_eq_true rfl, Nat.le_of_ble_eq_true rfl⟩ rfl rfl ⟨Nat.le_of_succ_le hcs.1, Nat.le_trans (Nat.le_add_right _ _) hcs.2⟩ rfl rfl (Nat.le_of_ble_eq_true rfl) d_law_796 ?_
  refine l_aM C d_law_799 ?_
  refine l_arg 1 C hi (by decide) rfl d_law_800 d_law_801 d_law_803 d_law_804 d_law_805 ?_
  refine l_arg 2 C hi (by decide) rfl d_law_806 d_law_807 d_law_809 d_law_810 d_law_811 ?_
  refine l_callM 2 C D (c_M_had l (aM, w2) 3000 τ 0 _ _ q1 hq) gc_law_103 hd_M_had ⟨Nat.le_of_ble_eq_true rfl, Nat.le_of_ble_eq_true rfl⟩ rfl rfl ⟨Nat.le_of_succ_le hcs.1, Nat.le_trans (Nat.le_add_right _ _) hcs.2⟩ rfl rfl (Nat.le_of_ble_eq_true rfl) d_law_812 ?_
  refine l_ceq (tgt := 1493) C e1 d_law_815 (by decide) ?_
  exact l_wide (Nat.le_succ _) (Nat.le_add_right _ _) (J p1.2 q1.2 g R1)
theorem gc_law_104 : GoodIn yGW (wsV "WhoseGlassLaw" 104 yR4 m_X_where ws_X_where) := y_gV z_510 z_511 z_512 g_1 z_513
theorem gc_law_107 : GoodIn yGW (wsV "WhoseGlassLaw" 107 yR5 m_M_where ws_M_where) := y_gV z_1176 z_1177 z_1178 g_6 z_1179
theorem l_c20 {p : Program} {l : Launch} {e : Env} {s : State} {m : MethodId} {below : List Frame} {meth : Method} {c : Code} {Q : State → Prop} {cells slots b L i : Nat} {xs : Nat → Int32} {w2 : va_G × (Nat → ClassId)} {aX aM : Nat → Nat} {qo : Nat} {σ τ : Mm} {g : Nat → Int64} (C : lC p l s m meth c b L xs w2) (D : lD s.heap.size aX aM qo) (hi : 6 * i + 6 ≤ L) (R : Rel σ τ) (hcs : cells + 1 ≤ room_1.cells ∧ slots + 6 ≤ room_1.slots) (J : ∀ (σ1 τ1 : Mm) (g1 : Nat → Int64), Rel σ1 τ1 → lG p l e s m below meth c b w2 aX aM qo Q (cells + 1) (slots + 6) σ1 τ1 g1 1493 (lvI b aX aM qo i) []) : lG p l e s m below meth c b w2 aX aM qo Q cells slots σ τ g 820 (lvI b aX aM qo i) [] := by
  obtain ⟨N, R⟩ := R
  obtain ⟨p1, hp, q1, hq, e1, R1⟩ := q_where (F := 3000) (xs (6 * i + 1)) (xs (6 * i + 2)) R (Nat.le_of_ble_eq_true rfl)
  refine l_aX C d_law_820 ?_
  refine l_arg 1 C hi (by decide) rfl d_law_821 d_law_822 d_law_824 d_law_825 d_law_826 ?_
  refine l_arg 2 C hi (by decide) rfl d_law_827 d_law_828 d_law_830 d_law_831 d_law_832 ?_
  refine l_callX 2 C D (c_X_where l (aX, w2) 3000 σ 0 _ _ p1 hp) gc_law_104 hd_X_where ⟨Nat.le_of_ble_eq_true rfl, Nat.le_of_ble_eq_true rfl⟩ rfl rfl ⟨Nat.le_of_succ_le hcs.1, Nat.le_trans (Nat.le_add_right _ _) hcs.2⟩ rfl rfl (Nat.le_of_ble_eq_true rfl) d_law_833 ?_
  refine l_aM C d_law_836 ?_
  refine l_arg 1 C hi (by decide) rfl d_law_837 d_law_838 d_law_840 d_law_841 d_law_842 ?_
  refine l_arg 2 C hi (by decide) rfl d_law_843 d_law_844 d_law_846 d_law_847 d_law_848 ?_
  refine l_callM 2 C D (c_M_where l (aM, w2) 3000 τ 0 _ _ q1 hq) gc_law_107 hd_M_where ⟨Nat.le_of_ble_eq_true rfl, Nat.le_of_ble_eq_true rfl⟩ rfl rfl ⟨Nat.le_of_succ_le hcs.1, Nat.le_trans (Nat.le_add_right _ _) hcs.2⟩ rfl rfl (Nat.le_of_ble_eq_true rfl) d_law_849 ?_
  refine l_ceq (tgt := 1493) C e1 d_law_852 (by decide) ?_
  exact l_wide (Nat.le_succ _) (Nat.le_add_right _ _) (J p1.2 q1.2 g R1)
