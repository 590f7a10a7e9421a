/-! PURE 91: the law, cases 13.. -/
theorem z_449 : (Jvm.Cond.methodLink "WhoseGlassLaw" (75 : Nat) ({ cls := "WhoseGlass", name := "likely", desc := "(III)I" } : Jvm.MethodName)) ∈ yGW := y_i2 209 rfl rfl
theorem z_450 : (Jvm.Cond.instanceMethod ({ cls := "WhoseGlass", name := "likely", desc := "(III)I" } : Jvm.MethodName)) ∈ yGW := y_i2 210 rfl rfl
theorem z_451 : (Jvm.Cond.selects "WhoseGlass" ({ cls := "WhoseGlass", name := "likely", desc := "(III)I" } : Jvm.MethodName) ({ cls := "WhoseGlass", name := "likely", desc := "(III)I" } : Jvm.MethodName)) ∈ yGW := y_i2 211 rfl rfl
theorem z_452 : (Jvm.Cond.code ({ cls := "WhoseGlass", name := "likely", desc := "(III)I" } : Jvm.MethodName) prog_1_method_15_code (9 : Nat) (Option.some Jvm.ClassFile.FieldType.int)) ∈ yGW := y_i2 212 rfl rfl
theorem d_law_609 : decode code 609 = .ok (.aload_n 1, 1) := by decide +kernel
theorem d_law_610 : decode code 610 = .ok (.aload_n 0, 1) := by decide +kernel
theorem d_law_611 : decode code 611 = .ok (.iload 4, 2) := by decide +kernel
theorem d_law_613 : decode code 613 = .ok (.iconst 1, 1) := by decide +kernel
theorem d_law_614 : decode code 614 = .ok (.iadd, 1) := by decide +kernel
theorem d_law_615 : decode code 615 = .ok (.iaload, 1) := by decide +kernel
theorem d_law_616 : decode code 616 = .ok (.aload_n 0, 1) := by decide +kernel
theorem d_law_617 : decode code 617 = .ok (.iload 4, 2) := by decide +kernel
theorem d_law_619 : decode code 619 = .ok (.iconst 2, 1) := by decide +kernel
theorem d_law_620 : decode code 620 = .ok (.iadd, 1) := by decide +kernel
theorem d_law_621 : decode code 621 = .ok (.iaload, 1) := by decide +kernel
theorem d_law_622 : decode code 622 = .ok (.aload_n 0, 1) := by decide +kernel
theorem d_law_623 : decode code 623 = .ok (.iload 4, 2) := by decide +kernel
theorem d_law_625 : decode code 625 = .ok (.iconst 3, 1) := by decide +kernel
theorem d_law_626 : decode code 626 = .ok (.iadd, 1) := by decide +kernel
theorem d_law_627 : decode code 627 = .ok (.iaload, 1) := by decide +kernel
theorem d_law_628 : decode code 628 = .ok (.invokevirtual 75, 3) := by decide +kernel
theorem d_law_631 : decode code 631 = .ok (.aload_n 2, 1) := by decide +kernel
theorem d_law_632 : decode code 632 = .ok (.aload_n 0, 1) := by decide +kernel
theorem d_law_633 : decode code 633 = .ok (.iload 4, 2) := by decide +kernel
theorem d_law_635 : decode code 635 = .ok (.iconst 1, 1) := by decide +kernel
theorem d_law_636 : decode code 636 = .ok (.iadd, 1) := by decide +kernel
theorem d_law_637 : decode code 637 = .ok (.iaload, 1) := by decide +kernel
theorem d_law_638 : decode code 638 = .ok (.aload_n 0, 1) := by decide +kernel
theorem d_law_639 : decode code 639 = .ok (.iload 4, 2) := by decide +kernel
theorem d_law_641 : decode code 641 = .ok (.iconst 2, 1) := by decide +kernel
theorem d_law_642 : decode code 642 = .ok (.iadd, 1) := by decide +kernel
theorem d_law_643 : decode code 643 = .ok (.iaload, 1) := by decide +kernel
theorem d_law_644 : decode code 644 = .ok (.aload_n 0, 1) := by decide +kernel
theorem d_law_645 : decode code 645 = .ok (.iload 4, 2) := by decide +kernel
theorem d_law_647 : decode code 647 = .ok (.iconst 3, 1) := by decide +kernel
theorem d_law_648 : decode code 648 = .ok (.iadd, 1) := by decide +kernel
theorem d_law_649 : decode code 649 = .ok (.iaload, 1) := by decide +kernel
theorem z_1137 : (Jvm.Cond.methodLink "WhoseGlassLaw" (79 : Nat) ({ cls := "WhoseGlassModel", name := "likely", desc := "(III)I" } : Jvm.MethodName)) ∈ yGW := y_i5 177 rfl rfl
theorem z_1138 : (Jvm.Cond.instanceMethod ({ cls := "WhoseGlassModel", name := "likely", desc := "(III)I" } : Jvm.MethodName)) ∈ yGW := y_i5 178 rfl rfl
theorem z_1139 : (Jvm.Cond.selects "WhoseGlassModel" ({ cls := "WhoseGlassModel", name := "likely", desc := "(III)I" } : Jvm.MethodName) ({ cls := "WhoseGlassModel", name := "likely", desc := "(III)I" } : Jvm.MethodName)) ∈ yGW := y_i5 179 rfl rfl
theorem z_1140 : (Jvm.Cond.code ({ cls := "WhoseGlassModel", name := "likely", desc := "(III)I" } : Jvm.MethodName) prog_8_method_54_code (7 : Nat) (Option.some Jvm.ClassFile.FieldType.int)) ∈ yGW := y_i5 180 rfl rfl
theorem d_law_650 : decode code 650 = .ok (.invokevirtual 79, 3) := by decide +kernel
theorem d_law_653 : decode code 653 = .ok (.if_icmp .eq 840, 3) := by decide +kernel
theorem z_463 : (Jvm.Cond.methodLink "WhoseGlassLaw" (80 : Nat) ({ cls := "WhoseGlass", name := "idle", desc := "(I)I" } : Jvm.MethodName)) ∈ yGW := y_i2 223 rfl rfl
theorem z_464 : (Jvm.Cond.instanceMethod ({ cls := "WhoseGlass", name := "idle", desc := "(I)I" } : Jvm.MethodName)) ∈ yGW := y_i2 224 rfl rfl
theorem z_465 : (Jvm.Cond.selects "WhoseGlass" ({ cls := "WhoseGlass", name := "idle", desc := "(I)I" } : Jvm.MethodName) ({ cls := "WhoseGlass", name := "idle", desc := "(I)I" } : Jvm.MethodName)) ∈ yGW := y_i2 225 rfl rfl
theorem z_466 : (Jvm.Cond.code ({ cls := "WhoseGlass", name := "idle", desc := "(I)I" } : Jvm.MethodName) prog_1_method_16_code (2 : Nat) (Option.some Jvm.ClassFile.FieldType.int)) ∈ yGW := y_i2 226 rfl rfl
theorem d_law_658 : decode code 658 = .ok (.aload_n 1, 1) := by decide +kernel
theorem d_law_659 : decode code 659 = .ok (.aload_n 0, 1) := by decide +kernel
theorem d_law_660 : decode code 660 = .ok (.iload 4, 2) := by decide +kernel
theorem d_law_662 : decode code 662 = .ok (.iconst 1, 1) := by decide +kernel
theorem d_law_663 : decode code 663 = .ok (.iadd, 1) := by decide +kernel
theorem d_law_664 : decode code 664 = .ok (.iaload, 1) := by decide +kernel
theorem d_law_665 : decode code 665 = .ok (.invokevirtual 80, 3) := by decide +kernel
theorem d_law_668 : decode code 668 = .ok (.aload_n 2, 1) := by decide +kernel
theorem d_law_669 : decode code 669 = .ok (.aload_n 0, 1) := by decide +kernel
theorem d_law_670 : decode code 670 = .ok (.iload 4, 2) := by decide +kernel
theorem d_law_672 : decode code 672 = .ok (.iconst 1, 1) := by decide +kernel
theorem d_law_673 : decode code 673 = .ok (.iadd, 1) := by decide +kernel
theorem d_law_674 : decode code 674 = .ok (.iaload, 1) := by decide +kernel
theorem z_1144 : (Jvm.Cond.methodLink "WhoseGlassLaw" (83 : Nat) ({ cls := "WhoseGlassModel", name := "idle", desc := "(I)I" } : Jvm.MethodName)) ∈ yGW := y_i5 184 rfl rfl
theorem z_1145 : (Jvm.Cond.instanceMethod ({ cls := "WhoseGlassModel", name := "idle", desc := "(I)I" } : Jvm.MethodName)) ∈ yGW := y_i5 185 rfl rfl
theorem z_1146 : (Jvm.Cond.selects "WhoseGlassModel" ({ cls := "WhoseGlassModel", name := "idle", desc := "(I)I" } : Jvm.MethodName) ({ cls := "WhoseGlassModel", name := "idle", desc := "(I)I" } : Jvm.MethodName)) ∈ yGW := y_i5 186 rfl rfl
theorem z_1147 : (Jvm.Cond.code ({ cls := "WhoseGlassModel", name := "idle", desc := "(I)I" } : Jvm.MethodName) prog_8_method_55_code (6 : Nat) (Option.some Jvm.ClassFile.FieldType.int)) ∈ yGW := y_i5 187 rfl rfl
theorem d_law_675 : decode code 675 = .ok (.invokevirtual 83, 3) := by decide +kernel
theorem d_law_678 : decode code 678 = .ok (.if_icmp .eq 815, 3) := by decide +kernel
theorem z_475 : (Jvm.Cond.methodLink "WhoseGlassLaw" (84 : Nat) ({ cls := "WhoseGlass", name := "oldest", desc := "(I)I" } : Jvm.MethodName)) ∈ yGW := y_i2 235 rfl rfl
theorem z_476 : (Jvm.Cond.instanceMethod ({ cls := "WhoseGlass", name := "oldest", desc := "(I)I" } : Jvm.MethodName)) ∈ yGW := y_i2 236 rfl rfl
theorem z_477 : (Jvm.Cond.selects "WhoseGlass" ({ cls := "WhoseGlass", name := "oldest", desc := "(I)I" } : Jvm.MethodName) ({ cls := "WhoseGlass", name := "oldest", desc := "(I)I" } : Jvm.MethodName)) ∈ yGW := y_i2 237 rfl rfl
theorem z_478 : (Jvm.Cond.code ({ cls := "WhoseGlass", name := "oldest", desc := "(I)I" } : Jvm.MethodName) prog_1_method_17_code (2 : Nat) (Option.some Jvm.ClassFile.FieldType.int)) ∈ yGW := y_i2 238 rfl rfl
theorem d_law_683 : decode code 683 = .ok (.aload_n 1, 1) := by decide +kernel
theorem d_law_684 : decode code 684 = .ok (.aload_n 0, 1) := by decide +kernel
theorem d_law_685 : decode code 685 = .ok (.iload 4, 2) := by decide +kernel
theorem d_law_687 : decode code 687 = .ok (.iconst 1, 1) := by decide +kernel
theorem d_law_688 : decode code 688 = .ok (.iadd, 1) := by decide +kernel
theorem d_law_689 : decode code 689 = .ok (.iaload, 1) := by decide +kernel
theorem d_law_690 : decode code 690 = .ok (.invokevirtual 84, 3) := by decide +kernel
theorem d_law_693 : decode code 693 = .ok (.aload_n 2, 1) := by decide +kernel
theorem d_law_694 : decode code 694 = .ok (.aload_n 0, 1) := by decide +kernel
theorem d_law_695 : decode code 695 = .ok (.iload 4, 2) := by decide +kernel
theorem d_law_697 : decode code 697 = .ok (.iconst 1, 1) := by decide +kernel
theorem d_law_698 : decode code 698 = .ok (.iadd, 1) := by decide +kernel
theorem d_law_699 : decode code 699 = .ok (.iaload, 1) := by decide +kernel
theorem z_1148 : (Jvm.Cond.methodLink "WhoseGlassLaw" (87 : Nat) ({ cls := "WhoseGlassModel", name := "oldest", desc := "(I)I" } : Jvm.MethodName)) ∈ yGW := y_i5 188 rfl rfl
theorem z_1149 : (Jvm.Cond.instanceMethod ({ cls := "WhoseGlassModel", name := "oldest", desc := "(I)I" } : Jvm.MethodName)) ∈ yGW := y_i5 189 rfl rfl
theorem z_1150 : (Jvm.Cond.selects "WhoseGlassModel" ({ cls := "WhoseGlassModel", name := "oldest", desc := "(I)I" } : Jvm.MethodName) ({ cls := "WhoseGlassModel", name := "oldest", desc := "(I)I" } : Jvm.MethodName)) ∈ yGW := y_i5 190 rfl rfl
theorem z_1151 : (Jvm.Cond.code ({ cls := "WhoseGlassModel", name := "oldest", desc := "(I)I" } : Jvm.MethodName) prog_8_method_56_code (4 : Nat) (Option.some Jvm.ClassFile.FieldType.int)) ∈ yGW := y_i5 191 rfl rfl
theorem d_law_700 : decode code 700 = .ok (.invokevirtual 87, 3) := by decide +kernel
theorem d_law_703 : decode code 703 = .ok (.if_icmp .eq 790, 3) := by decide +kernel
theorem z_483 : (Jvm.Cond.methodLink "WhoseGlassLaw" (88 : Nat) ({ cls := "WhoseGlass", name := "mistakes", desc := "(I)I" } : Jvm.MethodName)) ∈ yGW := y_i3 3 rfl rfl
theorem z_484 : (Jvm.Cond.instanceMethod ({ cls := "WhoseGlass", name := "mistakes", desc := "(I)I" } : Jvm.MethodName)) ∈ yGW := y_i3 4 rfl rfl
theorem z_485 : (Jvm.Cond.selects "WhoseGlass" ({ cls := "WhoseGlass", name := "mistakes", desc := "(I)I" } : Jvm.MethodName) ({ cls := "WhoseGlass", name := "mistakes", desc := "(I)I" } : Jvm.MethodName)) ∈ yGW := y_i3 5 rfl rfl
theorem z_486 : (Jvm.Cond.code ({ cls := "WhoseGlass", name := "mistakes", desc := "(I)I" } : Jvm.MethodName) prog_1_method_18_code (2 : Nat) (Option.some Jvm.ClassFile.FieldType.int)) ∈ yGW := y_i3 6 rfl rfl
theorem d_law_708 : decode code 708 = .ok (.aload_n 1, 1) := by decide +kernel
theorem d_law_709 : decode code 709 = .ok (.aload_n 0, 1) := by decide +kernel
theorem d_law_710 : decode code 710 = .ok (.iload 4, 2) := by decide +kernel
theorem d_law_712 : decode code 712 = .ok (.iconst 1, 1) := by decide +kernel
theorem d_law_713 : decode code 713 = .ok (.iadd, 1) := by decide +kernel
theorem d_law_714 : decode code 714 = .ok (.iaload, 1) := by decide +kernel
theorem d_law_715 : decode code 715 = .ok (.invokevirtual 88, 3) := by decide +kernel
theorem d_law_718 : decode code 718 = .ok (.aload_n 2, 1) := by decide +kernel
theorem d_law_719 : decode code 719 = .ok (.aload_n 0, 1) := by decide +kernel
theorem d_law_720 : decode code 720 = .ok (.iload 4, 2) := by decide +kernel
theorem d_law_722 : decode code 722 = .ok (.iconst 1, 1) := by decide +kernel
theorem d_law_723 : decode code 723 = .ok (.iadd, 1) := by decide +kernel
theorem d_law_724 : decode code 724 = .ok (.iaload, 1) := by decide +kernel
theorem z_1152 : (Jvm.Cond.methodLink "WhoseGlassLaw" (91 : Nat) ({ cls := "WhoseGlassModel", name := "mistakes", desc := "(I)I" } : Jvm.MethodName)) ∈ yGW := y_i5 192 rfl rfl
theorem z_1153 : (Jvm.Cond.instanceMethod ({ cls := "WhoseGlassModel", name := "mistakes", desc := "(I)I" } : Jvm.MethodName)) ∈ yGW := y_i5 193 rfl rfl
theorem z_1154 : (Jvm.Cond.selects "WhoseGlassModel" ({ cls := "WhoseGlassModel", name := "mistakes", desc := "(I)I" } : Jvm.MethodName) ({ cls := "WhoseGlassModel", name := "mistakes", desc := "(I)I" } : Jvm.MethodName)) ∈ yGW := y_i5 194 rfl rfl
theorem z_1155 : (Jvm.Cond.code ({ cls := "WhoseGlassModel", name := "mistakes", desc := "(I)I" } : Jvm.MethodName) prog_8_method_58_code (2 : Nat) (Option.some Jvm.ClassFile.FieldType.int)) ∈ yGW := y_i5 195 rfl rfl
theorem d_law_725 : decode code 725 = .ok (.invokevirtual 91, 3) := by decide +kernel
theorem d_law_728 : decode code 728 = .ok (.if_icmp .eq 765, 3) := by decide +kernel
theorem gc_law_75 : GoodIn yGW (wsV "WhoseGlassLaw" 75 yR4 m_X_likely ws_X_likely) := y_gV z_449 z_450 z_451 g_1 z_452
theorem gc_law_79 : GoodIn yGW (wsV "WhoseGlassLaw" 79 yR5 m_M_likely ws_M_likely) := y_gV z_1137 z_1138 z_1139 g_6 z_1140
theorem l_c13 {p : Program} {l : Launch} {e : Env} {s : State} {m : MethodId} {below : List Frame} {meth : Method} {c : Code} {Q : State → Prop} {cells slots b L i : Nat} {xs : Nat → Int32} {w2 : va_G × (Nat → ClassId)} {aX aM : Nat → Nat} {qo : Nat} {σ τ : Mm} {g : Nat → Int64} (C : lC p l s m meth c b L xs w2) (D : lD s.heap.size aX aM qo) (hi : 6 * i + 6 ≤ L) (R : Rel σ τ) (hcs : cells + 1 ≤ room_1.cells ∧ slots + 6 ≤ room_1.slots) (J : ∀ (σ1 τ1 : Mm) (g1 : Nat → Int64), Rel σ1 τ1 → lG p l e s m below meth c b w2 aX aM qo Q (cells + 1) (slots + 6) σ1 τ1 g1 1493 (lvI b aX aM qo i) []) : lG p l e s m below meth c b w2 aX aM qo Q cells slots σ τ g 609 (lvI b aX aM qo i) [] := by
  obtain ⟨N, R⟩ := R
  obtain ⟨p1, hp, q1, hq, e1, R1⟩ := q_likely (F := 3000) (xs (6 * i + 1)) (xs (6 * i + 2)) (xs (6 * i + 3)) R (Nat.le_of_ble_eq_true rfl)
  refine l_aX C d_law_609 ?_
  refine l_arg 1 C hi (by decide) rfl d_law_610 d_law_611 d_law_613 d_law_614 d_law_615 ?_
  refine l_arg 2 C hi (by decide) rfl d_law_616 d_law_617 d_law_619 d_law_620 d_law_621 ?_
  refine l_arg 3 C hi (by decide) rfl d_law_622 d_law_623 d_law_625 d_law_626 d_law_627 ?_
  refine l_callX 3 C D (c_X_likely l (aX, w2) 3000 σ 0 _ _ _ p1 hp) gc_law_75 hd_X_likely ⟨Nat.le_of_ble_eq_true rfl, Nat.le_of_ble_eq_true rfl⟩ rfl rfl ⟨Nat.le_of_succ_le hcs.1, Nat.le_trans (Nat.le_add_right _ _) hcs.2⟩ rfl rfl (Nat.le_of_ble_eq_true rfl) d_law_628 ?_
  refine l_aM C d_law_631 ?_
  refine l_arg 1 C hi (by decide) rfl d_law_632 d_law_633 d_law_635 d_law_636 d_law_637 ?_
  refine l_arg 2 C hi (by decide) rfl d_law_638 d_law_639 d_law_641 d_law_642 d_law_643 ?_
  refine l_arg 3 C hi (by decide) rfl d_law_644 d_law_645 d_law_647 d_law_648 d_law_649 ?_
  refine l_callM 3 C D (c_M_likely l (aM, w2) 3000 τ 0 _ _ _ q1 hq) gc_law_79 hd_M_likely ⟨Nat.le_of_ble_eq_true rfl, Nat.le_of_ble_eq_true rfl⟩ rfl rfl ⟨Nat.le_of_succ_le hcs.1, Nat.le_trans (Nat.le_add_right _ _) hcs.2⟩ rfl rfl (Nat.le_of_ble_eq_true rfl) d_law_650 ?_
  refine l_ceq (tgt := 1493) C e1 d_law_653 (by decide) ?_
  exact l_wide (Nat.le_succ _) (Nat.le_add_right _ _) (J p1.2 q1.2 g R1)
theorem gc_law_80 : GoodIn yGW (wsV "WhoseGlassLaw" 80 yR4 m_X_idle ws_X_idle) := y_gV z_463 z_464 z_465 g_1 z_466
theorem gc_law_83 : GoodIn yGW (wsV "WhoseGlassLaw" 83 yR5 m_M_idle ws_M_idle) := y_gV z_1144 z_1145 z_1146 g_6 z_1147
theorem l_c14 {p : Program} {l : Launch} {e : Env} {s : State} {m : MethodId} {below : List Frame} {meth : Method} {c : Code} {Q : State → Prop} {cells slots b L i : Nat} {xs : Nat → Int32} {w2 : va_G × (Nat → ClassId)} {aX aM : Nat → Nat} {qo : Nat} {σ τ : Mm} {g : Nat → Int64} (C : lC p l s m meth c b L xs w2) (D : lD s.heap.size aX aM qo) (hi : 6 * i + 6 ≤ L) (R : Rel σ τ) (hcs : cells + 1 ≤ room_1.cells ∧ slots + 6 ≤ room_1.slots) (J : ∀ (σ1 τ1 : Mm) (g1 : Nat → Int64), Rel σ1 τ1 → lG p l e s m below meth c b w2 aX aM qo Q (cells + 1) (slots + 6) σ1 τ1 g1 1493 (lvI b aX aM qo i) []) : lG p l e s m below meth c b w2 aX aM qo Q cells slots σ τ g 658 (lvI b aX aM qo i) [] := by
  obtain ⟨N, R⟩ := R
  obtain ⟨p1, hp, q1, hq, e1, R1⟩ := q_idle (F := 3000) (xs (6 * i + 1)) R (Nat.le_of_ble_eq_true rfl)
  refine l_aX C d_law_658 ?_
  refine l_arg 1 C hi (by decide) rfl d_law_659 d_law_660 d_law_662 d_law_663 d_law_664 ?_
  refine l_callX 1 C D (c_X_idle l (aX, w2) 3000 σ 0 _ p1 hp) gc_law_80 hd_X_idle ⟨Nat.le_of_ble_eq_true rfl, Nat.le_of_ble_eq_true rfl⟩ rfl rfl ⟨Nat.le_of_succ_le hcs.1, Nat.le_trans (Nat.le_add_right _ _) hcs.2⟩ rfl rfl (Nat.le_of_ble_eq_true rfl) d_law_665 ?_
  refine l_aM C d_law_668 ?_
  refine l_arg 1 C hi (by decide) rfl d_law_669 d_law_670 d_law_672 d_law_673 d_law_674 ?_
  refine l_callM 1 C D (c_M_idle l (aM, w2) 3000 τ 0 _ q1 hq) gc_law_83 hd_M_idle ⟨Nat.le_of_ble_eq_true rfl, Nat.le_of_ble_eq_true rfl⟩ rfl rfl ⟨Nat.le_of_succ_le hcs.1, Nat.le_trans (Nat.le_add_right _ _) hcs.2⟩ rfl rfl (Nat.le_of_ble_eq_true rfl) d_law_675 ?_
  refine l_ceq (tgt := 1493) C e1 d_law_678 (by decide) ?_
  exact l_wide (Nat.le_succ _) (Nat.le_add_right _ _) (J p1.2 q1.2 g R1)
theorem gc_law_84 : GoodIn yGW (wsV "WhoseGlassLaw" 84 yR4 m_X_oldest ws_X_oldest) := y_gV z_475 z_476 z_477 g_1 z_478
theorem gc_law_87 : GoodIn yGW (wsV "WhoseGlassLaw" 87 yR5 m_M_oldest ws_M_oldest) := y_gV z_1148 z_1149 z_1150 g_6 z_1151
theorem l_c15 {p : Program} {l : Launch} {e : Env} {s : State} {m : MethodId} {below : List Frame} {meth : Method} {c : Code} {Q : State → Prop} {cells slots b L i : Nat} {xs : Nat → Int32} {w2 : va_G × (Nat → ClassId)} {aX aM : Nat → Nat} {qo : Nat} {σ τ : Mm} {g : Nat → Int64} (C : lC p l s m meth c b L xs w2) (D : lD s.heap.size aX aM qo) (hi : 6 * i + 6 ≤ L) (R : Rel σ τ) (hcs : cells + 1 ≤ room_1.cells ∧ slots + 6 ≤ room_1.slots) (J : ∀ (σ1 τ1 : Mm) (g1 : Nat → Int64), Rel σ1 τ1 → lG p l e s m below meth c b w2 aX aM qo Q (cells + 1) (slots + 6) σ1 τ1 g1 1493 (lvI b aX aM qo i) []) : lG p l e s m below meth c b w2 aX aM qo Q cells slots σ τ g 683 (lvI b aX aM qo i) [] := by
  obtain ⟨N, R⟩ := R
  obtain ⟨p1, hp, q1, hq, e1, R1⟩ := q_oldest (F := 3000) (xs (6 * i + 1)) R (Nat.le_of_ble_eq_true rfl)
  refine l_aX C d_law_683 ?_
  refine l_arg 1 C hi (by decide) rfl d_law_684 d_law_685 d_law_687 d_law_688 d_law_689 ?_
  refine l_callX 1 C D (c_X_oldest l (aX, w2) 3000 σ 0 _ p1 hp) gc_law_84 hd_X_oldest ⟨Nat.le_of_ble_eq_true rfl, Nat.le_of_ble_eq_true rfl⟩ rfl rfl ⟨Nat.le_of_succ_le hcs.1, Nat.le_trans (Nat.le_add_right _ _) hcs.2⟩ rfl rfl (Nat.le_of_ble_eq_true rfl) d_law_690 ?_
  refine l_aM C d_law_693 ?_
  refine l_arg 1 C hi (by decide) rfl d_law_694 d_law_695 d_law_697 d_law_698 d_law_699 ?_
  refine l_callM 1 C D (c_M_oldest l (aM, w2) 3000 τ 0 _ q1 hq) gc_law_87 hd_M_oldest ⟨Nat.le_of_ble_eq_true rfl, Nat.le_of_ble_eq_true rfl⟩ rfl rfl ⟨Nat.le_of_succ_le hcs.1, Nat.le_trans (Nat.le_add_right _ _) hcs.2⟩ rfl rfl (Nat.le_of_ble_eq_true rfl) d_law_700 ?_
  refine l_ceq (tgt := 1493) C e1 d_law_703 (by decide) ?_
  exact l_wide (Nat.le_succ _) (Nat.le_add_right _ _) (J p1.2 q1.2 g R1)
theorem gc_law_88 : GoodIn yGW (wsV "WhoseGlassLaw" 88 yR4 m_X_mistakes ws_X_mistakes) := y_gV z_483 z_484 z_485 g_1 z_486
theorem gc_law_91 : GoodIn yGW (wsV "WhoseGlassLaw" 91 yR5 m_M_mistakes ws_M_mistakes) := y_gV z_1152 z_1153 z_1154 g_6 z_1155
theorem l_c16 {p : Program} {l : Launch} {e : Env} {s : State} {m : MethodId} {below : List Frame} {meth : Method} {c : Code} {Q : State → Prop} {cells slots b L i : Nat} {xs : Nat → Int32} {w2 : va_G × (Nat → ClassId)} {aX aM : Nat → Nat} {qo : Nat} {σ τ : Mm} {g : Nat → Int64} (C : lC p l s m meth c b L xs w2) (D : lD s.heap.size aX aM qo) (hi : 6 * i + 6 ≤ L) (R : Rel σ τ) (hcs : cells + 1 ≤ room_1.cells ∧ slots + 6 ≤ room_1.slots) (J : ∀ (σ1 τ1 : Mm) (g1 : Nat → Int64), Rel σ1 τ1 → lG p l e s m below meth c b w2 aX aM qo Q (cells + 1) (slots + 6) σ1 τ1 g1 1493 (lvI b aX aM qo i) []) : lG p l e s m below meth c b w2 aX aM qo Q cells slots σ τ g 708 (lvI b aX aM qo i) [] := by
  obtain ⟨N, R⟩ := R
  obtain ⟨p1, hp, q1, hq, e1, R1⟩ := q_mistakes (F := 3000) (xs (6 * i + 1)) R (Nat.le_of_ble_eq_true rfl)
  refine l_aX C d_law_708 ?_
  refine l_arg 1 C hi (by decide) rfl d_law_709 d_law_710 d_law_712 d_law_713 d_law_714 ?_
  refine l_callX 1 C D (c_X_mistakes l (aX, w2) 3000 σ 0 _ p1 hp) gc_law_88 hd_X_mistakes ⟨Nat.le_of_ble_eq_true rfl, Nat.le_of_ble_eq_true rfl⟩ rfl rfl ⟨Nat.le_of_succ_le hcs.1, Nat.le_trans (Nat.le_add_right _ _) hcs.2⟩ rfl rfl (Nat.le_of_ble_eq_true rfl) d_law_715 ?_
  refine l_aM C d_law_718 ?_
  refine l_arg 1 C hi (by decide) rfl d_law_719 d_law_720 d_law_722 d_law_723 d_law_724 ?_
  refine l_callM 1 C D (c_M_mistakes l (aM, w2) 3000 τ 0 _ q1 hq) gc_law_91 hd_M_mistakes ⟨Nat.le_of_ble_eq_true rfl, Nat.le_of_ble_eq_true rfl⟩ rfl rfl ⟨Nat.le_of_succ_le hcs.1, Nat.le_trans (Nat.le_add_right _ _) hcs.2⟩ rfl rfl (Nat.le_of_ble_eq_true rfl) d_law_725 ?_
  refine l_ceq (tgt := 1493) C e1 d_law_728 (by decide) ?_
  exact l_wide (Nat.le_succ _) (Nat.le_add_right _ _) (J p1.2 q1.2 g R1)
