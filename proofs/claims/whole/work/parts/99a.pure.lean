/-! PURE 99a: the law from its entry -/
theorem d_law_0 : decode code 0 = .ok (.new 8, 3) := by decide +kernel
theorem d_law_3 : decode code 3 = .ok (.dup, 1) := by decide +kernel
theorem d_law_4 : decode code 4 = .ok (.invokespecial 17, 3) := by decide +kernel
theorem d_law_7 : decode code 7 = .ok (.astore_n 1, 1) := by decide +kernel
theorem d_law_8 : decode code 8 = .ok (.new 18, 3) := by decide +kernel
theorem d_law_11 : decode code 11 = .ok (.dup, 1) := by decide +kernel
theorem d_law_12 : decode code 12 = .ok (.invokespecial 20, 3) := by decide +kernel
theorem d_law_15 : decode code 15 = .ok (.astore_n 2, 1) := by decide +kernel
theorem d_law_16 : decode code 16 = .ok (.iconst 1, 1) := by decide +kernel
theorem d_law_17 : decode code 17 = .ok (.newarray .long, 2) := by decide +kernel
theorem d_law_19 : decode code 19 = .ok (.astore_n 3, 1) := by decide +kernel
theorem d_law_20 : decode code 20 = .ok (.iconst 0, 1) := by decide +kernel
theorem d_law_21 : decode code 21 = .ok (.istore 4, 2) := by decide +kernel
theorem z_16 : (Jvm.Cond.classLink "WhoseGlassLaw" (8 : Nat) "WhoseGlass") ∈ yGW := y_i1 16 rfl rfl
theorem z_778 : (Jvm.Cond.classLink "WhoseGlassLaw" (18 : Nat) "WhoseGlassModel") ∈ yGW := y_i4 58 rfl rfl
theorem z_18 : (Jvm.Cond.methodLink "WhoseGlassLaw" (17 : Nat) ({ cls := "WhoseGlass", name := "<init>", desc := "()V" } : Jvm.MethodName)) ∈ yGW := y_i1 18 rfl rfl
theorem z_780 : (Jvm.Cond.methodLink "WhoseGlassLaw" (20 : Nat) ({ cls := "WhoseGlassModel", name := "<init>", desc := "()V" } : Jvm.MethodName)) ∈ yGW := y_i4 60 rfl rfl
theorem t_i1 {w : Cond} (i : Nat) (h : tables_1_1[i]? = some w) : w ∈ lw_tbl := List.mem_append_right _ (List.mem_append_left _ (List.mem_of_getElem? h))
theorem t_i2 {w : Cond} (i : Nat) (h : tables_1_2[i]? = some w) : w ∈ lw_tbl := List.mem_append_right _ (List.mem_append_right _ (List.mem_append_left _ (List.mem_of_getElem? h)))
theorem t_i3 {w : Cond} (i : Nat) (h : tables_1_3[i]? = some w) : w ∈ lw_tbl := List.mem_append_right _ (List.mem_append_right _ (List.mem_append_right _ (List.mem_append_left _ (List.mem_of_getElem? h))))
theorem t_i4 {w : Cond} (i : Nat) (h : tables_1_4[i]? = some w) : w ∈ lw_tbl := List.mem_append_right _ (List.mem_append_right _ (List.mem_append_right _ (List.mem_append_right _ (List.mem_append_left _ (List.mem_of_getElem? h)))))
section LC
variable {p : Program} {l : Launch} {e : Env} {s : State} {m : MethodId} {below : List Frame} {meth : Method} {c : Code} {Q : State → Prop} {cells slots : Nat}
variable {b L i pc : Nat} {xs : Nat → Int32} {w2 : va_G × (Nat → ClassId)} {aX aM : Nat → Nat} {qo : Nat} {σ τ : Mm} {g : Nat → Int64} {A : Array Value}
theorem l_arI (h : (Cond.arrayClass .int).before A s = true) : ∃ cA, ArrOfT s cA .int ∧ va_RA s cA .int := by
  obtain ⟨cA, k, comp, h1, h2, h3⟩ := Cond.arrayClass_spec h
  exact ⟨cA, fun n z => ⟨fun k h => (by cases h), k, h2, comp, h3⟩, h1⟩
theorem l_arL (h : (Cond.arrayClass .long).before A s = true) : ∃ cA, ArrOfT s cA .long ∧ va_RA s cA .long := by
  obtain ⟨cA, k, comp, h1, h2, h3⟩ := Cond.arrayClass_spec h
  exact ⟨cA, fun n z => ⟨fun k h => (by cases h), k, h2, comp, h3⟩, h1⟩
theorem l_arO {n : String} (h : va_AO n s) : ∃ cA, ArrOfT s cA (.object n) ∧ va_RA s cA (.object n) := by
  obtain ⟨comp, cA, k, h1, h2, h3, h4, h5⟩ := Cond.arrayOver_spec h
  exact ⟨cA, fun n z => ⟨fun k h => (by cases h), k, h3, comp, h4⟩, k, comp, h3, h4, h1, h5⟩
theorem l_K (hts : ∀ w ∈ yGW, w.before A s = true) (hO : gO s) : ∃ w2 : va_G × (Nat → ClassId), va_K w2.1 yCl (yTys (fun _ => 0, w2)) s := by
  obtain ⟨c0, i0, k0⟩ := u_known (C := yR0) (T := yT0) (N := 8) (n := 8) hts yI0 (hts _ z_34)
  obtain ⟨c1, i1, k1⟩ := u_known (C := yR1) (T := yT1) (N := 10) (n := 10) hts yI1 (hts _ z_79)
  obtain ⟨c2, i2, k2⟩ := u_known (C := yR2) (T := yT2) (N := 9) (n := 9) hts yI2 (hts _ z_25)
  obtain ⟨c3, i3, k3⟩ := u_known (C := yR3) (T := yT3) (N := 6) (n := 6) hts yI3 (hts _ z_170)
  obtain ⟨c4, i4, k4⟩ := u_known (C := yR4) (T := yT4) (N := 5) (n := 5) hts yI4 (hts _ z_17)
  obtain ⟨c5, i5, k5⟩ := u_known (C := yR5) (T := yT5) (N := 46) (n := 46) hts yI5 (hts _ z_779)
  obtain ⟨A0, a0⟩ := l_arI (hts _ z_201)
  obtain ⟨A1, a1⟩ := l_arL (hts _ z_923)
  obtain ⟨A2, a2⟩ := l_arO hO.1
  obtain ⟨A3, a3⟩ := l_arO hO.2.1
  obtain ⟨A4, a4⟩ := l_arO hO.2.2
  refine ⟨((fun k => if k = 0 then c0 else if k = 1 then c1 else if k = 2 then c2 else if k = 3 then c3 else if k = 4 then c4 else c5, fun k => if k = 0 then i0 else if k = 1 then i1 else if k = 2 then i2 else if k = 3 then i3 else if k = 4 then i4 else i5), fun k => if k = 0 then A0 else if k = 1 then A1 else if k = 2 then A2 else if k = 3 then A3 else A4), fun k q hq => ?_, fun k q hq => ?_⟩
  · match k, hq with
    | 0, hq => cases hq; exact k0
    | 1, hq => cases hq; exact k1
    | 2, hq => cases hq; exact k2
    | 3, hq => cases hq; exact k3
    | 4, hq => cases hq; exact k4
    | 5, hq => cases hq; exact k5
    | n + 6, hq => simp at hq
  · match k, hq with
    | 0, hq => cases hq; exact a0
    | 1, hq => cases hq; exact a1
    | 2, hq => cases hq; exact a2
    | 3, hq => cases hq; exact a3
    | 4, hq => cases hq; exact a4
    | n + 5, hq => simp [yTys] at hq
theorem l_O (hts : ∀ w ∈ lw_tbl, w.before A s = true) : gO s := ⟨va_AO.of (hts _ (t_i1 31 rfl)), va_AO.of (hts _ (t_i1 33 rfl)), va_AO.of (hts _ (t_i1 169 rfl))⟩
theorem l_Ns (hts : ∀ w ∈ lw_tbl, w.before A s = true) : yNs s := by
  intro x hx
  simp only [yNst, List.mem_cons, List.not_mem_nil, or_false] at hx
  rcases hx with rfl | rfl | rfl
  · exact va_Nw.of rfl (hts _ (t_i1 171 rfl))
  · exact va_Nw.of rfl (hts _ (t_i2 46 rfl))
  · exact va_Nw.of rfl (hts _ (t_i2 102 rfl))
theorem l_str {own tx : String} {k : Nat} (h1 : (Cond.stringRef own k tx).before A s = true) (h2 : (Cond.exactly (.string own k) "java/lang/String").before A s = true) : ∃ a, vk_R own k tx a s := by
  obtain ⟨a, -, -, -, ha, -⟩ := Cond.exactly_spec h2
  exact ⟨a, vk_R.of h1 ha⟩
theorem l_xE (hts : ∀ w ∈ lw_tbl, w.before A s = true) (hgv : (Jvm.Cond.and given_1 narrow_1).before A s = true) : xE (lA0 s) s := by
  have hs := flat_of_before _ hgv
  have hn : ∀ a : Nat, a < s.heap.size → ¬ lA0 s a := fun a h z => absurd h (Nat.not_lt.mpr z)
  refine ⟨⟨vx_Zqof (hts _ (t_i3 212 rfl)) (hts _ (t_i1 9 rfl)) (hs _ (by decide +kernel)) hn, vx_Zqof (hts _ (t_i3 214 rfl)) (hts _ (t_i1 9 rfl)) (hs _ (by decide +kernel)) hn⟩, ⟨l_str (hts _ (t_i4 54 rfl)) (hs _ (by decide +kernel)), l_str (hts _ (t_i4 56 rfl)) (hs _ (by decide +kernel)), l_str (hts _ (t_i3 226 rfl)) (hs _ (by decide +kernel)), l_str (hts _ (t_i4 22 rfl)) (hs _ (by decide +kernel)), l_str (hts _ (t_i4 38 rfl)) (hs _ (by decide +kernel))⟩, fun w hw => va_Nw.of (xNg_t w hw) (hts _ ?_), ⟨va_Nc.of (hs _ (by decide +kernel)), va_Nc.of (hs _ (by decide +kernel)), va_Nc.of (hs _ (by decide +kernel)), va_Nc.of (hs _ (by decide +kernel))⟩⟩
  have : ∀ w ∈ xNg, w ∈ lw_tbl := by decide +kernel
  exact this w hw
end LC

