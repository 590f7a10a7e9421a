theorem z_770 : (Jvm.Cond.methodLink "WhoseGlassLaw" (7 : Nat) ({ cls := "WhoseGlass", name := "element", desc := "(II)J" } : Jvm.MethodName)) ∈ yGW := y_i4 50 rfl rfl
theorem z_771 : (Jvm.Cond.instanceMethod ({ cls := "WhoseGlass", name := "element", desc := "(II)J" } : Jvm.MethodName)) ∈ yGW := y_i4 51 rfl rfl
theorem z_772 : (Jvm.Cond.selects "WhoseGlass" ({ cls := "WhoseGlass", name := "element", desc := "(II)J" } : Jvm.MethodName) ({ cls := "WhoseGlass", name := "element", desc := "(II)J" } : Jvm.MethodName)) ∈ yGW := y_i4 52 rfl rfl
theorem z_773 : (Jvm.Cond.code ({ cls := "WhoseGlass", name := "element", desc := "(II)J" } : Jvm.MethodName) prog_1_method_37_code (4 : Nat) (Option.some Jvm.ClassFile.FieldType.long)) ∈ yGW := y_i4 53 rfl rfl
theorem z_768 : (Jvm.Cond.classLink "WhoseGlassLaw" (13 : Nat) "java/lang/IllegalArgumentException") ∈ yGW := y_i4 48 rfl rfl
theorem z_769 : (Jvm.Cond.classLink "WhoseGlassLaw" (15 : Nat) "java/lang/IllegalStateException") ∈ yGW := y_i4 49 rfl rfl
theorem z_767 : (Jvm.Cond.codeWith ({ cls := "WhoseGlassLaw", name := "element", desc := "(LWhoseGlass;II[J)I" } : Jvm.MethodName) method_3_code (5 : Nat) (Option.some Jvm.ClassFile.FieldType.int) [((0 : Nat), (9 : Nat), (12 : Nat), (13 : Nat)), ((0 : Nat), (9 : Nat), (16 : Nat), (15 : Nat))]) ∈ yGW := y_i4 47 rfl rfl
theorem d_L_element_0 : decode method_3_code 0 = .ok (.aload_n 3, 1) := by decide +kernel
theorem d_L_element_1 : decode method_3_code 1 = .ok (.iconst 0, 1) := by decide +kernel
theorem d_L_element_2 : decode method_3_code 2 = .ok (.aload_n 0, 1) := by decide +kernel
theorem d_L_element_3 : decode method_3_code 3 = .ok (.iload_n 1, 1) := by decide +kernel
theorem d_L_element_4 : decode method_3_code 4 = .ok (.iload_n 2, 1) := by decide +kernel
theorem d_L_element_5 : decode method_3_code 5 = .ok (.invokevirtual 7, 3) := by decide +kernel
theorem d_L_element_8 : decode method_3_code 8 = .ok (.lastore, 1) := by decide +kernel
theorem d_L_element_9 : decode method_3_code 9 = .ok (.goto 11, 3) := by decide +kernel
theorem d_L_element_12 : decode method_3_code 12 = .ok (.astore 4, 2) := by decide +kernel
theorem d_L_element_14 : decode method_3_code 14 = .ok (.iconst 1, 1) := by decide +kernel
theorem d_L_element_15 : decode method_3_code 15 = .ok (.ireturn, 1) := by decide +kernel
theorem d_L_element_16 : decode method_3_code 16 = .ok (.astore 4, 2) := by decide +kernel
theorem d_L_element_18 : decode method_3_code 18 = .ok (.iconst 2, 1) := by decide +kernel
theorem d_L_element_19 : decode method_3_code 19 = .ok (.ireturn, 1) := by decide +kernel
theorem d_L_element_20 : decode method_3_code 20 = .ok (.iconst 0, 1) := by decide +kernel
theorem d_L_element_21 : decode method_3_code 21 = .ok (.ireturn, 1) := by decide +kernel
theorem gc_L_element_7 : GoodIn yGW (wsV "WhoseGlassLaw" 7 yR4 m_X_element ws_X_element) := y_gV z_770 z_771 z_772 g_1 z_773
/-! PURE 76: the law's element -/
def m_L_element : MethodName := ⟨"WhoseGlassLaw", "element", "(LWhoseGlass;II[J)I"⟩
def tab_Lel : List (Nat × Nat × Nat × Nat) := [(0, 9, 12, 13), (0, 9, 16, 15)]
abbrev ws_L_element : List Cond := Cond.codeWith m_L_element method_3_code 5 (some .int) tab_Lel :: yGW
theorem hn_L_element : m_L_element.cls ≠ "java/lang/invoke/MethodHandle" ∧ m_L_element.cls ≠ "java/lang/invoke/VarHandle" ∧ (parseMethodDescriptor m_L_element.desc).map (fun d => d.parameters.length) = some 4 := ⟨by decide +kernel, by decide +kernel, by decide +kernel⟩
/-- the class's system, and the law's row of one long -/
def zA (w : WP) (qo : Nat) : Nat → Prop := fun q => yA YX w q ∨ q = qo
def oW (w : WP) (qo : Nat) (g : Nat → Int64) : va_W := [(qo, .inl (w.2.2 1, 1, .inr (.inl g)))]
def lB (w : WP) (qo : Nat) (u : Mm) (U : State) : Prop := yB YX w u U ∧ xE (zA w qo) U ∧ (∃ g, va_P w.2.1 yCl (oW w qo g) U.heap) ∧ ∀ i, i < 81 → w.1 i ≠ qo
/-- 0 and the value, 1, 2 -/
def lO (out : (Option String × Int64) × Mm) (k : Int32) (g : Nat → Int64) : Prop := (out.1.1 = none ∧ k = 0 ∧ g 0 = out.1.2) ∨ (out.1.1 = some xIA ∧ k = 1) ∨ (out.1.1 = some xIS ∧ k = 2)
def lQ (w : WP) (qo : Nat) (out : (Option String × Int64) × Mm) : Array Value → State → Outcome → State → Prop := fun _ st oc t => ∃ (k : Int32) (g : Nat → Int64), oc = .returned (some (.int k)) ∧ lO out k g ∧ va_P w.2.1 yCl (yW YX w out.2) t.heap ∧ va_P w.2.1 yCl (oW w qo g) t.heap ∧ va_F (zA w qo) st t
def lMet (l : Launch) (y : MethodName) (ws : List Cond) (rm : Room) (w : WP) (qo : Nat) (u : Mm) (As : List Value) (out : (Option String × Int64) × Mm) : Prop := Met l y ws rm (va_Pc As (lB w qo u)) (lQ w qo out) 1 6 (zA w qo)
theorem el_E {F o : Nat} {u : Mm} {a b : Int32} {out : (Option String × Int64) × Mm} (h : f_X_element F u o a b = some out) : out.1.1 = none ∨ out.1.1 = some xIA ∨ out.1.1 = some xIS := by
  unfold f_X_element at h
  obtain ⟨t, -, h⟩ := ob_e h
  obtain ⟨⟨r1, u2⟩, -, h⟩ := yb_e h
  dsimp only at h
  by_cases c1 : r1 = none
  · rw [if_pos c1] at h; cases h; exact Or.inr (Or.inl rfl)
  · rw [if_neg c1] at h
    obtain ⟨x4, -, h⟩ := ob_e h
    by_cases c4 : x4 = 2
    · rw [if_pos c4] at h
      obtain ⟨x6, -, h⟩ := ob_e h
      obtain ⟨⟨x7, u8⟩, -, h⟩ := yb_e h
      dsimp only at h
      by_cases c7 : x7 = 0
      · rw [if_pos c7] at h; cases h; exact Or.inr (Or.inr rfl)
      · rw [if_neg c7] at h
        obtain ⟨t2, -, h⟩ := ob_e h
        obtain ⟨⟨x10, u11⟩, -, h⟩ := yb_e h
        cases h
        exact Or.inl rfl
    · rw [if_neg c4] at h; cases h; exact Or.inr (Or.inr rfl)
theorem pj {D : va_G} {cl : List vw_C} {a b : va_W} {H : Heap} (h : va_P D cl (a ++ b) H) : va_P D cl a H ∧ va_P D cl b H := by
  refine ⟨fun k q hk => h k q ?_, fun k q hk => h (a.length + k) q ?_⟩
  · rw [List.getElem?_append_left (List.getElem?_eq_some_iff.mp hk).1]; exact hk
  · rw [List.getElem?_append_right (by omega), Nat.add_sub_cancel_left]; exact hk
theorem yW_len {Y : Sy} {w : WP} {μ : Mm} : (yW Y w μ).length = Y.1 := by simp [yW]
set_option maxHeartbeats 4000000 in
set_option maxRecDepth 100000 in
theorem c_L_element (l : Launch) (hlt : l.stackTraces = false) (w : WP) (qo F : Nat) (u : Mm) (o : Nat) (a b : Int32) (out : (Option String × Int64) × Mm) (ho : o < 81) (hkd : kdX o = 4) (h : f_X_element F u o a b = some out) : lMet l m_L_element ws_L_element ({ frames := 9, cells := 1, slots := 6, locals := 300 } : Room) w qo u [va_re w.1 (some o), .int a, .int b, .ref qo] out := by
  unfold lMet Met
  refine MetFree.of_bodyS (code := method_3_code) (maxLocals := 5) (ret := some .int) (by decide +kernel) ?_ ?_
  · intro args s m h hn
    obtain ⟨m9, meth, c, hn9, h1, h2, h3, h4, -, h5, h6, -⟩ := Cond.codeWith_spec (atoms_spec (ws := ws_L_element) h _ List.mem_cons_self)
    cases hn.symm.trans hn9
    exact ⟨meth, c, h1, h2, h3, h4, h5, h6⟩
  intro p e s m args below meth c s₁ B hml hv _
  have hh0 : s₁.heap = s.heap := by rw [B.state]; rfl
  obtain ⟨rfl, ⟨hP, hK, hI, hN⟩, hE, ⟨g0, hG⟩, hqo⟩ := hv
  have hts0 := atoms_spec (ws := ws_L_element) B.pre
  have hts : ∀ v ∈ yGW, v.before [va_re w.1 (some o), .int a, .int b, .ref qo].toArray s = true := fun v hv => hts0 v (List.mem_cons_of_mem _ hv)
  have hown : s.vm.findClass "WhoseGlassLaw" = some m.cls := findClass_of_methodNamed (x := m_L_element) B.named
  have htab := vx_table (x := m_L_element) B (hts0 _ List.mem_cons_self)
  have hx := B.exec
  have hb := B.bytes
  have hr := B.returns
  have hlocks := B.notSynchronized
  have hl := lv_entry [va_re w.1 (some o), .int a, .int b, .ref qo] (n := 5) (Nat.le_of_ble_eq_true rfl)
  have key : W p l e ({ frames := 9, cells := 1, slots := 6, locals := 300 } : Room) s m [va_re w.1 (some o), .int a, .int b, .ref qo].toArray below meth c s.heap [] 0 0 (MQ below (lQ w qo out) [va_re w.1 (some o), .int a, .int b, .ref qo].toArray s 1 6 (zA w qo)) (entryFrame m [va_re w.1 (some o), .int a, .int b, .ref qo].toArray 5) := by
    rw [lg_entry_eq]
    generalize (lg_sl [va_re w.1 (some o), .int a, .int b, .ref qo] ++ List.replicate (5 - (lg_sl [va_re w.1 (some o), .int a, .int b, .ref qo]).length) Slot.unset).toArray = ls at hl ⊢
    have hl : lv_has ls 5 [(0, .ref (w.1 o)), (1, .int a), (2, .int b), (3, .ref qo)] := hl
    have hS : va_S (zA w qo) s.heap s.heap [] := va_S.rf
    have fin : ∀ (k : Int32) (g : Nat → Int64) (pc : Nat) (ls : Array Slot) (H1 : Heap) (locs1 : List Loc), lO out k g → va_P w.2.1 yCl (yW YX w out.2) H1 → va_P w.2.1 yCl (oW w qo g) H1 → va_S (zA w qo) s.heap H1 locs1 → decode method_3_code pc = .ok (.ireturn, 1) → W p l e ({ frames := 9, cells := 1, slots := 6, locals := 300 } : Room) s m [va_re w.1 (some o), .int a, .int b, .ref qo].toArray below meth c H1 locs1 1 6 (MQ below (lQ w qo out) [va_re w.1 (some o), .int a, .int b, .ref qo].toArray s 1 6 (zA w qo)) (F0 m pc ls [.int k]) := by
      intro k g pc ls H1 locs1 ho h2 h4 h3 hdg
      exact W.iret hx hb hr (fun t ht hW => ⟨k, g, rfl, ho, by rw [ht]; exact h2, by rw [ht]; exact h4, h3.F ht⟩) h3.2.2 hdg hlocks
    refine lv_aload_n hx hb d_L_element_0 rfl (lv_at hl 3 rfl) ?_
    refine lv_iconst (v := 0) hx hb d_L_element_1 (by decide) ?_
    refine lv_aload_n hx hb d_L_element_2 rfl (lv_at hl 0 rfl) ?_
    refine lv_iload_n hx hb d_L_element_3 rfl (lv_at hl 1 rfl) ?_
    refine lv_iload_n hx hb d_L_element_4 rfl (lv_at hl 2 rfl) ?_
    have he : (yW YX w u)[o]? = some (w.1 o, .inr (4, yF YX w u o 4 (yNf 4))) := by rw [yW_at ho, yC_c hkd (by decide)]
    have hrun := vx_runV (p := p) (l := l) (e := e) (below := below) (meth := meth) (H := s.heap) (locs := []) (cells := 0) (slots := 0) (g := F0 m 5 ls [.int b, .int a, .ref (w.1 o), .int 0, .ref qo]) (b := w.1 o) (As := [.int a, .int b]) (rest := [.int 0, .ref qo]) (nL := 5) (own := "WhoseGlassLaw") (R := ({ frames := 9, cells := 1, slots := 6, locals := 300 } : Room)) ⟨hx, hb, hml, hown, hts⟩ (c_X_element l hlt w F u o a b out h) (cwV 2 hts gc_L_element_7 rfl rfl rfl hd_X_element ⟨Nat.le_of_ble_eq_true rfl, Nat.le_of_ble_eq_true rfl⟩) ⟨zB.blind, va_recv (q0 := o) hK hP (ci := 4) rfl he, fun U hU hW => ⟨rfl, ⟨by rw [hU]; exact hP, va_K.moved hW.alike hK, hI, hN.warm hW⟩, hE.go hW (fun q _ _ => by rw [hU]) (fun q z => Or.inl z)⟩⟩ rfl rfl hl.1 rfl (lv_room (Nat.le_of_ble_eq_true rfl)) d_L_element_5 ⟨Nat.le_refl _, Nat.le_refl _⟩
    intro T hT X
    rcases hrun T hT X with ⟨v, st₀, t, T', L, h0, X', hL, e1, e2, ⟨hnn, hvv, hp, hF⟩, stp⟩ | ⟨q9, st₀, t, T', L, E, ce, h0, X', hL, e1, e2, ⟨hxx, hp, hF⟩, hce, hcv, hcl9, stp⟩
    · cases hvv
      obtain ⟨k1, k2, k3⟩ := vx_keep (A0 := zA w qo) h0 e1 hS (fun _ _ z => Or.inl z) (fun _ z => Or.inl z) hL hF
      have hp1 : va_P w.2.1 yCl (yW YX w out.2) T'.heap := by rw [e1]; exact hp
      have nqo : ¬ yA YX w qo := fun ⟨i, hi, z⟩ => hqo i hi z.symm
      have nqk : ∀ (k : Nat) (x : Nat × va_E), (oW w qo g0)[k]? = some x → ¬ yA YX w x.1 := fun k x hx => by
        have hk0 : k < 1 := (List.getElem?_eq_some_iff.mp hx).1
        obtain rfl : k = 0 := by omega
        cases hx
        exact nqo
      have hG1 : va_P w.2.1 yCl (oW w qo g0) T'.heap := hG.kept (fun k x hx => k2 x.1 ((hG k x hx).lt) (nqk k x hx))
      have hpp : va_P w.2.1 yCl (yW YX w out.2 ++ oW w qo g0) T'.heap := hp1.app hG1
      have hD : va_D (zA w qo) (yW YX w out.2 ++ oW w qo g0) := by
        have d1 := yD (μ := out.2) hI
        have l81 : (yW YX w out.2).length = 81 := yW_len
        have key : ∀ (i : Nat) (p : Nat × va_E), (yW YX w out.2 ++ oW w qo g0)[i]? = some p → (i < 81 ∧ (yW YX w out.2)[i]? = some p ∧ p.1 = w.1 i) ∨ (i = 81 ∧ p.1 = qo) := by
          intro i p hp
          rcases Nat.lt_or_ge i 81 with q | q
          · rw [List.getElem?_append_left (by omega)] at hp
            refine Or.inl ⟨q, hp, ?_⟩
            rw [yW_at (show i < YX.1 from q)] at hp
            cases hp; rfl
          · rw [List.getElem?_append_right (by omega), l81] at hp
            have : i - 81 < 1 := (List.getElem?_eq_some_iff.mp hp).1
            have e : i = 81 := by omega
            subst e
            cases hp
            exact Or.inr ⟨rfl, rfl⟩
        refine ⟨fun i j p q hp hq hpq => ?_, fun k q hq => ?_⟩
        · rcases key i p hp with ⟨a1, a2, a3⟩ | ⟨a1, a2⟩ <;> rcases key j q hq with ⟨b1, b2, b3⟩ | ⟨b1, b2⟩
          · exact d1.1 i j p q a2 b2 hpq
          · exact absurd (a3.symm.trans (hpq.trans b2)) (hqo i a1)
          · exact absurd (b3.symm.trans (hpq.symm.trans a2)) (hqo j b1)
          · omega
        · rcases key k q hq with ⟨a1, a2, a3⟩ | ⟨a1, a2⟩
          · exact Or.inl ⟨k, a1, a3⟩
          · exact Or.inr a2
      have l81 : (yW YX w out.2).length = 81 := yW_len
      have g81 : (yW YX w out.2 ++ oW w qo g0)[81]? = some (qo, .inl (w.2.2 1, 1, .inr (.inl g0))) := by
        rw [List.getElem?_append_right (by omega), l81]; rfl
      have kk : W p l e ({ frames := 9, cells := 1, slots := 6, locals := 300 } : Room) s m [va_re w.1 (some o), .int a, .int b, .ref qo].toArray below meth c T'.heap ([] ++ L) 1 6 (MQ below (lQ w qo out) [va_re w.1 (some o), .int a, .int b, .ref qo].toArray s 1 6 (zA w qo)) (F0 m 8 ls [.long out.1.2, .int 0, .ref qo]) := by
        refine va_last (D := w.2.1) hx hb hK hpp hD k3 81 1 g81 rfl (i := 0) (fun q => q.elim (fun z => absurd z (by decide)) (fun z => absurd z (by decide))) d_L_element_8 (fun H1 locs1 f1 f2 f3 => ?_)
        rw [List.set_append_right _ _ (by omega), l81] at f1
        obtain ⟨p1, p2⟩ := pj f1
        refine lv_goto (tgt := 20) hx hb d_L_element_9 (by decide) ?_
        refine lv_iconst (v := 0) hx hb d_L_element_20 (by decide) ?_
        exact fin 0 _ 21 ls H1 locs1 (Or.inl ⟨hnn, rfl, by simp [vp_updL]⟩) p1 p2 f3 d_L_element_21
      obtain ⟨t2, a1, b1⟩ := kk T' rfl X'
      exact ⟨t2, stp t2 a1, b1⟩
    · obtain ⟨k1, k2, k3⟩ := vx_keep (A0 := zA w qo) h0 e1 hS (fun _ _ z => Or.inl z) (fun _ z => Or.inl z) hL hF
      have hp1 : va_P w.2.1 yCl (yW YX w out.2) T'.heap := by rw [e1]; exact hp
      have nqo : ¬ yA YX w qo := fun ⟨i, hi, z⟩ => hqo i hi z.symm
      have nqk : ∀ (k : Nat) (x : Nat × va_E), (oW w qo g0)[k]? = some x → ¬ yA YX w x.1 := fun k x hx => by
        have hk0 : k < 1 := (List.getElem?_eq_some_iff.mp hx).1
        obtain rfl : k = 0 := by omega
        cases hx
        exact nqo
      have hG1 : va_P w.2.1 yCl (oW w qo g0) T'.heap := hG.kept (fun k x hx => k2 x.1 ((hG k x hx).lt) (nqk k x hx))
      have kx : vx_W p l e ({ frames := 9, cells := 1, slots := 6, locals := 300 } : Room) s m [va_re w.1 (some o), .int a, .int b, .ref qo].toArray below meth c T'.heap ([] ++ L) 1 6 (MQ below (lQ w qo out) [va_re w.1 (some o), .int a, .int b, .ref qo].toArray s 1 6 (zA w qo)) (F0 m 5 ls [.int 0, .ref qo]) q9 := by
        rcases el_E h with hc | hc | hc
        · rw [hc] at hxx; cases hxx
        · rw [hc] at hxx; cases hxx
          refine vx_catch (name := xIA) hown [] ⟨0, 9, 12, 13⟩ [⟨0, 9, 16, 15⟩] (htab.trans rfl) (fun z hz => absurd hz List.not_mem_nil) (by decide) (by decide) (hts _ z_768) ((hE.2.2.1 _ (List.mem_of_getElem? (i := 0) rfl)).use rfl) (by rw [e1]; exact hce) hcv hcl9 ?_
          refine lv_astore (i := 4) hx hb d_L_element_12 hl (by decide) rfl (fun ls2 h4 => ?_)
          refine lv_iconst (v := 1) hx hb d_L_element_14 (by decide) ?_
          exact fin 1 g0 15 ls2 _ _ (Or.inr (Or.inl ⟨hc, rfl⟩)) hp1 hG1 k3 d_L_element_15
        · rw [hc] at hxx; cases hxx
          refine vx_catch (name := xIS) hown [⟨0, 9, 12, 13⟩] ⟨0, 9, 16, 15⟩ [] (htab.trans rfl) (fun z hz => ?_) (by decide) (by decide) (hts _ z_769) ((hE.2.2.1 _ (List.mem_of_getElem? (i := 1) rfl)).use rfl) (by rw [e1]; exact hce) hcv hcl9 ?_
          · rw [List.mem_singleton] at hz
            subst hz
            exact Or.inr ⟨by decide, xIA, hts _ z_768, hE.2.2.2.2.2.2⟩
          refine lv_astore (i := 4) hx hb d_L_element_16 hl (by decide) rfl (fun ls2 h4 => ?_)
          refine lv_iconst (v := 2) hx hb d_L_element_18 (by decide) ?_
          exact fin 2 g0 19 ls2 _ _ (Or.inr (Or.inr ⟨hc, rfl⟩)) hp1 hG1 k3 d_L_element_19
      obtain ⟨t2, a1, b1⟩ := kx T' rfl X'
      exact ⟨t2, stp.trans a1, b1⟩
  obtain ⟨t, a1, o1, b1, b2, b3⟩ := key s₁ hh0 (Stand.of_body B)
  exact ⟨t, o1, a1, b1, b2, ⟨b3.1, b3.2⟩⟩
