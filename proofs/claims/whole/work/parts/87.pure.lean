/-! PURE 87: the law's calls of methods with handlers -/
theorem y_gcW {y : MethodName} {b : ByteArray} {n : Nat} {r : Option FieldType} {hh : List (Nat × Nat × Nat × Nat)} (hc : Cond.codeWith y b n r hh ∈ yGW) : GoodIn yGW (Cond.codeWith y b n r hh :: yGW) := by
  intro w hw
  rcases List.mem_cons.mp hw with rfl | hw
  · exact y_gw hc
  · exact y_gw hw
theorem y_gVW {own C : String} {idx : Nat} {y : MethodName} {b : ByteArray} {n : Nat} {r : Option FieldType} {hh : List (Nat × Nat × Nat × Nat)} (h1 : Cond.methodLink own idx y ∈ yGW) (h2 : Cond.instanceMethod y ∈ yGW) (h3 : Cond.selects C y y ∈ yGW) (h4 : Cond.initialized C ∈ yGW) (hc : Cond.codeWith y b n r hh ∈ yGW) : GoodIn yGW (wsV own idx C y (Cond.codeWith y b n r hh :: yGW)) := by
  intro w hw
  rcases List.mem_append.mp hw with hw | hw
  · simp only [List.mem_cons, List.not_mem_nil, or_false] at hw
    rcases hw with rfl | rfl | rfl | rfl
    · exact y_gw h1
    · exact y_gw h2
    · exact y_gw h3
    · exact y_gw h4
  · exact y_gcW hc w hw
theorem y_gSW {own : String} {idx : Nat} {y : MethodName} {b : ByteArray} {n : Nat} {r : Option FieldType} {hh : List (Nat × Nat × Nat × Nat)} (h1 : Cond.methodLink own idx y ∈ yGW) (h2 : Cond.static y ∈ yGW) (h4 : Cond.initialized y.cls ∈ yGW) (hc : Cond.codeWith y b n r hh ∈ yGW) : GoodIn yGW (va_wsS own idx y (Cond.codeWith y b n r hh :: yGW)) := by
  intro w hw
  rcases List.mem_append.mp hw with hw | hw
  · simp only [List.mem_cons, List.not_mem_nil, or_false] at hw
    rcases hw with rfl | rfl | rfl
    · exact y_gw h1
    · exact y_gw h2
    · exact y_gw h4
  · exact y_gcW hc w hw
theorem lB.blind {w : WP} {qo : Nat} {u : Mm} {As : List Value} : FrameBlind (va_Pc As (lB w qo u)) := fun a U g mk h => ⟨h.1, (yB.blind (As := As) a U g mk ⟨h.1, h.2.1⟩).2, h.2.2.1.calling, h.2.2.2.1, h.2.2.2.2⟩
section LC
variable {p : Program} {l : Launch} {e : Env} {s : State} {m : MethodId} {below : List Frame} {meth : Method} {c : Code} {Q : State → Prop} {cells slots : Nat}
variable {b L i pc : Nat} {xs : Nat → Int32} {w2 : va_G × (Nat → ClassId)} {aX aM : Nat → Nat} {qo : Nat} {σ τ : Mm} {g : Nat → Int64} {st : List Value} {lv : List (Nat × Value)}
theorem lC.xE_go {U : State} {A : Nat → Prop} {H : Heap} {locs : List Loc} (C : lC p l s m meth c b L xs w2) (h3 : va_S (lA0 s) s.heap H locs) (hU : U.heap = H) (hW : s.WarmedH U.vm) (hA : ∀ q, A q → lA0 s q) : xE A U :=
  xE.go C.2.2.2.2.2.2.2.2.1 hW (fun q q1 q2 => by rw [hU]; exact h3.2.1 q q1 q2) hA
/-- a call of the class that may throw and catch within -/
theorem l_callT {ρ : Type} {y : MethodName} {bytes : ByteArray} {maxL index : Nat} {rt : Option FieldType} {hh : List (Nat × Nat × Nat × Nat)} {rm : Room} {f : ρ → Option Value} {As st0 : List Value} {out : ρ × Mm} (n : Nat) (C : lC p l s m meth c b L xs w2) (D : lD s.heap.size aX aM qo)
    (hM : tMet l y (Cond.codeWith y bytes maxL rt hh :: yGW) rm YX (aX, w2) σ (va_re aX (some 0) :: As) f out) (hg : GoodIn yGW (wsV "WhoseGlassLaw" index yR4 y (Cond.codeWith y bytes maxL rt hh :: yGW)))
    (hd : y.cls = yR4 ∧ y.cls ≠ "java/lang/invoke/MethodHandle" ∧ y.cls ≠ "java/lang/invoke/VarHandle" ∧ (parseMethodDescriptor y.desc).map (fun d => d.parameters.length) = some n) (hR : rm.frames + 1 ≤ room_1.frames ∧ 8 + (maxL + 11) + rm.locals ≤ room_1.locals) (hrc : rm.cells = 1) (hrs : rm.slots = 6) (hcs : cells + 1 ≤ room_1.cells ∧ slots + 6 ≤ room_1.slots)
    (hn : As.length = n) (hst : st0 = As.reverse ++ .ref (aX 0) :: st) (hcat : (st.map fun v => v.category).sum ≤ 8) (hdg : decode code pc = .ok (.invokevirtual index, 3))
    (kk : lG p l e s m below meth c b w2 aX aM qo Q (cells + 1) (slots + 6) out.2 τ g (pc + 3) lv ((f out.1).toList ++ st)) : lG p l e s m below meth c b w2 aX aM qo Q cells slots σ τ g pc lv st0 := by
  subst hst
  intro H locs ls h1 h2 h3
  have he : (yW YX (aX, w2) σ)[0]? = some (aX 0, .inr (4, yF YX (aX, w2) σ 0 4 (yNf 4))) := by rw [yW_at (show 0 < YX.1 from (Nat.le_of_ble_eq_true rfl)), yC_c (show YX.2.1 0 = 4 from rfl) (by decide)]
  have hr := vx_runVW (p := p) (l := l) (e := e) (below := below) (meth := meth) (H := H) (locs := locs) (cells := cells) (slots := slots) (R := room_1) (g := F0 m pc ls (As.reverse ++ .ref (aX 0) :: st)) (b := aX 0) (As := As) (rest := st) (nL := 8) (own := "WhoseGlassLaw") ⟨C.1, C.2.1, C.2.2.1, C.2.2.2.1, C.2.2.2.2.1⟩ hM (vx_cwVW n C.2.2.2.2.1 hg rfl hrc hrs hd hR) ⟨zB.blind, va_recv C.2.2.2.2.2.1 h2.1 (ci := 4) (q0 := 0) rfl he, fun U hU hW => ⟨rfl, ⟨by rw [hU]; exact h2.1, va_K.moved hW.alike C.2.2.2.2.2.1, D.iX, C.2.2.2.2.2.2.1.warm hW⟩, C.xE_go h3 hU hW D.inX⟩⟩ rfl hn h1.1 rfl (lv_room hcat) hdg hcs
  intro T hT X
  obtain ⟨v, st₀, t, T', L, h0, X', hL, e1, e2, ⟨hv, hp, hF⟩, stp⟩ := hr T hT X
  cases hv
  obtain ⟨-, k2, k3⟩ := vx_keep (A0 := lA0 s) h0 e1 h3 (fun q _ z => D.inX q z) (fun q z => D.inX q z) hL hF
  obtain ⟨t2, a1, b1⟩ := kk T'.heap (locs ++ L) ls h1 (h2.cX D k2 (by rw [e1]; exact hp)) k3 T' rfl X'
  exact ⟨t2, stp t2 a1, b1⟩
theorem lD.inZ (D : lD s.heap.size aX aM qo) : ∀ q, zA (aX, w2) qo q → lA0 s q := fun q z => z.elim (D.inX q) (fun e => e ▸ D.2.2.2.2.1)
/-- the call of the law's own element -/
theorem l_callL {rm : Room} {index F : Nat} {a1 a2 : Int32} {out : (Option String × Int64) × Mm} (C : lC p l s m meth c b L xs w2) (D : lD s.heap.size aX aM qo)
    (hM : lMet l m_L_element ws_L_element rm (aX, w2) qo σ [va_re aX (some 0), .int a1, .int a2, .ref qo] out) (hg : GoodIn yGW (va_wsS "WhoseGlassLaw" index m_L_element ws_L_element))
    (hR : rm.frames + 1 ≤ room_1.frames ∧ 8 + (5 + 11) + rm.locals ≤ room_1.locals) (hrc : rm.cells = 1) (hrs : rm.slots = 6) (hcs : cells + 1 ≤ room_1.cells ∧ slots + 6 ≤ room_1.slots)
    (hcat : (st.map fun v => v.category).sum ≤ 8) (hdg : decode code pc = .ok (.invokestatic index, 3))
    (kk : ∀ (k : Int32) (g' : Nat → Int64), lO out k g' → lG p l e s m below meth c b w2 aX aM qo Q (cells + 1) (slots + 6) out.2 τ g' (pc + 3) lv (.int k :: st)) : lG p l e s m below meth c b w2 aX aM qo Q cells slots σ τ g pc lv (.ref qo :: .int a2 :: .int a1 :: .ref (aX 0) :: st) := by
  intro H locs ls h1 h2 h3
  have hr := vx_runSW (p := p) (l := l) (e := e) (below := below) (meth := meth) (H := H) (locs := locs) (cells := cells) (slots := slots) (R := room_1) (g := F0 m pc ls (.ref qo :: .int a2 :: .int a1 :: .ref (aX 0) :: st)) (As := [.ref (aX 0), .int a1, .int a2, .ref qo]) (rest := st) (nL := 8) (own := "WhoseGlassLaw") ⟨C.1, C.2.1, C.2.2.1, C.2.2.2.1, C.2.2.2.2.1⟩ hM (vx_cwSW 4 C.2.2.2.2.1 hg rfl hrc hrs hn_L_element hR) ⟨lB.blind, fun U hU hW => ⟨rfl, ⟨by rw [hU]; exact h2.1, va_K.moved hW.alike C.2.2.2.2.2.1, D.iX, C.2.2.2.2.2.2.1.warm hW⟩, C.xE_go h3 hU hW D.inZ, ⟨g, by rw [hU]; exact h2.2.2⟩, D.2.2.2.2.2.2.1⟩⟩ rfl rfl h1.1 rfl (lv_room hcat) hdg hcs
  intro T hT X
  obtain ⟨v, st₀, t, T', L, h0, X', hL, e1, e2, ⟨k, g', hv, ho, hp, hpo, hF⟩, stp⟩ := hr T hT X
  cases hv
  obtain ⟨-, k2, k3⟩ := vx_keep (A0 := lA0 s) h0 e1 h3 (fun q _ z => D.inZ q z) (fun q z => D.inZ q z) hL hF
  have hW1 : lW w2 aX aM qo out.2 τ g' T'.heap := ⟨by rw [e1]; exact hp, h2.2.1.kept (fun k x hx => k2 x.1 ((h2.2.1 k x hx).lt) (by
    obtain ⟨a1, a2⟩ := yW_k hx
    rw [a2]
    exact fun z => z.elim (D.nX a1) (D.2.2.2.2.2.2.2 k a1))), by rw [e1]; exact hpo⟩
  obtain ⟨t2, a1, b1⟩ := kk k g' ho T'.heap (locs ++ L) ls h1 hW1 k3 T' rfl X'
  exact ⟨t2, stp t2 a1, b1⟩
end LC
