/-! PURE 86: the law's world, its rows -/
section LC
variable {p : Program} {l : Launch} {e : Env} {s : State} {m : MethodId} {below : List Frame} {meth : Method} {c : Code} {Q : State → Prop} {cells slots : Nat}
variable {b L i pc : Nat} {xs : Nat → Int32} {w2 : va_G × (Nat → ClassId)} {aX aM : Nat → Nat} {qo : Nat} {σ τ : Mm} {g : Nat → Int64} {st : List Value} {lv : List (Nat × Value)}
def lA0 (s : State) : Nat → Prop := fun q => s.heap.size ≤ q
/-- what the law's walk stands on -/
def lC (p : Program) (l : Launch) (s : State) (m : MethodId) (meth : Method) (c : Code) (b L : Nat) (xs : Nat → Int32) (w2 : va_G × (Nat → ClassId)) : Prop :=
  p.tables.exec = Jvm.exec ∧ c.code = code ∧ c.maxLocals = 8 ∧ s.vm.findClass "WhoseGlassLaw" = some m.cls ∧ (∀ w ∈ yGW, w.before #[Value.ref b] s = true) ∧ va_K w2.1 yCl (yTys (fun _ => 0, w2)) s ∧ yNs s ∧ gO s ∧ xE (lA0 s) s ∧ va_X b L xs s s.heap ∧ b < s.heap.size ∧ meth.sig.returnType = ret ∧ meth.locks = false ∧ l.stackTraces = false ∧ L ≤ 3072
/-- the addresses of the two systems and of the row of one long are apart and new -/
def lD (sz : Nat) (aX aM : Nat → Nat) (qo : Nat) : Prop :=
  (∀ i j, i < 81 → j < 81 → aX i = aX j → i = j) ∧ (∀ i j, i < 29 → j < 29 → aM i = aM j → i = j) ∧ (∀ i, i < 81 → sz ≤ aX i) ∧ (∀ i, i < 29 → sz ≤ aM i) ∧ sz ≤ qo ∧ (∀ i j, i < 81 → j < 29 → aX i ≠ aM j) ∧ (∀ i, i < 81 → aX i ≠ qo) ∧ ∀ j, j < 29 → aM j ≠ qo
def lW (w2 : va_G × (Nat → ClassId)) (aX aM : Nat → Nat) (qo : Nat) (σ τ : Mm) (g : Nat → Int64) (H : Heap) : Prop :=
  va_P w2.1 yCl (yW YX (aX, w2) σ) H ∧ va_P w2.1 yCl (yW YM (aM, w2) τ) H ∧ va_P w2.1 yCl (oW (aX, w2) qo g) H
/-- from the law at pc, with these locals, this stack, these two systems, Q is reached -/
def lG (p : Program) (l : Launch) (e : Env) (s : State) (m : MethodId) (below : List Frame) (meth : Method) (c : Code) (b : Nat) (w2 : va_G × (Nat → ClassId)) (aX aM : Nat → Nat) (qo : Nat) (Q : State → Prop) (cells slots : Nat) (σ τ : Mm) (g : Nat → Int64) (pc : Nat) (lv : List (Nat × Value)) (st : List Value) : Prop :=
  ∀ (H : Heap) (locs : List Loc) (ls : Array Slot), lv_has ls 8 lv → lW w2 aX aM qo σ τ g H → va_S (lA0 s) s.heap H locs → W p l e room_1 s m #[Value.ref b] below meth c H locs cells slots Q (F0 m pc ls st)
/-- the locals at the loop's head -/
def lvI (b : Nat) (aX aM : Nat → Nat) (qo i : Nat) : List (Nat × Value) := [(0, .ref b), (1, .ref (aX 0)), (2, .ref (aM 0)), (3, .ref qo), (4, .int (nI (6 * i)))]
theorem yW_k {Y : Sy} {w : WP} {μ : Mm} {k : Nat} {x : Nat × va_E} (hx : (yW Y w μ)[k]? = some x) : k < Y.1 ∧ x.1 = w.1 k := by
  have hk : k < Y.1 := by
    have := (List.getElem?_eq_some_iff.mp hx).1
    simpa [yW] using this
  rw [yW_at hk] at hx
  cases hx
  exact ⟨hk, rfl⟩
theorem oW_k {w : WP} {qo : Nat} {g : Nat → Int64} {k : Nat} {x : Nat × va_E} (hx : (oW w qo g)[k]? = some x) : x.1 = qo := by
  have hk : k < 1 := (List.getElem?_eq_some_iff.mp hx).1
  obtain rfl : k = 0 := by omega
  cases hx
  rfl
theorem lC.bA (C : lC p l s m meth c b L xs w2) : ¬ lA0 s b := Nat.not_le.mpr C.2.2.2.2.2.2.2.2.2.2.1
theorem l_aX (C : lC p l s m meth c b L xs w2) (hdg : decode code pc = .ok (.aload_n 1, 1)) (K : lG p l e s m below meth c b w2 aX aM qo Q cells slots σ τ g (pc + 1) (lvI b aX aM qo i) (.ref (aX 0) :: st)) : lG p l e s m below meth c b w2 aX aM qo Q cells slots σ τ g pc (lvI b aX aM qo i) st := fun H locs ls h1 h2 h3 =>
  lv_aload_n C.1 C.2.1 hdg rfl (lv_at h1 1 rfl) (K H locs ls h1 h2 h3)
theorem l_aM (C : lC p l s m meth c b L xs w2) (hdg : decode code pc = .ok (.aload_n 2, 1)) (K : lG p l e s m below meth c b w2 aX aM qo Q cells slots σ τ g (pc + 1) (lvI b aX aM qo i) (.ref (aM 0) :: st)) : lG p l e s m below meth c b w2 aX aM qo Q cells slots σ τ g pc (lvI b aX aM qo i) st := fun H locs ls h1 h2 h3 =>
  lv_aload_n C.1 C.2.1 hdg rfl (lv_at h1 2 rfl) (K H locs ls h1 h2 h3)
/-- an argument out of the script -/
theorem l_arg {kI : Int} (k : Nat) (C : lC p l s m meth c b L xs w2) (hi : 6 * i + 6 ≤ L) (hk : k < 6) (hkI : Int32.ofInt kI = nI k) (d0 : decode code pc = .ok (.aload_n 0, 1)) (d1 : decode code (pc + 1) = .ok (.iload 4, 2)) (d2 : decode code (pc + 3) = .ok (.iconst kI, 1)) (d3 : decode code (pc + 4) = .ok (.iadd, 1)) (d4 : decode code (pc + 5) = .ok (.iaload, 1)) (K : lG p l e s m below meth c b w2 aX aM qo Q cells slots σ τ g (pc + 6) (lvI b aX aM qo i) (.int (xs (6 * i + k)) :: st)) : lG p l e s m below meth c b w2 aX aM qo Q cells slots σ τ g pc (lvI b aX aM qo i) st := by
  intro H locs ls h1 h2 h3
  have hL : L ≤ 3072 := C.2.2.2.2.2.2.2.2.2.2.2.2.2.2
  refine lv_aload_n C.1 C.2.1 d0 rfl (lv_at h1 0 rfl) ?_
  refine lv_iload C.1 C.2.1 d1 (lv_at h1 4 rfl) ?_
  refine lv_iconst (v := nI k) C.1 C.2.1 d2 hkI ?_
  refine lv_iadd C.1 C.2.1 d3 ?_
  rw [nI_add]
  refine va_sld (i := nI (6 * i + k)) C.1 C.2.1 C.2.2.2.2.2.2.2.2.2.1 C.2.2.2.2.2.2.2.2.2.2.1 C.bA h3 (vp_in_nI (by omega) (by omega)) d4 ?_
  rw [nI_clamp (by omega)]
  exact K H locs ls h1 h2 h3
theorem l_ceq {off : Int} {x y : Int32} {tgt : Nat} (C : lC p l s m meth c b L xs w2) (h : x = y) (hdg : decode code pc = .ok (.if_icmp .eq off, 3)) (ht : (pc : Int) + off = (tgt : Int)) (K : lG p l e s m below meth c b w2 aX aM qo Q cells slots σ τ g tgt lv st) : lG p l e s m below meth c b w2 aX aM qo Q cells slots σ τ g pc lv (.int y :: .int x :: st) := fun H locs ls h1 h2 h3 =>
  lv_icmp_eq C.1 C.2.1 hdg ht (fun _ => K H locs ls h1 h2 h3) (fun z => absurd h z)
theorem l_wide {cells' slots' : Nat} (h1 : cells ≤ cells') (h2 : slots ≤ slots') (K : lG p l e s m below meth c b w2 aX aM qo Q cells' slots' σ τ g pc lv st) : lG p l e s m below meth c b w2 aX aM qo Q cells slots σ τ g pc lv st := fun H locs ls a1 a2 a3 => W.widen h1 h2 (K H locs ls a1 a2 a3)
theorem lD.iX (D : lD s.heap.size aX aM qo) : yInj YX (aX, w2) := fun i j hi hj h => D.1 i j hi hj h
theorem lD.iM (D : lD s.heap.size aX aM qo) : yInj YM (aM, w2) := fun i j hi hj h => D.2.1 i j hi hj h
theorem lD.inX (D : lD s.heap.size aX aM qo) : ∀ q, yA YX (aX, w2) q → lA0 s q := fun q ⟨k, hk, e⟩ => e ▸ D.2.2.1 k hk
theorem lD.inM (D : lD s.heap.size aX aM qo) : ∀ q, yA YM (aM, w2) q → lA0 s q := fun q ⟨k, hk, e⟩ => e ▸ D.2.2.2.1 k hk
theorem lD.nX (D : lD s.heap.size aX aM qo) {k : Nat} (hk : k < 29) : ¬ yA YX (aX, w2) (aM k) := fun ⟨j, hj, e⟩ => D.2.2.2.2.2.1 j k hj hk e.symm
theorem lD.nM (D : lD s.heap.size aX aM qo) {k : Nat} (hk : k < 81) : ¬ yA YM (aM, w2) (aX k) := fun ⟨j, hj, e⟩ => D.2.2.2.2.2.1 k j hk hj e
theorem lD.oX (D : lD s.heap.size aX aM qo) : ¬ yA YX (aX, w2) qo := fun ⟨j, hj, e⟩ => D.2.2.2.2.2.2.1 j hj e.symm
theorem lD.oM (D : lD s.heap.size aX aM qo) : ¬ yA YM (aM, w2) qo := fun ⟨j, hj, e⟩ => D.2.2.2.2.2.2.2 j hj e.symm
theorem lW.cX {σ' : Mm} {H H1 : Heap} (D : lD s.heap.size aX aM qo) (h : lW w2 aX aM qo σ τ g H) (hk : ∀ q : Nat, q < H.size → ¬ yA YX (aX, w2) q → H1[q]? = H[q]?) (hp : va_P w2.1 yCl (yW YX (aX, w2) σ') H1) : lW w2 aX aM qo σ' τ g H1 :=
  ⟨hp, h.2.1.kept (fun k x hx => hk x.1 ((h.2.1 k x hx).lt) (by obtain ⟨a1, a2⟩ := yW_k hx; rw [a2]; exact D.nX a1)), h.2.2.kept (fun k x hx => hk x.1 ((h.2.2 k x hx).lt) (by rw [oW_k hx]; exact D.oX))⟩
theorem lW.cM {τ' : Mm} {H H1 : Heap} (D : lD s.heap.size aX aM qo) (h : lW w2 aX aM qo σ τ g H) (hk : ∀ q : Nat, q < H.size → ¬ yA YM (aM, w2) q → H1[q]? = H[q]?) (hp : va_P w2.1 yCl (yW YM (aM, w2) τ') H1) : lW w2 aX aM qo σ τ' g H1 :=
  ⟨h.1.kept (fun k x hx => hk x.1 ((h.1 k x hx).lt) (by obtain ⟨a1, a2⟩ := yW_k hx; rw [a2]; exact D.nM a1)), hp, h.2.2.kept (fun k x hx => hk x.1 ((h.2.2 k x hx).lt) (by rw [oW_k hx]; exact D.oM))⟩
/-- a call of the class -/
theorem l_callX {ρ : Type} {y : MethodName} {bytes : ByteArray} {maxL index : Nat} {rt : Option FieldType} {rm : Room} {f : ρ → Option Value} {As st0 : List Value} {out : ρ × Mm} (n : Nat) (C : lC p l s m meth c b L xs w2) (D : lD s.heap.size aX aM qo)
    (hM : yMet l y (yWs y bytes maxL rt) rm YX (aX, w2) σ (va_re aX (some 0) :: As) f out) (hg : GoodIn yGW (wsV "WhoseGlassLaw" index yR4 y (yWs y bytes maxL rt)))
    (hd : y.cls = yR4 ∧ y.cls ≠ "java/lang/invoke/MethodHandle" ∧ y.cls ≠ "java/lang/invoke/VarHandle" ∧ (parseMethodDescriptor y.desc).map (fun d => d.parameters.length) = some n) (hR : rm.frames + 1 ≤ room_1.frames ∧ 8 + (maxL + 11) + rm.locals ≤ room_1.locals) (hrc : rm.cells = 0) (hrs : rm.slots = 0) (hcs : cells ≤ room_1.cells ∧ slots ≤ room_1.slots)
    (hn : As.length = n) (hst : st0 = As.reverse ++ .ref (aX 0) :: st) (hcat : (st.map fun v => v.category).sum ≤ 8) (hdg : decode code pc = .ok (.invokevirtual index, 3))
    (kk : lG p l e s m below meth c b w2 aX aM qo Q cells slots out.2 τ g (pc + 3) lv ((f out.1).toList ++ st)) : lG p l e s m below meth c b w2 aX aM qo Q cells slots σ τ g pc lv st0 := by
  subst hst
  intro H locs ls h1 h2 h3
  have he : (yW YX (aX, w2) σ)[0]? = some (aX 0, .inr (4, yF YX (aX, w2) σ 0 4 (yNf 4))) := by rw [yW_at (show 0 < YX.1 from (Nat.le_of_ble_eq_true rfl)), yC_c (show YX.2.1 0 = 4 from rfl) (by decide)]
  have hr := va_runV (p := p) (l := l) (e := e) (below := below) (meth := meth) (H := H) (locs := locs) (cells := cells) (slots := slots) (R := room_1) (g := F0 m pc ls (As.reverse ++ .ref (aX 0) :: st)) (b := aX 0) (As := As) (rest := st) (nL := 8) (own := "WhoseGlassLaw") ⟨C.1, C.2.1, C.2.2.1, C.2.2.2.1, C.2.2.2.2.1⟩ hM (cwV n C.2.2.2.2.1 hg rfl hrc hrs hd hR) ⟨yB.blind, va_recv C.2.2.2.2.2.1 h2.1 (ci := 4) (q0 := 0) rfl he, fun U hU hW => ⟨rfl, by rw [hU]; exact h2.1, va_K.moved hW.alike C.2.2.2.2.2.1, D.iX, C.2.2.2.2.2.2.1.warm hW⟩⟩ rfl hn h1.1 rfl (lv_room hcat) hdg ⟨hcs.1, hcs.2⟩
  intro T hT X
  obtain ⟨v, st₀, t, T', L, h0, X', hL, e1, e2, ⟨hv, hp, hF⟩, stp⟩ := hr T hT X
  cases hv
  obtain ⟨-, k2, k3⟩ := vx_keep (A0 := lA0 s) h0 e1 h3 (fun q _ z => D.inX q z) (fun q z => D.inX q z) hL hF
  obtain ⟨t2, a1, b1⟩ := kk T'.heap (locs ++ L) ls h1 (h2.cX D k2 (by rw [e1]; exact hp)) k3 T' rfl X'
  exact ⟨t2, stp t2 a1, b1⟩
/-- a call of the reference -/
theorem l_callM {ρ : Type} {y : MethodName} {bytes : ByteArray} {maxL index : Nat} {rt : Option FieldType} {rm : Room} {f : ρ → Option Value} {As st0 : List Value} {out : ρ × Mm} (n : Nat) (C : lC p l s m meth c b L xs w2) (D : lD s.heap.size aX aM qo)
    (hM : yMet l y (yWs y bytes maxL rt) rm YM (aM, w2) τ (va_re aM (some 0) :: As) f out) (hg : GoodIn yGW (wsV "WhoseGlassLaw" index yR5 y (yWs y bytes maxL rt)))
    (hd : y.cls = yR5 ∧ y.cls ≠ "java/lang/invoke/MethodHandle" ∧ y.cls ≠ "java/lang/invoke/VarHandle" ∧ (parseMethodDescriptor y.desc).map (fun d => d.parameters.length) = some n) (hR : rm.frames + 1 ≤ room_1.frames ∧ 8 + (maxL + 11) + rm.locals ≤ room_1.locals) (hrc : rm.cells = 0) (hrs : rm.slots = 0) (hcs : cells ≤ room_1.cells ∧ slots ≤ room_1.slots)
    (hn : As.length = n) (hst : st0 = As.reverse ++ .ref (aM 0) :: st) (hcat : (st.map fun v => v.category).sum ≤ 8) (hdg : decode code pc = .ok (.invokevirtual index, 3))
    (kk : lG p l e s m below meth c b w2 aX aM qo Q cells slots σ out.2 g (pc + 3) lv ((f out.1).toList ++ st)) : lG p l e s m below meth c b w2 aX aM qo Q cells slots σ τ g pc lv st0 := by
  subst hst
  intro H locs ls h1 h2 h3
  have he : (yW YM (aM, w2) τ)[0]? = some (aM 0, .inr (5, yF YM (aM, w2) τ 0 5 (yNf 5))) := by rw [yW_at (show 0 < YM.1 from (Nat.le_of_ble_eq_true rfl)), yC_c (show YM.2.1 0 = 5 from rfl) (by decide)]
  have hr := va_runV (p := p) (l := l) (e := e) (below := below) (meth := meth) (H := H) (locs := locs) (cells := cells) (slots := slots) (R := room_1) (g := F0 m pc ls (As.reverse ++ .ref (aM 0) :: st)) (b := aM 0) (As := As) (rest := st) (nL := 8) (own := "WhoseGlassLaw") ⟨C.1, C.2.1, C.2.2.1, C.2.2.2.1, C.2.2.2.2.1⟩ hM (cwV n C.2.2.2.2.1 hg rfl hrc hrs hd hR) ⟨yB.blind, va_recv C.2.2.2.2.2.1 h2.2.1 (ci := 5) (q0 := 0) rfl he, fun U hU hW => ⟨rfl, by rw [hU]; exact h2.2.1, va_K.moved hW.alike C.2.2.2.2.2.1, D.iM, C.2.2.2.2.2.2.1.warm hW⟩⟩ rfl hn h1.1 rfl (lv_room hcat) hdg ⟨hcs.1, hcs.2⟩
  intro T hT X
  obtain ⟨v, st₀, t, T', L, h0, X', hL, e1, e2, ⟨hv, hp, hF⟩, stp⟩ := hr T hT X
  cases hv
  obtain ⟨-, k2, k3⟩ := vx_keep (A0 := lA0 s) h0 e1 h3 (fun q _ z => D.inM q z) (fun q z => D.inM q z) hL hF
  obtain ⟨t2, a1, b1⟩ := kk T'.heap (locs ++ L) ls h1 (h2.cM D k2 (by rw [e1]; exact hp)) k3 T' rfl X'
  exact ⟨t2, stp t2 a1, b1⟩
end LC
