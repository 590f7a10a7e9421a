/-! PURE 99b: the law from its entry to its loop -/
section LC
variable {p : Program} {l : Launch} {e : Env} {s : State} {m : MethodId} {below : List Frame} {meth : Method} {c : Code} {Q : State → Prop} {cells slots : Nat}
variable {b L i pc : Nat} {xs : Nat → Int32} {w2 : va_G × (Nat → ClassId)} {ws : va_W} {H : Heap} {locs : List Loc} {ls : Array Slot} {rest : List Value} {kd ln : Nat → Nat} {index : Nat}
theorem yV_0 {n id ci k : Nat} {ad : Nat → Nat} : yV (n, kd, ln, rX0) (ad, w2) m0X id ci k = (if yRf ci k = true then .null else .int 0) := by
  unfold yV
  by_cases h : yRf ci k = true
  · rw [if_pos h, if_pos h]
    show va_re ad (if ci = 5 ∧ k = 29 then none else none) = _
    rw [ite_self]
    rfl
  · rw [if_neg h, if_neg h]
    rfl
def yF0 (ci n : Nat) : List Value := (List.range n).map (fun k => if yRf ci k = true then .null else .int 0)
theorem yF_0 {n id ci N : Nat} {ad : Nat → Nat} : yF (n, kd, ln, rX0) (ad, w2) m0X id ci N = yF0 ci N := congrArg (fun f => List.map f (List.range N)) (funext fun k => yV_0)
theorem app_D {A : Nat → Prop} {x : Nat × va_E} (d : va_D A (ws ++ [x])) : A x.1 ∧ ∀ (k : Nat) (z : Nat × va_E), ws[k]? = some z → z.1 ≠ x.1 := by
  have hx : (ws ++ [x])[ws.length]? = some x := by rw [List.getElem?_append_right (Nat.le_refl _), Nat.sub_self]; rfl
  refine ⟨d.2 _ _ hx, fun k z hz ee => ?_⟩
  have hk : k < ws.length := (List.getElem?_eq_some_iff.mp hz).1
  have := d.1 k ws.length z x (by rw [List.getElem?_append_left hk]; exact hz) hx ee
  omega
theorem l_new {ci : Nat} {q : vw_C} (C : lC p l s m meth c b L xs w2) (hP : va_P w2.1 yCl ws H) (hD : va_D (lA0 s) ws) (hS : va_S (lA0 s) s.heap H locs) (hc : yCl[ci]? = some q) (hkd : kd 0 = ci) (hcl : Cond.classLink "WhoseGlassLaw" index q.1 ∈ yGW) (hinst : Cond.instantiable q.1 q.2.2 ∈ yGW) (hini : Cond.initialized q.1 ∈ yGW) (hcells : cells + 1 ≤ room_1.cells) (hslots : slots + q.2.2 ≤ room_1.slots) (hdg : decode code pc = .ok (.new index, 3))
    (kk : ∀ (a : Nat) (H1 : Heap), s.heap.size ≤ a → va_P w2.1 yCl ws H1 → (∀ (k : Nat) (x : Nat × va_E), ws[k]? = some x → x.1 ≠ a) → va_P w2.1 yCl (yW (1, kd, ln, rX0) (fun _ => a, w2) m0X) H1 → va_S (lA0 s) s.heap H1 locs → W p l e room_1 s m #[Value.ref b] below meth c H1 locs (cells + 1) (slots + q.2.2) Q (F0 m (pc + 3) ls (.ref a :: rest))) : W p l e room_1 s m #[Value.ref b] below meth c H locs cells slots Q (F0 m pc ls rest) := by
  obtain ⟨ty, t1, t2⟩ := gTy hc
  obtain ⟨d1, -, d3, d4, d5⟩ := yCls hc
  refine va_new (D := w2.1) (ci := ci) (fs := yF0 ci q.2.2) C.1 C.2.1 C.2.2.2.2.1 d1 ty t1 C.2.2.2.1 (C.2.2.2.2.1 _ hcl) (C.2.2.2.2.1 _ hinst) (C.2.2.2.2.1 _ hini) C.2.2.2.2.2.1 hP hD hS (fun _ z => z) hc (fun j hj => ?_) hcells hslots hdg (fun a H1 g1 g2 g3 => ?_)
  · rw [t2 j hj]
    unfold vp_V yF0
    simp [hj]
  · obtain ⟨p1, p2⟩ := pj g1
    obtain ⟨e1, e2⟩ := app_D g2
    refine kk a H1 e1 p1 e2 ?_ g3
    have e : yW (1, kd, ln, rX0) (fun _ => a, w2) m0X = [(a, .inr (ci, yF0 ci q.2.2))] := by
      show [(a, yC (1, kd, ln, rX0) (fun _ => a, w2) m0X 0)] = _
      rw [yC_c hkd d5, yF_0, d4]
    rw [e]
    exact p2
theorem l_init {y : MethodName} {bytes : ByteArray} {maxL a mc ms : Nat} {rm : Room} {Y' : Sy} {μ' : Mm} {lv : List (Nat × Value)} (C : lC p l s m meth c b L xs w2) (hl : lv_has ls 8 lv) (hP : va_P w2.1 yCl (yW (1, kd, ln, rX0) (fun _ => a, w2) m0X) H) (hPw : va_P w2.1 yCl ws H) (hDw : ∀ (k : Nat) (x : Nat × va_E), ws[k]? = some x → x.1 ≠ a) (hS : va_S (lA0 s) s.heap H locs) (ha : s.heap.size ≤ a)
    (hM : gMet l y (yWs y bytes maxL none) rm (1, kd, ln, rX0) (fun _ => a, w2) m0X [.ref a] Y' μ' mc ms H.size) (hg : GoodIn yGW (yWs y bytes maxL none)) (hrc : rm.cells = mc) (hrs : rm.slots = ms) (hini : Cond.initialized y.cls ∈ yGW) (hlk : Cond.methodLink "WhoseGlassLaw" index y ∈ yGW) (hinst : Cond.instanceMethod y ∈ yGW) (hy1 : y.name = "<init>")
    (hd : y.cls ≠ "java/lang/invoke/MethodHandle" ∧ y.cls ≠ "java/lang/invoke/VarHandle" ∧ (parseMethodDescriptor y.desc).map (fun d => d.parameters.length) = some 0) (hR : rm.frames + 1 ≤ room_1.frames ∧ 8 + (maxL + 11) + rm.locals ≤ room_1.locals) (hcs : cells + mc ≤ room_1.cells ∧ slots + ms ≤ room_1.slots) (hcat : (rest.map fun v => v.category).sum ≤ 8) (hdg : decode code pc = .ok (.invokespecial index, 3))
    (kk : ∀ (ad : Nat → Nat) (H1 : Heap) (locs1 : List Loc), ad 0 = a → va_P w2.1 yCl (yW Y' (ad, w2) μ') H1 → (∀ i j, i < Y'.1 → j < Y'.1 → ad i = ad j → i = j) → (∀ i, i < Y'.1 → ad i = a ∨ H.size ≤ ad i) → va_P w2.1 yCl ws H1 → va_S (lA0 s) s.heap H1 locs1 → W p l e room_1 s m #[Value.ref b] below meth c H1 locs1 (cells + mc) (slots + ms) Q (F0 m (pc + 3) ls rest)) : W p l e room_1 s m #[Value.ref b] below meth c H locs cells slots Q (F0 m pc ls (.ref a :: rest)) := by
  have hD1 : va_D (fun _ => True) (yW (1, kd, ln, rX0) (fun _ => a, w2) m0X) := ⟨fun i j x z hx hz _ => by
    have a1 : i < 1 := (yW_k hx).1
    have a2 : j < 1 := (yW_k hz).1
    omega, fun _ _ _ => trivial⟩
  have hr := va_runI (p := p) (l := l) (e := e) (below := below) (meth := meth) (H := H) (locs := locs) (cells := cells) (slots := slots) (R := room_1) (g := F0 m pc ls (.ref a :: rest)) (b := a) (As := []) (rest := rest) (nL := 8) (own := "WhoseGlassLaw") ⟨C.1, C.2.1, C.2.2.1, C.2.2.2.1, C.2.2.2.2.1⟩ hM (cwI 0 C.2.2.2.2.1 hg rfl hrc hrs (C.2.2.2.2.1 _ hini) (C.2.2.2.2.1 _ hlk) (C.2.2.2.2.1 _ hinst) hy1 hd hR) ⟨gB.blind, fun U hU hW => ⟨rfl, by rw [hU], by rw [hU]; exact hP, hD1, va_K.moved hW.alike C.2.2.2.2.2.1, C.2.2.2.2.2.2.1.warm hW, gO.moved hW.alike C.2.2.2.2.2.2.2.1⟩⟩ rfl rfl hl.1 rfl (lv_room hcat) hdg hcs
  intro T hT X
  obtain ⟨v, st₀, t, T', L, h0, X', hL, e1, e2, ⟨ad', hv, ha1, hp, hd1, hF⟩, stp⟩ := hr T hT X
  cases hv
  have hAA : ∀ q, gA (1, kd, ln, rX0) (fun _ => a, w2) H.size q → lA0 s q := fun q hq => hq.elim (fun ⟨k, hk, e⟩ => e ▸ ha) (fun z => Nat.le_trans hS.1 z)
  obtain ⟨-, k2, k3⟩ := vx_keep (A0 := lA0 s) h0 e1 hS (fun q _ z => hAA q z) (fun q z => hAA q z) hL hF
  have f1 : ∀ i, i < Y'.1 → ad' i = a ∨ H.size ≤ ad' i := fun i hi => (hd1.2 i _ (yW_at hi)).elim (fun ⟨k, hk, e⟩ => Or.inl e) Or.inr
  have f2 : va_P w2.1 yCl ws T'.heap := hPw.kept (fun k x hx => k2 x.1 ((hPw k x hx).lt) (fun z => z.elim (fun ⟨j, hj, e⟩ => hDw k x hx e) (fun q => absurd ((hPw k x hx).lt) (Nat.not_lt.mpr q))))
  obtain ⟨t2, a1, b1⟩ := kk ad' T'.heap (locs ++ L) (ha1 0 Nat.zero_lt_one) (by rw [e1]; exact hp) (fun i j hi hj ee => hd1.1 i j _ _ (yW_at hi) (yW_at hj) ee) f1 f2 k3 T' rfl X'
  exact ⟨t2, stp t2 a1, b1⟩
theorem yW_D {Y : Sy} {ad : Nat → Nat} {μ : Mm} {A : Nat → Prop} (hi : ∀ i j, i < Y.1 → j < Y.1 → ad i = ad j → i = j) (hA : ∀ i, i < Y.1 → A (ad i)) : va_D A (yW Y (ad, w2) μ) := by
  refine ⟨fun i j x z hx hz ee => ?_, fun k x hx => ?_⟩
  · obtain ⟨a1, a2⟩ := yW_k hx
    obtain ⟨b1, b2⟩ := yW_k hz
    exact hi i j a1 b1 (a2.symm.trans (ee.trans b2))
  · obtain ⟨a1, a2⟩ := yW_k hx
    rw [a2]
    exact hA k a1
theorem l_start (C : lC p l s m meth c b L xs w2) (E : ∀ (aX aM : Nat → Nat) (qo i : Nat) (σ τ : Mm) (g : Nat → Int64), lG p l e s m below meth c b w2 aX aM qo Q room_1.cells room_1.slots σ τ g 1499 (lvI b aX aM qo i) []) : W p l e room_1 s m #[Value.ref b] below meth c s.heap [] 0 0 Q (entryFrame m ([Value.ref b] : List Value).toArray 8) := by
  have hl := lv_entry ([.ref b]) (n := 8) (Nat.le_of_ble_eq_true rfl)
  rw [lg_entry_eq]
  generalize (lg_sl ([.ref b]) ++ List.replicate (8 - (lg_sl ([.ref b])).length) Slot.unset).toArray = ls at hl ⊢
  have hl : lv_has ls 8 [(0, .ref b)] := hl
  refine l_new (ws := []) (ci := 4) (q := (yR4, yT4, 5)) (kd := kdX) (ln := lnX) C (fun k q h => by simp at h) ⟨fun i j p q h => by simp at h, fun k q h => by simp at h⟩ va_S.rf rfl rfl z_16 z_17 g_1 (Nat.le_of_ble_eq_true rfl) (Nat.le_of_ble_eq_true rfl) d_law_0 (fun a H1 ha _ _ hP hS1 => ?_)
  refine lv_dup C.1 C.2.1 d_law_3 rfl ?_
  refine l_init (ws := []) C hl hP (fun k q h => by simp at h) (fun k x h => by simp at h) hS1 ha (c_X_init l H1.size (fun _ => a) w2) (y_gc z_20) rfl rfl g_1 z_18 z_19 rfl hn_X_init ⟨Nat.le_of_ble_eq_true rfl, Nat.le_of_ble_eq_true rfl⟩ ⟨Nat.le_of_ble_eq_true rfl, Nat.le_of_ble_eq_true rfl⟩ (Nat.le_of_ble_eq_true rfl) d_law_4 (fun aX H2 locs2 eX hPX iX mX _ hS2 => ?_)
  refine lv_astore_n (lv' := [(1, .ref a), (0, .ref b)]) C.1 C.2.1 d_law_7 rfl hl (by decide) rfl (fun ls hl => ?_)
  have gX : ∀ i, i < 81 → s.heap.size ≤ aX i := fun i hi => (mX i hi).elim (fun z => z ▸ ha) (fun z => Nat.le_trans hS1.1 z)
  have DX : va_D (lA0 s) (yW YX (aX, w2) mXo) := yW_D iX gX
  refine l_new (ci := 5) (q := (yR5, yT5, 46)) (kd := kdM) (ln := lnM) C hPX DX hS2 rfl rfl z_778 z_779 g_6 (Nat.le_of_ble_eq_true rfl) (Nat.le_of_ble_eq_true rfl) d_law_8 (fun a2 H3 ha2 hPX3 hdX hP3 hS3 => ?_)
  refine lv_dup C.1 C.2.1 d_law_11 rfl ?_
  refine l_init C hl hP3 hPX3 hdX hS3 ha2 (c_M_init l H3.size (fun _ => a2) w2) (y_gc z_782) rfl rfl g_6 z_780 z_781 rfl hn_M_init ⟨Nat.le_of_ble_eq_true rfl, Nat.le_of_ble_eq_true rfl⟩ ⟨Nat.le_of_ble_eq_true rfl, Nat.le_of_ble_eq_true rfl⟩ (Nat.le_of_ble_eq_true rfl) d_law_12 (fun aM H4 locs4 eM hPM iM mM hPX4 hS4 => ?_)
  refine lv_astore_n (lv' := [(2, .ref a2), (1, .ref a), (0, .ref b)]) C.1 C.2.1 d_law_15 rfl hl (by decide) rfl (fun ls hl => ?_)
  have gM : ∀ j, j < 29 → s.heap.size ≤ aM j := fun j hj => (mM j hj).elim (fun z => z ▸ ha2) (fun z => Nat.le_trans hS3.1 z)
  have nXM : ∀ i j, i < 81 → j < 29 → aX i ≠ aM j := fun i j hi hj ee => (mM j hj).elim (fun z => hdX i _ (yW_at (Y := YX) hi) (ee.trans z)) (fun z => absurd ((hPX3 i _ (yW_at (Y := YX) hi)).lt) (Nat.not_lt.mpr (show H3.size ≤ aX i from ee ▸ z)))
  have DM : va_D (lA0 s) (yW YM (aM, w2) mMo) := yW_D iM gM
  have hXM : ∀ (i j : Nat) (x z : Nat × va_E), (yW YX (aX, w2) mXo)[i]? = some x → (yW YM (aM, w2) mMo)[j]? = some z → x.1 ≠ z.1 := by
    intro i j x z hx hz ee
    have h1 := yW_k (Y := YX) (w := (aX, w2)) (μ := mXo) hx
    have h2 := yW_k (Y := YM) (w := (aM, w2)) (μ := mMo) hz
    exact nXM i j h1.1 h2.1 (h1.2.symm.trans (ee.trans h2.2))
  have DXM := va_D.app DX DM hXM
  refine lv_iconst (v := 1) C.1 C.2.1 d_law_16 (by decide) ?_
  refine va_newa (D := w2.1) (atype := .long) (ty := .long) (a0 := (1, .inr (.inl (fun _ => 0)))) C.1 C.2.1 (C.2.2.2.2.1 _ z_923) rfl C.2.2.2.2.2.1 (va_P.app hPX4 hPM) DXM hS4 (fun _ z => z) (fun _ => rfl) (by decide) rfl (by decide) (Nat.le_of_ble_eq_true rfl) (Nat.le_of_ble_eq_true rfl) d_law_17 (fun qo cA H5 k1 p5 d5 hS5 => ?_)
  have ec := g_arr C.2.2.2.2.2.1 (k := 1) rfl k1
  subst ec
  refine lv_astore_n (lv' := [(3, .ref qo), (2, .ref a2), (1, .ref a), (0, .ref b)]) C.1 C.2.1 d_law_19 rfl hl (by decide) rfl (fun ls hl => ?_)
  refine lv_iconst (v := 0) C.1 C.2.1 d_law_20 (by decide) ?_
  refine lv_istore (lv' := [(4, .int 0), (3, .ref qo), (2, .ref a2), (1, .ref a), (0, .ref b)]) C.1 C.2.1 d_law_21 hl (by decide) rfl (fun ls hl => ?_)
  obtain ⟨p6, p7⟩ := pj p5
  obtain ⟨p8, p9⟩ := pj p6
  obtain ⟨d6, d7⟩ := app_D d5
  have nm : ∀ z ∈ yW YX (aX, w2) mXo ++ yW YM (aM, w2) mMo, z.1 ≠ qo := fun z hz => by
    obtain ⟨k, hk⟩ := List.getElem?_of_mem hz
    exact d7 k z hk
  have D : lD s.heap.size aX aM qo := ⟨iX, iM, gX, gM, d6, nXM, fun i hi => nm _ (List.mem_append_left _ (List.mem_of_getElem? (yW_at (Y := YX) hi))), fun j hj => nm _ (List.mem_append_right _ (List.mem_of_getElem? (yW_at (Y := YM) hj)))⟩
  subst eX
  subst eM
  refine l_wide (cells' := 200 + 0) (slots' := 4000 + 6 * 0) (Nat.le_of_ble_eq_true rfl) (Nat.le_of_ble_eq_true rfl) (l_loop C D (E aX aM qo) (L + 1) 0 mXo mMo (fun _ => 0) (by omega) (by decide) ⟨N0, Rl_0⟩) H5 _ ls ?_ ⟨p8, p9, p7⟩ hS5
  exact lv_sub hl [4, 3, 2, 1, 0] rfl
end LC
