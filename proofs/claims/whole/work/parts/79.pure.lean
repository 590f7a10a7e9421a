/-! PURE 79: rows of growing worlds -/
theorem gD0 : ∀ k, k < 8 → defaultValue (yY0 k) = (if yRf 0 k = true then .null else .int 0) := by
  intro k hk
  match k, hk with
  | 0, _ => rfl
  | 1, _ => rfl
  | 2, _ => rfl
  | 3, _ => rfl
  | 4, _ => rfl
  | 5, _ => rfl
  | 6, _ => rfl
  | 7, _ => rfl
  | k + 8, hk => exact absurd hk (by omega)
theorem gD1 : ∀ k, k < 10 → defaultValue (yY1 k) = (if yRf 1 k = true then .null else .int 0) := by
  intro k hk
  match k, hk with
  | 0, _ => rfl
  | 1, _ => rfl
  | 2, _ => rfl
  | 3, _ => rfl
  | 4, _ => rfl
  | 5, _ => rfl
  | 6, _ => rfl
  | 7, _ => rfl
  | 8, _ => rfl
  | 9, _ => rfl
  | k + 10, hk => exact absurd hk (by omega)
theorem gD2 : ∀ k, k < 9 → defaultValue (yY2 k) = (if yRf 2 k = true then .null else .int 0) := by
  intro k hk
  match k, hk with
  | 0, _ => rfl
  | 1, _ => rfl
  | 2, _ => rfl
  | 3, _ => rfl
  | 4, _ => rfl
  | 5, _ => rfl
  | 6, _ => rfl
  | 7, _ => rfl
  | 8, _ => rfl
  | k + 9, hk => exact absurd hk (by omega)
theorem gD3 : ∀ k, k < 6 → defaultValue (yY3 k) = (if yRf 3 k = true then .null else .int 0) := by
  intro k hk
  match k, hk with
  | 0, _ => rfl
  | 1, _ => rfl
  | 2, _ => rfl
  | 3, _ => rfl
  | 4, _ => rfl
  | 5, _ => rfl
  | k + 6, hk => exact absurd hk (by omega)
theorem gD4 : ∀ k, k < 5 → defaultValue (yY4 k) = (if yRf 4 k = true then .null else .int 0) := by
  intro k hk
  match k, hk with
  | 0, _ => rfl
  | 1, _ => rfl
  | 2, _ => rfl
  | 3, _ => rfl
  | 4, _ => rfl
  | k + 5, hk => exact absurd hk (by omega)
theorem gD5 : ∀ k, k < 46 → defaultValue (yY5 k) = (if yRf 5 k = true then .null else .int 0) := by
  intro k hk
  match k, hk with
  | 0, _ => rfl
  | 1, _ => rfl
  | 2, _ => rfl
  | 3, _ => rfl
  | 4, _ => rfl
  | 5, _ => rfl
  | 6, _ => rfl
  | 7, _ => rfl
  | 8, _ => rfl
  | 9, _ => rfl
  | 10, _ => rfl
  | 11, _ => rfl
  | 12, _ => rfl
  | 13, _ => rfl
  | 14, _ => rfl
  | 15, _ => rfl
  | 16, _ => rfl
  | 17, _ => rfl
  | 18, _ => rfl
  | 19, _ => rfl
  | 20, _ => rfl
  | 21, _ => rfl
  | 22, _ => rfl
  | 23, _ => rfl
  | 24, _ => rfl
  | 25, _ => rfl
  | 26, _ => rfl
  | 27, _ => rfl
  | 28, _ => rfl
  | 29, _ => rfl
  | 30, _ => rfl
  | 31, _ => rfl
  | 32, _ => rfl
  | 33, _ => rfl
  | 34, _ => rfl
  | 35, _ => rfl
  | 36, _ => rfl
  | 37, _ => rfl
  | 38, _ => rfl
  | 39, _ => rfl
  | 40, _ => rfl
  | 41, _ => rfl
  | 42, _ => rfl
  | 43, _ => rfl
  | 44, _ => rfl
  | 45, _ => rfl
  | k + 46, hk => exact absurd hk (by omega)
theorem gTy {ci : Nat} {q : vw_C} (hc : yCl[ci]? = some q) : ∃ ty : Nat → FieldType, (∀ k, k < q.2.2 → parseFieldDescriptor (q.2.1 k).2.2.1 = some (ty k)) ∧ ∀ k, k < q.2.2 → defaultValue (ty k) = (if yRf ci k = true then .null else .int 0) := by
  match ci, hc with
  | 0, hc => cases hc; exact ⟨yY0, yO0, gD0⟩
  | 1, hc => cases hc; exact ⟨yY1, yO1, gD1⟩
  | 2, hc => cases hc; exact ⟨yY2, yO2, gD2⟩
  | 3, hc => cases hc; exact ⟨yY3, yO3, gD3⟩
  | 4, hc => cases hc; exact ⟨yY4, yO4, gD4⟩
  | 5, hc => cases hc; exact ⟨yY5, yO5, gD5⟩
  | n + 6, hc => simp at hc
section GR
variable {p : Program} {l : Launch} {e : Env} {R : Room} {s : State} {m : MethodId} {args : Array Value} {below : List Frame} {meth : Method} {c : Code} {H : Heap} {locs : List Loc} {cells slots : Nat} {Q : State → Prop}
variable {cc : ByteArray} {pc : Nat} {ls : Array Slot} {rest : List Value} {A : Nat → Prop} {H0 : Heap} {own : String} {index : Nat}
variable {kd ln : Nat → Nat} {n : Nat} {rf : Nat → Nat → Option Nat} {ad : Nat → Nat} {w2 : va_G × (Nat → ClassId)} {μ : Mm}
/-- what a constructor's walk stands on -/
def gC (p : Program) (s : State) (m : MethodId) (args : Array Value) (meth : Method) (c : Code) (w2 : va_G × (Nat → ClassId)) (cc : ByteArray) (own : String) (nL : Nat) : Prop :=
  p.tables.exec = Jvm.exec ∧ c.code = cc ∧ s.vm.findClass own = some m.cls ∧ (∀ w ∈ yGW, w.before args s = true) ∧ va_K w2.1 yCl (yTys (fun _ => 0, w2)) s ∧ yNs s ∧ meth.name = "<init>" ∧ (va_AO "WhoseGlass$Glass" s ∧ va_AO "WhoseGlass$Guest" s ∧ va_AO "WhoseGlass$Shelf" s) ∧ c.maxLocals = nL
theorem gfs {ci N : Nat} {Y : Sy} {w : WP} {id : Nat} (hN : N = yNf ci) : ∀ k, k < N → vp_V (yF Y w μ id ci N) k = yV Y w μ id ci k := fun k hk => by
  unfold vp_V
  rw [List.getD_eq_getElem?_getD, yF_at hk]
  rfl
theorem g_new {ci nL : Nat} {q : vw_C} (C : gC p s m args meth c w2 cc own nL) (hP : va_P w2.1 yCl (yW (n, kd, ln, rf) (ad, w2) μ) H) (hD : va_D A (yW (n, kd, ln, rf) (ad, w2) μ)) (hS : va_S A H0 H locs) (hA : ∀ q, H0.size ≤ q → A q) (hc : yCl[ci]? = some q) (hkd : kd n = ci) (hR : gR n rf) (hM : gM n μ)
    (hcl : Cond.classLink own index q.1 ∈ yGW) (hinst : Cond.instantiable q.1 q.2.2 ∈ yGW) (hini : Cond.initialized q.1 ∈ yGW) (hcells : cells + 1 ≤ R.cells) (hslots : slots + q.2.2 ≤ R.slots) (hdg : decode cc pc = .ok (.new index, 3))
    (kk : ∀ (ad' : Nat → Nat) (H1 : Heap), (∀ i, i < n → ad' i = ad i) → va_P w2.1 yCl (yW (n + 1, kd, ln, rf) (ad', w2) μ) H1 → va_D A (yW (n + 1, kd, ln, rf) (ad', w2) μ) → va_S A H0 H1 locs →
      W p l e R s m args below meth c H1 locs (cells + 1) (slots + q.2.2) Q (F0 m (pc + 3) ls (.ref (ad' n) :: rest))) : W p l e R s m args below meth c H locs cells slots Q (F0 m pc ls rest) := by
  obtain ⟨ty, t1, t2⟩ := gTy hc
  obtain ⟨d1, -, d3, d4, d5⟩ := yCls hc
  refine va_new (D := w2.1) (ci := ci) (fs := yF (n, kd, ln, rf) (ad, w2) μ n ci q.2.2) C.1 C.2.1 C.2.2.2.1 d1 ty t1 C.2.2.1 (C.2.2.2.1 _ hcl) (C.2.2.2.1 _ hinst) (C.2.2.2.1 _ hini) C.2.2.2.2.1 hP hD hS hA hc (fun j hj => ?_) hcells hslots hdg (fun a H1 g1 g2 g3 => ?_)
  · rw [gfs d4 j hj, t2 j hj]
    unfold yV
    by_cases c1 : yRf ci j = true
    · rw [if_pos c1, if_pos c1]
      by_cases c2 : ci = 5 ∧ j = 29
      · rw [if_pos c2, hM.2.2]; rfl
      · rw [if_neg c2]
        show Value.null = va_rf ((rf n j).map ad)
        rw [hR.2 n j (Nat.le_refl _)]
        rfl
    · rw [if_neg c1, if_neg c1, hM.1 n j (Nat.le_refl _)]
  · obtain ⟨ad', ha, hn⟩ : ∃ ad' : Nat → Nat, (∀ i, i < n → ad' i = ad i) ∧ ad' n = a := ⟨fun i => if i = n then a else ad i, fun i hi => if_neg (by omega), if_pos rfl⟩
    have e1 : yC (n + 1, kd, ln, rf) (ad', w2) μ n = .inr (ci, yF (n, kd, ln, rf) (ad, w2) μ n ci q.2.2) := by
      rw [yC_ad (n2 := n) hR hM.2.2 ha, yC_c hkd d5, d4]
    have e2 := yW_grow (kd := kd) (ln := ln) (w2 := w2) hR hM.2.2 ha
    rw [hn, e1] at e2
    rw [e2] at g1 g2
    have := kk _ H1 ha g1 g2 g3
    rw [hn] at this
    exact this
theorem g_arr {cA : ClassId} {ty : FieldType} {k : Nat} {cB : ClassId} {tys : List (ClassId × FieldType)} (hK : va_K w2.1 yCl tys s) (h1 : tys[k]? = some (cA, ty)) (h2 : va_K w2.1 yCl (tys ++ [(cB, ty)]) s) : cB = cA := by
  have a1 := (hK.2 k _ h1).2
  have a2 := (h2.2 tys.length (cB, ty) (by rw [List.getElem?_append_right (Nat.le_refl _), Nat.sub_self]; rfl)).2
  have fc : ∀ {cX : ClassId}, va_RA s cX ty → s.vm.findClass ("[" ++ ty.toString) = some cX := by
    intro cX h
    cases ty with
    | object C =>
      obtain ⟨_, _, -, -, -, h4⟩ := h
      exact h4
    | _ => exact h
  have := (fc a2).symm.trans (fc a1)
  exact Option.some.inj this
theorem g_pushA {a : Nat} {en : va_E} {H1 : Heap} (hR : gR n rf) (hM : μ.2.2 = none) (he : ∀ ad', (∀ i, i < n → ad' i = ad i) → yC (n + 1, kd, ln, rf) (ad', w2) μ n = en) (g1 : va_P w2.1 yCl (yW (n, kd, ln, rf) (ad, w2) μ ++ [(a, en)]) H1) (g2 : va_D A (yW (n, kd, ln, rf) (ad, w2) μ ++ [(a, en)])) : ∃ ad', (∀ i, i < n → ad' i = ad i) ∧ ad' n = a ∧ va_P w2.1 yCl (yW (n + 1, kd, ln, rf) (ad', w2) μ) H1 ∧ va_D A (yW (n + 1, kd, ln, rf) (ad', w2) μ) := by
  obtain ⟨ad', ha, hn⟩ : ∃ ad' : Nat → Nat, (∀ i, i < n → ad' i = ad i) ∧ ad' n = a := ⟨fun i => if i = n then a else ad i, fun i hi => if_neg (by omega), if_pos rfl⟩
  have e2 := yW_grow (kd := kd) (ln := ln) (w2 := w2) hR hM ha
  rw [hn, he _ ha] at e2
  rw [e2] at g1 g2
  exact ⟨_, ha, hn, g1, g2⟩
theorem g_newi {N nL : Nat} {nn : Int32} (C : gC p s m args meth c w2 cc own nL) (hP : va_P w2.1 yCl (yW (n, kd, ln, rf) (ad, w2) μ) H) (hD : va_D A (yW (n, kd, ln, rf) (ad, w2) μ)) (hS : va_S A H0 H locs) (hA : ∀ q, H0.size ≤ q → A q) (hkd : kd n = 6) (hln : ln n = N) (hR : gR n rf) (hM : gM n μ) (harr : Cond.arrayClass .int ∈ yGW)
    (hn : ¬ nn < 0) (hN : nn.toNatClampNeg = N) (hby : N * 4 ≤ 536870912) (hcells : cells + 1 ≤ R.cells) (hslots : slots + N ≤ R.slots) (hdg : decode cc pc = .ok (.newarray .int, 2))
    (kk : ∀ (ad' : Nat → Nat) (H1 : Heap), (∀ i, i < n → ad' i = ad i) → va_P w2.1 yCl (yW (n + 1, kd, ln, rf) (ad', w2) μ) H1 → va_D A (yW (n + 1, kd, ln, rf) (ad', w2) μ) → va_S A H0 H1 locs →
      W p l e R s m args below meth c H1 locs (cells + 1) (slots + N) Q (F0 m (pc + 2) ls (.ref (ad' n) :: rest))) : W p l e R s m args below meth c H locs cells slots Q (F0 m pc ls (.int nn :: rest)) := by
  refine va_newa (D := w2.1) (atype := .int) (ty := .int) (a0 := (N, .inl (fun _ => 0))) C.1 C.2.1 (C.2.2.2.1 _ harr) rfl C.2.2.2.2.1 hP hD hS hA (fun _ => rfl) hn hN hby hcells hslots hdg (fun a cA H1 k1 g1 g2 g3 => ?_)
  have ec := g_arr C.2.2.2.2.1 (k := 0) rfl k1
  subst ec
  have em : μ.1 n = fun _ => 0 := funext fun k => hM.1 n k (Nat.le_refl _)
  obtain ⟨ad', h1, h2, h3, h4⟩ := g_pushA hR hM.2.2 (fun ad' ha => by rw [yC_6 (Y := (n + 1, kd, ln, rf)) hkd, em]; show Sum.inl (w2.2 0, ln n, Sum.inl (fun _ => 0)) = _; rw [hln]) g1 g2
  rw [← h2]
  exact kk ad' H1 h1 h3 h4 g3
theorem g_newl {N nL : Nat} {nn : Int32} (C : gC p s m args meth c w2 cc own nL) (hP : va_P w2.1 yCl (yW (n, kd, ln, rf) (ad, w2) μ) H) (hD : va_D A (yW (n, kd, ln, rf) (ad, w2) μ)) (hS : va_S A H0 H locs) (hA : ∀ q, H0.size ≤ q → A q) (hkd : kd n = 7) (hln : ln n = N) (hR : gR n rf) (hM : gM n μ) (harr : Cond.arrayClass .long ∈ yGW)
    (hn : ¬ nn < 0) (hN : nn.toNatClampNeg = N) (hby : N * 8 ≤ 536870912) (hcells : cells + 1 ≤ R.cells) (hslots : slots + N ≤ R.slots) (hdg : decode cc pc = .ok (.newarray .long, 2))
    (kk : ∀ (ad' : Nat → Nat) (H1 : Heap), (∀ i, i < n → ad' i = ad i) → va_P w2.1 yCl (yW (n + 1, kd, ln, rf) (ad', w2) μ) H1 → va_D A (yW (n + 1, kd, ln, rf) (ad', w2) μ) → va_S A H0 H1 locs →
      W p l e R s m args below meth c H1 locs (cells + 1) (slots + N) Q (F0 m (pc + 2) ls (.ref (ad' n) :: rest))) : W p l e R s m args below meth c H locs cells slots Q (F0 m pc ls (.int nn :: rest)) := by
  refine va_newa (D := w2.1) (atype := .long) (ty := .long) (a0 := (N, .inr (.inl (fun _ => 0)))) C.1 C.2.1 (C.2.2.2.1 _ harr) rfl C.2.2.2.2.1 hP hD hS hA (fun _ => rfl) hn hN hby hcells hslots hdg (fun a cA H1 k1 g1 g2 g3 => ?_)
  have ec := g_arr C.2.2.2.2.1 (k := 1) rfl k1
  subst ec
  have em : μ.2.1 n = fun _ => 0 := funext fun k => hM.2.1 n k (Nat.le_refl _)
  obtain ⟨ad', h1, h2, h3, h4⟩ := g_pushA hR hM.2.2 (fun ad' ha => by rw [yC_7 (Y := (n + 1, kd, ln, rf)) hkd, em]; show Sum.inl (w2.2 1, ln n, Sum.inr (Sum.inl (fun _ => 0))) = _; rw [hln]) g1 g2
  rw [← h2]
  exact kk ad' H1 h1 h3 h4 g3
theorem g_newr {N nL ki : Nat} {nn : Int32} {cn : String} (C : gC p s m args meth c w2 cc own nL) (hP : va_P w2.1 yCl (yW (n, kd, ln, rf) (ad, w2) μ) H) (hD : va_D A (yW (n, kd, ln, rf) (ad, w2) μ)) (hS : va_S A H0 H locs) (hA : ∀ q, H0.size ≤ q → A q) (hkd : kd n = ki + 8) (hln : ln n = N) (hR : gR n rf) (hM : gM n μ) (hty : (yTys (fun _ => 0, w2))[ki + 2]? = some (w2.2 (ki + 2), .object cn)) (hcl : Cond.classLink own index cn ∈ yGW) (hover : va_AO cn s)
    (hn : ¬ nn < 0) (hN : nn.toNatClampNeg = N) (hby : N * 4 ≤ 536870912) (hcells : cells + 1 ≤ R.cells) (hslots : slots + N ≤ R.slots) (hdg : decode cc pc = .ok (.anewarray index, 3))
    (kk : ∀ (ad' : Nat → Nat) (H1 : Heap), (∀ i, i < n → ad' i = ad i) → va_P w2.1 yCl (yW (n + 1, kd, ln, rf) (ad', w2) μ) H1 → va_D A (yW (n + 1, kd, ln, rf) (ad', w2) μ) → va_S A H0 H1 locs →
      W p l e R s m args below meth c H1 locs (cells + 1) (slots + N) Q (F0 m (pc + 3) ls (.ref (ad' n) :: rest))) : W p l e R s m args below meth c H locs cells slots Q (F0 m pc ls (.int nn :: rest)) := by
  refine va_newq (D := w2.1) (C := cn) C.1 C.2.1 C.2.2.1 (C.2.2.2.1 _ hcl) hover C.2.2.2.2.1 hP hD hS hA hn hN hby hcells hslots hdg (fun a cA H1 k1 g1 g2 g3 => ?_)
  have ec := g_arr C.2.2.2.2.1 (k := ki + 2) hty k1
  subst ec
  obtain ⟨ad', h1, h2, h3, h4⟩ := g_pushA hR hM.2.2 (fun ad' ha => by
    rw [yC_8 (Y := (n + 1, kd, ln, rf)) hkd]
    have em : (fun j => (rf n j).map ad') = fun _ => none := funext fun j => by rw [hR.2 n j (Nat.le_refl _)]; rfl
    show Sum.inl (w2.2 (ki + 2), ln n, Sum.inr (Sum.inr (Sum.inr (Sum.inr (fun j => (rf n j).map ad'))))) = _
    rw [em, hln]) g1 g2
  rw [← h2]
  exact kk ad' H1 h1 h3 h4 g3
theorem g_putr {ci nL id k t : Nat} {q : vw_C} {ty : FieldType} (C : gC p s m args meth c w2 cc own nL) (hP : va_P w2.1 yCl (yW (n, kd, ln, rf) (ad, w2) μ) H) (hD : va_D A (yW (n, kd, ln, rf) (ad, w2) μ)) (hS : va_S A H0 H locs) (hid : id < n) (hkd : kd id = ci) (hc : yCl[ci]? = some q) (hk : k < q.2.2) (hrf : yRf ci k = true) (h29 : ¬ (ci = 5 ∧ k = 29)) (hl : Cond.fieldLink own index (q.2.1 k).1 (q.2.1 k).2.1 (q.2.1 k).2.2.1 ∈ yGW) (hfin : (q.2.1 k).2.2.2 = true) (hdecl : (q.2.1 k).1 = own) (hd : parseFieldDescriptor (q.2.1 k).2.2.1 = some ty) (hnr : ∀ a : Nat, narrow ty (.ref a) = .ref a) (hfit : ∀ a : Nat, fits ty (.ref a) = true) (hdg : decode cc pc = .ok (.putfield index, 3))
    (kk : ∀ (H1 : Heap) (locs1 : List Loc), va_P w2.1 yCl (yW (n, kd, ln, rup rf id k t) (ad, w2) μ) H1 → va_D A (yW (n, kd, ln, rup rf id k t) (ad, w2) μ) → va_S A H0 H1 locs1 → W p l e R s m args below meth c H1 locs1 cells slots Q (F0 m (pc + 3) ls rest)) : W p l e R s m args below meth c H locs cells slots Q (F0 m pc ls (.ref (ad t) :: .ref (ad id) :: rest)) := by
  obtain ⟨d1, ⟨ty0, d2⟩, d3, d4, d5⟩ := yCls hc
  have he : (yW (n, kd, ln, rf) (ad, w2) μ)[id]? = some (ad id, .inr (ci, yF (n, kd, ln, rf) (ad, w2) μ id ci (yNf ci))) := by rw [yW_at (show id < ((n, kd, ln, rf) : Sy).1 from hid), yC_c hkd d5]
  refine va_putF (D := w2.1) (ci := ci) C.1 C.2.1 C.2.2.2.1 d1 ty0 d2 d3 C.2.2.1 C.2.2.2.2.1 hP hD hS id he hc k hk (C.2.2.2.1 _ hl) (fun _ z => z) hfin C.2.2.2.2.2.2.1 hdecl hd (hnr _) (hfit _) (by rw [yF_len, ← d4]; exact hk) hdg (fun H1 locs1 g1 g2 g3 => ?_)
  have e1 := yV_rup (kd := kd) (ln := ln) (n := n) (rf := rf) (ad := ad) (w2 := w2) (μ := μ) (id := id) (t := t) hrf h29
  rw [e1, yW_ref (rf' := rup rf id k t) hid (fun a b hab => by unfold rup; rw [if_neg (fun z => hab z.1)]) (by rw [yC_c hkd d5])] at g1 g2
  exact kk H1 locs1 g1 g2 g3
theorem g_puti {ci nL id k : Nat} {q : vw_C} {v : Int32} (C : gC p s m args meth c w2 cc own nL) (hP : va_P w2.1 yCl (yW (n, kd, ln, rf) (ad, w2) μ) H) (hD : va_D A (yW (n, kd, ln, rf) (ad, w2) μ)) (hS : va_S A H0 H locs) (hid : id < n) (hkd : kd id = ci) (hc : yCl[ci]? = some q) (hk : k < q.2.2) (hf : yRf ci k = false) (hl : Cond.fieldLink own index (q.2.1 k).1 (q.2.1 k).2.1 (q.2.1 k).2.2.1 ∈ yGW) (hfin : (q.2.1 k).2.2.2 = false) (hd : parseFieldDescriptor (q.2.1 k).2.2.1 = some .int) (hdg : decode cc pc = .ok (.putfield index, 3))
    (kk : ∀ (H1 : Heap) (locs1 : List Loc), va_P w2.1 yCl (yW (n, kd, ln, rf) (ad, w2) (y2 μ.1 id k v, μ.2.1, μ.2.2)) H1 → va_D A (yW (n, kd, ln, rf) (ad, w2) (y2 μ.1 id k v, μ.2.1, μ.2.2)) → va_S A H0 H1 locs1 → W p l e R s m args below meth c H1 locs1 cells slots Q (F0 m (pc + 3) ls rest)) : W p l e R s m args below meth c H locs cells slots Q (F0 m pc ls (.int v :: .ref (ad id) :: rest)) := by
  obtain ⟨d1, ⟨ty0, d2⟩, d3, d4, d5⟩ := yCls hc
  have he : (yW (n, kd, ln, rf) (ad, w2) μ)[id]? = some (ad id, .inr (ci, yF (n, kd, ln, rf) (ad, w2) μ id ci q.2.2)) := by rw [yW_at (show id < ((n, kd, ln, rf) : Sy).1 from hid), yC_c hkd d5, d4]
  refine va_put (D := w2.1) (ci := ci) C.1 C.2.1 C.2.2.2.1 d1 ty0 d2 d3 C.2.2.1 C.2.2.2.2.1 hP hD hS id he hc k hk (C.2.2.2.1 _ hl) (fun _ z => z) hfin hd rfl rfl (by rw [yF_len]; exact hk) hdg (fun H1 locs1 g1 g2 g3 => ?_)
  have e2 := yW_set (Y := (n, kd, ln, rf)) (w := (ad, w2)) (μ := μ) (μ' := (y2 μ.1 id k v, μ.2.1, μ.2.2)) (id := id) (e := .inr (ci, yF (n, kd, ln, rf) (ad, w2) (y2 μ.1 id k v, μ.2.1, μ.2.2) id ci q.2.2)) hid (by rw [yC_c hkd d5, d4]) (fun x hx => yC_o hx)
  rw [yV_y2 hf, e2] at g1 g2
  exact kk H1 locs1 g1 g2 g3
theorem g_getr {ci nL id k t : Nat} {q : vw_C} (C : gC p s m args meth c w2 cc own nL) (hP : va_P w2.1 yCl (yW (n, kd, ln, rf) (ad, w2) μ) H) (hid : id < n) (hkd : kd id = ci) (hc : yCl[ci]? = some q) (hk : k < q.2.2) (hrf : yRf ci k = true) (h29 : ¬ (ci = 5 ∧ k = 29)) (ht : rf id k = some t) (hl : Cond.fieldLink own index (q.2.1 k).1 (q.2.1 k).2.1 (q.2.1 k).2.2.1 ∈ yGW) (hdg : decode cc pc = .ok (.getfield index, 3))
    (kk : W p l e R s m args below meth c H locs cells slots Q (F0 m (pc + 3) ls (.ref (ad t) :: rest))) : W p l e R s m args below meth c H locs cells slots Q (F0 m pc ls (.ref (ad id) :: rest)) := by
  obtain ⟨d1, -, d3, d4, d5⟩ := yCls hc
  have he : (yW (n, kd, ln, rf) (ad, w2) μ)[id]? = some (ad id, .inr (ci, yF (n, kd, ln, rf) (ad, w2) μ id ci q.2.2)) := by rw [yW_at (show id < ((n, kd, ln, rf) : Sy).1 from hid), yC_c hkd d5, d4]
  refine va_get (D := w2.1) (ci := ci) (v := .ref (ad t)) C.1 C.2.1 C.2.2.2.1 d1 C.2.2.1 C.2.2.2.2.1 hP id he hc k hk (C.2.2.2.1 _ hl) (fun _ z => z) ?_ hdg kk
  rw [yF_at hk]
  unfold yV
  rw [if_pos hrf, if_neg h29]
  show some (va_rf ((rf id k).map ad)) = _
  rw [ht]
  rfl
theorem g_asr {ci nL id ki i t : Nat} {q : vw_C} (C : gC p s m args meth c w2 cc own nL) (hP : va_P w2.1 yCl (yW (n, kd, ln, rf) (ad, w2) μ) H) (hD : va_D A (yW (n, kd, ln, rf) (ad, w2) μ)) (hS : va_S A H0 H locs) (hid : id < n) (hkd : kd id = ki + 8) (hty : (yTys (fun _ => 0, w2))[ki + 2]? = some (w2.2 (ki + 2), .object q.1)) (htn : t < n) (hkt : kd t = ci) (hc : yCl[ci]? = some q) (hi : i < ln id) (hi2 : ln id < 2 ^ 31) (hdg : decode cc pc = .ok (.aastore, 1))
    (kk : ∀ (H1 : Heap) (locs1 : List Loc), va_P w2.1 yCl (yW (n, kd, ln, rup rf id i t) (ad, w2) μ) H1 → va_D A (yW (n, kd, ln, rup rf id i t) (ad, w2) μ) → va_S A H0 H1 locs1 → W p l e R s m args below meth c H1 locs1 cells slots Q (F0 m (pc + 1) ls rest)) : W p l e R s m args below meth c H locs cells slots Q (F0 m pc ls (.ref (ad t) :: .int (nI i) :: .ref (ad id) :: rest)) := by
  obtain ⟨d1, -, d3, d4, d5⟩ := yCls hc
  have hA : (yW (n, kd, ln, rf) (ad, w2) μ)[id]? = some (ad id, .inl (w2.2 (ki + 2), ln id, .inr (.inr (.inr (.inr (fun j => (rf id j).map ad)))))) := by rw [yW_at (show id < ((n, kd, ln, rf) : Sy).1 from hid), yC_8 (Y := (n, kd, ln, rf)) hkd]
  have hV : (yW (n, kd, ln, rf) (ad, w2) μ)[t]? = some (ad t, .inr (ci, yF (n, kd, ln, rf) (ad, w2) μ t ci (yNf ci))) := by rw [yW_at (show t < ((n, kd, ln, rf) : Sy).1 from htn), yC_c hkt d5]
  refine va_astq (D := w2.1) C.1 C.2.1 C.2.2.2.2.1 hP hD hS id (ki + 2) t ci hA hty hV hc (fun z => z.elim (fun z => nI_pos (by omega) z) (fun z => by rw [nI_clamp (by omega)] at z; omega)) hdg (fun H1 locs1 g1 g2 g3 => ?_)
  rw [nI_clamp (by omega), yW_ref (rf' := rup rf id i t) hid (fun a b hab => by unfold rup; rw [if_neg (fun z => hab z.1)]) (by
    rw [yC_8 (Y := (n, kd, ln, rup rf id i t)) hkd]
    refine congrArg (fun z => Sum.inl (w2.2 (ki + 2), ln id, Sum.inr (Sum.inr (Sum.inr (Sum.inr z))))) (funext fun j => ?_)
    show (rup rf id i t id j).map ad = va_up (fun j => (rf id j).map ad) i (some (ad t)) j
    unfold rup va_up
    by_cases q : j = i
    · rw [if_pos ⟨rfl, q⟩, if_pos q]; rfl
    · rw [if_neg (fun z => q z.2), if_neg q])] at g1 g2
  exact kk H1 locs1 g1 g2 g3
end GR
