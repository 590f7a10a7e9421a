/-! PURE 78: growing worlds: the same cells; a cell more; a reference more -/
theorem arrV_cg {cA : ClassId} {N : Nat} {f g : Nat → Value} (h : ∀ j, j < N → f j = g j) : arrV cA N f = arrV cA N g := by
  unfold arrV
  have e : (fun j : Fin N => f j.val) = fun j : Fin N => g j.val := funext fun j => h j.val j.isLt
  rw [e]
def yLn (Y : Sy) (id : Nat) : Nat := if Y.2.1 id < 6 then yNf (Y.2.1 id) else Y.2.2.1 id
theorem yIr_h {a k : Nat} (h : ¬ (a = 5 ∧ k = 29)) : (!(decide (a = 5) && decide (k = 29))) = true := by
  by_cases c : a = 5
  · rw [decide_eq_true c, decide_eq_false (fun z => h ⟨c, z⟩)]; rfl
  · rw [decide_eq_false c]; rfl
def yIr (Y : Sy) (id k : Nat) : Bool := if Y.2.1 id < 6 then (yRf (Y.2.1 id) k && !(decide (Y.2.1 id = 5) && decide (k = 29))) else decide (8 ≤ Y.2.1 id)
theorem yV_cg2 {Y Y' : Sy} {w : WP} {μ μ' : Mm} {id ci k : Nat} (hr : yRf ci k = true → ¬ (ci = 5 ∧ k = 29) → Y'.2.2.2 id k = Y.2.2.2 id k) (h1 : μ'.1 id k = μ.1 id k) (h3 : μ'.2.2 = μ.2.2) : yV Y' w μ' id ci k = yV Y w μ id ci k := by
  unfold yV
  by_cases c : yRf ci k = true
  · rw [if_pos c, if_pos c]
    by_cases c2 : ci = 5 ∧ k = 29
    · rw [if_pos c2, if_pos c2, h3]
    · rw [if_neg c2, if_neg c2, hr c c2]
  · rw [if_neg c, if_neg c, h1]
theorem yV_cg {Y Y' : Sy} {w : WP} {μ μ' : Mm} {id ci k : Nat} (hr : Y'.2.2.2 id k = Y.2.2.2 id k) (h1 : μ'.1 id k = μ.1 id k) (h3 : μ'.2.2 = μ.2.2) : yV Y' w μ' id ci k = yV Y w μ id ci k := yV_cg2 (fun _ _ => hr) h1 h3
theorem yF_cg {Y Y' : Sy} {w : WP} {μ μ' : Mm} {id ci n : Nat} (h : ∀ k, k < n → yV Y' w μ' id ci k = yV Y w μ id ci k) : yF Y' w μ' id ci n = yF Y w μ id ci n := by
  unfold yF
  exact List.map_congr_left (fun k hk => h k (List.mem_range.mp hk))
/-- the same cells, as far as they reach -/
theorem yP_cg {Y Y' : Sy} {w : WP} {μ μ' : Mm} {H : Heap} (hn : Y'.1 = Y.1) (hk : ∀ id, id < Y.1 → Y'.2.1 id = Y.2.1 id) (hl : ∀ id, id < Y.1 → Y'.2.2.1 id = Y.2.2.1 id) (hr : ∀ id k, id < Y.1 → k < yLn Y id → yIr Y id k = true → Y'.2.2.2 id k = Y.2.2.2 id k) (h1 : ∀ id k, id < Y.1 → k < yLn Y id → μ'.1 id k = μ.1 id k) (h2 : ∀ id k, id < Y.1 → k < yLn Y id → μ'.2.1 id k = μ.2.1 id k) (h3 : μ'.2.2 = μ.2.2) (h : va_P w.2.1 yCl (yW Y w μ) H) : va_P w.2.1 yCl (yW Y' w μ') H := by
  intro id q hq
  have hlt : id < Y.1 := by
    have := (List.getElem?_eq_some_iff.mp hq).1
    rw [← hn]
    simpa [yW] using this
  rw [yW_at (by rw [hn]; exact hlt)] at hq
  cases hq
  have h0 := h id _ (yW_at hlt)
  have ek := hk id hlt
  have el := hl id hlt
  by_cases c : Y.2.1 id < 6
  · have e : yC Y' w μ' id = yC Y w μ id := by
      rw [yC_c ek c, yC_c rfl c]
      rw [yF_cg (fun k hk => yV_cg2 (fun hrf h29 => hr id k hlt (by unfold yLn; rw [if_pos c]; exact hk) (by unfold yIr; rw [if_pos c, hrf, Bool.true_and]; exact yIr_h h29)) (h1 id k hlt (by unfold yLn; rw [if_pos c]; exact hk)) h3)]
    rw [e]
    exact h0
  · have ln : ∀ {k : Nat}, k < Y.2.2.1 id → k < yLn Y id := fun hk => by unfold yLn; rw [if_neg c]; exact hk
    by_cases c6 : Y.2.1 id = 6
    · rw [yC_6 (ek.trans c6)]
      rw [yC_6 c6] at h0
      have h0 : H[w.1 id]? = some (vp_cell (w.2.2 0) (Y.2.2.1 id, .inl (μ.1 id))) := h0
      show H[w.1 id]? = some (vp_cell (w.2.2 0) (Y'.2.2.1 id, .inl (μ'.1 id)))
      rw [h0, el]
      exact congrArg some (arrV_cg (fun j hj => congrArg Value.int (h1 id j hlt (ln hj)).symm))
    · by_cases c7 : Y.2.1 id = 7
      · rw [yC_7 (ek.trans c7)]
        rw [yC_7 c7] at h0
        have h0 : H[w.1 id]? = some (vp_cell (w.2.2 1) (Y.2.2.1 id, .inr (.inl (μ.2.1 id)))) := h0
        show H[w.1 id]? = some (vp_cell (w.2.2 1) (Y'.2.2.1 id, .inr (.inl (μ'.2.1 id))))
        rw [h0, el]
        exact congrArg some (arrV_cg (fun j hj => congrArg Value.long (h2 id j hlt (ln hj)).symm))
      · obtain ⟨ki, hki⟩ : ∃ ki, Y.2.1 id = ki + 8 := ⟨Y.2.1 id - 8, by omega⟩
        rw [yC_8 (ek.trans hki)]
        rw [yC_8 hki] at h0
        have h0 : H[w.1 id]? = some (vp_cell (w.2.2 (ki + 2)) (Y.2.2.1 id, .inr (.inr (.inr (.inr (fun j => (Y.2.2.2 id j).map w.1)))))) := h0
        show H[w.1 id]? = some (vp_cell (w.2.2 (ki + 2)) (Y'.2.2.1 id, .inr (.inr (.inr (.inr (fun j => (Y'.2.2.2 id j).map w.1))))))
        rw [h0, el]
        refine congrArg some ?_
        show arrV (w.2.2 (ki + 2)) (Y.2.2.1 id) (fun j => va_rf ((Y.2.2.2 id j).map w.1)) = arrV (w.2.2 (ki + 2)) (Y.2.2.1 id) (fun j => va_rf ((Y'.2.2.2 id j).map w.1))
        refine arrV_cg (fun j hj => ?_)
        rw [hr id j hlt (ln hj) (by unfold yIr; rw [if_neg c]; exact decide_eq_true (by omega))]
theorem yD_cg {A : Nat → Prop} {Y Y' : Sy} {w : WP} {μ μ' : Mm} (hn : Y'.1 = Y.1) (h : va_D A (yW Y w μ)) : va_D A (yW Y' w μ') := by
  have key : ∀ (k : Nat) (q : Nat × va_E), (yW Y' w μ')[k]? = some q → k < Y.1 ∧ q.1 = w.1 k := by
    intro k q hq
    have hk : k < Y'.1 := by
      have := (List.getElem?_eq_some_iff.mp hq).1
      simpa [yW] using this
    rw [yW_at hk] at hq
    cases hq
    exact ⟨by rw [← hn]; exact hk, rfl⟩
  refine ⟨fun i j p q hp hq hpq => ?_, fun k q hq => ?_⟩
  · obtain ⟨i1, i2⟩ := key i p hp
    obtain ⟨j1, j2⟩ := key j q hq
    exact h.1 i j _ _ (yW_at i1) (yW_at j1) (by show w.1 i = w.1 j; rw [← i2, ← j2, hpq])
  · obtain ⟨i1, i2⟩ := key k q hq
    rw [i2]
    exact h.2 k _ (yW_at i1)
/-- references lie below, and beyond there is nothing -/
def gR (n : Nat) (rf : Nat → Nat → Option Nat) : Prop := (∀ id k t, rf id k = some t → t < n) ∧ ∀ id k, n ≤ id → rf id k = none
def gM (n : Nat) (μ : Mm) : Prop := (∀ id k, n ≤ id → μ.1 id k = 0) ∧ (∀ id k, n ≤ id → μ.2.1 id k = 0) ∧ μ.2.2 = none
theorem gR.up {n : Nat} {rf : Nat → Nat → Option Nat} (h : gR n rf) : gR (n + 1) rf := ⟨fun id k t e => Nat.lt_succ_of_lt (h.1 id k t e), fun id k hq => h.2 id k (by omega)⟩
theorem gM.up {n : Nat} {μ : Mm} (h : gM n μ) : gM (n + 1) μ := ⟨fun id k hq => h.1 id k (by omega), fun id k hq => h.2.1 id k (by omega), h.2.2⟩
def rup (rf : Nat → Nat → Option Nat) (id k t : Nat) : Nat → Nat → Option Nat := fun a b => if a = id ∧ b = k then some t else rf a b
theorem gR_put {n : Nat} {rf : Nat → Nat → Option Nat} {id k t : Nat} (h : gR n rf) (hid : id < n) (ht : t < n) : gR n (rup rf id k t) := by
  refine ⟨fun a b x e => ?_, fun a b hq => ?_⟩
  · unfold rup at e
    by_cases c : a = id ∧ b = k
    · rw [if_pos c] at e; cases e; exact ht
    · rw [if_neg c] at e; exact h.1 a b x e
  · unfold rup
    rw [if_neg (by omega)]
    exact h.2 a b hq
theorem gM_put {n id k : Nat} {μ : Mm} {v : Int32} (h : gM n μ) (hid : id < n) : gM n (y2 μ.1 id k v, μ.2.1, μ.2.2) := by
  refine ⟨fun a b hq => ?_, h.2.1, h.2.2⟩
  show y2 μ.1 id k v a b = 0
  rw [y2_i _ _ (by omega)]
  exact h.1 a b hq
section GW
variable {kd ln : Nat → Nat} {n : Nat} {rf : Nat → Nat → Option Nat} {ad ad' : Nat → Nat} {w2 : va_G × (Nat → ClassId)} {μ : Mm}
theorem yC_ad {id : Nat} (hR : gR n rf) (hM : μ.2.2 = none) (ha : ∀ i, i < n → ad' i = ad i) {n1 n2 : Nat} : yC (n1, kd, ln, rf) (ad', w2) μ id = yC (n2, kd, ln, rf) (ad, w2) μ id := by
  have e : ∀ j, (rf id j).map ad' = (rf id j).map ad := fun j => by
    cases h : rf id j with
    | none => rfl
    | some t => exact congrArg some (ha t (hR.1 id j t h))
  have eV : ∀ ci k, yV (n1, kd, ln, rf) (ad', w2) μ id ci k = yV (n2, kd, ln, rf) (ad, w2) μ id ci k := by
    intro ci k
    unfold yV
    by_cases c1 : yRf ci k = true
    · rw [if_pos c1, if_pos c1]
      by_cases c2 : ci = 5 ∧ k = 29
      · rw [if_pos c2, hM]; rfl
      · rw [if_neg c2]
        show va_rf ((rf id k).map ad') = va_rf ((rf id k).map ad)
        rw [e k]
    · rw [if_neg c1, if_neg c1]
  have eF : ∀ ci N, yF (n1, kd, ln, rf) (ad', w2) μ id ci N = yF (n2, kd, ln, rf) (ad, w2) μ id ci N := by
    intro ci N
    unfold yF
    exact List.map_congr_left (fun k _ => eV ci k)
  have eA : (fun j => (rf id j).map ad') = fun j => (rf id j).map ad := funext e
  unfold yC
  dsimp only
  rw [eF, eA]
theorem yW_grow (hR : gR n rf) (hM : μ.2.2 = none) (ha : ∀ i, i < n → ad' i = ad i) : yW (n, kd, ln, rf) (ad, w2) μ ++ [(ad' n, yC (n + 1, kd, ln, rf) (ad', w2) μ n)] = yW (n + 1, kd, ln, rf) (ad', w2) μ := by
  unfold yW
  dsimp only
  rw [List.range_succ, List.map_append]
  congr 1
  refine List.map_congr_left (fun k hk => ?_)
  rw [ha k (List.mem_range.mp hk), yC_ad (n1 := n + 1) (n2 := n) hR hM ha]
theorem yW_ref {id : Nat} {rf' : Nat → Nat → Option Nat} {e : va_E} (hid : id < n) (ho : ∀ a b, a ≠ id → rf' a b = rf a b) (he : yC (n, kd, ln, rf') (ad, w2) μ id = e) : (yW (n, kd, ln, rf) (ad, w2) μ).set id (ad id, e) = yW (n, kd, ln, rf') (ad, w2) μ := by
  have hlen : ∀ r, (yW (n, kd, ln, r) (ad, w2) μ).length = n := fun r => yW_len
  apply List.ext_getElem?
  intro k
  by_cases hk : k = id
  · subst hk
    rw [List.getElem?_set_self (by rw [hlen]; exact hid), yW_at (show k < ((n, kd, ln, rf') : Sy).1 from hid), he]
  · rw [List.getElem?_set_ne (Ne.symm hk)]
    by_cases h2 : k < n
    · rw [yW_at (show k < ((n, kd, ln, rf) : Sy).1 from h2), yW_at (show k < ((n, kd, ln, rf') : Sy).1 from h2)]
      have e1 : ∀ j, rf' k j = rf k j := fun j => ho k j hk
      have eV : ∀ ci j, yV (n, kd, ln, rf') (ad, w2) μ k ci j = yV (n, kd, ln, rf) (ad, w2) μ k ci j := fun ci j => yV_cg (e1 j) rfl rfl
      have eF : ∀ ci N, yF (n, kd, ln, rf') (ad, w2) μ k ci N = yF (n, kd, ln, rf) (ad, w2) μ k ci N := fun ci N => yF_cg (fun j _ => eV ci j)
      have eA : (fun j => (rf' k j).map ad) = fun j => (rf k j).map ad := funext fun j => by rw [e1 j]
      refine congrArg some (congrArg (Prod.mk (ad k)) ?_)
      unfold yC
      dsimp only
      rw [eF, eA]
    · rw [List.getElem?_eq_none (by rw [hlen]; omega), List.getElem?_eq_none (by rw [hlen]; omega)]
theorem yV_rup {id k t ci : Nat} (h1 : yRf ci k = true) (h2 : ¬ (ci = 5 ∧ k = 29)) : (yF (n, kd, ln, rf) (ad, w2) μ id ci (yNf ci)).set k (.ref (ad t)) = yF (n, kd, ln, rup rf id k t) (ad, w2) μ id ci (yNf ci) := by
  apply List.ext_getElem?
  intro j
  by_cases hj : j < yNf ci
  · rw [yF_at hj]
    by_cases q : j = k
    · subst q
      rw [List.getElem?_set_self (by rw [yF_len]; exact hj)]
      unfold yV
      rw [if_pos h1, if_neg h2]
      show some (Value.ref (ad t)) = some (va_rf ((rup rf id j t id j).map ad))
      unfold rup
      rw [if_pos ⟨rfl, rfl⟩]
      rfl
    · rw [List.getElem?_set_ne (Ne.symm q), yF_at hj]
      refine congrArg some (yV_cg ?_ rfl rfl).symm
      show rup rf id k t id j = rf id j
      unfold rup
      rw [if_neg (fun z => q z.2)]
  · rw [List.getElem?_eq_none (by rw [List.length_set, yF_len]; omega), List.getElem?_eq_none (by rw [yF_len]; omega)]
end GW
