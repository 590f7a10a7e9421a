/-! PURE 82: Shelf made; the references of the class made -/
theorem y2_same {f : Nat → Nat → Int32} {id k : Nat} {v : Int32} (h : f id k = v) : y2 f id k v = f := by
  funext a b
  unfold y2
  by_cases q : b = k ∧ a = id
  · rw [if_pos q, q.1, q.2, h]
  · rw [if_neg q]
theorem ks0 {d : Nat} (hd : d < 8) : kdX (65 + 2 * d) = 3 := kd_s hd
theorem ks1 {d : Nat} (hd : d < 8) : kdX (65 + 2 * d + 1) = 6 ∧ lnX (65 + 2 * d + 1) = 100 := by
  rw [show 65 + 2 * d + 1 = 66 + 2 * d by omega]
  exact ⟨kd_e hd, ln_e hd⟩
theorem c_S_init (l : Launch) (d sz : Nat) (hd : d < 8) (rf0 : Nat → Nat → Option Nat) (ad0 : Nat → Nat) (w2 : va_G × (Nat → ClassId)) (μ0 : Mm) (hR0 : gR (65 + 2 * d + 1) rf0) (hM0 : gM (65 + 2 * d + 1) μ0) (hz : μ0.1 (65 + 2 * d) 0 = 0) : gMet l m_S_init ws_S_init ({ frames := 2, cells := 1, slots := 100, locals := 40 } : Room) (65 + 2 * d + 1, kdX, lnX, rf0) (ad0, w2) μ0 [.ref (ad0 (65 + 2 * d))] (65 + 2 * d + 1 + 1, kdX, lnX, rup rf0 (65 + 2 * d) 5 (65 + 2 * d + 1)) μ0 1 100 sz := by
  have k0 := ks0 hd
  have k1 := ks1 hd
  generalize hb : 65 + 2 * d = b at *
  refine g_entry (own := "WhoseGlass$Shelf") (lv := [(0, .ref (ad0 b))]) (by decide +kernel) rfl rfl rfl (Nat.le_of_ble_eq_true rfl) ?_
  intro p e s m args below meth c ls C hr hlocks hl hsz hP hD hS hA
  obtain ⟨t0, hb0⟩ : ∃ t0, ad0 b = t0 := ⟨_, rfl⟩
  rw [hb0] at hl
  refine lv_aload_n C.1 C.2.1 d_S_init_0 rfl (lv_at hl 0 rfl) ?_
  refine g_obj C hl z_174 d_S_init_1 (Nat.le_of_ble_eq_true rfl) (Nat.le_of_ble_eq_true rfl) ?_
  refine lv_aload_n C.1 C.2.1 d_S_init_4 rfl (lv_at hl 0 rfl) ?_
  refine lv_iconst (v := 0) C.1 C.2.1 d_S_init_5 (by decide) ?_
  rw [← hb0]
  refine g_puti (ci := 3) (q := (yR3, yT3, 6)) (k := 0) C hP hD hS (by omega) k0 rfl (by decide) rfl g_175 rfl (by decide +kernel) d_S_init_6 (fun H2 locs2 hP hD hS => ?_)
  rw [y2_same hz] at hP hD
  refine lv_aload_n C.1 C.2.1 d_S_init_9 rfl (lv_at hl 0 rfl) ?_
  refine lv_bipush (v := 100) C.1 C.2.1 d_S_init_10 (by decide) ?_
  refine g_newi (N := 100) C hP hD hS hA k1.1 k1.2 hR0 hM0 z_201 (by decide) rfl (by decide) (Nat.le_of_ble_eq_true rfl) (Nat.le_of_ble_eq_true rfl) d_S_init_12 (fun ad1 H3 a1 hP hD hS => ?_)
  have hb1 : ad1 b = t0 := (a1 b (by omega)).trans hb0
  rw [← hb1]
  refine g_putr (ci := 3) (q := (yR3, yT3, 6)) (k := 5) (t := b + 1) C hP hD hS (by omega) k0 rfl (by decide) rfl (by decide) g_186 rfl rfl (by rfl) (fun _ => rfl) (fun _ => rfl) d_S_init_14 (fun H4 locs4 hP hD hS => ?_)
  exact W.vret C.1 C.2.1 hr (fun t ht hW => ⟨ad1, rfl, a1, by rw [ht]; exact hP, hD, hS.F ht⟩) hS.2.2 d_S_init_17 hlocks
def rSh (d : Nat) (rf : Nat → Nat → Option Nat) : Nat → Nat → Option Nat := fun id k => if id = 64 ∧ k < d then some (65 + 2 * k) else if 65 ≤ id ∧ id < 65 + 2 * d ∧ id % 2 = 1 ∧ k = 5 then some (id + 1) else rf id k
theorem rSh_0 {rf : Nat → Nat → Option Nat} : rSh 0 rf = rf := by
  funext id k
  unfold rSh
  rw [if_neg (by omega), if_neg (by omega)]
theorem rSh_s {d : Nat} {rf : Nat → Nat → Option Nat} : rup (rup (rSh d rf) (65 + 2 * d) 5 (65 + 2 * d + 1)) 64 d (65 + 2 * d) = rSh (d + 1) rf := by
  funext id k
  unfold rup rSh
  by_cases q : id = 64 ∧ k = d
  · rw [if_pos q, if_pos ⟨q.1, by omega⟩, q.2]
  · rw [if_neg q]
    by_cases q2 : id = 65 + 2 * d ∧ k = 5
    · rw [if_pos q2, if_neg (by omega), if_pos (by omega), q2.1]
    · rw [if_neg q2]
      by_cases q3 : id = 64 ∧ k < d
      · rw [if_pos q3, if_pos (by omega)]
      · rw [if_neg q3]
        by_cases q4 : 65 ≤ id ∧ id < 65 + 2 * d ∧ id % 2 = 1 ∧ k = 5
        · rw [if_pos q4, if_neg (by omega), if_pos (by omega)]
        · rw [if_neg q4, if_neg (by omega), if_neg (by omega)]
theorem gR_Sh {n d : Nat} {rf : Nat → Nat → Option Nat} (h : gR 65 rf) (hn : n = 65 + 2 * d) : gR n (rSh d rf) := by
  subst hn
  refine ⟨fun x b t e => ?_, fun x b hq => ?_⟩
  · unfold rSh at e
    by_cases c : x = 64 ∧ b < d
    · rw [if_pos c] at e; cases e; omega
    · rw [if_neg c] at e
      by_cases c2 : 65 ≤ x ∧ x < 65 + 2 * d ∧ x % 2 = 1 ∧ b = 5
      · rw [if_pos c2] at e; cases e; omega
      · rw [if_neg c2] at e
        have := h.1 x b t e
        omega
  · unfold rSh
    rw [if_neg (by omega), if_neg (by omega)]
    exact h.2 x b (by omega)
def rX0 : Nat → Nat → Option Nat := fun _ _ => none
def m0X : Mm := (fun _ _ => 0, fun _ _ => 0, none)
def rXo : Nat → Nat → Option Nat := rSh 8 (rup (rup (rHo 43 (rup (rHo 22 (rup (rHo 1 rX0) 0 0 1)) 0 1 22)) 0 2 43) 0 4 64)
def mXo : Mm := mHo 43 (mHo 22 (mHo 1 m0X))
theorem gR_Ho {b : Nat} {rf : Nat → Nat → Option Nat} (h : gR (b + 1) rf) : gR (b + 21) (rHo b rf) := by
  have h1 : gR (b + 21) rf := ⟨fun id k t e => by have := h.1 id k t e; omega, fun id k hq => h.2 id k (by omega)⟩
  exact gR_L (gR_L (gR_put (gR_put h1 (by omega) (by omega)) (by omega) (by omega)) (by omega) (by omega)) (by omega) (by omega)
theorem gM_Ho {b : Nat} {μ : Mm} (h : gM (b + 1) μ) : gM (b + 21) (mHo b μ) := by
  have h1 : gM (b + 21) μ := ⟨fun id k hq => h.1 id k (by omega), fun id k hq => h.2.1 id k (by omega), h.2.2⟩
  exact gM_L (gM_L (gM_put (gM_put h1 (by omega)) (by omega)) (by omega)) (by omega)
theorem rXo_e : ∀ id, id < 81 → ∀ k, k < yLn YX id → yIr YX id k = true → rfX id k = rXo id k := by decide +kernel
