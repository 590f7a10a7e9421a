/-! PURE 85: the first relation -/
def N0 : Hs := ((0, 0, 0, 20), (0, 0, -4), (fun _ _ => 0), (fun _ _ => 0))
theorem mXo_z : gM 64 mXo := gM_Ho (b := 43) (gM_Ho (b := 22) (gM_Ho (b := 1) gM_X0).up).up
theorem mXo_h : ∀ h, h < 3 → (mXo.1 (hI h) 2 = 0 ∧ mXo.1 (hI h) 3 = 0 ∧ mXo.1 (hI h) 4 = 20 ∧ mXo.1 (hI h) 5 = 0 ∧ mXo.1 (hI h) 6 = 0 ∧ mXo.1 (hI h) 7 = 0 ∧ mXo.1 (hI h) 8 = -4) ∧ (∀ i, i < 12 → mXo.1 (gI h i) 0 = nI i) ∧ ∀ i, i < 6 → mXo.1 (pI h i) 0 = nI i := by decide +kernel
theorem mXo_R {h : Nat} (hh : h < 3) : RX h mXo.1 N0 := by
  obtain ⟨⟨e2, e3, e4, e5, e6, e7, e8⟩, e9, e10⟩ := mXo_h h hh
  exact ⟨⟨by decide, by decide⟩, ⟨e2, e3, e4, e5, e6, e7, e8⟩, ⟨e9, e10⟩, fun i k (hi : i < 0) => absurd hi (Nat.not_lt_zero i), fun i (hi : i < 0) => absurd hi (Nat.not_lt_zero i), fun i k (hi : i < 0) => absurd hi (Nat.not_lt_zero i)⟩
theorem N0_i : Iv N0 ∧ Lv N0 := ⟨⟨⟨by decide, by decide⟩, by decide, Or.inl rfl, fun i (hi : i < 0) => absurd hi (Nat.not_lt_zero i), fun i (hi : i < 0) => absurd hi (Nat.not_lt_zero i)⟩, fun i (hi : i < 0) => absurd hi (Nat.not_lt_zero i)⟩
theorem mMo_R : RM 0 0 mMo.1 N0 := ⟨⟨by decide, by decide⟩, ⟨rfl, rfl, rfl, rfl, rfl, rfl, rfl⟩, fun i k (hi : i < 0) => absurd hi (Nat.not_lt_zero i), fun i k (hi : i < 0) => absurd hi (Nat.not_lt_zero i)⟩
theorem mMo_z {a k : Nat} (h : a ≠ 0) : mMo.1 a k = 0 := by
  show y2 (y2 m0X.1 0 2 20) 0 22 (-1) a k = 0
  rw [y2_i _ _ h, y2_i _ _ h]
  rfl
theorem Rl_0 : Rl N0 mXo mMo := by
  have p0 : mXo.1 0 3 = 0 := by decide +kernel
  refine ⟨⟨mXo_R (by decide), N0_i, rfl, by decide, 0, 0, mMo_R⟩, ⟨N0, mXo_R (by decide)⟩, ⟨p0.trans rfl, Or.inl p0, N0, mXo_R (by decide), fun z => absurd (p0.symm.trans z) (by decide)⟩, fun d hd => ?_⟩
  have s0 : mXo.1 (65 + 2 * d) 0 = 0 := mXo_z.1 _ _ (by omega)
  exact ⟨⟨s0.trans (mMo_z (by decide)).symm, 0, by decide, s0⟩, fun z => absurd (s0.symm.trans z) (by decide), fun z => absurd (s0.symm.trans z) (by decide)⟩
