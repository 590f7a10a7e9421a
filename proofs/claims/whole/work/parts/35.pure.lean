/-! PURE 35: rows kept and put back, of houses -/
def IM (id : Nat) (t : Nat → Nat → Int32) (S : Hs) : Prop := t id 0 = nI (sG S) ∧ t id 1 = nI (sP S) ∧ t id 2 = nI (sT S) ∧ t id 3 = nI (sM S) ∧ (∀ g k, g < sG S → k < 7 → t id (4 + 7 * g + k) = sg S g k) ∧ (∀ p k, p < sP S → k < 9 → t id (88 + 9 * p + k) = sp S p k)
theorem IM.cg {id : Nat} {t t' : Nat → Nat → Int32} {S : Hs} (h : IM id t S) (he : ∀ i, t' id i = t id i) : IM id t' S := by
  unfold IM
  simp only [he]
  exact h
theorem IM.C {id : Nat} {t : Nat → Nat → Int32} {S T : Hs} (h : IM id t S) (h1 : T.1 = S.1) (h2 : T.2.2 = S.2.2) : IM id t T := by
  obtain ⟨T1, T2, T3⟩ := T
  dsimp only at h1 h2
  subst h1
  subst h2
  exact h
section MI
variable {id : Nat} {d e : Int32} {τ0 τ : Mm} {S N : Hs} {F : Nat}
theorem m_keep {P : Unit × Mm → Prop} (hid : id = 17 ∨ id = 18) (R : RM d e τ.1 S) (hF : 100 ≤ F) (h : ∀ τ', RM d e τ'.1 S → IM id τ'.1 S → (∀ a i, 17 ≤ a → a ≠ id → τ'.1 a i = τ.1 a i) → (∀ k, k ≠ 27 → k ≠ 28 → τ'.1 0 k = τ.1 0 k) → τ'.2.1 = τ.2.1 → P ((), τ')) : OkO (f_M_carryAll F τ 0 (some id) 1) P := by
  refine m_cAll (tk := true) hid hF (fun τ' h2 hz => ?_)
  have q : ∀ a i, a ≠ id → ¬ (a = 0 ∧ (i = 27 ∨ i = 28)) → τ'.1 a i = τ.1 a i := by
    intro a i ha hn
    rw [hz a i hn]
    unfold zf
    dsimp only
    rw [if_neg (by omega)]
  have hi : ∀ i, i < 142 → τ'.1 id i = lv τ.1 i := by
    intro i h1
    rw [hz id i (by omega)]
    unfold zf
    dsimp only
    rw [if_pos ⟨rfl, h1⟩]
  obtain ⟨a, b, c, f⟩ := R
  obtain ⟨b0, b1, b2, b3, b20, b21, b22⟩ := b
  have q0 : ∀ k, k ≠ 27 → k ≠ 28 → τ'.1 0 k = τ.1 0 k := fun k k1 k2 => q 0 k (by omega) (by omega)
  refine h τ' ⟨a, ⟨?_, ?_, ?_, ?_, ?_, ?_, ?_⟩, fun i k h1 h3 => ?_, fun i k h1 h3 => ?_⟩ ⟨?_, ?_, ?_, ?_, fun g k h1 h3 => ?_, fun g k h1 h3 => ?_⟩ (fun x i h1 h3 => q x i h3 (by omega)) q0 (by rw [h2])
  · rw [q0 0 (by decide) (by decide)]; exact b0
  · rw [q0 1 (by decide) (by decide)]; exact b1
  · rw [q0 2 (by decide) (by decide)]; exact b2
  · rw [q0 3 (by decide) (by decide)]; exact b3
  · rw [q0 20 (by decide) (by decide)]; exact b20
  · rw [q0 21 (by decide) (by decide)]; exact b21
  · rw [q0 22 (by decide) (by decide)]; exact b22
  · rw [q _ _ (by omega) (by omega)]; exact c i k h1 h3
  · rw [q _ _ (by omega) (by omega)]; exact f i k h1 h3
  · rw [hi 0 (by decide)]; exact b0
  · rw [hi 1 (by decide)]; exact b1
  · rw [hi 2 (by decide)]; exact b2
  · rw [hi 3 (by decide)]; exact b3
  · rw [hi _ (by omega), ← ix_g h3 (by omega), lv_ix (by rw [ix_g h3 (by omega)]; omega)]; exact c g k h1 h3
  · rw [hi _ (by omega), ← ix_p h3 (by omega), lv_ix (by rw [ix_p h3 (by omega)]; omega)]; exact f g k h1 h3
theorem m_put {P : Unit × Mm → Prop} (hid : id = 17 ∨ id = 18) (R : RM d e τ.1 S) (hI0 : IM id τ.1 N) (hN : sG N ≤ 12 ∧ sP N ≤ 6) (hF : 100 ≤ F) (h : ∀ τ', RM d e τ'.1 (N.1, S.2.1, N.2.2) → (∀ a i, 17 ≤ a → τ'.1 a i = τ.1 a i) → (∀ k, 4 ≤ k → k ≠ 27 → k ≠ 28 → τ'.1 0 k = τ.1 0 k) → τ'.2.1 = τ.2.1 → P ((), τ')) : OkO (f_M_carryAll F τ 0 (some id) 0) P := by
  refine m_cAll (tk := false) hid hF (fun τ' h2 hz => ?_)
  have q : ∀ a i, 17 ≤ a → τ'.1 a i = τ.1 a i := by
    intro a i ha
    rw [hz a i (by omega)]
    unfold zf
    dsimp only
    rw [ix_no ha, if_neg (by decide)]
  have q0 : ∀ k, 4 ≤ k → k ≠ 27 → k ≠ 28 → τ'.1 0 k = τ.1 0 k := by
    intro k k0 k1 k2
    rw [hz 0 k (by omega)]
    unfold zf
    dsimp only
    rw [ix_0n k0, if_neg (by decide)]
  have hi : ∀ a i, ix a i < 142 → τ'.1 a i = τ.1 id (ix a i) := by
    intro a i h1
    have := ix_lt h1
    rw [hz a i (by omega)]
    unfold zf
    dsimp only
    rw [if_pos h1]
  obtain ⟨a, ⟨b0, b1, b2, b3, b20, b21, b22⟩, c, f⟩ := R
  obtain ⟨i0, i1, i2, i3, ig, ip⟩ := hI0
  refine h τ' ⟨hN, ⟨?_, ?_, ?_, ?_, ?_, ?_, ?_⟩, fun g k (h1 : g < sG N) h3 => ?_, fun g k (h1 : g < sP N) h3 => ?_⟩ q q0 (by rw [h2])
  · rw [hi 0 0 (by decide)]; exact i0
  · rw [hi 0 1 (by decide)]; exact i1
  · rw [hi 0 2 (by decide)]; exact i2
  · rw [hi 0 3 (by decide)]; exact i3
  · rw [q0 20 (by decide) (by decide) (by decide)]; exact b20
  · rw [q0 21 (by decide) (by decide) (by decide)]; exact b21
  · rw [q0 22 (by decide) (by decide) (by decide)]; exact b22
  · rw [hi _ _ (by rw [ix_g h3 (by omega)]; omega), ix_g h3 (by omega)]; exact ig g k h1 h3
  · rw [hi _ _ (by rw [ix_p h3 (by omega)]; omega), ix_p h3 (by omega)]; exact ip g k h1 h3
/-- what calls in mind leave: the image, the told rows, thrown -/
def FN (τ0 τ : Mm) : Prop := (∀ a i, 18 ≤ a → τ.1 a i = τ0.1 a i) ∧ τ.1 0 26 = τ0.1 0 26 ∧ τ.2.1 = τ0.2.1
theorem FN.rf {τ : Mm} : FN τ τ := ⟨fun _ _ _ => rfl, rfl, rfl⟩
theorem FN.tr {τ0 τ1 τ2 : Mm} (a : FN τ0 τ1) (b : FN τ1 τ2) : FN τ0 τ2 := ⟨fun x i h => (b.1 x i h).trans (a.1 x i h), b.2.1.trans a.2.1, b.2.2.trans a.2.2⟩
theorem MS.fn {S : Hs} (R : MS d e τ0 τ S) : FN τ0 τ := ⟨fun x i h => R.2.1.1 x i (by omega), R.2.1.2 26 (by decide) (by decide) (by decide), by rw [R.2.2]⟩
theorem MS.im {S N : Hs} (R : MS d e τ0 τ S) (h : IM 17 τ0.1 N) : IM 17 τ.1 N := h.cg (fun i => R.2.1.1 17 i (Nat.le_refl _))
theorem m_open {P : Unit × Mm → Prop} (R : RM d e τ.1 S) (hF : 100 ≤ F) (h : ∀ τ', RM d e τ'.1 S → IM 17 τ'.1 S → FN τ τ' → P ((), τ')) : OkO (f_M_open F τ 0) P := by
  unfold f_M_open
  refine okJ (m_r 17 (okJ (m_k (okY (m_keep (Or.inl rfl) R hF (fun τ' R' I' h1 h2 h3 => okR (h τ' R' I' ⟨fun a i ha => h1 a i (by omega) (by omega), h2 26 (by decide) (by decide), h3⟩)))))))
theorem m_again {P : Unit × Mm → Prop} (R : RM d e τ.1 S) (hI0 : IM 17 τ.1 N) (hN : sG N ≤ 12 ∧ sP N ≤ 6) (hF : 100 ≤ F) (h : ∀ τ', RM d e τ'.1 (N.1, S.2.1, N.2.2) → IM 17 τ'.1 N → FN τ τ' → P ((), τ')) : OkO (f_M_again F τ 0) P := by
  unfold f_M_again
  refine okJ (m_r 17 (okJ (m_k (okY (m_put (Or.inl rfl) R hI0 hN hF (fun τ' R' h1 h2 h3 => okR (h τ' R' (hI0.cg (fun i => h1 17 i (Nat.le_refl _))) ⟨fun a i ha => h1 a i (by omega), h2 26 (by decide) (by decide) (by decide), h3⟩)))))))
end MI
