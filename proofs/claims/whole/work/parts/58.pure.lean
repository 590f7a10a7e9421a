/-! PURE 58: the reference's reading head -/
def Rd (d n : Nat) (τ u : Mm) (x : Nat) (bad : Int32) (k : Nat) : Prop := (u.1 0 30 = nI (100 * d) ∧ u.1 0 31 = nI n ∧ u.1 0 32 = nI x ∧ u.1 0 33 = bad ∧ u.1 0 34 = nI k) ∧ (∀ a i, ¬ (a = 0 ∧ 30 ≤ i) → a ≠ 19 → a ≠ 20 → a ≠ 21 → u.1 a i = τ.1 a i) ∧ u.2 = τ.2
def RB (d : Nat) (τ : Mm) (B : Nat → Int32) : Prop := Byt B ∧ ∀ x, x < 100 → τ.2.1 27 (100 * d + x) = (B x).toInt64
section RH
variable {d n x k F : Nat} {τ u : Mm} {bad : Int32} {B : Nat → Int32}
theorem m_here {P : Int32 × Mm → Prop} (hd : d < 8) (hn : n ≤ 100) (hB : RB d τ B) (hx : x < 1000) (H : Rd d n τ u x bad k) (h : P (hV B n x, u)) : OkO (f_M_here F u 0) P := by
  obtain ⟨⟨h0, h1, h2, h3, h4⟩, hf, h5⟩ := H
  unfold f_M_here
  unfold hV at h
  refine okJ (m_x (okJ (m_x ?_)))
  rw [h2, h1]
  by_cases q : x < n
  · rw [if_pos q] at h
    refine okT (nI_lt q (by omega)) (okJ (m_r 27 (okJ (m_x (okJ (m_x ?_))))))
    rw [h2, h0, nI_add]
    refine okJ (m_ll 27 800 (Or.inl rfl) rfl (by decide) (by omega) (okR ?_))
    rw [h5, hB.2 x (by omega), Int32.toInt32_toInt64]
    exact h
  · rw [if_neg q] at h
    exact okF (nI_nlt (by omega) (by omega)) (okR h)
theorem m_dig {P : Int32 × Mm → Prop} (hd : d < 8) (hn : n ≤ 100) (hB : RB d τ B) (hx : x < 1000) (H : Rd d n τ u x 0 k) (hy : dg B n x → ∀ u', Rd d n τ u' (x + 1) 0 k → (∀ a i, a = 19 ∨ a = 20 ∨ a = 21 → u'.1 a i = u.1 a i) → P (B x - 48, u')) (hno : ¬ dg B n x → ∀ u', Rd d n τ u' x 1 k → (∀ a i, a = 19 ∨ a = 20 ∨ a = 21 → u'.1 a i = u.1 a i) → P (0, u')) : OkO (f_M_readDigit F u 0) P := by
  have H0 := H
  obtain ⟨⟨h0, h1, h2, h3, h4⟩, hf, h5⟩ := H0
  unfold f_M_readDigit
  refine okJ (m_x ?_)
  rw [h3]
  have hr : ∀ bad' : Int32, Rd d n τ (y2 u.1 0 33 bad', u.2.1, u.2.2) x bad' k := fun bad' => by
    refine ⟨⟨?_, ?_, ?_, ?_, ?_⟩, fun a i q1 q2 q3 q4 => ?_, h5⟩
    · show y2 u.1 0 33 bad' 0 30 = _
      rw [y2_k _ _ (by decide)]; exact h0
    · show y2 u.1 0 33 bad' 0 31 = _
      rw [y2_k _ _ (by decide)]; exact h1
    · show y2 u.1 0 33 bad' 0 32 = _
      rw [y2_k _ _ (by decide)]; exact h2
    · show y2 u.1 0 33 bad' 0 33 = _
      rw [y2_s]
    · show y2 u.1 0 33 bad' 0 34 = _
      rw [y2_k _ _ (by decide)]; exact h4
    · show y2 u.1 0 33 bad' a i = _
      rw [y2_o _ _ (by omega)]; exact hf a i q1 q2 q3 q4
  refine okJ (okT rfl (okJ (m_k (okY (m_here hd hn hB hx H ?_)))))
  rcases Classical.em (dg B n x) with c | c
  · have c2 := (hV_d hB.1 hn).mpr c
    refine okY (m_in1 (lo := 48) (hi := 57) c2.1 c2.2 (okF i1n (okR ?_)))
    refine okJ (okE (x := (y2 u.1 0 33 0, u.2.1, u.2.2)) (by rw [jpz, if_pos (Or.inl rfl)]; rfl) (okJ (okE (x := 0) (by show some (y2 u.1 0 33 0 0 33) = _; rw [y2_s]) (okT rfl ?_))))
    have H1 := hr 0
    refine okJ (m_x ?_)
    rw [H1.1.2.2.1, nI_1]
    refine okJ (okR (x := (y2 (y2 u.1 0 33 0) 0 32 (nI (x + 1)), u.2.1, u.2.2)) (okJ (m_r 27 (okJ (m_x (okJ (m_x ?_)))))))
    have e30 : y2 (y2 u.1 0 33 0) 0 32 (nI (x + 1)) 0 30 = nI (100 * d) := by rw [y2_k _ _ (by decide), y2_k _ _ (by decide)]; exact h0
    have e32 : y2 (y2 u.1 0 33 0) 0 32 (nI (x + 1)) 0 32 = nI (x + 1) := y2_s _ _ _ _
    show OkO (ob (jll YM _ (some 27) (y2 (y2 u.1 0 33 0) 0 32 (nI (x + 1)) 0 30 + y2 (y2 u.1 0 33 0) 0 32 (nI (x + 1)) 0 32 - 1)) _) P
    have hxn := c.1
    rw [e30, e32, nI_add, show 100 * d + (x + 1) = 100 * d + x + 1 by omega, nI_pred]
    refine okJ (m_ll 27 800 (Or.inl rfl) rfl (by decide) (by omega) (okR ?_))
    show P ((u.2.1 27 (100 * d + x)).toInt32 - 48, (y2 (y2 u.1 0 33 0) 0 32 (nI (x + 1)), u.2.1, u.2.2))
    rw [show u.2.1 27 (100 * d + x) = (B x).toInt64 by rw [h5]; exact hB.2 x (by omega), Int32.toInt32_toInt64]
    refine hy c _ ⟨⟨e30, ?_, e32, ?_, ?_⟩, fun a i q1 q2 q3 q4 => ?_, h5⟩ (fun a i ha => ?_)
    · show y2 (y2 u.1 0 33 0) 0 32 (nI (x + 1)) 0 31 = _
      rw [y2_k _ _ (by decide), y2_k _ _ (by decide)]; exact h1
    · show y2 (y2 u.1 0 33 0) 0 32 (nI (x + 1)) 0 33 = _
      rw [y2_k _ _ (by decide), y2_s]
    · show y2 (y2 u.1 0 33 0) 0 32 (nI (x + 1)) 0 34 = _
      rw [y2_k _ _ (by decide), y2_k _ _ (by decide)]; exact h4
    · show y2 (y2 u.1 0 33 0) 0 32 (nI (x + 1)) a i = _
      rw [y2_o _ _ (by omega), y2_o _ _ (by omega)]; exact hf a i q1 q2 q3 q4
    · show y2 (y2 u.1 0 33 0) 0 32 (nI (x + 1)) a i = _
      rw [y2_o _ _ (by omega), y2_o _ _ (by omega)]
  · have c2 : hV B n x < 48 ∨ 57 < hV B n x := by
      by_cases y1 : hV B n x < 48
      · exact Or.inl y1
      · by_cases y2 : 57 < hV B n x
        · exact Or.inr y2
        · exact absurd ((hV_d hB.1 hn).mp ⟨xnlt.mp y1, xnlt.mp y2⟩) c
    refine okY (m_in0 (lo := 48) (hi := 57) c2 (okT rfl (okR ?_)))
    refine okJ (okE (x := (y2 u.1 0 33 1, u.2.1, u.2.2)) (by rw [jpz, if_pos (Or.inr rfl)]; rfl) (okJ (okE (x := 1) (by show some (y2 u.1 0 33 1 0 33) = _; rw [y2_s]) (okF i1n (okR (hno c _ (hr 1) (fun a i ha => ?_)))))))
    show y2 u.1 0 33 1 a i = _
    rw [y2_o _ _ (by omega)]
theorem m_dig1 {P : Int32 × Mm → Prop} (H : Rd d n τ u x 1 k) (h : ∀ u', Rd d n τ u' x 1 k → (∀ a i, a = 19 ∨ a = 20 ∨ a = 21 → u'.1 a i = u.1 a i) → P (0, u')) : OkO (f_M_readDigit F u 0) P := by
  have H0 := H
  obtain ⟨⟨h0, h1, h2, h3, h4⟩, hf, h5⟩ := H0
  unfold f_M_readDigit
  refine okJ (m_x ?_)
  rw [h3]
  refine okJ (okF i1n (okR (okJ (okE (x := (y2 u.1 0 33 1, u.2.1, u.2.2)) (by rw [jpz, if_pos (Or.inr rfl)]; rfl) (okJ (okE (x := 1) (by show some (y2 u.1 0 33 1 0 33) = _; rw [y2_s]) (okF i1n (okR (h _ ⟨⟨?_, ?_, ?_, ?_, ?_⟩, fun a i q1 q2 q3 q4 => ?_, h5⟩ (fun a i ha => ?_))))))))))
  · show y2 u.1 0 33 1 0 30 = _
    rw [y2_k _ _ (by decide)]; exact h0
  · show y2 u.1 0 33 1 0 31 = _
    rw [y2_k _ _ (by decide)]; exact h1
  · show y2 u.1 0 33 1 0 32 = _
    rw [y2_k _ _ (by decide)]; exact h2
  · show y2 u.1 0 33 1 0 33 = _
    rw [y2_s]
  · show y2 u.1 0 33 1 0 34 = _
    rw [y2_k _ _ (by decide)]; exact h4
  · show y2 u.1 0 33 1 a i = _
    rw [y2_o _ _ (by omega)]; exact hf a i q1 q2 q3 q4
  · show y2 u.1 0 33 1 a i = _
    rw [y2_o _ _ (by omega)]
end RH
