/-! PURE 59: digits in a row -/
theorem nd_all {B : Nat → Int32} {n : Nat} : ∀ k x, (∀ j, j < k → dg B n (x + j)) → nd B n x k = k := by
  intro k
  induction k with
  | zero => intro x _; rfl
  | succ k ih =>
    intro x h
    rw [nd_y (show dg B n x from h 0 (by omega)), ih (x + 1) (fun j hj => by have := h (j + 1) (by omega); rw [show x + 1 + j = x + (j + 1) by omega]; exact this)]
theorem nd_st {B : Nat → Int32} {n : Nat} : ∀ i k x, i < k → (∀ j, j < i → dg B n (x + j)) → ¬ dg B n (x + i) → nd B n x k = i := by
  intro i
  induction i with
  | zero =>
    intro k x hk _ h
    obtain ⟨k', rfl⟩ : ∃ k', k = k' + 1 := ⟨k - 1, by omega⟩
    exact nd_n h
  | succ i ih =>
    intro k x hk h1 h2
    obtain ⟨k', rfl⟩ : ∃ k', k = k' + 1 := ⟨k - 1, by omega⟩
    rw [nd_y (show dg B n x from h1 0 (by omega)), ih k' (x + 1) (by omega) (fun j hj => by have := h1 (j + 1) (by omega); rw [show x + 1 + j = x + (j + 1) by omega]; exact this) (by rw [show x + 1 + i = x + (i + 1) by omega]; exact h2)]
section RI
variable {d n x k F i : Nat} {τ u : Mm} {bad : Int32} {B : Nat → Int32}
theorem Rd.w {y : Nat} {v : Int32} {id j : Nat} (H : Rd d n τ u y bad k) (h : id = 19 ∨ id = 20 ∨ id = 21) : Rd d n τ (y2 u.1 id j v, u.2.1, u.2.2) y bad k := by
  obtain ⟨⟨h0, h1, h2, h3, h4⟩, hf, h5⟩ := H
  have e : ∀ i, y2 u.1 id j v 0 i = u.1 0 i := fun i => y2_i _ _ (by omega)
  refine ⟨?_, fun a i q1 q2 q3 q4 => ?_, h5⟩
  · simp only [e]; exact ⟨h0, h1, h2, h3, h4⟩
  · show y2 u.1 id j v a i = _
    rw [y2_i _ _ (by omega)]; exact hf a i q1 q2 q3 q4
theorem m_tw {P : Mm → Prop} {v : Int32} (hi : i < 255) (h : P (y2 u.1 21 i v, u.2.1, u.2.2)) : OkO (jas YM u (some 21) (nI i) v) P := okE (as_e (by decide) (by decide) (show i < 255 from hi) (by omega)) h
theorem m_tr {P : Int32 → Prop} (hi : i < 255) (h : P (u.1 21 i)) : OkO (jal YM u (some 21) (nI i)) P := okE (al_e (by decide) (by decide) (show i < 255 from hi) (by omega)) h
theorem i5_e (k i : Nat) : (5 : Int32) * nI k + nI i = nI (5 * k + i) := by rw [show (5 : Int32) = nI 5 from rfl, pk_mul, nI_add]
/-- digits read into the told row: all there, or stopped at the first that is none -/
def Dgs (B : Nat → Int32) (d n : Nat) (τ u0 u : Mm) (x k i : Nat) : Prop :=
  ((∀ j, j < i → dg B n (x + j)) ∧ Rd d n τ u (x + i) 0 k ∧ (∀ a y, a = 19 ∨ a = 20 ∨ (a = 21 ∧ y < 5 * k) → u.1 a y = u0.1 a y) ∧ ∀ j, j < i → u.1 21 (5 * k + j) = B (x + j) - 48) ∨
  (∃ s, s < i ∧ (∀ j, j < s → dg B n (x + j)) ∧ ¬ dg B n (x + s) ∧ Rd d n τ u (x + s) 1 k ∧ ∀ a y, a = 19 ∨ a = 20 ∨ (a = 21 ∧ y < 5 * k) → u.1 a y = u0.1 a y)
theorem m_dgs {P : Unit × Mm → Prop} {kk : Mm → Option (Unit × Mm)} {m : Nat} {c : Int32} (hd : d < 8) (hn : n ≤ 100) (hB : RB d τ B) (hx : x < 900) (hm : m ≤ 5) (hk : k ≤ 50) (hF : 100 ≤ F) (H : Rd d n τ u x 0 k) (h : ∀ u', Dgs B d n τ u u' x k m → OkO (kk u') P) : OkO (f_M_readStatement_L147 F (some 0) (nI k) c (nI m) kk F u 0) P := by
  refine lpA (A := Unit) (L := fun q v _ i => f_M_readStatement_L147 F (some 0) (nI k) c (nI m) _ q v i) m (fun i v _ => Dgs B d n τ u v x k i) (fun q v a hq => ?_) (fun q i v a hi hq hk2 => ?_) m 0 F u () (by omega) (by omega) (Or.inl ⟨fun j hj => absurd hj (Nat.not_lt_zero j), H, fun _ _ _ => rfl, fun j hj => absurd hj (Nat.not_lt_zero j)⟩)
  · simp only [f_M_readStatement_L147]
    exact okT (nI_le (Nat.le_refl _) (by omega)) (h v hq)
  · simp only [f_M_readStatement_L147]
    refine okF (nI_ge hi (by omega)) (okJ (m_r 21 (okJ (m_k ?_))))
    rcases hq with ⟨g1, g2, g3, g4⟩ | ⟨s, s1, s2, s3, s4, s5⟩
    · refine okY (m_dig hd hn hB (by omega) g2 (fun c1 u' R' e' => ?_) (fun c1 u' R' e' => ?_))
      · refine okJ ?_
        rw [i5_e]
        refine m_tw (by omega) (okJ (okR ?_))
        rw [nI_1 i]
        refine hk2 _ () (Or.inl ⟨fun j hj => ?_, R'.w (Or.inr (Or.inr rfl)), fun a y ha => ?_, fun j hj => ?_⟩)
        · by_cases q : j = i
          · subst q; exact c1
          · exact g1 j (by omega)
        · show y2 u'.1 21 (5 * k + i) _ a y = _
          rw [y2_o _ _ (by omega), e' a y (by omega)]; exact g3 a y ha
        · show y2 u'.1 21 (5 * k + i) (B (x + i) - 48) 21 (5 * k + j) = _
          by_cases q : j = i
          · subst q; rw [y2_s]
          · rw [y2_k _ _ (by omega), e' 21 _ (by omega)]; exact g4 j (by omega)
      · refine okJ ?_
        rw [i5_e]
        refine m_tw (by omega) (okJ (okR ?_))
        rw [nI_1 i]
        refine hk2 _ () (Or.inr ⟨i, Nat.lt_succ_self i, g1, c1, R'.w (Or.inr (Or.inr rfl)), fun a y ha => ?_⟩)
        show y2 u'.1 21 (5 * k + i) _ a y = _
        rw [y2_o _ _ (by omega), e' a y (by omega)]; exact g3 a y ha
    · refine okY (m_dig1 s4 (fun u' R' e' => ?_))
      refine okJ ?_
      rw [i5_e]
      refine m_tw (by omega) (okJ (okR ?_))
      rw [nI_1 i]
      refine hk2 _ () (Or.inr ⟨s, by omega, s2, s3, R'.w (Or.inr (Or.inr rfl)), fun a y ha => ?_⟩)
      show y2 u'.1 21 (5 * k + i) _ a y = _
      rw [y2_o _ _ (by omega), e' a y (by omega)]; exact s5 a y ha
end RI
