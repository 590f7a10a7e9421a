/-! PURE 36: tests of arguments, the relation of the two memories -/
def In (x : Int32) (n : Nat) : Prop := ∃ j, j < n ∧ x = nI j
def Out (x : Int32) (n : Nat) : Prop := x < 0 ∨ nI n ≤ x
theorem px (x : Int32) {n : Nat} (hn : n < 2 ^ 31) : In x n ∨ Out x n := by
  rcases pk_ix x hn with h | h | h
  · exact Or.inr (Or.inl h)
  · exact Or.inr (Or.inr h)
  · exact Or.inl h
theorem Out.no {x : Int32} {n : Nat} (h : Out x n) (hn : n < 2 ^ 31) : ¬ In x n := by
  rintro ⟨j, hj, rfl⟩
  rcases h with h | h
  · exact nI_pos (by omega) h
  · exact nI_ge hj hn h
theorem xlt {a b c : Int32} (h : a < b) (h2 : b ≤ c) : a < c := by
  rw [Int32.lt_iff_toInt_lt] at *
  rw [Int32.le_iff_toInt_le] at *
  omega
theorem xnlt {a b : Int32} : ¬ a < b ↔ b ≤ a := by
  rw [Int32.lt_iff_toInt_lt, Int32.le_iff_toInt_le]
  omega
theorem xnle {a b : Int32} : ¬ a ≤ b ↔ b < a := by
  rw [Int32.lt_iff_toInt_lt, Int32.le_iff_toInt_le]
  omega
section TE
variable {F n : Nat} {u : Mm} {x : Int32}
theorem x_isb1 {P : Int32 × Mm → Prop} {j : Nat} (hj : j < n) (hn : n < 2 ^ 31) (h : P (1, u)) : OkO (f_X_isBelow F u (nI j) (nI n)) P := by
  unfold f_X_isBelow
  exact okF (nI_pos (by omega)) (okF (nI_ge hj hn) (okJ (okz (Or.inr rfl) (okR h))))
theorem x_isb0 {P : Int32 × Mm → Prop} (hj : Out x n) (h : P (0, u)) : OkO (f_X_isBelow F u x (nI n)) P := by
  unfold f_X_isBelow
  rcases hj with hj | hj
  · exact okT hj (okJ (okz (Or.inl rfl) (okR h)))
  · exact okI (fun _ => okJ (okz (Or.inl rfl) (okR h))) (fun _ => okT hj (okJ (okz (Or.inl rfl) (okR h))))
theorem x_isp1 {P : Int32 × Mm → Prop} {j : Nat} (hj : j < 61) (h : P (1, u)) : OkO (f_X_isSpan F u (nI j)) P := by
  unfold f_X_isSpan
  exact okF (nI_pos (by omega)) (okF (nI_nlt (b := j) (a := 60) (by omega) (by decide)) (okJ (okz (Or.inr rfl) (okR h))))
theorem x_isp0 {P : Int32 × Mm → Prop} (hj : Out x 61) (h : P (0, u)) : OkO (f_X_isSpan F u x) P := by
  unfold f_X_isSpan
  rcases hj with hj | hj
  · exact okT hj (okJ (okz (Or.inl rfl) (okR h)))
  · exact okI (fun _ => okJ (okz (Or.inl rfl) (okR h))) (fun _ => okT (xlt (b := nI 61) (by decide) hj) (okJ (okz (Or.inl rfl) (okR h))))
theorem m_in1 {P : Int32 × Mm → Prop} {x lo hi : Int32} (h1 : lo ≤ x) (h2 : x ≤ hi) (h : P (1, u)) : OkO (f_M_in F u x.toInt64 lo.toInt64 hi.toInt64) P := by
  unfold f_M_in
  refine okF ?_ (okF ?_ (okJ (okz (Or.inr rfl) (okR h))))
  · rw [lg_cmp_lt, Int32.toInt64_lt]; exact fun z => absurd h1 (xnle.mpr z)
  · rw [lg_cmp_gt, Int32.toInt64_lt]; exact fun z => absurd h2 (xnle.mpr z)
theorem m_in0 {P : Int32 × Mm → Prop} {x lo hi : Int32} (h1 : x < lo ∨ hi < x) (h : P (0, u)) : OkO (f_M_in F u x.toInt64 lo.toInt64 hi.toInt64) P := by
  unfold f_M_in
  rcases h1 with h1 | h1
  · exact okT (by rw [lg_cmp_lt, Int32.toInt64_lt]; exact h1) (okJ (okz (Or.inl rfl) (okR h)))
  · exact okI (fun _ => okJ (okz (Or.inl rfl) (okR h))) (fun _ => okT (by rw [lg_cmp_gt, Int32.toInt64_lt]; exact h1) (okJ (okz (Or.inl rfl) (okR h))))
theorem m_n1 {P : Int32 × Mm → Prop} {j : Nat} {b : Int64} (hj : j < n) (hn : n < 2 ^ 31) (hb : b = (nI n - 1).toInt64) (h : P (1, u)) : OkO (f_M_in F u (nI j).toInt64 0 b) P := by
  rw [hb]
  refine m_in1 (lo := 0) (n0l j (by omega)) ?_ h
  rw [show (1 : Int32) = nI 1 from rfl, pk_sub (by omega)]
  exact nI_le (by omega) (by omega)
theorem m_n0 {P : Int32 × Mm → Prop} {b : Int64} (hj : Out x n) (hn : n < 2 ^ 31) (hb : b = (nI n - 1).toInt64) (h : P (0, u)) : OkO (f_M_in F u x.toInt64 0 b) P := by
  rw [hb]
  refine m_in0 (lo := 0) ?_ h
  rcases hj with hj | hj
  · exact Or.inl hj
  · refine Or.inr (xlt (b := nI n) ?_ hj)
    cases n with
    | zero => decide
    | succ n => rw [nI_pred]; exact nI_lt (by omega) hn
end TE
section TM
variable {F n j : Nat} {τ0 τ : Mm} {S : Hs} {d e x : Int32}
theorem m_isG1 {P : Int32 × Mm → Prop} (R : RM d e τ.1 S) (hj : j < sG S) (h : P (1, τ)) : OkO (f_M_isGlass F τ 0 (nI j)) P := by
  have := R.1.1
  unfold f_M_isGlass
  exact okJ (m_s0 (MS.rf R) (okY (m_n1 hj (by omega) rfl (okJ (okz (Or.inr rfl) (okR h))))))
theorem m_isG0 {P : Int32 × Mm → Prop} (R : RM d e τ.1 S) (hj : Out x (sG S)) (h : P (0, τ)) : OkO (f_M_isGlass F τ 0 x) P := by
  have := R.1.1
  unfold f_M_isGlass
  exact okJ (m_s0 (MS.rf R) (okY (m_n0 hj (by omega) rfl (okJ (okz (Or.inl rfl) (okR h))))))
theorem m_isP1 {P : Int32 × Mm → Prop} (R : RM d e τ.1 S) (hj : j < sP S) (h : P (1, τ)) : OkO (f_M_isGuest F τ 0 (nI j)) P := by
  have := R.1.2
  unfold f_M_isGuest
  exact okJ (m_s1 (MS.rf R) (okY (m_n1 hj (by omega) rfl (okJ (okz (Or.inr rfl) (okR h))))))
theorem m_isP0 {P : Int32 × Mm → Prop} (R : RM d e τ.1 S) (hj : Out x (sP S)) (h : P (0, τ)) : OkO (f_M_isGuest F τ 0 x) P := by
  have := R.1.2
  unfold f_M_isGuest
  exact okJ (m_s1 (MS.rf R) (okY (m_n0 hj (by omega) rfl (okJ (okz (Or.inl rfl) (okR h))))))
theorem m_isW1 {P : Int32 × Mm → Prop} (hj : j < 6) (h : P (1, τ)) : OkO (f_M_isPlace F τ (nI j)) P := by
  unfold f_M_isPlace
  exact okY (m_n1 hj (by decide) rfl (okJ (okz (Or.inr rfl) (okR h))))
theorem m_isW0 {P : Int32 × Mm → Prop} (hj : Out x 6) (h : P (0, τ)) : OkO (f_M_isPlace F τ x) P := by
  unfold f_M_isPlace
  exact okY (m_n0 hj (by decide) rfl (okJ (okz (Or.inl rfl) (okR h))))
theorem m_isN1 {P : Int32 × Mm → Prop} (hj : j < 61) (h : P (1, τ)) : OkO (f_M_isMinutes F τ (nI j)) P := by
  unfold f_M_isMinutes
  exact okY (m_n1 hj (by decide) rfl (okJ (okz (Or.inr rfl) (okR h))))
theorem m_isN0 {P : Int32 × Mm → Prop} (hj : Out x 61) (h : P (0, τ)) : OkO (f_M_isMinutes F τ x) P := by
  unfold f_M_isMinutes
  exact okY (m_n0 hj (by decide) rfl (okJ (okz (Or.inl rfl) (okR h))))
end TM
/-! the relation -/
def Shd (d : Nat) (σ τ : Mm) : Prop := (σ.1 (65 + 2 * d) 0 = τ.1 22 d ∧ (∃ c, c < 3 ∧ σ.1 (65 + 2 * d) 0 = nI c)) ∧
  (σ.1 (65 + 2 * d) 0 = 1 → σ.1 (65 + 2 * d) 1 = τ.1 23 d ∧ σ.1 (65 + 2 * d) 2 = τ.1 24 d ∧ In (σ.1 (65 + 2 * d) 1) 8 ∧ In (σ.1 (65 + 2 * d) 2) 10) ∧
  (σ.1 (65 + 2 * d) 0 = 2 → σ.1 (65 + 2 * d) 3 = τ.1 25 d ∧ In (σ.1 (65 + 2 * d) 3) 3 ∧ σ.1 (65 + 2 * d) 4 = τ.1 26 d ∧ In (σ.1 (65 + 2 * d) 4) 101 ∧ (∀ i, i < 100 → (σ.1 (66 + 2 * d) i).toInt64 = τ.2.1 27 (100 * d + i)) ∧ (σ.1 (65 + 2 * d) 3 = 0 → ∀ i, i < 100 → -128 ≤ σ.1 (66 + 2 * d) i ∧ σ.1 (66 + 2 * d) i ≤ 127))
def Pic (σ τ : Mm) : Prop := σ.1 0 3 = τ.1 0 26 ∧ (σ.1 0 3 = 0 ∨ σ.1 0 3 = 1) ∧ ∃ P, RX 2 σ.1 P ∧ (σ.1 0 3 = 1 → Iv P ∧ sM P ≤ 999 ∧ sLo P = -4 ∧ IM 18 τ.1 P)
def Rl (N : Hs) (σ τ : Mm) : Prop := (RX 0 σ.1 N ∧ Iv N ∧ sLo N = -4 ∧ sM N ≤ 999 ∧ ∃ d e, RM d e τ.1 N) ∧ (∃ Q, RX 1 σ.1 Q) ∧ Pic σ τ ∧ ∀ d, d < 8 → Shd d σ τ
def Rel (σ τ : Mm) : Prop := ∃ N, Rl N σ τ
def Ag (X M : Option (Int32 × Mm)) : Prop := OkO X (fun p => OkO M (fun q => p.1 = q.1 ∧ Rel p.2 q.2))
/-- only the houses 0 and 1 have changed -/
def FX (σ σ' : Mm) : Prop := (∀ id k, (id = 0 ∨ 43 ≤ id) → σ'.1 id k = σ.1 id k) ∧ σ'.2 = σ.2
theorem FX.rf {σ : Mm} : FX σ σ := ⟨fun _ _ _ => rfl, rfl⟩
theorem FX.tr {a b c : Mm} (x : FX a b) (y : FX b c) : FX a c := ⟨fun id k h => (y.1 id k h).trans (x.1 id k h), y.2.trans x.2⟩
theorem XS.fx {h : Nat} {μ0 μ : Mm} {S : Hs} (R : XS h μ0 μ S) (hh : h < 2) : FX μ0 μ := ⟨fun id k hq => R.2.1 id k (by omega), R.2.2⟩
theorem Shd.fr {d : Nat} {σ σ' τ τ' : Mm} (h : Shd d σ τ) (A : FX σ σ') (B : FN τ τ') : Shd d σ' τ' := by
  have e1 : ∀ k, σ'.1 (65 + 2 * d) k = σ.1 (65 + 2 * d) k := fun k => A.1 _ _ (by omega)
  have e2 : ∀ k, σ'.1 (66 + 2 * d) k = σ.1 (66 + 2 * d) k := fun k => A.1 _ _ (by omega)
  unfold Shd
  rw [B.2.2.2]
  simp only [e1, e2, B.1 22 d (by decide), B.1 23 d (by decide), B.1 24 d (by decide), B.1 25 d (by decide), B.1 26 d (by decide)]
  exact h
theorem RX.cp {h : Nat} {f f' : Nat → Nat → Int32} {N : Hs} (R : RX h f N) (hq : ∀ id k, 1 + 21 * h ≤ id → id < 22 + 21 * h → f' id k = f id k) : RX h f' N := by
  have hb := R.1
  unfold RX
  have e1 : ∀ k, f' (hI h) k = f (hI h) k := fun k => hq _ _ (by unfold hI; omega) (by unfold hI; omega)
  refine ⟨hb, ?_, ⟨fun i hi => ?_, fun i hi => ?_⟩, fun i k hi hk h4 => ?_, fun i hi hl => ?_, fun i k hi hk => ?_⟩
  · simp only [e1]; exact R.2.1
  · rw [hq _ _ (by unfold gI; omega) (by unfold gI; omega)]; exact R.2.2.1.1 i hi
  · rw [hq _ _ (by unfold pI; omega) (by unfold pI; omega)]; exact R.2.2.1.2 i hi
  · rw [hq _ _ (by unfold gI; omega) (by unfold gI; omega)]; exact R.2.2.2.1 i k hi hk h4
  · rw [hq _ _ (by unfold gI; omega) (by unfold gI; omega)]; exact R.2.2.2.2.1 i hi hl
  · rw [hq _ _ (by unfold pI; omega) (by unfold pI; omega)]; exact R.2.2.2.2.2 i k hi hk
theorem Pic.fr {σ σ' τ τ' : Mm} (h : Pic σ τ) (A : FX σ σ') (B : FN τ τ') : Pic σ' τ' := by
  obtain ⟨h1, h2, P, h3, h4⟩ := h
  have e1 : σ'.1 0 3 = σ.1 0 3 := A.1 0 3 (Or.inl rfl)
  refine ⟨by rw [e1, B.2.1]; exact h1, by rw [e1]; exact h2, P, h3.cp (fun id k q _ => A.1 id k (Or.inr (by omega))), fun z => ?_⟩
  obtain ⟨a, b, c, f⟩ := h4 (e1 ▸ z)
  exact ⟨a, b, c, f.cg (fun i => B.1 18 i (Nat.le_refl _))⟩
theorem Rl.up {N N' : Hs} {σ σ' τ τ' : Mm} {d e : Int32} (h : Rl N σ τ) (A : FX σ σ') (B : FN τ τ') (h1 : RX 0 σ'.1 N') (h2 : Iv N') (h3 : sLo N' = -4) (h4 : sM N' ≤ 999) (h5 : RM d e τ'.1 N') (h6 : ∃ Q, RX 1 σ'.1 Q) : Rl N' σ' τ' :=
  ⟨⟨h1, h2, h3, h4, d, e, h5⟩, h6, h.2.2.1.fr A B, fun i hi => (h.2.2.2 i hi).fr A B⟩
