/-! PURE 36: tests of arguments, the relation of the two memories -/
def In (x : Int32) (n : Nat) : Prop := ∃ j, j < n ∧ x = nI j
def Out (x : Int32) (n : Nat) : Prop := x < 0 ∨ nI n ≤ x
theorem px (x : Int32) {n : Nat} (hn : n < 2 ^ 31) : In x n ∨ Out x n := by
  rcases pk_ix x hn with h | h | h
  · exact Or.inr (Or.inl h)
  · exact Or.inr (Or.inr h)
  · exact Or.inl h
theorem Out.no {x : Int32} {n : Nat} (h : Out x n) (hn : n < 2 ^ 31) : ¬ In x n := by
  rintro ⟨j, hj, rfl⟩
  rcases h with h | h
  · exact nI_pos (by omega) h
  · exact nI_ge hj hn h
theorem xlt {a b c : Int32} (h : a < b) (h2 : b ≤ c) : a < c := by
  rw [Int32.lt_iff_toInt_lt] at *
  rw [Int32.le_iff_toInt_le] at *
  omega
theorem xnlt {a b : Int32} : ¬ a < b ↔ b ≤ a := by
  rw [Int32.lt_iff_toInt_lt, Int32.le_iff_toInt_le]
  omega
theorem xnle {a b : Int32} : ¬ a ≤ b ↔ b < a := by
  rw [Int32.lt_iff_toInt_lt, Int32.le_iff_toInt_le]
  omega
section TE
variable {F n : Nat} {u : Mm} {x : Int32}
theorem x_isb1 {P : Int32 × Mm → Prop} {j : Nat} (hj : j < n) (hn : n < 2 ^ 31) (h : P (1, u)) : OkO (f_X_isBelow F u (nI j) (nI n)) P := by
  unfold f_X_isBelow
  exact okF (nI_pos (by omega)) (okF (nI_ge hj hn) (okJ (okz (Or.inr rfl) (okR h))))
theorem x_isb0 {P : Int32 × Mm → Prop} (hj : Out x n) (h : P (0, u)) : OkO (f_X_isBelow F u x (nI n)) P := by
  unfold f_X_isBelow
  rcases hj with hj | hj
  · exact okT hj (okJ (okz (Or.inl rfl) (okR h)))
  · exact okI (fun _ => okJ (okz (Or.inl rfl) (okR h))) (fun _ => okT hj (okJ (okz (Or.inl rfl) (okR h))))
theorem x_isp1 {P : Int32 × Mm → Prop} {j : Nat} (hj : j < 61) (h : P (1, u)) : OkO (f_X_isSpan F u (nI j)) P := by
  unfold f_X_isSpan
  exact okF (nI_pos (by omega)) (okF (nI_nlt (b := j) (a := 60) (by omega) (by decide)) (okJ (okz (Or.inr rfl) (okR h))))
theorem x_isp0 {P : Int32 × Mm → Prop} (hj : Out x 61) (h : P (0, u)) : OkO (f_X_isSpan F u x) P := by
  unfold f_X_isSpan
  rcases hj with hj | hj
  · exact okT hj (okJ (okz (Or.inl rfl) (okR h)))
  · exact okI (fun _ => okJ (okz (Or.inl rfl) (okR h))) (fun _ => okT (xlt (b := nI 61) (by decide) hj) (okJ (okz (Or.inl rfl) (okR h))))
theorem m_in1 {P : Int32 × Mm → Prop} {x lo hi : Int32} (h1 : lo ≤ x) (h2 : x ≤ hi) (h : P (1, u)) : OkO (f_M_in F u x.toInt64 lo.toInt64 hi.toInt64) P := by
  unfold f_M_in
  refine okF ?_ (okF ?_ (okJ (okz (Or.inr rfl) (okR h))))
  · rw [lg_cmp_lt, Int32.toInt64_lt]; exact fun z => absurd h1 (xnle.mpr z)
  · rw [lg_cmp_gt, Int32.toInt64_lt]; exact fun z => absurd h2 (xnle.mpr z)
theorem m_in0 {P : Int32 × Mm → Prop} {x lo hi : Int32} (h1 : x < lo ∨ hi < x) (h : P (0, u)) : OkO (f_M_in F u x.toInt64 lo.toInt64 hi.toInt64) P := by
  unfold f_M_in
  rcases h1 with h1 | h1
  · exact okT (by rw [lg_cmp_lt, Int32.toInt64_lt]; exact h1) (okJ (okz (Or.inl rfl) (okR h)))
  · exact okI (fun _ => okJ (okz (Or.inl rfl) (okR h))) (fun _ => okT (by rw [lg_cmp_gt, Int32.toInt64_lt]; exact h1) (okJ (okz (Or.inl rfl) (okR h))))
theorem m_n1 {P : Int32 × Mm → Prop} {j : Nat} {b : Int64} (hj : j < n) (hn : n < 2 ^ 31) (hb : b = (nI n - 1).toInt64) (h : P (1, u)) : OkO (f_M_in F u (nI j).toInt64 0 b) P := by
  rw [hb]
  refine m_in1 (lo := 0) (n0l j (by omega)) ?_ h
  rw [show (1 : Int32) = nI 1 from rfl, pk_sub (by omega)]
  exact nI_le (by omega) (by omega)
theorem m_n0 {P : Int32 × Mm → Prop} {b : Int64} (hj : Out x n) (hn : n < 2 ^ 31) (hb : b = (nI n - 1).toInt64) (h : P (0, u)) : OkO (f_M_in F u x.toInt64 0 b) P := by
  rw [hb]
  refine m_in0 (lo := 0) ?_ h
  rcases hj with hj | hj
  · exact Or.inl hj
  · refine Or.inr (xlt (b := nI n) ?_ hj)
    cases n with
    | zero => decide
    | succ n => rw [nI_pred]; exact nI_lt (by omega) hn
end TE
section TM
variable {F n j : Nat} {τ0 τ : Mm} {S : Hs} {d e x : Int32}
theorem m_isG1 {P : Int32 × Mm → Prop} (R : RM d e τ.1 S) (hj : j < sG S) (h : P (1, τ)) : OkO (f_M_isGlass F τ 0 (nI j)) P := by
  have := R.1.1
  unfold f_M_isGlass
  exact okJ (m_s0 (MS.rf R) (okY (m_n1 hj (by omega) rfl (okJ (okz (Or.inr rfl) (okR h))))))
theorem m_isG0 {P : Int32 × Mm → Prop} (R : RM d e τ.1 S) (hj : Out x (sG S)) (h : P (0, τ)) : OkO (f_M_isGlass F τ 0 x) P := by
  have := R.1.1
  unfold f_M_isGlass
  exact okJ (m_s0 (MS.rf R) (okY (m_n0 hj (by omega) rfl (okJ (okz (Or.inl rfl) (okR h))))))
theorem m_isP1 {P : Int32 × Mm → Prop} (R : RM d e τ.1 S) (hj : j < sP S) (h : P (1, τ)) : OkO (f_M_isGuest F τ 0 (nI j)) P := by
  have := R.1.2
  unfold f_M_isGuest
  exact okJ (m_s1 (MS.rf R) (okY (m_n1 hj (by omega) rfl (okJ (okz (Or.inr rfl) (okR h))))))
theorem m_isP0 {P : Int32 × Mm → Prop} (R : RM d e τ.1 S) (hj : Out x (sP S)) (h : P (0, τ)) : OkO (f_M_isGuest F τ 0 x) P := by
  have := R.1.2
  unfold f_M_isGuest
  exact okJ (m_s1 (MS.rf R) (okY (m_n0 hj (by omega) rfl (okJ (okz (Or.inl rfl) (okR h))))))
theorem m_isW1 {P : Int32 × Mm → Prop} (hj : j < 6) (h : P (1, τ)) : OkO (f_M_isPlace F τ (nI j)) P := by
  unfold f_M_isPlace
  exact okY (m_n1 hj (by decide) rfl (okJ (okz (Or.inr rfl) (okR h))))
theorem m_isW0 {P : Int32 × Mm → Prop} (hj : Out x 6) (h : P (0, τ)) : OkO (f_M_isPlace F τ x) P := by
  unfold f_M_isPlace
  exact okY (m_n0 hj (by decide) rfl (okJ (okz (Or.inl rfl) (okR h))))
theorem m_isN1 {P : Int32 × Mm → Prop} (hj : j < 61) (h : P (1, τ)) : OkO (f_M_isMinutes F τ (nI j)) P := by
  unfold f_M_isMinutes
  exact okY (m_n1 hj (by decide) rfl (okJ (okz (Or.inr rfl) (okR h))))
theorem m_isN0 {P : Int32 × Mm → Prop} (hj : Out x 61) (h : P (0, τ)) : OkO (f_M_isMinutes F τ x) P := by
  unfold f_M_isMinutes
  exact okY (m_n0 hj (by decide) rfl (okJ (okz (Or.inl rfl) (okR h))))
end TM
/-! laid only while laid -/
def Lv (S : Hs) : Prop := ∀ i, i < sG S → sg S i 3 < 6 ∨ sg S i 4 = -4
theorem Lv.g {S : Hs} {i k : Nat} {v : Int32} (h : Lv S) (h3 : k ≠ 3) (h4 : k ≠ 4) : Lv (uG S i k v) := fun j hj => by
  show y2 (sg S) i k v j 3 < 6 ∨ y2 (sg S) i k v j 4 = -4
  rw [y2_k _ _ (Ne.symm h3), y2_k _ _ (Ne.symm h4)]
  exact h j hj
theorem Lv.w {S : Hs} {i : Nat} {v t : Int32} (h : Lv S) (hv : v < 6 ∨ t = -4) : Lv (uG (uG S i 3 v) i 4 t) := fun j hj => by
  show y2 (y2 (sg S) i 3 v) i 4 t j 3 < 6 ∨ y2 (y2 (sg S) i 3 v) i 4 t j 4 = -4
  by_cases q : j = i
  · subst q
    rw [y2_k _ _ (by decide), y2_s, y2_s]
    exact hv
  · rw [y2_i _ _ q, y2_i _ _ q, y2_i _ _ q, y2_i _ _ q]
    exact h j hj
theorem Lv.new {S S' : Hs} {k f l w a s e : Int32} (h : Lv S) (h1 : sG S' = sG S + 1) (h2 : sg S' = nRow (sg S) (sG S) k f l w a s e) (hw : w < 6 ∨ a = -4) : Lv S' := fun j hj => by
  rw [h2]
  by_cases q : j = sG S
  · subst q
    simpa [nRow] using hw
  · rw [nRow_o q]
    exact h j (by omega)
theorem lt6 {n : Nat} (h : n < 6) : nI n < 6 := nI_lt (b := 6) h (by decide)
theorem sSip_Lv {S : Hs} {p g : Nat} (h : Lv S) : Lv (sSip S p g) := by
  unfold sSip
  exact Lv.g (S := uP _ _ _ _) (Lv.g (S := uP _ _ _ _) (Lv.g h (by decide) (by decide)) (by decide) (by decide)) (by decide) (by decide)
theorem sLay_Lv {S : Hs} {p g : Nat} (hv : Iv S) (hp : p < sP S) (h : Lv S) : Lv (sLay S p g) := by
  obtain ⟨n, hn, en⟩ := (hv.2.2.2.2 p hp).2.2.2.1
  have a : sp S p 4 < 6 ∨ nI (sM S) = -4 := Or.inl (by rw [en]; exact lt6 hn)
  have b : Lv (uG (uG S g 3 (sp S p 4)) g 4 (nI (sM S))) := Lv.w (v := sp S p 4) (t := nI (sM S)) h a
  unfold sLay
  exact b
theorem sHold_Lv {S : Hs} {p g : Nat} (h : Lv S) : Lv (sHold S p g) := by
  unfold sHold
  exact Lv.w (S := uP _ _ _ _) h (Or.inr rfl)
theorem sSink_Lv {S : Hs} {g : Nat} (h : Lv S) : Lv (sSink S g) := by
  unfold sSink
  exact Lv.g (Lv.g (Lv.g (Lv.w h (Or.inr rfl)) (by decide) (by decide)) (by decide) (by decide)) (by decide) (by decide)
theorem sTake_Lv {S : Hs} {p : Nat} (h : Lv S) : Lv (sTake S p).2 := by
  unfold sTake
  cases e : sCh S p with
  | some g => exact sHold_Lv (S := uC S _ _ _) h
  | none =>
    dsimp only
    by_cases c : sT S = 0 ∨ sG S = 12
    · rw [if_pos c]; exact h
    · rw [if_neg c]; exact Lv.new (S' := sTray S p) h rfl rfl (Or.inr rfl)
theorem sStep_Lv {S : Hs} {p : Nat} (h : Lv S) : Lv (sStep S p) := by
  unfold sStep
  rcases Classical.em (¬ nI (sM S) = 0 ∧ isM (nI (sM S)) (sp S p 2)) with c | c
  · rw [if_pos c]; exact h
  · rw [if_neg c]; exact h
theorem sLive1_Lv {S : Hs} {p g : Nat} (h : Lv S) : Lv (sLive1 S p g) := by
  unfold sLive1
  rcases Classical.em (isM (nI (sM S)) (sp S p 0) ∧ ¬ sg S g 2 ≤ 0) with c | c
  · rw [if_pos c]; exact sSip_Lv h
  · rw [if_neg c]; exact h
theorem sLive2_Lv {S : Hs} {p g : Nat} (hv : Iv S) (hp : p < sP S) (h : Lv S) : Lv (sLive2 S p g) := by
  unfold sLive2
  rcases Classical.em (¬ nI (sM S) = 0 ∧ isM (nI (sM S)) (sp S p 1)) with c | c
  · rw [if_pos c]; exact sLay_Lv hv hp h
  · rw [if_neg c]; exact h
theorem sLive3_Lv {S : Hs} {p : Nat} (hv : Iv S) (hp : p < sP S) (h : Lv S) : Lv (sLive3 S p) := by
  unfold sLive3
  by_cases c : sp S p 5 < 0
  · rw [if_pos c]; exact sTake_Lv h
  · rw [if_neg c]
    obtain ⟨g, hg, e, e2⟩ := hold_in hv hp c
    rw [e2]
    exact sLive2_Lv (sLive1_Iv hv hg) (by rw [(sLive1_Sz (S := S) (p := p) (g := g)).1]; exact hp) (sLive1_Lv h)
theorem sLive_Lv {S : Hs} {p : Nat} (hv : Iv S) (hp : p < sP S) (h : Lv S) : Lv (sLive p S) := sLive3_Lv (sStep_Iv hv hp) (by rw [(sStep_Sz (S := S) (p := p)).1]; exact hp) (sStep_Lv h)
theorem sMin_Lv {S : Hs} (hv : Iv S) (h : Lv S) : Lv (sMin S) := by
  have key : ∀ i, i ≤ sP S → Lv (it sLive S i) := by
    intro i
    induction i with
    | zero => intro _; exact h
    | succ i ih =>
      intro hi
      obtain ⟨a, b⟩ := itLive hv i (by omega)
      rw [it_s]
      exact sLive_Lv a (by rw [b.1]; omega) (ih (by omega))
  exact key (sP S) (Nat.le_refl _)
theorem sPass_Lv {S : Hs} (hv : Iv S) (h : Lv S) : ∀ n, Lv (sPass S n) := by
  intro n
  induction n with
  | zero => exact h
  | succ n ih => exact sMin_Lv (sPass_Iv hv n).1 ih
/-! the relation -/
def Shd (d : Nat) (σ τ : Mm) : Prop := (σ.1 (65 + 2 * d) 0 = τ.1 22 d ∧ (∃ c, c < 3 ∧ σ.1 (65 + 2 * d) 0 = nI c)) ∧
  (σ.1 (65 + 2 * d) 0 = 1 → σ.1 (65 + 2 * d) 1 = τ.1 23 d ∧ σ.1 (65 + 2 * d) 2 = τ.1 24 d ∧ In (σ.1 (65 + 2 * d) 1) 8 ∧ In (σ.1 (65 + 2 * d) 2) 10) ∧
  (σ.1 (65 + 2 * d) 0 = 2 → σ.1 (65 + 2 * d) 3 = τ.1 25 d ∧ In (σ.1 (65 + 2 * d) 3) 3 ∧ σ.1 (65 + 2 * d) 4 = τ.1 26 d ∧ In (σ.1 (65 + 2 * d) 4) 101 ∧ (∀ i, i < 100 → (σ.1 (66 + 2 * d) i).toInt64 = τ.2.1 27 (100 * d + i)) ∧ (σ.1 (65 + 2 * d) 3 = 0 → ∀ i, i < 100 → -128 ≤ σ.1 (66 + 2 * d) i ∧ σ.1 (66 + 2 * d) i ≤ 127))
def Pic (σ τ : Mm) : Prop := σ.1 0 3 = τ.1 0 26 ∧ (σ.1 0 3 = 0 ∨ σ.1 0 3 = 1) ∧ ∃ P, RX 2 σ.1 P ∧ (σ.1 0 3 = 1 → (Iv P ∧ Lv P) ∧ sM P ≤ 999 ∧ sLo P = -4 ∧ IM 18 τ.1 P)
def Rl (N : Hs) (σ τ : Mm) : Prop := (RX 0 σ.1 N ∧ (Iv N ∧ Lv N) ∧ sLo N = -4 ∧ sM N ≤ 999 ∧ ∃ d e, RM d e τ.1 N) ∧ (∃ Q, RX 1 σ.1 Q) ∧ Pic σ τ ∧ ∀ d, d < 8 → Shd d σ τ
def Rel (σ τ : Mm) : Prop := ∃ N, Rl N σ τ
def Ag (X M : Option (Int32 × Mm)) : Prop := OkO X (fun p => OkO M (fun q => p.1 = q.1 ∧ Rel p.2 q.2))
/-- only the houses 0 and 1 have changed -/
def FX (σ σ' : Mm) : Prop := (∀ id k, (id = 0 ∨ 43 ≤ id) → σ'.1 id k = σ.1 id k) ∧ σ'.2 = σ.2
theorem FX.rf {σ : Mm} : FX σ σ := ⟨fun _ _ _ => rfl, rfl⟩
theorem FX.tr {a b c : Mm} (x : FX a b) (y : FX b c) : FX a c := ⟨fun id k h => (y.1 id k h).trans (x.1 id k h), y.2.trans x.2⟩
theorem XS.fx {h : Nat} {μ0 μ : Mm} {S : Hs} (R : XS h μ0 μ S) (hh : h < 2) : FX μ0 μ := ⟨fun id k hq => R.2.1 id k (by omega), R.2.2⟩
theorem Shd.fr {d : Nat} {σ σ' τ τ' : Mm} (h : Shd d σ τ) (A : FX σ σ') (B : FN τ τ') : Shd d σ' τ' := by
  have e1 : ∀ k, σ'.1 (65 + 2 * d) k = σ.1 (65 + 2 * d) k := fun k => A.1 _ _ (by omega)
  have e2 : ∀ k, σ'.1 (66 + 2 * d) k = σ.1 (66 + 2 * d) k := fun k => A.1 _ _ (by omega)
  unfold Shd
  rw [B.2.2]
  simp only [e1, e2, B.1 22 d (by decide), B.1 23 d (by decide), B.1 24 d (by decide), B.1 25 d (by decide), B.1 26 d (by decide)]
  exact h
theorem RX.cp {h : Nat} {f f' : Nat → Nat → Int32} {N : Hs} (R : RX h f N) (hq : ∀ id k, 1 + 21 * h ≤ id → id < 22 + 21 * h → f' id k = f id k) : RX h f' N := by
  have hb := R.1
  unfold RX
  have e1 : ∀ k, f' (hI h) k = f (hI h) k := fun k => hq _ _ (by unfold hI; omega) (by unfold hI; omega)
  refine ⟨hb, ?_, ⟨fun i hi => ?_, fun i hi => ?_⟩, fun i k hi hk h4 => ?_, fun i hi hl => ?_, fun i k hi hk => ?_⟩
  · simp only [e1]; exact R.2.1
  · rw [hq _ _ (by unfold gI; omega) (by unfold gI; omega)]; exact R.2.2.1.1 i hi
  · rw [hq _ _ (by unfold pI; omega) (by unfold pI; omega)]; exact R.2.2.1.2 i hi
  · rw [hq _ _ (by unfold gI; omega) (by unfold gI; omega)]; exact R.2.2.2.1 i k hi hk h4
  · rw [hq _ _ (by unfold gI; omega) (by unfold gI; omega)]; exact R.2.2.2.2.1 i hi hl
  · rw [hq _ _ (by unfold pI; omega) (by unfold pI; omega)]; exact R.2.2.2.2.2 i k hi hk
theorem Pic.fr {σ σ' τ τ' : Mm} (h : Pic σ τ) (A : FX σ σ') (B : FN τ τ') : Pic σ' τ' := by
  obtain ⟨h1, h2, P, h3, h4⟩ := h
  have e1 : σ'.1 0 3 = σ.1 0 3 := A.1 0 3 (Or.inl rfl)
  refine ⟨by rw [e1, B.2.1]; exact h1, by rw [e1]; exact h2, P, h3.cp (fun id k q _ => A.1 id k (Or.inr (by omega))), fun z => ?_⟩
  obtain ⟨a, b, c, f⟩ := h4 (e1 ▸ z)
  exact ⟨a, b, c, f.cg (fun i => B.1 18 i (Nat.le_refl _))⟩
theorem Rl.up {N N' : Hs} {σ σ' τ τ' : Mm} {d e : Int32} (h : Rl N σ τ) (A : FX σ σ') (B : FN τ τ') (h1 : RX 0 σ'.1 N') (h2 : Iv N' ∧ Lv N') (h3 : sLo N' = -4) (h4 : sM N' ≤ 999) (h5 : RM d e τ'.1 N') (h6 : ∃ Q, RX 1 σ'.1 Q) : Rl N' σ' τ' :=
  ⟨⟨h1, h2, h3, h4, d, e, h5⟩, h6, h.2.2.1.fr A B, fun i hi => (h.2.2.2 i hi).fr A B⟩
theorem Rl.t {N : Hs} {σ τ τ' : Mm} (h : Rl N σ τ) (e1 : ∀ a k, ¬ (a = 0 ∧ 23 ≤ k ∧ k ≠ 26) → τ'.1 a k = τ.1 a k) (e2 : τ'.2.1 = τ.2.1) : Rl N σ τ' := by
  obtain ⟨⟨h1, h2, h3, h4, d, e, a, b, c, f⟩, h6, h7, h8⟩ := h
  refine ⟨⟨h1, h2, h3, h4, d, e, a, ?_, fun i k hi hk => ?_, fun i k hi hk => ?_⟩, h6, h7.fr FX.rf ⟨fun a i ha => e1 a i (by omega), e1 0 26 (by omega), e2⟩, fun i hi => (h8 i hi).fr FX.rf ⟨fun a i ha => e1 a i (by omega), e1 0 26 (by omega), e2⟩⟩
  · simp only [e1 0 0 (by omega), e1 0 1 (by omega), e1 0 2 (by omega), e1 0 3 (by omega), e1 0 20 (by omega), e1 0 21 (by omega), e1 0 22 (by omega)]; exact b
  · rw [e1 _ _ (by omega)]; exact c i k hi hk
  · rw [e1 _ _ (by omega)]; exact f i k hi hk
theorem m_t {β : Type} {N : Hs} {σ τ : Mm} {K : Mm → Option β} {P : β → Prop} (R : Rl N σ τ) (hk : ∀ τ', Rl N σ τ' → OkO (K τ') P) : OkO (ob (jpi YM 5 23 τ (some 0) 0) K) P :=
  okJ (okR (x := (y2 τ.1 0 23 0, τ.2.1, τ.2.2)) (hk _ (R.t (fun a k hq => y2_o _ _ (by omega)) rfl)))
theorem Rl.x {N : Hs} {σ τ : Mm} (R : Rl N σ τ) : XS 0 σ σ N := XS.rf R.1.1
theorem Rl.m {N : Hs} {σ τ : Mm} (R : Rl N σ τ) : ∃ d e, MS d e τ τ N := by
  obtain ⟨d, e, h⟩ := R.1.2.2.2.2
  exact ⟨d, e, MS.rf h⟩
theorem Rl.both {N N' : Hs} {σ σ' τ τ' : Mm} {d e : Int32} (R : Rl N σ τ) (X : XS 0 σ σ' N') (M : MS d e τ τ' N') (h2 : Iv N' ∧ Lv N') (h3 : sLo N' = -4) (h4 : sM N' ≤ 999) : Rel σ' τ' := by
  obtain ⟨Q, hQ⟩ := R.2.1
  exact ⟨N', R.up (X.fx (by decide)) M.fn X.1 h2 h3 h4 M.1 ⟨Q, hQ.fr X.2.1 (by decide)⟩⟩
theorem x_r {P : Option Nat → Prop} {k : Nat} (id : Nat) (h : P (some id)) (hk : rfX 0 k = some id := by rfl) : OkO (jgr YX 4 k (some 0)) P := okE (by show some (rfX 0 k) = _; rw [hk]) h
theorem x_k {P : Nat → Prop} (h : P 0) : OkO (jk YX 4 (some 0)) P := okE rfl h
