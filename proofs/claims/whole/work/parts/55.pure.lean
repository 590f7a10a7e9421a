/-! PURE 55: a text's statements, their places -/
noncomputable def pS (B : Nat → Int32) (n : Nat) : Nat → Nat
  | 0 => 0
  | k + 1 => eV B n (pS B n k) + 1
def Gd (B : Nat → Int32) (n k : Nat) : Prop := (∀ j, j < k → okS B n (pS B n j)) ∧ ∀ j, 0 < j → j ≤ k → pS B n j < n
def Fl (B : Nat → Int32) (n K : Nat) : Prop := 0 < K ∧ (∀ j, j < K → okS B n (pS B n j)) ∧ (∀ j, 0 < j → j < K → pS B n j < n) ∧ pS B n K = n
theorem okS_e {B : Nat → Int32} {n x : Nat} (h : okS B n x) : x < eV B n x ∧ eV B n x < n := by
  obtain ⟨m, h1, h2, h3, h4⟩ := h
  refine ⟨?_, h3⟩
  unfold eV
  rw [h1]
  show x < x + 1 + _
  omega
theorem pS_ge {B : Nat → Int32} {n : Nat} : ∀ k, (∀ j, j < k → okS B n (pS B n j)) → 2 * k ≤ pS B n k := by
  intro k
  induction k with
  | zero => intro _; exact Nat.le_refl _
  | succ k ih =>
    intro h
    have h1 := ih (fun j hj => h j (by omega))
    have h2 := okS_e (h k (by omega))
    show 2 * (k + 1) ≤ eV B n (pS B n k) + 1
    omega
section TY
variable {u : Mm} {F d n x : Nat} {c : Int32}
theorem t_whole {P : Int32 × Mm → Prop} (hd : d < 8) (hn : n ≤ 100) (en : u.1 (65 + 2 * d) 4 = nI n) (hx : x < 900) (h1 : okS (u.1 (66 + 2 * d)) n x → P (1, u)) (h0 : ¬ okS (u.1 (66 + 2 * d)) n x → P (0, u)) : OkO (f_T_isWhole F u (some (65 + 2 * d)) (nI x) (nI (eV (u.1 (66 + 2 * d)) n x))) P := by
  unfold f_T_isWhole
  cases hmt : mt (u.1 (66 + 2 * d)) n x with
  | none =>
    have hE : eV (u.1 (66 + 2 * d)) n x = x := by unfold eV; rw [hmt]
    rw [hE]
    refine okT (nI_le (Nat.le_refl _) (by omega)) (okJ (okz (Or.inl rfl) (okR (h0 (fun y => ?_)))))
    obtain ⟨m, e, -⟩ := y
    rw [hmt] at e; cases e
  | some m =>
    have q : x < n := by
      unfold mt at hmt
      by_cases q : x < n
      · exact q
      · rw [if_neg q] at hmt; cases hmt
    have hms : ms (u.1 (66 + 2 * d) x) = some m := by unfold mt at hmt; rw [if_pos q] at hmt; exact hmt
    have h5 := ms_le hms
    have hE : eV (u.1 (66 + 2 * d)) n x = x + 1 + nd (u.1 (66 + 2 * d)) n (x + 1) m := by unfold eV; rw [hmt]
    have hnd := nd_le (B := u.1 (66 + 2 * d)) (n := n) m (x + 1)
    refine okF (nI_ge (by omega) (by omega)) (okJ (x_sk hd (okY (t_ela hd (by omega) ?_))))
    have least : ∀ {P : Int32 × Mm → Prop}, P (nI (lst (u.1 (66 + 2 * d) x) m), u) → OkO (f_T_leastDigits F u (u.1 (66 + 2 * d) x)) P := by
      intro P hP
      unfold f_T_leastDigits
      unfold lst at hP
      refine okI (fun c1 => okR (by rw [if_pos c1] at hP; exact hP)) (fun c1 => okY (t_most (okR ?_)))
      rw [if_neg c1] at hP
      rw [hms]; exact hP
    refine okY (least ?_)
    have e1 : nI (eV (u.1 (66 + 2 * d)) n x) - nI x - 1 = nI (nd (u.1 (66 + 2 * d)) n (x + 1) m) := by
      rw [hE, pk_sub (by omega), show x + 1 + nd (u.1 (66 + 2 * d)) n (x + 1) m - x = nd (u.1 (66 + 2 * d)) n (x + 1) m + 1 by omega, nI_pred]
    have hl : lst (u.1 (66 + 2 * d) x) m ≤ 5 := by
      unfold lst
      by_cases q : u.1 (66 + 2 * d) x = 116
      · rw [if_pos q]; omega
      · rw [if_neg q]; omega
    rw [e1]
    refine okI (fun c1 => okJ (okz (Or.inl rfl) (okR (h0 (fun y => ?_))))) (fun c1 => ?_)
    · obtain ⟨m', e, h2, -⟩ := y
      rw [hmt] at e; cases e
      have := (nI_ltI (a := nd (u.1 (66 + 2 * d)) n (x + 1) m) (b := lst (u.1 (66 + 2 * d) x) m) (by omega) (by omega)).mp c1
      omega
    · have h2 : lst (u.1 (66 + 2 * d) x) m ≤ nd (u.1 (66 + 2 * d)) n (x + 1) m := by
        rcases Nat.lt_or_ge (nd (u.1 (66 + 2 * d)) n (x + 1) m) (lst (u.1 (66 + 2 * d) x) m) with y | y
        · exact absurd (nI_lt y (by omega)) c1
        · exact y
      refine okY (t_at hd hn en (by omega) (fun y1 y2 => okF i1n (okJ (okz (Or.inr rfl) (okR (h1 ⟨m, hmt, h2, y1, y2⟩))))) (fun y => okT rfl (okJ (okz (Or.inl rfl) (okR (h0 (fun z => ?_)))))))
      obtain ⟨m', e, -, z1, z2⟩ := z
      exact y ⟨z1, z2⟩
theorem t_break {P : Int32 × Mm → Prop} (hd : d < 8) (hn : n ≤ 100) (en : u.1 (65 + 2 * d) 4 = nI n) (hF : 300 ≤ F) (hA : ∀ k, Gd (u.1 (66 + 2 * d)) n k → ¬ okS (u.1 (66 + 2 * d)) n (pS (u.1 (66 + 2 * d)) n k) → P (nI (eV (u.1 (66 + 2 * d)) n (pS (u.1 (66 + 2 * d)) n k)), u)) (hB : ∀ K, Fl (u.1 (66 + 2 * d)) n K → P (-4, u)) : OkO (f_T_breakIn F u (some (65 + 2 * d))) P := by
  unfold f_T_breakIn
  refine lpA (A := Int32) (L := fun m v a i => f_T_breakIn_L4 F (some (65 + 2 * d)) _ m v a i) (n + 1) (fun i v a => v = u ∧ a = nI (pS (u.1 (66 + 2 * d)) n i) ∧ Gd (u.1 (66 + 2 * d)) n i) (fun m v a hq => ?_) (fun m i v a hi hq hk => ?_) (n + 1) 0 F u 0 (by omega) (by omega) ⟨rfl, rfl, fun j hj => absurd hj (Nat.not_lt_zero j), fun j h1 h2 => by omega⟩
  · obtain ⟨-, -, h1, h2⟩ := hq
    have h3 := pS_ge (n + 1) h1
    have h4 := h2 (n + 1) (by omega) (Nat.le_refl _)
    omega
  · obtain ⟨hu, ha, h1, h2⟩ := hq
    subst hu
    subst ha
    have hp : pS (v.1 (66 + 2 * d)) n i < 900 := by
      rcases Nat.eq_zero_or_pos i with z | z
      · subst z; show 0 < 900; decide
      · have := h2 i z (Nat.le_refl _); omega
    simp only [f_T_breakIn_L4]
    refine okJ (x_sg 4 hd ?_)
    rw [en]
    refine okF (nI_nlt (by omega) (by omega)) (okY (t_end hd hn en hp (by omega) (okY (t_whole hd hn en hp (fun c1 => okF i1n (okJ (okR (okJ (x_sg 4 hd ?_))))) (fun c1 => okT rfl (okR (hA i ⟨h1, h2⟩ c1)))))))
    rw [en, nI_1]
    have c1 : okS (v.1 (66 + 2 * d)) n (pS (v.1 (66 + 2 * d)) n i) := c1
    have he := okS_e c1
    have g1 : ∀ j, j < i + 1 → okS (v.1 (66 + 2 * d)) n (pS (v.1 (66 + 2 * d)) n j) := fun j hj => by
      by_cases q : j = i
      · subst q; exact c1
      · exact h1 j (by omega)
    refine okI (fun c2 => okJ (okR ?_)) (fun c2 => okR (hB (i + 1) ⟨by omega, g1, fun j q1 q2 => h2 j q1 (by omega), ?_⟩))
    · rw [nI_1]
      have c3 := (nI_ltI (a := eV (v.1 (66 + 2 * d)) n (pS (v.1 (66 + 2 * d)) n i) + 1) (b := n) (by omega) (by omega)).mp c2
      refine hk v _ ⟨rfl, rfl, g1, fun j q1 q2 => ?_⟩
      by_cases q : j = i + 1
      · subst q; exact c3
      · exact h2 j q1 (by omega)
    · have c3 : ¬ eV (v.1 (66 + 2 * d)) n (pS (v.1 (66 + 2 * d)) n i) + 1 < n := fun y => c2 (nI_lt y (by omega))
      show eV (v.1 (66 + 2 * d)) n (pS (v.1 (66 + 2 * d)) n i) + 1 = n
      omega
end TY
