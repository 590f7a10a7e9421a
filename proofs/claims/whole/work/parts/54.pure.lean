/-! PURE 54: texts: letters, digits, where a statement ends -/
def dg (B : Nat → Int32) (n x : Nat) : Prop := x < n ∧ 48 ≤ B x ∧ B x ≤ 57
noncomputable def nd (B : Nat → Int32) (n : Nat) : Nat → Nat → Nat
  | _, 0 => 0
  | x, k + 1 => @ite _ (dg B n x) (Classical.propDecidable _) (nd B n (x + 1) k + 1) 0
def ms (c : Int32) : Option Nat := if c = 99 then some 1 else if c = 103 then some 4 else if c = 104 then some 3 else if c = 109 then some 0 else if c = 112 then some 5 else if c = 116 then some 2 else none
def msI : Option Nat → Int32
  | none => -1
  | some m => nI m
def mt (B : Nat → Int32) (n x : Nat) : Option Nat := if x < n then ms (B x) else none
noncomputable def eV (B : Nat → Int32) (n x : Nat) : Nat := match mt B n x with
  | none => x
  | some m => x + 1 + nd B n (x + 1) m
def lst (c : Int32) (m : Nat) : Nat := if c = 116 then 1 else m
def okS (B : Nat → Int32) (n x : Nat) : Prop := ∃ m, mt B n x = some m ∧ lst (B x) m ≤ nd B n (x + 1) m ∧ eV B n x < n ∧ B (eV B n x) = 59
theorem ms_le {c : Int32} {m : Nat} (h : ms c = some m) : m ≤ 5 := by
  unfold ms at h
  by_cases h1 : c = 99
  · rw [if_pos h1] at h; cases h; omega
  · rw [if_neg h1] at h
    by_cases h2 : c = 103
    · rw [if_pos h2] at h; cases h; omega
    · rw [if_neg h2] at h
      by_cases h3 : c = 104
      · rw [if_pos h3] at h; cases h; omega
      · rw [if_neg h3] at h
        by_cases h4 : c = 109
        · rw [if_pos h4] at h; cases h; omega
        · rw [if_neg h4] at h
          by_cases h5 : c = 112
          · rw [if_pos h5] at h; cases h; omega
          · rw [if_neg h5] at h
            by_cases h6 : c = 116
            · rw [if_pos h6] at h; cases h; omega
            · rw [if_neg h6] at h; cases h
theorem nd_le {B : Nat → Int32} {n : Nat} : ∀ k x, nd B n x k ≤ k := by
  intro k
  induction k with
  | zero => intro x; exact Nat.le_refl _
  | succ k ih =>
    intro x
    unfold nd
    rcases Classical.em (dg B n x) with c | c
    · rw [if_pos c]; have := ih (x + 1); omega
    · rw [if_neg c]; omega
theorem nd_y {B : Nat → Int32} {n k x : Nat} (c : dg B n x) : nd B n x (k + 1) = nd B n (x + 1) k + 1 := if_pos c
theorem nd_n {B : Nat → Int32} {n k x : Nat} (c : ¬ dg B n x) : nd B n x (k + 1) = 0 := if_neg c
theorem nd_d {B : Nat → Int32} {n : Nat} : ∀ k x j, j < nd B n x k → dg B n (x + j) := by
  intro k
  induction k with
  | zero => intro x j h; exact absurd h (Nat.not_lt_zero j)
  | succ k ih =>
    intro x j h
    rcases Classical.em (dg B n x) with c | c
    · rw [nd_y c] at h
      cases j with
      | zero => exact c
      | succ j =>
        have := ih (x + 1) j (by omega)
        rw [show x + (j + 1) = x + 1 + j by omega]
        exact this
    · rw [nd_n c] at h; exact absurd h (Nat.not_lt_zero j)
section TX
variable {u : Mm} {F d n x : Nat} {c : Int32}
theorem t_ela {P : Int32 × Mm → Prop} (hd : d < 8) (hx : x < 100) (h : P (u.1 (66 + 2 * d) x, u)) : OkO (f_S_elementAt F u (65 + 2 * d) (nI x)) P := x_ela hd hx h
theorem t_at {P : Int32 × Mm → Prop} (hd : d < 8) (hn : n ≤ 100) (en : u.1 (65 + 2 * d) 4 = nI n) (hx : x < 1000) (h1 : x < n → u.1 (66 + 2 * d) x = c → P (1, u)) (h0 : ¬ (x < n ∧ u.1 (66 + 2 * d) x = c) → P (0, u)) : OkO (f_T_isAt F u (some (65 + 2 * d)) (nI x) c) P := by
  unfold f_T_isAt
  refine okJ (x_sg 4 hd ?_)
  rw [en]
  by_cases q : x < n
  · refine okF (nI_ge q (by omega)) (okJ (x_sk hd (okY (t_ela hd (by omega) (okI (fun c1 => okJ (okz (Or.inr rfl) (okR (h1 q c1)))) (fun c1 => okJ (okz (Or.inl rfl) (okR (h0 (fun y => c1 y.2))))))))))
  · exact okT (nI_le (by omega) (by omega)) (okJ (okz (Or.inl rfl) (okR (h0 (fun y => q y.1)))))
theorem t_dig {P : Int32 × Mm → Prop} (hd : d < 8) (hn : n ≤ 100) (en : u.1 (65 + 2 * d) 4 = nI n) (hx : x < 1000) (h1 : dg (u.1 (66 + 2 * d)) n x → P (1, u)) (h0 : ¬ dg (u.1 (66 + 2 * d)) n x → P (0, u)) : OkO (f_T_isDigit F u (some (65 + 2 * d)) (nI x)) P := by
  unfold f_T_isDigit
  refine okJ (x_sg 4 hd ?_)
  rw [en]
  by_cases q : x < n
  · refine okF (nI_ge q (by omega)) (okJ (x_sk hd (okY (t_ela hd (by omega) (okI (fun c1 => okJ (okz (Or.inl rfl) (okR (h0 (fun y => absurd y.2.1 (xnle.mpr c1)))))) (fun c1 => okJ (x_sk hd (okY (t_ela hd (by omega) (okI (fun c2 => okJ (okz (Or.inl rfl) (okR (h0 (fun y => absurd y.2.2 (xnle.mpr c2)))))) (fun c2 => okJ (okz (Or.inr rfl) (okR (h1 ⟨q, xnlt.mp c1, xnlt.mp c2⟩))))))))))))))
  · exact okT (nI_le (by omega) (by omega)) (okJ (okz (Or.inl rfl) (okR (h0 (fun y => q y.1)))))
theorem t_most {P : Int32 × Mm → Prop} (h : P (msI (ms c), u)) : OkO (f_T_mostDigits F u c) P := by
  unfold f_T_mostDigits
  unfold ms at h
  refine okI (fun c1 => okR (by rw [if_pos c1] at h; exact h)) (fun c1 => ?_)
  rw [if_neg c1] at h
  refine okI (fun c1 => okR (by rw [if_pos c1] at h; exact h)) (fun c1 => ?_)
  rw [if_neg c1] at h
  refine okI (fun c1 => okR (by rw [if_pos c1] at h; exact h)) (fun c1 => ?_)
  rw [if_neg c1] at h
  refine okI (fun c1 => okR (by rw [if_pos c1] at h; exact h)) (fun c1 => ?_)
  rw [if_neg c1] at h
  refine okI (fun c1 => okR (by rw [if_pos c1] at h; exact h)) (fun c1 => ?_)
  rw [if_neg c1] at h
  refine okI (fun c1 => okR (by rw [if_pos c1] at h; exact h)) (fun c1 => ?_)
  rw [if_neg c1] at h
  exact okR h
theorem t_end {P : Int32 × Mm → Prop} (hd : d < 8) (hn : n ≤ 100) (en : u.1 (65 + 2 * d) 4 = nI n) (hx : x < 900) (hF : 100 ≤ F) (h : P (nI (eV (u.1 (66 + 2 * d)) n x), u)) : OkO (f_T_digitsEnd F u (some (65 + 2 * d)) (nI x)) P := by
  unfold f_T_digitsEnd
  refine okJ (x_sg 4 hd ?_)
  rw [en]
  have lp : ∀ m, mt (u.1 (66 + 2 * d)) n x = some m → OkO (f_T_digitsEnd_L30 F (some (65 + 2 * d)) (nI x) (nI m) (fun u14 x15 => some (((nI x + 1) + x15), u14)) F u 0) P := by
    intro m hm
    have hm5 : m ≤ 5 := by
      unfold mt at hm
      by_cases q : x < n
      · rw [if_pos q] at hm; exact ms_le hm
      · rw [if_neg q] at hm; cases hm
    have hE : eV (u.1 (66 + 2 * d)) n x = x + 1 + nd (u.1 (66 + 2 * d)) n (x + 1) m := by unfold eV; rw [hm]
    rw [hE] at h
    have key : ∀ r j q, j + r = m → r < q → j + nd (u.1 (66 + 2 * d)) n (x + 1 + j) r = nd (u.1 (66 + 2 * d)) n (x + 1) m → OkO (f_T_digitsEnd_L30 F (some (65 + 2 * d)) (nI x) (nI m) (fun u14 x15 => some (((nI x + 1) + x15), u14)) q u (nI j)) P := by
      intro r
      induction r with
      | zero =>
        intro j q hj hq he
        obtain ⟨q', rfl⟩ : ∃ q', q = q' + 1 := ⟨q - 1, by omega⟩
        simp only [f_T_digitsEnd_L30]
        refine okT (nI_le (by omega) (by omega)) (okR ?_)
        rw [nI_1, nI_add, show x + 1 + j = x + 1 + nd (u.1 (66 + 2 * d)) n (x + 1) m by rw [← he]; rfl]
        exact h
      | succ r ih =>
        intro j q hj hq he
        obtain ⟨q', rfl⟩ : ∃ q', q = q' + 1 := ⟨q - 1, by omega⟩
        simp only [f_T_digitsEnd_L30]
        refine okF (nI_ge (by omega) (by omega)) ?_
        rw [nI_1, nI_add]
        refine okY (t_dig hd hn en (by omega) (fun c1 => okF i1n (okJ (okR ?_))) (fun c1 => okT rfl (okR ?_)))
        · rw [nI_1]
          rw [nd_y c1] at he
          have := ih (j + 1) q' (by omega) (by omega) (by rw [← he, show x + 1 + (j + 1) = x + 1 + j + 1 by omega]; omega)
          rw [nI_1] at this
          exact this
        · rw [nd_n c1] at he
          rw [show x + 1 + j = x + 1 + nd (u.1 (66 + 2 * d)) n (x + 1) m by omega]
          exact h
    exact key m 0 F (by omega) (by omega) (by rw [Nat.add_zero, Nat.zero_add])
  by_cases q : x < n
  · refine okJ (okF (nI_ge q (by omega)) (okJ (x_sk hd (okY (t_ela hd (by omega) (okY (t_most (okR ?_))))))))
    cases hms : ms (u.1 (66 + 2 * d) x) with
    | none =>
      have hE : eV (u.1 (66 + 2 * d)) n x = x := by unfold eV mt; rw [if_pos q, hms]
      rw [hE] at h
      exact okT rfl (okR h)
    | some m =>
      have h5 := ms_le hms
      refine okF (fun z => absurd (show nI m = -1 from z) (fun y => nI_pos (n := m) (by omega) (by rw [y]; decide))) (lp m ?_)
      unfold mt
      rw [if_pos q, hms]
  · refine okJ (okT (nI_le (by omega) (by omega)) (okR (okT rfl (okR ?_))))
    have hE : eV (u.1 (66 + 2 * d)) n x = x := by unfold eV mt; rw [if_neg q]
    rw [hE] at h
    exact h
end TX
