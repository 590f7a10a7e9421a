/-! PURE 56: how many statements -/
def cn (B : Nat → Int32) (x : Nat) : Nat := it (fun i a => if B i = 59 then a + 1 else a) 0 x
theorem cn_s {B : Nat → Int32} {x : Nat} : cn B (x + 1) = if B x = 59 then cn B x + 1 else cn B x := rfl
theorem cn_r {B : Nat → Int32} {x : Nat} : ∀ r, (∀ j, j < r → ¬ B (x + j) = 59) → cn B (x + r) = cn B x := by
  intro r
  induction r with
  | zero => intro _; rfl
  | succ r ih =>
    intro h
    rw [show x + (r + 1) = x + r + 1 by omega, cn_s, if_neg (h r (by omega))]
    exact ih (fun j hj => h j (by omega))
theorem ms59 : ms 59 = none := by decide
theorem okS_cn {B : Nat → Int32} {n x : Nat} (h : okS B n x) : cn B (eV B n x + 1) = cn B x + 1 := by
  obtain ⟨m, h1, h2, h3, h4⟩ := h
  have hE : eV B n x = x + 1 + nd B n (x + 1) m := by unfold eV; rw [h1]
  have hx : ¬ B x = 59 := by
    intro q
    unfold mt at h1
    by_cases q2 : x < n
    · rw [if_pos q2, q, ms59] at h1; cases h1
    · rw [if_neg q2] at h1; cases h1
  rw [cn_s, if_pos h4]
  have e : cn B (eV B n x) = cn B x := by
    rw [hE, show x + 1 + nd B n (x + 1) m = x + (nd B n (x + 1) m + 1) by omega]
    refine cn_r _ (fun j hj => ?_)
    cases j with
    | zero => exact hx
    | succ j =>
      have := nd_d (B := B) (n := n) m (x + 1) j (by omega)
      rw [show x + (j + 1) = x + 1 + j by omega]
      intro q
      rw [dg, q] at this
      exact absurd this.2.2 (by decide)
  rw [e]
theorem cn_K {B : Nat → Int32} {n : Nat} : ∀ k, (∀ j, j < k → okS B n (pS B n j)) → cn B (pS B n k) = k := by
  intro k
  induction k with
  | zero => intro _; rfl
  | succ k ih =>
    intro h
    show cn B (eV B n (pS B n k) + 1) = k + 1
    rw [okS_cn (h k (by omega)), ih (fun j hj => h j (by omega))]
theorem Fl_u {B : Nat → Int32} {n K : Nat} (h : Fl B n K) : cn B n = K := by
  obtain ⟨h1, h2, h3, h4⟩ := h
  have := cn_K K h2
  rw [h4] at this
  exact this
theorem Fl_le {B : Nat → Int32} {n K : Nat} (h : Fl B n K) : 2 * K ≤ n := by
  have := pS_ge K h.2.1
  rw [h.2.2.2] at this
  exact this
theorem cn_le {B : Nat → Int32} : ∀ x, cn B x ≤ x := by
  intro x
  induction x with
  | zero => exact Nat.le_refl _
  | succ x ih =>
    rw [cn_s]
    by_cases q : B x = 59
    · rw [if_pos q]; omega
    · rw [if_neg q]; omega
section TZ
variable {u : Mm} {F d n x : Nat} {c : Int32}
theorem t_cnt {P : Int32 × Mm → Prop} (hd : d < 8) (hn : n ≤ 100) (en : u.1 (65 + 2 * d) 4 = nI n) (hF : 300 ≤ F) (h : P (nI (cn (u.1 (66 + 2 * d)) n), u)) : OkO (f_T_statementsIn F u (some (65 + 2 * d))) P := by
  unfold f_T_statementsIn
  refine lpA (A := Int32) (L := fun m v a i => f_T_statementsIn_L4 F (some (65 + 2 * d)) _ m v a i) n (fun i v a => v = u ∧ a = nI (cn (u.1 (66 + 2 * d)) i)) (fun m v a hq => ?_) (fun m i v a hi hq hk => ?_) n 0 F u 0 (by omega) (by omega) ⟨rfl, rfl⟩
  · obtain ⟨hu, ha⟩ := hq
    subst hu
    subst ha
    simp only [f_T_statementsIn_L4]
    refine okJ (x_sg 4 hd ?_)
    rw [en]
    exact okT (nI_le (Nat.le_refl _) (by omega)) (okR h)
  · obtain ⟨hu, ha⟩ := hq
    subst hu
    subst ha
    simp only [f_T_statementsIn_L4]
    refine okJ (x_sg 4 hd ?_)
    rw [en]
    refine okF (nI_ge hi (by omega)) (okY (t_at hd hn en (by omega) (fun c1 c2 => okJ (okF i1n (okJ (okR (okR (okJ (okR ?_))))))) (fun c1 => okJ (okT rfl (okR (okJ (okR ?_)))))))
    · rw [nI_1 i]
      refine hk v _ ⟨rfl, ?_⟩
      rw [nI_1, cn_s]
      exact congrArg nI (if_pos c2).symm
    · rw [nI_1 i]
      refine hk v _ ⟨rfl, ?_⟩
      rw [cn_s]
      exact congrArg nI (if_neg (fun y => c1 ⟨hi, y⟩)).symm
end TZ
