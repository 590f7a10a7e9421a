/-! PURE 66: the reference reads a whole text -/
section RP
variable {d n x k F i : Nat} {τ u : Mm} {bad : Int32} {B : Nat → Int32}
theorem ms_some {c : Int32} {m : Nat} (h : ms c = some m) : c = 99 ∨ c = 103 ∨ c = 104 ∨ c = 109 ∨ c = 112 ∨ c = 116 := by
  unfold ms at h
  by_cases h1 : c = 99
  · exact Or.inl h1
  · by_cases h2 : c = 103
    · exact Or.inr (Or.inl h2)
    · by_cases h3 : c = 104
      · exact Or.inr (Or.inr (Or.inl h3))
      · by_cases h4 : c = 109
        · exact Or.inr (Or.inr (Or.inr (Or.inl h4)))
        · by_cases h5 : c = 112
          · exact Or.inr (Or.inr (Or.inr (Or.inr (Or.inl h5))))
          · by_cases h6 : c = 116
            · exact Or.inr (Or.inr (Or.inr (Or.inr (Or.inr h6))))
            · rw [if_neg h1, if_neg h2, if_neg h3, if_neg h4, if_neg h5, if_neg h6] at h; cases h
theorem mt_some {m : Nat} (h : mt B n x = some m) : x < n ∧ ms (B x) = some m := by
  unfold mt at h
  by_cases q : x < n
  · rw [if_pos q] at h; exact ⟨q, h⟩
  · rw [if_neg q] at h; cases h
theorem m_rs {P : Unit × Mm → Prop} (hd : d < 8) (hn : n ≤ 100) (hB : RB d τ B) (hF : 100 ≤ F) (hk : k ≤ 50) (hx : x < 900) (H : Rd d n τ u x 0 k) (hy : okS B n x → ∀ u', Rd d n τ u' (eV B n x + 1) 0 (k + 1) → u'.1 19 k = nI x → u'.1 20 k = B x → TV B n u'.1 k x → Old k u u' → P ((), u')) (hno : ¬ okS B n x → ∀ u', Rd d n τ u' (eV B n x) 1 (k + 1) → P ((), u')) : OkO (f_M_readStatement F u 0) P := by
  cases hmt : mt B n x with
  | none => exact m_rs_0 hd hn hB hF hk hx H hmt hno
  | some m =>
    obtain ⟨h1, h2⟩ := mt_some hmt
    rcases ms_some h2 with c | c | c | c | c | c
    · exact m_rs_c hd hn hB hF hk H h1 c hy hno
    · exact m_rs_g hd hn hB hF hk H h1 c hy hno
    · exact m_rs_h hd hn hB hF hk H h1 c hy hno
    · exact m_rs_m hd hn hB hF hk H h1 c hy hno
    · exact m_rs_p hd hn hB hF hk H h1 c hy hno
    · exact m_rs_t hd hn hB hF hk H h1 c hy hno
def Td (B : Nat → Int32) (n : Nat) (t : Nat → Nat → Int32) (j : Nat) : Prop := t 19 j = nI (pS B n j) ∧ t 20 j = B (pS B n j) ∧ TV B n t j (pS B n j)
theorem Td.old {u' : Mm} {j : Nat} (h : Td B n u.1 j) (ho : Old k u u') (hj : j < k) : Td B n u'.1 j := by
  obtain ⟨h1, h2, a, b, c, e, f⟩ := h
  have q : ∀ i, i < 5 → u'.1 21 (5 * j + i) = u.1 21 (5 * j + i) := fun i hi => ho.2 _ (by omega)
  have q0 : u'.1 21 (5 * j) = u.1 21 (5 * j) := ho.2 _ (by omega)
  refine ⟨(ho.1 j hj).1.trans h1, (ho.1 j hj).2.trans h2, fun z i hi => (q i (by omega)).trans (a z i hi), fun z i hi => (q i hi).trans (b z i hi), fun z => q0.trans (c z), fun z => ⟨q0.trans (e z).1, (q 1 (by decide)).trans (e z).2⟩, fun z => ⟨fun y => q0.trans ((f z).1 y), fun y => q0.trans ((f z).2 y)⟩⟩
theorem m_read {P : Int32 × Mm → Prop} {kk : Mm → Option (Int32 × Mm)} (hd : d < 8) (hn : n ≤ 100) (hB : RB d τ B) (hF : 100 ≤ F) (H : Rd d n τ u 0 0 0) (hA : ∀ k u', Gd B n k → ¬ okS B n (pS B n k) → Rd d n τ u' (eV B n (pS B n k)) 1 (k + 1) → OkO (kk u') P) (hG : ∀ K u', Fl B n K → Rd d n τ u' n 0 K → (∀ j, j < K → Td B n u'.1 j) → OkO (kk u') P) : OkO (f_M_house_L51 F (some 0) kk F u) P := by
  have key : ∀ r k q u, k + r = 60 → r < q → Gd B n k → pS B n k ≤ n → Rd d n τ u (pS B n k) 0 k → (∀ j, j < k → Td B n u.1 j) → OkO (f_M_house_L51 F (some 0) kk q u) P := by
    intro r
    induction r with
    | zero =>
      intro k q u hk hq g hp R T
      have h3 := pS_ge k g.1
      omega
    | succ r ih =>
      intro k q u hk hq g hp R T
      obtain ⟨q', rfl⟩ : ∃ q', q = q' + 1 := ⟨q - 1, by omega⟩
      have h3 := pS_ge k g.1
      have nx : (k = 0 ∨ pS B n k < n) → OkO (ob (jk YM 5 (some 0)) fun t => yb (f_M_readStatement F u t) fun v16 u17 => f_M_house_L51 F (some 0) kk q' u17) P := by
        intro hlt
        refine okJ (m_k (okY (m_rs hd hn hB hF (by omega) (by omega) R (fun ok u' R' e19 e20 tv ho => ?_) (fun nok u' R' => ?_))))
        · have he := okS_e ok
          have hT : ∀ j, j < k + 1 → Td B n u'.1 j := by
            intro j hj
            by_cases z : j = k
            · subst z; exact ⟨e19, e20, tv⟩
            · exact (T j (by omega)).old ho (by omega)
          have g1 : ∀ j, j < k + 1 → okS B n (pS B n j) := fun j hj => by
            by_cases z : j = k
            · subst z; exact ok
            · exact g.1 j (by omega)
          by_cases c : pS B n (k + 1) < n
          · have g2 : ∀ j, 0 < j → j ≤ k + 1 → pS B n j < n := fun j y1 y2 => by
              by_cases z : j = k + 1
              · subst z; exact c
              · exact g.2 j y1 (by omega)
            exact ih (k + 1) q' u' (by omega) (by omega) ⟨g1, g2⟩ (by omega) R' hT
          · have hKn : pS B n (k + 1) = n := by
              have : eV B n (pS B n k) + 1 = pS B n (k + 1) := rfl
              omega
            have R2 : Rd d n τ u' (pS B n (k + 1)) 0 (k + 1) := R'
            rw [hKn] at R2
            obtain ⟨q2, rfl⟩ : ∃ q2, q' = q2 + 1 := ⟨q' - 1, by omega⟩
            simp only [f_M_house_L51]
            refine okJ (m_x ?_)
            rw [R2.1.2.2.2.1]
            refine okT rfl (okJ (m_x ?_))
            rw [R2.1.2.2.2.2]
            refine okF (fun z => absurd (nIi (a := k + 1) (b := 0) (by omega) (by decide) z) (by omega)) (okJ (m_x ?_))
            rw [R2.1.2.2.1]
            refine okJ (m_x ?_)
            rw [R2.1.2.1]
            exact okT (nI_le (Nat.le_refl _) (by omega)) (hG (k + 1) u' ⟨by omega, g1, fun j y1 y2 => g.2 j y1 (by omega), hKn⟩ R2 hT)
        · obtain ⟨q2, rfl⟩ : ∃ q2, q' = q2 + 1 := ⟨q' - 1, by omega⟩
          simp only [f_M_house_L51]
          refine okJ (m_x ?_)
          rw [R'.1.2.2.2.1]
          exact okF i1n (hA k u' g nok R')
      simp only [f_M_house_L51]
      refine okJ (m_x ?_)
      rw [R.1.2.2.2.1]
      refine okT rfl (okJ (m_x ?_))
      rw [R.1.2.2.2.2]
      rcases Nat.eq_zero_or_pos k with z | z
      · subst z
        exact okT rfl (nx (Or.inl rfl))
      · have hlt := g.2 k z (Nat.le_refl _)
        refine okF (fun y => absurd (nIi (a := k) (b := 0) (by omega) (by decide) y) (by omega)) (okJ (m_x ?_))
        rw [R.1.2.2.1]
        refine okJ (m_x ?_)
        rw [R.1.2.1]
        exact okF (nI_ge hlt (by omega)) (nx (Or.inr hlt))
  exact key 60 0 F u rfl (by omega) ⟨fun j hj => absurd hj (Nat.not_lt_zero j), fun j h1 h2 => by omega⟩ (Nat.zero_le _) H (fun j hj => absurd hj (Nat.not_lt_zero j))
theorem Gd_u {k' : Nat} (h : Gd B n k) (h1 : ¬ okS B n (pS B n k)) (h' : Gd B n k') (h2 : ¬ okS B n (pS B n k')) : k = k' := by
  rcases Nat.lt_trichotomy k k' with q | q | q
  · exact absurd (h'.1 k q) h1
  · exact q
  · exact absurd (h.1 k' q) h2
theorem Gd_n {K : Nat} (h : Gd B n k) (h1 : ¬ okS B n (pS B n k)) (h' : Fl B n K) : False := by
  rcases Nat.lt_or_ge k K with q | q
  · exact h1 (h'.2.1 k q)
  · have := h.2 K h'.1 q
    have := h'.2.2.2
    omega
end RP
