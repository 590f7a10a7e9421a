/-! PURE 62: no letter -/
theorem ms_no {c : Int32} (h : ms c = none) : ¬ c = 99 ∧ ¬ c = 103 ∧ ¬ c = 104 ∧ ¬ c = 109 ∧ ¬ c = 112 ∧ ¬ c = 116 := by
  refine ⟨?_, ?_, ?_, ?_, ?_, ?_⟩ <;> (rintro rfl; exact absurd h (by decide))
section RL
variable {d n x k F i : Nat} {τ u : Mm} {bad : Int32} {B : Nat → Int32}
theorem m_rs_0 {P : Unit × Mm → Prop} (hd : d < 8) (hn : n ≤ 100) (hB : RB d τ B) (hF : 100 ≤ F) (hk : k ≤ 50) (hx : x < 900) (H : Rd d n τ u x 0 k) (hmt : mt B n x = none) (hno : ¬ okS B n x → ∀ u', Rd d n τ u' (eV B n x) 1 (k + 1) → P ((), u')) : OkO (f_M_readStatement F u 0) P := by
  have hE : eV B n x = x := by unfold eV; rw [hmt]
  have nok : ¬ okS B n x := by
    rintro ⟨m, e, -⟩
    rw [hmt] at e; cases e
  have hne : ∀ c : Nat, c < 128 → (ms (nI c) ≠ none) → ¬ hV B n x = nI c := by
    intro c hc hms y
    obtain ⟨y1, y2⟩ := (hV_c hB.1 hn hc).mp y
    unfold mt at hmt
    rw [if_pos y1, y2] at hmt
    exact hms hmt
  have n103 := hne 103 (by decide) (by decide)
  have n112 := hne 112 (by decide) (by decide)
  have n104 := hne 104 (by decide) (by decide)
  have n99 := hne 99 (by decide) (by decide)
  have n116 := hne 116 (by decide) (by decide)
  have n109 := hne 109 (by decide) (by decide)
  unfold f_M_readStatement
  refine okJ (m_x ?_)
  rw [H.1.2.2.2.2]
  refine okJ (m_k (okY (m_here hd hn hB (by omega) H ?_)))
  generalize hV B n x = w at n103 n112 n104 n99 n116 n109 ⊢
  refine okJ (m_r 19 (okJ (m_x ?_)))
  rw [H.1.2.2.1]
  have H1 : Rd d n τ (y2 u.1 19 k (nI x), u.2.1, u.2.2) x 0 k := H.w (Or.inl rfl)
  refine okJ (m_51 (Or.inl rfl) hk (okJ (m_r 20 ?_)))
  have H2 : Rd d n τ (y2 (y2 u.1 19 k (nI x)) 20 k w, u.2.1, u.2.2) x 0 k := H1.w (Or.inr (Or.inl rfl))
  refine okJ (m_51 (Or.inr rfl) hk (okJ (m_x ?_)))
  rw [H2.1.2.2.2.1]
  refine okJ (okT rfl (okF n103 (okF n112 (okF n104 (okF n99 (okF n116 (okF n109 (okR ?_))))))))
  refine okJ (okE (x := (y2 (y2 (y2 u.1 19 k (nI x)) 20 k w) 0 33 1, u.2.1, u.2.2)) (by rw [jpz, if_pos (Or.inr rfl)]; rfl) ?_)
  have H3 := H2.b 1
  refine okJ (m_x ?_)
  rw [H3.1.2.2.1]
  refine okJ (m_x ?_)
  rw [H3.1.2.2.2.1]
  refine okJ (okF i1n (okR ?_))
  rw [Int32.add_zero]
  have H4 := H3.mv x
  refine okJ (okR (x := (y2 (y2 (y2 (y2 u.1 19 k (nI x)) 20 k w) 0 33 1) 0 32 (nI x), u.2.1, u.2.2)) ?_)
  refine okJ (okF n103 (okF n112 (okF n104 (okF n99 (okF n116 (okR ?_))))))
  obtain ⟨q, rfl⟩ : ∃ q, F = q + 1 := ⟨F - 1, by omega⟩
  simp only [f_M_readStatement_L147]
  refine okT (by decide) (okJ (okF n104 (okR (okJ (okF n116 (okR ?_))))))
  refine m_tail hd hn hB hx H4 (Or.inr rfl) (fun z => absurd z (by decide)) (fun y v'' R'' => hno nok v'' (by rw [hE]; exact R''))
end RL
