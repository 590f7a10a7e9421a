/-! PURE 63: two digits -/
section RM2
variable {d n x k F i : Nat} {τ u : Mm} {bad : Int32} {B : Nat → Int32}
theorem m_two {P : Int32 × Mm → Prop} (hd : d < 8) (hn : n ≤ 100) (hB : RB d τ B) (hx : x < 900) (H : Rd d n τ u x 0 k) (hy : dg B n x → dg B n (x + 1) → ∀ u', Rd d n τ u' (x + 2) 0 k → (∀ a i, a = 19 ∨ a = 20 ∨ a = 21 → u'.1 a i = u.1 a i) → P (10 * (B x - 48) + (B (x + 1) - 48), u')) (h1 : ¬ dg B n x → ∀ v u', Rd d n τ u' x 1 k → P (v, u')) (h2 : dg B n x → ¬ dg B n (x + 1) → ∀ v u', Rd d n τ u' (x + 1) 1 k → P (v, u')) : OkO (f_M_readTwo F u 0) P := by
  unfold f_M_readTwo
  refine okJ (m_k (okY (m_dig hd hn hB (by omega) H (fun c1 u1 R1 e1 => ?_) (fun c1 u1 R1 e1 => ?_))))
  · refine okJ (m_k (okY (m_dig hd hn hB (by omega) R1 (fun c2 u2 R2 e2 => okR (hy c1 c2 u2 R2 (fun a i ha => ?_))) (fun c2 u2 R2 e2 => okR (h2 c1 c2 _ u2 R2)))))
    rw [e2 a i ha, e1 a i ha]
  · exact okJ (m_k (okY (m_dig1 R1 (fun u2 R2 e2 => okR (h1 c1 _ u2 R2)))))
theorem m_two1 {P : Int32 × Mm → Prop} (H : Rd d n τ u x 1 k) (h : ∀ v u', Rd d n τ u' x 1 k → P (v, u')) : OkO (f_M_readTwo F u 0) P := by
  unfold f_M_readTwo
  exact okJ (m_k (okY (m_dig1 H (fun u1 R1 e1 => okJ (m_k (okY (m_dig1 R1 (fun u2 R2 e2 => okR (h _ u2 R2)))))))))
end RM2
