/-! PURE 49: shelves; cost, comes -/
section QM
variable {N S : Hs} {μ0 μ σ τ0 τ u : Mm} {F g j h p n k d i : Nat} {z : Int32}
theorem kd_s (hd : d < 8) : kdX (65 + 2 * d) = 3 := by
  unfold kdX
  rw [if_neg (by omega), if_neg (by omega), if_neg (by omega), if_pos (by omega)]
theorem kd_e (hd : d < 8) : kdX (66 + 2 * d) = 6 := by
  unfold kdX
  rw [if_neg (by omega), if_neg (by omega), if_neg (by omega), if_neg (by omega)]
theorem jk_s (hd : d < 8) : jk YX 3 (some (65 + 2 * d)) = some (65 + 2 * d) := by
  show ob (some (65 + 2 * d)) _ = _
  rw [ob_s, if_pos ⟨by show 65 + 2 * d < 81; omega, kd_s hd⟩]
theorem jk_el (hd : d < 8) : jk YX 6 (some (66 + 2 * d)) = some (66 + 2 * d) := by
  show ob (some (66 + 2 * d)) _ = _
  rw [ob_s, if_pos ⟨by show 66 + 2 * d < 81; omega, kd_e hd⟩]
theorem ln_e (hd : d < 8) : YX.2.2.1 (66 + 2 * d) = 100 := by
  show lnX (66 + 2 * d) = 100
  unfold lnX
  rw [if_neg (by omega), if_pos (by omega)]
theorem rf_s : YX.2.2.2 (65 + 2 * d) k = some (66 + 2 * d) := by
  show rfX (65 + 2 * d) k = _
  unfold rfX
  rw [if_neg (by omega), if_neg (by omega), if_pos (by omega)]
  exact congrArg some (by omega)
theorem x_sk {P : Nat → Prop} (hd : d < 8) (h : P (65 + 2 * d)) : OkO (jk YX 3 (some (65 + 2 * d))) P := okE (jk_s hd) h
theorem x_sg {P : Int32 → Prop} (k : Nat) (hd : d < 8) (h : P (σ.1 (65 + 2 * d) k)) : OkO (jgi YX 3 k σ (some (65 + 2 * d))) P := okE (by rw [jgi, jk_s hd, ob_s]) h
theorem x_se {P : Option Nat → Prop} (hd : d < 8) (h : P (some (66 + 2 * d))) : OkO (jgr YX 3 5 (some (65 + 2 * d))) P := okE (by rw [jgr, jk_s hd, ob_s, rf_s]) h
theorem x_sw {P : Mm → Prop} {v : Int32} (hd : d < 8) (h : P (y2 σ.1 (65 + 2 * d) k v, σ.2.1, σ.2.2)) : OkO (jpi YX 3 k σ (some (65 + 2 * d)) v) P := okE (by rw [jpi, jk_s hd, ob_s]) h
theorem x_el {P : Int32 → Prop} (hd : d < 8) (hi : i < 100) (h : P (σ.1 (66 + 2 * d) i)) : OkO (jal YX σ (some (66 + 2 * d)) (nI i)) P := okE (by rw [jal, jk_el hd, ob_s, ln_e hd, jin_nI hi (by decide), ob_s]) h
theorem x_ew {P : Mm → Prop} {v : Int32} (hd : d < 8) (hi : i < 100) (h : P (y2 σ.1 (66 + 2 * d) i v, σ.2.1, σ.2.2)) : OkO (jas YX σ (some (66 + 2 * d)) (nI i) v) P := okE (by rw [jas, jk_el hd, ob_s, ln_e hd, jin_nI hi (by decide), ob_s]) h
theorem x_eln {P : Int32 → Prop} (hd : d < 8) (h : P (nI 100)) : OkO (jln YX 6 (some (66 + 2 * d))) P := okE (by rw [jln, jk_el hd, ob_s, ln_e hd]) h
theorem x_sh1 {P : Option Nat × Mm → Prop} (hd : d < 8) (h : P (some (65 + 2 * d), σ)) : OkO (f_X_shelfAt F σ 0 (nI d)) P := by
  unfold f_X_shelfAt
  refine okF (nI_pos (by omega)) (okJ (x_r 64 (okJ (okE (x := nI 8) rfl (okF (nI_ge hd (by decide)) (okJ (x_r 64 (okJ (okE (x := some (65 + 2 * d)) ?_ (okR h))))))))))
  rw [jaa, show jk YX 10 (some 64) = some 64 from rfl, ob_s, show YX.2.2.1 64 = 8 from rfl, jin_nI hd (by decide), ob_s]
  rfl
theorem x_sh0 {P : Option Nat × Mm → Prop} {x : Int32} (hd : Out x 8) (h : P (none, σ)) : OkO (f_X_shelfAt F σ 0 x) P := by
  unfold f_X_shelfAt
  rcases hd with hd | hd
  · exact okT hd (okR h)
  · exact okI (fun _ => okR h) (fun _ => okJ (x_r 64 (okJ (okE (x := nI 8) rfl (okT hd (okR h))))))
theorem m_a {P : Int32 → Prop} (id : Nat) (h1 : 22 ≤ id) (h2 : id < 27) (hd : d < 8) (h : P (τ.1 id d)) : OkO (jal YM τ (some id) (nI d)) P := by
  have hl : lnM id = 8 := by unfold lnM; rw [if_neg (by omega), if_neg (by omega), if_neg (by omega), if_neg (by omega), if_neg (by omega), if_pos (by omega)]
  exact okE (al_e (by omega) (by omega) (by omega) (by omega)) h
theorem m_aw {P : Mm → Prop} {v : Int32} (id : Nat) (h1 : 22 ≤ id) (h2 : id < 27) (hd : d < 8) (h : P (y2 τ.1 id d v, τ.2.1, τ.2.2)) : OkO (jas YM τ (some id) (nI d) v) P := by
  have hl : lnM id = 8 := by unfold lnM; rw [if_neg (by omega), if_neg (by omega), if_neg (by omega), if_neg (by omega), if_neg (by omega), if_pos (by omega)]
  exact okE (as_e (by omega) (by omega) (by omega) (by omega)) h
theorem jin_l {m : Nat} (h : i < m) (hm : m < 1000) : jin m (nI i) = some i := jin_nI h (by omega)
theorem m_ll {P : Int64 → Prop} (id m : Nat) (hid : id = 27 ∨ id = 28) (hm : lnM id = m) (hm2 : m < 1000) (hi : i < m) (h : P (τ.2.1 id i)) : OkO (jll YM τ (some id) (nI i)) P := by
  refine okE ?_ h
  have e : jk YM 7 (some id) = some id := by rcases hid with rfl | rfl <;> rfl
  rw [jll, e, ob_s, show YM.2.2.1 id = lnM id from rfl, hm, jin_l hi hm2, ob_s]
theorem m_lw {P : Mm → Prop} {v : Int64} (id m : Nat) (hid : id = 27 ∨ id = 28) (hm : lnM id = m) (hm2 : m < 1000) (hi : i < m) (h : P (τ.1, y2 τ.2.1 id i v, τ.2.2)) : OkO (jls YM τ (some id) (nI i) v) P := by
  refine okE ?_ h
  have e : jk YM 7 (some id) = some id := by rcases hid with rfl | rfl <;> rfl
  rw [jls, e, ob_s, show YM.2.2.1 id = lnM id from rfl, hm, jin_l hi hm2, ob_s]
def wkV (c : Int32) : Int32 := if c = 0 then -11 else if c = 1 then 0 else -12
def wrV (c : Int32) : Int32 := if c = 0 then -11 else if c = 2 then 0 else -12
theorem m_wk1 {P : Int32 × Mm → Prop} (hd : d < 8) (h : P (wkV (τ.1 22 d), τ)) : OkO (f_M_wrongKept F τ 0 (nI d)) P := by
  unfold f_M_wrongKept
  unfold wkV at h
  refine okY (m_n1 (n := 8) hd (by decide) rfl (okF i1n (okJ (m_r 22 (okJ (m_a 22 (by decide) (by decide) hd (okI (fun c => okR ?_) (fun c => okJ (m_r 22 (okJ (m_a 22 (by decide) (by decide) hd (okI (fun c2 => okR ?_) (fun c2 => okR ?_)))))))))))))
  · rw [if_pos c] at h; exact h
  · rw [if_neg c, if_pos c2] at h; exact h
  · rw [if_neg c, if_neg c2] at h; exact h
theorem m_wk0 {P : Int32 × Mm → Prop} {x : Int32} (hd : Out x 8) (h : P (-1, τ)) : OkO (f_M_wrongKept F τ 0 x) P := by
  unfold f_M_wrongKept
  exact okY (m_n0 (n := 8) hd (by decide) rfl (okT rfl (okR h)))
theorem m_wr1 {P : Int32 × Mm → Prop} (hd : d < 8) (h : P (wrV (τ.1 22 d), τ)) : OkO (f_M_wrongRow F τ 0 (nI d)) P := by
  unfold f_M_wrongRow
  unfold wrV at h
  refine okY (m_n1 (n := 8) hd (by decide) rfl (okF i1n (okJ (m_r 22 (okJ (m_a 22 (by decide) (by decide) hd (okI (fun c => okR ?_) (fun c => okJ (m_r 22 (okJ (m_a 22 (by decide) (by decide) hd (okI (fun c2 => okR ?_) (fun c2 => okR ?_)))))))))))))
  · rw [if_pos c] at h; exact h
  · rw [if_neg c, if_pos c2] at h; exact h
  · rw [if_neg c, if_neg c2] at h; exact h
theorem m_wr0 {P : Int32 × Mm → Prop} {x : Int32} (hd : Out x 8) (h : P (-1, τ)) : OkO (f_M_wrongRow F τ 0 x) P := by
  unfold f_M_wrongRow
  exact okY (m_n0 (n := 8) hd (by decide) rfl (okT rfl (okR h)))
theorem x_why {P : Int32 × Mm → Prop} (hd : d < 8) (h : P (if σ.1 (65 + 2 * d) 0 = 0 then -11 else -12, σ)) : OkO (f_S_whyNot F σ (65 + 2 * d)) P := by
  unfold f_S_whyNot
  refine okJ (x_sg 0 hd (okI (fun c => okR ?_) (fun c => okR ?_)))
  · rw [if_pos c] at h; exact h
  · rw [if_neg c] at h; exact h
theorem wk_no {c : Int32} (h : ¬ c = 1) : wkV c = (if c = 0 then -11 else -12) ∧ ¬ 0 ≤ wkV c := by
  unfold wkV
  by_cases c0 : c = 0
  · rw [if_pos c0, if_pos c0]; exact ⟨rfl, by decide⟩
  · rw [if_neg c0, if_neg h, if_neg c0]; exact ⟨rfl, by decide⟩
theorem wr_no {c : Int32} (h : ¬ c = 2) : wrV c = (if c = 0 then -11 else -12) ∧ ¬ 0 ≤ wrV c := by
  unfold wrV
  by_cases c0 : c = 0
  · rw [if_pos c0, if_pos c0]; exact ⟨rfl, by decide⟩
  · rw [if_neg c0, if_neg h, if_neg c0]; exact ⟨rfl, by decide⟩
def cosV (k : Nat) (f : Int32) : Int32 := if k = 0 then 2 else if k = 1 then 2 + f else if k = 2 then 3 else if k = 3 then 4 else if k = 4 then 6 else if k = 5 then 11 + f else if k = 6 then 3 else 4 * (f + 1)
theorem o8 {j : Nat} (h : j < 8) : j = 0 ∨ j = 1 ∨ j = 2 ∨ j = 3 ∨ j = 4 ∨ j = 5 ∨ j = 6 ∨ j = 7 := by omega
theorem x_cos {P : Int32 × Mm → Prop} (hd : d < 8) (hk : k < 8) (e : σ.1 (65 + 2 * d) 1 = nI k) (h : P (cosV k (σ.1 (65 + 2 * d) 2), σ)) : OkO (f_S_glassCost F σ (65 + 2 * d)) P := by
  unfold f_S_glassCost
  refine okJ (x_sg 1 hd ?_)
  rw [e]
  rcases o8 hk with rfl | rfl | rfl | rfl | rfl | rfl | rfl | rfl
  · repeat (refine okF (by decide) ?_)
    exact okR h
  · exact okT rfl (okJ (x_sg 2 hd (okR h)))
  · repeat (refine okF (by decide) ?_)
    exact okT rfl (okR h)
  · repeat (refine okF (by decide) ?_)
    exact okT rfl (okR h)
  · repeat (refine okF (by decide) ?_)
    exact okT rfl (okR h)
  · repeat (refine okF (by decide) ?_)
    exact okT rfl (okJ (x_sg 2 hd (okR h)))
  · repeat (refine okF (by decide) ?_)
    exact okT rfl (okR h)
  · repeat (refine okF (by decide) ?_)
    exact okT rfl (okJ (x_sg 2 hd (okR h)))
theorem m_cos {P : Int32 × Mm → Prop} {f : Int32} (hk : k < 8) (h : P (cosV k f, τ)) : OkO (f_M_costOf F τ (nI k) f) P := by
  unfold f_M_costOf
  rcases o8 hk with rfl | rfl | rfl | rfl | rfl | rfl | rfl | rfl
  · exact okT rfl (okR h)
  · repeat (refine okF (by decide) ?_)
    exact okT rfl (okR h)
  · repeat (refine okF (by decide) ?_)
    exact okT rfl (okR h)
  · repeat (refine okF (by decide) ?_)
    exact okT rfl (okR h)
  · repeat (refine okF (by decide) ?_)
    exact okT rfl (okR h)
  · repeat (refine okF (by decide) ?_)
    exact okT rfl (okR h)
  · repeat (refine okF (by decide) ?_)
    exact okT rfl (okR h)
  · repeat (refine okF (by decide) ?_)
    exact okR h
theorem q_cost (a : Int32) (R : Rl N σ τ) : Ag (f_X_cost F σ 0 a) (f_M_cost F τ 0 a) := by
  unfold Ag f_X_cost f_M_cost
  rcases px a (n := 8) (by decide) with ⟨d, hd, rfl⟩ | ho
  · refine okJ (x_k (okY (x_sh1 hd (okF sI_none (okJ (x_sg 0 hd ?_))))))
    refine okI (fun c => ?_) (fun c => ?_)
    · obtain ⟨-, -, ⟨k, hk, ek⟩, -⟩ := (R.2.2.2 d hd).2.1 c
      refine okJ (x_sk hd (okY (x_cos hd hk ek (okR ?_))))
      refine m_t R (fun τ1 R1 => okJ (m_k (okY (m_wk1 hd ?_))))
      obtain ⟨⟨s1, -⟩, s2, -⟩ := R1.2.2.2 d hd
      obtain ⟨k1, f1, -, -⟩ := s2 c
      have e1 : wkV (τ1.1 22 d) = 0 := by rw [← s1, c]; rfl
      rw [e1]
      refine okT (show (0 : Int32) ≤ 0 by decide) (okJ (m_r 23 (okJ (m_a 23 (by decide) (by decide) hd (okJ (m_r 24 (okJ (m_a 24 (by decide) (by decide) hd ?_))))))))
      rw [← k1, ek, ← f1]
      exact okY (m_cos hk (okR ⟨rfl, N, R1⟩))
    · refine okJ (x_sk hd (okY (x_why hd (okR ?_))))
      refine m_t R (fun τ1 R1 => okJ (m_k (okY (m_wk1 hd ?_))))
      have s1 := (R1.2.2.2 d hd).1.1
      rw [← s1]
      refine okF (wk_no c).2 (okJ (m_k (okY (m_wk1 hd (okR ⟨?_, N, R1⟩)))))
      rw [← s1, (wk_no c).1]
  · refine okJ (x_k (okY (x_sh0 ho (okT rfl (okR ?_)))))
    exact m_t R (fun τ1 R1 => okJ (m_k (okY (m_wk0 ho (okF (show ¬ (0 : Int32) ≤ -1 by decide) (okJ (m_k (okY (m_wk0 ho (okR ⟨rfl, N, R1⟩))))))))))
end QM
