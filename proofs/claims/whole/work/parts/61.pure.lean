/-! PURE 61: the reference reads a statement -/
def TV (B : Nat → Int32) (n : Nat) (t : Nat → Nat → Int32) (k x : Nat) : Prop :=
  (B x = 103 → ∀ j, j < 4 → t 21 (5 * k + j) = B (x + 1 + j) - 48) ∧ (B x = 112 → ∀ j, j < 5 → t 21 (5 * k + j) = B (x + 1 + j) - 48) ∧ (B x = 99 → t 21 (5 * k) = B (x + 1) - 48) ∧ (B x = 104 → t 21 (5 * k) = B (x + 1) - 48 ∧ t 21 (5 * k + 1) = 10 * (B (x + 1 + 1) - 48) + (B (x + 1 + 2) - 48)) ∧ (B x = 116 → (dg B n (x + 1 + 1) → t 21 (5 * k) = 10 * (B (x + 1) - 48) + (B (x + 1 + 1) - 48)) ∧ (¬ dg B n (x + 1 + 1) → t 21 (5 * k) = B (x + 1) - 48))
def Old (k : Nat) (u u' : Mm) : Prop := (∀ j, j < k → u'.1 19 j = u.1 19 j ∧ u'.1 20 j = u.1 20 j) ∧ ∀ y, y < 5 * k → u'.1 21 y = u.1 21 y
section RK
variable {d n x k F i : Nat} {τ u : Mm} {bad : Int32} {B : Nat → Int32}
theorem m_51 {P : Mm → Prop} {v : Int32} {id : Nat} (hid : id = 19 ∨ id = 20) (hi : k ≤ 50) (h : P (y2 u.1 id k v, u.2.1, u.2.2)) : OkO (jas YM u (some id) (nI k) v) P := okE (as_e (by omega) (by omega) (by rcases hid with rfl | rfl <;> (show k < 51; omega)) (by omega)) h
theorem eV_m {m : Nat} (h : mt B n x = some m) : eV B n x = x + 1 + nd B n (x + 1) m := by unfold eV; rw [h]
theorem mt_l {c : Int32} {m : Nat} (hx : x < n) (hc : B x = c) (hm : ms c = some m) : mt B n x = some m := by unfold mt; rw [if_pos hx, hc, hm]
theorem m_rs_m {P : Unit × Mm → Prop} (hd : d < 8) (hn : n ≤ 100) (hB : RB d τ B) (hF : 100 ≤ F) (hk : k ≤ 50) (H : Rd d n τ u x 0 k) (hx : x < n) (hc : B x = 109) (hy : okS B n x → ∀ u', Rd d n τ u' (eV B n x + 1) 0 (k + 1) → u'.1 19 k = nI x → u'.1 20 k = B x → TV B n u'.1 k x → Old k u u' → P ((), u')) (hno : ¬ okS B n x → ∀ u', Rd d n τ u' (eV B n x) 1 (k + 1) → P ((), u')) : OkO (f_M_readStatement F u 0) P := by
  have hv : hV B n x = nI 109 := (hV_c (c := 109) hB.1 hn (by decide)).mpr ⟨hx, hc⟩
  have hmt := mt_l (m := 0) hx hc (by decide)
  have hE := eV_m hmt
  unfold f_M_readStatement
  refine okJ (m_x ?_)
  rw [H.1.2.2.2.2]
  refine okJ (m_k (okY (m_here hd hn hB (by omega) H ?_)))
  rw [hv]
  refine okJ (m_r 19 (okJ (m_x ?_)))
  rw [H.1.2.2.1]
  have H1 : Rd d n τ (y2 u.1 19 k (nI x), u.2.1, u.2.2) x 0 k := H.w (Or.inl rfl)
  refine okJ (m_51 (Or.inl rfl) hk (okJ (m_r 20 ?_)))
  have H2 : Rd d n τ (y2 (y2 u.1 19 k (nI x)) 20 k (nI 109), u.2.1, u.2.2) x 0 k := H1.w (Or.inr (Or.inl rfl))
  refine okJ (m_51 (Or.inr rfl) hk (okJ (m_x ?_)))
  rw [H2.1.2.2.2.1]
  refine okJ (okT rfl ?_)
  dsimp only
  repeat (refine okF (by decide) ?_)
  refine okT rfl (okR ?_)
  refine okJ (okE (x := (y2 (y2 (y2 u.1 19 k (nI x)) 20 k (nI 109)) 0 33 0, u.2.1, u.2.2)) (by rw [jpz, if_pos (Or.inl rfl)]; rfl) ?_)
  have H3 := H2.b 0
  refine okJ (m_x ?_)
  rw [H3.1.2.2.1]
  refine okJ (m_x ?_)
  rw [H3.1.2.2.2.1]
  refine okJ (okT rfl (okR ?_))
  rw [nI_1]
  have H4 := H3.mv (x + 1)
  refine okJ (okR (x := (y2 (y2 (y2 (y2 u.1 19 k (nI x)) 20 k (nI 109)) 0 33 0) 0 32 (nI (x + 1)), u.2.1, u.2.2)) ?_)
  have e19 : ((y2 (y2 (y2 (y2 u.1 19 k (nI x)) 20 k (nI 109)) 0 33 0) 0 32 (nI (x + 1)), u.2.1, u.2.2) : Mm).1 19 k = nI x := by
    show y2 (y2 (y2 (y2 u.1 19 k (nI x)) 20 k (nI 109)) 0 33 0) 0 32 (nI (x + 1)) 19 k = nI x
    rw [y2_i _ _ (by decide), y2_i _ _ (by decide), y2_i _ _ (by decide), y2_s]
  have e20 : ((y2 (y2 (y2 (y2 u.1 19 k (nI x)) 20 k (nI 109)) 0 33 0) 0 32 (nI (x + 1)), u.2.1, u.2.2) : Mm).1 20 k = nI 109 := by
    show y2 (y2 (y2 (y2 u.1 19 k (nI x)) 20 k (nI 109)) 0 33 0) 0 32 (nI (x + 1)) 20 k = nI 109
    rw [y2_i _ _ (by decide), y2_i _ _ (by decide), y2_s]
  have eo : Old k u (y2 (y2 (y2 (y2 u.1 19 k (nI x)) 20 k (nI 109)) 0 33 0) 0 32 (nI (x + 1)), u.2.1, u.2.2) := by
    refine ⟨fun j hj => ⟨?_, ?_⟩, fun y hy => ?_⟩
    · show y2 (y2 (y2 (y2 u.1 19 k (nI x)) 20 k (nI 109)) 0 33 0) 0 32 (nI (x + 1)) 19 j = _
      rw [y2_i _ _ (by decide), y2_i _ _ (by decide), y2_i _ _ (by decide), y2_k _ _ (by omega)]
    · show y2 (y2 (y2 (y2 u.1 19 k (nI x)) 20 k (nI 109)) 0 33 0) 0 32 (nI (x + 1)) 20 j = _
      rw [y2_i _ _ (by decide), y2_i _ _ (by decide), y2_k _ _ (by omega), y2_i _ _ (by decide)]
    · show y2 (y2 (y2 (y2 u.1 19 k (nI x)) 20 k (nI 109)) 0 33 0) 0 32 (nI (x + 1)) 21 y = _
      rw [y2_i _ _ (by decide), y2_i _ _ (by decide), y2_i _ _ (by decide), y2_i _ _ (by decide)]
  generalize (y2 (y2 (y2 (y2 u.1 19 k (nI x)) 20 k (nI 109)) 0 33 0) 0 32 (nI (x + 1)), u.2.1, u.2.2) = v at H4 eo e19 e20 ⊢
  refine okJ ?_
  repeat (refine okF (by decide) ?_)
  refine okR ?_
  refine m_dgs (m := 0) hd hn hB (by omega) (by decide) hk hF H4 (fun v' D => ?_)
  refine okJ (okF (by decide) (okR (okJ (okF (by decide) (okR ?_)))))
  rcases D with ⟨g1, g2, g3, g4⟩ | ⟨s, s1, s2, s3, s4, s5⟩
  · have hnd : nd B n (x + 1) 0 = 0 := nd_all 0 (x + 1) g1
    rw [hnd] at hE
    rw [hE] at hy hno
    refine m_tail hd hn hB (by omega) g2 (Or.inl rfl) (fun _ z2 z3 v'' R'' e'' => ?_) (fun y v'' R'' => ?_)
    · have T : ∀ j, j < 0 → v''.1 21 (5 * k + j) = B (x + 1 + j) - 48 := fun j hj => by rw [e'' 21 _ (Or.inr (Or.inr rfl))]; exact g4 j hj
      refine hy ⟨0, hmt, by rw [hnd, hc]; decide, by rw [hE]; exact z2, by rw [hE]; exact z3⟩ v'' R'' ?_ ?_ ⟨fun z => absurd (hc.symm.trans z) (by decide), fun z => absurd (hc.symm.trans z) (by decide), fun z => absurd (hc.symm.trans z) (by decide), fun z => absurd (hc.symm.trans z) (by decide), fun z => absurd (hc.symm.trans z) (by decide)⟩ ⟨fun j hj => ⟨?_, ?_⟩, fun y hy => ?_⟩
      · rw [e'' 19 k (Or.inl rfl), g3 19 k (Or.inl rfl)]; exact e19
      · rw [e'' 20 k (Or.inr (Or.inl rfl)), g3 20 k (Or.inr (Or.inl rfl)), hc]; exact e20
      · rw [e'' 19 j (Or.inl rfl), g3 19 j (Or.inl rfl)]; exact (eo.1 j hj).1
      · rw [e'' 20 j (Or.inr (Or.inl rfl)), g3 20 j (Or.inr (Or.inl rfl))]; exact (eo.1 j hj).2
      · rw [e'' 21 y (Or.inr (Or.inr rfl)), g3 21 y (Or.inr (Or.inr ⟨rfl, hy⟩))]; exact eo.2 y hy
    · refine hno (fun ok => y ?_) v'' R''
      obtain ⟨m', e, -, z1, z2⟩ := ok
      rw [hE] at z1 z2
      exact ⟨rfl, z1, z2⟩
  · have hnd : nd B n (x + 1) 0 = s := nd_st s 0 (x + 1) s1 s2 s3
    rw [hnd] at hE
    rw [hE] at hno
    refine m_tail hd hn hB (by omega) s4 (Or.inr rfl) (fun z => absurd z (by decide)) (fun y v'' R'' => hno (fun ok => ?_) v'' R'')
    obtain ⟨m', e, z0, -, -⟩ := ok
    rw [hmt] at e
    cases e
    rw [hnd, hc] at z0
    have : lst 109 0 = 0 := by decide
    omega
theorem m_rs_c {P : Unit × Mm → Prop} (hd : d < 8) (hn : n ≤ 100) (hB : RB d τ B) (hF : 100 ≤ F) (hk : k ≤ 50) (H : Rd d n τ u x 0 k) (hx : x < n) (hc : B x = 99) (hy : okS B n x → ∀ u', Rd d n τ u' (eV B n x + 1) 0 (k + 1) → u'.1 19 k = nI x → u'.1 20 k = B x → TV B n u'.1 k x → Old k u u' → P ((), u')) (hno : ¬ okS B n x → ∀ u', Rd d n τ u' (eV B n x) 1 (k + 1) → P ((), u')) : OkO (f_M_readStatement F u 0) P := by
  have hv : hV B n x = nI 99 := (hV_c (c := 99) hB.1 hn (by decide)).mpr ⟨hx, hc⟩
  have hmt := mt_l (m := 1) hx hc (by decide)
  have hE := eV_m hmt
  unfold f_M_readStatement
  refine okJ (m_x ?_)
  rw [H.1.2.2.2.2]
  refine okJ (m_k (okY (m_here hd hn hB (by omega) H ?_)))
  rw [hv]
  refine okJ (m_r 19 (okJ (m_x ?_)))
  rw [H.1.2.2.1]
  have H1 : Rd d n τ (y2 u.1 19 k (nI x), u.2.1, u.2.2) x 0 k := H.w (Or.inl rfl)
  refine okJ (m_51 (Or.inl rfl) hk (okJ (m_r 20 ?_)))
  have H2 : Rd d n τ (y2 (y2 u.1 19 k (nI x)) 20 k (nI 99), u.2.1, u.2.2) x 0 k := H1.w (Or.inr (Or.inl rfl))
  refine okJ (m_51 (Or.inr rfl) hk (okJ (m_x ?_)))
  rw [H2.1.2.2.2.1]
  refine okJ (okT rfl ?_)
  dsimp only
  repeat (refine okF (by decide) ?_)
  refine okT rfl (okR ?_)
  refine okJ (okE (x := (y2 (y2 (y2 u.1 19 k (nI x)) 20 k (nI 99)) 0 33 0, u.2.1, u.2.2)) (by rw [jpz, if_pos (Or.inl rfl)]; rfl) ?_)
  have H3 := H2.b 0
  refine okJ (m_x ?_)
  rw [H3.1.2.2.1]
  refine okJ (m_x ?_)
  rw [H3.1.2.2.2.1]
  refine okJ (okT rfl (okR ?_))
  rw [nI_1]
  have H4 := H3.mv (x + 1)
  refine okJ (okR (x := (y2 (y2 (y2 (y2 u.1 19 k (nI x)) 20 k (nI 99)) 0 33 0) 0 32 (nI (x + 1)), u.2.1, u.2.2)) ?_)
  have e19 : ((y2 (y2 (y2 (y2 u.1 19 k (nI x)) 20 k (nI 99)) 0 33 0) 0 32 (nI (x + 1)), u.2.1, u.2.2) : Mm).1 19 k = nI x := by
    show y2 (y2 (y2 (y2 u.1 19 k (nI x)) 20 k (nI 99)) 0 33 0) 0 32 (nI (x + 1)) 19 k = nI x
    rw [y2_i _ _ (by decide), y2_i _ _ (by decide), y2_i _ _ (by decide), y2_s]
  have e20 : ((y2 (y2 (y2 (y2 u.1 19 k (nI x)) 20 k (nI 99)) 0 33 0) 0 32 (nI (x + 1)), u.2.1, u.2.2) : Mm).1 20 k = nI 99 := by
    show y2 (y2 (y2 (y2 u.1 19 k (nI x)) 20 k (nI 99)) 0 33 0) 0 32 (nI (x + 1)) 20 k = nI 99
    rw [y2_i _ _ (by decide), y2_i _ _ (by decide), y2_s]
  have eo : Old k u (y2 (y2 (y2 (y2 u.1 19 k (nI x)) 20 k (nI 99)) 0 33 0) 0 32 (nI (x + 1)), u.2.1, u.2.2) := by
    refine ⟨fun j hj => ⟨?_, ?_⟩, fun y hy => ?_⟩
    · show y2 (y2 (y2 (y2 u.1 19 k (nI x)) 20 k (nI 99)) 0 33 0) 0 32 (nI (x + 1)) 19 j = _
      rw [y2_i _ _ (by decide), y2_i _ _ (by decide), y2_i _ _ (by decide), y2_k _ _ (by omega)]
    · show y2 (y2 (y2 (y2 u.1 19 k (nI x)) 20 k (nI 99)) 0 33 0) 0 32 (nI (x + 1)) 20 j = _
      rw [y2_i _ _ (by decide), y2_i _ _ (by decide), y2_k _ _ (by omega), y2_i _ _ (by decide)]
    · show y2 (y2 (y2 (y2 u.1 19 k (nI x)) 20 k (nI 99)) 0 33 0) 0 32 (nI (x + 1)) 21 y = _
      rw [y2_i _ _ (by decide), y2_i _ _ (by decide), y2_i _ _ (by decide), y2_i _ _ (by decide)]
  generalize (y2 (y2 (y2 (y2 u.1 19 k (nI x)) 20 k (nI 99)) 0 33 0) 0 32 (nI (x + 1)), u.2.1, u.2.2) = v at H4 eo e19 e20 ⊢
  refine okJ ?_
  repeat (refine okF (by decide) ?_)
  refine okT rfl (okR ?_)
  refine m_dgs (m := 1) hd hn hB (by omega) (by decide) hk hF H4 (fun v' D => ?_)
  refine okJ (okF (by decide) (okR (okJ (okF (by decide) (okR ?_)))))
  rcases D with ⟨g1, g2, g3, g4⟩ | ⟨s, s1, s2, s3, s4, s5⟩
  · have hnd : nd B n (x + 1) 1 = 1 := nd_all 1 (x + 1) g1
    rw [hnd] at hE
    rw [hE] at hy hno
    refine m_tail hd hn hB (by omega) g2 (Or.inl rfl) (fun _ z2 z3 v'' R'' e'' => ?_) (fun y v'' R'' => ?_)
    · have T : ∀ j, j < 1 → v''.1 21 (5 * k + j) = B (x + 1 + j) - 48 := fun j hj => by rw [e'' 21 _ (Or.inr (Or.inr rfl))]; exact g4 j hj
      refine hy ⟨1, hmt, by rw [hnd, hc]; decide, by rw [hE]; exact z2, by rw [hE]; exact z3⟩ v'' R'' ?_ ?_ ⟨fun z => absurd (hc.symm.trans z) (by decide), fun z => absurd (hc.symm.trans z) (by decide), fun _ => T 0 (by decide), fun z => absurd (hc.symm.trans z) (by decide), fun z => absurd (hc.symm.trans z) (by decide)⟩ ⟨fun j hj => ⟨?_, ?_⟩, fun y hy => ?_⟩
      · rw [e'' 19 k (Or.inl rfl), g3 19 k (Or.inl rfl)]; exact e19
      · rw [e'' 20 k (Or.inr (Or.inl rfl)), g3 20 k (Or.inr (Or.inl rfl)), hc]; exact e20
      · rw [e'' 19 j (Or.inl rfl), g3 19 j (Or.inl rfl)]; exact (eo.1 j hj).1
      · rw [e'' 20 j (Or.inr (Or.inl rfl)), g3 20 j (Or.inr (Or.inl rfl))]; exact (eo.1 j hj).2
      · rw [e'' 21 y (Or.inr (Or.inr rfl)), g3 21 y (Or.inr (Or.inr ⟨rfl, hy⟩))]; exact eo.2 y hy
    · refine hno (fun ok => y ?_) v'' R''
      obtain ⟨m', e, -, z1, z2⟩ := ok
      rw [hE] at z1 z2
      exact ⟨rfl, z1, z2⟩
  · have hnd : nd B n (x + 1) 1 = s := nd_st s 1 (x + 1) s1 s2 s3
    rw [hnd] at hE
    rw [hE] at hno
    refine m_tail hd hn hB (by omega) s4 (Or.inr rfl) (fun z => absurd z (by decide)) (fun y v'' R'' => hno (fun ok => ?_) v'' R'')
    obtain ⟨m', e, z0, -, -⟩ := ok
    rw [hmt] at e
    cases e
    rw [hnd, hc] at z0
    have : lst 99 1 = 1 := by decide
    omega
theorem m_rs_g {P : Unit × Mm → Prop} (hd : d < 8) (hn : n ≤ 100) (hB : RB d τ B) (hF : 100 ≤ F) (hk : k ≤ 50) (H : Rd d n τ u x 0 k) (hx : x < n) (hc : B x = 103) (hy : okS B n x → ∀ u', Rd d n τ u' (eV B n x + 1) 0 (k + 1) → u'.1 19 k = nI x → u'.1 20 k = B x → TV B n u'.1 k x → Old k u u' → P ((), u')) (hno : ¬ okS B n x → ∀ u', Rd d n τ u' (eV B n x) 1 (k + 1) → P ((), u')) : OkO (f_M_readStatement F u 0) P := by
  have hv : hV B n x = nI 103 := (hV_c (c := 103) hB.1 hn (by decide)).mpr ⟨hx, hc⟩
  have hmt := mt_l (m := 4) hx hc (by decide)
  have hE := eV_m hmt
  unfold f_M_readStatement
  refine okJ (m_x ?_)
  rw [H.1.2.2.2.2]
  refine okJ (m_k (okY (m_here hd hn hB (by omega) H ?_)))
  rw [hv]
  refine okJ (m_r 19 (okJ (m_x ?_)))
  rw [H.1.2.2.1]
  have H1 : Rd d n τ (y2 u.1 19 k (nI x), u.2.1, u.2.2) x 0 k := H.w (Or.inl rfl)
  refine okJ (m_51 (Or.inl rfl) hk (okJ (m_r 20 ?_)))
  have H2 : Rd d n τ (y2 (y2 u.1 19 k (nI x)) 20 k (nI 103), u.2.1, u.2.2) x 0 k := H1.w (Or.inr (Or.inl rfl))
  refine okJ (m_51 (Or.inr rfl) hk (okJ (m_x ?_)))
  rw [H2.1.2.2.2.1]
  refine okJ (okT rfl ?_)
  dsimp only
  repeat (refine okF (by decide) ?_)
  refine okT rfl (okR ?_)
  refine okJ (okE (x := (y2 (y2 (y2 u.1 19 k (nI x)) 20 k (nI 103)) 0 33 0, u.2.1, u.2.2)) (by rw [jpz, if_pos (Or.inl rfl)]; rfl) ?_)
  have H3 := H2.b 0
  refine okJ (m_x ?_)
  rw [H3.1.2.2.1]
  refine okJ (m_x ?_)
  rw [H3.1.2.2.2.1]
  refine okJ (okT rfl (okR ?_))
  rw [nI_1]
  have H4 := H3.mv (x + 1)
  refine okJ (okR (x := (y2 (y2 (y2 (y2 u.1 19 k (nI x)) 20 k (nI 103)) 0 33 0) 0 32 (nI (x + 1)), u.2.1, u.2.2)) ?_)
  have e19 : ((y2 (y2 (y2 (y2 u.1 19 k (nI x)) 20 k (nI 103)) 0 33 0) 0 32 (nI (x + 1)), u.2.1, u.2.2) : Mm).1 19 k = nI x := by
    show y2 (y2 (y2 (y2 u.1 19 k (nI x)) 20 k (nI 103)) 0 33 0) 0 32 (nI (x + 1)) 19 k = nI x
    rw [y2_i _ _ (by decide), y2_i _ _ (by decide), y2_i _ _ (by decide), y2_s]
  have e20 : ((y2 (y2 (y2 (y2 u.1 19 k (nI x)) 20 k (nI 103)) 0 33 0) 0 32 (nI (x + 1)), u.2.1, u.2.2) : Mm).1 20 k = nI 103 := by
    show y2 (y2 (y2 (y2 u.1 19 k (nI x)) 20 k (nI 103)) 0 33 0) 0 32 (nI (x + 1)) 20 k = nI 103
    rw [y2_i _ _ (by decide), y2_i _ _ (by decide), y2_s]
  have eo : Old k u (y2 (y2 (y2 (y2 u.1 19 k (nI x)) 20 k (nI 103)) 0 33 0) 0 32 (nI (x + 1)), u.2.1, u.2.2) := by
    refine ⟨fun j hj => ⟨?_, ?_⟩, fun y hy => ?_⟩
    · show y2 (y2 (y2 (y2 u.1 19 k (nI x)) 20 k (nI 103)) 0 33 0) 0 32 (nI (x + 1)) 19 j = _
      rw [y2_i _ _ (by decide), y2_i _ _ (by decide), y2_i _ _ (by decide), y2_k _ _ (by omega)]
    · show y2 (y2 (y2 (y2 u.1 19 k (nI x)) 20 k (nI 103)) 0 33 0) 0 32 (nI (x + 1)) 20 j = _
      rw [y2_i _ _ (by decide), y2_i _ _ (by decide), y2_k _ _ (by omega), y2_i _ _ (by decide)]
    · show y2 (y2 (y2 (y2 u.1 19 k (nI x)) 20 k (nI 103)) 0 33 0) 0 32 (nI (x + 1)) 21 y = _
      rw [y2_i _ _ (by decide), y2_i _ _ (by decide), y2_i _ _ (by decide), y2_i _ _ (by decide)]
  generalize (y2 (y2 (y2 (y2 u.1 19 k (nI x)) 20 k (nI 103)) 0 33 0) 0 32 (nI (x + 1)), u.2.1, u.2.2) = v at H4 eo e19 e20 ⊢
  refine okJ ?_
  repeat (refine okF (by decide) ?_)
  refine okT rfl (okR ?_)
  refine m_dgs (m := 4) hd hn hB (by omega) (by decide) hk hF H4 (fun v' D => ?_)
  refine okJ (okF (by decide) (okR (okJ (okF (by decide) (okR ?_)))))
  rcases D with ⟨g1, g2, g3, g4⟩ | ⟨s, s1, s2, s3, s4, s5⟩
  · have hnd : nd B n (x + 1) 4 = 4 := nd_all 4 (x + 1) g1
    rw [hnd] at hE
    rw [hE] at hy hno
    refine m_tail hd hn hB (by omega) g2 (Or.inl rfl) (fun _ z2 z3 v'' R'' e'' => ?_) (fun y v'' R'' => ?_)
    · have T : ∀ j, j < 4 → v''.1 21 (5 * k + j) = B (x + 1 + j) - 48 := fun j hj => by rw [e'' 21 _ (Or.inr (Or.inr rfl))]; exact g4 j hj
      refine hy ⟨4, hmt, by rw [hnd, hc]; decide, by rw [hE]; exact z2, by rw [hE]; exact z3⟩ v'' R'' ?_ ?_ ⟨fun _ j hj => T j hj, fun z => absurd (hc.symm.trans z) (by decide), fun z => absurd (hc.symm.trans z) (by decide), fun z => absurd (hc.symm.trans z) (by decide), fun z => absurd (hc.symm.trans z) (by decide)⟩ ⟨fun j hj => ⟨?_, ?_⟩, fun y hy => ?_⟩
      · rw [e'' 19 k (Or.inl rfl), g3 19 k (Or.inl rfl)]; exact e19
      · rw [e'' 20 k (Or.inr (Or.inl rfl)), g3 20 k (Or.inr (Or.inl rfl)), hc]; exact e20
      · rw [e'' 19 j (Or.inl rfl), g3 19 j (Or.inl rfl)]; exact (eo.1 j hj).1
      · rw [e'' 20 j (Or.inr (Or.inl rfl)), g3 20 j (Or.inr (Or.inl rfl))]; exact (eo.1 j hj).2
      · rw [e'' 21 y (Or.inr (Or.inr rfl)), g3 21 y (Or.inr (Or.inr ⟨rfl, hy⟩))]; exact eo.2 y hy
    · refine hno (fun ok => y ?_) v'' R''
      obtain ⟨m', e, -, z1, z2⟩ := ok
      rw [hE] at z1 z2
      exact ⟨rfl, z1, z2⟩
  · have hnd : nd B n (x + 1) 4 = s := nd_st s 4 (x + 1) s1 s2 s3
    rw [hnd] at hE
    rw [hE] at hno
    refine m_tail hd hn hB (by omega) s4 (Or.inr rfl) (fun z => absurd z (by decide)) (fun y v'' R'' => hno (fun ok => ?_) v'' R'')
    obtain ⟨m', e, z0, -, -⟩ := ok
    rw [hmt] at e
    cases e
    rw [hnd, hc] at z0
    have : lst 103 4 = 4 := by decide
    omega
theorem m_rs_p {P : Unit × Mm → Prop} (hd : d < 8) (hn : n ≤ 100) (hB : RB d τ B) (hF : 100 ≤ F) (hk : k ≤ 50) (H : Rd d n τ u x 0 k) (hx : x < n) (hc : B x = 112) (hy : okS B n x → ∀ u', Rd d n τ u' (eV B n x + 1) 0 (k + 1) → u'.1 19 k = nI x → u'.1 20 k = B x → TV B n u'.1 k x → Old k u u' → P ((), u')) (hno : ¬ okS B n x → ∀ u', Rd d n τ u' (eV B n x) 1 (k + 1) → P ((), u')) : OkO (f_M_readStatement F u 0) P := by
  have hv : hV B n x = nI 112 := (hV_c (c := 112) hB.1 hn (by decide)).mpr ⟨hx, hc⟩
  have hmt := mt_l (m := 5) hx hc (by decide)
  have hE := eV_m hmt
  unfold f_M_readStatement
  refine okJ (m_x ?_)
  rw [H.1.2.2.2.2]
  refine okJ (m_k (okY (m_here hd hn hB (by omega) H ?_)))
  rw [hv]
  refine okJ (m_r 19 (okJ (m_x ?_)))
  rw [H.1.2.2.1]
  have H1 : Rd d n τ (y2 u.1 19 k (nI x), u.2.1, u.2.2) x 0 k := H.w (Or.inl rfl)
  refine okJ (m_51 (Or.inl rfl) hk (okJ (m_r 20 ?_)))
  have H2 : Rd d n τ (y2 (y2 u.1 19 k (nI x)) 20 k (nI 112), u.2.1, u.2.2) x 0 k := H1.w (Or.inr (Or.inl rfl))
  refine okJ (m_51 (Or.inr rfl) hk (okJ (m_x ?_)))
  rw [H2.1.2.2.2.1]
  refine okJ (okT rfl ?_)
  dsimp only
  repeat (refine okF (by decide) ?_)
  refine okT rfl (okR ?_)
  refine okJ (okE (x := (y2 (y2 (y2 u.1 19 k (nI x)) 20 k (nI 112)) 0 33 0, u.2.1, u.2.2)) (by rw [jpz, if_pos (Or.inl rfl)]; rfl) ?_)
  have H3 := H2.b 0
  refine okJ (m_x ?_)
  rw [H3.1.2.2.1]
  refine okJ (m_x ?_)
  rw [H3.1.2.2.2.1]
  refine okJ (okT rfl (okR ?_))
  rw [nI_1]
  have H4 := H3.mv (x + 1)
  refine okJ (okR (x := (y2 (y2 (y2 (y2 u.1 19 k (nI x)) 20 k (nI 112)) 0 33 0) 0 32 (nI (x + 1)), u.2.1, u.2.2)) ?_)
  have e19 : ((y2 (y2 (y2 (y2 u.1 19 k (nI x)) 20 k (nI 112)) 0 33 0) 0 32 (nI (x + 1)), u.2.1, u.2.2) : Mm).1 19 k = nI x := by
    show y2 (y2 (y2 (y2 u.1 19 k (nI x)) 20 k (nI 112)) 0 33 0) 0 32 (nI (x + 1)) 19 k = nI x
    rw [y2_i _ _ (by decide), y2_i _ _ (by decide), y2_i _ _ (by decide), y2_s]
  have e20 : ((y2 (y2 (y2 (y2 u.1 19 k (nI x)) 20 k (nI 112)) 0 33 0) 0 32 (nI (x + 1)), u.2.1, u.2.2) : Mm).1 20 k = nI 112 := by
    show y2 (y2 (y2 (y2 u.1 19 k (nI x)) 20 k (nI 112)) 0 33 0) 0 32 (nI (x + 1)) 20 k = nI 112
    rw [y2_i _ _ (by decide), y2_i _ _ (by decide), y2_s]
  have eo : Old k u (y2 (y2 (y2 (y2 u.1 19 k (nI x)) 20 k (nI 112)) 0 33 0) 0 32 (nI (x + 1)), u.2.1, u.2.2) := by
    refine ⟨fun j hj => ⟨?_, ?_⟩, fun y hy => ?_⟩
    · show y2 (y2 (y2 (y2 u.1 19 k (nI x)) 20 k (nI 112)) 0 33 0) 0 32 (nI (x + 1)) 19 j = _
      rw [y2_i _ _ (by decide), y2_i _ _ (by decide), y2_i _ _ (by decide), y2_k _ _ (by omega)]
    · show y2 (y2 (y2 (y2 u.1 19 k (nI x)) 20 k (nI 112)) 0 33 0) 0 32 (nI (x + 1)) 20 j = _
      rw [y2_i _ _ (by decide), y2_i _ _ (by decide), y2_k _ _ (by omega), y2_i _ _ (by decide)]
    · show y2 (y2 (y2 (y2 u.1 19 k (nI x)) 20 k (nI 112)) 0 33 0) 0 32 (nI (x + 1)) 21 y = _
      rw [y2_i _ _ (by decide), y2_i _ _ (by decide), y2_i _ _ (by decide), y2_i _ _ (by decide)]
  generalize (y2 (y2 (y2 (y2 u.1 19 k (nI x)) 20 k (nI 112)) 0 33 0) 0 32 (nI (x + 1)), u.2.1, u.2.2) = v at H4 eo e19 e20 ⊢
  refine okJ ?_
  repeat (refine okF (by decide) ?_)
  refine okT rfl (okR ?_)
  refine m_dgs (m := 5) hd hn hB (by omega) (by decide) hk hF H4 (fun v' D => ?_)
  refine okJ (okF (by decide) (okR (okJ (okF (by decide) (okR ?_)))))
  rcases D with ⟨g1, g2, g3, g4⟩ | ⟨s, s1, s2, s3, s4, s5⟩
  · have hnd : nd B n (x + 1) 5 = 5 := nd_all 5 (x + 1) g1
    rw [hnd] at hE
    rw [hE] at hy hno
    refine m_tail hd hn hB (by omega) g2 (Or.inl rfl) (fun _ z2 z3 v'' R'' e'' => ?_) (fun y v'' R'' => ?_)
    · have T : ∀ j, j < 5 → v''.1 21 (5 * k + j) = B (x + 1 + j) - 48 := fun j hj => by rw [e'' 21 _ (Or.inr (Or.inr rfl))]; exact g4 j hj
      refine hy ⟨5, hmt, by rw [hnd, hc]; decide, by rw [hE]; exact z2, by rw [hE]; exact z3⟩ v'' R'' ?_ ?_ ⟨fun z => absurd (hc.symm.trans z) (by decide), fun _ j hj => T j hj, fun z => absurd (hc.symm.trans z) (by decide), fun z => absurd (hc.symm.trans z) (by decide), fun z => absurd (hc.symm.trans z) (by decide)⟩ ⟨fun j hj => ⟨?_, ?_⟩, fun y hy => ?_⟩
      · rw [e'' 19 k (Or.inl rfl), g3 19 k (Or.inl rfl)]; exact e19
      · rw [e'' 20 k (Or.inr (Or.inl rfl)), g3 20 k (Or.inr (Or.inl rfl)), hc]; exact e20
      · rw [e'' 19 j (Or.inl rfl), g3 19 j (Or.inl rfl)]; exact (eo.1 j hj).1
      · rw [e'' 20 j (Or.inr (Or.inl rfl)), g3 20 j (Or.inr (Or.inl rfl))]; exact (eo.1 j hj).2
      · rw [e'' 21 y (Or.inr (Or.inr rfl)), g3 21 y (Or.inr (Or.inr ⟨rfl, hy⟩))]; exact eo.2 y hy
    · refine hno (fun ok => y ?_) v'' R''
      obtain ⟨m', e, -, z1, z2⟩ := ok
      rw [hE] at z1 z2
      exact ⟨rfl, z1, z2⟩
  · have hnd : nd B n (x + 1) 5 = s := nd_st s 5 (x + 1) s1 s2 s3
    rw [hnd] at hE
    rw [hE] at hno
    refine m_tail hd hn hB (by omega) s4 (Or.inr rfl) (fun z => absurd z (by decide)) (fun y v'' R'' => hno (fun ok => ?_) v'' R'')
    obtain ⟨m', e, z0, -, -⟩ := ok
    rw [hmt] at e
    cases e
    rw [hnd, hc] at z0
    have : lst 112 5 = 5 := by decide
    omega
end RK
