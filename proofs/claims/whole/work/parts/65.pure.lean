/-! PURE 65: t read -/
section RO
variable {d n x k F i : Nat} {τ u : Mm} {bad : Int32} {B : Nat → Int32}
theorem m_rs_t {P : Unit × Mm → Prop} (hd : d < 8) (hn : n ≤ 100) (hB : RB d τ B) (hF : 100 ≤ F) (hk : k ≤ 50) (H : Rd d n τ u x 0 k) (hx : x < n) (hc : B x = 116) (hy : okS B n x → ∀ u', Rd d n τ u' (eV B n x + 1) 0 (k + 1) → u'.1 19 k = nI x → u'.1 20 k = B x → TV B n u'.1 k x → Old k u u' → P ((), u')) (hno : ¬ okS B n x → ∀ u', Rd d n τ u' (eV B n x) 1 (k + 1) → P ((), u')) : OkO (f_M_readStatement F u 0) P := by
  have hv : hV B n x = nI 116 := (hV_c (c := 116) hB.1 hn (by decide)).mpr ⟨hx, hc⟩
  have hmt := mt_l (m := 2) hx hc (by decide)
  have hE := eV_m hmt
  unfold f_M_readStatement
  refine okJ (m_x ?_)
  rw [H.1.2.2.2.2]
  refine okJ (m_k (okY (m_here hd hn hB (by omega) H ?_)))
  rw [hv]
  refine okJ (m_r 19 (okJ (m_x ?_)))
  rw [H.1.2.2.1]
  have H1 : Rd d n τ (y2 u.1 19 k (nI x), u.2.1, u.2.2) x 0 k := H.w (Or.inl rfl)
  refine okJ (m_51 (Or.inl rfl) hk (okJ (m_r 20 ?_)))
  have H2 : Rd d n τ (y2 (y2 u.1 19 k (nI x)) 20 k (nI 116), u.2.1, u.2.2) x 0 k := H1.w (Or.inr (Or.inl rfl))
  refine okJ (m_51 (Or.inr rfl) hk (okJ (m_x ?_)))
  rw [H2.1.2.2.2.1]
  refine okJ (okT rfl ?_)
  dsimp only
  repeat (refine okF (by decide) ?_)
  refine okT rfl (okR ?_)
  refine okJ (okE (x := (y2 (y2 (y2 u.1 19 k (nI x)) 20 k (nI 116)) 0 33 0, u.2.1, u.2.2)) (by rw [jpz, if_pos (Or.inl rfl)]; rfl) ?_)
  have H3 := H2.b 0
  refine okJ (m_x ?_)
  rw [H3.1.2.2.1]
  refine okJ (m_x ?_)
  rw [H3.1.2.2.2.1]
  refine okJ (okT rfl (okR ?_))
  rw [nI_1]
  have H4 := H3.mv (x + 1)
  refine okJ (okR (x := (y2 (y2 (y2 (y2 u.1 19 k (nI x)) 20 k (nI 116)) 0 33 0) 0 32 (nI (x + 1)), u.2.1, u.2.2)) ?_)
  have e19 : ((y2 (y2 (y2 (y2 u.1 19 k (nI x)) 20 k (nI 116)) 0 33 0) 0 32 (nI (x + 1)), u.2.1, u.2.2) : Mm).1 19 k = nI x := by
    show y2 (y2 (y2 (y2 u.1 19 k (nI x)) 20 k (nI 116)) 0 33 0) 0 32 (nI (x + 1)) 19 k = nI x
    rw [y2_i _ _ (by decide), y2_i _ _ (by decide), y2_i _ _ (by decide), y2_s]
  have e20 : ((y2 (y2 (y2 (y2 u.1 19 k (nI x)) 20 k (nI 116)) 0 33 0) 0 32 (nI (x + 1)), u.2.1, u.2.2) : Mm).1 20 k = nI 116 := by
    show y2 (y2 (y2 (y2 u.1 19 k (nI x)) 20 k (nI 116)) 0 33 0) 0 32 (nI (x + 1)) 20 k = nI 116
    rw [y2_i _ _ (by decide), y2_i _ _ (by decide), y2_s]
  have eo : Old k u (y2 (y2 (y2 (y2 u.1 19 k (nI x)) 20 k (nI 116)) 0 33 0) 0 32 (nI (x + 1)), u.2.1, u.2.2) := by
    refine ⟨fun j hj => ⟨?_, ?_⟩, fun y hy => ?_⟩
    · show y2 (y2 (y2 (y2 u.1 19 k (nI x)) 20 k (nI 116)) 0 33 0) 0 32 (nI (x + 1)) 19 j = _
      rw [y2_i _ _ (by decide), y2_i _ _ (by decide), y2_i _ _ (by decide), y2_k _ _ (by omega)]
    · show y2 (y2 (y2 (y2 u.1 19 k (nI x)) 20 k (nI 116)) 0 33 0) 0 32 (nI (x + 1)) 20 j = _
      rw [y2_i _ _ (by decide), y2_i _ _ (by decide), y2_k _ _ (by omega), y2_i _ _ (by decide)]
    · show y2 (y2 (y2 (y2 u.1 19 k (nI x)) 20 k (nI 116)) 0 33 0) 0 32 (nI (x + 1)) 21 y = _
      rw [y2_i _ _ (by decide), y2_i _ _ (by decide), y2_i _ _ (by decide), y2_i _ _ (by decide)]
  generalize (y2 (y2 (y2 (y2 u.1 19 k (nI x)) 20 k (nI 116)) 0 33 0) 0 32 (nI (x + 1)), u.2.1, u.2.2) = v at H4 eo e19 e20 ⊢
  refine okJ ?_
  repeat (refine okF (by decide) ?_)
  refine okT rfl (okR ?_)
  refine m_dgs (m := 1) hd hn hB (by omega) (by decide) hk hF H4 (fun v' D => ?_)
  refine okJ (okF (by decide) (okR (okJ (okT rfl ?_))))
  have e5 : (5 : Int32) * nI k = nI (5 * k) := by rw [show (5 : Int32) = nI 5 from rfl, pk_mul]
  rcases D with ⟨g1, g2, g3, g4⟩ | ⟨s, s1, s2, s3, s4, s5⟩
  · have d0 : dg B n (x + 1) := g1 0 (by decide)
    have t0 : v'.1 21 (5 * k) = B (x + 1) - 48 := g4 0 (by decide)
    refine okJ (m_x ?_)
    rw [g2.1.2.2.2.1]
    refine okT rfl (okJ (m_k (okY (m_here hd hn hB (by omega) g2 ?_))))
    rcases Classical.em (dg B n (x + 1 + 1)) with c1 | c1
    · have c2 := (hV_d hB.1 hn).mpr c1
      refine okY (m_in1 (lo := 48) (hi := 57) c2.1 c2.2 (okF i1n (okJ (m_r 21 (okJ (m_r 21 (okJ ?_)))))))
      rw [e5]
      refine m_tr (by omega) (okJ (m_k (okY (m_dig hd hn hB (by omega) g2 (fun _ u2 R2 e2 => okJ ?_) (fun c3 => absurd c1 c3)))))
      refine m_tw (by omega) (okR ?_)
      have hd2 : ∀ j, j < 2 → dg B n (x + 1 + j) := by
        intro j hj
        rcases (by omega : j = 0 ∨ j = 1) with rfl | rfl
        · exact d0
        · exact c1
      have hnd : nd B n (x + 1) 2 = 2 := nd_all 2 (x + 1) hd2
      rw [hnd] at hE
      rw [hE] at hy hno
      have R3 : Rd d n τ (y2 u2.1 21 (5 * k) (10 * v'.1 21 (5 * k) + (B (x + 1 + 1) - 48)), u2.2.1, u2.2.2) (x + 1 + 2) 0 k := R2.w (Or.inr (Or.inr rfl))
      refine m_tail hd hn hB (by omega) R3 (Or.inl rfl) (fun _ z2 z3 v'' R'' e'' => ?_) (fun y v'' R'' => ?_)
      · have q : ∀ a i, (a = 19 ∨ a = 20 ∨ a = 21) → ¬ (a = 21 ∧ i = 5 * k) → v''.1 a i = v'.1 a i := fun a i ha hne => by
          rw [e'' a i ha]
          show y2 u2.1 21 (5 * k) _ a i = _
          rw [y2_o _ _ (by omega), e2 a i ha]
        refine hy ⟨2, hmt, by rw [hnd, hc]; decide, by rw [hE]; exact z2, by rw [hE]; exact z3⟩ v'' R'' ?_ ?_ ⟨fun z => absurd (hc.symm.trans z) (by decide), fun z => absurd (hc.symm.trans z) (by decide), fun z => absurd (hc.symm.trans z) (by decide), fun z => absurd (hc.symm.trans z) (by decide), fun _ => ⟨fun _ => ?_, fun c3 => absurd c1 c3⟩⟩ ⟨fun j hj => ⟨?_, ?_⟩, fun y hy => ?_⟩
        · rw [q 19 k (Or.inl rfl) (by omega), g3 19 k (Or.inl rfl)]; exact e19
        · rw [q 20 k (Or.inr (Or.inl rfl)) (by omega), g3 20 k (Or.inr (Or.inl rfl)), hc]; exact e20
        · rw [e'' 21 _ (Or.inr (Or.inr rfl))]
          show y2 u2.1 21 (5 * k) _ 21 (5 * k) = _
          rw [y2_s, t0]
        · rw [q 19 j (Or.inl rfl) (by omega), g3 19 j (Or.inl rfl)]; exact (eo.1 j hj).1
        · rw [q 20 j (Or.inr (Or.inl rfl)) (by omega), g3 20 j (Or.inr (Or.inl rfl))]; exact (eo.1 j hj).2
        · rw [q 21 y (Or.inr (Or.inr rfl)) (by omega), g3 21 y (Or.inr (Or.inr ⟨rfl, hy⟩))]; exact eo.2 y hy
      · refine hno (fun ok => y ?_) v'' R''
        obtain ⟨m', e, -, z1, z2⟩ := ok
        rw [hE] at z1 z2
        exact ⟨rfl, z1, z2⟩
    · have c2 : hV B n (x + 1 + 1) < 48 ∨ 57 < hV B n (x + 1 + 1) := by
        by_cases y1 : hV B n (x + 1 + 1) < 48
        · exact Or.inl y1
        · by_cases y2 : 57 < hV B n (x + 1 + 1)
          · exact Or.inr y2
          · exact absurd ((hV_d hB.1 hn).mp ⟨xnlt.mp y1, xnlt.mp y2⟩) c1
      refine okY (m_in0 (lo := 48) (hi := 57) c2 (okT rfl (okR ?_)))
      have hnd : nd B n (x + 1) 2 = 1 := nd_st 1 2 (x + 1) (by decide) g1 c1
      rw [hnd] at hE
      rw [hE] at hy hno
      refine m_tail hd hn hB (by omega) g2 (Or.inl rfl) (fun _ z2 z3 v'' R'' e'' => ?_) (fun y v'' R'' => ?_)
      · refine hy ⟨2, hmt, by rw [hnd, hc]; decide, by rw [hE]; exact z2, by rw [hE]; exact z3⟩ v'' R'' ?_ ?_ ⟨fun z => absurd (hc.symm.trans z) (by decide), fun z => absurd (hc.symm.trans z) (by decide), fun z => absurd (hc.symm.trans z) (by decide), fun z => absurd (hc.symm.trans z) (by decide), fun _ => ⟨fun c3 => absurd c3 c1, fun _ => ?_⟩⟩ ⟨fun j hj => ⟨?_, ?_⟩, fun y hy => ?_⟩
        · rw [e'' 19 k (Or.inl rfl), g3 19 k (Or.inl rfl)]; exact e19
        · rw [e'' 20 k (Or.inr (Or.inl rfl)), g3 20 k (Or.inr (Or.inl rfl)), hc]; exact e20
        · rw [e'' 21 _ (Or.inr (Or.inr rfl))]; exact t0
        · rw [e'' 19 j (Or.inl rfl), g3 19 j (Or.inl rfl)]; exact (eo.1 j hj).1
        · rw [e'' 20 j (Or.inr (Or.inl rfl)), g3 20 j (Or.inr (Or.inl rfl))]; exact (eo.1 j hj).2
        · rw [e'' 21 y (Or.inr (Or.inr rfl)), g3 21 y (Or.inr (Or.inr ⟨rfl, hy⟩))]; exact eo.2 y hy
      · refine hno (fun ok => y ?_) v'' R''
        obtain ⟨m', e, -, z1, z2⟩ := ok
        rw [hE] at z1 z2
        exact ⟨rfl, z1, z2⟩
  · obtain rfl : s = 0 := by omega
    refine okJ (m_x ?_)
    rw [s4.1.2.2.2.1]
    refine okF i1n (okR ?_)
    have hnd : nd B n (x + 1) 2 = 0 := nd_st 0 2 (x + 1) (by decide) s2 s3
    rw [hnd] at hE
    rw [hE] at hno
    refine m_tail hd hn hB (by omega) s4 (Or.inr rfl) (fun z => absurd z (by decide)) (fun y v'' R'' => hno (fun ok => ?_) v'' R'')
    obtain ⟨m', e, z0, -, -⟩ := ok
    rw [hmt] at e
    cases e
    rw [hnd, hc] at z0
    have : lst 116 2 = 1 := by decide
    omega
end RO
