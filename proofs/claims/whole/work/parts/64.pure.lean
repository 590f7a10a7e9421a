/-! PURE 64: h read -/
section RN
variable {d n x k F i : Nat} {τ u : Mm} {bad : Int32} {B : Nat → Int32}
theorem m_rs_h {P : Unit × Mm → Prop} (hd : d < 8) (hn : n ≤ 100) (hB : RB d τ B) (hF : 100 ≤ F) (hk : k ≤ 50) (H : Rd d n τ u x 0 k) (hx : x < n) (hc : B x = 104) (hy : okS B n x → ∀ u', Rd d n τ u' (eV B n x + 1) 0 (k + 1) → u'.1 19 k = nI x → u'.1 20 k = B x → TV B n u'.1 k x → Old k u u' → P ((), u')) (hno : ¬ okS B n x → ∀ u', Rd d n τ u' (eV B n x) 1 (k + 1) → P ((), u')) : OkO (f_M_readStatement F u 0) P := by
  have hv : hV B n x = nI 104 := (hV_c (c := 104) hB.1 hn (by decide)).mpr ⟨hx, hc⟩
  have hmt := mt_l (m := 3) hx hc (by decide)
  have hE := eV_m hmt
  unfold f_M_readStatement
  refine okJ (m_x ?_)
  rw [H.1.2.2.2.2]
  refine okJ (m_k (okY (m_here hd hn hB (by omega) H ?_)))
  rw [hv]
  refine okJ (m_r 19 (okJ (m_x ?_)))
  rw [H.1.2.2.1]
  have H1 : Rd d n τ (y2 u.1 19 k (nI x), u.2.1, u.2.2) x 0 k := H.w (Or.inl rfl)
  refine okJ (m_51 (Or.inl rfl) hk (okJ (m_r 20 ?_)))
  have H2 : Rd d n τ (y2 (y2 u.1 19 k (nI x)) 20 k (nI 104), u.2.1, u.2.2) x 0 k := H1.w (Or.inr (Or.inl rfl))
  refine okJ (m_51 (Or.inr rfl) hk (okJ (m_x ?_)))
  rw [H2.1.2.2.2.1]
  refine okJ (okT rfl ?_)
  dsimp only
  repeat (refine okF (by decide) ?_)
  refine okT rfl (okR ?_)
  refine okJ (okE (x := (y2 (y2 (y2 u.1 19 k (nI x)) 20 k (nI 104)) 0 33 0, u.2.1, u.2.2)) (by rw [jpz, if_pos (Or.inl rfl)]; rfl) ?_)
  have H3 := H2.b 0
  refine okJ (m_x ?_)
  rw [H3.1.2.2.1]
  refine okJ (m_x ?_)
  rw [H3.1.2.2.2.1]
  refine okJ (okT rfl (okR ?_))
  rw [nI_1]
  have H4 := H3.mv (x + 1)
  refine okJ (okR (x := (y2 (y2 (y2 (y2 u.1 19 k (nI x)) 20 k (nI 104)) 0 33 0) 0 32 (nI (x + 1)), u.2.1, u.2.2)) ?_)
  have e19 : ((y2 (y2 (y2 (y2 u.1 19 k (nI x)) 20 k (nI 104)) 0 33 0) 0 32 (nI (x + 1)), u.2.1, u.2.2) : Mm).1 19 k = nI x := by
    show y2 (y2 (y2 (y2 u.1 19 k (nI x)) 20 k (nI 104)) 0 33 0) 0 32 (nI (x + 1)) 19 k = nI x
    rw [y2_i _ _ (by decide), y2_i _ _ (by decide), y2_i _ _ (by decide), y2_s]
  have e20 : ((y2 (y2 (y2 (y2 u.1 19 k (nI x)) 20 k (nI 104)) 0 33 0) 0 32 (nI (x + 1)), u.2.1, u.2.2) : Mm).1 20 k = nI 104 := by
    show y2 (y2 (y2 (y2 u.1 19 k (nI x)) 20 k (nI 104)) 0 33 0) 0 32 (nI (x + 1)) 20 k = nI 104
    rw [y2_i _ _ (by decide), y2_i _ _ (by decide), y2_s]
  have eo : Old k u (y2 (y2 (y2 (y2 u.1 19 k (nI x)) 20 k (nI 104)) 0 33 0) 0 32 (nI (x + 1)), u.2.1, u.2.2) := by
    refine ⟨fun j hj => ⟨?_, ?_⟩, fun y hy => ?_⟩
    · show y2 (y2 (y2 (y2 u.1 19 k (nI x)) 20 k (nI 104)) 0 33 0) 0 32 (nI (x + 1)) 19 j = _
      rw [y2_i _ _ (by decide), y2_i _ _ (by decide), y2_i _ _ (by decide), y2_k _ _ (by omega)]
    · show y2 (y2 (y2 (y2 u.1 19 k (nI x)) 20 k (nI 104)) 0 33 0) 0 32 (nI (x + 1)) 20 j = _
      rw [y2_i _ _ (by decide), y2_i _ _ (by decide), y2_k _ _ (by omega), y2_i _ _ (by decide)]
    · show y2 (y2 (y2 (y2 u.1 19 k (nI x)) 20 k (nI 104)) 0 33 0) 0 32 (nI (x + 1)) 21 y = _
      rw [y2_i _ _ (by decide), y2_i _ _ (by decide), y2_i _ _ (by decide), y2_i _ _ (by decide)]
  generalize (y2 (y2 (y2 (y2 u.1 19 k (nI x)) 20 k (nI 104)) 0 33 0) 0 32 (nI (x + 1)), u.2.1, u.2.2) = v at H4 eo e19 e20 ⊢
  refine okJ ?_
  repeat (refine okF (by decide) ?_)
  refine okT rfl (okR ?_)
  refine m_dgs (m := 1) hd hn hB (by omega) (by decide) hk hF H4 (fun v' D => ?_)
  refine okJ (okT rfl (okJ (m_r 21 (okJ (m_k ?_)))))
  have bd : ∀ (s : Nat) (w : Int32) (v2 : Mm), s < 3 → (∀ j, j < s → dg B n (x + 1 + j)) → ¬ dg B n (x + 1 + s) → Rd d n τ v2 (x + 1 + s) 1 k → OkO (ob (jas YM v2 (some 21) (5 * nI k + 1) w) fun u42 => some u42) (fun q37 => OkO (ob ((if nI 104 = (116 : Int32) then ob (jgi YM 5 33 q37 (some 0)) fun x45 => (if x45 = 0 then ob (jk YM 5 (some 0)) fun t => yb (f_M_here F q37 t ) fun x47 u48 => yb (f_M_in F u48 (x47.toInt64) (48 : Int64) (57 : Int64)) fun x49 u50 => (if x49 = 0 then some u50 else ob (jgr YM 5 37 (some 0)) fun r52 => ob (jgr YM 5 37 (some 0)) fun r53 => ob (jal YM u50 r53 ((5 : Int32) * nI k)) fun x54 => ob (jk YM 5 (some 0)) fun t => yb (f_M_readDigit F u50 t ) fun x55 u56 => ob (jas YM u56 r52 ((5 : Int32) * nI k) (((10 : Int32) * x54) + x55)) fun u57 => some u57) else some q37) else some q37) : Option Mm) fun q43 => ob (jgi YM 5 33 q43 (some 0)) fun x58 => ob ((if x58 = 0 then ob (jk YM 5 (some 0)) fun t => yb (f_M_here F q43 t ) fun x61 u62 => (if x61 = (59 : Int32) then some ((0 : Int32), u62) else some ((1 : Int32), u62)) else some ((1 : Int32), q43)) : Option (Int32 × Mm)) fun q59 => ob (jpz YM 5 33 q59.2 (some 0) q59.1) fun u64 => ob (jgi YM 5 32 u64 (some 0)) fun x65 => ob (jgi YM 5 33 u64 (some 0)) fun x66 => ob ((if x66 = 0 then some (1 : Int32) else some (0 : Int32)) : Option Int32) fun q67 => ob (jpi YM 5 32 u64 (some 0) (x65 + q67)) fun u69 => ob (jgi YM 5 34 u69 (some 0)) fun x70 => ob (jpi YM 5 34 u69 (some 0) (x70 + 1)) fun u71 => some ((), u71)) P) := by
    intro s w v2 hs h1 h2 R2
    refine okJ ?_
    rw [show (5 : Int32) * nI k + 1 = nI (5 * k + 1) from i5_e k 1]
    refine m_tw (by omega) (okR (okJ (okF (by decide) (okR ?_))))
    have hnd : nd B n (x + 1) 3 = s := nd_st s 3 (x + 1) hs h1 h2
    rw [hnd] at hE
    rw [hE] at hno
    refine m_tail hd hn hB (by omega) (R2.w (Or.inr (Or.inr rfl))) (Or.inr rfl) (fun z => absurd z (by decide)) (fun y v'' R'' => hno (fun ok => ?_) v'' R'')
    obtain ⟨m', e, z0, -, -⟩ := ok
    rw [hmt] at e
    cases e
    rw [hnd, hc] at z0
    have : lst 104 3 = 3 := by decide
    omega
  rcases D with ⟨g1, g2, g3, g4⟩ | ⟨s, s1, s2, s3, s4, s5⟩
  · have d0 : dg B n (x + 1) := g1 0 (by decide)
    refine okY (m_two hd hn hB (by omega) g2 (fun c1 c2 u2 R2 e2 => ?_) (fun c1 w u2 R2 => bd 1 w u2 (by decide) g1 c1 R2) (fun c1 c2 w u2 R2 => bd 2 w u2 (by decide) (fun j hj => ?_) c2 R2))
    · refine okJ ?_
      rw [show (5 : Int32) * nI k + 1 = nI (5 * k + 1) from i5_e k 1]
      refine m_tw (by omega) (okR (okJ (okF (by decide) (okR ?_))))
      have hd3 : ∀ j, j < 3 → dg B n (x + 1 + j) := by
        intro j hj
        rcases (by omega : j = 0 ∨ j = 1 ∨ j = 2) with rfl | rfl | rfl
        · exact d0
        · exact c1
        · exact c2
      have hnd : nd B n (x + 1) 3 = 3 := nd_all 3 (x + 1) hd3
      rw [hnd] at hE
      rw [hE] at hy hno
      have R3 : Rd d n τ (y2 u2.1 21 (5 * k + 1) (10 * (B (x + 1 + 1) - 48) + (B (x + 1 + 1 + 1) - 48)), u2.2.1, u2.2.2) (x + 1 + 3) 0 k := R2.w (Or.inr (Or.inr rfl))
      refine m_tail hd hn hB (by omega) R3 (Or.inl rfl) (fun _ z2 z3 v'' R'' e'' => ?_) (fun y v'' R'' => ?_)
      · have q : ∀ a i, (a = 19 ∨ a = 20 ∨ a = 21) → ¬ (a = 21 ∧ i = 5 * k + 1) → v''.1 a i = v'.1 a i := fun a i ha hne => by
          rw [e'' a i ha]
          show y2 u2.1 21 (5 * k + 1) _ a i = _
          rw [y2_o _ _ (by omega), e2 a i ha]
        refine hy ⟨3, hmt, by rw [hnd, hc]; decide, by rw [hE]; exact z2, by rw [hE]; exact z3⟩ v'' R'' ?_ ?_ ⟨fun z => absurd (hc.symm.trans z) (by decide), fun z => absurd (hc.symm.trans z) (by decide), fun z => absurd (hc.symm.trans z) (by decide), fun _ => ⟨?_, ?_⟩, fun z => absurd (hc.symm.trans z) (by decide)⟩ ⟨fun j hj => ⟨?_, ?_⟩, fun y hy => ?_⟩
        · rw [q 19 k (Or.inl rfl) (by omega), g3 19 k (Or.inl rfl)]; exact e19
        · rw [q 20 k (Or.inr (Or.inl rfl)) (by omega), g3 20 k (Or.inr (Or.inl rfl)), hc]; exact e20
        · rw [q 21 _ (Or.inr (Or.inr rfl)) (by omega)]; exact g4 0 (by decide)
        · rw [e'' 21 _ (Or.inr (Or.inr rfl))]
          show y2 u2.1 21 (5 * k + 1) _ 21 (5 * k + 1) = _
          rw [y2_s]
        · rw [q 19 j (Or.inl rfl) (by omega), g3 19 j (Or.inl rfl)]; exact (eo.1 j hj).1
        · rw [q 20 j (Or.inr (Or.inl rfl)) (by omega), g3 20 j (Or.inr (Or.inl rfl))]; exact (eo.1 j hj).2
        · rw [q 21 y (Or.inr (Or.inr rfl)) (by omega), g3 21 y (Or.inr (Or.inr ⟨rfl, hy⟩))]; exact eo.2 y hy
      · refine hno (fun ok => y ?_) v'' R''
        obtain ⟨m', e, -, z1, z2⟩ := ok
        rw [hE] at z1 z2
        exact ⟨rfl, z1, z2⟩
    · rcases (by omega : j = 0 ∨ j = 1) with rfl | rfl
      · exact d0
      · exact c1
  · obtain rfl : s = 0 := by omega
    exact okY (m_two1 s4 (fun w u2 R2 => bd 0 w u2 (by decide) (fun j hj => absurd hj (Nat.not_lt_zero j)) s3 R2))
end RN
