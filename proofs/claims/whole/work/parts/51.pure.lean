/-! PURE 51: row, put -/
section QO
variable {N S : Hs} {μ0 μ σ σ' τ0 τ τ' u : Mm} {F g j h p n k d i : Nat} {z : Int32}
theorem m_ix (d i : Nat) : (100 : Int32) * nI d + nI i = nI (100 * d + i) := by rw [show (100 : Int32) = nI 100 from rfl, pk_mul, nI_add]
theorem q_row (a b c : Int32) (R : Rl N σ τ) (hF : 200 ≤ F) : Ag (f_X_row F σ 0 a b c) (f_M_row F τ 0 a b c) := by
  unfold Ag f_X_row
  rcases px a (n := 8) (by decide) with ⟨d, hd, rfl⟩ | ho
  · refine okJ (x_k (okY (x_sh1 hd (okF sI_none ?_))))
    rcases px b (n := 3) (by decide) with ⟨s, hs, rfl⟩ | hb
    · refine okF (nI_pos (by omega)) (okF (nI_nlt (a := 2) (b := s) (by omega) (by decide)) ?_)
      refine okI (fun c1 => ?_) (fun c1 => okR ?_)
      · refine okI (fun c2 => ?_) (fun c2 => okR ?_)
        · obtain ⟨n, hn, rfl⟩ := nI_of2 (n := 100) (M := 100) rfl (xnlt.mpr c2) c1
          refine okJ (x_sk hd ?_)
          unfold f_S_beginRow
          refine okY (okJ (x_sw hd (okJ (x_sw hd (okJ (x_sw hd ?_))))))
          refine lpA (A := Unit) (L := fun m u _ i => f_S_beginRow_L17 F (some (65 + 2 * d)) _ m u i) 100 (fun i u _ => (u.1 (65 + 2 * d) 0 = 2 ∧ u.1 (65 + 2 * d) 3 = nI s ∧ u.1 (65 + 2 * d) 4 = nI n) ∧ (∀ j, j < i → u.1 (66 + 2 * d) j = 0) ∧ ShF d σ u) (fun m xs _ hq => ?_) (fun m i u _ hi hq hk => ?_) 100 0 F _ () (by omega) (by omega) ⟨⟨?_, ?_, ?_⟩, fun j hj => absurd hj (Nat.not_lt_zero j), fun id k q1 q2 => ?_⟩
          · obtain ⟨⟨x0, x3, x4⟩, xe, xf⟩ := hq
            simp only [f_S_beginRow_L17]
            refine okJ (x_se hd (okJ (x_eln hd (okT (nI_le (Nat.le_refl _) (by decide)) (okR (okR ?_))))))
            unfold f_M_row
            refine m_t R (fun τ1 R1 => okY (m_n1 (n := 8) hd (by decide) rfl (okF i1n (okY (m_n1 (n := 3) hs (by decide) rfl (okF i1n (okT c1 (okT c2 ?_))))))))
            refine okJ (m_r 22 (okJ (m_aw 22 (by decide) (by decide) hd (okJ (m_r 25 (okJ (m_aw 25 (by decide) (by decide) hd (okJ (m_r 26 (okJ (m_aw 26 (by decide) (by decide) hd ?_)))))))))))
            refine lpA (A := Unit) (L := fun m u _ i => f_M_row_L68 F (some 0) (nI d) _ m u i) 100 (fun i u _ => (u.1 22 d = 2 ∧ u.1 25 d = nI s ∧ u.1 26 d = nI n) ∧ (∀ j, j < i → u.2.1 27 (100 * d + j) = 0) ∧ MhF d τ1 u) (fun m u _ hq => ?_) (fun m i u _ hi hq hk => ?_) 100 0 F _ () (by omega) (by omega) ⟨⟨?_, ?_, ?_⟩, fun j hj => absurd hj (Nat.not_lt_zero j), MhF.tr (MhF.tr (MhF.a (id := 22) (by decide)) (MhF.a (id := 25) (by decide))) (MhF.a (id := 26) (by decide))⟩
            · obtain ⟨⟨y0, y3, y4⟩, ye, yf⟩ := hq
              simp only [f_M_row_L68]
              refine okT (by decide) (okR ⟨rfl, N, R1.sh xf yf hd ⟨⟨x0.trans y0.symm, 2, by decide, x0⟩, fun z => absurd (x0.symm.trans z) (by decide), fun z => ⟨x3.trans y3.symm, ⟨s, hs, x3⟩, x4.trans y4.symm, ⟨n, by omega, x4⟩, fun i hi => ?_, fun _ i hi => ?_⟩⟩⟩)
              · rw [ye i hi]
                show (xs.1 (66 + 2 * d) i).toInt64 = 0
                rw [xe i hi]
                rfl
              · show -128 ≤ xs.1 (66 + 2 * d) i ∧ xs.1 (66 + 2 * d) i ≤ 127
                rw [xe i hi]
                decide
            · obtain ⟨y0, ye, yf⟩ := hq
              simp only [f_M_row_L68]
              refine okF (nI_ge (b := 100) hi (by decide)) (okJ (m_r 27 (okJ ?_)))
              rw [m_ix]
              refine m_lw 27 800 (Or.inl rfl) rfl (by decide) (by omega) (okJ (okR ?_))
              rw [nI_1]
              refine hk _ () ⟨y0, fun j hj => ?_, ⟨yf.1, fun j hj => ?_⟩⟩
              · show y2 u.2.1 27 (100 * d + i) 0 27 (100 * d + j) = 0
                by_cases q : j = i
                · subst q; rw [y2_s]
                · rw [y2_k _ _ (by omega)]; exact ye j (by omega)
              · show y2 u.2.1 27 (100 * d + i) 0 27 j = _
                rw [y2_k _ _ (by omega)]; exact yf.2 j hj
            · show y2 (y2 (y2 τ1.1 22 d 2) 25 d (nI s)) 26 d (nI n) 22 d = 2
              rw [y2_i _ _ (by decide), y2_i _ _ (by decide), y2_s]
            · show y2 (y2 (y2 τ1.1 22 d 2) 25 d (nI s)) 26 d (nI n) 25 d = _
              rw [y2_i _ _ (by decide), y2_s]
            · show y2 (y2 (y2 τ1.1 22 d 2) 25 d (nI s)) 26 d (nI n) 26 d = _
              rw [y2_s]
          · obtain ⟨x0, xe, xf⟩ := hq
            simp only [f_S_beginRow_L17]
            refine okJ (x_se hd (okJ (x_eln hd (okF (nI_ge hi (by decide)) (okJ (x_se hd (okJ (x_ew hd hi (okJ (okR ?_))))))))))
            rw [nI_1]
            refine hk _ () ⟨?_, fun j hj => ?_, fun id k q1 q2 => ?_⟩
            · have e1 : ∀ k, y2 u.1 (66 + 2 * d) i 0 (65 + 2 * d) k = u.1 (65 + 2 * d) k := fun k => y2_i _ _ (by omega)
              simp only [e1]
              exact x0
            · show y2 u.1 (66 + 2 * d) i 0 (66 + 2 * d) j = 0
              by_cases q : j = i
              · subst q; rw [y2_s]
              · rw [y2_k _ _ q]; exact xe j (by omega)
            · show y2 u.1 (66 + 2 * d) i 0 id k = _
              rw [y2_i _ _ q2]; exact xf id k q1 q2
          · show y2 (y2 (y2 σ.1 (65 + 2 * d) 0 2) (65 + 2 * d) 3 (nI s)) (65 + 2 * d) 4 (nI n) (65 + 2 * d) 0 = 2
            rw [y2_k _ _ (by decide), y2_k _ _ (by decide), y2_s]
          · show y2 (y2 (y2 σ.1 (65 + 2 * d) 0 2) (65 + 2 * d) 3 (nI s)) (65 + 2 * d) 4 (nI n) (65 + 2 * d) 3 = _
            rw [y2_k _ _ (by decide), y2_s]
          · show y2 (y2 (y2 σ.1 (65 + 2 * d) 0 2) (65 + 2 * d) 3 (nI s)) (65 + 2 * d) 4 (nI n) (65 + 2 * d) 4 = _
            rw [y2_s]
          · show y2 (y2 (y2 σ.1 (65 + 2 * d) 0 2) (65 + 2 * d) 3 (nI s)) (65 + 2 * d) 4 (nI n) id k = _
            rw [y2_i _ _ q1, y2_i _ _ q1, y2_i _ _ q1]
        · unfold f_M_row
          exact m_t R (fun τ1 R1 => okY (m_n1 (n := 8) hd (by decide) rfl (okF i1n (okY (m_n1 (n := 3) hs (by decide) rfl (okF i1n (okT c1 (okF c2 (okR ⟨rfl, N, R1⟩)))))))))
      · unfold f_M_row
        exact m_t R (fun τ1 R1 => okY (m_n1 (n := 8) hd (by decide) rfl (okF i1n (okY (m_n1 (n := 3) hs (by decide) rfl (okF i1n (okF c1 (okR ⟨rfl, N, R1⟩))))))))
    · have fin : OkO (f_M_row F τ 0 (nI d) b c) (fun q => (-1 : Int32) = q.1 ∧ Rel σ q.2) := by
        unfold f_M_row
        exact m_t R (fun τ1 R1 => okY (m_n1 (n := 8) hd (by decide) rfl (okF i1n (okY (m_n0 (n := 3) hb (by decide) rfl (okT rfl (okR ⟨rfl, N, R1⟩)))))))
      rcases hb with hb | hb
      · exact okT hb (okR fin)
      · exact okI (fun _ => okR fin) (fun _ => okT (xlt (b := nI 3) (by decide) hb) (okR fin))
  · refine okJ (x_k (okY (x_sh0 ho (okT rfl (okR ?_)))))
    unfold f_M_row
    exact m_t R (fun τ1 R1 => okY (m_n0 (n := 8) ho (by decide) rfl (okT rfl (okR ⟨rfl, N, R1⟩))))
def narV (s : Nat) (v : Int32) : Int32 := if s = 0 then v.toInt8.toInt32 else if s = 1 then v.toInt16.toInt32 else v
theorem nar_b (v : Int32) : -128 ≤ v.toInt8.toInt32 ∧ v.toInt8.toInt32 ≤ 127 := by
  rw [Int32.le_iff_toInt_le, Int32.le_iff_toInt_le, Int8.toInt_toInt32]
  have h1 := Int8.le_toInt v.toInt8
  have h2 := Int8.toInt_lt v.toInt8
  constructor
  · show (-128 : Int) ≤ _
    omega
  · show _ ≤ (127 : Int)
    omega
theorem o3 {j : Nat} (h : j < 3) : j = 0 ∨ j = 1 ∨ j = 2 := by omega
theorem q_put (a b c : Int32) (R : Rl N σ τ) : Ag (f_X_put F σ 0 a b c) (f_M_put F τ 0 a b c) := by
  unfold Ag f_X_put
  rcases px a (n := 8) (by decide) with ⟨d, hd, rfl⟩ | ho
  · refine okJ (x_k (okY (x_sh1 hd (okF sI_none (okJ (x_sg 0 hd ?_))))))
    refine okI (fun c0 => ?_) (fun c0 => ?_)
    · obtain ⟨-, ⟨s, hs, es⟩, -, ⟨n, hn, en⟩, -, -⟩ := (R.2.2.2 d hd).2.2 c0
      have mm : ∀ {P : Int32 × Mm → Prop}, (∀ τ1, Rl N σ τ1 → τ1.1 25 d = nI s → OkO (yb (f_M_in F τ1 b.toInt64 0 (nI n - 1).toInt64) fun x7 u8 => (if x7 = 0 then some ((-13 : Int32), u8) else ob (jgr YM 5 44 (some 0)) fun r10 => ob (jgr YM 5 42 (some 0)) fun r11 => ob (jal YM u8 r11 (nI d)) fun x12 => yb (f_M_narrowed F u8 c x12) fun z13 u14 => ob (jls YM u14 r10 (((100 : Int32) * nI d) + b) z13) fun u15 => some ((0 : Int32), u15))) P) → OkO (f_M_put F τ 0 (nI d) b c) P := by
        intro P hk
        unfold f_M_put
        refine m_t R (fun τ1 R1 => okJ (m_k (okY (m_wr1 hd ?_))))
        obtain ⟨⟨s1, -⟩, -, s2⟩ := R1.2.2.2 d hd
        obtain ⟨k1, -, f1, -⟩ := s2 c0
        have e1 : wrV (τ1.1 22 d) = 0 := by rw [← s1, show σ.1 (65 + 2 * d) 0 = 2 from c0]; rfl
        rw [e1]
        refine okT (show (0 : Int32) ≤ 0 by decide) (okJ (m_r 26 (okJ (m_a 26 (by decide) (by decide) hd ?_))))
        rw [← f1, en]
        exact hk τ1 R1 (k1.symm.trans es)
      refine okJ (x_sg 4 hd ?_)
      rw [show ((2 : Int32), (some (65 + 2 * d), σ).2).2 = σ from rfl, en]
      rcases px b (n := n) (by omega) with ⟨i, hi, rfl⟩ | hb
      · refine okY (x_isb1 hi (by omega) (okF i1n (okJ (x_sk hd ?_))))
        unfold f_S_set
        refine okY (okF (nI_pos (by omega)) (okJ (x_se hd (okJ (x_eln hd (okF (nI_ge (by omega) (by decide)) (okJ (x_se hd (okJ (x_sk hd ?_))))))))))
        have low : ∀ {P : Int32 × Mm → Prop}, P (narV s c, σ) → OkO (f_S_lowestBits F σ (65 + 2 * d) c) P := by
          intro P h
          unfold f_S_lowestBits
          refine okJ (x_sg 3 hd ?_)
          rw [es]
          rcases o3 hs with rfl | rfl | rfl
          · exact okT rfl (okR h)
          · exact okF (by decide) (okT rfl (okR h))
          · exact okF (by decide) (okF (by decide) (okR h))
        refine okY (low (okJ (x_ew hd (by omega) (okR (okR ?_)))))
        refine mm (fun τ1 R1 e25 => okY (m_n1 hi (by omega) rfl (okF i1n (okJ (m_r 27 (okJ (m_r 25 (okJ (m_a 25 (by decide) (by decide) hd ?_)))))))))
        rw [e25]
        have nar : ∀ {P : Int64 × Mm → Prop}, P ((narV s c).toInt64, τ1) → OkO (f_M_narrowed F τ1 c (nI s)) P := by
          intro P h
          unfold f_M_narrowed
          rcases o3 hs with rfl | rfl | rfl
          · exact okT rfl (okR h)
          · exact okF (by decide) (okT rfl (okR h))
          · exact okF (by decide) (okF (by decide) (okR h))
        refine okY (nar (okJ ?_))
        rw [m_ix]
        refine m_lw 27 800 (Or.inl rfl) rfl (by decide) (by omega) (okR ⟨rfl, N, R1.sh (fun id k q1 q2 => y2_i _ _ q2) ⟨fun _ _ _ => rfl, fun j hj => y2_k _ _ (by omega)⟩ hd ?_⟩)
        obtain ⟨⟨s1, s1'⟩, -, s2⟩ := R1.2.2.2 d hd
        obtain ⟨k1, k2, f1, f2, g1, g2⟩ := s2 c0
        have e1 : ∀ k, y2 σ.1 (66 + 2 * d) i (narV s c) (65 + 2 * d) k = σ.1 (65 + 2 * d) k := fun k => y2_i _ _ (by omega)
        unfold Shd
        simp only [e1]
        refine ⟨⟨s1, s1'⟩, fun z => absurd (Eq.trans (Eq.symm c0) z) (by decide), fun _ => ⟨k1, k2, f1, f2, fun j hj => ?_, fun z j hj => ?_⟩⟩
        · by_cases q : j = i
          · subst q; rw [y2_s, y2_s]
          · rw [y2_k _ _ q, y2_k _ _ (by omega)]; exact g1 j hj
        · by_cases q : j = i
          · subst q
            rw [y2_s]
            have s0 : s = 0 := nIi (by omega) (by decide) (es.symm.trans z)
            subst s0
            exact nar_b c
          · rw [y2_k _ _ q]; exact g2 z j hj
      · refine okY (x_isb0 hb (okT rfl (okR ?_)))
        exact mm (fun τ1 R1 e25 => okY (m_n0 hb (by omega) rfl (okT rfl (okR ⟨rfl, N, R1⟩))))
    · refine okJ (x_sk hd (okY (x_why hd (okR ?_))))
      unfold f_M_put
      refine m_t R (fun τ1 R1 => okJ (m_k (okY (m_wr1 hd ?_))))
      have s1 := (R1.2.2.2 d hd).1.1
      rw [← s1]
      exact okF (wr_no c0).2 (okR ⟨(wr_no c0).1.symm, N, R1⟩)
  · refine okJ (x_k (okY (x_sh0 ho (okT rfl (okR ?_)))))
    unfold f_M_put
    exact m_t R (fun τ1 R1 => okJ (m_k (okY (m_wr0 ho (okF (show ¬ (0 : Int32) ≤ -1 by decide) (okR ⟨rfl, N, R1⟩))))))
end QO
