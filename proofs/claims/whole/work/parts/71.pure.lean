/-! PURE 71: house -/
section RW
variable {h i j p g F d n x k K : Nat} {μ0 μ τ0 τ u σ σ' τ' : Mm} {S T N : Hs} {dd ee : Int32} {B : Nat → Int32}
theorem bB_h (h : (Iv N ∧ Lv N) ∧ sM N ≤ 999) (hl : sLo N = -4) : Hv (bB N) := ⟨⟨bB_i h.1.1 hl, h.1.2⟩, rfl, h.2⟩
theorem m_hb {P : Int32 × Mm → Prop} {u : Mm} (R : Rl N σ u) (hn : n ≤ 100) (hF : 3000 ≤ F) (fl : Fl B n K) (e34 : u.1 0 34 = nI K) (T0 : ∀ j, j < K → Td B n u.1 j)
    (hA : ∀ k T u' m f, k < K → sBd B n (bB N) k = some T → sSt B (pS B n k) T = none → FN u u' → (∃ d e, RM d e u'.1 (uC N m f (-4))) → P (-2000 - nI (pS B n k), u'))
    (hB : ∀ T u', sBd B n (bB N) K = some T → FN u u' → (∃ d e, RM d e u'.1 T) → P (nI K, u')) : OkO (ob (jk YM 5 (some 0)) fun t => yb (f_M_open F u t) fun _ u27 => f_M_house_L105 F (some 0) (fun (u38 : Mm) => ob (jgi YM 5 34 u38 (some 0)) fun (x39 : Int32) => some (x39, u38)) F u27 (0 : Int32)) P := by
  obtain ⟨d, e, M0⟩ := R.m
  have hl := R.1.2.2.1
  have hK := Fl_le fl
  refine okJ (m_k (okY (m_open2 M0.1 (by omega) (fun u1 M1 I1 F1 e1 => ?_))))
  have T1 : ∀ j, j < K → Td B n u1.1 j := by
    intro j hj
    obtain ⟨t1, t2, t3⟩ := T0 j hj
    have q : ∀ a i, 18 ≤ a → u1.1 a i = u.1 a i := F1.1
    refine ⟨(q 19 j (by decide)).trans t1, (q 20 j (by decide)).trans t2, ?_⟩
    unfold TV
    simp only [q 21 _ (by decide)]
    exact t3
  have M1b : RM (sMi N + d) (sFr N + e) u1.1 (bB N) := M1.toB hl
  refine m_bld (MS.rf M1b) (bB_h ⟨R.1.2.1, R.1.2.2.2.1⟩ hl) hF hn fl (e1.trans e34) T1 (fun k T S' u' hk es en M' hl' => ?_) (fun T u' es M' => ?_)
  · refine m_ag R M'.1 hl' (M'.im I1) (F1.tr M'.fn) (by omega) (fun u3 M3 I3 F3 => okJ (m_r 19 (okJ (okE (al_e (by decide) (by decide) (show k < 51 by omega) (by omega)) ?_))))
    have e19 : u3.1 19 k = nI (pS B n k) := (F3.1 19 k (by decide)).trans (T0 k hk).1
    rw [e19]
    exact okR (hA k T u3 _ _ hk es en F3 ⟨_, _, M3.1⟩)
  · refine okJ (m_x ?_)
    rw [M'.2.1.2 34 (by decide) (by decide) (by decide), e1, e34]
    exact okR (hB T u' es (F1.tr M'.fn) ⟨_, _, M'.1⟩)
theorem q_house (a : Int32) (R : Rl N σ τ) (hF : 3000 ≤ F) : Ag (f_X_house F σ 0 a) (f_M_house F τ 0 a) := by
  obtain ⟨Q, hQ⟩ := R.2.1
  unfold Ag f_X_house
  rcases px a (n := 8) (by decide) with ⟨d, hd, rfl⟩ | ho
  · refine okJ (x_k (okY (x_sh1 hd (okF sI_none (okJ (x_sg 0 hd ?_))))))
    refine okI (fun c => okJ (x_sg 3 hd (okI (fun cs => ?_) (fun cs => ?_)))) (fun c => ?_)
    · obtain ⟨-, -, -, ⟨n, hn, en⟩, -, -⟩ := (R.2.2.2 d hd).2.2 c
      have hn : n ≤ 100 := by omega
      dsimp only
      refine okY (t_break hd hn en (by omega) (fun k g nok => ?_) (fun K fl => ?_))
      · have hpk : pS (σ.1 (66 + 2 * d)) n k < 200 := by
          rcases Nat.eq_zero_or_pos k with z | z
          · subst z; show 0 < 200; decide
          · have := g.2 k z (Nat.le_refl _); omega
        have hev : eV (σ.1 (66 + 2 * d)) n (pS (σ.1 (66 + 2 * d)) n k) < 300 := by
          unfold eV
          cases hmt : mt (σ.1 (66 + 2 * d)) n (pS (σ.1 (66 + 2 * d)) n k) with
          | none => dsimp only; omega
          | some m =>
            have q1 := ms_le (mt_some hmt).2
            have q2 := nd_le (B := σ.1 (66 + 2 * d)) (n := n) m (pS (σ.1 (66 + 2 * d)) n k + 1)
            dsimp only
            omega
        refine okF (m4_n (by omega)) (okR ?_)
        refine m_hs R hd hn c cs en rfl hF (fun k' u' R' g' nok' => ?_) (fun K' u' R' fl' _ _ => (Gd_n g nok fl').elim)
        have : k = k' := Gd_u g nok g' nok'
        subst this
        exact ⟨rfl, N, R'⟩
      · refine okT rfl (okJ (x_r (hI 1) (okJ (x_r (hI 0) (okJ (x_h (by decide) (okY (x_bm R (XS.rf hQ) (by omega) (fun σ1 X1 => okJ (x_r (hI 1) ?_))))))))))
        have hb := bB_h ⟨R.1.2.1, R.1.2.2.2.1⟩ R.1.2.2.1
        refine okY (t_build (B := σ.1 (66 + 2 * d)) (S := bB N) (σ := σ) hd hn en rfl X1 hb hF fl (fun k T σ2 hk es en2 X2 => ?_) (fun T σ2 es X2 => ?_))
        · have hpk := Fl_p fl hk
          refine okF (m4_n (by omega)) (okR ?_)
          refine m_hs R hd hn c cs en rfl hF (fun k' u' R' g' nok' => (Gd_n g' nok' fl).elim) (fun K' u' R' fl' e34 T0 => ?_)
          obtain rfl : K = K' := (Fl_u fl).symm.trans (Fl_u fl')
          refine m_hb R' hn hF fl' e34 T0 (fun k' T' u3 m f hk' es' en' F3 M3 => ?_) (fun T' u3 es' F3 M3 => ?_)
          · have q1 := sBd_u es en2 es'
            have q2 := sBd_u es' en' es
            obtain rfl : k = k' := by omega
            obtain ⟨dd, ee, M3⟩ := M3
            exact ⟨rfl, R'.mind X2 F3 M3⟩
          · have := sBd_u es en2 es'
            omega
        · have hT := sBd_i fl hb K T (Nat.le_refl _) es
          refine okT rfl (okJ (x_r (hI 0) (okJ (x_r (hI 1) (okJ (x_h (by decide) ?_))))))
          refine okY (x_bec (h := 0) (h2 := 1) (XS.rf (R.1.1.fr X2.2.1 (by decide))) (by decide) (by decide) (by decide) X2.1 hT.1.1 (by omega) (fun σ3 X3 => ?_))
          have en3 : σ3.1 (65 + 2 * d) 4 = nI n := by
            rw [X3.2.1 _ _ (by omega), X2.2.1 _ _ (by omega)]; exact en
          have eB3 : σ3.1 (66 + 2 * d) = σ.1 (66 + 2 * d) := by
            funext q
            rw [X3.2.1 _ _ (by omega), X2.2.1 _ _ (by omega)]
          refine okY (t_cnt hd hn en3 (by omega) (okR ?_))
          rw [eB3, Fl_u fl]
          refine m_hs R hd hn c cs en rfl hF (fun k' u' R' g' nok' => (Gd_n g' nok' fl).elim) (fun K' u' R' fl' e34 T0 => ?_)
          obtain rfl : K = K' := (Fl_u fl).symm.trans (Fl_u fl')
          refine m_hb R' hn hF fl' e34 T0 (fun k' T' u3 m f hk' es' en' F3 M3 => ?_) (fun T' u3 es' F3 M3 => ?_)
          · have := sBd_u es' en' es
            omega
          · rw [es] at es'
            cases es'
            obtain ⟨dd, ee, M3⟩ := M3
            refine ⟨rfl, uC T 0 0 (-4), R'.up ((X2.fx (by decide)).tr (X3.fx (by decide))) F3 X3.1 ⟨m4_uC hT.1.1, hT.1.2⟩ rfl hT.2.2 (M3.toB hT.2.1) ⟨T, X2.1.fr X3.2.1 (by decide)⟩⟩
    · refine okJ (x_sk hd (okY (x_why hd (okR ?_))))
      rw [c]
      unfold f_M_house
      refine m_t R (fun τ1 R1 => okJ (m_k ?_))
      obtain ⟨⟨s1, -⟩, -, s2⟩ := R1.2.2.2 d hd
      obtain ⟨e25, -⟩ := s2 c
      unfold f_M_wrongSort
      refine okY (okJ (m_k (okY (m_wr1 hd ?_))))
      rw [← s1, c]
      refine okT (show (0 : Int32) ≤ 0 by decide) (okJ (m_r 25 (okJ (m_a 25 (by decide) (by decide) hd ?_))))
      rw [← e25]
      exact okF cs (okR (okF (show ¬ (0 : Int32) ≤ -12 by decide) (okR ⟨rfl, N, R1⟩)))
    · refine okJ (x_sk hd (okY (x_why hd (okR ?_))))
      unfold f_M_house
      refine m_t R (fun τ1 R1 => okJ (m_k ?_))
      have s1 := (R1.2.2.2 d hd).1.1
      unfold f_M_wrongSort
      refine okY (okJ (m_k (okY (m_wr1 hd ?_))))
      rw [← s1]
      refine okF (wr_no c).2 (okJ (m_k (okY (m_wr1 hd (okR ?_)))))
      rw [← s1]
      exact okF (wr_no c).2 (okR ⟨(wr_no c).1.symm, N, R1⟩)
  · refine okJ (x_k (okY (x_sh0 ho (okT rfl (okR ?_)))))
    unfold f_M_house
    refine m_t R (fun τ1 R1 => okJ (m_k ?_))
    unfold f_M_wrongSort
    exact okY (okJ (m_k (okY (m_wr0 ho (okF (show ¬ (0 : Int32) ≤ -1 by decide) (okJ (m_k (okY (m_wr0 ho (okR (okF (show ¬ (0 : Int32) ≤ -1 by decide) (okR ⟨rfl, N, R1⟩))))))))))))
end RW
