/-! PURE 38: sip, lay, take, like, mine, fill, clear, minutes -/
section QB
variable {N S : Hs} {μ0 μ σ τ : Mm} {F g j h p : Nat}
theorem n4_neg : (-4 : Int32) < 0 := by decide
theorem q_sip (a : Int32) (R : Rl N σ τ) : Ag (f_X_sip F σ 0 a) (f_M_sip F τ 0 a) := by
  have X := R.x
  have hv := R.1.2.1
  unfold Ag f_X_sip f_M_sip
  refine okJ (x_r (hI 0) (okJ (x_h (by decide) ?_)))
  rcases px a (n := sP N) (by have := X.P; omega) with ⟨p, hp, rfl⟩ | ho
  · refine okY (x_guestAt X (by decide) hp (okF sI_none (okJ (x_r (hI 0) (okJ (x_pG (k := 5) X (by decide) hp (by decide) ?_))))))
    rcases IvP.h hv.1 hp with e5 | ⟨g, hg, e5⟩
    · rw [e5]
      refine okJ (x_h (by decide) (okY (x_glassNo X (by decide) m4_o (okT rfl (okR ?_)))))
      refine m_t R (fun τ1 R1 => okJ (m_k ?_))
      obtain ⟨d, e, M⟩ := R1.m
      refine okY (m_isP1 M.1 hp (okF i1n (okJ (m_r 13 (okJ (m_pA (k := 5) M hp (by decide) ?_))))))
      rw [e5]
      exact okT n4_neg (okR ⟨rfl, N, R1⟩)
    · rw [e5]
      have hG := X.G
      obtain ⟨n, hn, en⟩ := (hv.1.2.2.2.1 g hg).2.1
      refine okJ (x_h (by decide) (okY (x_glassAt X (by decide) hg (okF sI_none (okJ (x_gG (k := 2) X (by decide) hg (by decide) (by decide) ?_))))))
      have mm : ∀ {P : Int32 × Mm → Prop}, (∀ τ1 d e, Rl N σ τ1 → MS d e τ1 τ1 N → OkO (if sg N g 2 = 0 then some ((-3 : Int32), τ1) else ob (jk YM 5 (some 0)) fun t => yb (f_M_sipOne F τ1 t (nI p)) fun x13 u14 => some (x13, u14)) P) → OkO (f_M_sip F τ 0 (nI p)) P := by
        intro P hk
        unfold f_M_sip
        refine m_t R (fun τ1 R1 => okJ (m_k ?_))
        obtain ⟨d, e, M⟩ := R1.m
        refine okY (m_isP1 M.1 hp (okF i1n (okJ (m_r 13 (okJ (m_pA (k := 5) M hp (by decide) ?_))))))
        rw [e5]
        refine okF (nI_pos (by omega)) (okJ (m_r 3 (okJ (m_r 13 (okJ (m_pA (k := 5) M hp (by decide) ?_))))))
        rw [e5]
        exact okJ (m_gA (k := 2) M hg (by decide) (hk τ1 d e R1 M))
      refine okI (fun c => okJ (x_p X (by decide) hp (okY (x_sip X (by decide) hv.1 hp hg (fun σ' X' => okR ?_))))) (fun c => okR ?_)
      · have c0 : ¬ sg N g 2 = 0 := fun z => by rw [z] at c; exact absurd c (by decide)
        refine mm (fun τ1 d e R1 M => okF c0 (okJ (m_k (okY (m_sip M hv.1 hp hg e5 (fun τ' M' => okR ⟨rfl, ?_⟩))))))
        exact R1.both X' M' ⟨sSip_Iv hv.1 hg (xnle.mpr c), sSip_Lv hv.2⟩ R.1.2.2.1 R.1.2.2.2.1
      · have c0 : sg N g 2 = 0 := by
          rw [en] at c ⊢
          rcases Nat.eq_zero_or_pos n with z | z
          · rw [z]; rfl
          · exact absurd (nI_lt (a := 0) z (by omega)) c
        exact mm (fun τ1 d e R1 M => okT c0 (okR ⟨rfl, N, R1⟩))
  · refine okY (x_guestNo X (by decide) ho (okT rfl (okR ?_)))
    refine m_t R (fun τ1 R1 => okJ (m_k ?_))
    obtain ⟨d, e, M⟩ := R1.m
    exact okY (m_isP0 M.1 ho (okT rfl (okR ⟨rfl, N, R1⟩)))
theorem q_lay (a : Int32) (R : Rl N σ τ) : Ag (f_X_lay F σ 0 a) (f_M_lay F τ 0 a) := by
  have X := R.x
  have hv := R.1.2.1
  unfold Ag f_X_lay f_M_lay
  refine okJ (x_r (hI 0) (okJ (x_h (by decide) ?_)))
  rcases px a (n := sP N) (by have := X.P; omega) with ⟨p, hp, rfl⟩ | ho
  · refine okY (x_guestAt X (by decide) hp (okF sI_none (okJ (x_r (hI 0) (okJ (x_pG (k := 5) X (by decide) hp (by decide) ?_))))))
    rcases IvP.h hv.1 hp with e5 | ⟨g, hg, e5⟩
    · rw [e5]
      refine okJ (x_h (by decide) (okY (x_glassNo X (by decide) m4_o (okT rfl (okR ?_)))))
      refine m_t R (fun τ1 R1 => okJ (m_k ?_))
      obtain ⟨d, e, M⟩ := R1.m
      refine okY (m_isP1 M.1 hp (okF i1n (okJ (m_r 13 (okJ (m_pA (k := 5) M hp (by decide) ?_))))))
      rw [e5]
      exact okF (by decide) (okR ⟨rfl, N, R1⟩)
    · rw [e5]
      have hG := X.G
      refine okJ (x_h (by decide) (okY (x_glassAt X (by decide) hg (okF sI_none (okJ (x_r (hI 0) (okJ (x_h (by decide) (okY (x_lay X (by decide) hp hg (fun σ' X' => okJ (x_gN X' (by decide) hg (okR ?_)))))))))))))
      refine m_t R (fun τ1 R1 => okJ (m_k ?_))
      obtain ⟨d, e, M⟩ := R1.m
      refine okY (m_isP1 M.1 hp (okF i1n (okJ (m_r 13 (okJ (m_pA (k := 5) M hp (by decide) ?_))))))
      rw [e5]
      refine okT (nI_pos' (by omega)) (okJ (m_k (okY (m_lay M hp hg e5 (fun τ' M' => okR ⟨rfl, ?_⟩)))))
      exact R1.both X' M' ⟨sLay_Iv hv.1 hp, sLay_Lv hv.1 hp hv.2⟩ R.1.2.2.1 R.1.2.2.2.1
  · refine okY (x_guestNo X (by decide) ho (okT rfl (okR ?_)))
    refine m_t R (fun τ1 R1 => okJ (m_k ?_))
    obtain ⟨d, e, M⟩ := R1.m
    exact okY (m_isP0 M.1 ho (okT rfl (okR ⟨rfl, N, R1⟩)))
theorem q_take (a : Int32) (R : Rl N σ τ) (hF : 100 ≤ F) : Ag (f_X_take F σ 0 a) (f_M_take F τ 0 a) := by
  have X := R.x
  have hv := R.1.2.1
  unfold Ag f_X_take f_M_take
  refine okJ (x_r (hI 0) (okJ (x_h (by decide) ?_)))
  rcases px a (n := sP N) (by have := X.P; omega) with ⟨p, hp, rfl⟩ | ho
  · refine okY (x_guestAt X (by decide) hp (okF sI_none (okJ (x_pG (k := 5) X (by decide) hp (by decide) ?_))))
    rcases IvP.h hv.1 hp with e5 | ⟨g, hg, e5⟩
    · rw [e5]
      refine okT rfl (okJ (x_r (hI 0) (okJ (x_h (by decide) (okY (x_take X (by decide) hv.1 hp hF (fun σ' X' => okR ?_)))))))
      refine m_t R (fun τ1 R1 => okJ (m_k ?_))
      obtain ⟨d, e, M⟩ := R1.m
      refine okY (m_isP1 M.1 hp (okF i1n (okJ (m_r 13 (okJ (m_pA (k := 5) M hp (by decide) ?_))))))
      rw [e5]
      refine okT n4_neg (okJ (m_k (okY (m_take M hv.1 hp hF (fun τ' M' => okR ⟨rfl, ?_⟩)))))
      have z := sTake_Sz (S := N) (p := p)
      exact R1.both X' M' ⟨sTake_Iv hv.1 hp, sTake_Lv hv.2⟩ (z.2.2.2.trans R.1.2.2.1) (by rw [z.2.1]; exact R.1.2.2.2.1)
    · rw [e5]
      have hG := X.G
      refine okF (m4_n (by omega)) (okR ?_)
      refine m_t R (fun τ1 R1 => okJ (m_k ?_))
      obtain ⟨d, e, M⟩ := R1.m
      refine okY (m_isP1 M.1 hp (okF i1n (okJ (m_r 13 (okJ (m_pA (k := 5) M hp (by decide) ?_))))))
      rw [e5]
      exact okF (nI_pos (by omega)) (okR ⟨rfl, N, R1⟩)
  · refine okY (x_guestNo X (by decide) ho (okT rfl (okR ?_)))
    refine m_t R (fun τ1 R1 => okJ (m_k ?_))
    obtain ⟨d, e, M⟩ := R1.m
    exact okY (m_isP0 M.1 ho (okT rfl (okR ⟨rfl, N, R1⟩)))
theorem q_like (a b : Int32) (R : Rl N σ τ) : Ag (f_X_like F σ 0 a b) (f_M_like F τ 0 a b) := by
  have X := R.x
  have hv := R.1.2.1
  have hG := X.G
  unfold Ag f_X_like f_M_like
  refine okJ (x_r (hI 0) (okJ (x_h (by decide) ?_)))
  rcases px a (n := sG N) (by omega) with ⟨i, hi, rfl⟩ | ho
  · refine okY (x_glassAt X (by decide) hi (okJ (x_r (hI 0) (okJ (x_h (by decide) ?_)))))
    rcases px b (n := sG N) (by omega) with ⟨j, hj, rfl⟩ | hb
    · refine okY (x_glassAt X (by decide) hj (okF sI_none (okF sI_none (okJ (x_g X (by decide) hi (okY (x_lik X (by decide) hi hj (okR ?_))))))))
      refine m_t R (fun τ1 R1 => okJ (m_k ?_))
      obtain ⟨d, e, M⟩ := R1.m
      exact okY (m_isG1 M.1 hi (okF i1n (okJ (m_k (okY (m_isG1 M.1 hj (okF i1n (okJ (m_k (okY (m_lik M hv.1 hi hj (okR ⟨rfl, N, R1⟩))))))))))))
    · refine okY (x_glassNo X (by decide) hb (okF sI_none (okT rfl (okR ?_))))
      refine m_t R (fun τ1 R1 => okJ (m_k ?_))
      obtain ⟨d, e, M⟩ := R1.m
      exact okY (m_isG1 M.1 hi (okF i1n (okJ (m_k (okY (m_isG0 M.1 hb (okT rfl (okR ⟨rfl, N, R1⟩))))))))
  · refine okY (x_glassNo X (by decide) ho (okJ (x_r (hI 0) (okJ (x_h (by decide) ?_)))))
    have fin : OkO (f_M_like F τ 0 a b) (fun q => (-1 : Int32) = q.1 ∧ Rel σ q.2) := by
      unfold f_M_like
      refine m_t R (fun τ1 R1 => okJ (m_k ?_))
      obtain ⟨d, e, M⟩ := R1.m
      exact okY (m_isG0 M.1 ho (okT rfl (okR ⟨rfl, N, R1⟩)))
    rcases px b (n := sG N) (by omega) with ⟨j, hj, rfl⟩ | hb
    · exact okY (x_glassAt X (by decide) hj (okT rfl (okR fin)))
    · exact okY (x_glassNo X (by decide) hb (okT rfl (okR fin)))
theorem q_mine (a : Int32) (R : Rl N σ τ) (hF : 100 ≤ F) : Ag (f_X_mine F σ 0 a) (f_M_mine F τ 0 a) := by
  have X := R.x
  have hv := R.1.2.1
  unfold Ag f_X_mine f_M_mine
  refine okJ (x_r (hI 0) (okJ (x_h (by decide) ?_)))
  rcases px a (n := sP N) (by have := X.P; omega) with ⟨p, hp, rfl⟩ | ho
  · refine okY (x_guestAt X (by decide) hp (okF sI_none (okJ (x_r (hI 0) (okJ (x_h (by decide) (okY (x_ch X (by decide) hv.1 hp hF (okR ?_)))))))))
    refine m_t R (fun τ1 R1 => okJ (m_k ?_))
    obtain ⟨d, e, M⟩ := R1.m
    exact okY (m_isP1 M.1 hp (okF i1n (okJ (m_k (okY (m_ch M hv.1 hp hF (okR ⟨rfl, N, R1⟩)))))))
  · refine okY (x_guestNo X (by decide) ho (okT rfl (okR ?_)))
    refine m_t R (fun τ1 R1 => okJ (m_k ?_))
    obtain ⟨d, e, M⟩ := R1.m
    exact okY (m_isP0 M.1 ho (okT rfl (okR ⟨rfl, N, R1⟩)))
end QB
