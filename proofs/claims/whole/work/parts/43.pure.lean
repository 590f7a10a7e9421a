/-! PURE 43: minutes to come -/
noncomputable def sAh (N : Hs) (n : Nat) : Hs := sPass (uC N 0 0 (-4)) n
theorem RM.unc {d e m f : Int32} {t : Nat → Nat → Int32} {N : Hs} (R : RM d e t (uC N m f (-4))) (hl : sLo N = -4) : ∃ d' e', RM d' e' t N := by
  rw [← hl, shc_0] at R
  exact ⟨_, _, R.sh⟩
theorem Rl.mind {N S' : Hs} {σ σ' τ τ' : Mm} {d e m f : Int32} (R : Rl N σ τ) (X : XS 1 σ σ' S') (hu : FN τ τ') (M : RM d e τ'.1 (uC N m f (-4))) : Rel σ' τ' := by
  obtain ⟨d', e', M'⟩ := M.unc R.1.2.2.1
  exact ⟨N, R.up (X.fx (by decide)) hu (R.1.1.fr X.2.1 (by decide)) R.1.2.1 R.1.2.2.1 R.1.2.2.2.1 M' ⟨S', X.1⟩⟩
section QG
variable {N S : Hs} {μ0 μ σ τ : Mm} {F g j h p n : Nat} {d e : Int32}
theorem sAh_i (hv : Iv N) (hl : sLo N = -4) : Iv (sAh N n) ∧ sP (sAh N n) = sP N ∧ sM (sAh N n) = sM N + n ∧ sG N ≤ sG (sAh N n) ∧ sLo (sAh N n) = -4 := by
  have e : uC N 0 0 (-4) = uC N 0 0 (sLo N) := by rw [hl]
  unfold sAh
  rw [e]
  have z := sPass_Iv (S := uC N 0 0 (sLo N)) hv n
  exact ⟨z.1, z.2.1, z.2.2.1, z.2.2.2.1, z.2.2.2.2.trans hl⟩
theorem x_bm {P : Unit × Mm → Prop} (R : Rl N σ τ) (hσ : XS 1 σ μ S) (hF : 100 ≤ F) (hk : ∀ σ', XS 1 σ σ' (uC N 0 0 (-4)) → P ((), σ')) : OkO (f_H_become F μ (hI 1) (some (hI 0))) P :=
  x_bec (h := 1) (h2 := 0) hσ (by decide) (by decide) (by decide) R.1.1 R.1.2.1.1 hF hk
theorem x_ah {P : Option Nat × Mm → Prop} (R : Rl N σ τ) (hσ : XS 1 σ μ S) (hn : n < 1000) (hF : 2000 ≤ F) (hk : ∀ σ', XS 1 σ σ' (sAh N n) → P (some (hI 1), σ')) : OkO (f_X_ahead F μ 0 (nI n)) P := by
  have hv : Iv (uC N 0 0 (-4)) := by
    have e : uC N 0 0 (-4) = uC N 0 0 (sLo N) := by rw [R.1.2.2.1]
    rw [e]; exact R.1.2.1.1
  have hm := R.1.2.2.2.1
  unfold f_X_ahead
  refine okJ (x_r (hI 1) (okJ (x_r (hI 0) (okJ (x_h (by decide) (okY (x_bm R hσ (by omega) (fun σ1 X1 => ?_))))))))
  refine okJ (x_r (hI 1) (okJ (x_h (by decide) (okY (x_pass X1 (by decide) hv hn hF (by show sM N < _; omega) (fun σ2 X2 => okJ (x_r (hI 1) (okR (hk σ2 X2)))))))))
theorem m_ah {β : Type} {P : β → Prop} {K : Mm → Option β} (R : Rl N σ τ) (hn : n < 1000) (hF : 2000 ≤ F) (hk : ∀ u, MS 0 0 u u (sAh N n) → IM 17 u.1 N → FN τ u → OkO (K u) P) : OkO (ob (jk YM 5 (some 0)) fun t => yb (f_M_open F τ t) fun _ u6 => ob (jk YM 5 (some 0)) fun t => yb (f_M_goThrough F u6 t (nI n)) fun _ u8 => K u8) P := by
  obtain ⟨d, e, M⟩ := R.m
  have hm := R.1.2.2.2.1
  refine okJ (m_k (okY (m_open M.1 (by omega) (fun u1 M1 I1 F1 => okJ (m_k (okY (m_go (MS.rf M1) R.1.2.1.1 hn hF (by omega) (fun u2 M2 => ?_))))))))
  rw [R.1.2.2.1] at M2
  exact hk u2 (MS.rf M2.1) (M2.im I1) (F1.tr M2.fn)
theorem m_ag {β : Type} {P : β → Prop} {K : Mm → Option β} {u : Mm} (R : Rl N σ τ) (hS : RM d e u.1 S) (hl : sLo S = -4) (h17 : IM 17 u.1 N) (hf : FN τ u) (hF : 100 ≤ F) (hk : ∀ u', MS d e u' u' (uC N (sMi S) (sFr S) (-4)) → IM 17 u'.1 N → FN τ u' → OkO (K u') P) : OkO (ob (jk YM 5 (some 0)) fun t => yb (f_M_again F u t) fun _ u' => K u') P := by
  refine okJ (m_k (okY (m_again hS h17 R.1.2.1.1.1 hF (fun u' M' I' F' => ?_))))
  have e1 : (N.1, S.2.1, N.2.2) = uC N (sMi S) (sFr S) (-4) := by rw [← hl]; rfl
  rw [e1] at M'
  exact hk u' (MS.rf M') I' (hf.tr F')
theorem q_mistakes (a : Int32) (R : Rl N σ τ) (hF : 2000 ≤ F) : Ag (f_X_mistakes F σ 0 a) (f_M_mistakes F τ 0 a) := by
  obtain ⟨Q, hQ⟩ := R.2.1
  unfold Ag f_X_mistakes f_M_mistakes
  rcases px a (n := 61) (by decide) with ⟨n, hn, rfl⟩ | ho
  · refine okY (x_isp1 hn (okF i1n (okJ (x_k (okY (x_ah R (XS.rf hQ) (by omega) hF (fun σ' X' => okJ (x_s6 X' (by decide) (okR ?_)))))))))
    refine m_t R (fun τ1 R1 => okY (m_isN1 hn (okF i1n (m_ah R1 (by omega) hF (fun u M I Fu => m_ag R1 M.1 (sAh_i R.1.2.1.1 R.1.2.2.1).2.2.2.2 I Fu (by omega) (fun u' M' I' Fu' => okJ (m_s20 M' (okR ⟨?_, R1.mind X' Fu' M'.1⟩))))))))
    exact (Int32.add_zero _).symm
  · exact okY (x_isp0 ho (okT rfl (okR (m_t R (fun τ1 R1 => okY (m_isN0 ho (okT rfl (okR ⟨rfl, N, R1⟩))))))))
theorem q_fresh (a : Int32) (R : Rl N σ τ) (hF : 2000 ≤ F) : Ag (f_X_fresh F σ 0 a) (f_M_fresh F τ 0 a) := by
  obtain ⟨Q, hQ⟩ := R.2.1
  unfold Ag f_X_fresh f_M_fresh
  rcases px a (n := 61) (by decide) with ⟨n, hn, rfl⟩ | ho
  · refine okY (x_isp1 hn (okF i1n (okJ (x_k (okY (x_ah R (XS.rf hQ) (by omega) hF (fun σ' X' => okJ (x_s7 X' (by decide) (okR ?_)))))))))
    refine m_t R (fun τ1 R1 => okY (m_isN1 hn (okF i1n (m_ah R1 (by omega) hF (fun u M I Fu => m_ag R1 M.1 (sAh_i R.1.2.1.1 R.1.2.2.1).2.2.2.2 I Fu (by omega) (fun u' M' I' Fu' => okJ (m_s21 M' (okR ⟨?_, R1.mind X' Fu' M'.1⟩))))))))
    exact (Int32.add_zero _).symm
  · exact okY (x_isp0 ho (okT rfl (okR (m_t R (fun τ1 R1 => okY (m_isN0 ho (okT rfl (okR ⟨rfl, N, R1⟩))))))))
theorem q_colds (a : Int32) (R : Rl N σ τ) (hF : 2000 ≤ F) : Ag (f_X_colds F σ 0 a) (f_M_colds F τ 0 a) := by
  obtain ⟨Q, hQ⟩ := R.2.1
  unfold Ag f_X_colds f_M_colds
  rcases px a (n := 61) (by decide) with ⟨n, hn, rfl⟩ | ho
  · have z := sAh_i (n := n) R.1.2.1.1 R.1.2.2.1
    refine okY (x_isp1 hn (okF i1n (okJ (x_k (okY (x_ah R (XS.rf hQ) (by omega) hF (fun σ' X' => okJ (x_h (by decide) (okY (x_cb X' (by decide) (by omega) (okR ?_)))))))))))
    exact m_t R (fun τ1 R1 => okY (m_isN1 hn (okF i1n (m_ah R1 (by omega) hF (fun u M I Fu => okJ (m_k (okY (m_cb M z.1 (by omega) (m_ag R1 M.1 z.2.2.2.2 I Fu (by omega) (fun u' M' I' Fu' => okR ⟨rfl, R1.mind X' Fu' M'.1⟩))))))))))
  · exact okY (x_isp0 ho (okT rfl (okR (m_t R (fun τ1 R1 => okY (m_isN0 ho (okT rfl (okR ⟨rfl, N, R1⟩))))))))
theorem q_had (a b : Int32) (R : Rl N σ τ) (hF : 2000 ≤ F) : Ag (f_X_had F σ 0 a b) (f_M_had F τ 0 a b) := by
  obtain ⟨Q, hQ⟩ := R.2.1
  have X := R.x
  unfold Ag f_X_had f_M_had
  refine okJ (x_r (hI 0) (okJ (x_h (by decide) ?_)))
  rcases px a (n := sP N) (by have := X.P; omega) with ⟨p, hp, rfl⟩ | ha
  · refine okY (x_guestAt X (by decide) hp (okF sI_none ?_))
    rcases px b (n := 61) (by decide) with ⟨n, hn, rfl⟩ | ho
    · have z := sAh_i (n := n) R.1.2.1.1 R.1.2.2.1
      have hp2 : p < sP (sAh N n) := by rw [z.2.1]; exact hp
      refine okY (x_isp1 hn (okF i1n (okJ (x_k (okY (x_ah R (XS.rf hQ) (by omega) hF (fun σ' X' => okJ (x_h (by decide) (okY (x_guestAt X' (by decide) hp2 (okF sI_none (okJ (x_pG (k := 7) X' (by decide) hp2 (by decide) (okR ?_))))))))))))))
      refine m_t R (fun τ1 R1 => okJ (m_k ?_))
      obtain ⟨d, e, M⟩ := R1.m
      exact okY (m_isP1 M.1 hp (okF i1n (okY (m_isN1 hn (okF i1n (m_ah R1 (by omega) hF (fun u M I Fu => okJ (m_r 15 (okJ (m_pA (k := 7) M hp2 (by decide) (m_ag R1 M.1 z.2.2.2.2 I Fu (by omega) (fun u' M' I' Fu' => okR ⟨rfl, R1.mind X' Fu' M'.1⟩))))))))))))
    · refine okY (x_isp0 ho (okT rfl (okR ?_)))
      refine m_t R (fun τ1 R1 => okJ (m_k ?_))
      obtain ⟨d, e, M⟩ := R1.m
      exact okY (m_isP1 M.1 hp (okF i1n (okY (m_isN0 ho (okT rfl (okR ⟨rfl, N, R1⟩))))))
  · refine okY (x_guestNo X (by decide) ha (okT rfl (okR ?_)))
    refine m_t R (fun τ1 R1 => okJ (m_k ?_))
    obtain ⟨d, e, M⟩ := R1.m
    exact okY (m_isP0 M.1 ha (okT rfl (okR ⟨rfl, N, R1⟩)))
theorem q_where (a b : Int32) (R : Rl N σ τ) (hF : 2000 ≤ F) : Ag (f_X_where F σ 0 a b) (f_M_where F τ 0 a b) := by
  obtain ⟨Q, hQ⟩ := R.2.1
  have X := R.x
  unfold Ag f_X_where f_M_where
  refine okJ (x_r (hI 0) (okJ (x_h (by decide) ?_)))
  rcases px a (n := sG N) (by have := X.G; omega) with ⟨p, hp, rfl⟩ | ha
  · refine okY (x_glassAt X (by decide) hp (okF sI_none ?_))
    rcases px b (n := 61) (by decide) with ⟨n, hn, rfl⟩ | ho
    · have z := sAh_i (n := n) R.1.2.1.1 R.1.2.2.1
      have hp2 : p < sG (sAh N n) := Nat.lt_of_lt_of_le hp z.2.2.2.1
      refine okY (x_isp1 hn (okF i1n (okJ (x_k (okY (x_ah R (XS.rf hQ) (by omega) hF (fun σ' X' => okJ (x_h (by decide) (okY (x_glassAt X' (by decide) hp2 (okF sI_none (okJ (x_gG (k := 3) X' (by decide) hp2 (by decide) (by decide) (okR ?_))))))))))))))
      refine m_t R (fun τ1 R1 => okJ (m_k ?_))
      obtain ⟨d, e, M⟩ := R1.m
      exact okY (m_isG1 M.1 hp (okF i1n (okY (m_isN1 hn (okF i1n (m_ah R1 (by omega) hF (fun u M I Fu => okJ (m_r 4 (okJ (m_gA (k := 3) M hp2 (by decide) (m_ag R1 M.1 z.2.2.2.2 I Fu (by omega) (fun u' M' I' Fu' => okR ⟨rfl, R1.mind X' Fu' M'.1⟩))))))))))))
    · refine okY (x_isp0 ho (okT rfl (okR ?_)))
      refine m_t R (fun τ1 R1 => okJ (m_k ?_))
      obtain ⟨d, e, M⟩ := R1.m
      exact okY (m_isG1 M.1 hp (okF i1n (okY (m_isN0 ho (okT rfl (okR ⟨rfl, N, R1⟩))))))
  · refine okY (x_glassNo X (by decide) ha (okT rfl (okR ?_)))
    refine m_t R (fun τ1 R1 => okJ (m_k ?_))
    obtain ⟨d, e, M⟩ := R1.m
    exact okY (m_isG0 M.1 ha (okT rfl (okR ⟨rfl, N, R1⟩)))
end QG
