/-! PURE 69: the reference does a statement -/
section RU
variable {h i j p g F d n x k : Nat} {μ0 μ τ0 τ u σ : Mm} {S : Hs} {dd ee : Int32} {B : Nat → Int32}
theorem m_gl {P : Int32 × Mm → Prop} (M : MS dd ee τ0 u S) (hk : k ≤ 50) (tv : TV B n u.1 k x) (ok : okS B n x) (c : B x = 103) (h0 : sSt B x S = none → P (0, u)) (h1 : ∀ S' u', sSt B x S = some S' → MS dd ee τ0 u' S' → P (1, u')) : OkO (f_M_glassComes F u 0 (nI (5 * k))) P := by
  have D := okS_d (m := 4) (l := 4) ok c (by decide) (by decide)
  have b1 := dv_e (y := x + 1) (D 0 (by decide))
  have b2 := dv_e (y := x + 2) (D 1 (by decide))
  have b3 := dv_e (y := x + 3) (D 2 (by decide))
  have b4 := dv_e (y := x + 4) (D 3 (by decide))
  have v0 : u.1 21 (5 * k) = nI (dv B (x + 1)) := (tv.1 c 0 (by decide)).trans b1.1
  have v1 : u.1 21 (5 * k + 1) = nI (dv B (x + 2)) := (tv.1 c 1 (by decide)).trans b2.1
  have v2 : u.1 21 (5 * k + 2) = nI (dv B (x + 3)) := (tv.1 c 2 (by decide)).trans b3.1
  have v3 : u.1 21 (5 * k + 3) = nI (dv B (x + 4)) := (tv.1 c 3 (by decide)).trans b4.1
  rw [sSt_g c] at h0
  simp only [sSt_g c] at h1
  have hG := M.G
  unfold f_M_glassComes
  rw [nI_1, nA2, nA3]
  refine okJ (m_r 21 (okJ (m_tr (by omega) ?_)))
  rw [v0]
  by_cases c1 : dv B (x + 1) < 8
  · refine okJ (okF (nI_ge c1 (by decide)) (okJ (m_r 21 (okJ (m_tr (by omega) ?_)))))
    rw [v3]
    by_cases c4 : dv B (x + 4) < 6
    · refine okF (nI_ge c4 (by decide)) (okJ (m_s0 M ?_))
      by_cases cG : sG S < 12
      · refine okF (nI_ge cG (by decide)) (okR (okJ (okF i1n (okJ (m_r 21 (okJ (m_tr (by omega) ?_)))))))
        rw [v0]
        refine okJ (m_r 21 (okJ (m_tr (by omega) ?_)))
        rw [v1]
        refine okJ (m_r 21 (okJ (m_tr (by omega) ?_)))
        rw [v2]
        refine okJ (m_r 21 (okJ (m_tr (by omega) ?_)))
        rw [v3]
        refine okJ (m_k (okY (m_bring M cG (fun τ' M' => okR (okJ (okz (Or.inr rfl) (okR (h1 _ _ (if_pos ⟨c1, c4, cG⟩) ?_))))))))
        have h10 : ¬ (10 : Int32) ≤ nI (dv B (x + 4)) := nI_ge (a := dv B (x + 4)) (b := 10) (by omega) (by decide)
        rw [if_neg h10] at M'
        exact M'
      · exact okT (nI_le (a := 12) (by omega) (by omega)) (okR (okJ (okT rfl (okR (okJ (okz (Or.inl rfl) (okR (h0 (if_neg (fun y => cG y.2.2))))))))))
    · exact okT (nI_le (a := 6) (by omega) (by omega)) (okR (okJ (okT rfl (okR (okJ (okz (Or.inl rfl) (okR (h0 (if_neg (fun y => c4 y.2.1))))))))))
  · exact okJ (okT (nI_le (a := 8) (by omega) (by omega)) (okR (okJ (okT rfl (okR (okJ (okz (Or.inl rfl) (okR (h0 (if_neg (fun y => c1 y.1)))))))))))
theorem m_gu {P : Int32 × Mm → Prop} (M : MS dd ee τ0 u S) (hk : k ≤ 50) (tv : TV B n u.1 k x) (ok : okS B n x) (c : B x = 112) (h0 : sSt B x S = none → P (0, u)) (h1 : ∀ S' u', sSt B x S = some S' → MS dd ee τ0 u' S' → P (1, u')) : OkO (f_M_guestComes F u 0 (nI (5 * k))) P := by
  have D := okS_d (m := 5) (l := 5) ok c (by decide) (by decide)
  have b1 := dv_e (y := x + 1) (D 0 (by decide))
  have b2 := dv_e (y := x + 2) (D 1 (by decide))
  have b3 := dv_e (y := x + 3) (D 2 (by decide))
  have b4 := dv_e (y := x + 4) (D 3 (by decide))
  have b5 := dv_e (y := x + 5) (D 4 (by decide))
  have v0 : u.1 21 (5 * k) = nI (dv B (x + 1)) := (tv.2.1 c 0 (by decide)).trans b1.1
  have v1 : u.1 21 (5 * k + 1) = nI (dv B (x + 2)) := (tv.2.1 c 1 (by decide)).trans b2.1
  have v2 : u.1 21 (5 * k + 2) = nI (dv B (x + 3)) := (tv.2.1 c 2 (by decide)).trans b3.1
  have v3 : u.1 21 (5 * k + 3) = nI (dv B (x + 4)) := (tv.2.1 c 3 (by decide)).trans b4.1
  have v4 : u.1 21 (5 * k + 4) = nI (dv B (x + 5)) := (tv.2.1 c 4 (by decide)).trans b5.1
  rw [sSt_p c] at h0
  simp only [sSt_p c] at h1
  have hP := M.P
  have ne0 : ∀ a : Nat, 0 < a → a < 10 → ¬ nI a = 0 := fun a q1 q2 z => absurd (nIi (a := a) (b := 0) (by omega) (by decide) z) (by omega)
  unfold f_M_guestComes
  refine okJ (m_s1 M (okJ (m_r 21 (okJ (m_tr (by omega) ?_)))))
  rw [v0]
  by_cases c1 : 0 < dv B (x + 1)
  · refine okF (ne0 _ c1 b1.2) (okJ (m_r 21 (okJ ?_)))
    rw [nI_1 (5 * k)]
    refine m_tr (by omega) ?_
    rw [v1]
    by_cases c2 : 0 < dv B (x + 2)
    · refine okF (ne0 _ c2 b2.2) (okJ (m_r 21 (okJ ?_)))
      rw [nA4]
      refine m_tr (by omega) ?_
      rw [v4]
      by_cases c5 : dv B (x + 5) < 6
      · refine okF (nI_nlt (a := 5) (by omega) (by decide)) ?_
        by_cases cP : sP S < 6
        · refine okF (fun z => absurd (nIi (a := sP S) (b := 6) (by omega) (by decide) z) (by omega)) ?_
          have w : ∀ id, 8 ≤ id → id ≤ 16 → ∀ (u : Mm) v, jas YM u (some id) (nI (sP S)) v = some (y2 u.1 id (sP S) v, u.2.1, u.2.2) := fun id q1 q2 u v => as_e (by omega) (by omega) (by rw [ln6 q1 q2]; exact cP) (by omega)
          have r0 : ∀ (u : Mm) m, jgi YM 5 m u (some 0) = some (u.1 0 m) := fun _ _ => rfl
          have p0 : ∀ (u : Mm) m v, jpi YM 5 m u (some 0) v = some (y2 u.1 0 m v, u.2.1, u.2.2) := fun _ _ _ => rfl
          have rd : ∀ (u : Mm) j, j < 255 → jal YM u (some 21) (nI j) = some (u.1 21 j) := fun u j hj => al_e (by decide) (by decide) (show j < 255 from hj) (by omega)
          have rd0 : ∀ u : Mm, jal YM u (some 21) (nI (5 * k)) = some (u.1 21 (5 * k)) := fun u => rd u _ (by omega)
          have rd1 : ∀ u : Mm, jal YM u (some 21) (nI (5 * k + 1)) = some (u.1 21 (5 * k + 1)) := fun u => rd u _ (by omega)
          have rd2 : ∀ u : Mm, jal YM u (some 21) (nI (5 * k + 2)) = some (u.1 21 (5 * k + 2)) := fun u => rd u _ (by omega)
          have rd3 : ∀ u : Mm, jal YM u (some 21) (nI (5 * k + 3)) = some (u.1 21 (5 * k + 3)) := fun u => rd u _ (by omega)
          have rd4 : ∀ u : Mm, jal YM u (some 21) (nI (5 * k + 4)) = some (u.1 21 (5 * k + 4)) := fun u => rd u _ (by omega)
          have g11 : jgr YM 5 11 (some 0) = some (some 8) := rfl
          have g12 : jgr YM 5 12 (some 0) = some (some 9) := rfl
          have g13 : jgr YM 5 13 (some 0) = some (some 10) := rfl
          have g14 : jgr YM 5 14 (some 0) = some (some 11) := rfl
          have g15 : jgr YM 5 15 (some 0) = some (some 12) := rfl
          have g16 : jgr YM 5 16 (some 0) = some (some 13) := rfl
          have g17 : jgr YM 5 17 (some 0) = some (some 14) := rfl
          have g18 : jgr YM 5 18 (some 0) = some (some 15) := rfl
          have g19 : jgr YM 5 19 (some 0) = some (some 16) := rfl
          have g37 : jgr YM 5 37 (some 0) = some (some 21) := rfl
          have s1 := M.1.2.1.2.1
          have ne : ∀ (t : Nat → Nat → Int32) id a i v m, a ≠ id → y2 t id i v a m = t a m := fun t id a i v m hid => y2_i _ _ hid
          simp only [nI_1 (5 * k), nA2, nA3, nA4, g11, g12, g13, g14, g15, g16, g17, g18, g19, g37, rd0, rd1, rd2, rd3, rd4, ob_s, w 8 (by decide) (by decide), w 9 (by decide) (by decide), w 10 (by decide) (by decide), w 11 (by decide) (by decide), w 12 (by decide) (by decide), w 13 (by decide) (by decide), w 14 (by decide) (by decide), w 15 (by decide) (by decide), w 16 (by decide) (by decide), r0, p0, ne _ 8 21 _ _ _ (by decide), ne _ 9 21 _ _ _ (by decide), ne _ 10 21 _ _ _ (by decide), ne _ 11 21 _ _ _ (by decide), ne _ 8 0 _ _ _ (by decide), ne _ 9 0 _ _ _ (by decide), ne _ 10 0 _ _ _ (by decide), ne _ 11 0 _ _ _ (by decide), ne _ 12 0 _ _ _ (by decide), ne _ 13 0 _ _ _ (by decide), ne _ 14 0 _ _ _ (by decide), ne _ 15 0 _ _ _ (by decide), ne _ 16 0 _ _ _ (by decide), v0, v1, v2, v3, v4, s1, nI_1]
          refine okJ (okz (Or.inr rfl) (okR (h1 _ _ (if_pos ⟨c1, c2, c5, cP⟩) ⟨RM.newP M.1 cP ?_ (fun j hj => ?_) (fun id i a b c => ?_) ?_, ?_, M.2.2⟩)))
          · dsimp only; rw [y2_s]
          · dsimp only; rw [y2_k _ _ hj]; simp only [ne _ 8 0 _ _ _ (by decide), ne _ 9 0 _ _ _ (by decide), ne _ 10 0 _ _ _ (by decide), ne _ 11 0 _ _ _ (by decide), ne _ 12 0 _ _ _ (by decide), ne _ 13 0 _ _ _ (by decide), ne _ 14 0 _ _ _ (by decide), ne _ 15 0 _ _ _ (by decide), ne _ 16 0 _ _ _ (by decide)]
          · dsimp only
            rw [y2_i _ _ (by omega), y2_o _ _ (by omega), y2_o _ _ (by omega), y2_o _ _ (by omega), y2_o _ _ (by omega), y2_o _ _ (by omega), y2_o _ _ (by omega), y2_o _ _ (by omega), y2_o _ _ (by omega), y2_o _ _ (by omega)]
          · refine ⟨?_, ?_, ?_, ?_, ?_, ?_, ?_, ?_, ?_⟩ <;> simp [y2]
          · exact FrM.s (FrM.a (FrM.a (FrM.a (FrM.a (FrM.a (FrM.a (FrM.a (FrM.a (FrM.a M.2.1 (by decide) (by decide)) (by decide) (by decide)) (by decide) (by decide)) (by decide) (by decide)) (by decide) (by decide)) (by decide) (by decide)) (by decide) (by decide)) (by decide) (by decide)) (by decide) (by decide)) (Or.inl (by decide))
        · have e6 : sP S = 6 := by omega
          exact okT (by rw [e6]; rfl) (okJ (okz (Or.inl rfl) (okR (h0 (if_neg (fun y => cP y.2.2.2))))))
      · exact okT (nI_lt (a := 5) (by omega) (by omega)) (okJ (okz (Or.inl rfl) (okR (h0 (if_neg (fun y => c5 y.2.2.1))))))
    · have e0 : dv B (x + 2) = 0 := by omega
      exact okT (by rw [e0]; rfl) (okJ (okz (Or.inl rfl) (okR (h0 (if_neg (fun y => c2 y.2.1))))))
  · have e0 : dv B (x + 1) = 0 := by omega
    exact okT (by rw [e0]; rfl) (okJ (okz (Or.inl rfl) (okR (h0 (if_neg (fun y => c1 y.1))))))
theorem m_ho {P : Int32 × Mm → Prop} (M : MS dd ee τ0 u S) (hv : Iv S) (ok : okS B n x) (c : B x = 104) (h0 : sSt B x S = none → P (0, u)) (h1 : ∀ S' u', sSt B x S = some S' → MS dd ee τ0 u' S' → P (1, u')) : OkO (f_M_holdComes F u 0 (nI (dv B (x + 1))) (nI (10 * dv B (x + 2) + dv B (x + 3)))) P := by
  have D := okS_d (m := 3) (l := 3) ok c (by decide) (by decide)
  have b1 := dv_e (y := x + 1) (D 0 (by decide))
  have b2 := dv_e (y := x + 2) (D 1 (by decide))
  have b3 := dv_e (y := x + 3) (D 2 (by decide))
  rw [sSt_h c] at h0
  simp only [sSt_h c] at h1
  have hG := M.G
  have hP := M.P
  have no : sSt B x S = none → sSt B x S = none := id
  unfold f_M_holdComes
  refine okJ (m_k ?_)
  by_cases c1 : dv B (x + 1) < sP S
  · refine okY (m_isP1 M.1 c1 (okJ (okF i1n (okJ (m_k ?_)))))
    by_cases c2 : 10 * dv B (x + 2) + dv B (x + 3) < sG S
    · refine okY (m_isG1 M.1 c2 (okF i1n (okJ (m_r 13 (okJ (m_pA (k := 5) M c1 (by decide) ?_))))))
      rcases IvP.h hv c1 with e5 | ⟨gg, hgg, e5⟩
      · rw [e5]
        refine okF (by decide) (okJ (m_r 4 (okJ (m_gA (k := 3) M c2 (by decide) (okI (fun c4 => okR (okJ (okT rfl (okR (okJ (okz (Or.inl rfl) (okR (h0 (if_neg (fun y => ?_)))))))))) (fun c4 => okR (okJ (okF i1n (okJ (m_k (okY (m_hold M (by omega) (by omega) (fun τ' M' => okR (okJ (okz (Or.inr rfl) (okR (h1 _ _ (if_pos ⟨c1, c2, e5, ?_⟩) M')))))))))))))))))
        · have y4 := y.2.2.2
          exact absurd (xlt y4 (show (6 : Int32) ≤ 10 by decide)) (xnlt.mpr c4)
        · rcases (hv.2.2.2.1 _ c2).2.2.1 with ⟨q, hq, z⟩ | ⟨q, hq, z⟩ | z
          · rw [z]; exact lt6 hq
          · rw [z] at c4
            exact absurd (nI_le (a := 10) (b := 10 + q) (by omega) (by omega)) c4
          · rw [z] at c4; exact absurd (by decide) c4
      · rw [e5]
        refine okT (n0l gg (by omega)) (okR (okJ (okT rfl (okR (okJ (okz (Or.inl rfl) (okR (h0 (if_neg (fun y => ?_))))))))))
        have := y.2.2.1
        rw [e5] at this
        exact m4_n (n := gg) (by omega) this
    · exact okY (m_isG0 M.1 (Or.inr (nI_le (by omega) (by omega))) (okT rfl (okR (okJ (okT rfl (okR (okJ (okz (Or.inl rfl) (okR (h0 (if_neg (fun y => c2 y.2.1))))))))))))
  · exact okY (m_isP0 M.1 (Or.inr (nI_le (by omega) (by omega))) (okJ (okT rfl (okR (okJ (okT rfl (okR (okJ (okz (Or.inl rfl) (okR (h0 (if_neg (fun y => c1 y.1)))))))))))))
theorem m_ca {P : Int32 × Mm → Prop} (M : MS dd ee τ0 u S) (hv : Hv S) (hk : k ≤ 50) (hF : 100 ≤ F) (ok : okS B n x) (e20 : u.1 20 k = B x) (tv : TV B n u.1 k x) (h0 : sSt B x S = none → ∀ S' u', MS dd ee τ0 u' S' → sLo S' = -4 → P (0, u')) (h1 : ∀ S' u', sSt B x S = some S' → MS dd ee τ0 u' S' → P (1, u')) : OkO (f_M_comesAll F u 0 (nI k)) P := by
  have e5 : (5 : Int32) * nI k = nI (5 * k) := by rw [show (5 : Int32) = nI 5 from rfl, pk_mul]
  have h0' := fun z => h0 z S u M hv.2.1
  obtain ⟨m, q1, -, -, -⟩ := id ok
  obtain ⟨-, hms⟩ := mt_some q1
  have rl : ∀ {P : Int32 → Prop}, P (u.1 20 k) → OkO (jal YM u (some 20) (nI k)) P := fun hp => okE (al_e (by decide) (by decide) (show k < 51 by omega) (by omega)) hp
  unfold f_M_comesAll
  rw [e5]
  refine okJ (okR (okJ (m_r 20 (okJ (rl ?_)))))
  rw [e20]
  rcases ms_some hms with c | c | c | c | c | c
  · have D := okS_d (m := 1) (l := 1) ok c (by decide) (by decide)
    have b1 := dv_e (y := x + 1) (D 0 (by decide))
    have v0 : u.1 21 (5 * k) = nI (dv B (x + 1)) := (tv.2.2.1 c).trans b1.1
    have hP := M.P
    rw [sSt_c c] at h0'
    simp only [sSt_c c] at h1
    rw [c]
    refine okT rfl (okJ (m_r 21 (okJ (m_tr (by omega) ?_))))
    rw [v0]
    refine okJ (m_k ?_)
    by_cases c1 : dv B (x + 1) < sP S
    · refine okY (m_isP1 M.1 c1 (okJ (okF i1n (okJ (m_r 16 (okJ (m_r 21 (okJ (m_tr (by omega) ?_)))))))))
      rw [v0]
      refine okJ (m_r 16 (okJ (m_r 21 (okJ (m_tr (by omega) ?_)))))
      rw [v0]
      refine okJ (m_pA (k := 8) M c1 (by decide) (okJ (m_wP (k := 8) M (by omega) (by decide) (fun τ' M' => okR ?_))))
      have v0' : τ'.1 21 (5 * k) = nI (dv B (x + 1)) := by
        rw [M'.2.1.1 21 _ (by decide), ← M.2.1.1 21 _ (by decide)]; exact v0
      refine okJ (m_r 21 (okJ (m_tr (by omega) ?_)))
      rw [v0']
      exact okJ (m_k (okY (m_isP1 M'.1 (show dv B (x + 1) < sP S from c1) (okJ (okz (Or.inr rfl) (okR (h1 _ _ (if_pos c1) M')))))))
    · refine okY (m_isP0 M.1 (Or.inr (nI_le (by omega) (by omega))) (okJ (okT rfl (okR (okJ (m_r 21 (okJ (m_tr (by omega) ?_))))))))
      rw [v0]
      exact okJ (m_k (okY (m_isP0 M.1 (Or.inr (nI_le (by omega) (by omega))) (okJ (okz (Or.inl rfl) (okR (h0' (if_neg c1))))))))
  · rw [c]
    exact okF (by decide) (okT rfl (okJ (m_k (okY (m_gl M hk tv ok c (fun z => okJ (okz (Or.inl rfl) (okR (h0' z)))) (fun S' u' z M' => okJ (okz (Or.inr rfl) (okR (h1 S' u' z M')))))))))
  · have D := okS_d (m := 3) (l := 3) ok c (by decide) (by decide)
    have b1 := dv_e (y := x + 1) (D 0 (by decide))
    have b2 := dv_e (y := x + 1 + 1) (D 1 (by decide))
    have b3 := dv_e (y := x + 1 + 2) (D 2 (by decide))
    have v0 : u.1 21 (5 * k) = nI (dv B (x + 1)) := (tv.2.2.2.1 c).1.trans b1.1
    have v1 : u.1 21 (5 * k + 1) = nI (10 * dv B (x + 2) + dv B (x + 3)) := by
      rw [(tv.2.2.2.1 c).2, b2.1, b3.1, n10]
    rw [c]
    refine okF (by decide) (okF (by decide) (okT rfl (okJ (m_r 21 (okJ (m_tr (by omega) ?_))))))
    rw [v0]
    refine okJ (m_r 21 (okJ ?_))
    rw [nI_1]
    refine m_tr (by omega) ?_
    rw [v1]
    exact okJ (m_k (okY (m_ho M hv.1.1 ok c (fun z => okJ (okz (Or.inl rfl) (okR (h0' z)))) (fun S' u' z M' => okJ (okz (Or.inr rfl) (okR (h1 S' u' z M')))))))
  · have hm := hv.2.2
    rw [sSt_m c] at h0
    simp only [sSt_m c] at h1
    rw [c]
    refine okF (by decide) (okF (by decide) (okF (by decide) (okF (by decide) (okF (by decide) (okJ (m_k (okY (m_minute M hv.1.1 hF (by omega) (fun τ' M' => okJ (m_s3 M' ?_))))))))))
    have z := sPass_Iv hv.1.1 1
    have em : sM (sMin S) = sM S + 1 := z.2.2.1
    rw [em]
    by_cases c1 : sM S < 999
    · exact okF (nI_nlt (a := 999) (by omega) (by decide)) (okJ (okz (Or.inr rfl) (okR (h1 _ _ (if_pos c1) M'))))
    · exact okT (nI_lt (a := 999) (by omega) (by omega)) (okJ (okz (Or.inl rfl) (okR (h0 (if_neg c1) _ _ M' (z.2.2.2.2.trans hv.2.1)))))
  · rw [c]
    exact okF (by decide) (okF (by decide) (okF (by decide) (okT rfl (okJ (m_k (okY (m_gu M hk tv ok c (fun z => okJ (okz (Or.inl rfl) (okR (h0' z)))) (fun S' u' z M' => okJ (okz (Or.inr rfl) (okR (h1 S' u' z M')))))))))))
  · have D := okS_d (m := 2) (l := 1) ok c (by decide) (by decide)
    have b1 := dv_e (y := x + 1) (D 0 (by decide))
    simp only [sSt_t c] at h1
    have v0 : u.1 21 (5 * k) = nI (if B (x + 2) = 59 then dv B (x + 1) else 10 * dv B (x + 1) + dv B (x + 2)) := by
      rcases okS_t ok c with y | y
      · rw [if_pos y.2.1]
        exact ((tv.2.2.2.2 c).2 y.2.2).trans b1.1
      · rw [if_neg y.2]
        have b2 := dv_e (y := x + 1 + 1) y.1
        rw [(tv.2.2.2.2 c).1 y.1, b1.1, b2.1, n10]
    generalize (if B (x + 2) = 59 then dv B (x + 1) else 10 * dv B (x + 1) + dv B (x + 2)) = t at v0 h1
    have sc := M.1.2.1
    rw [c]
    refine okF (by decide) (okF (by decide) (okF (by decide) (okF (by decide) (okT rfl (okJ (m_r 21 (okJ (m_tr (by omega) ?_))))))))
    rw [v0]
    refine okJ (m_wS (d' := dd) (e' := ee) (uN S (sG S) (sP S) (sM S) t) M (fun τ1 M1 => okJ (okz (Or.inr rfl) (okR (h1 _ τ1 rfl M1)))) (Or.inl (by decide)) ⟨Nat.le_refl _, Nat.le_refl _⟩ rfl rfl ⟨?_, ?_, ?_, ?_, ?_, ?_, ?_⟩)
    · rw [y2_k _ _ (by decide)]; exact sc.1
    · rw [y2_k _ _ (by decide)]; exact sc.2.1
    · rw [y2_s]; rfl
    · rw [y2_k _ _ (by decide)]; exact sc.2.2.2.1
    · rw [y2_k _ _ (by decide)]; exact sc.2.2.2.2.1
    · rw [y2_k _ _ (by decide)]; exact sc.2.2.2.2.2.1
    · rw [y2_k _ _ (by decide)]; exact sc.2.2.2.2.2.2
end RU
