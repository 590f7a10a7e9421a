/-! PURE 68: a statement done: the house behind it; the class does it -/
noncomputable def sSt (B : Nat → Int32) (x : Nat) (S : Hs) : Option Hs :=
  if B x = 103 then (if dv B (x + 1) < 8 ∧ dv B (x + 4) < 6 ∧ sG S < 12 then some (sNew S (nI (dv B (x + 1))) (nI (dv B (x + 2))) (nI (dv B (x + 3))) (nI (dv B (x + 4))) (nI (sM S))) else none)
  else if B x = 112 then (if 0 < dv B (x + 1) ∧ 0 < dv B (x + 2) ∧ dv B (x + 5) < 6 ∧ sP S < 6 then some (sGu S (nI (dv B (x + 1))) (nI (dv B (x + 2))) (nI (dv B (x + 3))) (nI (dv B (x + 4))) (nI (dv B (x + 5)))) else none)
  else if B x = 99 then (if dv B (x + 1) < sP S then some (uP S (dv B (x + 1)) 8 (1 - sp S (dv B (x + 1)) 8)) else none)
  else if B x = 104 then (if dv B (x + 1) < sP S ∧ 10 * dv B (x + 2) + dv B (x + 3) < sG S ∧ sp S (dv B (x + 1)) 5 = -4 ∧ sg S (10 * dv B (x + 2) + dv B (x + 3)) 3 < 6 then some (sHold S (dv B (x + 1)) (10 * dv B (x + 2) + dv B (x + 3))) else none)
  else if B x = 116 then some (uN S (sG S) (sP S) (sM S) (if B (x + 2) = 59 then dv B (x + 1) else 10 * dv B (x + 1) + dv B (x + 2)))
  else if sM S < 999 then some (sMin S) else none
def Hv (S : Hs) : Prop := (Iv S ∧ Lv S) ∧ sLo S = -4 ∧ sM S ≤ 999
theorem nA2 (x : Nat) : nI x + 2 = nI (x + 2) := nI_add x 2
theorem nA3 (x : Nat) : nI x + 3 = nI (x + 3) := nI_add x 3
theorem nA4 (x : Nat) : nI x + 4 = nI (x + 4) := nI_add x 4
theorem nA5 (x : Nat) : nI x + 5 = nI (x + 5) := nI_add x 5
theorem n10 (a b : Nat) : 10 * nI a + nI b = nI (10 * a + b) := by rw [show (10 : Int32) = nI 10 from rfl, pk_mul, nI_add]
section RS
variable {h i j p g F d n x k : Nat} {μ0 μ τ0 τ u σ : Mm} {S : Hs} {dd ee : Int32} {B : Nat → Int32}
theorem sSt_g (c : B x = 103) : sSt B x S = if dv B (x + 1) < 8 ∧ dv B (x + 4) < 6 ∧ sG S < 12 then some (sNew S (nI (dv B (x + 1))) (nI (dv B (x + 2))) (nI (dv B (x + 3))) (nI (dv B (x + 4))) (nI (sM S))) else none := by
  unfold sSt; rw [c]; rfl
theorem sSt_p (c : B x = 112) : sSt B x S = if 0 < dv B (x + 1) ∧ 0 < dv B (x + 2) ∧ dv B (x + 5) < 6 ∧ sP S < 6 then some (sGu S (nI (dv B (x + 1))) (nI (dv B (x + 2))) (nI (dv B (x + 3))) (nI (dv B (x + 4))) (nI (dv B (x + 5)))) else none := by
  unfold sSt; rw [c]; rfl
theorem sSt_c (c : B x = 99) : sSt B x S = if dv B (x + 1) < sP S then some (uP S (dv B (x + 1)) 8 (1 - sp S (dv B (x + 1)) 8)) else none := by
  unfold sSt; rw [c]; rfl
theorem sSt_h (c : B x = 104) : sSt B x S = if dv B (x + 1) < sP S ∧ 10 * dv B (x + 2) + dv B (x + 3) < sG S ∧ sp S (dv B (x + 1)) 5 = -4 ∧ sg S (10 * dv B (x + 2) + dv B (x + 3)) 3 < 6 then some (sHold S (dv B (x + 1)) (10 * dv B (x + 2) + dv B (x + 3))) else none := by
  unfold sSt; rw [c]; rfl
theorem sSt_t (c : B x = 116) : sSt B x S = some (uN S (sG S) (sP S) (sM S) (if B (x + 2) = 59 then dv B (x + 1) else 10 * dv B (x + 1) + dv B (x + 2))) := by
  unfold sSt; rw [c]; rfl
theorem sSt_m (c : B x = 109) : sSt B x S = if sM S < 999 then some (sMin S) else none := by
  unfold sSt; rw [c]; rfl
theorem okS_d {c : Int32} {m l : Nat} (h : okS B n x) (hc : B x = c) (hm : ms c = some m) (hl : lst c m = l) : ∀ j, j < l → dg B n (x + 1 + j) := by
  obtain ⟨m', h1, h2, -, -⟩ := h
  obtain ⟨-, q⟩ := mt_some h1
  rw [hc, hm] at q
  cases q
  rw [hc, hl] at h2
  exact fun j hj => nd_d m (x + 1) j (by omega)
theorem okS_t (h : okS B n x) (hc : B x = 116) : (x + 2 < n ∧ B (x + 2) = 59 ∧ ¬ dg B n (x + 2)) ∨ (dg B n (x + 2) ∧ ¬ B (x + 2) = 59) := by
  have hn : ∀ y, dg B n y → ¬ B y = 59 := fun y hy z => by
    have := hy.2.2
    rw [z] at this
    exact absurd this (by decide)
  rcases Classical.em (dg B n (x + 2)) with c | c
  · exact Or.inr ⟨c, hn _ c⟩
  · have d1 := okS_d (m := 2) (l := 1) h hc (by decide) (by decide) 0 (by decide)
    obtain ⟨m, h1, h2, h3, h4⟩ := h
    obtain ⟨-, q⟩ := mt_some h1
    rw [hc] at q
    have : m = 2 := by
      have e : ms 116 = some 2 := by decide
      rw [e] at q; cases q; rfl
    subst this
    have hnd : nd B n (x + 1) 2 = 1 := nd_st 1 2 (x + 1) (by decide) (fun j hj => by
      obtain rfl : j = 0 := by omega
      exact d1) c
    have hE := eV_m h1
    rw [hnd] at hE
    rw [hE] at h3 h4
    exact Or.inl ⟨h3, h4, c⟩
theorem sSt_i {S' : Hs} (ok : okS B n x) (hv : Hv S) (h : sSt B x S = some S') : Hv S' := by
  obtain ⟨⟨v1, v2⟩, vl, vm⟩ := hv
  obtain ⟨m, h1, -, -, -⟩ := id ok
  obtain ⟨-, hms⟩ := mt_some h1
  rcases ms_some hms with c | c | c | c | c | c
  · have D := okS_d (m := 1) (l := 1) ok c (by decide) (by decide)
    rw [sSt_c c] at h
    by_cases q : dv B (x + 1) < sP S
    · rw [if_pos q] at h
      cases h
      refine ⟨⟨Iv.p v1 (fun z => absurd z (by decide)) (fun z => absurd z (by decide)) (fun z => absurd z (by decide)) (fun z => absurd z (by decide)) (fun _ => ?_), v2⟩, vl, vm⟩
      rcases (v1.2.2.2.2 _ q).2.2.2.2.2.2 with z | z
      · rw [z]; exact Or.inr rfl
      · rw [z]; exact Or.inl rfl
    · rw [if_neg q] at h; cases h
  · have D := okS_d (m := 4) (l := 4) ok c (by decide) (by decide)
    rw [sSt_g c] at h
    by_cases q : dv B (x + 1) < 8 ∧ dv B (x + 4) < 6 ∧ sG S < 12
    · rw [if_pos q] at h
      cases h
      exact ⟨nw_i ⟨v1, v2⟩ q.2.2 ⟨_, q.1, rfl⟩ ⟨_, (dv_e (D 2 (by decide))).2, rfl⟩ ⟨_, q.2.1, rfl⟩, vl, vm⟩
    · rw [if_neg q] at h; cases h
  · have D := okS_d (m := 3) (l := 3) ok c (by decide) (by decide)
    rw [sSt_h c] at h
    by_cases q : dv B (x + 1) < sP S ∧ 10 * dv B (x + 2) + dv B (x + 3) < sG S ∧ sp S (dv B (x + 1)) 5 = -4 ∧ sg S (10 * dv B (x + 2) + dv B (x + 3)) 3 < 6
    · rw [if_pos q] at h
      cases h
      exact ⟨⟨sHold_Iv v1 q.1 q.2.1, sHold_Lv v2⟩, vl, vm⟩
    · rw [if_neg q] at h; cases h
  · rw [sSt_m c] at h
    by_cases q : sM S < 999
    · rw [if_pos q] at h
      cases h
      have z := sPass_Iv v1 1
      refine ⟨⟨z.1, sMin_Lv v1 v2⟩, z.2.2.2.2.trans vl, ?_⟩
      have := z.2.2.1
      show sM (sPass S 1) ≤ 999
      omega
    · rw [if_neg q] at h; cases h
  · have D := okS_d (m := 5) (l := 5) ok c (by decide) (by decide)
    rw [sSt_p c] at h
    by_cases q : 0 < dv B (x + 1) ∧ 0 < dv B (x + 2) ∧ dv B (x + 5) < 6 ∧ sP S < 6
    · rw [if_pos q] at h
      cases h
      exact ⟨⟨Iv.newP v1 q.2.2.2 ⟨_, q.1, (dv_e (D 0 (by decide))).2, rfl⟩ ⟨_, q.2.1, (dv_e (D 1 (by decide))).2, rfl⟩ ⟨_, (dv_e (D 2 (by decide))).2, rfl⟩ ⟨_, q.2.2.1, rfl⟩, v2⟩, vl, vm⟩
    · rw [if_neg q] at h; cases h
  · have D := okS_d (m := 2) (l := 1) ok c (by decide) (by decide)
    rw [sSt_t c] at h
    cases h
    refine ⟨⟨Iv.n v1 ?_, v2⟩, vl, vm⟩
    have a1 := (dv_e (D 0 (by decide))).2
    have a1 : dv B (x + 1) < 10 := a1
    rcases okS_t ok c with y | y
    · rw [if_pos y.2.1]; omega
    · rw [if_neg y.2]
      have := (dv_e y.1).2
      omega
/-! the class -/
theorem t_g {P : Int32 × Mm → Prop} (hd : d < 8) (hn : n ≤ 100) (en : u.1 (65 + 2 * d) 4 = nI n) (eB : u.1 (66 + 2 * d) = B) (R : XS 1 σ u S) (ok : okS B n x) (c : B x = 103) (h0 : sSt B x S = none → P (0, u)) (h1 : ∀ S' u', sSt B x S = some S' → XS 1 σ u' S' → P (1, u')) : OkO (f_T_glassStands F u (some (65 + 2 * d)) (nI x) (some (hI 1))) P := by
  subst eB
  have D := okS_d (m := 4) (l := 4) ok c (by decide) (by decide)
  have d1 : dg (u.1 (66 + 2 * d)) n (x + 1) := D 0 (by decide)
  have d2 : dg (u.1 (66 + 2 * d)) n (x + 2) := D 1 (by decide)
  have d3 : dg (u.1 (66 + 2 * d)) n (x + 3) := D 2 (by decide)
  have d4 : dg (u.1 (66 + 2 * d)) n (x + 4) := D 3 (by decide)
  have b1 := (dv_e d1).2
  have b4 := (dv_e d4).2
  rw [sSt_g c] at h0
  simp only [sSt_g c] at h1
  unfold f_T_glassStands
  rw [nI_1, nA2, nA3, nA4]
  refine okY (t_dv hd hn d1 (okY (t_dv hd hn d4 ?_)))
  dsimp only
  by_cases c1 : dv (u.1 (66 + 2 * d)) (x + 1) < 8
  · refine okY (x_isb1 (n := 8) c1 (by decide) (okF i1n ?_))
    by_cases c4 : dv (u.1 (66 + 2 * d)) (x + 4) < 6
    · refine okY (x_isb1 (n := 6) c4 (by decide) (okF i1n (okY (t_dv hd hn d2 (okY (t_dv hd hn d3 (okJ (x_h (by decide) ?_))))))))
      by_cases cG : sG S < 12
      · refine okY (x_add R (by decide) cG (fun u1 w a R1 => okF sI_none (okJ (x_s5 R1 (by decide) (okJ (x_g (i := sG S) R1 (by decide) (Nat.lt_succ_self _) (okY (x_layAt (g := sG S) R1 (by decide) (Nat.lt_succ_self _) (fun u2 R2 => okJ (okz (Or.inr rfl) (okR ?_)))))))))))
        rw [sNew_w] at R2
        exact h1 _ _ (if_pos ⟨c1, c4, cG⟩) R2
      · exact okY (x_add0 R (by decide) (by have := R.G; omega) (okT rfl (okJ (okz (Or.inl rfl) (okR (h0 (if_neg (fun y => cG y.2.2))))))))
    · exact okY (x_isb0 (n := 6) (Or.inr (nI_le (by omega) (by omega))) (okT rfl (okJ (okz (Or.inl rfl) (okR (h0 (if_neg (fun y => c4 y.2.1))))))))
  · exact okY (x_isb0 (n := 8) (Or.inr (nI_le (by omega) (by omega))) (okT rfl (okJ (okz (Or.inl rfl) (okR (h0 (if_neg (fun y => c1 y.1))))))))
theorem t_p {P : Int32 × Mm → Prop} (hd : d < 8) (hn : n ≤ 100) (en : u.1 (65 + 2 * d) 4 = nI n) (eB : u.1 (66 + 2 * d) = B) (R : XS 1 σ u S) (ok : okS B n x) (c : B x = 112) (h0 : sSt B x S = none → P (0, u)) (h1 : ∀ S' u', sSt B x S = some S' → XS 1 σ u' S' → P (1, u')) : OkO (f_T_guestEnters F u (some (65 + 2 * d)) (nI x) (some (hI 1))) P := by
  subst eB
  have D := okS_d (m := 5) (l := 5) ok c (by decide) (by decide)
  have d1 : dg (u.1 (66 + 2 * d)) n (x + 1) := D 0 (by decide)
  have d2 : dg (u.1 (66 + 2 * d)) n (x + 2) := D 1 (by decide)
  have d3 : dg (u.1 (66 + 2 * d)) n (x + 3) := D 2 (by decide)
  have d4 : dg (u.1 (66 + 2 * d)) n (x + 4) := D 3 (by decide)
  have d5 : dg (u.1 (66 + 2 * d)) n (x + 5) := D 4 (by decide)
  have b1 := (dv_e d1).2
  have b2 := (dv_e d2).2
  have b5 := (dv_e d5).2
  rw [sSt_p c] at h0
  simp only [sSt_p c] at h1
  unfold f_T_guestEnters
  rw [nI_1, nA2, nA3, nA4, nA5]
  refine okY (t_dv hd hn d1 (okY (t_dv hd hn d2 (okY (t_dv hd hn d5 ?_)))))
  dsimp only
  by_cases c1 : 0 < dv (u.1 (66 + 2 * d)) (x + 1)
  · refine okF (nI_nlt (b := 1) c1 (by omega)) ?_
    by_cases c2 : 0 < dv (u.1 (66 + 2 * d)) (x + 2)
    · refine okF (nI_nlt (b := 1) c2 (by omega)) ?_
      by_cases c5 : dv (u.1 (66 + 2 * d)) (x + 5) < 6
      · refine okY (x_isb1 (n := 6) c5 (by decide) (okF i1n (okY (t_dv hd hn d3 (okY (t_dv hd hn d4 (okJ (x_h (by decide) ?_))))))))
        by_cases cP : sP S < 6
        · exact okY (x_addP R (by decide) cP (fun u1 R1 => okF sI_none (okJ (okz (Or.inr rfl) (okR (h1 _ _ (if_pos ⟨c1, c2, c5, cP⟩) R1))))))
        · exact okY (x_addP0 R (by decide) (by have := R.P; omega) (okT rfl (okJ (okz (Or.inl rfl) (okR (h0 (if_neg (fun y => cP y.2.2.2))))))))
      · exact okY (x_isb0 (n := 6) (Or.inr (nI_le (by omega) (by omega))) (okT rfl (okJ (okz (Or.inl rfl) (okR (h0 (if_neg (fun y => c5 y.2.2.1))))))))
    · exact okT (nI_lt (b := 1) (by omega) (by decide)) (okJ (okz (Or.inl rfl) (okR (h0 (if_neg (fun y => c2 y.2.1))))))
  · exact okT (nI_lt (b := 1) (by omega) (by decide)) (okJ (okz (Or.inl rfl) (okR (h0 (if_neg (fun y => c1 y.1))))))
theorem t_c {P : Int32 × Mm → Prop} (hd : d < 8) (hn : n ≤ 100) (en : u.1 (65 + 2 * d) 4 = nI n) (eB : u.1 (66 + 2 * d) = B) (R : XS 1 σ u S) (hv : Iv S) (ok : okS B n x) (c : B x = 99) (h0 : sSt B x S = none → P (0, u)) (h1 : ∀ S' u', sSt B x S = some S' → XS 1 σ u' S' → P (1, u')) : OkO (f_T_coldTurns F u (some (65 + 2 * d)) (nI x) (some (hI 1))) P := by
  subst eB
  have D := okS_d (m := 1) (l := 1) ok c (by decide) (by decide)
  have d1 : dg (u.1 (66 + 2 * d)) n (x + 1) := D 0 (by decide)
  have b1 := (dv_e d1).2
  rw [sSt_c c] at h0
  simp only [sSt_c c] at h1
  unfold f_T_coldTurns
  rw [nI_1]
  refine okY (t_dv hd hn d1 (okJ (x_h (by decide) ?_)))
  by_cases c1 : dv (u.1 (66 + 2 * d)) (x + 1) < sP S
  · have c8 := (hv.2.2.2.2 _ c1).2.2.2.2.2.2
    refine okY (x_guestAt R (by decide) c1 (okF sI_none (okJ (x_pG (k := 8) R (by decide) c1 (by decide) ?_))))
    have e : (if sp S (dv (u.1 (66 + 2 * d)) (x + 1)) 8 = 0 then some (1 : Int32) else some (0 : Int32)) = some (1 - sp S (dv (u.1 (66 + 2 * d)) (x + 1)) 8) := by
      rcases c8 with z | z <;> rw [z] <;> rfl
    dsimp only
    rw [e]
    refine okJ (okR (okJ (x_zP (k := 8) R (by decide) c1 (by decide) ?_ (fun u1 R1 => okJ (okz (Or.inr rfl) (okR (h1 _ _ (if_pos c1) R1)))))))
    rcases c8 with z | z <;> rw [z]
    · exact Or.inr rfl
    · exact Or.inl rfl
  · exact okY (x_guestNo R (by decide) (Or.inr (nI_le (by omega) (by omega))) (okT rfl (okJ (okz (Or.inl rfl) (okR (h0 (if_neg c1)))))))
theorem t_h {P : Int32 × Mm → Prop} (hd : d < 8) (hn : n ≤ 100) (en : u.1 (65 + 2 * d) 4 = nI n) (eB : u.1 (66 + 2 * d) = B) (R : XS 1 σ u S) (ok : okS B n x) (c : B x = 104) (h0 : sSt B x S = none → P (0, u)) (h1 : ∀ S' u', sSt B x S = some S' → XS 1 σ u' S' → P (1, u')) : OkO (f_T_guestHolds F u (some (65 + 2 * d)) (nI x) (some (hI 1))) P := by
  subst eB
  have D := okS_d (m := 3) (l := 3) ok c (by decide) (by decide)
  have d1 : dg (u.1 (66 + 2 * d)) n (x + 1) := D 0 (by decide)
  have d2 : dg (u.1 (66 + 2 * d)) n (x + 2) := D 1 (by decide)
  have d3 : dg (u.1 (66 + 2 * d)) n (x + 3) := D 2 (by decide)
  have b1 := (dv_e d1).2
  have b2 := (dv_e d2).2
  have b3 := (dv_e d3).2
  have hG := R.G
  have hP := R.P
  rw [sSt_h c] at h0
  simp only [sSt_h c] at h1
  unfold f_T_guestHolds
  rw [nI_1, nA2, nA3]
  refine okY (t_dv hd hn d1 (okJ (x_h (by decide) ?_)))
  by_cases c1 : dv (u.1 (66 + 2 * d)) (x + 1) < sP S
  · refine okY (x_guestAt R (by decide) c1 (okY (t_dv hd hn d2 (okY (t_dv hd hn d3 (okJ (x_h (by decide) ?_)))))))
    dsimp only
    rw [n10]
    by_cases c2 : 10 * dv (u.1 (66 + 2 * d)) (x + 2) + dv (u.1 (66 + 2 * d)) (x + 3) < sG S
    · refine okY (x_glassAt R (by decide) c2 (okF sI_none (okF sI_none (okJ (x_pG (k := 5) R (by decide) c1 (by decide) ?_)))))
      refine okI (fun c3 => okJ (x_g R (by decide) c2 ?_)) (fun c3 => okJ (okz (Or.inl rfl) (okR (h0 (if_neg (fun y => c3 y.2.2.1))))))
      unfold f_G_isLaid
      refine okY (okJ (x_gG (k := 3) R (by decide) c2 (by decide) (by decide) (okI (fun c4 => okJ (okz (Or.inl rfl) (okR (okT rfl (okJ (okz (Or.inl rfl) (okR (h0 (if_neg (fun y => xnlt.mpr c4 y.2.2.2)))))))))) (fun c4 => okJ (okz (Or.inr rfl) (okR (okF i1n (okJ (x_p R (by decide) c1 (okY (x_hold R (by decide) c1 c2 (fun u1 R1 => okJ (okz (Or.inr rfl) (okR (h1 _ _ (if_pos ⟨c1, c2, c3, xnle.mp c4⟩) R1)))))))))))))))
    · exact okY (x_glassNo R (by decide) (Or.inr (nI_le (by omega) (by omega))) (okF sI_none (okT rfl (okJ (okz (Or.inl rfl) (okR (h0 (if_neg (fun y => c2 y.2.1)))))))))
  · refine okY (x_guestNo R (by decide) (Or.inr (nI_le (by omega) (by omega))) (okY (t_dv hd hn d2 (okY (t_dv hd hn d3 (okJ (x_h (by decide) ?_)))))))
    dsimp only
    rw [n10]
    have no : ∀ r : Option Nat, OkO (if (none : Option Nat) = none then ob (jz (0 : Int32)) (fun v => some (v, u)) else (if r = none then ob (jz (0 : Int32)) (fun v => some (v, u)) else ob (jgi YX 1 6 u none) fun (x13 : Int32) => (if x13 = (-4 : Int32) then ob (jk YX 0 r) fun t => yb (f_G_isLaid F u t) fun x15 u16 => (if x15 = 0 then ob (jz (0 : Int32)) (fun v => some (v, u16)) else ob (jk YX 1 none) fun t => yb (f_U_hold F u16 t r) fun v18 u19 => ob (jz (1 : Int32)) (fun v => some (v, u19))) else ob (jz (0 : Int32)) (fun v => some (v, u))))) P := fun r => okT rfl (okJ (okz (Or.inl rfl) (okR (h0 (if_neg (fun y => c1 y.1))))))
    by_cases c2 : 10 * dv (u.1 (66 + 2 * d)) (x + 2) + dv (u.1 (66 + 2 * d)) (x + 3) < sG S
    · exact okY (x_glassAt R (by decide) c2 (no _))
    · exact okY (x_glassNo R (by decide) (Or.inr (nI_le (by omega) (by omega))) (no _))
theorem t_t {P : Unit × Mm → Prop} (hd : d < 8) (hn : n ≤ 100) (en : u.1 (65 + 2 * d) 4 = nI n) (eB : u.1 (66 + 2 * d) = B) (R : XS 1 σ u S) (ok : okS B n x) (c : B x = 116) (h1 : ∀ S' u', sSt B x S = some S' → XS 1 σ u' S' → P ((), u')) : OkO (f_T_setTray F u (some (65 + 2 * d)) (nI x) (some (hI 1))) P := by
  subst eB
  have D := okS_d (m := 2) (l := 1) ok c (by decide) (by decide)
  have d1 : dg (u.1 (66 + 2 * d)) n (x + 1) := D 0 (by decide)
  have hxn := d1.1
  simp only [sSt_t c] at h1
  have fin : ∀ t : Nat, t = (if u.1 (66 + 2 * d) (x + 2) = 59 then dv (u.1 (66 + 2 * d)) (x + 1) else 10 * dv (u.1 (66 + 2 * d)) (x + 1) + dv (u.1 (66 + 2 * d)) (x + 2)) → OkO (ob (jpi YX 2 4 u (some (hI 1)) (nI t)) fun (u9 : Mm) => some ((), u9)) P := by
    intro t ht
    refine okJ (x_wS (k := 4) (uN S (sG S) (sP S) (sM S) t) R (by decide) (fun u1 R1 => okR (h1 _ u1 (by rw [← ht]) R1)) ⟨Nat.le_refl _, Nat.le_refl _⟩ rfl rfl ?_)
    refine ⟨?_, ?_, ?_, ?_, ?_, ?_, ?_, ?_, ?_, ?_, ?_, ?_, ?_, ?_⟩ <;> first | (intro _; rfl) | (intro z; exact absurd z (by decide)) | (intro z; exact absurd rfl z)
  unfold f_T_setTray
  rw [nI_1, nA2]
  refine okY (t_dv hd hn d1 (okY (t_at hd hn en (by omega) (fun y1 y2 => okJ (okF i1n (okR (fin _ (if_pos y2).symm)))) (fun y => okJ (okT rfl ?_)))))
  rcases okS_t ok c with z | z
  · exact absurd ⟨z.1, z.2.1⟩ y
  · refine okY (t_dv hd hn z.1 (okR ?_))
    dsimp only
    rw [n10]
    exact fin _ (if_neg z.2).symm
theorem t_ob {P : Int32 × Mm → Prop} (hd : d < 8) (hn : n ≤ 100) (en : u.1 (65 + 2 * d) 4 = nI n) (eB : u.1 (66 + 2 * d) = B) (R : XS 1 σ u S) (hv : Iv S) (ok : okS B n x) (hm : B x = 109 → ¬ sM S < 999) (h0 : sSt B x S = none → P (0, u)) (h1 : ∀ S' u', sSt B x S = some S' → XS 1 σ u' S' → P (1, u')) : OkO (f_T_obeys F u (some (hI 1)) (some (65 + 2 * d)) (nI x)) P := by
  have hx : x < 100 := by have := okS_e ok; omega
  obtain ⟨m, q1, -, -, -⟩ := id ok
  obtain ⟨-, hms⟩ := mt_some q1
  unfold f_T_obeys
  refine okJ (x_sk hd (okY (t_ela hd hx ?_)))
  dsimp only
  rw [eB]
  rcases ms_some hms with c | c | c | c | c | c
  · rw [c]
    exact okT rfl (okY (t_c hd hn en eB R hv ok c (fun z => okJ (okz (Or.inl rfl) (okR (h0 z)))) (fun S' u' z R' => okJ (okz (Or.inr rfl) (okR (h1 S' u' z R'))))))
  · rw [c]
    exact okF (by decide) (okT rfl (okY (t_g hd hn en eB R ok c (fun z => okJ (okz (Or.inl rfl) (okR (h0 z)))) (fun S' u' z R' => okJ (okz (Or.inr rfl) (okR (h1 S' u' z R')))))))
  · rw [c]
    exact okF (by decide) (okF (by decide) (okT rfl (okY (t_h hd hn en eB R ok c (fun z => okJ (okz (Or.inl rfl) (okR (h0 z)))) (fun S' u' z R' => okJ (okz (Or.inr rfl) (okR (h1 S' u' z R'))))))))
  · have h0' := h0 (by rw [sSt_m c, if_neg (hm c)])
    rw [c]
    exact okF (by decide) (okF (by decide) (okF (by decide) (okF (by decide) (okF (by decide) (okJ (okz (Or.inl rfl) (okR h0')))))))
  · rw [c]
    exact okF (by decide) (okF (by decide) (okF (by decide) (okT rfl (okY (t_p hd hn en eB R ok c (fun z => okJ (okz (Or.inl rfl) (okR (h0 z)))) (fun S' u' z R' => okJ (okz (Or.inr rfl) (okR (h1 S' u' z R')))))))))
  · rw [c]
    exact okF (by decide) (okF (by decide) (okF (by decide) (okF (by decide) (okT rfl (okY (t_t hd hn en eB R ok c (fun S' u' z R' => okJ (okz (Or.inr rfl) (okR (h1 S' u' z R'))))))))))
end RS
