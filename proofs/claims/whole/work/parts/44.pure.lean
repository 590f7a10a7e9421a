/-! PURE 44: driver, brought, particular -/
def Opn (N : Hs) (τ u : Mm) : Prop := (∃ d e S, RM d e u.1 S ∧ sLo S = -4 ∧ sP S = sP N) ∧ IM 17 u.1 N ∧ FN τ u
def Fst (p : Nat → Prop) (n : Nat) : Option Nat → Prop
  | none => ∀ j, j < n → ¬ p j
  | some i => i < n ∧ p i ∧ ∀ j, j < i → ¬ p j
theorem Fst.u {p : Nat → Prop} {n : Nat} {r r' : Option Nat} (h : Fst p n r) (h' : Fst p n r') : r = r' := by
  cases r with
  | none =>
    cases r' with
    | none => rfl
    | some i' => exact absurd h'.2.1 (h i' h'.1)
  | some i =>
    cases r' with
    | none => exact absurd h.2.1 (h' i h.1)
    | some i' =>
      have : i = i' := by
        rcases Nat.lt_trichotomy i i' with q | q | q
        · exact absurd h.2.1 (h'.2.2 i q)
        · exact q
        · exact absurd h'.2.1 (h.2.2 i' q)
      rw [this]
def bB (N : Hs) : Hs := uC N 0 0 (-4)
theorem shl_e {n : Nat} (h : n ≤ 6) : (1 : Int32) <<< (nI n &&& 31) = nI (2 ^ n) := by
  rcases (by omega : n = 0 ∨ n = 1 ∨ n = 2 ∨ n = 3 ∨ n = 4 ∨ n = 5 ∨ n = 6) with rfl | rfl | rfl | rfl | rfl | rfl | rfl <;> decide
section QH
variable {N S : Hs} {μ0 μ σ τ : Mm} {F g j h p n : Nat} {d e : Int32}
theorem bB_i (hv : Iv N) (hl : sLo N = -4) : Iv (bB N) := by
  have e : bB N = uC N 0 0 (sLo N) := by rw [hl]; rfl
  rw [e]; exact hv
theorem m4_uC {m f : Int32} (hv : Iv N) : Iv (uC N m f (-4)) := ⟨hv.1, hv.2.1, Or.inl rfl, hv.2.2.2⟩
theorem bB_m {m f : Int32} (hl : sLo N = -4) : uC (uC N m f (-4)) 0 0 (-4) = bB N := rfl
theorem m_op {β : Type} {P : β → Prop} {K : Mm → Option β} (R : Rl N σ τ) (hF : 100 ≤ F) (hk : ∀ u d e, MS d e u u N → IM 17 u.1 N → FN τ u → OkO (K u) P) : OkO (ob (jk YM 5 (some 0)) fun t => yb (f_M_open F τ t) fun _ u6 => K u6) P := by
  obtain ⟨d, e, M⟩ := R.m
  exact okJ (m_k (okY (m_open M.1 hF (fun u1 M1 I1 F1 => hk u1 d e (MS.rf M1) I1 F1))))
theorem q_driver (a : Int32) (R : Rl N σ τ) (hF : 2000 ≤ F) : Ag (f_X_driver F σ 0 a) (f_M_driver F τ 0 a) := by
  obtain ⟨Q, hQ⟩ := R.2.1
  unfold Ag f_X_driver f_M_driver
  rcases px a (n := 61) (by decide) with ⟨n, hn, rfl⟩ | ho
  · have z := sAh_i (n := n) R.1.2.1.1 R.1.2.2.1
    have hP := z.1.1.2
    refine okY (x_isp1 hn (okF i1n (okJ (x_k (okY (x_ah R (XS.rf hQ) (by omega) hF (fun σ' X' => okJ (x_h (by decide) (okY (x_sob X' (by decide) (by omega) (okR ?_)))))))))))
    refine m_t R (fun τ1 R1 => okY (m_isN1 hn (okF i1n (m_ah R1 (by omega) hF (fun u M I Fu => ?_)))))
    refine lpA (A := Option Nat) (L := fun n u b i => f_M_driver_L28 F (some 0) _ n u (oI b) i) (sP (sAh N n)) (fun i u2 b => u2 = u ∧ b = it (sobF (sAh N n)) none i ∧ ∀ x, b = some x → x < i) (fun n2 u2 b hq => ?_) (fun n2 i u2 b hi hq hk => ?_) (sP (sAh N n)) 0 F u none (by omega) (by omega) ⟨rfl, rfl, fun x hx => by cases hx⟩
    · obtain ⟨hu, hb, -⟩ := hq
      subst hu
      simp only [f_M_driver_L28]
      refine okJ (m_s1 M (okT (nI_le (Nat.le_refl _) (by omega)) (m_ag R1 M.1 z.2.2.2.2 I Fu (by omega) (fun u' M' I' Fu' => okR ⟨?_, R1.mind X' Fu' M'.1⟩))))
      rw [hb]; rfl
    · obtain ⟨hu, hb, hin⟩ := hq
      subst hu
      simp only [f_M_driver_L28]
      have go : ∀ b', sobF (sAh N n) i b = b' → (∀ x, b' = some x → x < i + 1) → OkO (ob (some (nI i + 1)) fun x18 => f_M_driver_L28 F (some 0) (fun u19 x20 => ob (jk YM 5 (some 0)) fun t => yb (f_M_again F u19 t) fun _ u22 => some (x20, u22)) n2 u2 (oI b') x18) (fun q => (oI (sSob (sAh N n)), σ').1 = q.1 ∧ Rel (oI (sSob (sAh N n)), σ').2 q.2) := fun b' hc hx => by
        refine okJ (okR ?_)
        rw [nI_1]
        exact hk u2 b' ⟨rfl, by rw [it_s, ← hb, hc], hx⟩
      refine okJ (m_s1 M (okF (nI_ge hi (by omega)) (okJ ?_)))
      cases b with
      | none => exact okT n4_neg (okR (go (some i) rfl (fun x hx => by cases hx; omega)))
      | some b =>
        have hb1 := hin b rfl
        refine okF (nI_pos (by omega)) (okJ (m_r 15 (okJ (m_pA (k := 7) M hi (by decide) (okJ (m_r 15 (okJ (m_pA (k := 7) M (by omega) (by decide) (okI (fun c2 => okR ?_) (fun c2 => okR ?_))))))))))
        · exact go (some b) (by unfold sobF; dsimp only; rw [if_pos c2]) (fun x hx => by cases hx; omega)
        · exact go (some i) (by unfold sobF; dsimp only; rw [if_neg c2]) (fun x hx => by cases hx; omega)
  · exact okY (x_isp0 ho (okT rfl (okR (m_t R (fun τ1 R1 => okY (m_isN0 ho (okT rfl (okR ⟨rfl, N, R1⟩))))))))
noncomputable def sBr (N : Hs) (n i : Nat) : Int32 := sCB (sPass (sAlone (bB N) i) n)
noncomputable def broG (N : Hs) (b : Int32) (n i : Nat) (a : Int32) : Int32 := if sBr N n i = b then a ||| ((1 : Int32) <<< (nI i &&& 31)) else a
theorem x_cbb {P : Int32 × Mm → Prop} {i : Nat} (R : Rl N σ τ) (hσ : XS 1 σ μ S) (hi : i < 6) (hn : n < 1000) (hF : 2000 ≤ F) (hk : ∀ σ' S', XS 1 σ σ' S' → P (sBr N n i, σ')) : OkO (f_X_coldsBroughtBy F μ 0 (nI i) (nI n)) P := by
  have hm := R.1.2.2.2.1
  unfold f_X_coldsBroughtBy
  refine okJ (x_r (hI 1) (okJ (x_r (hI 0) (okJ (x_h (by decide) (okY (x_bm R hσ (by omega) (fun σ1 X1 => ?_))))))))
  refine okJ (x_r (hI 1) (okJ (x_h (by decide) (okY (x_alone X1 (by decide) hi (by omega) (fun σ2 X2 => ?_))))))
  refine okJ (x_r (hI 1) (okJ (x_h (by decide) (okY (x_pass X2 (by decide) (sAlone_Iv (bB_i R.1.2.1.1 R.1.2.2.1)) hn hF (by show sM N < _; omega) (fun σ3 X3 => ?_))))))
  exact okJ (x_r (hI 1) (okJ (x_h (by decide) (okY (x_cb X3 (by decide) (by omega) (okR (hk σ3 _ X3)))))))
theorem q_brought (a b : Int32) (R : Rl N σ τ) (hF : 2000 ≤ F) : Ag (f_X_brought F σ 0 a b) (f_M_brought F τ 0 a b) := by
  obtain ⟨Q, hQ⟩ := R.2.1
  have X := R.x
  have hP := X.P
  have hv := R.1.2.1.1
  have hl := R.1.2.2.1
  have h2 : 2 ^ sP N < 2 ^ 31 := Nat.pow_lt_pow_right (by decide) (by omega)
  unfold Ag f_X_brought f_M_brought
  refine okJ (x_r (hI 0) (okJ (x_s3 X (by decide) ?_)))
  rw [shl_e hP]
  rcases px a (n := 2 ^ sP N) h2 with ⟨k, hk0, rfl⟩ | ha
  · refine okY (x_isb1 hk0 h2 (okF i1n ?_))
    rcases px b (n := 61) (by decide) with ⟨n, hn, rfl⟩ | ho
    · refine okY (x_isp1 hn (okF i1n ?_))
      refine lpA (A := Int32) (L := fun m u c i => f_X_brought_L30 F (some 0) (nI k) (nI n) _ m u c i) (sP N) (fun i u c => c = it (broG N (nI k) n) 0 i ∧ ∃ S', XS 1 σ u S') (fun m xs c0 hq => ?_) (fun m i u c hi hq hk => ?_) (sP N) 0 F σ 0 (by omega) (by omega) ⟨rfl, Q, XS.rf hQ⟩
      · obtain ⟨hc, S1, X1⟩ := hq
        simp only [f_X_brought_L30]
        refine okJ (x_r (hI 0) (okJ (x_s3 (oth X1 R.1.1 (by decide)) (by decide) (okT (nI_le (Nat.le_refl _) (by omega)) (okR ?_)))))
        refine m_t R (fun τ1 R1 => ?_)
        obtain ⟨d, e, M⟩ := R1.m
        refine okJ (m_s1 M ?_)
        rw [shl_e hP]
        refine okY (m_n1 hk0 h2 rfl (okF i1n (okY (m_isN1 hn (okF i1n (m_op R1 (by omega) (fun u0 d0 e0 M0 I0 F0 => ?_)))))))
        refine lpA (A := Int32) (L := fun m u c i => f_M_brought_L41 F (some 0) (nI k) (nI n) _ m u c i) (sP N) (fun i u c => c = it (broG N (nI k) n) 0 i ∧ Opn N τ1 u) (fun m u c hq => ?_) (fun m i u c hi hq hk => ?_) (sP N) 0 F u0 0 (by omega) (by omega) ⟨rfl, ⟨d0, e0, N, M0.1, hl, rfl⟩, I0, F0⟩
        · obtain ⟨hc2, ⟨d1, e1, S2, M1, hl1, hp1⟩, I1, F1⟩ := hq
          simp only [f_M_brought_L41]
          refine okJ (m_s1 (MS.rf M1) ?_)
          rw [hp1]
          refine okT (nI_le (Nat.le_refl _) (by omega)) (m_ag R1 M1 hl1 I1 F1 (by omega) (fun u' M' I' Fu' => okR ⟨?_, R1.mind X1 Fu' M'.1⟩))
          rw [hc, hc2]
        · obtain ⟨hc2, ⟨d1, e1, S2, M1, hl1, hp1⟩, I1, F1⟩ := hq
          have hm := R.1.2.2.2.1
          simp only [f_M_brought_L41]
          refine okJ (m_s1 (MS.rf M1) ?_)
          rw [hp1]
          refine okF (nI_ge hi (by omega)) (m_ag R1 M1 hl1 I1 F1 (by omega) (fun u2 M2 I2 F2 => ?_))
          refine okJ (m_k (okY (m_alone M2 (by omega) (by omega) (fun u3 M3 => okJ (m_k (okY (m_go M3 (sAlone_Iv (m4_uC hv)) (by omega) hF (by show sM N < _; omega) (fun u4 M4 => ?_))))))))
          have M5 : MS 0 0 u2 u4 (sPass (sAlone (bB N) i) n) := M4
          have z := sPass_Iv (S := sAlone (bB N) i) (sAlone_Iv (bB_i hv hl)) n
          refine okJ (m_k (okY (m_cb M5 z.1 (by omega) (okJ ?_))))
          have I5 := M5.im I2
          have F5 := F2.tr M5.fn
          have nx : ∀ q : Int32, c ||| q = broG N (nI k) n i c → OkO (ob (some (c ||| q)) fun x23 => ob (jk YM 5 (some 0)) fun t => yb (f_M_again F u4 t) fun _ u25 => ob (some (nI i + 1)) fun x26 => f_M_brought_L41 F (some 0) (nI k) (nI n) (fun u27 x28 => ob (jk YM 5 (some 0)) fun t => yb (f_M_again F u27 t) fun _ u30 => some (x28, u30)) m u25 x23 x26) (fun q => (c0, xs).1 = q.1 ∧ Rel (c0, xs).2 q.2) := by
            intro q hq
            refine okJ (okR (m_ag R1 M5.1 (z.2.2.2.2.trans rfl) I5 F5 (by omega) (fun u6 M6 I6 F6 => okJ (okR ?_))))
            rw [nI_1 i]
            exact hk u6 _ ⟨by rw [it_s, ← hc2]; exact hq, ⟨_, _, _, M6.1, rfl, rfl⟩, I6, F6⟩
          refine okI (fun c1 => okR (nx _ ?_)) (fun c1 => okR (nx _ ?_))
          · exact (if_pos c1).symm
          · rw [Int32.or_zero]; exact (if_neg c1).symm
      · obtain ⟨hc, S1, X1⟩ := hq
        simp only [f_X_brought_L30]
        refine okJ (x_r (hI 0) (okJ (x_s3 (oth X1 R.1.1 (by decide)) (by decide) (okF (nI_ge hi (by omega)) (okJ (x_k (okY (x_cbb R X1 (by omega) (by omega) hF (fun σ' S' X' => okJ ?_)))))))))
        refine okI (fun c1 => okJ (okR (okR (okJ (okR ?_))))) (fun c1 => okR (okJ (okR ?_)))
        · rw [nI_1 i]
          exact hk σ' _ ⟨by rw [it_s, ← hc]; exact (if_pos c1).symm, S', X'⟩
        · rw [nI_1 i]
          exact hk σ' _ ⟨by rw [it_s, ← hc]; exact (if_neg c1).symm, S', X'⟩
    · refine okY (x_isp0 ho (okT rfl (okR ?_)))
      refine m_t R (fun τ1 R1 => ?_)
      obtain ⟨d, e, M⟩ := R1.m
      refine okJ (m_s1 M ?_)
      rw [shl_e hP]
      exact okY (m_n1 hk0 h2 rfl (okF i1n (okY (m_isN0 ho (okT rfl (okR ⟨rfl, N, R1⟩))))))
  · refine okY (x_isb0 ha (okT rfl (okR ?_)))
    refine m_t R (fun τ1 R1 => ?_)
    obtain ⟨d, e, M⟩ := R1.m
    refine okJ (m_s1 M ?_)
    rw [shl_e hP]
    exact okY (m_n0 ha h2 rfl (okT rfl (okR ⟨rfl, N, R1⟩)))
end QH
