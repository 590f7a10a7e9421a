/-! PURE 41: count, idle, oldest -/
section QE
variable {N S : Hs} {μ0 μ σ τ : Mm} {F g j h p : Nat}
theorem q_count (a : Int32) (R : Rl N σ τ) (hF : 100 ≤ F) : Ag (f_X_count F σ 0 a) (f_M_count F τ 0 a) := by
  have X := R.x
  have hv := R.1.2.1
  have hG := X.G
  have lp : ∀ {P : Int32 × Mm → Prop}, (∀ τ1, Rl N σ τ1 → ∀ d e, MS d e τ1 τ1 N → OkO (if a = (0 : Int32) then ob (jgi YM 5 0 τ1 (some 0)) fun x17 => some (x17, τ1) else (if a = (1 : Int32) then ob (jgi YM 5 1 τ1 (some 0)) fun x19 => some (x19, τ1) else (if a = (2 : Int32) then ob (jgi YM 5 2 τ1 (some 0)) fun x21 => some (x21, τ1) else (if a = (3 : Int32) then ob (jgi YM 5 3 τ1 (some 0)) fun x23 => some (x23, τ1) else (if a = (4 : Int32) then some (sFil N, τ1) else (if a = (5 : Int32) then ob (jk YM 5 (some 0)) fun t => yb (f_M_coldBits F τ1 t ) fun x26 u27 => some (x26, u27) else (if a = (6 : Int32) then some (sSnk N, τ1) else some ((-1 : Int32), τ1)))))))) P) → OkO (f_M_count F τ 0 a) P := by
    intro P hk
    unfold f_M_count
    refine m_t R (fun τ1 R1 => ?_)
    obtain ⟨d, e, M⟩ := R1.m
    refine lpA (A := Int32 × Int32) (L := fun n u s i => f_M_count_L12 F (some 0) a _ n u s.1 s.2 i) (sG N) (fun i u s => u = τ1 ∧ s.1 = it (fun i s => s + sg N i 2) 0 i ∧ s.2 = it (fun i s => if sg N i 3 = 20 then s + 1 else s) 0 i) (fun n u s hQ => ?_) (fun n i u s hi hQ hk2 => ?_) (sG N) 0 F τ1 (0, 0) (by omega) (by omega) ⟨rfl, rfl, rfl⟩
    · obtain ⟨hu, h1, h2⟩ := hQ
      subst hu
      simp only [f_M_count_L12]
      refine okJ (m_s0 M (okT (nI_le (Nat.le_refl _) (by omega)) ?_))
      rw [h1, h2]
      exact hk u R1 d e M
    · obtain ⟨hu, h1, h2⟩ := hQ
      subst hu
      simp only [f_M_count_L12]
      refine okJ (m_s0 M (okF (nI_ge hi (by omega)) (okJ (m_r 3 (okJ (m_gA (k := 2) M hi (by decide) (okJ (okR (okJ (m_r 4 (okJ (m_gA (k := 3) M hi (by decide) (okJ (okI (fun c => okR (okJ (okR (okJ (okR ?_))))) (fun c => okR (okJ (okR (okJ (okR ?_))))))))))))))))))) 
      · rw [nI_1]; exact hk2 u (_, _) ⟨rfl, by rw [it_s, ← h1], by rw [it_s, ← h2, if_pos c]⟩
      · rw [nI_1]; exact hk2 u (_, _) ⟨rfl, by rw [it_s, ← h1], by rw [it_s, ← h2, if_neg c]; exact Int32.add_zero _⟩
  unfold Ag f_X_count
  refine okI (fun c => okJ (x_r (hI 0) (okJ (x_s2 X (by decide) (okR (lp (fun τ1 R1 d e M => okT c (okJ (m_s0 M (okR ⟨rfl, N, R1⟩)))))))))) (fun c0 => ?_)
  refine okI (fun c => okJ (x_r (hI 0) (okJ (x_s3 X (by decide) (okR (lp (fun τ1 R1 d e M => okF c0 (okT c (okJ (m_s1 M (okR ⟨rfl, N, R1⟩))))))))))) (fun c1 => ?_)
  refine okI (fun c => okJ (x_r (hI 0) (okJ (x_s4 X (by decide) (okR (lp (fun τ1 R1 d e M => okF c0 (okF c1 (okT c (okJ (m_s2 M (okR ⟨rfl, N, R1⟩)))))))))))) (fun c2 => ?_)
  refine okI (fun c => okJ (x_r (hI 0) (okJ (x_s5 X (by decide) (okR (lp (fun τ1 R1 d e M => okF c0 (okF c1 (okF c2 (okT c (okJ (m_s3 M (okR ⟨rfl, N, R1⟩))))))))))))) (fun c3 => ?_)
  refine okI (fun c => okJ (x_r (hI 0) (okJ (x_h (by decide) (okY (x_fil X (by decide) hF (okR (lp (fun τ1 R1 d e M => okF c0 (okF c1 (okF c2 (okF c3 (okT c (okR ⟨rfl, N, R1⟩)))))))))))))) (fun c4 => ?_)
  refine okI (fun c => okJ (x_r (hI 0) (okJ (x_h (by decide) (okY (x_cb X (by decide) hF (okR (lp (fun τ1 R1 d e M => okF c0 (okF c1 (okF c2 (okF c3 (okF c4 (okT c (okJ (m_k (okY (m_cb M hv.1 hF (okR ⟨rfl, N, R1⟩))))))))))))))))))) (fun c5 => ?_)
  refine okI (fun c => okJ (x_r (hI 0) (okJ (x_h (by decide) (okY (x_snk X (by decide) hF (okR (lp (fun τ1 R1 d e M => okF c0 (okF c1 (okF c2 (okF c3 (okF c4 (okF c5 (okT c (okR ⟨rfl, N, R1⟩)))))))))))))))) (fun c6 => ?_)
  exact okR (lp (fun τ1 R1 d e M => okF c0 (okF c1 (okF c2 (okF c3 (okF c4 (okF c5 (okF c6 (okR ⟨rfl, N, R1⟩)))))))))
theorem q_idle (a : Int32) (R : Rl N σ τ) (hF : 100 ≤ F) : Ag (f_X_idle F σ 0 a) (f_M_idle F τ 0 a) := by
  have X := R.x
  have hv := R.1.2.1
  have hG := X.G
  have hPP := X.P
  unfold Ag f_X_idle f_M_idle
  rcases px a (n := 6) (by decide) with ⟨pl, hpl, rfl⟩ | ho
  · refine okY (x_isb1 (n := 6) hpl (by decide) (okF i1n (okJ (x_r (hI 0) (okJ (x_h (by decide) (okY (x_idl X (by decide) hF (okR ?_)))))))))
    refine m_t R (fun τ1 R1 => ?_)
    obtain ⟨d, e, M⟩ := R1.m
    refine okY (m_isW1 hpl (okF i1n ?_))
    refine lpA (A := Int32) (L := fun n u b i => f_M_idle_L18 F (some 0) (nI pl) _ n u b i) (sG N) (fun i u b => u = τ1 ∧ b = it (fun i s => if sg N i 3 = nI pl then (if sOwn N i = true then s else s + 1) else s) 0 i) (fun n u b hQ => ?_) (fun n i u b hi hQ hk => ?_) (sG N) 0 F τ1 0 (by omega) (by omega) ⟨rfl, rfl⟩
    · obtain ⟨hu, hb⟩ := hQ
      subst hu
      simp only [f_M_idle_L18]
      refine okJ (m_s0 M (okT (nI_le (Nat.le_refl _) (by omega)) (okR ⟨?_, N, R1⟩)))
      rw [hb]
      rfl
    · obtain ⟨hu, hb⟩ := hQ
      subst hu
      simp only [f_M_idle_L18]
      refine okJ (m_s0 M (okF (nI_ge hi (by omega)) (okJ (m_r 4 (okJ (m_gA (k := 3) M hi (by decide) (okJ ?_)))))))
      have inn : ∀ w : Bool, w = decide (sg N i 3 = nI pl) → OkO (f_M_idle_L46 F (some 0) (nI pl) b (nI i) (fun u19 x20 => ob ((if x20 = 0 then some (0 : Int32) else some (1 : Int32)) : Option Int32) fun q21 => ob (some (b + q21)) fun x23 => ob (some (nI i + 1)) fun x24 => f_M_idle_L18 F (some 0) (nI pl) (fun u25 x26 => some (x26, u25)) n u19 x23 x24) F u (if w = true then 1 else 0) 0) (fun q => (sIdl N (nI pl), σ).1 = q.1 ∧ Rel (sIdl N (nI pl), σ).2 q.2) := by
        intro w hw
        refine lpA (A := Bool) (L := fun n u c i2 => f_M_idle_L46 F (some 0) (nI pl) b (nI i) _ n u (if c = true then 1 else 0) i2) (sP N) (fun i2 u2 c => u2 = u ∧ c = (w && !(bEx (fun p => decide (sp N p 6 = nI i)) i2))) (fun n2 u2 c hQ => ?_) (fun n2 i2 u2 c hi2 hQ hk2 => ?_) (sP N) 0 F u w (by omega) (by omega) ⟨rfl, by cases w <;> rfl⟩
        · obtain ⟨hu2, hc⟩ := hQ
          subst hu2
          simp only [f_M_idle_L46]
          refine okJ (m_s1 M (okT (nI_le (Nat.le_refl _) (by omega)) (okJ ?_)))
          have fin : ∀ q : Int32, b + q = (if sg N i 3 = nI pl then (if sOwn N i = true then b else b + 1) else b) → OkO (ob (some (b + q)) fun x23 => ob (some (nI i + 1)) fun x24 => f_M_idle_L18 F (some 0) (nI pl) (fun u25 x26 => some (x26, u25)) n u2 x23 x24) (fun q => (sIdl N (nI pl), σ).1 = q.1 ∧ Rel (sIdl N (nI pl), σ).2 q.2) := by
            intro q hq
            refine okJ (okR (okJ (okR ?_)))
            rw [nI_1]
            exact hk u2 _ ⟨rfl, by rw [it_s, ← hb]; exact hq⟩
          have e1 : bEx (fun p => decide (sp N p 6 = nI i)) (sP N) = sOwn N i := rfl
          rw [e1] at hc
          cases c with
          | true =>
            refine okF i1n (okR (fin 1 ?_))
            have h1 : w = true ∧ sOwn N i = false := by revert hc; cases w <;> cases sOwn N i <;> decide
            rw [if_pos (of_decide_eq_true (hw ▸ h1.1)), h1.2, if_neg (by decide)]
          | false =>
            refine okT rfl (okR (fin 0 ?_))
            rw [Int32.add_zero]
            by_cases c1 : sg N i 3 = nI pl
            · rw [if_pos c1]
              have h1 : sOwn N i = true := by
                rw [decide_eq_true c1] at hw
                subst hw
                revert hc; cases sOwn N i <;> decide
              rw [if_pos h1]
            · rw [if_neg c1]
        · obtain ⟨hu2, hc⟩ := hQ
          subst hu2
          simp only [f_M_idle_L46]
          refine okJ (m_s1 M (okF (nI_ge hi2 (by omega)) (okJ ?_)))
          have go : ∀ c' : Bool, c' = (w && !(bEx (fun p => decide (sp N p 6 = nI i)) (i2 + 1))) → OkO (ob (some (nI i2 + 1)) fun x18 => f_M_idle_L46 F (some 0) (nI pl) b (nI i) (fun u19 x20 => ob ((if x20 = 0 then some (0 : Int32) else some (1 : Int32)) : Option Int32) fun q21 => ob (some (b + q21)) fun x23 => ob (some (nI i + 1)) fun x24 => f_M_idle_L18 F (some 0) (nI pl) (fun u25 x26 => some (x26, u25)) n u19 x23 x24) n2 u2 (if c' = true then 1 else 0) x18) (fun q => (sIdl N (nI pl), σ).1 = q.1 ∧ Rel (sIdl N (nI pl), σ).2 q.2) := by
            intro c' hc'
            refine okJ (okR ?_)
            rw [nI_1 i2]
            exact hk2 u2 c' ⟨rfl, hc'⟩
          rw [bEx_s] at go
          cases c with
          | false =>
            refine okT rfl (okR (go false ?_))
            revert hc; cases w <;> cases bEx (fun p => decide (sp N p 6 = nI i)) i2 <;> simp
          | true =>
            refine okF i1n (okJ (m_r 14 (okJ (m_pA (k := 6) M hi2 (by decide) (okI (fun c2 => okR (go false ?_)) (fun c2 => okR (go true ?_)))))))
            · rw [decide_eq_true c2, Bool.or_true, Bool.not_true, Bool.and_false]
            · rw [decide_eq_false c2, Bool.or_false]; exact hc
      refine okI (fun c => okR (inn true (decide_eq_true c).symm)) (fun c => okR (inn false (decide_eq_false c).symm))
  · refine okY (x_isb0 (n := 6) ho (okT rfl (okR ?_)))
    refine m_t R (fun τ1 R1 => okY (m_isW0 ho (okT rfl (okR ⟨rfl, N, R1⟩))))
theorem q_oldest (a : Int32) (R : Rl N σ τ) (hF : 100 ≤ F) : Ag (f_X_oldest F σ 0 a) (f_M_oldest F τ 0 a) := by
  have X := R.x
  have hv := R.1.2.1
  have hG := X.G
  unfold Ag f_X_oldest f_M_oldest
  rcases px a (n := 6) (by decide) with ⟨pl, hpl, rfl⟩ | ho
  · refine okY (x_isb1 (n := 6) hpl (by decide) (okF i1n (okJ (x_r (hI 0) (okJ (x_h (by decide) (okY (x_old X (by decide) (lt6 hpl) hF (okR ?_)))))))))
    refine m_t R (fun τ1 R1 => ?_)
    obtain ⟨d, e, M⟩ := R1.m
    refine okY (m_isW1 hpl (okF i1n ?_))
    refine lpA (A := Option Nat) (L := fun n u b i => f_M_oldest_L19 F (some 0) (nI pl) _ n u (oI b) i) (sG N) (fun i u b => u = τ1 ∧ b = it (oldF N (nI pl)) none i) (fun n u b hQ => ?_) (fun n i u b hi hQ hk => ?_) (sG N) 0 F τ1 none (by omega) (by omega) ⟨rfl, rfl⟩
    · obtain ⟨hu, hb⟩ := hQ
      subst hu
      simp only [f_M_oldest_L19]
      refine okJ (m_s0 M (okT (nI_le (Nat.le_refl _) (by omega)) (okR ⟨?_, N, R1⟩)))
      rw [hb]
      rfl
    · obtain ⟨hu, hb⟩ := hQ
      subst hu
      have hin := oldF_in N (nI pl) i (by omega)
      rw [← hb] at hin
      have hnx : it (oldF N (nI pl)) none (i + 1) = oldF N (nI pl) i b := by rw [it_s, ← hb]
      have go : ∀ b', oldF N (nI pl) i b = b' → OkO (ob (some (nI i + 1)) fun x17 => f_M_oldest_L19 F (some 0) (nI pl) (fun u18 x19 => some (x19, u18)) n u (oI b') x17) (fun q => (oI (sOld N (nI pl)), σ).1 = q.1 ∧ Rel (oI (sOld N (nI pl)), σ).2 q.2) := fun b' hc => by
        refine okJ (okR ?_)
        rw [nI_1]
        exact hk u b' ⟨rfl, by rw [hnx, hc]⟩
      simp only [f_M_oldest_L19]
      refine okJ (m_s0 M (okF (nI_ge hi (by omega)) (okJ (m_r 4 (okJ (m_gA (k := 3) M hi (by decide) (okJ ?_)))))))
      refine okI (fun c => ?_) (fun c => okR (go b (by unfold oldF; rw [if_neg c])))
      cases b with
      | none => exact okT n4_neg (okR (go (some i) (by unfold oldF; rw [if_pos c])))
      | some b =>
        obtain ⟨hb1, hwb⟩ := hin b rfl
        refine okF (nI_pos (by omega)) (okJ (m_r 5 (okJ (m_gA (k := 4) M hi (by decide) (okJ (m_r 5 (okJ (m_gA (k := 4) M (by omega) (by decide) (okI (fun c2 => okR ?_) (fun c2 => okR ?_)))))))))) 
        · exact go (some b) (by unfold oldF; rw [if_pos c]; dsimp only; rw [if_pos c2])
        · exact go (some i) (by unfold oldF; rw [if_pos c]; dsimp only; rw [if_neg c2])
  · refine okY (x_isb0 (n := 6) ho (okT rfl (okR ?_)))
    refine m_t R (fun τ1 R1 => okY (m_isW0 ho (okT rfl (okR ⟨rfl, N, R1⟩))))
end QE
