/-! PURE 47: seeded, image, restore -/
noncomputable def seF (s : Int32 × Hs) : Int32 × Hs := ((sSc s.1 s.2).1, sMin (sSc s.1 s.2).2)
noncomputable def seN (N : Hs) (z : Int32) (k : Nat) : Int32 × Hs := it (fun _ s => seF s) (z, bB N) k
theorem RM.o {d e v : Int32} {k : Nat} {t : Nat → Nat → Int32} {S : Hs} (M : RM d e t S) (hk : 23 ≤ k) : RM d e (y2 t 0 k v) S := by
  obtain ⟨b0, b1, b2, b3, b20, b21, b22⟩ := M.2.1
  refine M.sc ⟨Nat.le_refl _, Nat.le_refl _⟩ rfl rfl ⟨?_, ?_, ?_, ?_, ?_, ?_, ?_⟩
  · rw [y2_k _ _ (by omega)]; exact b0
  · rw [y2_k _ _ (by omega)]; exact b1
  · rw [y2_k _ _ (by omega)]; exact b2
  · rw [y2_k _ _ (by omega)]; exact b3
  · rw [y2_k _ _ (by omega)]; exact b20
  · rw [y2_k _ _ (by omega)]; exact b21
  · rw [y2_k _ _ (by omega)]; exact b22
section QK
variable {N S : Hs} {μ0 μ σ τ0 τ u : Mm} {F g j h p n k : Nat} {d e z : Int32}
theorem m_zero {β : Type} {P : β → Prop} {K : Mm → Option β} (R : MS d e τ0 τ S) (hk : ∀ τ', MS 0 0 τ0 τ' (uC S 0 0 (sLo S)) → OkO (K τ') P) : OkO (ob (jpi YM 5 20 τ (some 0) 0) fun u1 => ob (jpi YM 5 21 u1 (some 0) 0) K) P := by
  have sc := R.1.2.1
  refine okJ (m_wS (d' := 0) (e' := e) (uC S 0 (sFr S) (sLo S)) R (fun τ1 R1 => ?_) (Or.inr (Or.inl rfl)) ⟨Nat.le_refl _, Nat.le_refl _⟩ rfl rfl ⟨?_, ?_, ?_, ?_, ?_, ?_, ?_⟩)
  · have sc1 := R1.1.2.1
    refine okJ (m_wS (d' := 0) (e' := 0) (uC S 0 0 (sLo S)) R1 (fun τ2 R2 => hk τ2 R2) (Or.inr (Or.inr rfl)) ⟨Nat.le_refl _, Nat.le_refl _⟩ rfl rfl ⟨?_, ?_, ?_, ?_, ?_, ?_, ?_⟩)
    · rw [y2_k _ _ (by decide)]; exact sc1.1
    · rw [y2_k _ _ (by decide)]; exact sc1.2.1
    · rw [y2_k _ _ (by decide)]; exact sc1.2.2.1
    · rw [y2_k _ _ (by decide)]; exact sc1.2.2.2.1
    · rw [y2_k _ _ (by decide)]; exact sc1.2.2.2.2.1
    · rw [y2_s]; rfl
    · rw [y2_k _ _ (by decide)]; exact sc1.2.2.2.2.2.2
  · rw [y2_k _ _ (by decide)]; exact sc.1
  · rw [y2_k _ _ (by decide)]; exact sc.2.1
  · rw [y2_k _ _ (by decide)]; exact sc.2.2.1
  · rw [y2_k _ _ (by decide)]; exact sc.2.2.2.1
  · rw [y2_s]; rfl
  · rw [y2_k _ _ (by decide)]; exact sc.2.2.2.2.2.1
  · rw [y2_k _ _ (by decide)]; exact sc.2.2.2.2.2.2
theorem sSc_i {S : Hs} {z : Int32} (hv : Iv S) : Iv (sSc z S).2 ∧ Sz S (sSc z S).2 := sSc_in hv (sP S) (Nat.le_refl _)
theorem seN_i (hv : Iv N) (hl : sLo N = -4) : ∀ k, Iv (seN N z k).2 ∧ sP (seN N z k).2 = sP N ∧ sM (seN N z k).2 = sM N + k ∧ sLo (seN N z k).2 = -4 := by
  intro k
  induction k with
  | zero => exact ⟨bB_i hv hl, rfl, rfl, rfl⟩
  | succ k ih =>
    have e : seN N z (k + 1) = seF (seN N z k) := rfl
    rw [e]
    generalize seN N z k = T at ih
    obtain ⟨a, b, c, f⟩ := ih
    obtain ⟨s1, s2⟩ := sSc_i (z := T.1) a
    have s3 := sMin_Sz s1
    refine ⟨sMin_Iv s1, s3.1.trans (s2.1.trans b), ?_, s3.2.2.2.trans (s2.2.2.2.trans f)⟩
    show sM (sMin (sSc T.1 T.2).2) = _
    rw [s3.2.1, s2.2.1, c]
    rfl
def Sed (N : Hs) (τ u : Mm) (z : Int32) (S : Hs) : Prop := RM 0 0 u.1 S ∧ IM 17 u.1 N ∧ FN τ u ∧ u.1 0 38 = z
theorem m_draw {P : Int32 × Mm → Prop} (h4 : u.1 0 38 = z) (h : P (drw (nz z), (y2 u.1 0 38 (nz z), u.2.1, u.2.2))) : OkO (f_M_draw F u 0 6) P := by
  unfold f_M_draw
  have e1 : jgi YM 5 38 u (some 0) = some z := by show some (u.1 0 38) = _; rw [h4]
  rw [e1, ob_s]
  refine okJ (okR (x := (y2 u.1 0 38 (nz z), u.2.1, u.2.2)) ?_)
  refine okJ (okE (x := nz z) (by show some (y2 u.1 0 38 (nz z) 0 38) = _; rw [y2_s]) ?_)
  exact okJ (okdv (by decide) (okJ (okrm (by decide) (okR h))))
theorem m_draws {P : Int32 × Mm → Prop} {kk : Mm → Option (Int32 × Mm)} {a1 a3 a4 : Int32} (H : Sed N τ u z S) (hv : Iv S) (hF : 100 ≤ F) (hk : ∀ u', Sed N τ u' (sSc z S).1 (sSc z S).2 → OkO (kk u') P) : OkO (f_M_seeded_L70 F (some 0) a1 a3 a4 kk F u 0) P := by
  have hP := hv.1.2
  refine lpA (A := Unit) (L := fun m u _ j => f_M_seeded_L70 F (some 0) a1 a3 a4 _ m u j) (sP S) (fun j u _ => Sed N τ u (it scF (z, S) j).1 (it scF (z, S) j).2) (fun m u a hQ => ?_) (fun m j u a hj hQ hk2 => ?_) (sP S) 0 F u () (by omega) (by omega) H
  · have hz := (sSc_in (z := z) hv (sP S) (Nat.le_refl _)).2
    simp only [f_M_seeded_L70]
    refine okJ (m_s1 (MS.rf hQ.1) ?_)
    rw [hz.1]
    exact okT (nI_le (Nat.le_refl _) (by omega)) (hk u hQ)
  · have hz := (sSc_in (z := z) hv j (by omega)).2
    simp only [f_M_seeded_L70]
    rw [it_s] at hk2
    generalize it scF (z, S) j = T at hQ hz hk2
    obtain ⟨h1, h2, h3, h4⟩ := hQ
    refine okJ (m_s1 (MS.rf h1) ?_)
    rw [hz.1]
    refine okF (nI_ge hj (by omega)) (okJ (m_r 12 (okJ (m_k (okY (m_draw h4 ?_))))))
    have h1' : RM 0 0 (y2 u.1 0 38 (nz T.1)) T.2 := h1.o (by decide)
    refine okJ (m_wP (k := 4) (MS.rf (τ := (y2 u.1 0 38 (nz T.1), u.2.1, u.2.2)) h1') (by omega) (by decide) (fun u' M' => okJ (okR ?_)))
    rw [nI_1]
    refine hk2 u' () ⟨M'.1, ?_, ?_, ?_⟩
    · exact M'.im (h2.cg (fun i => by show y2 u.1 0 38 (nz T.1) 17 i = _; exact y2_i _ _ (by decide)))
    · exact h3.tr (FN.tr (τ1 := (y2 u.1 0 38 (nz T.1), u.2.1, u.2.2)) ⟨fun a i ha => y2_i _ _ (by omega), (by show y2 u.1 0 38 (nz T.1) 0 26 = _; exact y2_k _ _ (by decide)), rfl⟩ M'.fn)
    · rw [M'.2.1.2 38 (by decide) (by decide) (by decide)]
      show y2 u.1 0 38 (nz T.1) 0 38 = nz T.1
      rw [y2_s]
theorem q_seeded (a b c : Int32) (R : Rl N σ τ) (hF : 2000 ≤ F) : Ag (f_X_seeded F σ 0 a b c) (f_M_seeded F τ 0 a b c) := by
  obtain ⟨Q, hQ⟩ := R.2.1
  have X := R.x
  have hP := X.P
  have hv := R.1.2.1.1
  have hl := R.1.2.2.1
  have hm := R.1.2.2.2.1
  unfold Ag f_X_seeded
  have no : (a < 1 ∨ 30 < a) → OkO (f_M_seeded F τ 0 a b c) (fun q => (-1 : Int32) = q.1 ∧ Rel σ q.2) := by
    intro h
    unfold f_M_seeded
    exact m_t R (fun τ1 R1 => okY (m_in0 (lo := 1) (hi := 30) h (okT rfl (okR ⟨rfl, N, R1⟩))))
  refine okI (fun c1 => okR (no (Or.inl c1))) (fun c1 => okI (fun c2 => okR (no (Or.inr c2))) (fun c2 => ?_))
  obtain ⟨n, hn, rfl⟩ := nI_of2 (n := 30) (M := 30) rfl (fun z => c1 (xlt z (by decide))) (xnlt.mp c2)
  have c1' := xnlt.mp c1
  have c2' := xnlt.mp c2
  rcases px c (n := 2) (by decide) with ⟨w, hw, rfl⟩ | hc
  · refine okY (x_isb1 (n := 2) hw (by decide) (okF i1n (okJ (x_r (hI 0) (okJ (x_s3 X (by decide) ?_))))))
    rcases Nat.eq_zero_or_pos (sP N) with zp | zp
    · rw [zp]
      refine okT rfl (okR ?_)
      unfold f_M_seeded
      refine m_t R (fun τ1 R1 => okY (m_in1 (lo := 1) (hi := 30) c1' c2' (okF i1n (okY (m_n1 (n := 2) hw (by decide) rfl (okF i1n ?_))))))
      obtain ⟨d, e, M⟩ := R1.m
      refine okJ (m_s1 M ?_)
      rw [zp]
      exact okT rfl (okR ⟨rfl, N, R1⟩)
    · refine okF (nI_ne0 zp (by omega)) (okJ (x_r (hI 1) (okJ (x_r (hI 0) (okJ (x_h (by decide) (okY (x_bm R (XS.rf hQ) (by omega) (fun σ1 X1 => ?_)))))))))
      have mm : ∀ σ' S', XS 1 σ σ' S' → OkO (f_M_seeded F τ 0 (nI n) b (nI w)) (fun q => (if nI w = 0 then sMi (seN N b n).2 else sFr (seN N b n).2) = q.1 ∧ Rel σ' q.2) := by
        intro σ' S' X'
        unfold f_M_seeded
        refine m_t R (fun τ1 R1 => okY (m_in1 (lo := 1) (hi := 30) c1' c2' (okF i1n (okY (m_n1 (n := 2) hw (by decide) rfl (okF i1n ?_))))))
        obtain ⟨d, e, M⟩ := R1.m
        refine okJ (m_s1 M (okF (nI_ne0 zp (by omega)) (m_op R1 (by omega) (fun u0 d0 e0 M0 I0 F0 => okJ (okR (x := (y2 u0.1 0 38 b, u0.2.1, u0.2.2)) ?_)))))
        have M1 : RM d0 e0 (y2 u0.1 0 38 b) N := M0.1.o (by decide)
        refine m_zero (MS.rf (τ := (y2 u0.1 0 38 b, u0.2.1, u0.2.2)) M1) (fun u2 M2 => ?_)
        have H0 : Sed N τ1 u2 b (bB N) := by
          refine ⟨?_, ?_, ?_, ?_⟩
          · rw [hl] at M2; exact M2.1
          · exact M2.im (I0.cg (fun i => by show y2 u0.1 0 38 b 17 i = _; exact y2_i _ _ (by decide)))
          · exact F0.tr (FN.tr (τ1 := (y2 u0.1 0 38 b, u0.2.1, u0.2.2)) ⟨fun a i ha => y2_i _ _ (by omega), (by show y2 u0.1 0 38 b 0 26 = _; exact y2_k _ _ (by decide)), rfl⟩ M2.fn)
          · rw [M2.2.1.2 38 (by decide) (by decide) (by decide)]
            show y2 u0.1 0 38 b 0 38 = b
            rw [y2_s]
        refine lpA (A := Unit) (L := fun m u _ j => f_M_seeded_L61 F (some 0) (nI n) (nI w) _ m u j) n (fun j u _ => Sed N τ1 u (seN N b j).1 (seN N b j).2) (fun m u a hq => ?_) (fun m j u a hj hq hk => ?_) n 0 F u2 () (by omega) (by omega) H0
        · obtain ⟨h1, h2, h3, h4⟩ := hq
          have z := seN_i (z := b) hv hl n
          simp only [f_M_seeded_L61]
          refine okT (nI_le (Nat.le_refl _) (by omega)) (m_ag R1 h1 z.2.2.2 h2 h3 (by omega) (fun u' M' I' Fu' => ?_))
          refine okI (fun c3 => okJ (m_s20 M' (okR ⟨?_, R1.mind X' Fu' M'.1⟩))) (fun c3 => okJ (m_s21 M' (okR ⟨?_, R1.mind X' Fu' M'.1⟩)))
          · rw [if_pos c3]; exact (Int32.add_zero _).symm
          · rw [if_neg c3]; exact (Int32.add_zero _).symm
        · have z := seN_i (z := b) hv hl j
          have e1 : seN N b (j + 1) = seF (seN N b j) := rfl
          rw [e1] at hk
          generalize seN N b j = T at z hq hk
          simp only [f_M_seeded_L61]
          refine okF (nI_ge hj (by omega)) (m_draws hq z.1 (by omega) (fun u3 H3 => ?_))
          obtain ⟨h1, h2, h3, h4⟩ := H3
          obtain ⟨s1, s2⟩ := sSc_i (z := T.1) z.1
          refine okJ (m_k (okY (m_minute (MS.rf h1) s1 (by omega) (by rw [s2.2.1, z.2.2.1]; omega) (fun u4 M4 => okJ (okR ?_)))))
          rw [nI_1]
          refine hk u4 () ⟨M4.1, M4.im h2, h3.tr M4.fn, ?_⟩
          rw [M4.2.1.2 38 (by decide) (by decide) (by decide)]
          exact h4
      refine lpA (A := Int32) (L := fun m u s j => f_X_seeded_L51 F (some 0) (nI n) (nI w) _ m u s j) n (fun j u s => s = (seN N b j).1 ∧ XS 1 σ u (seN N b j).2) (fun m u s hq => ?_) (fun m j u s hj hq hk => ?_) n 0 F σ1 b (by omega) (by omega) ⟨rfl, X1⟩
      · obtain ⟨-, X2⟩ := hq
        simp only [f_X_seeded_L51]
        refine okT (nI_le (Nat.le_refl _) (by omega)) (okI (fun c3 => okJ (x_r (hI 1) (okJ (x_s6 X2 (by decide) (okR ?_))))) (fun c3 => okJ (x_r (hI 1) (okJ (x_s7 X2 (by decide) (okR ?_))))))
        · have := mm u _ X2
          rw [if_pos c3] at this
          exact this
        · have := mm u _ X2
          rw [if_neg c3] at this
          exact this
      · have z := seN_i (z := b) hv hl j
        have e1 : seN N b (j + 1) = seF (seN N b j) := rfl
        rw [e1] at hk
        generalize seN N b j = T at z hq hk
        obtain ⟨h1, X2⟩ := hq
        subst h1
        obtain ⟨s1, s2⟩ := sSc_i (z := T.1) z.1
        simp only [f_X_seeded_L51]
        refine okF (nI_ge hj (by omega)) (okJ (x_r (hI 1) (okJ (x_h (by decide) (okY (x_sc X2 (by decide) z.1 (by omega) (fun u3 X3 => okJ (x_r (hI 1) (okJ (x_h (by decide) (okY (x_pass (n := 1) X3 (by decide) s1 (by decide) hF (by rw [s2.2.1, z.2.2.1]; omega) (fun u4 X4 => okJ (okR ?_))))))))))))))
        rw [nI_1]
        exact hk u4 _ ⟨rfl, X4⟩
  · refine okY (x_isb0 (n := 2) hc (okT rfl (okR ?_)))
    unfold f_M_seeded
    exact m_t R (fun τ1 R1 => okY (m_in1 (lo := 1) (hi := 30) c1' c2' (okF i1n (okY (m_n0 (n := 2) hc (by decide) rfl (okT rfl (okR ⟨rfl, N, R1⟩)))))))
end QK
