/-! PURE 40: clear, minutes -/
section QD
variable {N S : Hs} {μ0 μ σ τ : Mm} {F g j h p : Nat}
theorem q_clear (a b : Int32) (R : Rl N σ τ) (hF : 100 ≤ F) : Ag (f_X_clear F σ 0 a b) (f_M_clear F τ 0 a b) := by
  have X := R.x
  have hv := R.1.2.1
  have hG := X.G
  unfold Ag f_X_clear f_M_clear
  rcases px a (n := 6) (by decide) with ⟨pl, hpl, rfl⟩ | ho
  · refine okY (x_isb1 (n := 6) hpl (by decide) (okF i1n ?_))
    rcases px b (n := 100) (by decide) with ⟨m, hm, rfl⟩ | hb
    · refine okF (nI_pos (by omega)) (okT (nI_le (b := 99) (by omega) (by decide)) ?_)
      refine lpA (A := Int32) (L := fun n u b i => f_X_clear_L26 F (some 0) (nI pl) (nI m) _ n u b i) (sG N) (fun i u b => b = (it (cleF (nI pl) (nI m)) (0, N) i).1 ∧ XS 0 σ u (it (cleF (nI pl) (nI m)) (0, N) i).2) (fun n u b hQ => ?_) (fun n i u b hi hQ hk => ?_) (sG N) 0 F σ 0 (by omega) (by omega) ⟨rfl, X⟩
      · obtain ⟨hb, X'⟩ := hQ
        have K := cle_k (pl := nI pl) (m := nI m) hv (sG N) (Nat.le_refl _)
        simp only [f_X_clear_L26]
        refine okJ (x_r (hI 0) (okJ (x_s2 X' (by decide) ?_)))
        rw [K.g]
        refine okT (nI_le (Nat.le_refl _) (by omega)) (okR ?_)
        refine m_t R (fun τ1 R1 => ?_)
        obtain ⟨d, e, M⟩ := R1.m
        refine okY (m_isW1 hpl (okF i1n (okY (m_n1 (n := 100) hm (by decide) rfl (okF i1n ?_)))))
        refine lpA (A := Int32) (L := fun n u b i => f_M_clear_L31 F (some 0) (nI pl) (nI m) _ n u b i) (sG N) (fun i u b => b = (it (cleF (nI pl) (nI m)) (0, N) i).1 ∧ MS d e τ1 u (it (cleF (nI pl) (nI m)) (0, N) i).2) (fun n u b hQ => ?_) (fun n i u b hi hQ hk => ?_) (sG N) 0 F τ1 0 (by omega) (by omega) ⟨rfl, M⟩
        · obtain ⟨hb2, M'⟩ := hQ
          simp only [f_M_clear_L31]
          refine okJ (m_s0 M' ?_)
          rw [K.g]
          refine okT (nI_le (Nat.le_refl _) (by omega)) (okR ⟨by rw [hb, hb2], ?_⟩)
          exact R1.both X' M' K.2.2 (K.l.trans R.1.2.2.1) (by rw [K.m]; exact R.1.2.2.2.1)
        · obtain ⟨hb2, M'⟩ := hQ
          have K := cle_k (pl := nI pl) (m := nI m) hv i (by omega)
          rw [it_s] at hk
          generalize it (cleF (nI pl) (nI m)) (0, N) i = T at hk hb2 M' K
          have hi2 : i < sG T.2 := by rw [K.g]; exact hi
          subst hb2
          simp only [f_M_clear_L31]
          refine okJ (m_s0 M' ?_)
          rw [K.g]
          refine okF (nI_ge hi (by omega)) (okJ (m_r 4 (okJ (m_gA (k := 3) M' hi2 (by decide) (okJ ?_)))))
          refine okI (fun c => okJ (m_s3 M' (okJ (m_r 5 (okJ (m_gA (k := 4) M' hi2 (by decide) (okI (fun c2 => okR (okJ (okR ?_))) (fun c2 => okJ (m_k (okY (m_sink M' (by omega) (fun τ' M2 => okJ (okR (okR (okJ (okR ?_))))))))))))))) ) (fun c => okR (okJ (okR ?_)))
          · rw [nI_1]
            refine hk u _ ?_
            unfold cleF; rw [if_pos c, if_pos c2]; exact ⟨rfl, M'⟩
          · rw [nI_1]
            refine hk τ' _ ?_
            unfold cleF; rw [if_pos c, if_neg c2]; exact ⟨rfl, M2⟩
          · rw [nI_1]
            refine hk u _ ?_
            unfold cleF; rw [if_neg c]; exact ⟨rfl, M'⟩
      · obtain ⟨hb, X'⟩ := hQ
        have K := cle_k (pl := nI pl) (m := nI m) hv i (by omega)
        rw [it_s] at hk
        generalize it (cleF (nI pl) (nI m)) (0, N) i = T at hk hb X' K
        have hi2 : i < sG T.2 := by rw [K.g]; exact hi
        subst hb
        simp only [f_X_clear_L26]
        refine okJ (x_r (hI 0) (okJ (x_s2 X' (by decide) ?_)))
        rw [K.g]
        refine okF (nI_ge hi (by omega)) (okJ (x_r (hI 0) (okJ (x_h (by decide) (okY (x_glassAt X' (by decide) hi2 (okJ (okF sI_none (okJ (x_gG (k := 3) X' (by decide) hi2 (by decide) (by decide) ?_))))))))))
        refine okI (fun c => okJ (x_r (hI 0) (okJ (x_s5 X' (by decide) (okJ (x_gL X' (by decide) hi2 (by rw [c]; exact lt6 hpl) (okI (fun c2 => okR (okJ (okR ?_))) (fun c2 => okJ (x_g X' (by decide) hi2 (okY (x_sink X' (by decide) hi2 (fun σ' X2 => okJ (okR (okR (okJ (okR ?_)))))))))))))))) (fun c => okR (okJ (okR ?_)))
        · rw [nI_1]
          refine hk u _ ?_
          unfold cleF; rw [if_pos c, if_pos c2]; exact ⟨rfl, X'⟩
        · rw [nI_1]
          refine hk σ' _ ?_
          unfold cleF; rw [if_pos c, if_neg c2]; exact ⟨rfl, X2⟩
        · rw [nI_1]
          refine hk u _ ?_
          unfold cleF; rw [if_neg c]; exact ⟨rfl, X'⟩
    · have fin : OkO (ob (jpi YM 5 23 τ (some 0) 0) fun u1 => yb (f_M_isPlace F u1 (nI pl)) fun x2 u3 => (if x2 = 0 then some ((-1 : Int32), u3) else yb (f_M_in F u3 b.toInt64 0 99) fun x5 u6 => (if x5 = 0 then some ((-1 : Int32), u6) else f_M_clear_L31 F (some 0) (nI pl) b (fun u22 x23 => some (x23, u22)) F u6 0 0))) (fun q => (-1 : Int32) = q.1 ∧ Rel σ q.2) :=
        m_t R (fun τ1 R1 => okY (m_isW1 hpl (okF i1n (okY (m_n0 (n := 100) hb (by decide) rfl (okT rfl (okR ⟨rfl, N, R1⟩)))))))
      rcases hb with hb | hb
      · exact okT hb (okR fin)
      · exact okI (fun _ => okR fin) (fun _ => okF (fun z => absurd (xlt (b := nI 100) (c := b) (a := 99) (by decide) hb) (fun y => xnlt.mpr z y)) (okR fin))
  · refine okY (x_isb0 (n := 6) ho (okT rfl (okR ?_)))
    refine m_t R (fun τ1 R1 => okY (m_isW0 ho (okT rfl (okR ⟨rfl, N, R1⟩))))
theorem q_minutes (a : Int32) (R : Rl N σ τ) (hF : 2000 ≤ F) : Ag (f_X_minutes F σ 0 a) (f_M_minutes F τ 0 a) := by
  have X := R.x
  have hv := R.1.2.1
  have hm := R.1.2.2.2.1
  unfold Ag f_X_minutes f_M_minutes
  have no : (a < 1 ∨ 99 < a) → OkO (ob (jpi YM 5 23 τ (some 0) 0) fun u1 => yb (f_M_in F u1 a.toInt64 1 99) fun x2 u3 => (if x2 = 0 then some ((-1 : Int32), u3) else ob (jgi YM 5 3 u3 (some 0)) fun x5 => (if (x5 + a) ≤ 999 then ob (jk YM 5 (some 0)) fun t => yb (f_M_goThrough F u3 t a) fun _ u8 => ob (jgi YM 5 3 u8 (some 0)) fun x9 => some (x9, u8) else some ((-2 : Int32), u3)))) (fun q => (-1 : Int32) = q.1 ∧ Rel σ q.2) := fun hb =>
    m_t R (fun τ1 R1 => okY (m_in0 (lo := 1) (hi := 99) hb (okT rfl (okR ⟨rfl, N, R1⟩))))
  refine okI (fun c => okR (no (Or.inl c))) (fun c => okI (fun c2 => ?_) (fun c2 => okR (no (Or.inr (xnle.mp c2)))))
  obtain ⟨n, hn, rfl⟩ := nI_of2 (n := 99) (M := 99) rfl (fun z => c (xlt z (by decide))) c2
  refine okJ (x_r (hI 0) (okJ (x_s5 X (by decide) ?_)))
  rw [nI_add]
  refine okI (fun c3 => okJ (x_r (hI 0) (okJ (x_h (by decide) (okY (x_pass X (by decide) hv.1 (by omega) hF (by omega) (fun σ' X' => okJ (x_r (hI 0) (okJ (x_s5 X' (by decide) (okR ?_)))))))))) ) (fun c3 => okR ?_)
  · refine m_t R (fun τ1 R1 => okY (m_in1 (lo := 1) (hi := 99) (xnlt.mp c) c2 (okF i1n ?_)))
    obtain ⟨d, e, M⟩ := R1.m
    refine okJ (m_s3 M ?_)
    rw [nI_add]
    refine okT c3 (okJ (m_k (okY (m_go M hv.1 (by omega) hF (by omega) (fun τ' M' => ?_)))))
    rw [shc_0, shc_pass] at M'
    have M2 := M'.sh
    have z := sPass_Iv hv.1 n
    have hmn : sM N + n ≤ 999 := (nI_leI (a := sM N + n) (b := 999) (by omega) (by decide)).mp c3
    exact okJ (m_s3 M2 (okR ⟨rfl, R1.both X' M2 ⟨z.1, sPass_Lv hv.1 hv.2 n⟩ (z.2.2.2.2.trans R.1.2.2.1) (by rw [z.2.2.1]; exact hmn)⟩))
  · refine m_t R (fun τ1 R1 => okY (m_in1 (lo := 1) (hi := 99) (xnlt.mp c) c2 (okF i1n ?_)))
    obtain ⟨d, e, M⟩ := R1.m
    refine okJ (m_s3 M ?_)
    rw [nI_add]
    exact okF c3 (okR ⟨rfl, N, R1⟩)
end QD
