/-! PURE 45: particular, mark, close -/
noncomputable def sPc (N : Hs) (n j : Nat) : Int32 := sCB (sPass (sCare (bB N) (nI j)) n)
noncomputable def sMk (N : Hs) (n i : Nat) : Int32 := sMi (sPass (uG (bB N) i 0 1) n)
noncomputable def sCl (N : Hs) (n v : Nat) : Int32 := sFr (sPass (uC N 0 0 (nI v)) n)
def bst (f : Nat → Int32) (i : Nat) (s : Int32 × Option Nat) : Int32 × Option Nat := if s.1 ≤ f i then s else (f i, some i)
theorem Fst.w {p : Nat → Prop} {n m x : Nat} (h : Fst p n (some x)) (hm : n ≤ m) : Fst p m (some x) := ⟨Nat.lt_of_lt_of_le h.1 hm, h.2⟩
section QI
variable {N S : Hs} {μ0 μ σ τ0 τ : Mm} {F g j h p n : Nat} {d e : Int32}
theorem m_care {P : Int32 × Mm → Prop} {k : Mm → Option (Int32 × Mm)} {a1 a2 c : Int32} (R : MS d e τ0 τ S) (hF : 100 ≤ F) (hk : ∀ τ', MS d e τ0 τ' (sCare S c) → OkO (k τ') P) : OkO (f_M_particular_L47 F (some 0) a1 a2 c k F τ 0) P := by
  have hPP := R.P
  refine lpA (A := Unit) (L := fun m u _ j => f_M_particular_L47 F (some 0) a1 a2 c _ m u j) 6 (fun j u _ => MS d e τ0 u (S.1, S.2.1, sg S, (fun i k => if k = 3 ∧ i < j then c else sp S i k))) (fun m u a hQ => ?_) (fun m j u a hj hQ hk2 => ?_) 6 0 F τ () (by omega) (by omega) ?_
  · simp only [f_M_particular_L47]
    refine okT (by decide) (hk u ⟨hQ.1.cg rfl rfl (fun i k _ _ => rfl) (fun i k (hi : i < sP S) hk => ?_), hQ.2⟩)
    show (if k = 3 then c else sp S i k) = if k = 3 ∧ i < 6 then c else sp S i k
    by_cases z : k = 3
    · rw [if_pos z, if_pos ⟨z, by omega⟩]
    · rw [if_neg z, if_neg (fun y => z y.1)]
  · simp only [f_M_particular_L47]
    refine okF (nI_ge (b := 6) hj (by decide)) (okJ (m_r 11 (okJ (m_wP (k := 3) hQ hj (by decide) (fun τ1 R1 => okJ (okR ?_))))))
    rw [nI_1]
    refine hk2 τ1 () ⟨R1.1.cg rfl rfl (fun i k _ _ => rfl) (fun i k _ _ => ?_), R1.2⟩
    show (if k = 3 ∧ i < j + 1 then c else sp S i k) = y2 (fun i k => if k = 3 ∧ i < j then c else sp S i k) j 3 c i k
    by_cases z : k = 3 ∧ i = j
    · obtain ⟨rfl, rfl⟩ := z
      rw [y2_s, if_pos ⟨rfl, by omega⟩]
    · rw [y2_o _ _ z]
      by_cases z2 : k = 3 ∧ i < j
      · rw [if_pos z2, if_pos ⟨z2.1, by omega⟩]
      · rw [if_neg z2, if_neg (fun z3 => z2 ⟨z3.1, by omega⟩)]
  · exact ⟨R.1.cg rfl rfl (fun i k _ _ => rfl) (fun i k _ _ => by show (if k = 3 ∧ i < 0 then c else sp S i k) = sp S i k; rw [if_neg (fun z => absurd z.2 (Nat.not_lt_zero _))]), R.2⟩
theorem x_cbc {P : Int32 × Mm → Prop} {i : Nat} (R : Rl N σ τ) (hσ : XS 1 σ μ S) (hn : n < 1000) (hF : 2000 ≤ F) (hk : ∀ σ' S', XS 1 σ σ' S' → P (sPc N n i, σ')) : OkO (f_X_coldsByCare F μ 0 (nI i) (nI n)) P := by
  have hm := R.1.2.2.2.1
  unfold f_X_coldsByCare
  refine okJ (x_r (hI 1) (okJ (x_r (hI 0) (okJ (x_h (by decide) (okY (x_bm R hσ (by omega) (fun σ1 X1 => ?_))))))))
  refine okJ (x_r (hI 1) (okJ (x_h (by decide) (okY (x_care X1 (by decide) (by omega) (fun σ2 X2 => ?_))))))
  refine okJ (x_r (hI 1) (okJ (x_h (by decide) (okY (x_pass X2 (by decide) (sCare_Iv (bB_i R.1.2.1.1 R.1.2.2.1)) hn hF (by show sM N < _; omega) (fun σ3 X3 => ?_))))))
  exact okJ (x_r (hI 1) (okJ (x_h (by decide) (okY (x_cb X3 (by decide) (by omega) (okR (hk σ3 _ X3)))))))
theorem q_particular (a : Int32) (R : Rl N σ τ) (hF : 2000 ≤ F) : Ag (f_X_particular F σ 0 a) (f_M_particular F τ 0 a) := by
  obtain ⟨Q, hQ⟩ := R.2.1
  have X := R.x
  have hv := R.1.2.1.1
  have hl := R.1.2.2.1
  have hm := R.1.2.2.2.1
  unfold Ag f_X_particular
  rcases px a (n := 61) (by decide) with ⟨n, hn, rfl⟩ | ho
  · have mm : ∀ r σ' S', Fst (fun j => sPc N n j = sCB N) 10 r → XS 1 σ σ' S' → OkO (f_M_particular F τ 0 (nI n)) (fun q => oI r = q.1 ∧ Rel σ' q.2) := by
      intro r σ' S' hr X'
      unfold f_M_particular
      refine m_t R (fun τ1 R1 => okY (m_isN1 hn (okF i1n ?_)))
      obtain ⟨d, e, M⟩ := R1.m
      refine okJ (m_k (okY (m_cb M hv (by omega) (m_op R1 (by omega) (fun u0 d0 e0 M0 I0 F0 => ?_)))))
      have fin : ∀ (u : Mm) (r' : Option Nat), Opn N τ1 u → r = r' → OkO (ob (jk YM 5 (some 0)) fun t => yb (f_M_again F u t) fun _ u28 => some (oI r', u28)) (fun q => oI r = q.1 ∧ Rel σ' q.2) := by
        intro u r' ho hrr
        obtain ⟨⟨d1, e1, S2, M1, hl1, hp1⟩, I1, F1⟩ := ho
        exact m_ag R1 M1 hl1 I1 F1 (by omega) (fun u' M' I' Fu' => okR ⟨by rw [hrr], R1.mind X' Fu' M'.1⟩)
      refine lpA (A := Option Nat) (L := fun m u r i => f_M_particular_L29 F (some 0) (nI n) (sCB N) _ m u (oI r) i) 10 (fun i u r => Fst (fun j => sPc N n j = sCB N) i r ∧ Opn N τ1 u) (fun m u r' hq => ?_) (fun m i u r' hi hq hk => ?_) 10 0 F u0 none (by omega) (by omega) ⟨fun j hj => absurd hj (Nat.not_lt_zero j), ⟨d0, e0, N, M0.1, hl, rfl⟩, I0, F0⟩
      · simp only [f_M_particular_L29]
        exact okT (by decide) (fin u r' hq.2 (hr.u hq.1))
      · simp only [f_M_particular_L29]
        refine okF (nI_ge (b := 10) hi (by decide)) ?_
        cases r' with
        | some x =>
          have hx := hq.1.1
          exact okT (nI_pos' (by omega)) (fin u (some x) hq.2 (hr.u (hq.1.w (by omega))))
        | none =>
          obtain ⟨hno, ⟨d1, e1, S2, M1, hl1, hp1⟩, I1, F1⟩ := hq
          refine okF (by decide) (m_ag R1 M1 hl1 I1 F1 (by omega) (fun u2 M2 I2 F2 => ?_))
          refine m_care M2 (by omega) (fun u3 M3 => okJ (m_k (okY (m_go M3 (sCare_Iv (m4_uC hv)) (by omega) hF (by show sM N < _; omega) (fun u4 M4 => ?_)))))
          have M5 : MS 0 0 u2 u4 (sPass (sCare (bB N) (nI i)) n) := M4
          have z := sPass_Iv (S := sCare (bB N) (nI i)) (sCare_Iv (bB_i hv hl)) n
          refine okJ (m_k (okY (m_cb M5 z.1 (by omega) (okJ ?_))))
          have O5 : Opn N τ1 u4 := ⟨⟨_, _, _, M5.1, z.2.2.2.2.trans rfl, z.2.1.trans rfl⟩, M5.im I2, F2.tr M5.fn⟩
          refine okI (fun c1 => okR (okJ (okR ?_))) (fun c1 => okR (okJ (okR ?_)))
          · rw [nI_1]
            exact hk u4 (some i) ⟨⟨Nat.lt_succ_self i, c1, hno⟩, O5⟩
          · rw [nI_1]
            refine hk u4 none ⟨fun j hj => ?_, O5⟩
            by_cases q : j = i
            · subst q; exact c1
            · exact hno j (by omega)
    refine okY (x_isp1 hn (okF i1n (okJ (x_r (hI 0) (okJ (x_h (by decide) (okY (x_cb X (by decide) (by omega) ?_))))))))
    refine lpA (A := Unit) (L := fun m u _ i => f_X_particular_L19 F (some 0) (nI n) (sCB N) _ m u i) 10 (fun i u _ => (∀ j, j < i → ¬ sPc N n j = sCB N) ∧ ∃ S', XS 1 σ u S') (fun m u c hq => ?_) (fun m i u c hi hq hk => ?_) 10 0 F σ () (by omega) (by omega) ⟨fun j hj => absurd hj (Nat.not_lt_zero j), Q, XS.rf hQ⟩
    · obtain ⟨hno, S1, X1⟩ := hq
      simp only [f_X_particular_L19]
      exact okT (by decide) (okR (mm none u S1 hno X1))
    · obtain ⟨hno, S1, X1⟩ := hq
      simp only [f_X_particular_L19]
      refine okF (nI_nlt (a := 9) (b := i) (by omega) (by decide)) (okJ (x_k (okY (x_cbc R X1 (by omega) hF (fun σ' S' X' => ?_)))))
      refine okI (fun c1 => okR (mm (some i) σ' S' ⟨hi, c1, hno⟩ X')) (fun c1 => okJ (okR ?_))
      rw [nI_1]
      refine hk σ' () ⟨fun j hj => ?_, S', X'⟩
      by_cases q : j = i
      · subst q; exact c1
      · exact hno j (by omega)
  · refine okY (x_isp0 ho (okT rfl (okR ?_)))
    unfold f_M_particular
    exact m_t R (fun τ1 R1 => okY (m_isN0 ho (okT rfl (okR ⟨rfl, N, R1⟩))))
theorem bst_in {f : Nat → Int32} {c : Int32} : ∀ i, ∀ x, (it (bst f) (c, none) i).2 = some x → x < i := by
  intro i
  induction i with
  | zero => intro x hx; cases hx
  | succ i ih =>
    intro x hx
    rw [it_s] at hx
    generalize it (bst f) (c, none) i = s at hx ih
    unfold bst at hx
    by_cases q : s.1 ≤ f i
    · rw [if_pos q] at hx
      have := ih x hx
      omega
    · rw [if_neg q] at hx
      cases hx
      omega
theorem x_mim {P : Int32 × Mm → Prop} {i : Nat} (R : Rl N σ τ) (hσ : XS 1 σ μ S) (hi : i < sG N) (hn : n < 1000) (hF : 2000 ≤ F) (hk : ∀ σ' S', XS 1 σ σ' S' → P (sMk N n i, σ')) : OkO (f_X_mistakesIfMarked F μ 0 (nI i) (nI n)) P := by
  have hm := R.1.2.2.2.1
  unfold f_X_mistakesIfMarked
  refine okJ (x_r (hI 1) (okJ (x_r (hI 0) (okJ (x_h (by decide) (okY (x_bm R hσ (by omega) (fun σ1 X1 => ?_))))))))
  refine okJ (x_r (hI 1) (okJ (x_h (by decide) (okY (x_glassAt X1 (by decide) hi (okJ (okF sI_none (okJ (x_wG (k := 0) X1 (by decide) hi (by decide) (by decide) (fun σ2 X2 => okR ?_))))))))))
  have hv2 : Iv (uG (bB N) i 0 1) := Iv.g (k := 0) (bB_i R.1.2.1.1 R.1.2.2.1) (fun _ => ⟨1, by decide, rfl⟩) (fun z => absurd z (by decide)) (fun z => absurd z (by decide)) (fun z => absurd z (by decide))
  refine okJ (x_r (hI 1) (okJ (x_h (by decide) (okY (x_pass X2 (by decide) hv2 hn hF (by show sM N < _; omega) (fun σ3 X3 => ?_))))))
  exact okJ (x_r (hI 1) (okJ (x_s6 X3 (by decide) (okR (hk σ3 _ X3)))))
theorem q_mark (a : Int32) (R : Rl N σ τ) (hF : 2000 ≤ F) : Ag (f_X_mark F σ 0 a) (f_M_mark F τ 0 a) := by
  obtain ⟨Q, hQ⟩ := R.2.1
  have X := R.x
  have hG := X.G
  have hv := R.1.2.1.1
  have hl := R.1.2.2.1
  have hm := R.1.2.2.2.1
  unfold Ag f_X_mark f_M_mark
  rcases px a (n := 61) (by decide) with ⟨n, hn, rfl⟩ | ho
  · have z := sAh_i (n := n) hv hl
    refine okY (x_isp1 hn (okF i1n (okJ (x_k (okY (x_ah R (XS.rf hQ) (by omega) hF (fun σ1 X1 => okJ (x_s6 X1 (by decide) ?_))))))))
    refine lpA (A := Int32 × Option Nat) (L := fun m u s i => f_X_mark_L24 F (some 0) (nI n) _ m u s.1 (oI s.2) i) (sG N) (fun i u s => s = it (bst (sMk N n)) (sMi (sAh N n), none) i ∧ ∃ S', XS 1 σ u S') (fun m xs s0 hq => ?_) (fun m i u s hi hq hk => ?_) (sG N) 0 F σ1 (sMi (sAh N n), none) (by omega) (by omega) ⟨rfl, _, X1⟩
    · obtain ⟨hc, S1, X1⟩ := hq
      simp only [f_X_mark_L24]
      refine okJ (x_r (hI 0) (okJ (x_s2 (oth X1 R.1.1 (by decide)) (by decide) (okT (nI_le (Nat.le_refl _) (by omega)) (okR ?_)))))
      refine m_t R (fun τ1 R1 => okY (m_isN1 hn (okF i1n (m_op R1 (by omega) (fun u0 d0 e0 M0 I0 F0 => okJ (m_s0 M0 (okJ (m_k (okY (m_go M0 hv (by omega) hF (by omega) (fun u1 M1 => ?_)))))))))))
      rw [hl] at M1
      have M1' : MS 0 0 u0 u1 (sAh N n) := M1
      refine okJ (m_s20 M1' ?_)
      rw [Int32.add_zero]
      refine lpA (A := Int32 × Option Nat) (L := fun m u s i => f_M_mark_L40 F (some 0) (nI n) (nI (sG N)) _ m u (oI s.2) s.1 i) (sG N) (fun i u s => s = it (bst (sMk N n)) (sMi (sAh N n), none) i ∧ Opn N τ1 u) (fun m u s hq => ?_) (fun m i u s hi hq hk => ?_) (sG N) 0 F u1 (sMi (sAh N n), none) (by omega) (by omega) ⟨rfl, ⟨_, _, _, M1'.1, z.2.2.2.2, z.2.1⟩, M1'.im I0, F0.tr M1'.fn⟩
      · obtain ⟨hc2, ⟨d1, e1, S2, M2, hl1, hp1⟩, I1, F1⟩ := hq
        simp only [f_M_mark_L40]
        refine okT (nI_le (Nat.le_refl _) (by omega)) (m_ag R1 M2 hl1 I1 F1 (by omega) (fun u' M' I' Fu' => okR ⟨?_, R1.mind X1 Fu' M'.1⟩))
        rw [hc, hc2]
      · obtain ⟨hc2, ⟨d1, e1, S2, M2, hl1, hp1⟩, I1, F1⟩ := hq
        have hin := bst_in (f := sMk N n) (c := sMi (sAh N n)) i
        rw [← hc2] at hin
        simp only [f_M_mark_L40]
        refine okF (nI_ge hi (by omega)) (m_ag R1 M2 hl1 I1 F1 (by omega) (fun u2 M2 I2 F2 => ?_))
        have hv2 : Iv (uG (bB N) i 0 1) := Iv.g (k := 0) (bB_i hv hl) (fun _ => ⟨1, by decide, rfl⟩) (fun z => absurd z (by decide)) (fun z => absurd z (by decide)) (fun z => absurd z (by decide))
        refine okJ (m_r 1 (okJ (m_wG (k := 0) M2 (by omega) (by decide) (fun u3 M3 => okJ (m_k (okY (m_go M3 hv2 (by omega) hF (by show sM N < _; omega) (fun u4 M4 => ?_))))))))
        have M5 : MS 0 0 u2 u4 (sPass (uG (bB N) i 0 1) n) := M4
        have z5 := sPass_Iv (S := uG (bB N) i 0 1) hv2 n
        have O5 : Opn N τ1 u4 := ⟨⟨_, _, _, M5.1, z5.2.2.2.2.trans rfl, z5.2.1.trans rfl⟩, M5.im I2, F2.tr M5.fn⟩
        have e20 : ∀ {P : Int32 → Prop}, P (sMk N n i) → OkO (jgi YM 5 20 u4 (some 0)) P := fun {P} hP => m_s20 M5 (by rw [Int32.add_zero]; exact hP)
        refine okJ (e20 (okJ ?_))
        refine okI (fun c1 => okR (okJ (e20 (okJ (okT c1 (okR (okJ (okR ?_)))))))) (fun c1 => okR (okJ (e20 (okJ (okF c1 (okJ (e20 (okR (okJ (okR ?_))))))))))
        · rw [nI_1]
          exact hk u4 s ⟨by rw [it_s, ← hc2]; exact (if_pos c1).symm, O5⟩
        · rw [nI_1]
          exact hk u4 (sMk N n i, some i) ⟨by rw [it_s, ← hc2]; exact (if_neg c1).symm, O5⟩
    · obtain ⟨hc, S1, X1⟩ := hq
      simp only [f_X_mark_L24]
      refine okJ (x_r (hI 0) (okJ (x_s2 (oth X1 R.1.1 (by decide)) (by decide) (okF (nI_ge hi (by omega)) (okJ (x_k (okY (x_mim R X1 hi (by omega) hF (fun σ' S' X' => okJ ?_)))))))))
      refine okI (fun c1 => okR (okJ (okR ?_))) (fun c1 => okR (okJ (okR ?_)))
      · rw [nI_1]
        exact hk σ' s ⟨by rw [it_s, ← hc]; exact (if_pos c1).symm, S', X'⟩
      · rw [nI_1]
        exact hk σ' (sMk N n i, some i) ⟨by rw [it_s, ← hc]; exact (if_neg c1).symm, S', X'⟩
  · exact okY (x_isp0 ho (okT rfl (okR (m_t R (fun τ1 R1 => okY (m_isN0 ho (okT rfl (okR ⟨rfl, N, R1⟩))))))))
end QI
