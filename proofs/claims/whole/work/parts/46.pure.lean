/-! PURE 46: close, full, seeded -/
section QJ
variable {N S : Hs} {μ0 μ σ τ0 τ : Mm} {F g j h p n : Nat} {d e : Int32}
theorem lo_i {v : Nat} {m f : Int32} (hv : Iv N) (h : v < 6) : Iv (uC N m f (nI v)) := ⟨hv.1, hv.2.1, Or.inr ⟨v, h, rfl⟩, hv.2.2.2⟩
theorem x_flo {P : Int32 × Mm → Prop} {v : Nat} (R : Rl N σ τ) (hσ : XS 1 σ μ S) (hi : v < 6) (hn : n < 1000) (hF : 2000 ≤ F) (hk : ∀ σ' S', XS 1 σ σ' S' → P (sCl N n v, σ')) : OkO (f_X_freshIfLeftOut F μ 0 (nI v) (nI n)) P := by
  have hm := R.1.2.2.2.1
  unfold f_X_freshIfLeftOut
  refine okJ (x_r (hI 1) (okJ (x_r (hI 0) (okJ (x_h (by decide) (okY (x_bm R hσ (by omega) (fun σ1 X1 => ?_))))))))
  refine okJ (x_r (hI 1) (okJ (x_wS (uC N 0 0 (nI v)) X1 (by decide) (fun σ2 X2 => ?_) ⟨Nat.le_refl _, Nat.le_refl _⟩ rfl rfl ?_)))
  · refine okJ (x_r (hI 1) (okJ (x_h (by decide) (okY (x_pass X2 (by decide) (lo_i R.1.2.1.1 hi) hn hF (by show sM N < _; omega) (fun σ3 X3 => ?_))))))
    exact okJ (x_r (hI 1) (okJ (x_s7 X3 (by decide) (okR (hk σ3 _ X3)))))
  · exact ⟨fun z => absurd z (by decide), fun _ => rfl, fun z => absurd z (by decide), fun _ => rfl, fun z => absurd z (by decide), fun _ => rfl, fun z => absurd z (by decide), fun _ => rfl, fun z => absurd z (by decide), fun _ => rfl, fun z => absurd z (by decide), fun _ => rfl, fun _ => rfl, fun z => absurd rfl z⟩
/-- the reference's place left out -/
theorem m_lo {P : Mm → Prop} {v lo : Int32} (M : RM d e τ.1 S) (hv : v = if lo = -4 then -1 else lo) (h17 : IM 17 τ.1 N) (hk : ∀ τ', RM d e τ'.1 (uC S (sMi S) (sFr S) lo) → IM 17 τ'.1 N → FN τ τ' → P τ') : OkO (jpi YM 5 22 τ (some 0) v) P := by
  refine okE (x := (y2 τ.1 0 22 v, τ.2.1, τ.2.2)) rfl (hk _ ?_ (h17.cg (fun i => by show y2 τ.1 0 22 v 17 i = _; exact y2_i _ _ (by decide))) ⟨fun a i ha => y2_i _ _ (by omega), (by show y2 τ.1 0 22 v 0 26 = _; exact y2_k _ _ (by decide)), rfl⟩)
  obtain ⟨b0, b1, b2, b3, b20, b21, b22⟩ := M.2.1
  refine M.sc ⟨Nat.le_refl _, Nat.le_refl _⟩ rfl rfl ⟨?_, ?_, ?_, ?_, ?_, ?_, ?_⟩
  · rw [y2_k _ _ (by decide)]; exact b0
  · rw [y2_k _ _ (by decide)]; exact b1
  · rw [y2_k _ _ (by decide)]; exact b2
  · rw [y2_k _ _ (by decide)]; exact b3
  · rw [y2_k _ _ (by decide)]; exact b20
  · rw [y2_k _ _ (by decide)]; exact b21
  · rw [y2_s]; exact hv
theorem m_ag2 {β : Type} {P : β → Prop} {K : Mm → Option β} {u : Mm} (R : Rl N σ τ) (hS : RM d e u.1 S) (h17 : IM 17 u.1 N) (hf : FN τ u) (hF : 100 ≤ F) (hk : ∀ u', RM d e u'.1 (uC N (sMi S) (sFr S) (sLo S)) → IM 17 u'.1 N → FN τ u' → OkO (K u') P) : OkO (ob (jk YM 5 (some 0)) fun t => yb (f_M_again F u t) fun _ u' => K u') P :=
  okJ (m_k (okY (m_again hS h17 R.1.2.1.1.1 hF (fun u' M' I' F' => hk u' M' I' (hf.tr F')))))
def OpC (N : Hs) (τ u : Mm) : Prop := (∃ d e S, RM d e u.1 S) ∧ IM 17 u.1 N ∧ FN τ u
theorem q_close (a : Int32) (R : Rl N σ τ) (hF : 2000 ≤ F) : Ag (f_X_close F σ 0 a) (f_M_close F τ 0 a) := by
  obtain ⟨Q, hQ⟩ := R.2.1
  have X := R.x
  have hG := X.G
  have hv := R.1.2.1.1
  have hl := R.1.2.2.1
  have hm := R.1.2.2.2.1
  unfold Ag f_X_close f_M_close
  rcases px a (n := 61) (by decide) with ⟨n, hn, rfl⟩ | ho
  · have z := sAh_i (n := n) hv hl
    refine okY (x_isp1 hn (okF i1n (okJ (x_k (okY (x_ah R (XS.rf hQ) (by omega) hF (fun σ1 X1 => okJ (x_s7 X1 (by decide) ?_))))))))
    refine lpA (A := Int32 × Option Nat) (L := fun m u s i => f_X_close_L24 F (some 0) (nI n) _ m u s.1 (oI s.2) i) 6 (fun i u s => s = it (bst (sCl N n)) (sFr (sAh N n), none) i ∧ ∃ S', XS 1 σ u S') (fun m xs s0 hq => ?_) (fun m i u s hi hq hk => ?_) 6 0 F σ1 (sFr (sAh N n), none) (by omega) (by omega) ⟨rfl, _, X1⟩
    · obtain ⟨hc, S1, X1⟩ := hq
      simp only [f_X_close_L24]
      refine okT (by decide) (okR ?_)
      refine m_t R (fun τ1 R1 => okY (m_isN1 hn (okF i1n (m_ah R1 (by omega) hF (fun u1 M1 I1 F1 => okJ (m_s21 M1 ?_))))))
      rw [Int32.add_zero]
      refine lpA (A := Int32 × Option Nat) (L := fun m u s i => f_M_close_L34 F (some 0) (nI n) _ m u (oI s.2) s.1 i) 6 (fun i u s => s = it (bst (sCl N n)) (sFr (sAh N n), none) i ∧ OpC N τ1 u) (fun m u s hq => ?_) (fun m i u s hi hq hk => ?_) 6 0 F u1 (sFr (sAh N n), none) (by omega) (by omega) ⟨rfl, ⟨_, _, _, M1.1⟩, I1, F1⟩
      · obtain ⟨hc2, ⟨d1, e1, S2, M2⟩, I1, F1⟩ := hq
        simp only [f_M_close_L34]
        refine okT (by decide) (okJ (m_lo (lo := -4) M2 rfl I1 (fun u2 M3 I3 F3 => m_ag R1 M3 rfl I3 (F1.tr F3) (by omega) (fun u' M' I' Fu' => okR ⟨?_, R1.mind X1 Fu' M'.1⟩))))
        rw [hc, hc2]
      · obtain ⟨hc2, ⟨d1, e1, S2, M2⟩, I1, F1⟩ := hq
        have hin := bst_in (f := sCl N n) (c := sFr (sAh N n)) i
        rw [← hc2] at hin
        simp only [f_M_close_L34]
        refine okF (nI_ge (b := 6) hi (by decide)) (m_ag2 R1 M2 I1 F1 (by omega) (fun u2 M3 I3 F3 => okJ (m_lo (lo := nI i) M3 (if_neg (m4_n (by omega))).symm I3 (fun u3 M4 I4 F4 => okJ (m_k (okY (m_go (MS.rf M4) (show Iv (uC N (sMi S2) (sFr S2) (nI i)) from lo_i hv hi) (by omega) hF (by show sM N < _; omega) (fun u4 M5 => ?_))))))))
        have M6 : MS 0 0 u3 u4 (sPass (uC N 0 0 (nI i)) n) := M5
        have O5 : OpC N τ1 u4 := ⟨⟨_, _, _, M6.1⟩, M6.im I4, (F3.tr F4).tr M6.fn⟩
        have e21 : ∀ {P : Int32 → Prop}, P (sCl N n i) → OkO (jgi YM 5 21 u4 (some 0)) P := fun {P} hP => m_s21 M6 (by rw [Int32.add_zero]; exact hP)
        refine okJ (e21 (okJ ?_))
        refine okI (fun c1 => okR (okJ (e21 (okJ (okT c1 (okR (okJ (okR ?_)))))))) (fun c1 => okR (okJ (e21 (okJ (okF c1 (okJ (e21 (okR (okJ (okR ?_))))))))))
        · rw [nI_1]
          exact hk u4 s ⟨by rw [it_s, ← hc2]; exact (if_pos c1).symm, O5⟩
        · rw [nI_1]
          exact hk u4 (sCl N n i, some i) ⟨by rw [it_s, ← hc2]; exact (if_neg c1).symm, O5⟩
    · obtain ⟨hc, S1, X1⟩ := hq
      simp only [f_X_close_L24]
      refine okF (nI_ge (b := 6) hi (by decide)) (okJ (x_k (okY (x_flo R X1 hi (by omega) hF (fun σ' S' X' => okJ ?_)))))
      refine okI (fun c1 => okR (okJ (okR ?_))) (fun c1 => okR (okJ (okR ?_)))
      · rw [nI_1]
        exact hk σ' s ⟨by rw [it_s, ← hc]; exact (if_pos c1).symm, S', X'⟩
      · rw [nI_1]
        exact hk σ' (sCl N n i, some i) ⟨by rw [it_s, ← hc]; exact (if_neg c1).symm, S', X'⟩
  · exact okY (x_isp0 ho (okT rfl (okR (m_t R (fun τ1 R1 => okY (m_isN0 ho (okT rfl (okR ⟨rfl, N, R1⟩))))))))
theorem sEmp_sh {a b : Int32} {S : Hs} : sEmp (shc a b S) = sEmp S := rfl
theorem q_full (R : Rl N σ τ) (hF : 2000 ≤ F) : Ag (f_X_full F σ 0) (f_M_full F τ 0) := by
  obtain ⟨Q, hQ⟩ := R.2.1
  have hv := R.1.2.1.1
  have hl := R.1.2.2.1
  have hm := R.1.2.2.2.1
  have e0 : ∀ j, sEmp (sPass (bB N) j) = sEmp (sPass N j) := by
    intro j
    have : bB N = shc (0 - sMi N) (0 - sFr N) N := by rw [← shc_0, hl]; rfl
    rw [this, shc_pass, sEmp_sh]
  unfold Ag f_X_full
  have mm : ∀ r σ' S', Fst (fun j => ¬ sEmp (sPass N j) = true) 61 r → XS 1 σ σ' S' → OkO (f_M_full F τ 0) (fun q => oI r = q.1 ∧ Rel σ' q.2) := by
    intro r σ' S' hr X'
    unfold f_M_full
    refine m_t R (fun τ1 R1 => m_op R1 (by omega) (fun u0 d e M0 I0 F0 => ?_))
    have fin : ∀ (u : Mm) (r' : Option Nat) (i : Nat), MS d e u0 u (sPass N i) → r = r' → OkO (ob (jk YM 5 (some 0)) fun t => yb (f_M_again F u t) fun _ u16 => some (oI r', u16)) (fun q => oI r = q.1 ∧ Rel σ' q.2) := by
      intro u r' i M1 hrr
      have z := sPass_Iv hv i
      exact m_ag R1 M1.1 (z.2.2.2.2.trans hl) (M1.im I0) (F0.tr M1.fn) (by omega) (fun u' M' I' Fu' => okR ⟨by rw [hrr], R1.mind X' Fu' M'.1⟩)
    refine lpA (A := Option Nat) (L := fun m u r i => f_M_full_L14 F (some 0) _ m u (oI r) i) 61 (fun i u r => Fst (fun j => ¬ sEmp (sPass N j) = true) i r ∧ MS d e u0 u (sPass N i)) (fun m u r' hq => ?_) (fun m i u r' hi hq hk => ?_) 61 0 F u0 none (by omega) (by omega) ⟨fun j hj => absurd hj (Nat.not_lt_zero j), M0⟩
    · simp only [f_M_full_L14]
      exact okT (by decide) (fin u r' 61 hq.2 (hr.u hq.1))
    · simp only [f_M_full_L14]
      refine okF (nI_nlt (a := 60) (b := i) (by omega) (by decide)) ?_
      cases r' with
      | some x =>
        have hx := hq.1.1
        exact okT (nI_pos' (by omega)) (fin u (some x) i hq.2 (hr.u (hq.1.w (by omega))))
      | none =>
        obtain ⟨hno, M1⟩ := hq
        have z := sPass_Iv hv i
        have nx : ∀ r2 : Option Nat, Fst (fun j => ¬ sEmp (sPass N j) = true) (i + 1) r2 → OkO (ob (jk YM 5 (some 0)) fun t => yb (f_M_minuteOn F u t) fun _ u11 => ob (some (nI i + 1)) fun x12 => f_M_full_L14 F (some 0) (fun u13 x14 => ob (jk YM 5 (some 0)) fun t => yb (f_M_again F u13 t) fun _ u16 => some (x14, u16)) m u11 (oI r2) x12) (fun q => oI r = q.1 ∧ Rel σ' q.2) := by
          intro r2 h2
          refine okJ (m_k (okY (m_minute M1 z.1 (by omega) (by rw [z.2.2.1]; omega) (fun u2 M2 => okJ (okR ?_)))))
          rw [nI_1]
          exact hk u2 r2 ⟨h2, M2⟩
        refine okF (by decide) (okJ (m_k (okY (m_emp M1 (by omega) (fun c1 => okJ (okF i1n (okR (nx none ?_)))) (fun c1 => okJ (okT rfl (okR (nx (some i) ?_))))))))
        · intro j hj
          by_cases q : j = i
          · subst q; exact fun y => y c1
          · exact hno j (by omega)
        · exact ⟨Nat.lt_succ_self i, c1, hno⟩
  refine okJ (x_r (hI 1) (okJ (x_r (hI 0) (okJ (x_h (by decide) (okY (x_bm R (XS.rf hQ) (by omega) (fun σ1 X1 => ?_))))))))
  refine lpA (A := Unit) (L := fun m u _ i => f_X_full_L13 F (some 0) _ m u i) 61 (fun i u _ => (∀ j, j < i → ¬ ¬ sEmp (sPass N j) = true) ∧ XS 1 σ u (sPass (bB N) i)) (fun m u c hq => ?_) (fun m i u c hi hq hk => ?_) 61 0 F σ1 () (by omega) (by omega) ⟨fun j hj => absurd hj (Nat.not_lt_zero j), X1⟩
  · obtain ⟨hno, X1⟩ := hq
    simp only [f_X_full_L13]
    exact okT (by decide) (okR (mm none u _ hno X1))
  · obtain ⟨hno, X1⟩ := hq
    have z := sPass_Iv (bB_i hv hl) i
    simp only [f_X_full_L13]
    refine okF (nI_nlt (a := 60) (b := i) (by omega) (by decide)) (okJ (x_r (hI 1) (okJ (x_h (by decide) (okY (x_emp X1 (by decide) (by omega) (fun c1 => ?_) (fun c1 => ?_)))))))
    · rw [e0] at c1
      refine okF i1n (okJ (x_r (hI 1) (okJ (x_h (by decide) (okY (x_pass (n := 1) X1 (by decide) z.1 (by decide) hF (by rw [z.2.2.1]; show sM N + i < _; omega) (fun σ2 X2 => okJ (okR ?_))))))))
      rw [nI_1]
      refine hk σ2 () ⟨fun j hj => ?_, X2⟩
      by_cases q : j = i
      · subst q; exact fun y => y c1
      · exact hno j (by omega)
    · rw [e0] at c1
      exact okT rfl (okR (mm (some i) u _ ⟨hi, c1, hno⟩ X1))
end QJ
