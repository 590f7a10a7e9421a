/-! PURE 53: judge -/
def lstV (s : Nat) : Int32 := if s = 0 then -128 else if s = 1 then -32768 else -2147483648
section QR
variable {N S : Hs} {μ0 μ σ σ' τ0 τ τ' u : Mm} {F g j h p n k d i s : Nat} {z : Int32}
theorem x_lst {P : Int32 × Mm → Prop} (hd : d < 8) (hs : s < 3) (es : σ.1 (65 + 2 * d) 3 = nI s) (h : P (lstV s, σ)) : OkO (f_S_leastNumber F σ (65 + 2 * d)) P := by
  unfold f_S_leastNumber
  refine okJ (x_sg 3 hd ?_)
  rw [es]
  rcases o3 hs with rfl | rfl | rfl
  · exact okT rfl (okR h)
  · exact okF (by decide) (okT rfl (okR h))
  · exact okF (by decide) (okF (by decide) (okR h))
theorem m_lst {P : Int64 × Mm → Prop} (hd : d < 8) (hs : s < 3) (es : τ.1 25 d = nI s) (h : P ((lstV s).toInt64, τ)) : OkO (f_M_skippedIn F τ 0 (nI d)) P := by
  unfold f_M_skippedIn
  refine okJ (m_r 25 (okJ (m_a 25 (by decide) (by decide) hd ?_)))
  rw [es]
  rcases o3 hs with rfl | rfl | rfl
  · exact okT rfl (okR h)
  · refine okF (by decide) (okJ (m_r 25 (okJ (m_a 25 (by decide) (by decide) hd ?_))))
    rw [es]
    exact okT rfl (okR h)
  · refine okF (by decide) (okJ (m_r 25 (okJ (m_a 25 (by decide) (by decide) hd ?_))))
    rw [es]
    exact okF (by decide) (okR h)
theorem x_ela {P : Int32 × Mm → Prop} (hd : d < 8) (hi : i < 100) (h : P (σ.1 (66 + 2 * d) i, σ)) : OkO (f_S_elementAt F σ (65 + 2 * d) (nI i)) P := by
  unfold f_S_elementAt
  exact okF (nI_pos (by omega)) (okJ (x_se hd (okJ (x_eln hd (okF (nI_ge hi (by decide)) (okJ (x_se hd (okJ (x_el hd hi (okR h))))))))))
theorem l_eq {a b : Int32} : lg_cmp a.toInt64 b.toInt64 = 0 ↔ a = b := by
  rw [lg_cmp_eq]
  constructor
  · intro h
    have h2 := congrArg Int64.toInt h
    rw [Int32.toInt_toInt64, Int32.toInt_toInt64] at h2
    exact Int32.toInt_inj.mp h2
  · intro h
    rw [h]
theorem q_judge (a b : Int32) (R : Rl N σ τ) (hF : 2000 ≤ F) : Ag (f_X_judge F σ 0 a b) (f_M_judge F τ 0 a b) := by
  obtain ⟨Q, hQ⟩ := R.2.1
  have X := R.x
  have hG := X.G
  have hv := R.1.2.1.1
  have hl := R.1.2.2.1
  have hm := R.1.2.2.2.1
  unfold Ag f_X_judge
  have no1 : Out a (sG N) → OkO (f_M_judge F τ 0 a b) (fun q => (-1 : Int32) = q.1 ∧ Rel σ q.2) := by
    intro ha
    unfold f_M_judge
    refine m_t R (fun τ1 R1 => okJ (m_k ?_))
    obtain ⟨dd, e, M⟩ := R1.m
    exact okY (m_isG0 M.1 ha (okJ (okT rfl (okR (okF (show ¬ (0 : Int32) ≤ -1 by decide) (okR ⟨rfl, N, R1⟩))))))
  rcases px b (n := 8) (by decide) with ⟨d, hd, rfl⟩ | ho
  · refine okJ (x_k (okY (x_sh1 hd (okJ (x_r (hI 0) (okJ (x_h (by decide) ?_)))))))
    rcases px a (n := sG N) (by omega) with ⟨g, hg, rfl⟩ | ha
    · refine okY (x_glassAt X (by decide) hg (okF sI_none (okF sI_none (okJ (x_sg 0 hd ?_)))))
      refine okI (fun c0 => ?_) (fun c0 => ?_)
      · obtain ⟨-, ⟨s, hs, es⟩, -, ⟨n, hn, en⟩, -, -⟩ := (R.2.2.2 d hd).2.2 c0
        have hn0 : n ≤ 100 := by omega
        have mm : ∀ r σ' S', Fst (fun j => ¬ σ.1 (66 + 2 * d) j = lstV s ∧ ¬ σ.1 (66 + 2 * d) j = sg (sPass N j) g 3) n r → XS 1 σ σ' S' → OkO (f_M_judge F τ 0 (nI g) (nI d)) (fun q => oI r = q.1 ∧ Rel σ' q.2) := by
          intro r σ' S' hr X'
          unfold f_M_judge
          refine m_t R (fun τ1 R1 => okJ (m_k ?_))
          obtain ⟨dd, e, M⟩ := R1.m
          obtain ⟨⟨s1, -⟩, -, s2⟩ := R1.2.2.2 d hd
          obtain ⟨k1, -, f1, -, g1, -⟩ := s2 c0
          have e1 : wrV (τ1.1 22 d) = 0 := by rw [← s1, show σ.1 (65 + 2 * d) 0 = 2 from c0]; rfl
          refine okY (m_isG1 M.1 hg (okJ (okF i1n (okJ (m_k (okY (m_wr1 hd (okR ?_))))))))
          rw [e1]
          refine okT (show (0 : Int32) ≤ 0 by decide) (m_op R1 (by omega) (fun u0 dd e M0 I0 F0 => ?_))
          have fin : ∀ (u : Mm) (r' : Option Nat) (i : Nat), MS dd e u0 u (sPass N i) → r = r' → OkO (ob (jk YM 5 (some 0)) fun t => yb (f_M_again F u t) fun _ u16 => some (oI r', u16)) (fun q => oI r = q.1 ∧ Rel σ' q.2) := by
            intro u r' i M1 hrr
            have z := sPass_Iv hv i
            exact m_ag R1 M1.1 (z.2.2.2.2.trans hl) (M1.im I0) (F0.tr M1.fn) (by omega) (fun u' M' I' Fu' => okR ⟨by rw [hrr], R1.mind X' Fu' M'.1⟩)
          refine lpA (A := Option Nat) (L := fun m u r i => f_M_judge_L40 F (some 0) (nI g) (nI d) _ m u (oI r) i) n (fun i u r => Fst (fun j => ¬ σ.1 (66 + 2 * d) j = lstV s ∧ ¬ σ.1 (66 + 2 * d) j = sg (sPass N j) g 3) i r ∧ MS dd e u0 u (sPass N i)) (fun m u r' hq => ?_) (fun m i u r' hi hq hk => ?_) n 0 F u0 none (by omega) (by omega) ⟨fun j hj => absurd hj (Nat.not_lt_zero j), M0⟩
          · obtain ⟨hq1, M1⟩ := hq
            have e26 : u.1 26 d = nI n := by rw [M1.2.1.1 26 d (by decide), F0.1 26 d (by decide), ← f1, en]
            simp only [f_M_judge_L40]
            refine okJ (m_r 26 (okJ (m_a 26 (by decide) (by decide) hd ?_)))
            rw [e26]
            exact okT (nI_le (Nat.le_refl _) (by omega)) (fin u r' n M1 (hr.u hq1))
          · obtain ⟨hq1, M1⟩ := hq
            have z := sPass_Iv hv i
            have e26 : u.1 26 d = nI n := by rw [M1.2.1.1 26 d (by decide), F0.1 26 d (by decide), ← f1, en]
            have e25 : u.1 25 d = nI s := by rw [M1.2.1.1 25 d (by decide), F0.1 25 d (by decide), ← k1, es]
            have e27 : u.2.1 27 (100 * d + i) = (σ.1 (66 + 2 * d) i).toInt64 := by rw [M1.2.2, F0.2.2, g1 i (by omega)]
            simp only [f_M_judge_L40]
            refine okJ (m_r 26 (okJ (m_a 26 (by decide) (by decide) hd ?_)))
            rw [e26]
            refine okF (nI_ge hi (by omega)) ?_
            cases r' with
            | some x =>
              have hx := hq1.1
              exact okT (nI_pos' (by omega)) (fin u (some x) i M1 (hr.u (hq1.w (by omega))))
            | none =>
              have nx : ∀ r2 : Option Nat, Fst (fun j => ¬ σ.1 (66 + 2 * d) j = lstV s ∧ ¬ σ.1 (66 + 2 * d) j = sg (sPass N j) g 3) (i + 1) r2 → OkO (ob (jk YM 5 (some 0)) fun t => yb (f_M_minuteOn F u t) fun _ u25 => ob (some (nI i + 1)) fun x26 => f_M_judge_L40 F (some 0) (nI g) (nI d) (fun u27 x28 => ob (jk YM 5 (some 0)) fun t => yb (f_M_again F u27 t) fun _ u30 => some (x28, u30)) m u25 (oI r2) x26) (fun q => oI r = q.1 ∧ Rel σ' q.2) := by
                intro r2 h2
                refine okJ (m_k (okY (m_minute M1 z.1 (by omega) (by rw [z.2.2.1]; omega) (fun u2 M2 => okJ (okR ?_)))))
                rw [nI_1]
                exact hk u2 r2 ⟨h2, M2⟩
              have nn : ¬ (¬ σ.1 (66 + 2 * d) i = lstV s ∧ ¬ σ.1 (66 + 2 * d) i = sg (sPass N i) g 3) → Fst (fun j => ¬ σ.1 (66 + 2 * d) j = lstV s ∧ ¬ σ.1 (66 + 2 * d) j = sg (sPass N j) g 3) (i + 1) none := by
                intro c j hj
                by_cases q : j = i
                · subst q; exact c
                · exact hq1 j (by omega)
              refine okF (show ¬ (0 : Int32) ≤ -4 by decide) (okJ (m_r 27 (okJ ?_)))
              rw [m_ix]
              refine m_ll 27 800 (Or.inl rfl) rfl (by decide) (by omega) ?_
              rw [e27]
              refine okJ (m_k (okY (m_lst hd (s := s) hs e25 (okJ (okI (fun c1 => okR (nx none (nn (fun y => y.1 (l_eq.mp c1))))) (fun c1 => okJ (m_r 4 (okJ (m_gA (k := 3) M1 (by omega) (by decide) (okI (fun c2 => okR (nx none (nn (fun y => y.2 (l_eq.mp c2))))) (fun c2 => okR (nx (some i) ⟨Nat.lt_succ_self i, ⟨fun y => c1 (l_eq.mpr y), fun y => c2 (l_eq.mpr y)⟩, hq1⟩))))))))))))
        have e0 : ∀ j, sg (sPass (bB N) j) g 3 = sg (sPass N j) g 3 := by
          intro j
          have : bB N = shc (0 - sMi N) (0 - sFr N) N := by rw [← shc_0, hl]; rfl
          rw [this, shc_pass]
          rfl
        refine okJ (x_r (hI 1) (okJ (x_r (hI 0) (okJ (x_h (by decide) (okY (x_bm R (XS.rf hQ) (by omega) (fun σ1 X1 => okJ (x_r (hI 1) (okJ (x_h (by decide) (okY (x_glassAt X1 (by decide) hg ?_)))))))))))))
        refine lpA (A := Unit) (L := fun m u _ i => f_X_judge_L60 F (some 0) (some (65 + 2 * d)) (some (gI 1 g)) _ m u i) n (fun i u _ => (∀ j, j < i → ¬ (¬ σ.1 (66 + 2 * d) j = lstV s ∧ ¬ σ.1 (66 + 2 * d) j = sg (sPass N j) g 3)) ∧ XS 1 σ u (sPass (bB N) i)) (fun m u c hq => ?_) (fun m i u c hi hq hk => ?_) n 0 F σ1 () (by omega) (by omega) ⟨fun j hj => absurd hj (Nat.not_lt_zero j), X1⟩
        · obtain ⟨hno, X1⟩ := hq
          have e4 : u.1 (65 + 2 * d) 4 = nI n := by rw [X1.2.1 _ _ (by omega)]; exact en
          simp only [f_X_judge_L60]
          refine okJ (x_sg 4 hd ?_)
          rw [e4]
          exact okT (nI_le (Nat.le_refl _) (by omega)) (okR (mm none u _ hno X1))
        · obtain ⟨hno, X1⟩ := hq
          have z := sPass_Iv (bB_i hv hl) i
          have e4 : u.1 (65 + 2 * d) 4 = nI n := by rw [X1.2.1 _ _ (by omega)]; exact en
          have e3 : u.1 (65 + 2 * d) 3 = nI s := by rw [X1.2.1 _ _ (by omega)]; exact es
          have ee : u.1 (66 + 2 * d) i = σ.1 (66 + 2 * d) i := X1.2.1 _ _ (by omega)
          simp only [f_X_judge_L60]
          refine okJ (x_sg 4 hd ?_)
          rw [e4]
          have nx : ¬ (¬ σ.1 (66 + 2 * d) i = lstV s ∧ ¬ σ.1 (66 + 2 * d) i = sg (sPass N i) g 3) → OkO (ob (jgr YX 4 1 (some 0)) fun r25 => ob (jk YX 2 r25) fun t => yb (f_H_passMinutes F u t 1) fun _ u27 => ob (some (nI i + 1)) fun x28 => f_X_judge_L60 F (some 0) (some (65 + 2 * d)) (some (gI 1 g)) (fun u35 => some ((-4 : Int32), u35)) m u27 x28) (fun p => OkO (f_M_judge F τ 0 (nI g) (nI d)) (fun q => p.1 = q.1 ∧ Rel p.2 q.2)) := by
            intro c
            refine okJ (x_r (hI 1) (okJ (x_h (by decide) (okY (x_pass (n := 1) X1 (by decide) z.1 (by decide) hF (by rw [z.2.2.1]; show sM N + i < _; omega) (fun σ2 X2 => okJ (okR ?_)))))))
            rw [nI_1]
            refine hk σ2 () ⟨fun j hj => ?_, X2⟩
            by_cases q : j = i
            · subst q; exact c
            · exact hno j (by omega)
          refine okF (nI_ge hi (by omega)) (okF sI_none (okJ (x_sk hd (okY (x_ela hd (by omega) (okJ (x_sk hd (okY (x_lst hd (s := s) hs e3 ?_)))))))))
          rw [show ((some (65 + 2 * d), u).2) = u from rfl, ee]
          have hgz : g < sG (sPass (bB N) i) := Nat.lt_of_lt_of_le hg z.2.2.2.1
          refine okI (fun c1 => nx (fun y => y.1 c1)) (fun c1 => okJ (x_gG (k := 3) X1 (by decide) hgz (by decide) (by decide) ?_))
          rw [e0]
          exact okI (fun c2 => nx (fun y => y.2 c2)) (fun c2 => okR (mm (some i) u _ ⟨hi, ⟨c1, c2⟩, hno⟩ X1))
      · refine okJ (x_sk hd (okY (x_why hd (okR ?_))))
        unfold f_M_judge
        refine m_t R (fun τ1 R1 => okJ (m_k ?_))
        obtain ⟨dd, e, M⟩ := R1.m
        have s1 := (R1.2.2.2 d hd).1.1
        refine okY (m_isG1 M.1 hg (okJ (okF i1n (okJ (m_k (okY (m_wr1 hd (okR ?_))))))))
        rw [← s1]
        exact okF (wr_no c0).2 (okR ⟨(wr_no c0).1.symm, N, R1⟩)
    · exact okY (x_glassNo X (by decide) ha (okT rfl (okR (no1 ha))))
  · refine okJ (x_k (okY (x_sh0 ho (okJ (x_r (hI 0) (okJ (x_h (by decide) ?_)))))))
    rcases px a (n := sG N) (by omega) with ⟨g, hg, rfl⟩ | ha
    · refine okY (x_glassAt X (by decide) hg (okF sI_none (okT rfl (okR ?_))))
      unfold f_M_judge
      refine m_t R (fun τ1 R1 => okJ (m_k ?_))
      obtain ⟨dd, e, M⟩ := R1.m
      exact okY (m_isG1 M.1 hg (okJ (okF i1n (okJ (m_k (okY (m_wr0 ho (okR (okF (show ¬ (0 : Int32) ≤ -1 by decide) (okR ⟨rfl, N, R1⟩))))))))))
    · exact okY (x_glassNo X (by decide) ha (okT rfl (okR (no1 ha))))
end QR
