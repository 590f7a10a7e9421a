/-! PURE 50: comes, keep, row, put -/
theorem nRow_w {g : Nat → Nat → Int32} {i : Nat} {k f l w a s e v t : Int32} : y2 (y2 (nRow g i k f l w a s e) i 3 v) i 4 t = nRow g i k f l v t s e := by
  funext x m
  by_cases q : x = i
  · subst q
    by_cases q3 : m = 3
    · subst q3; simp [y2, nRow]
    · by_cases q4 : m = 4
      · subst q4; simp [y2, nRow]
      · rw [y2_k _ _ q4, y2_k _ _ q3]
        unfold nRow
        rw [if_pos rfl, if_pos rfl, if_neg q3, if_neg q4, if_neg q3, if_neg q4]
  · rw [y2_i _ _ q, y2_i _ _ q, nRow_o q, nRow_o q]
theorem sNew_w {S : Hs} {k f l w a v t : Int32} : uG (uG (sNew S k f l w a) (sG S) 3 v) (sG S) 4 t = sNew S k f l v t := by
  unfold uG sNew
  exact congrArg (fun z => ((sG S + 1, sP S, sM S, sT S), S.2.1, z, sp S)) nRow_w
section QN
variable {N S : Hs} {μ0 μ σ σ' τ0 τ τ' u : Mm} {F g j h p n k d i : Nat} {z : Int32}
theorem x_add0 {P : Option Nat × Mm → Prop} {kd fg fl : Int32} (X : XS h μ0 μ S) (hh : h < 3) (hlt : sG S = 12) (hk : P (none, μ)) : OkO (f_H_addGlass F μ (hI h) kd fg fl) P := by
  unfold f_H_addGlass
  refine okJ (x_s2 X hh ?_)
  rw [hlt]
  exact okF (by decide) (okR hk)
theorem nw_i {kd fg fl v t : Int32} (hv : Iv S ∧ Lv S) (hlt : sG S < 12) (hk : In kd 8) (hl : In fl 10) (hw : In v 6) : Iv (sNew S kd fg fl v t) ∧ Lv (sNew S kd fg fl v t) := by
  obtain ⟨q, hq, rfl⟩ := hw
  exact ⟨Iv.new (S' := sNew S kd fg fl (nI q) t) hv.1 hlt hk hl (Or.inl ⟨q, hq, rfl⟩) rfl rfl hv.1.2.1 rfl rfl rfl, Lv.new (S' := sNew S kd fg fl (nI q) t) hv.2 rfl rfl (Or.inl (lt6 hq))⟩
theorem q_comes (a b : Int32) (R : Rl N σ τ) : Ag (f_X_comes F σ 0 a b) (f_M_comes F τ 0 a b) := by
  have X := R.x
  have hG := X.G
  unfold Ag f_X_comes f_M_comes
  rcases px a (n := 8) (by decide) with ⟨d, hd, rfl⟩ | ho
  · refine okJ (x_k (okY (x_sh1 hd (okF sI_none ?_))))
    rcases px b (n := 6) (by decide) with ⟨pl, hpl, rfl⟩ | hb
    · refine okY (x_isb1 (n := 6) hpl (by decide) (okF i1n (okJ (x_sg 0 hd ?_))))
      refine okI (fun c => ?_) (fun c => ?_)
      · obtain ⟨-, -, hk, -⟩ := (R.2.2.2 d hd).2.1 c
        refine okJ (x_r (hI 0) (okJ (x_sg 1 hd (okJ (x_sg 2 hd (okJ (x_h (by decide) ?_)))))))
        rcases (by omega : sG N = 12 ∨ sG N < 12) with h12 | h12
        · refine okY (x_add0 X (by decide) h12 (okT rfl (okR ?_)))
          refine m_t R (fun τ1 R1 => okY (m_isW1 hpl (okJ (okF i1n (okJ (m_k (okY (m_wk1 hd (okR ?_)))))))))
          obtain ⟨⟨s1, -⟩, s2, -⟩ := R1.2.2.2 d hd
          obtain ⟨dd, e, M⟩ := R1.m
          have e1 : wkV (τ1.1 22 d) = 0 := by rw [← s1, c]; rfl
          rw [e1]
          refine okJ (okT rfl (okJ (m_s0 M ?_)))
          rw [h12]
          exact okT rfl (okR (okF (by decide) (okR ⟨rfl, N, R1⟩)))
        · refine okY (x_add X (by decide) h12 (fun σ1 w aa X1 => okF sI_none (okJ (x_r (hI 0) (okJ (x_s5 X1 (by decide) (okJ (x_g (i := sG N) X1 (by decide) (Nat.lt_succ_self _) (okY (x_layAt (g := sG N) X1 (by decide) (Nat.lt_succ_self _) (fun σ2 X2 => ?_)))))))))))
          rw [sNew_w] at X2
          refine okJ (x_gN (i := sG N) X2 (by decide) (Nat.lt_succ_self _) (okR ?_))
          refine m_t R (fun τ1 R1 => okY (m_isW1 hpl (okJ (okF i1n (okJ (m_k (okY (m_wk1 hd (okR ?_)))))))))
          obtain ⟨⟨s1, -⟩, s2, -⟩ := R1.2.2.2 d hd
          obtain ⟨k1, f1, -, -⟩ := s2 c
          obtain ⟨dd, e, M⟩ := R1.m
          have e1 : wkV (τ1.1 22 d) = 0 := by rw [← s1, c]; rfl
          rw [e1]
          refine okJ (okT rfl (okJ (m_s0 M (okF (fun y => absurd (nIi (by omega) (by decide) (show nI (sG N) = nI 12 from y)) (by omega)) (okR ?_)))))
          refine okT (show (0 : Int32) ≤ 0 by decide) (okJ (m_r 23 (okJ (m_a 23 (by decide) (by decide) hd (okJ (m_r 24 (okJ (m_a 24 (by decide) (by decide) hd (okJ (m_k (okY (m_bring M h12 (fun τ2 M2 => okR ⟨rfl, ?_⟩)))))))))))))
          have h10 : ¬ (10 : Int32) ≤ nI pl := nI_ge (a := pl) (b := 10) (by omega) (by decide)
          rw [if_neg h10] at M2
          have M3 : MS dd e τ1 τ2 (sNew N (σ.1 (65 + 2 * d) 1) (σ.1 (65 + 2 * d) 2) 9 (nI pl) (nI (sM N))) := by rw [k1, f1]; exact M2
          exact R1.both X2 M3 (nw_i R.1.2.1 h12 hk ⟨9, by decide, rfl⟩ ⟨pl, hpl, rfl⟩) R.1.2.2.1 R.1.2.2.2.1
      · refine okJ (x_sk hd (okY (x_why hd (okR ?_))))
        refine m_t R (fun τ1 R1 => okY (m_isW1 hpl (okJ (okF i1n (okJ (m_k (okY (m_wk1 hd (okR ?_)))))))))
        have s1 := (R1.2.2.2 d hd).1.1
        rw [← s1]
        obtain ⟨w1, w2⟩ := wk_no c
        refine okJ (okF (fun y => w2 (by rw [show wkV (σ.1 (65 + 2 * d) 0) = 0 from y]; decide)) (okR (okF w2 (okR ⟨w1.symm, N, R1⟩))))
    · refine okY (x_isb0 (n := 6) hb (okT rfl (okR ?_)))
      refine m_t R (fun τ1 R1 => okY (m_isW0 hb (okJ (okT rfl (okR (okJ (okF (show ¬ (-1 : Int32) = 0 by decide) (okR (okF (show ¬ (0 : Int32) ≤ -1 by decide) (okR ⟨rfl, N, R1⟩))))))))))
  · refine okJ (x_k (okY (x_sh0 ho (okT rfl (okR ?_)))))
    have fin : ∀ τ1, Rl N σ τ1 → OkO (ob (some ((-1 : Int32), τ1)) fun q4 => ob ((if q4.1 = 0 then ob (jgi YM 5 0 q4.2 (some 0)) fun x10 => (if x10 = (12 : Int32) then some (-2 : Int32) else some q4.1) else some q4.1) : Option Int32) fun q8 => (if 0 ≤ q8 then ob (jgr YM 5 40 (some 0)) fun r13 => ob (jal YM q4.2 r13 a) fun x14 => ob (jgr YM 5 41 (some 0)) fun r15 => ob (jal YM q4.2 r15 a) fun x16 => ob (jk YM 5 (some 0)) fun t => yb (f_M_bring F q4.2 t x14 x16 (9 : Int32) b) fun x17 u18 => some (x17, u18) else some (q8, q4.2))) (fun q => (-1 : Int32) = q.1 ∧ Rel σ q.2) :=
      fun τ1 R1 => okJ (okR (okJ (okF (show ¬ (-1 : Int32) = 0 by decide) (okR (okF (show ¬ (0 : Int32) ≤ -1 by decide) (okR ⟨rfl, N, R1⟩))))))
    rcases px b (n := 6) (by decide) with ⟨pl, hpl, rfl⟩ | hb
    · exact m_t R (fun τ1 R1 => okY (m_isW1 hpl (okJ (okF i1n (okJ (m_k (okY (m_wk0 ho (okR (fin τ1 R1))))))))))
    · exact m_t R (fun τ1 R1 => okY (m_isW0 hb (okJ (okT rfl (okR (fin τ1 R1))))))
def ShF (d : Nat) (σ σ' : Mm) : Prop := ∀ id k, id ≠ 65 + 2 * d → id ≠ 66 + 2 * d → σ'.1 id k = σ.1 id k
def MhF (d : Nat) (τ τ' : Mm) : Prop := (∀ a k, (a < 22 ∨ k ≠ d) → τ'.1 a k = τ.1 a k) ∧ ∀ i, (i < 100 * d ∨ 100 * d + 100 ≤ i) → τ'.2.1 27 i = τ.2.1 27 i
theorem Rl.sh (R : Rl N σ τ) (A : ShF d σ σ') (B : MhF d τ τ') (hd : d < 8) (hS : Shd d σ' τ') : Rl N σ' τ' := by
  obtain ⟨⟨h1, h2, h3, h4, dd, e, a, b, c, f⟩, ⟨Q, hQ⟩, ⟨p1, p2, P2, p3, p4⟩, h8⟩ := R
  have e0 : ∀ k, τ'.1 0 k = τ.1 0 k := fun k => B.1 0 k (Or.inl (by decide))
  refine ⟨⟨h1.cp (fun id k q1 q2 => A id k (by omega) (by omega)), h2, h3, h4, dd, e, a, ?_, fun i k hi hk => ?_, fun i k hi hk => ?_⟩, ⟨Q, hQ.cp (fun id k q1 q2 => A id k (by omega) (by omega))⟩, ⟨?_, ?_, P2, p3.cp (fun id k q1 q2 => A id k (by omega) (by omega)), fun z => ?_⟩, fun i hi => ?_⟩
  · simp only [e0]; exact b
  · rw [B.1 _ _ (Or.inl (by omega))]; exact c i k hi hk
  · rw [B.1 _ _ (Or.inl (by omega))]; exact f i k hi hk
  · rw [A 0 3 (by omega) (by omega), e0]; exact p1
  · rw [A 0 3 (by omega) (by omega)]; exact p2
  · rw [A 0 3 (by omega) (by omega)] at z
    obtain ⟨x1, x2, x3, x4⟩ := p4 z
    exact ⟨x1, x2, x3, x4.cg (fun i => B.1 18 i (Or.inl (by decide)))⟩
  · by_cases q : i = d
    · subst q; exact hS
    · refine (h8 i hi).fr2 (fun k => A _ _ (by omega) (by omega)) (fun k => A _ _ (by omega) (by omega)) (fun x hx => B.1 x i (Or.inr q)) (fun j hj => B.2 _ (by omega))
theorem MhF.rf : MhF d τ τ := ⟨fun _ _ _ => rfl, fun _ _ => rfl⟩
theorem MhF.tr {τ1 τ2 : Mm} (a : MhF d τ τ1) (b : MhF d τ1 τ2) : MhF d τ τ2 := ⟨fun x k h => (b.1 x k h).trans (a.1 x k h), fun i h => (b.2 i h).trans (a.2 i h)⟩
theorem MhF.a {id : Nat} {v : Int32} (h : 22 ≤ id) : MhF d τ (y2 τ.1 id d v, τ.2.1, τ.2.2) := ⟨fun x k hq => y2_o _ _ (by omega), fun _ _ => rfl⟩
theorem q_keep (a b c e : Int32) (R : Rl N σ τ) : Ag (f_X_keep F σ 0 a b c e) (f_M_keep F τ 0 a b c e) := by
  unfold Ag f_X_keep f_M_keep
  rcases px a (n := 8) (by decide) with ⟨d, hd, rfl⟩ | ho
  · refine okJ (x_k (okY (x_sh1 hd (okF sI_none ?_))))
    rcases px b (n := 2) (by decide) with ⟨w, hw, rfl⟩ | hb
    · rcases (by omega : w = 0 ∨ w = 1) with rfl | rfl
      · refine okT rfl (okJ (x_sw hd (okR ?_)))
        refine m_t R (fun τ1 R1 => okY (m_n1 (n := 8) hd (by decide) rfl (okF i1n (okY (m_n1 (n := 2) (j := 0) (by decide) (by decide) rfl (okF i1n ?_))))))
        refine okF (by decide) (okJ (m_r 22 (okJ (m_aw 22 (by decide) (by decide) hd (okJ (m_r 23 (okJ (okF (by decide) (okR (okJ (m_aw 23 (by decide) (by decide) hd (okJ (m_r 24 (okJ (okF (by decide) (okR (okJ (m_aw 24 (by decide) (by decide) hd (okR ⟨rfl, N, ?_⟩)))))))))))))))))))
        refine R1.sh (fun id k q1 q2 => y2_i _ _ (by omega)) (MhF.tr (MhF.tr (MhF.a (id := 22) (by decide)) (MhF.a (id := 23) (by decide))) (MhF.a (id := 24) (by decide))) hd ?_
        have z0 : y2 σ.1 (65 + 2 * d) 0 0 (65 + 2 * d) 0 = 0 := y2_s _ _ _ _
        refine ⟨⟨?_, 0, by decide, z0⟩, fun z => ?_, fun z => ?_⟩
        · show y2 σ.1 (65 + 2 * d) 0 0 (65 + 2 * d) 0 = y2 (y2 (y2 τ1.1 22 d (nI 0)) 23 d 0) 24 d 0 22 d
          rw [z0, y2_i _ _ (by decide), y2_i _ _ (by decide), y2_s]
          rfl
        · exact absurd (z0.symm.trans z) (by decide)
        · exact absurd (z0.symm.trans z) (by decide)
      · refine okF (by decide) (okT rfl ?_)
        rcases px c (n := 8) (by decide) with ⟨k, hk, rfl⟩ | hc
        · refine okY (x_isb1 (n := 8) hk (by decide) (okF i1n ?_))
          rcases px e (n := 10) (by decide) with ⟨f, hf, rfl⟩ | he
          · refine okF (nI_pos (by omega)) (okT (nI_le (a := f) (b := 9) (by omega) (by decide)) (okJ (x_sw hd (okJ (x_sw hd (okJ (x_sw hd (okR ?_))))))))
            refine m_t R (fun τ1 R1 => okY (m_n1 (n := 8) hd (by decide) rfl (okF i1n (okY (m_n1 (n := 2) (j := 1) (by decide) (by decide) rfl (okF i1n (okT rfl (okY (m_n1 (n := 8) hk (by decide) rfl (okF i1n (okY (m_n1 (n := 10) hf (by decide) rfl (okF i1n ?_)))))))))))))
            refine okJ (m_r 22 (okJ (m_aw 22 (by decide) (by decide) hd (okJ (m_r 23 (okJ (okT rfl (okR (okJ (m_aw 23 (by decide) (by decide) hd (okJ (m_r 24 (okJ (okT rfl (okR (okJ (m_aw 24 (by decide) (by decide) hd (okR ⟨rfl, N, ?_⟩))))))))))))))))))
            refine R1.sh (fun id k q1 q2 => ?_) (MhF.tr (MhF.tr (MhF.a (id := 22) (by decide)) (MhF.a (id := 23) (by decide))) (MhF.a (id := 24) (by decide))) hd ?_
            · show y2 (y2 (y2 σ.1 (65 + 2 * d) 0 1) (65 + 2 * d) 1 _) (65 + 2 * d) 2 _ id k = _
              rw [y2_i _ _ q1, y2_i _ _ q1, y2_i _ _ q1]
            have z0 : y2 (y2 (y2 σ.1 (65 + 2 * d) 0 1) (65 + 2 * d) 1 (nI k)) (65 + 2 * d) 2 (nI f) (65 + 2 * d) 0 = 1 := by rw [y2_k _ _ (by decide), y2_k _ _ (by decide), y2_s]
            have z1 : y2 (y2 (y2 σ.1 (65 + 2 * d) 0 1) (65 + 2 * d) 1 (nI k)) (65 + 2 * d) 2 (nI f) (65 + 2 * d) 1 = nI k := by rw [y2_k _ _ (by decide), y2_s]
            have z2 : y2 (y2 (y2 σ.1 (65 + 2 * d) 0 1) (65 + 2 * d) 1 (nI k)) (65 + 2 * d) 2 (nI f) (65 + 2 * d) 2 = nI f := by rw [y2_s]
            have t0 : y2 (y2 (y2 τ1.1 22 d (nI 1)) 23 d (nI k)) 24 d (nI f) 22 d = nI 1 := by rw [y2_i _ _ (by decide), y2_i _ _ (by decide), y2_s]
            have t1 : y2 (y2 (y2 τ1.1 22 d (nI 1)) 23 d (nI k)) 24 d (nI f) 23 d = nI k := by rw [y2_i _ _ (by decide), y2_s]
            have t2 : y2 (y2 (y2 τ1.1 22 d (nI 1)) 23 d (nI k)) 24 d (nI f) 24 d = nI f := by rw [y2_s]
            refine ⟨⟨z0.trans t0.symm, 1, by decide, z0⟩, fun z => ⟨z1.trans t1.symm, z2.trans t2.symm, ⟨k, hk, z1⟩, ⟨f, hf, z2⟩⟩, fun z => ?_⟩
            exact absurd (z0.symm.trans z) (by decide)
          · have fin : OkO (f_M_keep F τ 0 (nI d) (nI 1) (nI k) e) (fun q => (-1 : Int32) = q.1 ∧ Rel σ q.2) := by
              unfold f_M_keep
              exact m_t R (fun τ1 R1 => okY (m_n1 (n := 8) hd (by decide) rfl (okF i1n (okY (m_n1 (n := 2) (j := 1) (by decide) (by decide) rfl (okF i1n (okT rfl (okY (m_n1 (n := 8) hk (by decide) rfl (okF i1n (okY (m_n0 (n := 10) he (by decide) rfl (okT rfl (okR ⟨rfl, N, R1⟩))))))))))))))
            rcases he with he | he
            · exact okT he (okR fin)
            · exact okI (fun _ => okR fin) (fun _ => okF (xnle.mpr (xlt (b := nI 10) (by decide) he)) (okR fin))
        · refine okY (x_isb0 (n := 8) hc (okT rfl (okR ?_)))
          exact m_t R (fun τ1 R1 => okY (m_n1 (n := 8) hd (by decide) rfl (okF i1n (okY (m_n1 (n := 2) (j := 1) (by decide) (by decide) rfl (okF i1n (okT rfl (okY (m_n0 (n := 8) hc (by decide) rfl (okT rfl (okR ⟨rfl, N, R1⟩)))))))))))
    · refine okF (fun z => hb.no (by decide) ⟨0, by decide, z⟩) (okF (fun z => hb.no (by decide) ⟨1, by decide, z⟩) (okR ?_))
      exact m_t R (fun τ1 R1 => okY (m_n1 (n := 8) hd (by decide) rfl (okF i1n (okY (m_n0 (n := 2) hb (by decide) rfl (okT rfl (okR ⟨rfl, N, R1⟩)))))))
  · refine okJ (x_k (okY (x_sh0 ho (okT rfl (okR ?_)))))
    exact m_t R (fun τ1 R1 => okY (m_n0 (n := 8) ho (by decide) rfl (okT rfl (okR ⟨rfl, N, R1⟩))))
end QN
