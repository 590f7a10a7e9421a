/-! PURE 77: element, toss -/
section RX7
variable {N S : Hs} {μ0 μ σ σ' τ0 τ τ' u : Mm} {F g j h p n k d i s : Nat} {z : Int32}
theorem m_tv {β : Type} {K : Mm → Option β} {P : β → Prop} (v : Int32) (R : Rl N σ τ) (hk : ∀ τ', Rl N σ τ' → τ'.1 0 23 = v → OkO (K τ') P) : OkO (ob (jpi YM 5 23 τ (some 0) v) K) P :=
  okJ (okR (x := (y2 τ.1 0 23 v, τ.2.1, τ.2.2)) (hk _ (R.t (fun a k hq => y2_o _ _ (by omega)) rfl) (y2_s τ.1 0 23 v)))
def AgE (X : Option ((Option String × Int64) × Mm)) (M : Option (Int64 × Mm)) (Th : Mm → Option (Int32 × Mm)) : Prop := OkO X (fun p => OkO M (fun q => OkO (Th q.2) (fun r => Rel p.2 r.2 ∧ ((p.1.1 = none ∧ r.1 = 0 ∧ q.1 = p.1.2) ∨ (p.1.1 = some xIA ∧ r.1 = 1) ∨ (p.1.1 = some xIS ∧ r.1 = 2)))))
theorem wr_n {c : Int32} (h : ¬ c = 2) : ¬ wrV c = -1 ∧ wrV c < 0 := by
  rw [(wr_no h).1]
  by_cases q : c = 0
  · rw [if_pos q]; exact ⟨by decide, by decide⟩
  · rw [if_neg q]; exact ⟨by decide, by decide⟩
theorem q_element (a b : Int32) (R : Rl N σ τ) : AgE (f_X_element F σ 0 a b) (f_M_element F τ 0 a b) (fun u => f_M_thrown F u 0) := by
  have th : ∀ (v : Int64) (τ1 : Mm) (P : Int32 × Mm → Prop), P (τ1.1 0 23, τ1) → OkO (f_M_thrown F τ1 0) P := fun v τ1 P h => by
    unfold f_M_thrown
    exact okJ (m_x (okR h))
  unfold AgE f_X_element
  rcases px a (n := 8) (by decide) with ⟨d, hd, rfl⟩ | ho
  · have s1 := (R.2.2.2 d hd).1.1
    refine okJ (x_k (okY (x_sh1 hd (okF sI_none (okJ (x_sg 0 hd ?_))))))
    dsimp only
    refine okI (fun c0 => ?_) (fun c0 => ?_)
    · obtain ⟨e25, ⟨s, hs, es⟩, e26, ⟨n, hn, en⟩, el, -⟩ := (R.2.2.2 d hd).2.2 c0
      refine okJ (x_sg 4 hd ?_)
      rw [en]
      have pre : ∀ {P : Int64 × Mm → Prop}, OkO (yb (f_M_in F τ b.toInt64 0 (nI n - 1).toInt64) fun x8 u9 => (if x8 = 0 then some ((2 : Int32), u9) else some ((0 : Int32), u9))) (fun q3 => OkO (ob (jpi YM 5 23 q3.2 (some 0) q3.1) fun (u11 : Mm) => ob (jgi YM 5 23 u11 (some 0)) fun (x12 : Int32) => (if x12 ≤ 0 then ob (jgr YM 5 44 (some 0)) fun (r14 : Option Nat) => ob (jll YM u11 r14 (((100 : Int32) * nI d) + b)) fun (z15 : Int64) => some (z15, u11) else some ((0 : Int64), u11))) P) → OkO (f_M_element F τ 0 (nI d) b) P := by
        intro P hk
        unfold f_M_element
        refine okJ (m_k (okY (m_wr1 hd ?_)))
        rw [← s1, c0]
        refine okJ (okF (show ¬ wrV 2 = -1 by decide) (okF (show ¬ wrV 2 < 0 by decide) (okJ (m_r 26 (okJ (m_a 26 (by decide) (by decide) hd ?_))))))
        rw [← e26, en]
        exact hk
      rcases px b (n := n) (by omega) with ⟨i, hi, rfl⟩ | hb
      · refine okY (x_isb1 hi (by omega) (okF i1n (okJ (x_sk hd (okY (x_ela hd (by omega) (okR (pre ?_))))))))
        refine okY (m_n1 hi (by omega) rfl (okF i1n (okR ?_)))
        refine m_tv 0 R (fun τ1 R1 e1 => okJ (m_x ?_))
        rw [e1]
        refine okT (show (0 : Int32) ≤ 0 by decide) (okJ (m_r 27 (okJ ?_)))
        rw [show (100 : Int32) = nI 100 from rfl, pk_mul, nI_add]
        refine m_ll 27 800 (Or.inl rfl) rfl (by decide) (by omega) (okR ?_)
        obtain ⟨-, -, -, -, el1, -⟩ := (R1.2.2.2 d hd).2.2 c0
        exact th 0 τ1 _ ⟨⟨N, R1⟩, Or.inl ⟨rfl, e1, (el1 i (by omega)).symm⟩⟩
      · refine okY (x_isb0 hb (okT rfl (okR (pre ?_))))
        refine okY (m_n0 hb (by omega) rfl (okT rfl (okR ?_)))
        refine m_tv 2 R (fun τ1 R1 e1 => okJ (m_x ?_))
        rw [e1]
        exact okF (show ¬ (2 : Int32) ≤ 0 by decide) (okR (th 0 τ1 _ ⟨⟨N, R1⟩, Or.inr (Or.inr ⟨rfl, e1⟩)⟩))
    · refine okR ?_
      unfold f_M_element
      refine okJ (m_k (okY (m_wr1 hd ?_)))
      rw [← s1]
      refine okJ (okF (wr_n c0).1 (okT (wr_n c0).2 (okR ?_)))
      refine m_tv 2 R (fun τ1 R1 e1 => okJ (m_x ?_))
      rw [e1]
      exact okF (show ¬ (2 : Int32) ≤ 0 by decide) (okR (th 0 τ1 _ ⟨⟨N, R1⟩, Or.inr (Or.inr ⟨rfl, e1⟩)⟩))
  · refine okJ (x_k (okY (x_sh0 ho (okT rfl (okR ?_)))))
    unfold f_M_element
    refine okJ (m_k (okY (m_wr0 ho (okJ (okT rfl (okR ?_))))))
    refine m_tv 1 R (fun τ1 R1 e1 => okJ (m_x ?_))
    rw [e1]
    exact okF (show ¬ (1 : Int32) ≤ 0 by decide) (okR (th 0 τ1 _ ⟨⟨N, R1⟩, Or.inr (Or.inl ⟨rfl, e1⟩)⟩))
theorem tsK_0 {r : Option Nat} : tsK F r none u = some (-15, u) := rfl
theorem tsK_1 {r : Option Nat} : tsK F r (some xUO) u = ob (jk YX 3 r) fun t => yb (f_S_glassCost F u t) fun x u4 => some (200 + x, u4) := by
  unfold tsK; exact if_pos rfl
theorem tsK_2 {r : Option Nat} : tsK F r (some xIS) u = ob (jgi YX 3 2 u r) fun x => some (100 + x, u) := by
  unfold tsK; exact (if_neg xE_ne.1).trans (if_pos rfl)
theorem tsK_3 {r : Option Nat} : tsK F r (some xIA) u = ob (jgi YX 3 2 u r) fun x => some (x, u) := by
  unfold tsK; exact (if_neg xE_ne.2.1).trans (if_neg xE_ne.2.2)
theorem q_toss (a : Int32) (R : Rl N σ τ) : Ag (f_X_toss F σ 0 a) (f_M_toss F τ 0 a) := by
  unfold Ag f_X_toss
  rcases px a (n := 8) (by decide) with ⟨d, hd, rfl⟩ | ho
  · refine okJ (x_k (okY (x_sh1 hd (okF sI_none (okJ (x_sg 0 hd ?_))))))
    dsimp only
    refine okI (fun c => ?_) (fun c => ?_)
    · obtain ⟨-, -, ⟨k, hk, ek⟩, ⟨f, hf, ef⟩⟩ := (R.2.2.2 d hd).2.1 c
      have mm : ∀ {P : Int32 × Mm → Prop}, (∀ τ1, Rl N σ τ1 → OkO (if nI k = (4 : Int32) then some ((-15 : Int32), τ1) else (if nI f = 0 then some ((-15 : Int32), τ1) else (if nI k = (3 : Int32) then some (((100 : Int32) + nI f), τ1) else (if nI k = (5 : Int32) then yb (f_M_costOf F τ1 (nI k) (nI f)) fun x13 u14 => some (((200 : Int32) + x13), u14) else some (nI f, τ1))))) P) → OkO (f_M_toss F τ 0 (nI d)) P := by
        intro P hk2
        unfold f_M_toss
        refine m_t R (fun τ1 R1 => okJ (m_k (okY (m_wk1 hd ?_))))
        obtain ⟨⟨s1, -⟩, s2, -⟩ := R1.2.2.2 d hd
        obtain ⟨k1, f1, -, -⟩ := s2 c
        rw [← s1, c]
        refine okT (show (0 : Int32) ≤ wkV 1 by decide) (okJ (m_r 23 (okJ (m_a 23 (by decide) (by decide) hd (okJ (m_r 24 (okJ (m_a 24 (by decide) (by decide) hd ?_))))))))
        rw [← k1, ek, ← f1, ef]
        exact hk2 τ1 R1
      refine okJ (x_sk hd (okY ?_))
      unfold f_S_throwFailure
      refine okJ (x_sg 1 hd ?_)
      rw [ek]
      refine okI (fun c4 => okR (okR (mm (fun τ1 R1 => okT c4 (okR ⟨rfl, N, R1⟩))))) (fun c4 => okJ (x_sg 2 hd ?_))
      rw [ef]
      refine okI (fun cf => okR (okR (mm (fun τ1 R1 => okF c4 (okT cf (okR ⟨rfl, N, R1⟩)))))) (fun cf => okJ (x_sg 1 hd ?_))
      rw [ek]
      refine okI (fun c5 => okR ?_) (fun c5 => okJ (x_sg 1 hd ?_))
      · have c3 : ¬ nI k = (3 : Int32) := fun z => absurd (z.symm.trans c5) (by decide)
        show OkO (tsK F (some (65 + 2 * d)) (some xUO) σ) _
        rw [tsK_1]
        refine okJ (x_sk hd (okY (x_cos hd hk ek (okR ?_))))
        rw [ef]
        exact mm (fun τ1 R1 => okF c4 (okF cf (okF c3 (okT c5 (okY (m_cos hk (okR ⟨rfl, N, R1⟩)))))))
      · rw [ek]
        refine okI (fun c3 => okR ?_) (fun c3 => okR ?_)
        · show OkO (tsK F (some (65 + 2 * d)) (some xIS) σ) _
          rw [tsK_2]
          refine okJ (x_sg 2 hd (okR ?_))
          rw [ef]
          exact mm (fun τ1 R1 => okF c4 (okF cf (okT c3 (okR ⟨rfl, N, R1⟩))))
        · show OkO (tsK F (some (65 + 2 * d)) (some xIA) σ) _
          rw [tsK_3]
          refine okJ (x_sg 2 hd (okR ?_))
          rw [ef]
          exact mm (fun τ1 R1 => okF c4 (okF cf (okF c3 (okF c5 (okR ⟨rfl, N, R1⟩)))))
    · refine okJ (x_sk hd (okY (x_why hd (okR ?_))))
      unfold f_M_toss
      refine m_t R (fun τ1 R1 => okJ (m_k (okY (m_wk1 hd ?_))))
      have s1 := (R1.2.2.2 d hd).1.1
      rw [← s1]
      refine okF (wk_no c).2 (okJ (m_k (okY (m_wk1 hd (okR ⟨?_, N, R1⟩)))))
      rw [← s1, (wk_no c).1]
  · refine okJ (x_k (okY (x_sh0 ho (okT rfl (okR ?_)))))
    unfold f_M_toss
    exact m_t R (fun τ1 R1 => okJ (m_k (okY (m_wk0 ho (okF (show ¬ (0 : Int32) ≤ -1 by decide) (okJ (m_k (okY (m_wk0 ho (okR ⟨rfl, N, R1⟩))))))))))
end RX7
