/-! PURE 52: copy -/
theorem xsub {s m : Nat} (hs : s ≤ 100) (hm : m < 2 ^ 31) : (nI s - nI m).toInt = (s : Int) - m := by
  rw [Int32.toInt_sub, nI_toInt (by omega), nI_toInt hm]
  exact Int.bmod_eq_of_le (by omega) (by omega)
theorem cp_lt {s m i : Nat} (hs : s ≤ 100) (hm : m < 2 ^ 31) (hi : i < 2 ^ 31) : nI s - nI m < nI i ↔ s < i + m := by
  rw [Int32.lt_iff_toInt_lt, xsub hs hm, nI_toInt hi]
  omega
theorem cp_le {s m i : Nat} (hs : s ≤ 100) (hm : m < 2 ^ 31) (hi : i < 2 ^ 31) : nI i ≤ nI s - nI m ↔ i + m ≤ s := by
  rw [Int32.le_iff_toInt_le, xsub hs hm, nI_toInt hi]
  omega
def Str (a n : Int32) (s : Nat) : Prop := ∃ i m, i + m ≤ s ∧ a = nI i ∧ n = nI m
section QP
variable {N S : Hs} {μ0 μ σ σ' τ0 τ τ' u : Mm} {F g j h p n k d e i m s t : Nat} {z : Int32}
theorem x_st1 {P : Int32 × Mm → Prop} {a n : Int32} (hd : d < 8) (hs : s ≤ 100) (es : σ.1 (65 + 2 * d) 4 = nI s) (hS : Str a n s) (h : P (1, σ)) : OkO (f_S_hasStretch F σ (65 + 2 * d) a n) P := by
  obtain ⟨i, m, him, rfl, rfl⟩ := hS
  unfold f_S_hasStretch
  refine okF (nI_pos (by omega)) (okF (nI_pos (by omega)) (okJ (x_sg 4 hd ?_)))
  rw [es]
  refine okF (nI_nlt (by omega) (by omega)) (okJ (x_sg 4 hd ?_))
  rw [es]
  exact okF (fun y => absurd ((cp_lt hs (by omega) (by omega)).mp y) (by omega)) (okJ (okz (Or.inr rfl) (okR h)))
theorem x_st0 {P : Int32 × Mm → Prop} {a n : Int32} (hd : d < 8) (hs : s ≤ 100) (es : σ.1 (65 + 2 * d) 4 = nI s) (hS : ¬ Str a n s) (h : P (0, σ)) : OkO (f_S_hasStretch F σ (65 + 2 * d) a n) P := by
  unfold f_S_hasStretch
  refine okI (fun _ => okJ (okz (Or.inl rfl) (okR h))) (fun ha => okI (fun _ => okJ (okz (Or.inl rfl) (okR h))) (fun hn => okJ (x_sg 4 hd ?_)))
  obtain ⟨i, hi, rfl⟩ := nI_of ha
  obtain ⟨m, hm, rfl⟩ := nI_of hn
  rw [es]
  refine okI (fun _ => okJ (okz (Or.inl rfl) (okR h))) (fun h1 => okJ (x_sg 4 hd ?_))
  rw [es]
  refine okI (fun _ => okJ (okz (Or.inl rfl) (okR h))) (fun h2 => ?_)
  exfalso
  apply hS
  have h3 : ¬ s < m + i := fun y => h2 ((cp_lt hs hi hm).mpr y)
  exact ⟨i, m, by omega, rfl, rfl⟩
theorem m_c1 {a b c : Int32} (R : Rl N σ τ) (hd : d < 8) (he : e < 8) (h : σ.1 (65 + 2 * d) 0 = 0 ∨ σ.1 (65 + 2 * e) 0 = 0) : OkO (f_M_copy F τ 0 (nI d) a (nI e) b c) (fun q => (-11 : Int32) = q.1 ∧ Rel σ q.2) := by
  unfold f_M_copy
  refine m_t R (fun τ1 R1 => okY (m_n1 (n := 8) hd (by decide) rfl (okF i1n (okY (m_n1 (n := 8) he (by decide) rfl (okF i1n (okJ (m_r 22 (okJ (m_a 22 (by decide) (by decide) hd ?_))))))))))
  rw [← (R1.2.2.2 d hd).1.1]
  refine okI (fun _ => okR ⟨rfl, N, R1⟩) (fun c1 => okJ (m_r 22 (okJ (m_a 22 (by decide) (by decide) he ?_))))
  rw [← (R1.2.2.2 e he).1.1]
  exact okT (h.resolve_left c1) (okR ⟨rfl, N, R1⟩)
theorem m_c2 {a b c : Int32} (R : Rl N σ τ) (hd : d < 8) (he : e < 8) (h1 : ¬ σ.1 (65 + 2 * d) 0 = 0) (h2 : ¬ σ.1 (65 + 2 * e) 0 = 0) (h : ¬ (σ.1 (65 + 2 * d) 0 = 2 ∧ σ.1 (65 + 2 * e) 0 = 2 ∧ σ.1 (65 + 2 * d) 3 = σ.1 (65 + 2 * e) 3)) : OkO (f_M_copy F τ 0 (nI d) a (nI e) b c) (fun q => (-12 : Int32) = q.1 ∧ Rel σ q.2) := by
  unfold f_M_copy
  refine m_t R (fun τ1 R1 => okY (m_n1 (n := 8) hd (by decide) rfl (okF i1n (okY (m_n1 (n := 8) he (by decide) rfl (okF i1n (okJ (m_r 22 (okJ (m_a 22 (by decide) (by decide) hd ?_))))))))))
  have s1 := (R1.2.2.2 d hd).1.1
  have s2 := (R1.2.2.2 e he).1.1
  rw [← s1]
  refine okF h1 (okJ (m_r 22 (okJ (m_a 22 (by decide) (by decide) he ?_))))
  rw [← s2]
  refine okF h2 (okJ (m_r 22 (okJ (m_a 22 (by decide) (by decide) hd ?_))))
  rw [← s1]
  refine okI (fun c3 => okJ (m_r 22 (okJ (m_a 22 (by decide) (by decide) he ?_)))) (fun _ => okR ⟨rfl, N, R1⟩)
  rw [← s2]
  refine okI (fun c4 => okJ (m_r 25 (okJ (m_a 25 (by decide) (by decide) hd (okJ (m_r 25 (okJ (m_a 25 (by decide) (by decide) he ?_)))))))) (fun _ => okR ⟨rfl, N, R1⟩)
  rw [← ((R1.2.2.2 d hd).2.2 c3).1, ← ((R1.2.2.2 e he).2.2 c4).1]
  exact okF (fun c5 => h ⟨c3, c4, c5⟩) (okR ⟨rfl, N, R1⟩)
theorem m_c3 {a b c : Int32} {P : Int32 × Mm → Prop} (R : Rl N σ τ) (hd : d < 8) (he : e < 8) (h1 : σ.1 (65 + 2 * d) 0 = 2) (h2 : σ.1 (65 + 2 * e) 0 = 2) (h3 : σ.1 (65 + 2 * d) 3 = σ.1 (65 + 2 * e) 3) (hk : ∀ τ1, Rl N σ τ1 → OkO (if c < 0 then some ((-13 : Int32), τ1) else (if a < 0 then some ((-13 : Int32), τ1) else (if b < 0 then some ((-13 : Int32), τ1) else ob (jgr YM 5 43 (some 0)) fun r28 => ob (jal YM τ1 r28 (nI d)) fun x29 => (if (x29 - c) < a then some ((-13 : Int32), τ1) else ob (jgr YM 5 43 (some 0)) fun r31 => ob (jal YM τ1 r31 (nI e)) fun x32 => (if b ≤ (x32 - c) then f_M_copy_L137 F (some 0) (nI d) a (nI e) b c (fun u40 => f_M_copy_L174 F (some 0) (nI e) b c (fun u47 => some (c, u47)) F u40 0) F τ1 0 else some ((-13 : Int32), τ1)))))) P) : OkO (f_M_copy F τ 0 (nI d) a (nI e) b c) P := by
  unfold f_M_copy
  refine m_t R (fun τ1 R1 => okY (m_n1 (n := 8) hd (by decide) rfl (okF i1n (okY (m_n1 (n := 8) he (by decide) rfl (okF i1n (okJ (m_r 22 (okJ (m_a 22 (by decide) (by decide) hd ?_))))))))))
  have s1 := (R1.2.2.2 d hd).1.1
  have s2 := (R1.2.2.2 e he).1.1
  rw [← s1, h1]
  refine okF (by decide) (okJ (m_r 22 (okJ (m_a 22 (by decide) (by decide) he ?_))))
  rw [← s2, h2]
  refine okF (by decide) (okJ (m_r 22 (okJ (m_a 22 (by decide) (by decide) hd ?_))))
  rw [← s1, h1]
  refine okT rfl (okJ (m_r 22 (okJ (m_a 22 (by decide) (by decide) he ?_))))
  rw [← s2, h2]
  refine okT rfl (okJ (m_r 25 (okJ (m_a 25 (by decide) (by decide) hd (okJ (m_r 25 (okJ (m_a 25 (by decide) (by decide) he ?_))))))))
  rw [← ((R1.2.2.2 d hd).2.2 h1).1, ← ((R1.2.2.2 e he).2.2 h2).1]
  exact okT h3 (hk τ1 R1)
theorem m_c4 {a b c : Int32} (R : Rl N σ τ) (hd : d < 8) (he : e < 8) (h1 : σ.1 (65 + 2 * d) 0 = 2) (h2 : σ.1 (65 + 2 * e) 0 = 2) (h3 : σ.1 (65 + 2 * d) 3 = σ.1 (65 + 2 * e) 3) (hs : s ≤ 100) (es : σ.1 (65 + 2 * d) 4 = nI s) (ht : t ≤ 100) (et : σ.1 (65 + 2 * e) 4 = nI t) (hno : ¬ (Str a c s ∧ Str b c t)) : OkO (f_M_copy F τ 0 (nI d) a (nI e) b c) (fun q => (-13 : Int32) = q.1 ∧ Rel σ q.2) := by
  refine m_c3 R hd he h1 h2 h3 (fun τ1 R1 => ?_)
  refine okI (fun _ => okR ⟨rfl, N, R1⟩) (fun hc => okI (fun _ => okR ⟨rfl, N, R1⟩) (fun ha => okI (fun _ => okR ⟨rfl, N, R1⟩) (fun hb => okJ (m_r 26 (okJ (m_a 26 (by decide) (by decide) hd ?_))))))
  obtain ⟨m, hm, rfl⟩ := nI_of hc
  obtain ⟨i, hi, rfl⟩ := nI_of ha
  obtain ⟨j, hj, rfl⟩ := nI_of hb
  rw [← ((R1.2.2.2 d hd).2.2 h1).2.2.1, es]
  refine okI (fun _ => okR ⟨rfl, N, R1⟩) (fun h4 => okJ (m_r 26 (okJ (m_a 26 (by decide) (by decide) he ?_))))
  rw [← ((R1.2.2.2 e he).2.2 h2).2.2.1, et]
  refine okF (fun h5 => hno ⟨⟨i, m, ?_, rfl, rfl⟩, ⟨j, m, ?_, rfl, rfl⟩⟩) (okR ⟨rfl, N, R1⟩)
  · have : ¬ s < i + m := fun y => h4 ((cp_lt hs hm hi).mpr y)
    omega
  · exact (cp_le ht hm hj).mp h5
theorem m_c5 (R : Rl N σ τ) (hF : 200 ≤ F) (hd : d < 8) (he : e < 8) (h1 : σ.1 (65 + 2 * d) 0 = 2) (h2 : σ.1 (65 + 2 * e) 0 = 2) (h3 : σ.1 (65 + 2 * d) 3 = σ.1 (65 + 2 * e) 3) (hs : s ≤ 100) (es : σ.1 (65 + 2 * d) 4 = nI s) (ht : t ≤ 100) (et : σ.1 (65 + 2 * e) 4 = nI t) (him : i + m ≤ s) (hjm : j + m ≤ t) : OkO (f_M_copy F τ 0 (nI d) (nI i) (nI e) (nI j) (nI m)) (fun q => nI m = q.1 ∧ ∃ τ1, Rl N σ τ1 ∧ q.2.1 = τ1.1 ∧ ∀ x, q.2.2.1 27 x = if 100 * e + j ≤ x ∧ x < 100 * e + j + m then τ1.2.1 27 (100 * d + i + (x - (100 * e + j))) else τ1.2.1 27 x) := by
  refine m_c3 R hd he h1 h2 h3 (fun τ1 R1 => ?_)
  refine okF (nI_pos (by omega)) (okF (nI_pos (by omega)) (okF (nI_pos (by omega)) (okJ (m_r 26 (okJ (m_a 26 (by decide) (by decide) hd ?_))))))
  rw [← ((R1.2.2.2 d hd).2.2 h1).2.2.1, es]
  refine okF (fun y => absurd ((cp_lt hs (by omega) (by omega)).mp y) (by omega)) (okJ (m_r 26 (okJ (m_a 26 (by decide) (by decide) he ?_))))
  rw [← ((R1.2.2.2 e he).2.2 h2).2.2.1, et]
  refine okT ((cp_le ht (by omega) (by omega)).mpr hjm) ?_
  refine lpA (A := Unit) (L := fun q u _ k => f_M_copy_L137 F (some 0) (nI d) (nI i) (nI e) (nI j) (nI m) _ q u k) m (fun k u _ => u.1 = τ1.1 ∧ (∀ x, u.2.1 27 x = τ1.2.1 27 x) ∧ ∀ x, x < k → u.2.1 28 x = τ1.2.1 27 (100 * d + i + x)) (fun q u _ hq => ?_) (fun q k u _ hk0 hq hk => ?_) m 0 F τ1 () (by omega) (by omega) ⟨rfl, fun _ => rfl, fun x hx => absurd hx (Nat.not_lt_zero x)⟩
  · obtain ⟨y1, y2', y3⟩ := hq
    simp only [f_M_copy_L137]
    refine okT (nI_le (Nat.le_refl _) (by omega)) ?_
    refine lpA (A := Unit) (L := fun q u _ k => f_M_copy_L174 F (some 0) (nI e) (nI j) (nI m) _ q u k) m (fun k v _ => v.1 = τ1.1 ∧ (∀ x, v.2.1 28 x = u.2.1 28 x) ∧ ∀ x, v.2.1 27 x = if 100 * e + j ≤ x ∧ x < 100 * e + j + k then τ1.2.1 27 (100 * d + i + (x - (100 * e + j))) else τ1.2.1 27 x) (fun q v _ hq => ?_) (fun q k v _ hk0 hq hk => ?_) m 0 F u () (by omega) (by omega) ⟨y1, fun _ => rfl, fun x => by rw [if_neg (by omega)]; exact y2' x⟩
    · obtain ⟨w1, w2, w3⟩ := hq
      simp only [f_M_copy_L174]
      exact okT (nI_le (Nat.le_refl _) (by omega)) (okR ⟨rfl, τ1, R1, w1, w3⟩)
    · obtain ⟨w1, w2, w3⟩ := hq
      simp only [f_M_copy_L174]
      refine okF (nI_ge hk0 (by omega)) (okJ (m_r 27 (okJ (m_r 28 (okJ (m_ll 28 100 (Or.inr rfl) rfl (by decide) (by omega) (okJ ?_)))))))
      rw [m_ix, nI_add]
      refine m_lw 27 800 (Or.inl rfl) rfl (by decide) (by omega) (okJ (okR ?_))
      rw [nI_1]
      refine hk _ () ⟨w1, fun x => ?_, fun x => ?_⟩
      · show y2 v.2.1 27 (100 * e + j + k) _ 28 x = _
        rw [y2_i _ _ (by decide)]; exact w2 x
      · show y2 v.2.1 27 (100 * e + j + k) (v.2.1 28 k) 27 x = _
        by_cases q : x = 100 * e + j + k
        · subst q
          rw [y2_s, if_pos (by omega), w2, y3 k hk0]
          exact congrArg (τ1.2.1 27) (by omega)
        · rw [y2_k _ _ q, w3]
          by_cases q2 : 100 * e + j ≤ x ∧ x < 100 * e + j + k
          · rw [if_pos q2, if_pos (by omega)]
          · rw [if_neg q2, if_neg (by omega)]
  · obtain ⟨y1, y2', y3⟩ := hq
    simp only [f_M_copy_L137]
    refine okF (nI_ge hk0 (by omega)) (okJ (m_r 28 (okJ (m_r 27 (okJ ?_)))))
    rw [m_ix, nI_add]
    refine m_ll 27 800 (Or.inl rfl) rfl (by decide) (by omega) (okJ (m_lw 28 100 (Or.inr rfl) rfl (by decide) (by omega) (okJ (okR ?_))))
    rw [nI_1]
    refine hk _ () ⟨y1, fun x => ?_, fun x hx => ?_⟩
    · show y2 u.2.1 28 k _ 27 x = _
      rw [y2_i _ _ (by decide)]; exact y2' x
    · show y2 u.2.1 28 k (u.2.1 27 (100 * d + i + k)) 28 x = _
      by_cases q : x = k
      · subst q; rw [y2_s]; exact y2' _
      · rw [y2_k _ _ q]; exact y3 x (by omega)
theorem q_copy (a b c x y : Int32) (R : Rl N σ τ) (hF : 200 ≤ F) : Ag (f_X_copy F σ 0 a b c x y) (f_M_copy F τ 0 a b c x y) := by
  unfold Ag f_X_copy
  rcases px a (n := 8) (by decide) with ⟨d, hd, rfl⟩ | ho
  · refine okJ (x_k (okY (x_sh1 hd (okJ (x_k ?_)))))
    rcases px c (n := 8) (by decide) with ⟨e, he, rfl⟩ | hc
    · refine okY (x_sh1 he (okF sI_none (okF sI_none (okJ (x_sg 0 hd (okI (fun c1 => okR (m_c1 R hd he (Or.inl c1))) (fun c1 => okJ (x_sg 0 he (okI (fun c2 => okR (m_c1 R hd he (Or.inr c2))) (fun c2 => okJ (x_sg 0 hd (okI (fun c3 => okJ (x_sg 0 he (okI (fun c4 => okJ (x_sg 3 hd (okJ (x_sg 3 he (okI (fun c5 => ?_) (fun c5 => okR (m_c2 R hd he c1 c2 (fun z => c5 z.2.2)))))))) (fun c4 => okR (m_c2 R hd he c1 c2 (fun z => c4 z.2.1)))))) (fun c3 => okR (m_c2 R hd he c1 c2 (fun z => c3 z.1)))))))))))))))
      obtain ⟨-, ⟨so, hso, eso⟩, -, ⟨s, hs, es⟩, -, -⟩ := (R.2.2.2 d hd).2.2 c3
      obtain ⟨-, -, -, ⟨t, ht, et⟩, -, -⟩ := (R.2.2.2 e he).2.2 c4
      rcases Classical.em (Str b y s) with hS | hS
      · refine okJ (x_sk hd (okY (x_st1 hd (by omega) es hS (okF i1n (okJ (x_sk he ?_))))))
        rcases Classical.em (Str x y t) with hT | hT
        · refine okY (x_st1 he (by omega) et hT (okF i1n (okJ (x_se hd (okJ (x_se he ?_))))))
          obtain ⟨i, m, him, rfl, rfl⟩ := hS
          obtain ⟨j, m', hjm, rfl, e'⟩ := hT
          have : m = m' := nIi (by omega) (by omega) e'
          subst this
          have H : ∃ f : Nat → Nat → Int32, jcp YX σ (some (66 + 2 * d)) (nI i) (some (66 + 2 * e)) (nI j) (nI m) = some (f, σ.2.1, σ.2.2) ∧ (∀ id k, id ≠ 66 + 2 * e → f id k = σ.1 id k) ∧ ∀ k, f (66 + 2 * e) k = va_cpy (σ.1 (66 + 2 * d)) (σ.1 (66 + 2 * e)) i j m k := by
            refine ⟨(fun q k => if q = 66 + 2 * e then va_cpy (σ.1 (66 + 2 * d)) (σ.1 (66 + 2 * e)) i j m k else σ.1 q k), ?_, fun id k hq => if_neg hq, fun k => if_pos rfl⟩
            rw [jcp, jk_el hd, ob_s, jk_el he, ob_s, ln_e hd, ln_e he, nI_clamp (by omega), nI_clamp (by omega), nI_clamp (by omega), if_pos ⟨nI_pos' (by omega), nI_pos' (by omega), nI_pos' (by omega), by omega, by omega⟩]
          obtain ⟨f, hf1, hf2, hf3⟩ := H
          refine okJ (okE (x := (f, σ.2.1, σ.2.2)) hf1 (okR ?_))
          refine okM (m_c5 R hF hd he c3 c4 c5 (by omega) es (by omega) et him hjm) (fun q hq => ?_)
          obtain ⟨q1, τ1, R1, q2, q3⟩ := hq
          refine ⟨q1, N, R1.sh (d := e) (fun id k z1 z2 => hf2 id k z2) ⟨fun a k _ => by rw [q2], fun x hx => by rw [q3, if_neg (by omega)]⟩ he ?_⟩
          obtain ⟨⟨s1, s1'⟩, -, s2⟩ := R1.2.2.2 e he
          obtain ⟨k1, k2, f1, f2, g1, g2⟩ := s2 c4
          obtain ⟨-, -, -, -, g3, g4⟩ := (R1.2.2.2 d hd).2.2 c3
          have e1 : ∀ k, f (65 + 2 * e) k = σ.1 (65 + 2 * e) k := fun k => hf2 _ _ (by omega)
          unfold Shd
          rw [q2]
          simp only [e1, hf3, q3]
          refine ⟨⟨s1, s1'⟩, fun z => absurd (Eq.trans (Eq.symm c4) z) (by decide), fun _ => ⟨k1, k2, f1, f2, fun w hw => ?_, fun z w hw => ?_⟩⟩
          · by_cases q : j ≤ w ∧ w < j + m
            · rw [pk_cpy_in q.1 q.2, if_pos (by omega), g3 _ (by omega)]
              exact congrArg (τ1.2.1 27) (by omega)
            · rw [pk_cpy_out (by omega), if_neg (by omega)]; exact g1 w hw
          · by_cases q : j ≤ w ∧ w < j + m
            · rw [pk_cpy_in q.1 q.2]; exact g4 (Eq.trans c5 z) _ (by omega)
            · rw [pk_cpy_out (by omega)]; exact g2 z w hw
        · exact okY (x_st0 he (by omega) et hT (okT rfl (okR (m_c4 R hd he c3 c4 c5 (by omega) es (by omega) et (fun z => hT z.2)))))
      · exact okJ (x_sk hd (okY (x_st0 hd (by omega) es hS (okT rfl (okR (m_c4 R hd he c3 c4 c5 (by omega) es (by omega) et (fun z => hS z.1)))))))
    · refine okY (x_sh0 hc (okF sI_none (okT rfl (okR ?_))))
      unfold f_M_copy
      exact m_t R (fun τ1 R1 => okY (m_n1 (n := 8) hd (by decide) rfl (okF i1n (okY (m_n0 (n := 8) hc (by decide) rfl (okT rfl (okR ⟨rfl, N, R1⟩)))))))
  · refine okJ (x_k (okY (x_sh0 ho (okJ (x_k ?_)))))
    have fin : OkO (f_M_copy F τ 0 a b c x y) (fun q => (-1 : Int32) = q.1 ∧ Rel σ q.2) := by
      unfold f_M_copy
      exact m_t R (fun τ1 R1 => okY (m_n0 (n := 8) ho (by decide) rfl (okT rfl (okR ⟨rfl, N, R1⟩))))
    rcases px c (n := 8) (by decide) with ⟨e, he, rfl⟩ | hc
    · exact okY (x_sh1 he (okT rfl (okR fin)))
    · exact okY (x_sh0 hc (okT rfl (okR fin)))
end QP
