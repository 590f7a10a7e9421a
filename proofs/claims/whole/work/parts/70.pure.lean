/-! PURE 70: a text's house; house -/
noncomputable def sBd (B : Nat → Int32) (n : Nat) (S : Hs) : Nat → Option Hs
  | 0 => some S
  | k + 1 => match sBd B n S k with
    | none => none
    | some T => sSt B (pS B n k) T
section RV
variable {h i j p g F d n x k K : Nat} {μ0 μ τ0 τ u σ σ' τ' : Mm} {S T N : Hs} {dd ee : Int32} {B : Nat → Int32}
theorem sBd_s (e : sBd B n S k = some T) : sBd B n S (k + 1) = sSt B (pS B n k) T := by
  show (match sBd B n S k with
    | none => none
    | some T => sSt B (pS B n k) T) = _
  rw [e]
theorem sBd_n (e : sBd B n S k = none) : ∀ r, sBd B n S (k + r) = none := by
  intro r
  induction r with
  | zero => exact e
  | succ r ih =>
    show (match sBd B n S (k + r) with
      | none => none
      | some T => sSt B (pS B n (k + r)) T) = none
    rw [ih]
theorem sBd_u {k' : Nat} {T' : Hs} (e : sBd B n S k = some T) (e2 : sSt B (pS B n k) T = none) (f : sBd B n S k' = some T') : k' ≤ k := by
  rcases Nat.lt_or_ge k k' with q | q
  · have z := sBd_n ((sBd_s e).trans e2) (k' - (k + 1))
    rw [show k + 1 + (k' - (k + 1)) = k' by omega, f] at z
    cases z
  · exact q
theorem sBd_i (fl : Fl B n K) (hv : Hv S) : ∀ k T, k ≤ K → sBd B n S k = some T → Hv T := by
  intro k
  induction k with
  | zero => intro T _ h; cases h; exact hv
  | succ k ih =>
    intro T hk h
    cases e : sBd B n S k with
    | none =>
      have := sBd_n e 1
      rw [h] at this; cases this
    | some U =>
      rw [sBd_s e] at h
      exact sSt_i (fl.2.1 k (by omega)) (ih U (by omega) e) h
theorem Fl_p (fl : Fl B n K) (hk : k < K) : pS B n k < n := by
  rcases Nat.eq_zero_or_pos k with z | z
  · subst z
    have := Fl_le fl
    have := fl.1
    show 0 < n
    omega
  · exact fl.2.2.1 k z hk
theorem t_build {P : Int32 × Mm → Prop} (hd : d < 8) (hn : n ≤ 100) (en : σ.1 (65 + 2 * d) 4 = nI n) (eB : σ.1 (66 + 2 * d) = B) (R : XS 1 σ u S) (hv : Hv S) (hF : 3000 ≤ F) (fl : Fl B n K) (hA : ∀ k T u', k < K → sBd B n S k = some T → sSt B (pS B n k) T = none → XS 1 σ u' T → P (nI (pS B n k), u')) (hB : ∀ T u', sBd B n S K = some T → XS 1 σ u' T → P (-4, u')) : OkO (f_T_build F u (some (65 + 2 * d)) (some (hI 1))) P := by
  have hK := Fl_le fl
  have fr : ∀ {v : Mm} {T : Hs}, XS 1 σ v T → v.1 (65 + 2 * d) 4 = nI n ∧ v.1 (66 + 2 * d) = B := fun X => ⟨(X.2.1 _ _ (by omega)).trans en, by
    rw [← eB]; funext q; exact X.2.1 _ _ (by omega)⟩
  unfold f_T_build
  refine lpA (A := Int32) (L := fun m v a i => f_T_build_L4 F (some (65 + 2 * d)) (some (hI 1)) _ m v a i) K (fun i v a => a = nI (pS B n i) ∧ ∃ T, sBd B n S i = some T ∧ XS 1 σ v T) (fun m v a hq => ?_) (fun m i v a hi hq hk => ?_) K 0 F u 0 (by omega) (by omega) ⟨rfl, S, rfl, R⟩
  · obtain ⟨ha, T, e, X⟩ := hq
    subst ha
    obtain ⟨en1, eB1⟩ := fr X
    simp only [f_T_build_L4]
    refine okJ (x_sg 4 hd ?_)
    rw [en1]
    refine okI (fun _ => okR (hB T v e X)) (fun _ => okJ (x_sg 4 hd ?_))
    rw [en1, fl.2.2.2]
    exact okT (nI_le (Nat.le_refl _) (by omega)) (okR (hB T v e X))
  · obtain ⟨ha, T, e, X⟩ := hq
    subst ha
    obtain ⟨en1, eB1⟩ := fr X
    have hx := Fl_p fl hi
    have hvT := sBd_i fl hv i T (by omega) e
    have ok := fl.2.1 i hi
    have nx : ∀ T' v', sSt B (pS B n i) T = some T' → XS 1 σ v' T' → OkO (yb (f_T_digitsEnd F v' (some (65 + 2 * d)) (nI (pS B n i))) fun x11 u12 => ob (some (x11 + (1 : Int32))) fun (x13 : Int32) => ob (some (nI i + (1 : Int32))) fun (x14 : Int32) => f_T_build_L4 F (some (65 + 2 * d)) (some (hI 1)) (fun (u30 : Mm) => some ((-4 : Int32), u30)) m u12 x13 x14) P := by
      intro T' v' es X'
      obtain ⟨en2, eB2⟩ := fr X'
      refine okY (t_end hd hn en2 (by omega) (by omega) (okJ (okR (okJ (okR ?_)))))
      rw [eB2]
      dsimp only
      rw [nI_1 i, nI_1]
      exact hk v' _ ⟨rfl, T', (sBd_s e).trans es, X'⟩
    have ob1 : (B (pS B n i) = 109 → ¬ sM T < 999) → OkO (yb (f_T_obeys F v (some (hI 1)) (some (65 + 2 * d)) (nI (pS B n i))) fun x8 u9 => (if x8 = 0 then some (nI (pS B n i), u9) else yb (f_T_digitsEnd F u9 (some (65 + 2 * d)) (nI (pS B n i))) fun x11 u12 => ob (some (x11 + (1 : Int32))) fun (x13 : Int32) => ob (some (nI i + (1 : Int32))) fun (x14 : Int32) => f_T_build_L4 F (some (65 + 2 * d)) (some (hI 1)) (fun (u30 : Mm) => some ((-4 : Int32), u30)) m u12 x13 x14)) P := fun hm =>
      okY (t_ob hd hn en1 eB1 X hvT.1.1 ok hm (fun z => okT rfl (okR (hA i T v hi e z X))) (fun T' v' z X' => okF i1n (nx T' v' z X')))
    simp only [f_T_build_L4]
    refine okJ (x_sg 4 hd ?_)
    rw [en1]
    refine okF (nI_ge (by omega) (by omega)) (okJ (x_sg 4 hd ?_))
    rw [en1]
    refine okF (nI_ge hx (by omega)) (okY (t_at hd hn en1 (by omega) (fun _ c => ?_) (fun c => ?_)))
    · rw [eB1] at c
      refine okF i1n (okJ (x_s5 X (by decide) ?_))
      have hm := hvT.2.2
      by_cases c9 : sM T < 999
      · refine okF (nI_ge (a := sM T) (b := 999) c9 (by decide)) (okJ (x_h (by decide) (okY (x_pass (n := 1) X (by decide) hvT.1.1 (by decide) (by omega) (by omega) (fun v' X' => ?_)))))
        exact nx (sMin T) v' (by rw [sSt_m c, if_pos c9]) X'
      · exact okT (nI_le (a := 999) (by omega) (by omega)) (ob1 (fun _ => c9))
    · rw [eB1] at c
      exact okT rfl (ob1 (fun z => absurd ⟨hx, z⟩ c))
theorem m_bld {P : Int32 × Mm → Prop} {kk : Mm → Option (Int32 × Mm)} {u0 : Mm} (M : MS dd ee u0 u0 S) (hv : Hv S) (hF : 3000 ≤ F) (hn : n ≤ 100) (fl : Fl B n K) (e34 : u0.1 0 34 = nI K) (T0 : ∀ j, j < K → Td B n u0.1 j)
    (hA : ∀ k T S' u', k < K → sBd B n S k = some T → sSt B (pS B n k) T = none → MS dd ee u0 u' S' → sLo S' = -4 → OkO (ob (jk YM 5 (some 0)) fun t => yb (f_M_again F u' t) fun _ u34 => ob (jgr YM 5 35 (some 0)) fun (r35 : Option Nat) => ob (jal YM u34 r35 (nI k)) fun (x36 : Int32) => some (((-2000 : Int32) - x36), u34)) P)
    (hB : ∀ T u', sBd B n S K = some T → MS dd ee u0 u' T → OkO (kk u') P) : OkO (f_M_house_L105 F (some 0) kk F u0 0) P := by
  have hK := Fl_le fl
  refine lpA (A := Unit) (L := fun m v _ i => f_M_house_L105 F (some 0) kk m v i) K (fun i v _ => ∃ T, sBd B n S i = some T ∧ MS dd ee u0 v T) (fun m v a hq => ?_) (fun m i v a hi hq hk => ?_) K 0 F u0 () (by omega) (by omega) ⟨S, rfl, M⟩
  · obtain ⟨T, e, X⟩ := hq
    simp only [f_M_house_L105]
    refine okJ (m_x ?_)
    rw [X.2.1.2 34 (by decide) (by decide) (by decide), e34]
    exact okT (nI_le (Nat.le_refl _) (by omega)) (hB T v e X)
  · obtain ⟨T, e, X⟩ := hq
    simp only [f_M_house_L105]
    refine okJ (m_x ?_)
    rw [X.2.1.2 34 (by decide) (by decide) (by decide), e34]
    obtain ⟨t1, t2, t3⟩ := T0 i hi
    have tv : TV B n v.1 i (pS B n i) := by
      have q : ∀ y, v.1 21 y = u0.1 21 y := fun y => X.2.1.1 21 y (by decide)
      unfold TV
      simp only [q]
      exact t3
    refine okF (nI_ge hi (by omega)) (okJ (m_k (okY (m_ca X (sBd_i fl hv i T (by omega) e) (by omega) (by omega) (fl.2.1 i hi) ((X.2.1.1 20 i (by decide)).trans t2) tv (fun z S' u' M' hl => okT rfl (hA i T S' u' hi e z M' hl)) (fun T' u' z M' => okF i1n (okJ (okR ?_)))))))
    rw [nI_1 i]
    exact hk u' () ⟨T', (sBd_s e).trans z, M'⟩
theorem Rl.rd {bad : Int32} (R : Rl N σ τ) (H : Rd d n τ u x bad k) : Rl N σ u := by
  obtain ⟨⟨h1, h2, h3, h4, d', e', a, b, c, f⟩, h6, ⟨p1, p2, P2, p3, p4⟩, h8⟩ := R
  obtain ⟨-, q, q2⟩ := H
  have q0 : ∀ k, k < 30 → u.1 0 k = τ.1 0 k := fun k hk => q 0 k (by omega) (by decide) (by decide) (by decide)
  refine ⟨⟨h1, h2, h3, h4, d', e', a, ?_, fun i k hi hk => ?_, fun i k hi hk => ?_⟩, h6, ⟨?_, p2, P2, p3, fun z => ?_⟩, fun i hi => ?_⟩
  · simp only [q0 0 (by decide), q0 1 (by decide), q0 2 (by decide), q0 3 (by decide), q0 20 (by decide), q0 21 (by decide), q0 22 (by decide)]; exact b
  · rw [q _ _ (by omega) (by omega) (by omega) (by omega)]; exact c i k hi hk
  · rw [q _ _ (by omega) (by omega) (by omega) (by omega)]; exact f i k hi hk
  · rw [q0 26 (by decide)]; exact p1
  · obtain ⟨y1, y2, y3, y4⟩ := p4 z
    exact ⟨y1, y2, y3, y4.cg (fun i => q 18 i (by omega) (by decide) (by decide) (by decide))⟩
  · exact (h8 i hi).fr2 (fun _ => rfl) (fun _ => rfl) (fun a ha => q a i (by omega) (by omega) (by omega) (by omega)) (fun j hj => by rw [q2])
theorem m_open2 {P : Unit × Mm → Prop} (R : RM dd ee τ.1 S) (hF : 100 ≤ F) (h : ∀ τ', RM dd ee τ'.1 S → IM 17 τ'.1 S → FN τ τ' → τ'.1 0 34 = τ.1 0 34 → P ((), τ')) : OkO (f_M_open F τ 0) P := by
  unfold f_M_open
  refine okJ (m_r 17 (okJ (m_k (okY (m_keep (Or.inl rfl) R hF (fun τ' R' I' h1 h2 h3 => okR (h τ' R' I' ⟨fun a i ha => h1 a i (by omega) (by omega), h2 26 (by decide) (by decide), h3⟩ (h2 34 (by decide) (by decide)))))))))
theorem RM.toB {t : Nat → Nat → Int32} (R : RM dd ee t S) (hl : sLo S = -4) : RM (sMi S + dd) (sFr S + ee) t (uC S 0 0 (-4)) := by
  obtain ⟨a, ⟨b0, b1, b2, b3, b4, b5, b6⟩, c, f⟩ := R
  refine ⟨a, ⟨b0, b1, b2, b3, ?_, ?_, ?_⟩, c, f⟩
  · rw [b4]; exact (Int32.zero_add _).symm
  · rw [b5]; exact (Int32.zero_add _).symm
  · rw [b6, hl]; rfl
theorem m_hs {P : Int32 × Mm → Prop} (R : Rl N σ τ) (hd : d < 8) (hn : n ≤ 100) (c : σ.1 (65 + 2 * d) 0 = 2) (cs : σ.1 (65 + 2 * d) 3 = 0) (en : σ.1 (65 + 2 * d) 4 = nI n) (eB : σ.1 (66 + 2 * d) = B) (hF : 3000 ≤ F)
    (hA : ∀ k u', Rl N σ u' → Gd B n k → ¬ okS B n (pS B n k) → P (-1000 - nI (eV B n (pS B n k)), u'))
    (hG : ∀ K u', Rl N σ u' → Fl B n K → u'.1 0 34 = nI K → (∀ j, j < K → Td B n u'.1 j) → OkO (ob (jk YM 5 (some 0)) fun t => yb (f_M_open F u' t) fun _ u27 => f_M_house_L105 F (some 0) (fun (u38 : Mm) => ob (jgi YM 5 34 u38 (some 0)) fun (x39 : Int32) => some (x39, u38)) F u27 (0 : Int32)) P) : OkO (f_M_house F τ 0 (nI d)) P := by
  subst eB
  unfold f_M_house
  refine m_t R (fun τ1 R1 => okJ (m_k ?_))
  obtain ⟨⟨s1, -⟩, -, s2⟩ := R1.2.2.2 d hd
  obtain ⟨e25, -, e26, -, el, byt⟩ := s2 c
  have hB : RB d τ1 (σ.1 (66 + 2 * d)) := ⟨fun x hx => byt cs x hx, fun x hx => (el x hx).symm⟩
  unfold f_M_wrongSort
  refine okY (okJ (m_k (okY (m_wr1 hd ?_))))
  rw [← s1, c]
  refine okT (show (0 : Int32) ≤ 0 by decide) (okJ (m_r 25 (okJ (m_a 25 (by decide) (by decide) hd ?_))))
  rw [← e25, cs]
  refine okT rfl (okR (okT (show (0 : Int32) ≤ 0 by decide) ?_))
  have e100 : (100 : Int32) * nI d = nI (100 * d) := by rw [show (100 : Int32) = nI 100 from rfl, pk_mul]
  rw [e100]
  refine okJ (okR (x := (y2 τ1.1 0 30 (nI (100 * d)), τ1.2.1, τ1.2.2)) (okJ (m_r 26 (okJ (m_a 26 (by decide) (by decide) hd ?_)))))
  have e26' : y2 τ1.1 0 30 (nI (100 * d)) 26 d = nI n := by rw [y2_i _ _ (by decide), ← e26, en]
  show OkO (ob (jpi YM 5 31 _ (some 0) (y2 τ1.1 0 30 (nI (100 * d)) 26 d)) _) P
  rw [e26']
  refine okJ (okR (x := (y2 (y2 τ1.1 0 30 (nI (100 * d))) 0 31 (nI n), τ1.2.1, τ1.2.2)) (okJ (okR (x := (y2 (y2 (y2 τ1.1 0 30 (nI (100 * d))) 0 31 (nI n)) 0 32 0, τ1.2.1, τ1.2.2)) ?_)))
  refine okJ (okE (x := (y2 (y2 (y2 (y2 τ1.1 0 30 (nI (100 * d))) 0 31 (nI n)) 0 32 0) 0 33 0, τ1.2.1, τ1.2.2)) (by rw [jpz, if_pos (Or.inl rfl)]; rfl) ?_)
  refine okJ (okR (x := (y2 (y2 (y2 (y2 (y2 τ1.1 0 30 (nI (100 * d))) 0 31 (nI n)) 0 32 0) 0 33 0) 0 34 0, τ1.2.1, τ1.2.2)) ?_)
  have H : Rd d n τ1 (y2 (y2 (y2 (y2 (y2 τ1.1 0 30 (nI (100 * d))) 0 31 (nI n)) 0 32 0) 0 33 0) 0 34 0, τ1.2.1, τ1.2.2) 0 0 0 := by
    refine ⟨⟨?_, ?_, ?_, ?_, ?_⟩, fun a i q1 q2 q3 q4 => ?_, rfl⟩
    · show y2 (y2 (y2 (y2 (y2 τ1.1 0 30 (nI (100 * d))) 0 31 (nI n)) 0 32 0) 0 33 0) 0 34 0 0 30 = _
      rw [y2_k _ _ (by decide), y2_k _ _ (by decide), y2_k _ _ (by decide), y2_k _ _ (by decide), y2_s]
    · show y2 (y2 (y2 (y2 (y2 τ1.1 0 30 (nI (100 * d))) 0 31 (nI n)) 0 32 0) 0 33 0) 0 34 0 0 31 = _
      rw [y2_k _ _ (by decide), y2_k _ _ (by decide), y2_k _ _ (by decide), y2_s]
    · show y2 (y2 (y2 (y2 (y2 τ1.1 0 30 (nI (100 * d))) 0 31 (nI n)) 0 32 0) 0 33 0) 0 34 0 0 32 = _
      rw [y2_k _ _ (by decide), y2_k _ _ (by decide), y2_s]; rfl
    · show y2 (y2 (y2 (y2 (y2 τ1.1 0 30 (nI (100 * d))) 0 31 (nI n)) 0 32 0) 0 33 0) 0 34 0 0 33 = _
      rw [y2_k _ _ (by decide), y2_s]
    · show y2 (y2 (y2 (y2 (y2 τ1.1 0 30 (nI (100 * d))) 0 31 (nI n)) 0 32 0) 0 33 0) 0 34 0 0 34 = _
      rw [y2_s]; rfl
    · show y2 (y2 (y2 (y2 (y2 τ1.1 0 30 (nI (100 * d))) 0 31 (nI n)) 0 32 0) 0 33 0) 0 34 0 a i = _
      rw [y2_o _ _ (by omega), y2_o _ _ (by omega), y2_o _ _ (by omega), y2_o _ _ (by omega), y2_o _ _ (by omega)]
  refine m_read hd hn hB (by omega) H (fun k u' g nok R' => ?_) (fun K u' fl R' T => ?_)
  · refine okJ (m_x ?_)
    rw [R'.1.2.2.2.1]
    refine okF i1n (okJ (m_x ?_))
    rw [R'.1.2.2.1]
    exact okR (hA k u' (R1.rd R') g nok)
  · refine okJ (m_x ?_)
    rw [R'.1.2.2.2.1]
    exact okT rfl (hG K u' (R1.rd R') fl R'.1.2.2.2.2 T)
end RV
