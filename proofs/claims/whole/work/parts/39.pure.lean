/-! PURE 39: counters only shift; minutes, fill, clear -/
def shc (a b : Int32) (S : Hs) : Hs := uC S (sMi S + a) (sFr S + b) (sLo S)
theorem i32_sw (x a : Int32) : x + 1 + a = x + a + 1 := by rw [Int32.add_assoc, Int32.add_comm 1 a, ← Int32.add_assoc]
theorem shc_take (a b : Int32) (S : Hs) (p : Nat) : (sTake (shc a b S) p).2 = shc a b (sTake S p).2 := by
  have e2 : sCh (shc a b S) p = sCh S p := rfl
  unfold sTake
  rw [e2]
  cases e : sCh S p with
  | some g =>
    dsimp only
    by_cases c : nI g = sp S p 6
    · have c' : nI g = sp (shc a b S) p 6 := c
      rw [if_pos c, if_pos c']
      rfl
    · have c' : ¬ nI g = sp (shc a b S) p 6 := c
      rw [if_neg c, if_neg c']
      show sHold (uC (shc a b S) (sMi S + a + 1) (sFr S + b) (sLo S)) p g = shc a b (sHold (uC S (sMi S + 1) (sFr S) (sLo S)) p g)
      rw [← i32_sw]
      rfl
  | none =>
    dsimp only
    by_cases c : sT S = 0 ∨ sG S = 12
    · have c' : sT (shc a b S) = 0 ∨ sG (shc a b S) = 12 := c
      rw [if_pos c, if_pos c']
    · have c' : ¬ (sT (shc a b S) = 0 ∨ sG (shc a b S) = 12) := c
      rw [if_neg c, if_neg c']
      show sTray (shc a b S) p = shc a b (sTray S p)
      have e3 : sTray (shc a b S) p = uC (sTray S p) (sMi S + a) (sFr S + b + 1) (sLo S) := rfl
      rw [e3, ← i32_sw]
      rfl
theorem shc_step (a b : Int32) (S : Hs) (p : Nat) : sStep (shc a b S) p = shc a b (sStep S p) := by
  rcases Classical.em (¬ nI (sM S) = 0 ∧ isM (nI (sM S)) (sp S p 2)) with c | c
  · have e1 : sStep S p = uP S p 4 (plB (sp S p 4) (sLo S)) := if_pos c
    have e2 : sStep (shc a b S) p = uP (shc a b S) p 4 (plB (sp S p 4) (sLo S)) := if_pos c
    rw [e2, e1]
    rfl
  · have e1 : sStep S p = S := if_neg c
    have e2 : sStep (shc a b S) p = shc a b S := if_neg c
    rw [e2, e1]
theorem shc_l1 (a b : Int32) (S : Hs) (p g : Nat) : sLive1 (shc a b S) p g = shc a b (sLive1 S p g) := by
  rcases Classical.em (isM (nI (sM S)) (sp S p 0) ∧ ¬ sg S g 2 ≤ 0) with c | c
  · have e1 : sLive1 S p g = sSip S p g := if_pos c
    have e2 : sLive1 (shc a b S) p g = sSip (shc a b S) p g := if_pos c
    rw [e2, e1]
    rfl
  · have e1 : sLive1 S p g = S := if_neg c
    have e2 : sLive1 (shc a b S) p g = shc a b S := if_neg c
    rw [e2, e1]
theorem shc_l2 (a b : Int32) (S : Hs) (p g : Nat) : sLive2 (shc a b S) p g = shc a b (sLive2 S p g) := by
  rcases Classical.em (¬ nI (sM S) = 0 ∧ isM (nI (sM S)) (sp S p 1)) with c | c
  · have e1 : sLive2 S p g = sLay S p g := if_pos c
    have e2 : sLive2 (shc a b S) p g = sLay (shc a b S) p g := if_pos c
    rw [e2, e1]
    rfl
  · have e1 : sLive2 S p g = S := if_neg c
    have e2 : sLive2 (shc a b S) p g = shc a b S := if_neg c
    rw [e2, e1]
theorem shc_l3 (a b : Int32) (S : Hs) (p : Nat) : sLive3 (shc a b S) p = shc a b (sLive3 S p) := by
  unfold sLive3
  by_cases c : sp S p 5 < 0
  · have c' : sp (shc a b S) p 5 < 0 := c
    rw [if_pos c, if_pos c', shc_take]
  · have c' : ¬ sp (shc a b S) p 5 < 0 := c
    rw [if_neg c, if_neg c', ← shc_l2, ← shc_l1]
    rfl
theorem shc_live (a b : Int32) (S : Hs) (p : Nat) : sLive p (shc a b S) = shc a b (sLive p S) := by
  unfold sLive
  rw [shc_step, shc_l3]
theorem shc_it (a b : Int32) (S : Hs) : ∀ i, it sLive (shc a b S) i = shc a b (it sLive S i) := by
  intro i
  induction i with
  | zero => rfl
  | succ i ih => rw [it_s, it_s, ih, shc_live]
theorem shc_min (a b : Int32) (S : Hs) : sMin (shc a b S) = shc a b (sMin S) := by
  have e := shc_it a b S (sP S)
  show (let T := it sLive (shc a b S) (sP S); uN T (sG T) (sP T) (sM T + 1) (sT T)) = _
  rw [e]
  rfl
theorem shc_pass (a b : Int32) (S : Hs) : ∀ n, sPass (shc a b S) n = shc a b (sPass S n) := by
  intro n
  induction n with
  | zero => rfl
  | succ n ih =>
    show sMin (sPass (shc a b S) n) = shc a b (sMin (sPass S n))
    rw [ih, shc_min]
theorem shc_0 (S : Hs) (m f : Int32) : uC S m f (sLo S) = shc (m - sMi S) (f - sFr S) S := by
  have key : ∀ x y : Int32, x + (y - x) = y := fun x y => by rw [Int32.add_comm, Int32.sub_add_cancel]
  unfold shc
  rw [key, key]
theorem RM.sh {d e a b : Int32} {t : Nat → Nat → Int32} {S : Hs} (R : RM d e t (shc a b S)) : RM (a + d) (b + e) t S := by
  obtain ⟨x, ⟨b0, b1, b2, b3, b20, b21, b22⟩, c, f⟩ := R
  refine ⟨x, ⟨b0, b1, b2, b3, ?_, ?_, b22⟩, c, f⟩
  · rw [b20]; exact Int32.add_assoc _ _ _
  · rw [b21]; exact Int32.add_assoc _ _ _
theorem MS.sh {d e a b : Int32} {τ0 τ : Mm} {S : Hs} (R : MS d e τ0 τ (shc a b S)) : MS (a + d) (b + e) τ0 τ S := ⟨R.1.sh, R.2⟩
def filF (pl : Int32) (i : Nat) (s : Int32 × Hs) : Int32 × Hs := if sg s.2 i 3 = pl then (if 5 ≤ sg s.2 i 2 then s else (s.1 + 1, uG s.2 i 2 9)) else s
def cleF (pl m : Int32) (i : Nat) (s : Int32 × Hs) : Int32 × Hs := if sg s.2 i 3 = pl then (if nI (sM s.2) - sg s.2 i 4 < m then s else (s.1 + 1, sSink s.2 i)) else s
def Kp (S T : Hs) : Prop := T.1 = S.1 ∧ T.2.1 = S.2.1 ∧ (Iv T ∧ Lv T)
theorem fil_k {S : Hs} {pl : Int32} (hv : Iv S ∧ Lv S) : ∀ i, i ≤ sG S → Kp S (it (filF pl) (0, S) i).2 := by
  intro i hi
  refine it_p (f := filF pl) (a := (0, S)) (fun i T => Kp S T.2) ⟨rfl, rfl, hv⟩ (N := sG S) (fun i T hi h => ?_) i hi
  unfold filF
  by_cases c : sg T.2 i 3 = pl
  · rw [if_pos c]
    by_cases c2 : 5 ≤ sg T.2 i 2
    · rw [if_pos c2]; exact h
    · rw [if_neg c2]
      exact ⟨h.1, h.2.1, Iv.g (k := 2) h.2.2.1 (fun z => absurd z (by decide)) (fun _ => ⟨9, by decide, rfl⟩) (fun z => absurd z (by decide)) (fun z => absurd z (by decide)), Lv.g h.2.2.2 (by decide) (by decide)⟩
  · rw [if_neg c]; exact h
theorem cle_k {S : Hs} {pl m : Int32} (hv : Iv S ∧ Lv S) : ∀ i, i ≤ sG S → Kp S (it (cleF pl m) (0, S) i).2 := by
  intro i hi
  refine it_p (f := cleF pl m) (a := (0, S)) (fun i T => Kp S T.2) ⟨rfl, rfl, hv⟩ (N := sG S) (fun i T hi h => ?_) i hi
  unfold cleF
  by_cases c : sg T.2 i 3 = pl
  · rw [if_pos c]
    by_cases c2 : nI (sM T.2) - sg T.2 i 4 < m
    · rw [if_pos c2]; exact h
    · rw [if_neg c2]
      exact ⟨h.1, h.2.1, sSink_Iv h.2.2.1, sSink_Lv h.2.2.2⟩
  · rw [if_neg c]; exact h
theorem Kp.g {S T : Hs} (h : Kp S T) : sG T = sG S := by show T.1.1 = _; rw [h.1]
theorem Kp.p {S T : Hs} (h : Kp S T) : sP T = sP S := by show T.1.2.1 = _; rw [h.1]
theorem Kp.m {S T : Hs} (h : Kp S T) : sM T = sM S := by show T.1.2.2.1 = _; rw [h.1]
theorem Kp.l {S T : Hs} (h : Kp S T) : sLo T = sLo S := by show T.2.1.2.2 = _; rw [h.2.1]
section QC
variable {N S : Hs} {μ0 μ σ τ : Mm} {F g j h p : Nat}
theorem q_fill (a : Int32) (R : Rl N σ τ) (hF : 100 ≤ F) : Ag (f_X_fill F σ 0 a) (f_M_fill F τ 0 a) := by
  have X := R.x
  have hv := R.1.2.1
  have hG := X.G
  unfold Ag f_X_fill f_M_fill
  rcases px a (n := 6) (by decide) with ⟨pl, hpl, rfl⟩ | ho
  · refine okY (x_isb1 (n := 6) hpl (by decide) (okF i1n ?_))
    refine lpA (A := Int32) (L := fun n u b i => f_X_fill_L15 F (some 0) (nI pl) _ n u b i) (sG N) (fun i u b => b = (it (filF (nI pl)) (0, N) i).1 ∧ XS 0 σ u (it (filF (nI pl)) (0, N) i).2) (fun n u b hQ => ?_) (fun n i u b hi hQ hk => ?_) (sG N) 0 F σ 0 (by omega) (by omega) ⟨rfl, X⟩
    · obtain ⟨hb, X'⟩ := hQ
      have K := fil_k (pl := nI pl) hv (sG N) (Nat.le_refl _)
      simp only [f_X_fill_L15]
      refine okJ (x_r (hI 0) (okJ (x_s2 X' (by decide) ?_)))
      rw [K.g]
      refine okT (nI_le (Nat.le_refl _) (by omega)) (okR ?_)
      refine m_t R (fun τ1 R1 => ?_)
      obtain ⟨d, e, M⟩ := R1.m
      refine okY (m_isW1 hpl (okF i1n ?_))
      refine lpA (A := Int32) (L := fun n u b i => f_M_fill_L18 F (some 0) (nI pl) _ n u b i) (sG N) (fun i u b => b = (it (filF (nI pl)) (0, N) i).1 ∧ MS d e τ1 u (it (filF (nI pl)) (0, N) i).2) (fun n u b hQ => ?_) (fun n i u b hi hQ hk => ?_) (sG N) 0 F τ1 0 (by omega) (by omega) ⟨rfl, M⟩
      · obtain ⟨hb2, M'⟩ := hQ
        simp only [f_M_fill_L18]
        refine okJ (m_s0 M' ?_)
        rw [K.g]
        refine okT (nI_le (Nat.le_refl _) (by omega)) (okR ⟨by rw [hb, hb2], ?_⟩)
        exact R1.both X' M' K.2.2 (K.l.trans R.1.2.2.1) (by rw [K.m]; exact R.1.2.2.2.1)
      · obtain ⟨hb2, M'⟩ := hQ
        have K := fil_k (pl := nI pl) hv i (by omega)
        rw [it_s] at hk
        generalize it (filF (nI pl)) (0, N) i = T at hk hb2 M' K
        have hi2 : i < sG T.2 := by rw [K.g]; exact hi
        subst hb2
        have same : uG T.2 i 2 (sg T.2 i 2) = T.2 := by
          unfold uG
          refine Prod.ext rfl (Prod.ext rfl (Prod.ext ?_ rfl))
          funext x y
          show y2 (sg T.2) i 2 (sg T.2 i 2) x y = sg T.2 x y
          by_cases q : y = 2 ∧ x = i
          · obtain ⟨rfl, rfl⟩ := q; rw [y2_s]
          · rw [y2_o _ _ q]
        simp only [f_M_fill_L18]
        refine okJ (m_s0 M' ?_)
        rw [K.g]
        refine okF (nI_ge hi (by omega)) (okJ (m_r 4 (okJ (m_gA (k := 3) M' hi2 (by decide) (okJ ?_)))))
        refine okI (fun c => okJ (m_r 3 (okJ (m_gA (k := 2) M' hi2 (by decide) (okI (fun c2 => okR ?_) (fun c2 => okR ?_)))))) (fun c => okR ?_)
        · refine okJ (m_r 3 (okJ (okT rfl (okJ (m_r 3 (okJ (m_gA (k := 2) M' hi2 (by decide) (okR (okJ (m_wG (k := 2) M' (by omega) (by decide) (fun τ' M2 => okJ (okT rfl (okR (okJ (okR (okJ (okR ?_))))))))))))))))) 
          rw [nI_1]
          refine hk τ' _ ⟨?_, ?_⟩
          · unfold filF; rw [if_pos c, if_pos c2]; exact Int32.add_zero _
          · unfold filF; rw [if_pos c, if_pos c2]; rw [same] at M2; exact M2
        · refine okJ (m_r 3 (okJ (okF i1n (okR (okJ (m_wG (k := 2) M' (by omega) (by decide) (fun τ' M2 => okJ (okF i1n (okR (okJ (okR (okJ (okR ?_))))))))))))) 
          rw [nI_1]
          refine hk τ' _ ⟨?_, ?_⟩
          · unfold filF; rw [if_pos c, if_neg c2]
          · unfold filF; rw [if_pos c, if_neg c2]; exact M2
        · refine okJ (m_r 3 (okJ (okT rfl (okJ (m_r 3 (okJ (m_gA (k := 2) M' hi2 (by decide) (okR (okJ (m_wG (k := 2) M' (by omega) (by decide) (fun τ' M2 => okJ (okT rfl (okR (okJ (okR (okJ (okR ?_))))))))))))))))) 
          rw [nI_1]
          refine hk τ' _ ⟨?_, ?_⟩
          · unfold filF; rw [if_neg c]; exact Int32.add_zero _
          · unfold filF; rw [if_neg c]; rw [same] at M2; exact M2
    · obtain ⟨hb, X'⟩ := hQ
      have K := fil_k (pl := nI pl) hv i (by omega)
      rw [it_s] at hk
      generalize it (filF (nI pl)) (0, N) i = T at hk hb X' K
      have hi2 : i < sG T.2 := by rw [K.g]; exact hi
      subst hb
      simp only [f_X_fill_L15]
      refine okJ (x_r (hI 0) (okJ (x_s2 X' (by decide) ?_)))
      rw [K.g]
      refine okF (nI_ge hi (by omega)) (okJ (x_r (hI 0) (okJ (x_h (by decide) (okY (x_glassAt X' (by decide) hi2 (okJ (okF sI_none (okJ (x_gG (k := 3) X' (by decide) hi2 (by decide) (by decide) ?_)))))))))) 
      refine okI (fun c => okJ (x_gG (k := 2) X' (by decide) hi2 (by decide) (by decide) (okI (fun c2 => okR (okJ (okR ?_))) (fun c2 => okJ (x_wG (k := 2) X' (by decide) hi2 (by decide) (by decide) (fun σ' X2 => okJ (okR (okR (okJ (okR ?_))))))))) ) (fun c => okR (okJ (okR ?_)))
      · rw [nI_1]
        refine hk u _ ?_
        unfold filF; rw [if_pos c, if_pos c2]; exact ⟨rfl, X'⟩
      · rw [nI_1]
        refine hk σ' _ ?_
        unfold filF; rw [if_pos c, if_neg c2]; exact ⟨rfl, X2⟩
      · rw [nI_1]
        refine hk u _ ?_
        unfold filF; rw [if_neg c]; exact ⟨rfl, X'⟩
  · refine okY (x_isb0 (n := 6) ho (okT rfl (okR ?_)))
    refine m_t R (fun τ1 R1 => okY (m_isW0 ho (okT rfl (okR ⟨rfl, N, R1⟩))))
end QC
