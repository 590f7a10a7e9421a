section ME
variable {d e : Int32} {i j k p g : Nat} {τ0 τ : Mm} {S : Hs} {F : Nat}
theorem m_sip {P : Int32 × Mm → Prop} (R : MS d e τ0 τ S) (hv : Iv S) (hp : p < sP S) (hg : g < sG S) (hh : sp S p 5 = nI g) (h : ∀ τ', MS d e τ0 τ' (sSip S p g) → P (sStr S g, τ')) : OkO (f_M_sipOne F τ 0 (nI p)) P := by
  have hG := R.G
  have hPP := R.P
  have c8 := (hv.2.2.2.2 p hp).2.2.2.2.2.2
  have c6 := (hv.2.2.2.1 g hg).2.2.2
  unfold f_M_sipOne
  refine okJ (m_r 13 (okJ (m_pA (k := 5) R hp (by decide) ?_)))
  rw [hh]
  refine okJ (m_k (okY (m_str R hv hg ?_)))
  refine okJ (m_r 3 (okJ (m_gA (k := 2) R hg (by decide) (okJ (m_wG (k := 2) R (by omega) (by decide) (fun τ1 R1 => ?_))))))
  refine okJ (m_r 15 (okJ (m_pA (k := 7) R1 hp (by decide) (okJ (m_wP (k := 7) R1 (by omega) (by decide) (fun τ2 R2 => ?_))))))
  refine okJ (m_r 6 (okJ (m_gA (k := 5) R2 hg (by decide) (okJ (m_wG (k := 5) R2 (by omega) (by decide) (fun τ3 R3 => ?_))))))
  refine okJ (m_r 16 (okJ (m_r 7 (okJ (m_gA (k := 6) R3 hg (by decide) (okJ ?_))))))
  have e6 : sg (uG (uP (uG S g 2 (sg S g 2 - 1)) p 7 (sp (uG S g 2 (sg S g 2 - 1)) p 7 + sStr S g)) g 5 (sg (uP (uG S g 2 (sg S g 2 - 1)) p 7 (sp (uG S g 2 (sg S g 2 - 1)) p 7 + sStr S g)) g 5 ||| ((1 : Int32) <<< (nI p &&& 31)))) g 6 = sg S g 6 := rfl
  have e8 : sp (uG (uP (uG S g 2 (sg S g 2 - 1)) p 7 (sp (uG S g 2 (sg S g 2 - 1)) p 7 + sStr S g)) g 5 (sg (uP (uG S g 2 (sg S g 2 - 1)) p 7 (sp (uG S g 2 (sg S g 2 - 1)) p 7 + sStr S g)) g 5 ||| ((1 : Int32) <<< (nI p &&& 31)))) p 8 = sp S p 8 := rfl
  have go : ∀ c : Int32, c = (if sp S p 8 = 0 then (if sg S g 6 = 0 then 0 else 1) else 1) → OkO (ob (jas YM τ3 (some 16) (nI p) c) fun u21 => ob (jgr YM 5 10 (some 0)) fun r22 => ob (jgr YM 5 19 (some 0)) fun r23 => ob (jal YM u21 r23 (nI p)) fun x24 => ob ((if x24 = (1 : Int32) then some (1 : Int32) else ob (jgr YM 5 10 (some 0)) fun r27 => ob (jal YM u21 r27 (nI g)) fun x28 => some x28) : Option (Int32)) fun q25 => ob (jas YM u21 r22 (nI g) q25) fun u29 => some (sStr S g, u29)) P := by
    intro c hc
    refine okJ (m_wP (k := 8) R3 (by omega) (by decide) (fun τ4 R4 => ?_))
    refine okJ (m_r 7 (okJ (m_r 16 (okJ (m_pA (k := 8) R4 hp (by decide) ?_)))))
    have e9 : ∀ T : Hs, sp (uP T p 8 c) p 8 = c := fun T => y2_s _ _ _ _
    rw [e9]
    have fin : ∀ τ5, MS d e τ0 τ5 (uG (uP (uG (uP (uG S g 2 (sg S g 2 - 1)) p 7 (sp (uG S g 2 (sg S g 2 - 1)) p 7 + sStr S g)) g 5 (sg (uP (uG S g 2 (sg S g 2 - 1)) p 7 (sp (uG S g 2 (sg S g 2 - 1)) p 7 + sStr S g)) g 5 ||| ((1 : Int32) <<< (nI p &&& 31)))) p 8 c) g 6 c) → P (sStr S g, τ5) := fun τ5 R5 => h τ5 (by unfold sSip; rw [← hc]; exact R5)
    refine okJ (okI (fun c1 => okR ?_) (fun c1 => okJ (m_r 7 (okJ (m_gA (k := 6) R4 hg (by decide) (okR ?_))))))
    · refine okJ (m_wG (k := 6) R4 (by omega) (by decide) (fun τ5 R5 => okR (fin τ5 ?_)))
      rw [c1] at R5 ⊢; exact R5
    · have c0 : c = 0 := by
        rw [hc] at c1 ⊢
        by_cases h1 : sp S p 8 = 0
        · rw [if_pos h1] at c1 ⊢
          by_cases h2 : sg S g 6 = 0
          · rw [if_pos h2]
          · rw [if_neg h2] at c1; exact absurd rfl c1
        · rw [if_neg h1] at c1; exact absurd rfl c1
      have z6 : sg S g 6 = 0 := by
        rw [hc] at c0
        by_cases h1 : sp S p 8 = 0
        · rw [if_pos h1] at c0
          by_cases h2 : sg S g 6 = 0
          · exact h2
          · rw [if_neg h2] at c0; exact absurd c0 (by decide)
        · rw [if_neg h1] at c0; exact absurd c0 (by decide)
      refine okJ (m_wG (k := 6) R4 (by omega) (by decide) (fun τ5 R5 => okR (fin τ5 ?_)))
      have e10 : ∀ T : Hs, sg (uP T p 8 c) g 6 = sg T g 6 := fun T => rfl
      rw [e10, e6, z6] at R5
      rw [c0] at R5 ⊢
      exact R5
  rw [e6]
  refine okI (fun c1 => okR (go 1 ?_)) (fun c1 => okJ (m_r 16 (okJ (m_pA (k := 8) R3 hp (by decide) (okR (go _ ?_))))))
  · rw [c1]
    by_cases h1 : sp S p 8 = 0
    · rw [if_pos h1]; rfl
    · rw [if_neg h1]
  · rw [e8]
    have z6 : sg S g 6 = 0 := c6.resolve_right c1
    rw [if_pos z6]
    rcases c8 with z | z <;> rw [z] <;> rfl
theorem m_lay {P : Int32 × Mm → Prop} (R : MS d e τ0 τ S) (hp : p < sP S) (hg : g < sG S) (hh : sp S p 5 = nI g) (h : ∀ τ', MS d e τ0 τ' (sLay S p g) → P (nI g, τ')) : OkO (f_M_layOne F τ 0 (nI p)) P := by
  have hG := R.G
  have hPP := R.P
  unfold f_M_layOne
  refine okJ (m_r 13 (okJ (m_pA (k := 5) R hp (by decide) ?_)))
  rw [hh]
  refine okJ (m_r 4 (okJ (m_r 12 (okJ (m_pA (k := 4) R hp (by decide) (okJ (m_wG (k := 3) R (by omega) (by decide) (fun τ1 R1 => ?_))))))))
  refine okJ (m_r 5 (okJ (m_s3 R1 (okJ (m_wG (k := 4) R1 (by omega) (by decide) (fun τ2 R2 => ?_))))))
  exact okJ (m_r 13 (okJ (m_wP (k := 5) R2 (by omega) (by decide) (fun τ3 R3 => okR (h τ3 R3)))))
theorem m_hold {P : Unit × Mm → Prop} (R : MS d e τ0 τ S) (hp : p < 6) (hg : g < 12) (h : ∀ τ', MS d e τ0 τ' (sHold S p g) → P ((), τ')) : OkO (f_M_hold F τ 0 (nI p) (nI g)) P := by
  unfold f_M_hold
  refine okJ (m_r 4 (okJ (m_wG (k := 3) R hg (by decide) (fun τ1 R1 => ?_))))
  refine okJ (m_r 5 (okJ (m_wG (k := 4) R1 hg (by decide) (fun τ2 R2 => ?_))))
  refine okJ (m_r 13 (okJ (m_wP (k := 5) R2 hp (by decide) (fun τ3 R3 => ?_))))
  exact okJ (m_r 14 (okJ (m_wP (k := 6) R3 hp (by decide) (fun τ4 R4 => okR (h τ4 R4)))))
theorem RM.new {t t' : Nat → Nat → Int32} {kd f l wh la : Int32} (R : RM d e t S) (hlt : sG S < 12) (h0 : t' 0 0 = nI (sG S + 1)) (h1 : ∀ j, j ≠ 0 → t' 0 j = t 0 j) (h2 : ∀ id i, 1 ≤ id → id < 17 → ¬ (id ≤ 7 ∧ i = sG S) → t' id i = t id i) (h3 : t' 1 (sG S) = kd ∧ t' 2 (sG S) = f ∧ t' 3 (sG S) = l ∧ t' 4 (sG S) = wh ∧ t' 5 (sG S) = la ∧ t' 6 (sG S) = 0 ∧ t' 7 (sG S) = 0) : RM d e t' (sNew S kd f l wh la) := by
  obtain ⟨a, b, c, g⟩ := R
  refine ⟨⟨hlt, a.2⟩, ⟨h0, ?_, ?_, ?_, ?_, ?_, ?_⟩, fun j m (hj : j < sG S + 1) hm => ?_, fun j m (hj : j < sP S) hm => ?_⟩
  · rw [h1 _ (by decide)]; exact b.2.1
  · rw [h1 _ (by decide)]; exact b.2.2.1
  · rw [h1 _ (by decide)]; exact b.2.2.2.1
  · rw [h1 _ (by decide)]; exact b.2.2.2.2.1
  · rw [h1 _ (by decide)]; exact b.2.2.2.2.2.1
  · rw [h1 _ (by decide)]; exact b.2.2.2.2.2.2
  · show t' (m + 1) j = nRow (sg S) (sG S) kd f l wh la 0 0 j m
    by_cases q : j = sG S
    · subst q
      obtain ⟨x1, x2, x3, x4, x5, x6, x7⟩ := h3
      rcases (by omega : m = 0 ∨ m = 1 ∨ m = 2 ∨ m = 3 ∨ m = 4 ∨ m = 5 ∨ m = 6) with rfl | rfl | rfl | rfl | rfl | rfl | rfl <;> simp [nRow, x1, x2, x3, x4, x5, x6, x7]
    · rw [nRow_o q, h2 _ _ (by omega) (by omega) (fun z => q z.2)]; exact c j m (by omega) hm
  · rw [h2 _ _ (by omega) (by omega) (fun z => by omega)]; exact g j m hj hm
theorem m_bring {P : Int32 × Mm → Prop} {kd f l wh : Int32} (R : MS d e τ0 τ S) (hlt : sG S < 12) (h : ∀ τ', MS d e τ0 τ' (sNew S kd f l wh (if (10 : Int32) ≤ wh then -4 else nI (sM S))) → P (nI (sG S), τ')) : OkO (f_M_bring F τ 0 kd f l wh) P := by
  have w : ∀ id, 1 ≤ id → id ≤ 7 → ∀ (u : Mm) v, jas YM u (some id) (nI (sG S)) v = some (y2 u.1 id (sG S) v, u.2.1, u.2.2) := fun id h1 h2 u v => as_e h1 (by omega) (by rw [ln12 h2]; exact hlt) (by omega)
  have r0 : ∀ (u : Mm) m, jgi YM 5 m u (some 0) = some (u.1 0 m) := fun _ _ => rfl
  have p0 : ∀ (u : Mm) m v, jpi YM 5 m u (some 0) v = some (y2 u.1 0 m v, u.2.1, u.2.2) := fun _ _ _ => rfl
  have g4 : jgr YM 5 4 (some 0) = some (some 1) := rfl
  have g5 : jgr YM 5 5 (some 0) = some (some 2) := rfl
  have g6 : jgr YM 5 6 (some 0) = some (some 3) := rfl
  have g7 : jgr YM 5 7 (some 0) = some (some 4) := rfl
  have g8 : jgr YM 5 8 (some 0) = some (some 5) := rfl
  have g9 : jgr YM 5 9 (some 0) = some (some 6) := rfl
  have g10 : jgr YM 5 10 (some 0) = some (some 7) := rfl
  have s0 := R.1.2.1.1
  have s3 := R.1.2.1.2.2.2.1
  have ne : ∀ (t : Nat → Nat → Int32) id i v m, 1 ≤ id → y2 t id i v 0 m = t 0 m := fun t id i v m hid => y2_i _ _ (by omega)
  unfold f_M_bring
  simp only [r0, s0, g4, g5, g6, g7, g8, g9, g10, ob_s, w 1 (by decide) (by decide), w 2 (by decide) (by decide), w 3 (by decide) (by decide), w 4 (by decide) (by decide), w 5 (by decide) (by decide), w 6 (by decide) (by decide), w 7 (by decide) (by decide), p0, L2, ne _ 1 _ _ _ (by decide), ne _ 2 _ _ _ (by decide), ne _ 3 _ _ _ (by decide), ne _ 4 _ _ _ (by decide), ne _ 5 _ _ _ (by decide), ne _ 6 _ _ _ (by decide), ne _ 7 _ _ _ (by decide), s3, nI_1]
  refine okR (h _ ⟨RM.new R.1 hlt ?_ (fun j hj => ?_) (fun id i a b c => ?_) ?_, ?_, R.2.2⟩)
  · dsimp only; rw [y2_s]
  · dsimp only; rw [y2_k _ _ hj]; simp only [ne _ 1 _ _ _ (by decide), ne _ 2 _ _ _ (by decide), ne _ 3 _ _ _ (by decide), ne _ 4 _ _ _ (by decide), ne _ 5 _ _ _ (by decide), ne _ 6 _ _ _ (by decide), ne _ 7 _ _ _ (by decide)]
  · dsimp only
    rw [y2_i _ _ (by omega), y2_o _ _ (by omega), y2_o _ _ (by omega), y2_o _ _ (by omega), y2_o _ _ (by omega), y2_o _ _ (by omega), y2_o _ _ (by omega), y2_o _ _ (by omega)]
  · refine ⟨?_, ?_, ?_, ?_, ?_, ?_, ?_⟩ <;> simp [y2]
  · exact FrM.s (FrM.a (FrM.a (FrM.a (FrM.a (FrM.a (FrM.a (FrM.a R.2.1 (by decide) (by decide)) (by decide) (by decide)) (by decide) (by decide)) (by decide) (by decide)) (by decide) (by decide)) (by decide) (by decide)) (by decide) (by decide)) (Or.inl (by decide))
theorem ac3 (a b : Int32) : a + b + 1 = a + 1 + b := by rw [Int32.add_assoc, Int32.add_comm b 1, ← Int32.add_assoc]
theorem m_take {P : Int32 × Mm → Prop} (R : MS d e τ0 τ S) (hv : Iv S) (hp : p < sP S) (hF : 100 ≤ F) (h : ∀ τ', MS d e τ0 τ' (sTake S p).2 → P ((sTake S p).1, τ')) : OkO (f_M_takeOne F τ 0 (nI p)) P := by
  have hG := R.G
  have hPP := R.P
  have hT := hv.2.1
  have sc := R.1.2.1
  unfold f_M_takeOne
  refine okJ (m_k (okY (m_ch R hv hp hF ?_)))
  cases ec : sCh S p with
  | some g =>
    have hg := (sCh_in ec).1
    have ek : sTake S p = (nI g, sHold (uC S (if nI g = sp S p 6 then sMi S else sMi S + 1) (sFr S) (sLo S)) p g) := by unfold sTake; rw [ec]
    rw [ek] at h
    refine okF (nI_pos (by omega)) (okJ (m_s20 R (okJ (m_r 14 (okJ (m_pA (k := 6) R hp (by decide) (okJ ?_)))))))
    have go : ∀ q : Int32, sMi S + d + q = (if nI g = sp S p 6 then sMi S else sMi S + 1) + d → OkO (ob (jpi YM 5 20 τ (some 0) (sMi S + d + q)) fun u23 => ob (jk YM 5 (some 0)) fun t => yb (f_M_hold F u23 t (nI p) (nI g)) fun _ u25 => some (nI g, u25)) P := by
      intro q hq
      rw [hq]
      refine okJ (m_wS (d' := d) (e' := e) (uC S (if nI g = sp S p 6 then sMi S else sMi S + 1) (sFr S) (sLo S)) R (fun τ1 R1 => okJ (m_k (okY (m_hold R1 (by omega) (by omega) (fun τ2 R2 => okR (h τ2 R2)))))) (Or.inr (Or.inl rfl)) ⟨Nat.le_refl _, Nat.le_refl _⟩ rfl rfl ⟨?_, ?_, ?_, ?_, ?_, ?_, ?_⟩)
      · rw [y2_k _ _ (by decide)]; exact sc.1
      · rw [y2_k _ _ (by decide)]; exact sc.2.1
      · rw [y2_k _ _ (by decide)]; exact sc.2.2.1
      · rw [y2_k _ _ (by decide)]; exact sc.2.2.2.1
      · rw [y2_s]; rfl
      · rw [y2_k _ _ (by decide)]; exact sc.2.2.2.2.2.1
      · rw [y2_k _ _ (by decide)]; exact sc.2.2.2.2.2.2
    refine okI (fun c => okR (go 0 ?_)) (fun c => okR (go 1 ?_))
    · rw [if_pos (show nI g = sp S p 6 from c), Int32.add_zero]
    · rw [if_neg (show ¬ nI g = sp S p 6 from c)]; exact ac3 _ _
  | none =>
    have ek : sTake S p = if sT S = 0 ∨ sG S = 12 then (-4, S) else (nI (sG S), sTray S p) := by unfold sTake; rw [ec]
    have no : sT S = 0 ∨ sG S = 12 → P (-4, τ) := fun c => by rw [ek, if_pos c] at h; exact h τ R
    refine okT (by show (-4 : Int32) < 0; decide) (okJ (m_s2 R (okI (fun c => okR (no (Or.inl (nIi (by omega) (by decide) c)))) (fun c => okJ (m_s0 R (okI (fun c2 => okR (no (Or.inr (nIi (by omega) (by decide) c2)))) (fun c2 => ?_)))))))
    have ht : 0 < sT S := by
      rcases Nat.eq_zero_or_pos (sT S) with z | z
      · exfalso; apply c; rw [z]; rfl
      · exact z
    have hlt : sG S < 12 := by
      rcases Nat.lt_or_ge (sG S) 12 with z | z
      · exact z
      · exfalso; apply c2; have : sG S = 12 := by omega
        rw [this]; rfl
    have k' : ∀ τ', MS d e τ0 τ' (sTray S p) → P (nI (sG S), τ') := by
      rw [ek, if_neg (by omega)] at h; exact h
    have e1 : nI (sT S) - 1 = nI (sT S - 1) := by rw [show (1 : Int32) = nI 1 from rfl, pk_sub (by omega)]
    refine okJ (m_s2 R ?_)
    rw [e1]
    refine okJ (m_wS (d' := d) (e' := e) (uN S (sG S) (sP S) (sM S) (sT S - 1)) R (fun τ1 R1 => ?_) (Or.inl (by decide)) ⟨Nat.le_refl _, Nat.le_refl _⟩ rfl rfl ⟨?_, ?_, ?_, ?_, ?_, ?_, ?_⟩)
    · have em : nI (sT S - 1) - nI (sT S - 1) / 10 * 10 = nI ((sT S - 1) % 10) := by
        rw [show (10 : Int32) = nI 10 from rfl, pk_rem (by omega) (by decide) (by decide)]
      refine okJ (m_s2 R1 (okJ (okrm (by decide) ?_)))
      show OkO (ob (jk YM 5 (some 0)) fun t => yb (f_M_bring F τ1 t 0 (nI (sT S - 1) - nI (sT S - 1) / 10 * 10) 9 (10 + nI p)) _) P
      rw [em]
      refine okJ (m_k (okY (m_bring R1 hlt (fun τ2 R2 => ?_))))
      have e10 : (10 : Int32) ≤ 10 + nI p := by
        rw [show (10 : Int32) = nI 10 from rfl, nI_add]; exact nI_le (by omega) (by omega)
      rw [if_pos e10] at R2
      refine okJ (m_k (okY (m_hold (g := sG S) R2 (by omega) hlt (fun τ3 R3 => ?_))))
      refine okJ (m_s21 R3 ?_)
      have sc3 := R3.1.2.1
      refine okJ (m_wS (d' := d) (e' := e) (sTray S p) ⟨R3.1.cg (T := uP (uP ((sG S + 1, sP S, sM S, sT S - 1), (sMi S, sFr S, sLo S), nRow (sg S) (sG S) 0 (nI ((sT S - 1) % 10)) 9 (10 + nI p) (-4) 0 0, sp S) p 5 (nI (sG S))) p 6 (nI (sG S))) rfl rfl (fun i m _ _ => ?_) (fun i m _ _ => rfl), R3.2⟩ (fun τ4 R4 => okR (k' τ4 R4)) (Or.inr (Or.inr rfl)) ⟨Nat.le_refl _, Nat.le_refl _⟩ rfl rfl ⟨?_, ?_, ?_, ?_, ?_, ?_, ?_⟩)
      · show nRow (sg S) (sG S) 0 (nI ((sT S - 1) % 10)) 9 (10 + nI p) (-4) 0 0 i m = y2 (y2 (nRow (sg S) (sG S) 0 (nI ((sT S - 1) % 10)) 9 (10 + nI p) (-4) 0 0) (sG S) 3 (10 + nI p)) (sG S) 4 (-4) i m
        by_cases q4 : m = 4 ∧ i = sG S
        · obtain ⟨rfl, rfl⟩ := q4; rw [y2_s]; simp [nRow]
        · rw [y2_o _ _ q4]
          by_cases q3 : m = 3 ∧ i = sG S
          · obtain ⟨rfl, rfl⟩ := q3; rw [y2_s]; simp [nRow]
          · rw [y2_o _ _ q3]
      · rw [y2_k _ _ (by decide)]; exact sc3.1
      · rw [y2_k _ _ (by decide)]; exact sc3.2.1
      · rw [y2_k _ _ (by decide)]; exact sc3.2.2.1
      · rw [y2_k _ _ (by decide)]; exact sc3.2.2.2.1
      · rw [y2_k _ _ (by decide)]; exact sc3.2.2.2.2.1
      · rw [y2_s]; exact ac3 _ _
      · rw [y2_k _ _ (by decide)]; exact sc3.2.2.2.2.2.2
    · rw [y2_k _ _ (by decide)]; exact sc.1
    · rw [y2_k _ _ (by decide)]; exact sc.2.1
    · rw [y2_s]; rfl
    · rw [y2_k _ _ (by decide)]; exact sc.2.2.2.1
    · rw [y2_k _ _ (by decide)]; exact sc.2.2.2.2.1
    · rw [y2_k _ _ (by decide)]; exact sc.2.2.2.2.2.1
    · rw [y2_k _ _ (by decide)]; exact sc.2.2.2.2.2.2
end ME
