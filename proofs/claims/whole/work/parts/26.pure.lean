/-! the class's changing methods -/
theorem RX.grow {h : Nat} {f : Nat → Nat → Int32} {S : Hs} (R : RX h f S) (hlt : sG S < 12) : RX h (y2 f (hI h) 2 (nI (sG S + 1))) ((sG S + 1, sP S, sM S, sT S), S.2.1, (fun x j => if x = sG S then f (gI h (sG S)) (j + 1) else sg S x j), sp S) := by
  obtain ⟨a, b, c, d, e, g⟩ := R
  have hk : ∀ j, j ≠ 2 → y2 f (hI h) 2 (nI (sG S + 1)) (hI h) j = f (hI h) j := fun j hj => y2_k _ _ hj
  refine ⟨⟨hlt, a.2⟩, ⟨y2_s _ _ _ _, ?_, ?_, ?_, ?_, ?_, ?_⟩, ⟨fun j hj => ?_, fun j hj => ?_⟩, fun j m (hj : j < sG S + 1) hm h4 => ?_, fun j (hj : j < sG S + 1) hl => ?_, fun j m (hj : j < sP S) hm => ?_⟩
  · rw [hk 3 (by decide)]; exact b.2.1
  · rw [hk 4 (by decide)]; exact b.2.2.1
  · rw [hk 5 (by decide)]; exact b.2.2.2.1
  · rw [hk 6 (by decide)]; exact b.2.2.2.2.1
  · rw [hk 7 (by decide)]; exact b.2.2.2.2.2.1
  · rw [hk 8 (by decide)]; exact b.2.2.2.2.2.2
  · rw [y2_i _ _ gh_ne]; exact c.1 j hj
  · rw [y2_i _ _ ph_ne]; exact c.2 j hj
  · rw [y2_i _ _ gh_ne]
    show _ = if j = sG S then f (gI h (sG S)) (m + 1) else sg S j m
    by_cases q : j = sG S
    · rw [if_pos q, q]
    · rw [if_neg q]; exact d j m (by omega) hm h4
  · rw [y2_i _ _ gh_ne]
    show _ = if j = sG S then f (gI h (sG S)) 5 else sg S j 4
    have hl2 : (if j = sG S then f (gI h (sG S)) 4 else sg S j 3) < 6 := hl
    by_cases q : j = sG S
    · rw [if_pos q, q]
    · rw [if_neg q] at hl2; rw [if_neg q]; exact e j (by omega) hl2
  · rw [y2_i _ _ ph_ne]; exact g j m hj hm
theorem RX.cg {h : Nat} {f : Nat → Nat → Int32} {S T : Hs} (R : RX h f S) (h1 : T.1 = S.1) (h2 : T.2.1 = S.2.1) (h3 : ∀ i k, i < sG S → k < 7 → sg T i k = sg S i k) (h4 : ∀ i k, i < sP S → k < 9 → sp T i k = sp S i k) : RX h f T := by
  obtain ⟨a, b, c, d, e, g⟩ := R
  obtain ⟨T1, T2, T3, T4⟩ := T
  dsimp only at h1 h2
  subst h1
  subst h2
  refine ⟨a, b, c, fun j m hj hm q => ?_, fun j hj hl => ?_, fun j m hj hm => ?_⟩
  · rw [h3 j m hj hm]; exact d j m hj hm q
  · rw [h3 j 3 hj (by decide)] at hl
    rw [h3 j 4 hj (by decide)]; exact e j hj hl
  · rw [h4 j m hj hm]; exact g j m hj hm
section XD
variable {h i j p g : Nat} {μ0 μ : Mm} {S : Hs} {F : Nat}
theorem x_sip {P : Int32 × Mm → Prop} (R : XS h μ0 μ S) (hh : h < 3) (hv : Iv S) (hp : p < sP S) (hg : g < sG S) (k : ∀ μ', XS h μ0 μ' (sSip S p g) → P (sStr S g, μ')) : OkO (f_U_sipFrom F μ (pI h p) (some (gI h g))) P := by
  have c8 := (hv.2.2.2.2 p hp).2.2.2.2.2.2
  have c6 := (hv.2.2.2.1 g hg).2.2.2
  unfold f_U_sipFrom
  refine okJ (x_g R hh hg (okY (x_str R hh hg ?_)))
  dsimp only
  refine okJ (x_gG (k := 2) R hh hg (by decide) (by decide) ?_)
  refine okJ (x_wG (k := 2) R hh hg (by decide) (by decide) (fun μ1 R1 => ?_))
  refine okJ (x_pG (k := 7) R1 hh hp (by decide) ?_)
  refine okJ (x_wP (k := 7) R1 hh hp (by decide) (fun μ2 R2 => ?_))
  refine okJ (x_gG (k := 5) R2 hh hg (by decide) (by decide) ?_)
  refine okJ (x_pN R2 hh hp ?_)
  refine okJ (x_wG (k := 5) R2 hh hg (by decide) (by decide) (fun μ3 R3 => ?_))
  refine okJ (x_pG (k := 8) R3 hh hp (by decide) ?_)
  have e8 : sp (uG (uP (uG S g 2 (sg S g 2 - 1)) p 7 (sp (uG S g 2 (sg S g 2 - 1)) p 7 + sStr S g)) g 5 (sg (uP (uG S g 2 (sg S g 2 - 1)) p 7 (sp (uG S g 2 (sg S g 2 - 1)) p 7 + sStr S g)) g 5 ||| ((1 : Int32) <<< (nI p &&& 31)))) p 8 = sp S p 8 := rfl
  have e6 : sg (uG (uP (uG S g 2 (sg S g 2 - 1)) p 7 (sp (uG S g 2 (sg S g 2 - 1)) p 7 + sStr S g)) g 5 (sg (uP (uG S g 2 (sg S g 2 - 1)) p 7 (sp (uG S g 2 (sg S g 2 - 1)) p 7 + sStr S g)) g 5 ||| ((1 : Int32) <<< (nI p &&& 31)))) g 6 = sg S g 6 := rfl
  have e5 : sg (uP (uG S g 2 (sg S g 2 - 1)) p 7 (sp (uG S g 2 (sg S g 2 - 1)) p 7 + sStr S g)) g 5 = sg S g 5 := rfl
  have go : ∀ c : Int32, c = (if sp S p 8 = 0 then (if sg S g 6 = 0 then 0 else 1) else 1) → OkO (ob (jpz YX 1 9 μ3 (some (pI h p)) c) fun u15 => ob (jgi YX 1 9 u15 (some (pI h p))) fun x16 => ob (jpz YX 0 7 u15 (some (gI h g)) x16) fun u17 => some (sStr S g, u17)) P := by
    intro c hc
    have hc01 : c = 0 ∨ c = 1 := by
      rw [hc]
      by_cases h1 : sp S p 8 = 0
      · rw [if_pos h1]; by_cases h2 : sg S g 6 = 0
        · rw [if_pos h2]; exact Or.inl rfl
        · rw [if_neg h2]; exact Or.inr rfl
      · rw [if_neg h1]; exact Or.inr rfl
    refine okJ (x_zP (k := 8) R3 hh hp (by decide) hc01 (fun μ4 R4 => ?_))
    refine okJ (x_pG (k := 8) R4 hh hp (by decide) ?_)
    have e9 : ∀ T : Hs, sp (uP T p 8 c) p 8 = c := fun T => y2_s _ _ _ _
    rw [e9]
    refine okJ (x_zG (k := 6) R4 hh hg (by decide) (by decide) hc01 (fun μ5 R5 => okR (k μ5 ?_)))
    unfold sSip
    rw [← hc]
    rw [e5] at R5
    exact R5
  rw [e8]
  refine okJ (okI (fun c => okJ (x_gG (k := 6) R3 hh hg (by decide) (by decide) ?_)) (fun c => okR (go _ (by rw [if_neg c]))))
  rw [e6]
  exact okI (fun c2 => okR (go _ (by rw [if_pos c, if_pos c2]))) (fun c2 => okR (go _ (by rw [if_pos c, if_neg c2])))
theorem ten_n6 {p : Nat} (hp : p < 6) : ¬ (10 + nI p) < 6 := by
  rw [show (10 : Int32) = nI 10 from rfl, nI_add]
  exact nI_nlt (b := 6) (by omega) (by omega)
theorem x_hold {P : Unit × Mm → Prop} (R : XS h μ0 μ S) (hh : h < 3) (hp : p < sP S) (hg : g < sG S) (k : ∀ μ', XS h μ0 μ' (sHold S p g) → P ((), μ')) : OkO (f_U_hold F μ (pI h p) (some (gI h g))) P := by
  have hP := R.P
  unfold f_U_hold
  refine okJ (x_gN R hh hg ?_)
  refine okJ (x_wP (k := 5) R hh hp (by decide) (fun μ1 R1 => ?_))
  refine okJ (x_gN R1 hh hg ?_)
  refine okJ (x_wP (k := 6) R1 hh hp (by decide) (fun μ2 R2 => ?_))
  refine okJ (x_pN R2 hh hp ?_)
  exact okJ (x_wW (t := -4) R2 hh hg (ten_n6 (by omega)) (fun μ3 R3 => okR (k μ3 R3)))
theorem x_layAt {P : Unit × Mm → Prop} {v t : Int32} (R : XS h μ0 μ S) (hh : h < 3) (hg : g < sG S) (k : ∀ μ', XS h μ0 μ' (uG (uG S g 3 v) g 4 t) → P ((), μ')) : OkO (f_G_layAt F μ (gI h g) v t) P := by
  unfold f_G_layAt
  have hb : ∀ o : Option Mm, (ob o fun u2 => some ((), u2)) = ob o (fun u2 => some ((), u2)) := fun _ => rfl
  have e : (ob (jpi YX 0 4 μ (some (gI h g)) v) fun u1 => ob (jpi YX 0 5 u1 (some (gI h g)) t) fun u2 => some ((), u2)) = ob (ob (jpi YX 0 4 μ (some (gI h g)) v) fun u1 => jpi YX 0 5 u1 (some (gI h g)) t) fun u2 => some ((), u2) := by
    cases jpi YX 0 4 μ (some (gI h g)) v <;> rfl
  rw [e]
  exact okJ (x_wWL (t := t) R hh hg (fun _ => rfl) (fun μ1 R1 => okR (k μ1 R1)))
theorem x_lay {P : Unit × Mm → Prop} (R : XS h μ0 μ S) (hh : h < 3) (hp : p < sP S) (hg : g < sG S) (k : ∀ μ', XS h μ0 μ' (sLay S p g) → P ((), μ')) : OkO (f_H_layDown F μ (hI h) (some (pI h p)) (some (gI h g))) P := by
  unfold f_H_layDown
  refine okJ (x_pG (k := 4) R hh hp (by decide) ?_)
  refine okJ (x_s5 R hh ?_)
  refine okJ (x_g R hh hg (okY (x_layAt R hh hg (fun μ1 R1 => ?_))))
  exact okJ (x_wP (k := 5) R1 hh hp (by decide) (fun μ2 R2 => okR (k μ2 R2)))
theorem x_add {P : Option Nat × Mm → Prop} {kd fg fl : Int32} (R : XS h μ0 μ S) (hh : h < 3) (hlt : sG S < 12) (k : ∀ μ' w a, XS h μ0 μ' (sNew S kd fg fl w a) → P (some (gI h (sG S)), μ')) : OkO (f_H_addGlass F μ (hI h) kd fg fl) P := by
  unfold f_H_addGlass
  refine okJ (x_s2 R hh (okT (nI_lt hlt (by decide)) (okJ (x_s2 R hh ?_))))
  rw [nI_1]
  have R1 : XS h μ0 (y2 μ.1 (hI h) 2 (nI (sG S + 1)), μ.2.1, μ.2.2) ((sG S + 1, sP S, sM S, sT S), S.2.1, (fun x j => if x = sG S then μ.1 (gI h (sG S)) (j + 1) else sg S x j), sp S) :=
    ⟨R.1.grow hlt, R.2.1.y2 (by unfold hI; omega) (by unfold hI; omega), R.2.2⟩
  refine okJ (okE (x := (y2 μ.1 (hI h) 2 (nI (sG S + 1)), μ.2.1, μ.2.2)) (by rw [jpi, jk_h hh, ob_s]) ?_)
  generalize (y2 μ.1 (hI h) 2 (nI (sG S + 1)), μ.2.1, μ.2.2) = μ1 at R1 ⊢
  refine okJ (x_s2 R1 hh ?_)
  have e1 : nI (sG S + 1) - 1 = nI (sG S) := nI_pred _
  show OkO (ob (jk YX 2 (some (hI h))) fun t => yb (f_H_glassAt F μ1 t (nI (sG S + 1) - 1)) _) P
  rw [e1]
  refine okJ (x_h hh (okY (x_glassAt R1 hh (Nat.lt_succ_self (sG S)) ?_)))
  dsimp only
  refine okJ (okF sI_none (okJ (x_g (i := sG S) R1 hh (Nat.lt_succ_self _) (okY ?_))))
  unfold f_G_begin
  refine okJ (x_wG (i := sG S) (k := 0) R1 hh (Nat.lt_succ_self _) (by decide) (by decide) (fun μ2 R2 => ?_))
  refine okJ (x_wG (i := sG S) (k := 1) R2 hh (Nat.lt_succ_self _) (by decide) (by decide) (fun μ3 R3 => ?_))
  refine okJ (x_wG (i := sG S) (k := 2) R3 hh (Nat.lt_succ_self _) (by decide) (by decide) (fun μ4 R4 => ?_))
  refine okJ (x_wG (i := sG S) (k := 5) R4 hh (Nat.lt_succ_self _) (by decide) (by decide) (fun μ5 R5 => ?_))
  refine okJ (x_zG (i := sG S) (k := 6) R5 hh (Nat.lt_succ_self _) (by decide) (by decide) (Or.inl rfl) (fun μ6 R6 => okR (okR (okR ?_))))
  refine k μ6 (μ.1 (gI h (sG S)) 4) (μ.1 (gI h (sG S)) 5) ⟨R6.1.cg rfl rfl (fun i m hi hm => ?_) (fun i m hi hm => rfl), R6.2⟩
  show nRow (sg S) (sG S) kd fg fl (μ.1 (gI h (sG S)) 4) (μ.1 (gI h (sG S)) 5) 0 0 i m = y2 (y2 (y2 (y2 (y2 (fun x j => if x = sG S then μ.1 (gI h (sG S)) (j + 1) else sg S x j) (sG S) 0 kd) (sG S) 1 fg) (sG S) 2 fl) (sG S) 5 0) (sG S) 6 0 i m
  by_cases q : i = sG S
  · subst q
    rcases (by omega : m = 0 ∨ m = 1 ∨ m = 2 ∨ m = 3 ∨ m = 4 ∨ m = 5 ∨ m = 6) with rfl | rfl | rfl | rfl | rfl | rfl | rfl <;> simp [nRow, y2]
  · rw [nRow_o q, y2_i _ _ q, y2_i _ _ q, y2_i _ _ q, y2_i _ _ q, y2_i _ _ q, if_neg q]
theorem x_take {P : Int32 × Mm → Prop} (R : XS h μ0 μ S) (hh : h < 3) (hv : Iv S) (hp : p < sP S) (hF : 100 ≤ F) (k : ∀ μ', XS h μ0 μ' (sTake S p).2 → P ((sTake S p).1, μ')) : OkO (f_H_takeUp F μ (hI h) (some (pI h p))) P := by
  have hG := R.G
  unfold f_H_takeUp
  refine okJ (x_h hh (okY (x_ch R hh hv hp hF ?_)))
  dsimp only
  cases e : sCh S p with
  | some g =>
    have hg := (sCh_in e).1
    have ek : sTake S p = (nI g, sHold (uC S (if nI g = sp S p 6 then sMi S else sMi S + 1) (sFr S) (sLo S)) p g) := by unfold sTake; rw [e]
    rw [ek] at k
    refine okJ (x_h hh (okY (x_glassAt (i := g) R hh hg ?_)))
    dsimp only
    refine okF sI_none (okJ (x_gN R hh hg (okJ (x_pG (k := 6) R hh hp (by decide) ?_))))
    have go : ∀ (μ1 : Mm) (T : Hs), XS h μ0 μ1 T → sG T = sG S → sP T = sP S → T = uC S (if nI g = sp S p 6 then sMi S else sMi S + 1) (sFr S) (sLo S) → OkO (ob (jk YX 1 (some (pI h p))) fun t => yb (f_U_hold F μ1 t (some (gI h g))) fun v27 u28 => ob (jgi YX 0 0 u28 (some (gI h g))) fun x29 => some (x29, u28)) P := by
      intro μ1 T RT h1 h2 hT
      refine okJ (x_p RT hh (by omega) (okY (x_hold RT hh (by omega) (by omega) (fun μ2 R2 => ?_))))
      refine okJ (x_gN (S := sHold T p g) R2 hh (by show g < sG T; omega) (okR (k μ2 ?_)))
      rw [← hT]; exact R2
    refine okJ (okI (fun c => okR (go μ S R rfl rfl (by rw [if_pos c]; rfl))) (fun c => okJ (x_s6 R hh (okJ (x_wS (k := 6) (uC S (sMi S + 1) (sFr S) (sLo S)) R hh (fun μ1 R1 => okR (go μ1 _ R1 rfl rfl (by rw [if_neg c]))) ⟨Nat.le_refl _, Nat.le_refl _⟩ rfl rfl ?_)))))
    refine ⟨?_, ?_, ?_, ?_, ?_, ?_, ?_, ?_, ?_, ?_, ?_, ?_, ?_, ?_⟩ <;> first | (intro _; rfl) | (intro z; exact absurd z (by decide)) | (intro z; exact absurd rfl z)
  | none =>
    have ek : sTake S p = if sT S = 0 ∨ sG S = 12 then (-4, S) else (nI (sG S), sTray S p) := by unfold sTake; rw [e]
    have hT := hv.2.1
    refine okJ (x_h hh (okY (x_glassNo R hh (Or.inl (by show (-4 : Int32) < 0; decide)) ?_)))
    dsimp only
    refine okT rfl (okJ (x_s4 R hh ?_))
    have no : sT S = 0 ∨ sG S = 12 → P (-4, μ) := fun c => by rw [ek, if_pos c] at k; exact k μ R
    refine okJ (okI (fun c => okR (okT rfl (okR (no (Or.inl ?_))))) (fun c => okJ (x_s4 R hh (okJ (okrm (by decide) (okJ (x_h hh (okY ?_))))))))
    · rcases Nat.eq_zero_or_pos (sT S) with z | z
      · exact z
      · exact absurd c (nI_nle z (by omega))
    · have ht : 0 < sT S := by
        rcases Nat.eq_zero_or_pos (sT S) with z | z
        · exfalso; apply c; rw [z]; decide
        · exact z
      have em : nI (sT S) - 1 - (nI (sT S) - 1) / 10 * 10 = nI ((sT S - 1) % 10) := by
        rw [show (1 : Int32) = nI 1 from rfl, pk_sub (by omega), show (10 : Int32) = nI 10 from rfl, pk_rem (by omega) (by decide) (by decide)]
      rw [em]
      by_cases hlt : sG S < 12
      · have k' : ∀ μ', XS h μ0 μ' (sTray S p) → P (nI (sG S), μ') := by
          rw [ek, if_neg (by omega)] at k; exact k
        refine x_add R hh hlt (fun μ1 w a R1 => okR (okF sI_none ?_))
        refine okJ (x_s4 R1 hh ?_)
        have e1 : nI (sT S) - 1 = nI (sT S - 1) := by rw [show (1 : Int32) = nI 1 from rfl, pk_sub (by omega)]
        show OkO (ob (jpi YX 2 4 μ1 (some (hI h)) (nI (sT S) - 1)) _) P
        rw [e1]
        refine okJ (x_wS (k := 4) ((sG S + 1, sP S, sM S, sT S - 1), S.2.1, nRow (sg S) (sG S) 0 (nI ((sT S - 1) % 10)) 9 w a 0 0, sp S) R1 hh (fun μ2 R2 => ?_) ⟨Nat.le_refl _, Nat.le_refl _⟩ rfl rfl ?_)
        · refine okJ (x_s7 R2 hh ?_)
          refine okJ (x_wS (k := 7) ((sG S + 1, sP S, sM S, sT S - 1), (sMi S, sFr S + 1, sLo S), nRow (sg S) (sG S) 0 (nI ((sT S - 1) % 10)) 9 w a 0 0, sp S) R2 hh (fun μ3 R3 => ?_) ⟨Nat.le_refl _, Nat.le_refl _⟩ rfl rfl ?_)
          · refine okJ (x_p (i := p) R3 hh hp (okY (x_hold (g := sG S) R3 hh hp (Nat.lt_succ_self _) (fun μ4 R4 => ?_))))
            refine okJ (x_gN (i := sG S) R4 hh (Nat.lt_succ_self _) (okR (k' μ4 ?_)))
            have e9 : sHold ((sG S + 1, sP S, sM S, sT S - 1), (sMi S, sFr S + 1, sLo S), nRow (sg S) (sG S) 0 (nI ((sT S - 1) % 10)) 9 w a 0 0, sp S) p (sG S) = sTray S p := by
              unfold sHold sTray uG uP
              dsimp only
              have e10 : y2 (y2 (nRow (sg S) (sG S) 0 (nI ((sT S - 1) % 10)) 9 w a 0 0) (sG S) 3 (10 + nI p)) (sG S) 4 (-4) = nRow (sg S) (sG S) 0 (nI ((sT S - 1) % 10)) 9 (10 + nI p) (-4) 0 0 := by
                funext x m
                by_cases q : x = sG S
                · subst q
                  by_cases q4 : m = 4
                  · subst q4; simp [y2, nRow]
                  · rw [y2_k _ _ q4]
                    by_cases q3 : m = 3
                    · subst q3; simp [y2, nRow]
                    · rw [y2_k _ _ q3]; simp [nRow, q3, q4]
                · rw [y2_i _ _ q, y2_i _ _ q, nRow_o q, nRow_o q]
              rw [e10]
            rw [← e9]; exact R4
          · refine ⟨?_, ?_, ?_, ?_, ?_, ?_, ?_, ?_, ?_, ?_, ?_, ?_, ?_, ?_⟩ <;> first | (intro _; rfl) | (intro z; exact absurd z (by decide)) | (intro z; exact absurd rfl z)
        · refine ⟨?_, ?_, ?_, ?_, ?_, ?_, ?_, ?_, ?_, ?_, ?_, ?_, ?_, ?_⟩ <;> first | (intro _; rfl) | (intro z; exact absurd z (by decide)) | (intro z; exact absurd rfl z)
      · have h12 : sG S = 12 := by omega
        unfold f_H_addGlass
        refine okJ (x_s2 R hh (okF ?_ (okR (okR (okT rfl (okR (no (Or.inr h12))))))))
        rw [h12]; decide
end XD
