section XE
variable {h i j p g : Nat} {μ0 μ : Mm} {S : Hs} {F : Nat}
theorem x_isM {P : Int32 × Mm → Prop} {t d : Int32} (k1 : isM t d → P (1, μ)) (k0 : ¬ isM t d → P (0, μ)) : OkO (f_X_isMultiple F μ t d) P := by
  unfold f_X_isMultiple
  refine okI (fun c => okJ (okz (Or.inl rfl) (okR (k0 (fun z => z.1 c))))) (fun c => ?_)
  have hd : ¬ d = 0 := fun z => c (by rw [z]; decide)
  refine okJ (okrm hd (okI (fun c2 => okJ (okz (Or.inr rfl) (okR (k1 ⟨c, c2⟩)))) (fun c2 => okJ (okz (Or.inl rfl) (okR (k0 (fun z => c2 z.2)))))))
theorem x_plB {P : Int32 × Mm → Prop} {pl : Int32} (R : XS h μ0 μ S) (hh : h < 3) (k : P (plB pl (sLo S), μ)) : OkO (f_H_placeBehind F μ (hI h) pl) P := by
  unfold f_H_placeBehind
  have k' : P (if pl + 1 - (pl + 1) / 6 * 6 = sLo S then (pl + 1 - (pl + 1) / 6 * 6 + 1) - (pl + 1 - (pl + 1) / 6 * 6 + 1) / 6 * 6 else pl + 1 - (pl + 1) / 6 * 6, μ) := k
  refine okJ (okrm (by decide) (okJ (x_s8 R hh (okI (fun c => okJ (okrm (by decide) (okR ?_))) (fun c => okR ?_)))))
  · rw [if_pos c] at k'; exact k'
  · rw [if_neg c] at k'; exact k'
theorem x_live {P : Unit × Mm → Prop} (R : XS h μ0 μ S) (hh : h < 3) (hv : Iv S) (hp : p < sP S) (hF : 100 ≤ F) (k : ∀ μ', XS h μ0 μ' (sLive p S) → P ((), μ')) : OkO (f_H_liveMinute F μ (hI h) (some (pI h p))) P := by
  unfold f_H_liveMinute
  have go : ∀ (μ1 : Mm) (S1 : Hs), XS h μ0 μ1 S1 → Iv S1 → p < sP S1 → (∀ μ', XS h μ0 μ' (sLive3 S1 p) → P ((), μ')) → OkO (ob (jgi YX 1 6 μ1 (some (pI h p))) fun x13 => ob (jk YX 2 (some (hI h))) fun t => yb (f_H_glassAt F μ1 t x13) fun r14 u15 => (if r14 = none then ob (jk YX 2 (some (hI h))) fun t => yb (f_H_takeUp F u15 t (some (pI h p))) fun _ u18 => some ((), u18) else ob (jgi YX 2 5 u15 (some (hI h))) fun x19 => ob (jgi YX 1 1 u15 (some (pI h p))) fun x20 => yb (f_X_isMultiple F u15 x19 x20) fun x21 u22 => ob ((if x21 = 0 then some u22 else ob (jgi YX 0 3 u22 r14) fun x25 => (if x25 ≤ 0 then some u22 else ob (jk YX 1 (some (pI h p))) fun t => yb (f_U_sipFrom F u22 t r14) fun _ u28 => some u28)) : Option (Mm)) fun q23 => ob (jgi YX 2 5 q23 (some (hI h))) fun x29 => (if x29 = 0 then some ((), q23) else ob (jgi YX 2 5 q23 (some (hI h))) fun x31 => ob (jgi YX 1 2 q23 (some (pI h p))) fun x32 => yb (f_X_isMultiple F q23 x31 x32) fun x33 u34 => (if x33 = 0 then some ((), u34) else ob (jk YX 2 (some (hI h))) fun t => yb (f_H_layDown F u34 t (some (pI h p)) r14) fun _ u37 => some ((), u37))))) P := by
    intro μ1 S1 R1 hv1 hp1 k1
    refine okJ (x_pG (k := 5) R1 hh hp1 (by decide) ?_)
    by_cases c : sp S1 p 5 < 0
    · refine okJ (x_h hh (okY (x_glassNo R1 hh (Or.inl c) ?_)))
      dsimp only
      refine okT rfl (okJ (x_h hh (okY (x_take R1 hh hv1 hp1 hF (fun μ2 R2 => okR (k1 μ2 ?_))))))
      unfold sLive3; rw [if_pos c]; exact R2
    · obtain ⟨g, hg, eg, eg2⟩ := hold_in hv1 hp1 c
      rw [eg]
      refine okJ (x_h hh (okY (x_glassAt R1 hh hg ?_)))
      dsimp only
      have e3 : sLive3 S1 p = sLive2 (sLive1 S1 p g) p g := by unfold sLive3; rw [if_neg c, eg2]
      rw [e3] at k1
      refine okF sI_none (okJ (x_s5 R1 hh (okJ (x_pG (k := 0) R1 hh hp1 (by decide) ?_))))
      have go2 : ∀ μ2, XS h μ0 μ2 (sLive1 S1 p g) → OkO (ob (jgi YX 2 5 μ2 (some (hI h))) fun x29 => (if x29 = 0 then some ((), μ2) else ob (jgi YX 2 5 μ2 (some (hI h))) fun x31 => ob (jgi YX 1 2 μ2 (some (pI h p))) fun x32 => yb (f_X_isMultiple F μ2 x31 x32) fun x33 u34 => (if x33 = 0 then some ((), u34) else ob (jk YX 2 (some (hI h))) fun t => yb (f_H_layDown F u34 t (some (pI h p)) (some (gI h g))) fun _ u37 => some ((), u37)))) P := by
        intro μ2 R2
        have hp2 : p < sP (sLive1 S1 p g) := by rw [(sLive1_Sz (S := S1) (p := p) (g := g)).1]; exact hp1
        have hg2 : g < sG (sLive1 S1 p g) := Nat.lt_of_lt_of_le hg (sLive1_Sz (S := S1) (p := p) (g := g)).2.2.1
        have no : ¬ (¬ nI (sM (sLive1 S1 p g)) = 0 ∧ isM (nI (sM (sLive1 S1 p g))) (sp (sLive1 S1 p g) p 1)) → P ((), μ2) := fun z => k1 μ2 (by unfold sLive2; rw [if_neg z]; exact R2)
        refine okJ (x_s5 R2 hh (okI (fun c1 => okR (no (fun z => z.1 c1))) (fun c1 => okJ (x_s5 R2 hh (okJ (x_pG (k := 1) R2 hh hp2 (by decide) (okY (x_isM (fun c2 => okF i1n ?_) (fun c2 => okT rfl (okR (no (fun z => c2 z.2))))))))))))
        refine okJ (x_h hh (okY (x_lay R2 hh hp2 hg2 (fun μ3 R3 => okR (k1 μ3 ?_)))))
        unfold sLive2; rw [if_pos ⟨c1, c2⟩]; exact R3
      have no1 : ¬ (isM (nI (sM S1)) (sp S1 p 0) ∧ ¬ sg S1 g 2 ≤ 0) → XS h μ0 μ1 (sLive1 S1 p g) := fun z => by unfold sLive1; rw [if_neg z]; exact R1
      refine okY (x_isM (fun c1 => ?_) (fun c1 => ?_))
      · refine okJ (okF i1n (okJ (x_gG (k := 2) R1 hh hg (by decide) (by decide) (okI (fun c2 => okR (go2 _ (no1 (fun z => z.2 c2)))) (fun c2 => okJ (x_p R1 hh hp1 (okY (x_sip R1 hh hv1 hp1 hg (fun μ2 R2 => okR (go2 μ2 ?_))))))))))
        unfold sLive1; rw [if_pos ⟨c1, c2⟩]; exact R2
      · exact okJ (okT rfl (okR (go2 _ (no1 (fun z => c1 z.1)))))
  refine okJ (x_s5 R hh (okJ ?_))
  have no : ¬ (¬ nI (sM S) = 0 ∧ isM (nI (sM S)) (sp S p 2)) → sStep S p = S := fun z => by unfold sStep; rw [if_neg z]
  refine okI (fun c => okR ?_) (fun c => okJ (x_s5 R hh (okJ (x_pG (k := 2) R hh hp (by decide) (okY (x_isM (fun c2 => okF i1n ?_) (fun c2 => okT rfl (okR ?_))))))))
  · exact go μ S R hv hp (by unfold sLive at k; rw [no (fun z => z.1 c)] at k; exact k)
  · refine okJ (x_pG (k := 4) R hh hp (by decide) (okJ (x_h hh (okY (x_plB R hh ?_)))))
    refine okJ (x_wP (k := 4) R hh hp (by decide) (fun μ1 R1 => okR ?_))
    have e : sStep S p = uP S p 4 (plB (sp S p 4) (sLo S)) := by unfold sStep; rw [if_pos ⟨c, c2⟩]
    refine go μ1 _ R1 ?_ hp (by unfold sLive at k; rw [e] at k; exact k)
    rw [← e]; exact sStep_Iv hv hp
  · exact go μ S R hv hp (by unfold sLive at k; rw [no (fun z => c2 z.2)] at k; exact k)
theorem x_pass {P : Unit × Mm → Prop} {n : Nat} (R : XS h μ0 μ S) (hh : h < 3) (hv : Iv S) (hn : n < 1000) (hF : 2000 ≤ F) (hM : sM S < 10000) (k : ∀ μ', XS h μ0 μ' (sPass S n) → P ((), μ')) : OkO (f_H_passMinutes F μ (hI h) (nI n)) P := by
  unfold f_H_passMinutes
  refine lpA (A := Unit) (L := fun m u _ j => f_H_passMinutes_L2 F (some (hI h)) (nI n) _ m u j) n (fun j u _ => XS h μ0 u (sPass S j)) (fun m u a hQ => ?_) (fun m j u a hj hQ hk => ?_) n 0 F μ () (by omega) (by omega) R
  · simp only [f_H_passMinutes_L2]
    exact okT (nI_le (Nat.le_refl _) (by omega)) (okR (k u hQ))
  · obtain ⟨hv2, hp2, hm2, -, -⟩ := sPass_Iv hv j
    have hPm := hQ.P
    simp only [f_H_passMinutes_L2]
    refine okF (nI_ge hj (by omega)) ?_
    refine lpA (A := Unit) (L := fun m u _ j => f_H_passMinutes_L9 F (some (hI h)) _ _ _ m u j) (sP (sPass S j)) (fun i u _ => XS h μ0 u (it sLive (sPass S j) i)) (fun m2 u2 a2 hI2 => ?_) (fun m2 i u2 a2 hi hI2 hk2 => ?_) (sP (sPass S j)) 0 F u () (by omega) (by omega) hQ
    · obtain ⟨-, hz⟩ := itLive hv2 (sP (sPass S j)) (Nat.le_refl _)
      simp only [f_H_passMinutes_L9]
      refine okJ (x_s3 hI2 hh ?_)
      rw [hz.1]
      refine okT (nI_le (Nat.le_refl _) (by omega)) (okJ (x_s5 hI2 hh ?_))
      rw [nI_1]
      refine okJ (x_wS (k := 5) (sMin (sPass S j)) hI2 hh (fun μ' R' => okJ (okR ?_)) ⟨Nat.le_refl _, Nat.le_refl _⟩ rfl rfl ?_)
      · rw [nI_1]; exact hk μ' () R'
      · refine ⟨?_, ?_, ?_, ?_, ?_, ?_, ?_, ?_, ?_, ?_, ?_, ?_, ?_, ?_⟩ <;> first | (intro _; rfl) | (intro z; exact absurd z (by decide)) | (intro z; exact absurd rfl z)
    · obtain ⟨hv3, hz⟩ := itLive hv2 i (by omega)
      simp only [f_H_passMinutes_L9]
      refine okJ (x_s3 hI2 hh ?_)
      rw [hz.1]
      refine okF (nI_ge hi (by omega)) (okJ (x_h hh (okY (x_guestAt (i := i) hI2 hh (by rw [hz.1]; exact hi) ?_))))
      dsimp only
      refine okJ (okF sI_none (okJ (x_h hh (okY (x_live hI2 hh hv3 (by rw [hz.1]; exact hi) (by omega) (fun μ' R' => okR (okJ (okR ?_))))))))
      rw [nI_1 i]; exact hk2 μ' () R'
end XE
