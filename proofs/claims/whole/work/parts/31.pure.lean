/-- the best so far, if it is as like as the guest's care asks -/
def mbG (care : Int32) (s : Option Nat × Int32) : Option Nat := match s.1 with
  | none => none
  | some b => if care ≤ s.2 then some b else none
theorem mbG_n (care m : Int32) : mbG care (none, m) = none := rfl
theorem mbG_s (care m : Int32) (b : Nat) : mbG care (some b, m) = if care ≤ m then some b else none := rfl
def mbC (S : Hs) (o : Nat) (pl care : Int32) (i : Nat) : Option Nat := mbG care (it (chF S o pl) (none, 0) i)
theorem chF_m (S : Hs) (o : Nat) (pl : Int32) : ∀ i, i ≤ sG S → (∀ b, (it (chF S o pl) (none, 0) i).1 = some b → (it (chF S o pl) (none, 0) i).2 = sLik S o b ∧ 0 < (it (chF S o pl) (none, 0) i).2) ∧ ((it (chF S o pl) (none, 0) i).1 = none → (it (chF S o pl) (none, 0) i).2 = 0) := by
  intro i hi
  refine it_p (f := chF S o pl) (a := (none, 0)) (fun i s => (∀ b, s.1 = some b → s.2 = sLik S o b ∧ 0 < s.2) ∧ (s.1 = none → s.2 = 0)) ⟨(fun b h => by cases h), fun _ => rfl⟩ (N := sG S) (fun i s hi h => ?_) i hi
  obtain ⟨hs, h0⟩ := h
  obtain ⟨b, m⟩ := s
  dsimp only at hs h0
  have pos : m < sLik S o i → 0 < sLik S o i := by
    intro q
    cases b with
    | none => rw [h0 rfl] at q; exact q
    | some b => have := (hs b rfl).2; rw [Int32.lt_iff_toInt_lt] at *; omega
  unfold chF
  dsimp only
  by_cases c1 : sg S i 3 = pl
  · rw [if_pos c1]
    by_cases c2 : m < sLik S o i
    · rw [if_pos c2]
      exact ⟨fun b' hb => by cases hb; exact ⟨rfl, pos c2⟩, fun hb => by cases hb⟩
    · rw [if_neg c2]
      cases b with
      | none => exact ⟨hs, h0⟩
      | some b =>
        dsimp only
        by_cases c3 : sLik S o i = m
        · rw [if_pos c3]
          by_cases c4 : sg S i 4 ≤ sg S b 4
          · rw [if_pos c4]; exact ⟨hs, h0⟩
          · rw [if_neg c4]
            exact ⟨fun b' hb => by cases hb; exact ⟨rfl, by rw [c3]; exact (hs b rfl).2⟩, fun hb => by cases hb⟩
        · rw [if_neg c3]; exact ⟨hs, h0⟩
  · rw [if_neg c1]; exact ⟨hs, h0⟩
theorem mbC_in {S : Hs} {o : Nat} {pl care : Int32} {i b : Nat} (hi : i ≤ sG S) (h : mbC S o pl care i = some b) : b < i ∧ sg S b 3 = pl ∧ (it (chF S o pl) (none, 0) i).1 = some b ∧ care ≤ (it (chF S o pl) (none, 0) i).2 := by
  have hin := chF_in S o pl i hi
  unfold mbC at h
  generalize (it (chF S o pl) (none, 0) i) = s at *
  obtain ⟨b0, m⟩ := s
  cases b0 with
  | none => rw [mbG_n] at h; cases h
  | some b0 =>
    rw [mbG_s] at h
    by_cases c : care ≤ m
    · rw [if_pos c] at h; cases h; exact ⟨(hin b rfl).1, (hin b rfl).2, rfl, c⟩
    · rw [if_neg c] at h; cases h
/-- one step of the best so far -/
theorem mbC_s {S : Hs} {o : Nat} {pl care : Int32} {i : Nat} (hi : i < sG S) : mbC S o pl care (i + 1) = if sg S i 3 = pl then (if sLik S o i ≤ 0 ∨ sLik S o i < care then mbC S o pl care i else match mbC S o pl care i with
    | none => some i
    | some b => if sLik S o b < sLik S o i then some i else if sLik S o i = sLik S o b then (if sg S i 4 ≤ sg S b 4 then some b else some i) else some b) else mbC S o pl care i := by
  have hm := chF_m S o pl i (by omega)
  have e1 : mbC S o pl care (i + 1) = mbG care (chF S o pl i (it (chF S o pl) (none, 0) i)) := rfl
  have e2 : mbC S o pl care i = mbG care (it (chF S o pl) (none, 0) i) := rfl
  rw [e1, e2]
  clear e1 e2
  generalize (it (chF S o pl) (none, 0) i) = s at *
  obtain ⟨b, m⟩ := s
  dsimp only at hm
  unfold chF
  by_cases c1 : sg S i 3 = pl
  · rw [if_pos c1, if_pos c1]
    dsimp only
    generalize sLik S o i = v at *
    cases b with
    | none =>
      have h1 := hm.2 rfl
      subst h1
      rw [mbG_n]
      dsimp only
      by_cases c2 : (0 : Int32) < v
      · rw [if_pos c2, mbG_s]
        by_cases c4 : care ≤ v
        · rw [if_pos c4, if_neg]
          simp only [Int32.lt_iff_toInt_lt, Int32.le_iff_toInt_le] at *
          omega
        · rw [if_neg c4, if_pos (Or.inr (Int32.not_le.mp c4))]
      · rw [if_neg c2, mbG_n, if_pos (Or.inl (Int32.not_lt.mp c2))]
    | some b =>
      obtain ⟨h1, h2⟩ := hm.1 b rfl
      rw [mbG_s]
      by_cases c2 : m < v
      · rw [if_pos c2, mbG_s]
        by_cases c4 : care ≤ v
        · rw [if_pos c4, if_neg (c := v ≤ 0 ∨ v < care)]
          · by_cases c5 : care ≤ m
            · rw [if_pos c5]; dsimp only; rw [← h1, if_pos c2]
            · rw [if_neg c5]
          · simp only [Int32.lt_iff_toInt_lt, Int32.le_iff_toInt_le] at *
            omega
        · rw [if_neg c4, if_pos (c := v ≤ 0 ∨ v < care) (Or.inr (Int32.not_le.mp c4)), if_neg]
          simp only [Int32.lt_iff_toInt_lt, Int32.le_iff_toInt_le] at *
          omega
      · rw [if_neg c2]
        dsimp only
        by_cases c3 : v = m
        · subst c3
          rw [if_pos rfl]
          by_cases c6 : care ≤ v
          · rw [if_pos c6, if_neg (c := v ≤ 0 ∨ v < care)]
            · dsimp only
              rw [← h1, if_neg c2, if_pos rfl]
              by_cases c4 : sg S i 4 ≤ sg S b 4
              · rw [if_pos c4, if_pos c4, mbG_s, if_pos c6]
              · rw [if_neg c4, if_neg c4, mbG_s, if_pos c6]
            · simp only [Int32.lt_iff_toInt_lt, Int32.le_iff_toInt_le] at *
              omega
          · rw [if_neg c6, if_pos (c := v ≤ 0 ∨ v < care) (Or.inr (Int32.not_le.mp c6))]
            by_cases c4 : sg S i 4 ≤ sg S b 4
            · rw [if_pos c4, mbG_s, if_neg c6]
            · rw [if_neg c4, mbG_s, if_neg c6]
        · rw [if_neg c3, mbG_s]
          by_cases c6 : care ≤ m
          · rw [if_pos c6]
            by_cases c7 : v ≤ 0 ∨ v < care
            · rw [if_pos c7]
            · rw [if_neg c7]
              dsimp only
              rw [← h1, if_neg c2, if_neg c3]
          · have c7 : v ≤ 0 ∨ v < care := Or.inr (by simp only [Int32.lt_iff_toInt_lt, Int32.le_iff_toInt_le] at *; omega)
            rw [if_neg c6, if_pos c7]
  · rw [if_neg c1, if_neg c1]
theorem oI_some {r : Option Nat} (h : ¬ oI r < 0) : ∃ b, r = some b := by
  cases r with
  | none => exact absurd (by decide) h
  | some b => exact ⟨b, rfl⟩
section MD
variable {d e : Int32} {i j k p g : Nat} {τ0 τ : Mm} {S : Hs} {F : Nat}
theorem m_ch {P : Int32 × Mm → Prop} (R : MS d e τ0 τ S) (hv : Iv S) (hp : p < sP S) (hF : 100 ≤ F) (h : P (oI (sCh S p), τ)) : OkO (f_M_wouldTake F τ 0 (nI p)) P := by
  have hG := R.G
  have hown := (hv.2.2.2.2 p hp).2.2.2.2.2.1
  unfold f_M_wouldTake
  refine okJ (m_r 14 (okJ (m_pA (k := 6) R hp (by decide) ?_)))
  rcases hown with eo | ⟨o, ho, eo⟩
  · have e2 : sCh S p = none := by unfold sCh; rw [eo, if_pos (by decide)]
    rw [e2] at h
    rw [eo]
    exact okT (by decide) (okR h)
  · rw [eo]
    have ec : sCh S p = if sg S o 3 = 20 then none else mbC S o (sp S p 4) (sp S p 3) (sG S) := by
      unfold sCh; rw [eo, if_neg (nI_pos (by omega)), nI_clamp (by omega)]; rfl
    refine okF (nI_pos (by omega)) (okJ (m_r 4 (okJ (m_gA (k := 3) R ho (by decide) ?_))))
    refine okI (fun c => ?_) (fun c => ?_)
    · rw [if_pos c] at ec
      rw [ec] at h
      exact okR h
    · rw [if_neg c] at ec
      rw [ec] at h
      refine lpA (A := Option Nat) (L := fun n u a j => f_M_wouldTake_L31 F (some 0) (nI p) (nI o) _ n u (oI a) j) (sG S) (fun j u a => u = τ ∧ a = mbC S o (sp S p 4) (sp S p 3) j) (fun n u a hQ => ?_) (fun n j u a hj hQ hk => ?_) (sG S) 0 F τ none (by omega) (by omega) ⟨rfl, rfl⟩
      · obtain ⟨hu, ha⟩ := hQ
        subst hu
        simp only [f_M_wouldTake_L31]
        refine okJ (m_s0 R (okT (nI_le (Nat.le_refl _) (by omega)) (okR ?_)))
        rw [ha]; exact h
      · obtain ⟨hu, ha⟩ := hQ
        subst hu
        have hs := mbC_s (S := S) (o := o) (pl := sp S p 4) (care := sp S p 3) hj
        have hin := @mbC_in S o (sp S p 4) (sp S p 3) j
        rw [← ha] at hs hin
        have go : ∀ r, mbC S o (sp S p 4) (sp S p 3) (j + 1) = r → OkO (ob (some (nI j + 1)) fun x36 => f_M_wouldTake_L31 F (some 0) (nI p) (nI o) (fun u37 x38 => some (x38, u37)) n u (oI r) x36) P := fun r hr => by
          refine okJ (okR ?_)
          rw [nI_1]
          exact hk u r ⟨rfl, hr.symm⟩
        simp only [f_M_wouldTake_L31]
        refine okJ (m_s0 R (okF (nI_ge hj (by omega)) ?_))
        refine okJ (m_r 4 (okJ (m_gA (k := 3) R hj (by decide) ?_)))
        refine okJ (m_r 12 (okJ (m_pA (k := 4) R hp (by decide) ?_)))
        -- the best so far is asked for its likeness, whatever comes
        have best : ∀ (v : Int32) (may : Int32) (Q : Int32 × Mm → Prop), (∀ m, (∀ b, a = some b → m = sLik S o b) → (a = none → m = 0) → Q (m, u)) → OkO ((if 0 ≤ oI a then ob (jk YM 5 (some 0)) fun t => yb (f_M_likeOf F u t (nI o) (oI a)) fun x27 u28 => some (x27, u28) else some ((0 : Int32), u)) : Option (Int32 × Mm)) Q := by
          intro v may Q hQ
          cases a with
          | none => exact okF (by show ¬ (0 : Int32) ≤ -4; decide) (okR (hQ 0 (fun b hb => by cases hb) (fun _ => rfl)))
          | some b =>
            have hb := (hin (by omega) rfl).1
            exact okT (nI_pos' (by omega)) (okJ (m_k (okY (m_lik R hv ho (by omega) (okR (hQ _ (fun b' hb' => by cases hb'; rfl) (fun z => by cases z)))))))
        refine okJ (okI (fun c1 => okR ?_) (fun c1 => okR ?_))
        · refine okJ (okF i1n (okJ (m_k (okY (m_lik R hv ho hj (okR ?_))))))
          dsimp only
          rw [if_pos c1] at hs
          have no : (sLik S o j ≤ 0 ∨ sLik S o j < sp S p 3) → OkO (ob ((if 0 ≤ oI a then ob (jk YM 5 (some 0)) fun t => yb (f_M_likeOf F u t (nI o) (oI a)) fun x27 u28 => some (x27, u28) else some ((0 : Int32), u)) : Option (Int32 × Mm)) fun q25 => ob ((if (0 : Int32) = 0 then some (oI a, q25.2) else (if q25.1 < sLik S o j then some (nI j, q25.2) else (if sLik S o j = q25.1 then ob (jk YM 5 (some 0)) fun t => yb (f_M_isLater F q25.2 t (nI j) (oI a)) fun x33 u34 => (if x33 = 0 then some (oI a, u34) else some (nI j, u34)) else some (oI a, q25.2)))) : Option (Int32 × Mm)) fun q29 => ob (some (nI j + (1 : Int32))) fun x36 => f_M_wouldTake_L31 F (some 0) (nI p) (nI o) (fun u37 x38 => some (x38, u37)) n q29.2 q29.1 x36) P := by
            intro c2
            refine okJ (best 0 0 _ (fun m _ _ => okJ (okT rfl (okR ?_))))
            rw [if_pos c2] at hs
            exact go a hs
          refine okJ (okF i1n (okI (fun c2 => okR (no (Or.inl c2))) (fun c2 => okJ (m_r 11 (okJ (m_pA (k := 3) R hp (by decide) (okI (fun c3 => okR (no (Or.inr c3))) (fun c3 => okR ?_))))))))
          rw [if_neg (fun z => z.elim c2 c3)] at hs
          refine okJ (best 0 0 _ (fun m hm1 hm0 => okJ (okF i1n ?_)))
          dsimp only
          cases a with
          | none =>
            have := hm0 rfl
            refine okT (by rw [this]; exact Int32.not_le.mp c2) (okR (go (some j) hs))
          | some b =>
            have := hm1 b rfl
            have hb := (hin (by omega) rfl).1
            subst this
            dsimp only at hs
            refine okI (fun c4 => okR ?_) (fun c4 => okI (fun c5 => okJ (m_k (okY ?_))) (fun c5 => okR ?_))
            · rw [if_pos c4] at hs; exact go (some j) hs
            · rw [if_neg c4, if_pos c5] at hs
              unfold f_M_isLater
              refine okJ (m_r 5 (okJ (m_gA (k := 4) R hj (by decide) (okJ (m_r 5 (okJ (m_gA (k := 4) (i := b) R (by omega) (by decide) (okI (fun c6 => okJ (okz (Or.inl rfl) (okR (okT rfl (okR ?_))))) (fun c6 => okJ (okz (Or.inr rfl) (okR (okF i1n (okR ?_)))))))))))))
              · rw [if_pos c6] at hs; exact go (some b) hs
              · rw [if_neg c6] at hs; exact go (some j) hs
            · rw [if_neg c4, if_neg c5] at hs; exact go (some b) hs
        · refine okJ (okT rfl (okR ?_))
          dsimp only
          refine okJ (okT rfl (okR ?_))
          refine okJ (best 0 0 _ (fun m _ _ => okJ (okT rfl (okR ?_))))
          rw [if_neg c1] at hs
          exact go a hs
end MD
