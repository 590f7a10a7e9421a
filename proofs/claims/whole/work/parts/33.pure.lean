section MF
variable {d e : Int32} {i j k p g q : Nat} {τ0 τ : Mm} {S : Hs} {F : Nat}
theorem clo {S : Hs} {m : Nat} (hv : Iv S) (hm : m < 6) : (nI m = (if sLo S = -4 then -1 else sLo S)) ↔ nI m = sLo S := by
  rcases hv.2.2.1 with z | ⟨v, hvv, z⟩
  · rw [if_pos z, z]
    constructor
    · intro h
      exact absurd h (by rcases (by omega : m = 0 ∨ m = 1 ∨ m = 2 ∨ m = 3 ∨ m = 4 ∨ m = 5) with rfl | rfl | rfl | rfl | rfl | rfl <;> decide)
    · intro h
      exact absurd h (by rcases (by omega : m = 0 ∨ m = 1 ∨ m = 2 ∨ m = 3 ∨ m = 4 ∨ m = 5) with rfl | rfl | rfl | rfl | rfl | rfl <;> decide)
  · rw [if_neg]
    rw [z]
    rcases (by omega : v = 0 ∨ v = 1 ∨ v = 2 ∨ v = 3 ∨ v = 4 ∨ v = 5) with rfl | rfl | rfl | rfl | rfl | rfl <;> decide
theorem m_goOn {P : Unit × Mm → Prop} (R : MS d e τ0 τ S) (hv : Iv S) (hp : p < sP S) (h : ∀ τ', MS d e τ0 τ' (uP S p 4 (plB (sp S p 4) (sLo S))) → P ((), τ')) : OkO (f_M_goOn F τ 0 (nI p)) P := by
  have hPP := R.P
  obtain ⟨n, hn, en⟩ := (hv.2.2.2.2 p hp).2.2.2.1
  have e1 : nI (n + 1) - nI (n + 1) / 6 * 6 = nI ((n + 1) % 6) := by rw [show (6 : Int32) = nI 6 from rfl, pk_rem (by omega) (by decide) (by decide)]
  unfold f_M_goOn
  refine okJ (m_r 12 (okJ (m_pA (k := 4) R hp (by decide) ?_)))
  rw [en, nI_1]
  refine okJ (okrm (by decide) (okJ (m_r 12 (okJ (m_s22 R (okJ ?_))))))
  rw [e1]
  have ep : plB (sp S p 4) (sLo S) = if nI ((n + 1) % 6) = sLo S then (nI ((n + 1) % 6) + 1) - (nI ((n + 1) % 6) + 1) / 6 * 6 else nI ((n + 1) % 6) := by
    unfold plB; rw [en, nI_1, e1]
  rw [ep] at h
  have go : ∀ v, v = (if nI ((n + 1) % 6) = sLo S then (nI ((n + 1) % 6) + 1) - (nI ((n + 1) % 6) + 1) / 6 * 6 else nI ((n + 1) % 6)) → OkO (ob (jas YM τ (some 12) (nI p) v) fun u9 => some ((), u9)) P := by
    intro v hvv
    rw [← hvv] at h
    exact okJ (m_wP (k := 4) R (by omega) (by decide) (fun τ1 R1 => okR (h τ1 R1)))
  refine okI (fun c => okJ (okrm (by decide) (okR (go _ ?_)))) (fun c => okR (go _ ?_))
  · rw [if_pos ((clo hv (Nat.mod_lt _ (by decide))).mp c)]
  · rw [if_neg (fun z => c ((clo hv (Nat.mod_lt _ (by decide))).mpr z))]
theorem mn0 {n : Nat} (h : n < 2 ^ 31) : nI n ≤ 0 ↔ nI n = 0 := by
  constructor
  · intro c
    rcases Nat.eq_zero_or_pos n with z | z
    · rw [z]; rfl
    · exact absurd c (nI_nle z h)
  · intro c; rw [c]; decide
theorem m_guestOn {P : Unit × Mm → Prop} (R : MS d e τ0 τ S) (hv : Iv S) (hp : p < sP S) (hF : 100 ≤ F) (hM : sM S < 100000) (h : ∀ τ', MS d e τ0 τ' (sLive p S) → P ((), τ')) : OkO (f_M_guestOn F τ 0 (nI p)) P := by
  have hG := R.G
  have hPP := R.P
  unfold f_M_guestOn
  have go : ∀ (τ1 : Mm) (T : Hs), MS d e τ0 τ1 T → Iv T → p < sP T → sM T < 100000 → (∀ τ', MS d e τ0 τ' (sLive3 T p) → P ((), τ')) → OkO (ob (jgr YM 5 16 (some 0)) fun r14 => ob (jal YM τ1 r14 (nI p)) fun x15 => (if 0 ≤ x15 then ob (jgi YM 5 3 τ1 (some 0)) fun x17 => ob (jgr YM 5 11 (some 0)) fun r18 => ob (jal YM τ1 r18 (nI p)) fun x19 => ob (jrm x17 x19) fun x20 => ob ((if x20 = 0 then ob (jgr YM 5 6 (some 0)) fun r23 => ob (jgr YM 5 16 (some 0)) fun r24 => ob (jal YM τ1 r24 (nI p)) fun x25 => ob (jal YM τ1 r23 x25) fun x26 => (if x26 ≤ 0 then some τ1 else ob (jk YM 5 (some 0)) fun t => yb (f_M_sipOne F τ1 t (nI p)) fun _ u29 => some u29) else some τ1) : Option (Mm)) fun q21 => ob (jgi YM 5 3 q21 (some 0)) fun x30 => (if x30 ≤ 0 then some ((), q21) else ob (jgi YM 5 3 q21 (some 0)) fun x32 => ob (jgr YM 5 12 (some 0)) fun r33 => ob (jal YM q21 r33 (nI p)) fun x34 => ob (jrm x32 x34) fun x35 => (if x35 = 0 then ob (jk YM 5 (some 0)) fun t => yb (f_M_layOne F q21 t (nI p)) fun _ u38 => some ((), u38) else some ((), q21))) else ob (jk YM 5 (some 0)) fun t => yb (f_M_takeOne F τ1 t (nI p)) fun _ u40 => some ((), u40))) P := by
    intro τ1 T R1 hv1 hp1 hM1 k1
    have hG1 := R1.G
    obtain ⟨⟨np, np0, np1, enp⟩, ⟨nl0, nl1, nl2, enl⟩, -⟩ := hv1.2.2.2.2 p hp1
    refine okJ (m_r 13 (okJ (m_pA (k := 5) R1 hp1 (by decide) ?_)))
    by_cases c : sp T p 5 < 0
    · refine okF (Int32.not_le.mpr c) (okJ (m_k (okY (m_take R1 hv1 hp1 hF (fun τ2 R2 => okR (k1 τ2 ?_))))))
      unfold sLive3; rw [if_pos c]; exact R2
    · obtain ⟨g, hg, eg, eg2⟩ := hold_in hv1 hp1 c
      have e3 : sLive3 T p = sLive2 (sLive1 T p g) p g := by unfold sLive3; rw [if_neg c, eg2]
      rw [e3] at k1
      rw [eg]
      refine okT (nI_pos' (by omega)) (okJ (m_s3 R1 (okJ (m_r 8 (okJ (m_pA (k := 0) R1 hp1 (by decide) ?_))))))
      rw [enp]
      refine okJ (okrm (nI_ne0 np0 (by omega)) (okJ ?_))
      have iM1 : isM (nI (sM T)) (sp T p 0) ↔ nI (sM T) - nI (sM T) / nI np * nI np = 0 := by
        rw [enp]; exact ⟨fun z => z.2, fun z => ⟨nI_nle np0 (by omega), z⟩⟩
      have go2 : ∀ τ2, MS d e τ0 τ2 (sLive1 T p g) → OkO (ob (jgi YM 5 3 τ2 (some 0)) fun x30 => (if x30 ≤ 0 then some ((), τ2) else ob (jgi YM 5 3 τ2 (some 0)) fun x32 => ob (jgr YM 5 12 (some 0)) fun r33 => ob (jal YM τ2 r33 (nI p)) fun x34 => ob (jrm x32 x34) fun x35 => (if x35 = 0 then ob (jk YM 5 (some 0)) fun t => yb (f_M_layOne F τ2 t (nI p)) fun _ u38 => some ((), u38) else some ((), τ2)))) P := by
        intro τ2 R2
        have hz := sLive1_Sz (S := T) (p := p) (g := g)
        have hp2 : p < sP (sLive1 T p g) := by rw [hz.1]; exact hp1
        have hg2 : g < sG (sLive1 T p g) := Nat.lt_of_lt_of_le hg hz.2.2.1
        have hh2 : sp (sLive1 T p g) p 5 = nI g := by
          unfold sLive1
          rcases Classical.em (isM (nI (sM T)) (sp T p 0) ∧ ¬ sg T g 2 ≤ 0) with z | z
          · rw [if_pos z]; exact eg
          · rw [if_neg z]; exact eg
        have hl2 : sp (sLive1 T p g) p 1 = nI nl0 := by
          unfold sLive1
          rcases Classical.em (isM (nI (sM T)) (sp T p 0) ∧ ¬ sg T g 2 ≤ 0) with z | z
          · rw [if_pos z]; exact enl
          · rw [if_neg z]; exact enl
        have hm2 : sM (sLive1 T p g) < 2 ^ 31 := by rw [hz.2.1]; omega
        have no : ¬ (¬ nI (sM (sLive1 T p g)) = 0 ∧ isM (nI (sM (sLive1 T p g))) (sp (sLive1 T p g) p 1)) → P ((), τ2) := fun z => k1 τ2 (by unfold sLive2; rw [if_neg z]; exact R2)
        refine okJ (m_s3 R2 (okI (fun c1 => okR (no (fun z => z.1 ((mn0 hm2).mp c1)))) (fun c1 => okJ (m_s3 R2 (okJ (m_r 9 (okJ (m_pA (k := 1) R2 hp2 (by decide) ?_))))))))
        have iM2 : isM (nI (sM (sLive1 T p g))) (sp (sLive1 T p g) p 1) ↔ nI (sM (sLive1 T p g)) - nI (sM (sLive1 T p g)) / nI nl0 * nI nl0 = 0 := by
          rw [hl2]; exact ⟨fun z => z.2, fun z => ⟨nI_nle nl1 (by omega), z⟩⟩
        rw [hl2]
        refine okJ (okrm (nI_ne0 nl1 (by omega)) (okI (fun c2 => okJ (m_k (okY (m_lay R2 hp2 hg2 hh2 (fun τ3 R3 => okR (k1 τ3 ?_)))))) (fun c2 => okR (no (fun z => c2 (iM2.mp z.2))))))
        unfold sLive2; rw [if_pos ⟨fun z => c1 ((mn0 hm2).mpr z), iM2.mpr c2⟩]; exact R3
      have no1 : ¬ (isM (nI (sM T)) (sp T p 0) ∧ ¬ sg T g 2 ≤ 0) → MS d e τ0 τ1 (sLive1 T p g) := fun z => by unfold sLive1; rw [if_neg z]; exact R1
      refine okI (fun c1 => okJ (m_r 3 (okJ (m_r 13 (okJ (m_pA (k := 5) R1 hp1 (by decide) ?_)))))) (fun c1 => okR (go2 _ (no1 (fun z => c1 (iM1.mp z.1)))))
      rw [eg]
      refine okJ (m_gA (k := 2) R1 hg (by decide) (okI (fun c2 => okR (go2 _ (no1 (fun z => z.2 c2)))) (fun c2 => okJ (m_k (okY (m_sip R1 hv1 hp1 hg eg (fun τ2 R2 => okR (go2 τ2 ?_))))))))
      unfold sLive1; rw [if_pos ⟨iM1.mpr c1, c2⟩]; exact R2
  obtain ⟨-, -, ⟨ns, ns1, ens⟩, -⟩ := hv.2.2.2.2 p hp
  have no : ¬ (¬ nI (sM S) = 0 ∧ isM (nI (sM S)) (sp S p 2)) → sStep S p = S := fun z => by unfold sStep; rw [if_neg z]
  have stay : ¬ (¬ nI (sM S) = 0 ∧ isM (nI (sM S)) (sp S p 2)) → ∀ τ', MS d e τ0 τ' (sLive3 S p) → P ((), τ') := fun z => by unfold sLive at h; rw [no z] at h; exact h
  refine okJ (m_r 10 (okJ (m_pA (k := 2) R hp (by decide) (okJ (okI (fun c => okR (go τ S R hv hp hM (stay (fun z => z.2.1 c)))) (fun c => okJ (m_s3 R (okI (fun c1 => okR (go τ S R hv hp hM (stay (fun z => z.1 ((mn0 (by omega)).mp c1))))) (fun c1 => okJ (m_s3 R (okJ (m_r 10 (okJ (m_pA (k := 2) R hp (by decide) ?_)))))))))))))) 
  have hs0 : ¬ sp S p 2 = 0 := fun z => c (by rw [z]; decide)
  refine okJ (okrm hs0 (okI (fun c2 => okJ (m_k (okY (m_goOn R hv hp (fun τ1 R1 => okR ?_))))) (fun c2 => okR (go τ S R hv hp hM (stay (fun z => c2 z.2.2))))))
  have es : sStep S p = uP S p 4 (plB (sp S p 4) (sLo S)) := by unfold sStep; rw [if_pos ⟨fun z => c1 ((mn0 (by omega)).mpr z), ⟨c, c2⟩⟩]
  refine go τ1 _ R1 ?_ hp hM (by unfold sLive at h; rw [es] at h; exact h)
  rw [← es]; exact sStep_Iv hv hp
theorem m_minute {P : Unit × Mm → Prop} (R : MS d e τ0 τ S) (hv : Iv S) (hF : 100 ≤ F) (hM : sM S < 10000) (h : ∀ τ', MS d e τ0 τ' (sMin S) → P ((), τ')) : OkO (f_M_minuteOn F τ 0) P := by
  have hPP := R.P
  unfold f_M_minuteOn
  refine lpA (A := Unit) (L := fun m u _ j => f_M_minuteOn_L2 F (some 0) _ m u j) (sP S) (fun j u _ => MS d e τ0 u (it sLive S j)) (fun m u a hQ => ?_) (fun m j u a hj hQ hk => ?_) (sP S) 0 F τ () (by omega) (by omega) R
  · obtain ⟨hv2, hz⟩ := itLive hv (sP S) (Nat.le_refl _)
    have sc := hQ.1.2.1
    simp only [f_M_minuteOn_L2]
    refine okJ (m_s1 hQ ?_)
    rw [hz.1]
    refine okT (nI_le (Nat.le_refl _) (by omega)) (okJ (m_s3 hQ ?_))
    rw [nI_1]
    refine okJ (m_wS (d' := d) (e' := e) (sMin S) hQ (fun τ1 R1 => okR (h τ1 R1)) (Or.inl (by decide)) ⟨Nat.le_refl _, Nat.le_refl _⟩ rfl rfl ⟨?_, ?_, ?_, ?_, ?_, ?_, ?_⟩)
    · rw [y2_k _ _ (by decide)]; exact sc.1
    · rw [y2_k _ _ (by decide)]; exact sc.2.1
    · rw [y2_k _ _ (by decide)]; exact sc.2.2.1
    · rw [y2_s]; rfl
    · rw [y2_k _ _ (by decide)]; exact sc.2.2.2.2.1
    · rw [y2_k _ _ (by decide)]; exact sc.2.2.2.2.2.1
    · rw [y2_k _ _ (by decide)]; exact sc.2.2.2.2.2.2
  · obtain ⟨hv2, hz⟩ := itLive hv j (by omega)
    simp only [f_M_minuteOn_L2]
    refine okJ (m_s1 hQ ?_)
    rw [hz.1]
    refine okF (nI_ge hj (by omega)) (okJ (m_k (okY (m_guestOn hQ hv2 (by rw [hz.1]; exact hj) hF (by rw [hz.2.1]; omega) (fun τ1 R1 => okJ (okR ?_))))))
    rw [nI_1 j]; exact hk τ1 () R1
theorem m_go {P : Unit × Mm → Prop} {n : Nat} (R : MS d e τ0 τ S) (hv : Iv S) (hn : n < 1000) (hF : 2000 ≤ F) (hM : sM S < 5000) (h : ∀ τ', MS 0 0 τ0 τ' (sPass (uC S 0 0 (sLo S)) n) → P ((), τ')) : OkO (f_M_goThrough F τ 0 (nI n)) P := by
  have sc := R.1.2.1
  unfold f_M_goThrough
  refine okJ (m_wS (d' := 0) (e' := e) (uC S 0 (sFr S) (sLo S)) R (fun τ1 R1 => ?_) (Or.inr (Or.inl rfl)) ⟨Nat.le_refl _, Nat.le_refl _⟩ rfl rfl ⟨?_, ?_, ?_, ?_, ?_, ?_, ?_⟩)
  · have sc1 := R1.1.2.1
    refine okJ (m_wS (d' := 0) (e' := 0) (uC S 0 0 (sLo S)) R1 (fun τ2 R2 => ?_) (Or.inr (Or.inr rfl)) ⟨Nat.le_refl _, Nat.le_refl _⟩ rfl rfl ⟨?_, ?_, ?_, ?_, ?_, ?_, ?_⟩)
    · refine lpA (A := Unit) (L := fun m u _ j => f_M_goThrough_L12 F (some 0) (nI n) _ m u j) n (fun j u _ => MS 0 0 τ0 u (sPass (uC S 0 0 (sLo S)) j)) (fun m u a hQ => ?_) (fun m j u a hj hQ hk => ?_) n 0 F τ2 () (by omega) (by omega) R2
      · simp only [f_M_goThrough_L12]
        exact okT (nI_le (Nat.le_refl _) (by omega)) (okR (h u hQ))
      · obtain ⟨hv2, hp2, hm2, -, -⟩ := sPass_Iv (S := uC S 0 0 (sLo S)) hv j
        simp only [f_M_goThrough_L12]
        refine okF (nI_ge hj (by omega)) (okJ (m_k (okY (m_minute hQ hv2 (by omega) (by rw [hm2]; show sM S + j < _; omega) (fun τ3 R3 => okJ (okR ?_))))))
        rw [nI_1 j]; exact hk τ3 () R3
    · rw [y2_k _ _ (by decide)]; exact sc1.1
    · rw [y2_k _ _ (by decide)]; exact sc1.2.1
    · rw [y2_k _ _ (by decide)]; exact sc1.2.2.1
    · rw [y2_k _ _ (by decide)]; exact sc1.2.2.2.1
    · rw [y2_k _ _ (by decide)]; exact sc1.2.2.2.2.1
    · rw [y2_s]; rfl
    · rw [y2_k _ _ (by decide)]; exact sc1.2.2.2.2.2.2
  · rw [y2_k _ _ (by decide)]; exact sc.1
  · rw [y2_k _ _ (by decide)]; exact sc.2.1
  · rw [y2_k _ _ (by decide)]; exact sc.2.2.1
  · rw [y2_k _ _ (by decide)]; exact sc.2.2.2.1
  · rw [y2_s]; rfl
  · rw [y2_k _ _ (by decide)]; exact sc.2.2.2.2.2.1
  · rw [y2_k _ _ (by decide)]; exact sc.2.2.2.2.2.2
theorem m_cb {P : Int32 × Mm → Prop} (R : MS d e τ0 τ S) (hv : Iv S) (hF : 100 ≤ F) (h : P (sCB S, τ)) : OkO (f_M_coldBits F τ 0) P := by
  have hPP := R.P
  unfold f_M_coldBits
  refine lpA (A := Int32) (L := fun n u a i => f_M_coldBits_L4 F (some 0) _ n u a i) (sP S) (fun i u a => u = τ ∧ a = it (fun p b => if sp S p 8 = 0 then b else b ||| ((1 : Int32) <<< (nI p &&& 31))) 0 i) (fun n u a hQ => ?_) (fun n i u a hi hQ hk => ?_) (sP S) 0 F τ 0 (by omega) (by omega) ⟨rfl, rfl⟩
  · obtain ⟨hu, ha⟩ := hQ
    subst hu
    simp only [f_M_coldBits_L4]
    refine okJ (m_s1 R (okT (nI_le (Nat.le_refl _) (by omega)) (okR ?_)))
    rw [ha]; exact h
  · obtain ⟨hu, ha⟩ := hQ
    subst hu
    simp only [f_M_coldBits_L4]
    refine okJ (m_s1 R (okF (nI_ge hi (by omega)) (okJ (m_r 16 (okJ (m_pA (k := 8) R hi (by decide) (okJ (okI (fun c => okR (okJ (okR (okJ (okR ?_))))) (fun c => okR (okJ (okR (okJ (okR ?_))))))))))))) 
    · rw [nI_1]; exact hk u _ ⟨rfl, by rw [it_s, ← ha, if_neg (by rw [c]; decide)]⟩
    · rw [nI_1]; exact hk u _ ⟨rfl, by rw [it_s, ← ha, if_pos ((hv.2.2.2.2 i hi).2.2.2.2.2.2.resolve_right c), Int32.or_zero]⟩
theorem m_alone {P : Unit × Mm → Prop} (R : MS d e τ0 τ S) (hq : q < 6) (hF : 100 ≤ F) (h : ∀ τ', MS d e τ0 τ' (sAlone S q) → P ((), τ')) : OkO (f_M_coldAlone F τ 0 (nI q)) P := by
  have hG := R.G
  have hPP := R.P
  unfold f_M_coldAlone
  refine lpA (A := Unit) (L := fun m u _ j => f_M_coldAlone_L2 F (some 0) (nI q) _ m u j) 12 (fun j u _ => MS d e τ0 u (S.1, S.2.1, (fun i k => if k = 6 ∧ i < j then 0 else sg S i k), sp S)) (fun m u a hQ => ?_) (fun m j u a hj hQ hk => ?_) 12 0 F τ () (by omega) (by omega) ?_
  · simp only [f_M_coldAlone_L2]
    refine okT (by decide) ?_
    refine lpA (A := Unit) (L := fun m u _ j => f_M_coldAlone_L23 F (some 0) (nI q) _ m u j) 6 (fun j u _ => MS d e τ0 u (S.1, S.2.1, (fun i k => if k = 6 ∧ i < 12 then 0 else sg S i k), (fun i k => if k = 8 ∧ i < j then (if i = q then 1 else 0) else sp S i k))) (fun m u a hQ => ?_) (fun m j u a hj hQ hk => ?_) 6 0 F u () (by omega) (by omega) ?_
    · simp only [f_M_coldAlone_L23]
      refine okT (by decide) (okR (h u ⟨hQ.1.cg rfl rfl (fun i k (hi : i < sG S) hk => ?_) (fun i k (hi : i < sP S) hk => ?_), hQ.2⟩))
      · show (if k = 6 then (0 : Int32) else sg S i k) = if k = 6 ∧ i < 12 then 0 else sg S i k
        by_cases c : k = 6
        · rw [if_pos c, if_pos ⟨c, by omega⟩]
        · rw [if_neg c, if_neg (fun z => c z.1)]
      · show (if k = 8 then (if i = q then (1 : Int32) else 0) else sp S i k) = if k = 8 ∧ i < 6 then (if i = q then 1 else 0) else sp S i k
        have h6 : i < 6 := by omega
        by_cases c : k = 8
        · simp [c, h6]
        · simp [c]
    · simp only [f_M_coldAlone_L23]
      refine okF (nI_ge (b := 6) hj (by decide)) (okJ (m_r 16 (okJ ?_)))
      have go : ∀ c : Int32, c = (if j = q then 1 else 0) → OkO (ob (jas YM u (some 16) (nI j) c) fun u10 => ob (some (nI j + 1)) fun x11 => f_M_coldAlone_L23 F (some 0) (nI q) (fun u12 => some ((), u12)) m u10 x11) P := by
        intro c hc
        refine okJ (m_wP (k := 8) hQ (by omega) (by decide) (fun τ1 R1 => okJ (okR ?_)))
        rw [nI_1]
        refine hk τ1 () ⟨R1.1.cg rfl rfl (fun i k _ _ => rfl) (fun i k _ _ => ?_), R1.2⟩
        show (if k = 8 ∧ i < j + 1 then (if i = q then (1 : Int32) else 0) else sp S i k) = y2 (fun i k => if k = 8 ∧ i < j then (if i = q then 1 else 0) else sp S i k) j 8 c i k
        by_cases z : k = 8 ∧ i = j
        · obtain ⟨rfl, rfl⟩ := z
          rw [y2_s, if_pos ⟨rfl, by omega⟩, hc]
        · rw [y2_o _ _ z]
          by_cases z2 : k = 8 ∧ i < j
          · rw [if_pos z2, if_pos ⟨z2.1, by omega⟩]
          · rw [if_neg z2, if_neg (fun z3 => z2 ⟨z3.1, by omega⟩)]
      refine okI (fun c => okR (go 1 ?_)) (fun c => okR (go 0 ?_))
      · rw [if_pos (nIi (by omega) (by omega) c)]
      · rw [if_neg (fun z => c (by rw [z]))]
    · exact ⟨hQ.1.cg rfl rfl (fun i k _ _ => rfl) (fun i k _ _ => by show (if k = 8 ∧ i < 0 then (if i = q then (1 : Int32) else 0) else sp S i k) = sp S i k; rw [if_neg (fun z => absurd z.2 (Nat.not_lt_zero _))]), hQ.2⟩
  · simp only [f_M_coldAlone_L2]
    refine okF (nI_ge (b := 12) hj (by decide)) (okJ (m_r 7 (okJ (m_wG (k := 6) hQ (by omega) (by decide) (fun τ1 R1 => okJ (okR ?_))))))
    rw [nI_1]
    refine hk τ1 () ⟨R1.1.cg rfl rfl (fun i k _ _ => ?_) (fun i k _ _ => rfl), R1.2⟩
    show (if k = 6 ∧ i < j + 1 then (0 : Int32) else sg S i k) = y2 (fun i k => if k = 6 ∧ i < j then 0 else sg S i k) j 6 0 i k
    by_cases z : k = 6 ∧ i = j
    · obtain ⟨rfl, rfl⟩ := z
      rw [y2_s, if_pos ⟨rfl, by omega⟩]
    · rw [y2_o _ _ z]
      by_cases z2 : k = 6 ∧ i < j
      · rw [if_pos z2, if_pos ⟨z2.1, by omega⟩]
      · rw [if_neg z2, if_neg (fun z3 => z2 ⟨z3.1, by omega⟩)]
  · exact ⟨R.1.cg rfl rfl (fun i k _ _ => by show (if k = 6 ∧ i < 0 then (0 : Int32) else sg S i k) = sg S i k; rw [if_neg (fun z => absurd z.2 (Nat.not_lt_zero _))]) (fun i k _ _ => rfl), R.2⟩
theorem m_emp {P : Int32 × Mm → Prop} (R : MS d e τ0 τ S) (hF : 100 ≤ F) (k1 : sEmp S = true → P (1, τ)) (k0 : ¬ sEmp S = true → P (0, τ)) : OkO (f_M_isSomeEmpty F τ 0) P := by
  have hG := R.G
  unfold f_M_isSomeEmpty
  refine lpA (A := Bool) (L := fun n u b j => f_M_isSomeEmpty_L4 F (some 0) _ n u (if b = true then 1 else 0) j) (sG S) (fun j u b => u = τ ∧ b = bEx (fun i => decide (¬ sg S i 3 = 20) && decide (sg S i 2 = 0)) j) (fun n u b hQ => ?_) (fun n j u b hj hQ hk => ?_) (sG S) 0 F τ false (by omega) (by omega) ⟨rfl, rfl⟩
  · obtain ⟨hu, ha⟩ := hQ
    subst hu
    simp only [f_M_isSomeEmpty_L4]
    refine okJ (m_s0 R (okT (nI_le (Nat.le_refl _) (by omega)) ?_))
    cases b with
    | true => exact okJ (okz (Or.inr rfl) (okR (k1 ha.symm)))
    | false => exact okJ (okz (Or.inl rfl) (okR (k0 (by unfold sEmp; rw [← ha]; decide))))
  · obtain ⟨hu, ha⟩ := hQ
    subst hu
    have hnx : ∀ c, (decide (¬ sg S j 3 = 20) && decide (sg S j 2 = 0)) = c → bEx (fun i => decide (¬ sg S i 3 = 20) && decide (sg S i 2 = 0)) (j + 1) = (b || c) := fun c hc => by rw [bEx_s, ← ha, hc]
    have go : ∀ b', bEx (fun i => decide (¬ sg S i 3 = 20) && decide (sg S i 2 = 0)) (j + 1) = b' → OkO (ob (some (nI j + 1)) fun x11 => f_M_isSomeEmpty_L4 F (some 0) (fun u12 x13 => ob (jz x13) fun v => some (v, u12)) n u (if b' = true then 1 else 0) x11) P := fun b' hb => by
      refine okJ (okR ?_)
      rw [nI_1]; exact hk u b' ⟨rfl, hb.symm⟩
    simp only [f_M_isSomeEmpty_L4]
    refine okJ (m_s0 R (okF (nI_ge hj (by omega)) (okJ ?_)))
    cases b with
    | true => exact okF i1n (okR (go true (by rw [hnx _ rfl]; rfl)))
    | false =>
      refine okT rfl (okJ (m_r 4 (okJ (m_gA (k := 3) R hj (by decide) (okI (fun c => okR (go false ?_)) (fun c => okJ (m_r 3 (okJ (m_gA (k := 2) R hj (by decide) (okI (fun c2 => okR (go true ?_)) (fun c2 => okR (go false ?_)))))))))))) 
      · rw [hnx false (by rw [c]; rfl)]; rfl
      · rw [hnx true (by rw [decide_eq_true c, decide_eq_true c2]; rfl)]; rfl
      · rw [hnx false (by rw [decide_eq_false c2, Bool.and_false])]; rfl
theorem m_sink {P : Unit × Mm → Prop} (R : MS d e τ0 τ S) (hg : g < 12) (h : ∀ τ', MS d e τ0 τ' (sSink S g) → P ((), τ')) : OkO (f_M_sink F τ 0 (nI g)) P := by
  unfold f_M_sink
  refine okJ (m_r 4 (okJ (m_wG (k := 3) R hg (by decide) (fun τ1 R1 => ?_))))
  refine okJ (m_r 5 (okJ (m_wG (k := 4) R1 hg (by decide) (fun τ2 R2 => ?_))))
  refine okJ (m_r 6 (okJ (m_wG (k := 5) R2 hg (by decide) (fun τ3 R3 => ?_))))
  refine okJ (m_r 7 (okJ (m_wG (k := 6) R3 hg (by decide) (fun τ4 R4 => ?_))))
  refine okJ (m_r 3 (okJ (m_wG (k := 2) R4 hg (by decide) (fun τ5 R5 => okR (h τ5 ⟨R5.1.cg rfl rfl (fun i m _ _ => ?_) (fun i m _ _ => rfl), R5.2⟩)))))
  show y2 (y2 (y2 (y2 (y2 (sg S) g 3 20) g 4 (-4)) g 2 0) g 5 0) g 6 0 i m = y2 (y2 (y2 (y2 (y2 (sg S) g 3 20) g 4 (-4)) g 5 0) g 6 0) g 2 0 i m
  by_cases z : i = g
  · subst z
    by_cases z2 : m = 2
    · subst z2; simp [y2]
    · rw [y2_k _ _ z2]
      by_cases z6 : m = 6
      · subst z6; rw [y2_s, y2_s]
      · rw [y2_k _ _ z6, y2_k _ _ z6]
        by_cases z5 : m = 5
        · subst z5; rw [y2_s, y2_s]
        · rw [y2_k _ _ z5, y2_k _ _ z5, y2_k _ _ z2]
  · rw [y2_i _ _ z, y2_i _ _ z, y2_i _ _ z, y2_i _ _ z, y2_i _ _ z, y2_i _ _ z, y2_i _ _ z, y2_i _ _ z, y2_i _ _ z, y2_i _ _ z]
end MF
