def sAlone (S : Hs) (q : Nat) : Hs := (S.1, S.2.1, (fun i k => if k = 6 then 0 else sg S i k), (fun p k => if k = 8 then (if p = q then 1 else 0) else sp S p k))
def sCare (S : Hs) (c : Int32) : Hs := (S.1, S.2.1, sg S, (fun p k => if k = 3 then c else sp S p k))
def sSink (S : Hs) (g : Nat) : Hs := uG (uG (uG (uG (uG S g 3 20) g 4 (-4)) g 2 0) g 5 0) g 6 0
def drw (z : Int32) : Int32 := (z &&& 2147483647) / 65536 - (z &&& 2147483647) / 65536 / 6 * 6
def nz (z : Int32) : Int32 := z * 1103515245 + 12345
def scF (p : Nat) (s : Int32 × Hs) : Int32 × Hs := (nz s.1, uP s.2 p 4 (drw (nz s.1)))
def sSc (z : Int32) (S : Hs) : Int32 × Hs := it scF (z, S) (sP S)
theorem sAlone_Iv {S : Hs} {q : Nat} (hv : Iv S) : Iv (sAlone S q) := by
  obtain ⟨a, b, c, d, e⟩ := hv
  refine ⟨a, b, c, fun i hi => ?_, fun p hp => ?_⟩
  · obtain ⟨d0, d2, d3, d6⟩ := d i hi
    exact ⟨d0, d2, d3, Or.inl rfl⟩
  · obtain ⟨e0, e1, e2, e4, e5, e6, e8⟩ := e p hp
    refine ⟨e0, e1, e2, e4, e5, e6, ?_⟩
    show (if p = q then (1 : Int32) else 0) = 0 ∨ (if p = q then (1 : Int32) else 0) = 1
    by_cases c : p = q
    · rw [if_pos c]; exact Or.inr rfl
    · rw [if_neg c]; exact Or.inl rfl
theorem sCare_Iv {S : Hs} {c : Int32} (hv : Iv S) : Iv (sCare S c) := by
  obtain ⟨a, b, c, d, e⟩ := hv
  exact ⟨a, b, c, d, fun p hp => e p hp⟩
theorem sSink_Iv {S : Hs} {g : Nat} (hv : Iv S) : Iv (sSink S g) := by
  unfold sSink
  refine Iv.g (Iv.g (Iv.g (Iv.g (Iv.g hv ?_ ?_ ?_ ?_) ?_ ?_ ?_ ?_) ?_ ?_ ?_ ?_) ?_ ?_ ?_ ?_) ?_ ?_ ?_ ?_ <;> (try (intro z; omega))
  · intro _; exact Or.inr (Or.inr rfl)
  · intro _; exact ⟨0, by omega, rfl⟩
  · intro _; exact Or.inl rfl
theorem drw_in (z : Int32) : ∃ n, n < 6 ∧ drw z = nI n := by
  obtain ⟨j, hj, e⟩ := pk_andE z (m := 2147483647) 31 (by decide)
  unfold drw
  rw [e, show (65536 : Int32) = nI 65536 from rfl, show (6 : Int32) = nI 6 from rfl, pk_div hj (by decide) (by decide), pk_rem (by have := Nat.div_le_self j 65536; omega) (by decide) (by decide)]
  exact ⟨_, Nat.mod_lt _ (by decide), rfl⟩
theorem sSc_in {S : Hs} {z : Int32} (hv : Iv S) : ∀ i, i ≤ sP S → Iv (it scF (z, S) i).2 ∧ Sz S (it scF (z, S) i).2 := by
  intro i hi
  refine it_p (f := scF) (a := (z, S)) (fun i T => Iv T.2 ∧ Sz S T.2) ⟨hv, Sz.rf⟩ (N := sP S) (fun i T hi h => ?_) i hi
  have hd := drw_in (nz T.1)
  show Iv (uP T.2 i 4 (drw (nz T.1))) ∧ Sz S (uP T.2 i 4 (drw (nz T.1)))
  generalize drw (nz T.1) = y at hd ⊢
  exact ⟨Iv.p (k := 4) h.1 (fun z => absurd z (by decide)) (fun z => absurd z (by decide)) (fun _ => hd) (fun z => absurd z (by decide)) (fun z => absurd z (by decide)), h.2⟩
section XG
variable {h i j p g : Nat} {μ0 μ : Mm} {S : Hs} {F : Nat}
theorem x_sink {P : Unit × Mm → Prop} (R : XS h μ0 μ S) (hh : h < 3) (hg : g < sG S) (k : ∀ μ', XS h μ0 μ' (sSink S g) → P ((), μ')) : OkO (f_G_sink F μ (gI h g)) P := by
  unfold f_G_sink
  refine okJ (x_wW (t := -4) R hh hg (by decide) (fun μ1 R1 => ?_))
  refine okJ (x_wG (k := 2) R1 hh hg (by decide) (by decide) (fun μ2 R2 => ?_))
  refine okJ (x_wG (k := 5) R2 hh hg (by decide) (by decide) (fun μ3 R3 => ?_))
  exact okJ (x_zG (k := 6) R3 hh hg (by decide) (by decide) (Or.inl rfl) (fun μ4 R4 => okR (k μ4 R4)))
theorem x_alone {P : Unit × Mm → Prop} {q : Nat} (R : XS h μ0 μ S) (hh : h < 3) (hq : q < 6) (hF : 100 ≤ F) (k : ∀ μ', XS h μ0 μ' (sAlone S q) → P ((), μ')) : OkO (f_H_leaveColdTo F μ (hI h) (nI q)) P := by
  have hG := R.G
  have hPP := R.P
  unfold f_H_leaveColdTo
  refine lpA (A := Unit) (L := fun m u _ j => f_H_leaveColdTo_L2 F (some (hI h)) (nI q) _ m u j) (sG S) (fun j u _ => XS h μ0 u (S.1, S.2.1, (fun i k => if k = 6 ∧ i < j then 0 else sg S i k), sp S)) (fun m u a hQ => ?_) (fun m j u a hj hQ hk => ?_) (sG S) 0 F μ () (by omega) (by omega) ?_
  · simp only [f_H_leaveColdTo_L2]
    refine okJ (x_s2 hQ hh (okT (nI_le (Nat.le_refl _) (by omega)) ?_))
    refine lpA (A := Unit) (L := fun m u _ j => f_H_leaveColdTo_L33 F (some (hI h)) (nI q) _ m u j) (sP S) (fun j u _ => XS h μ0 u (S.1, S.2.1, (fun i k => if k = 6 ∧ i < sG S then 0 else sg S i k), (fun i k => if k = 8 ∧ i < j then (if i = q then 1 else 0) else sp S i k))) (fun m u a hQ => ?_) (fun m j u a hj hQ hk => ?_) (sP S) 0 F u () (by omega) (by omega) ?_
    · simp only [f_H_leaveColdTo_L33]
      refine okJ (x_s3 hQ hh (okT (nI_le (Nat.le_refl _) (by omega)) (okR (k u ⟨hQ.1.cg rfl rfl (fun i k (hi : i < sG S) hk => ?_) (fun i k (hi : i < sP S) hk => ?_), hQ.2⟩))))
      · show (if k = 6 then (0 : Int32) else sg S i k) = if k = 6 ∧ i < sG S then 0 else sg S i k
        by_cases c : k = 6
        · rw [if_pos c, if_pos ⟨c, hi⟩]
        · rw [if_neg c, if_neg (fun z => c z.1)]
      · show (if k = 8 then (if i = q then (1 : Int32) else 0) else sp S i k) = if k = 8 ∧ i < sP S then (if i = q then 1 else 0) else sp S i k
        by_cases c : k = 8
        · simp [c, hi]
        · simp [c]
    · simp only [f_H_leaveColdTo_L33]
      refine okJ (x_s3 hQ hh (okF (nI_ge hj (by show sP S < _; omega)) (okJ (x_h hh (okY (x_guestAt hQ hh hj ?_))))))
      dsimp only
      refine okJ (okF sI_none (okJ ?_))
      have go : ∀ c : Int32, c = (if j = q then 1 else 0) → (c = 0 ∨ c = 1) → OkO (ob (jpz YX 1 9 u (some (pI h j)) c) fun u18 => some u18) (fun x => OkO (ob (some (nI j + 1)) fun x19 => f_H_leaveColdTo_L33 F (some (hI h)) (nI q) (fun u20 => some ((), u20)) m x x19) P) := by
        intro c hc h01
        refine okJ (x_zP (k := 8) hQ hh hj (by decide) h01 (fun μ' R' => okR (okJ (okR ?_))))
        rw [nI_1]
        refine hk μ' () ⟨R'.1.cg rfl rfl (fun i k _ _ => rfl) (fun i k _ _ => ?_), R'.2⟩
        show (if k = 8 ∧ i < j + 1 then (if i = q then (1 : Int32) else 0) else sp S i k) = y2 (fun i k => if k = 8 ∧ i < j then (if i = q then 1 else 0) else sp S i k) j 8 c i k
        by_cases z : k = 8 ∧ i = j
        · obtain ⟨rfl, rfl⟩ := z
          rw [y2_s, if_pos ⟨rfl, by omega⟩, hc]
        · rw [y2_o _ _ z]
          by_cases z2 : k = 8 ∧ i < j
          · rw [if_pos z2, if_pos ⟨z2.1, by omega⟩]
          · rw [if_neg z2, if_neg (fun z3 => z2 ⟨z3.1, by omega⟩)]
      refine okI (fun c => okR (go 1 ?_ (Or.inr rfl))) (fun c => okR (go 0 ?_ (Or.inl rfl)))
      · rw [if_pos (nIi (by omega) (by omega) c)]
      · rw [if_neg (fun z => c (by rw [z]))]
    · exact ⟨hQ.1.cg rfl rfl (fun i k _ _ => rfl) (fun i k _ _ => by show (if k = 8 ∧ i < 0 then (if i = q then (1 : Int32) else 0) else sp S i k) = sp S i k; rw [if_neg (fun z => absurd z.2 (Nat.not_lt_zero _))]), hQ.2⟩
  · simp only [f_H_leaveColdTo_L2]
    refine okJ (x_s2 hQ hh (okF (nI_ge hj (by show sG S < _; omega)) (okJ (x_h hh (okY (x_glassAt hQ hh hj ?_))))))
    dsimp only
    refine okJ (okF sI_none (okJ (x_zG (k := 6) hQ hh hj (by decide) (by decide) (Or.inl rfl) (fun μ' R' => okR (okJ (okR ?_))))))
    rw [nI_1]
    refine hk μ' () ⟨R'.1.cg rfl rfl (fun i k _ _ => ?_) (fun i k _ _ => rfl), R'.2⟩
    show (if k = 6 ∧ i < j + 1 then (0 : Int32) else sg S i k) = y2 (fun i k => if k = 6 ∧ i < j then 0 else sg S i k) j 6 0 i k
    by_cases z : k = 6 ∧ i = j
    · obtain ⟨rfl, rfl⟩ := z
      rw [y2_s, if_pos ⟨rfl, by omega⟩]
    · rw [y2_o _ _ z]
      by_cases z2 : k = 6 ∧ i < j
      · rw [if_pos z2, if_pos ⟨z2.1, by omega⟩]
      · rw [if_neg z2, if_neg (fun z3 => z2 ⟨z3.1, by omega⟩)]
  · exact ⟨R.1.cg rfl rfl (fun i k _ _ => by show (if k = 6 ∧ i < 0 then (0 : Int32) else sg S i k) = sg S i k; rw [if_neg (fun z => absurd z.2 (Nat.not_lt_zero _))]) (fun i k _ _ => rfl), R.2⟩
theorem x_care {P : Unit × Mm → Prop} {c : Int32} (R : XS h μ0 μ S) (hh : h < 3) (hF : 100 ≤ F) (k : ∀ μ', XS h μ0 μ' (sCare S c) → P ((), μ')) : OkO (f_H_careAlike F μ (hI h) c) P := by
  have hPP := R.P
  unfold f_H_careAlike
  refine lpA (A := Unit) (L := fun m u _ j => f_H_careAlike_L2 F (some (hI h)) c _ m u j) (sP S) (fun j u _ => XS h μ0 u (S.1, S.2.1, sg S, (fun i k => if k = 3 ∧ i < j then c else sp S i k))) (fun m u a hQ => ?_) (fun m j u a hj hQ hk => ?_) (sP S) 0 F μ () (by omega) (by omega) ?_
  · simp only [f_H_careAlike_L2]
    refine okJ (x_s3 hQ hh (okT (nI_le (Nat.le_refl _) (by omega)) (okR (k u ⟨hQ.1.cg rfl rfl (fun i k _ _ => rfl) (fun i k (hi : i < sP S) hk => ?_), hQ.2⟩))))
    show (if k = 3 then c else sp S i k) = if k = 3 ∧ i < sP S then c else sp S i k
    by_cases z : k = 3
    · rw [if_pos z, if_pos ⟨z, hi⟩]
    · rw [if_neg z, if_neg (fun y => z y.1)]
  · simp only [f_H_careAlike_L2]
    refine okJ (x_s3 hQ hh (okF (nI_ge hj (by show sP S < _; omega)) (okJ (x_h hh (okY (x_guestAt hQ hh hj ?_))))))
    dsimp only
    refine okJ (okF sI_none (okJ (x_wP (k := 3) hQ hh hj (by decide) (fun μ' R' => okR (okJ (okR ?_))))))
    rw [nI_1]
    refine hk μ' () ⟨R'.1.cg rfl rfl (fun i k _ _ => rfl) (fun i k _ _ => ?_), R'.2⟩
    show (if k = 3 ∧ i < j + 1 then c else sp S i k) = y2 (fun i k => if k = 3 ∧ i < j then c else sp S i k) j 3 c i k
    by_cases z : k = 3 ∧ i = j
    · obtain ⟨rfl, rfl⟩ := z
      rw [y2_s, if_pos ⟨rfl, by omega⟩]
    · rw [y2_o _ _ z]
      by_cases z2 : k = 3 ∧ i < j
      · rw [if_pos z2, if_pos ⟨z2.1, by omega⟩]
      · rw [if_neg z2, if_neg (fun z3 => z2 ⟨z3.1, by omega⟩)]
  · exact ⟨R.1.cg rfl rfl (fun i k _ _ => rfl) (fun i k _ _ => by show (if k = 3 ∧ i < 0 then c else sp S i k) = sp S i k; rw [if_neg (fun z => absurd z.2 (Nat.not_lt_zero _))]), R.2⟩
theorem x_sc {P : Int32 × Mm → Prop} {z : Int32} (R : XS h μ0 μ S) (hh : h < 3) (hv : Iv S) (hF : 100 ≤ F) (k : ∀ μ', XS h μ0 μ' (sSc z S).2 → P ((sSc z S).1, μ')) : OkO (f_H_scatter F μ (hI h) z) P := by
  have hPP := R.P
  unfold f_H_scatter
  refine lpA (A := Int32) (L := fun m u a j => f_H_scatter_L4 F (some (hI h)) _ m u a j) (sP S) (fun j u a => a = (it scF (z, S) j).1 ∧ XS h μ0 u (it scF (z, S) j).2) (fun m u a hQ => ?_) (fun m j u a hj hQ hk => ?_) (sP S) 0 F μ z (by omega) (by omega) ⟨rfl, R⟩
  · obtain ⟨ha, RQ⟩ := hQ
    have hz := (sSc_in (z := z) hv (sP S) (Nat.le_refl _)).2
    simp only [f_H_scatter_L4]
    refine okJ (x_s3 RQ hh (okT (by rw [hz.1]; exact nI_le (Nat.le_refl _) (by omega)) (okR ?_)))
    rw [ha]; exact k u RQ
  · obtain ⟨ha, RQ⟩ := hQ
    have hz := (sSc_in (z := z) hv j (by omega)).2
    simp only [f_H_scatter_L4]
    refine okJ (x_s3 RQ hh (okF (by rw [hz.1]; exact nI_ge hj (by omega)) (okJ (x_h hh (okY (x_guestAt RQ hh (by rw [hz.1]; exact hj) ?_))))))
    dsimp only
    refine okJ (okR (okJ (okF sI_none (okJ (okdv (by decide) (okJ (okrm (by decide) (okJ (x_wP (k := 4) RQ hh (by rw [hz.1]; exact hj) (by decide) (fun μ' R' => okR (okJ (okR ?_)))))))))) ))
    rw [nI_1 j]
    refine hk μ' _ ⟨by rw [it_s, ha]; rfl, ?_⟩
    rw [it_s]
    rw [ha] at R'
    exact R'
end XG
