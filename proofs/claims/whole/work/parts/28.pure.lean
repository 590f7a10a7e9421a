/-! one house becomes as another; colds alone; care alike; scattered -/
theorem RX.fr {h h2 : Nat} {f f' : Nat → Nat → Int32} {N : Hs} (R : RX h2 f N) (Fr : FrX h f f') (hne : h ≠ h2) : RX h2 f' N := by
  have hb := R.1
  have e1 : ∀ k, f' (hI h2) k = f (hI h2) k := fun k => Fr _ _ (by unfold hI; omega)
  have e2 : ∀ i k, i < 12 → f' (gI h2 i) k = f (gI h2 i) k := fun i k hi => Fr _ _ (by unfold gI; omega)
  have e3 : ∀ i k, i < 6 → f' (pI h2 i) k = f (pI h2 i) k := fun i k hi => Fr _ _ (by unfold pI; omega)
  obtain ⟨a, b, c, d, e, g⟩ := R
  refine ⟨a, by simp only [e1]; exact b, ⟨fun i hi => by rw [e2 i 0 hi]; exact c.1 i hi, fun i hi => by rw [e3 i 0 hi]; exact c.2 i hi⟩, fun i k hi hk h4 => by rw [e2 i _ (by omega)]; exact d i k hi hk h4, fun i hi hl => by rw [e2 i _ (by omega)]; exact e i hi hl, fun i k hi hk => by rw [e3 i _ (by omega)]; exact g i k hi hk⟩
/-- a glass's row without its minute, where it isn't laid -/
def gEq (T N : Hs) (i : Nat) : Prop := (∀ k, k < 7 → k ≠ 4 → sg T i k = sg N i k) ∧ (sg N i 3 < 6 → sg T i 4 = sg N i 4)
theorem RX.cg2 {h : Nat} {f : Nat → Nat → Int32} {S T : Hs} (R : RX h f S) (h1 : T.1 = S.1) (h2 : T.2.1 = S.2.1) (h3 : ∀ i, i < sG S → gEq S T i) (h4 : ∀ i k, i < sP S → k < 9 → sp T i k = sp S i k) : RX h f T := by
  obtain ⟨a, b, c, d, e, g⟩ := R
  obtain ⟨T1, T2, T3, T4⟩ := T
  dsimp only at h1 h2
  subst h1
  subst h2
  refine ⟨a, b, c, fun j m hj hm q => ?_, fun j hj hl => ?_, fun j m hj hm => ?_⟩
  · rw [← (h3 j hj).1 m hm q]; exact d j m hj hm q
  · rw [← (h3 j hj).2 hl]
    rw [← (h3 j hj).1 3 (by decide) (by decide)] at hl
    exact e j hj hl
  · rw [h4 j m hj hm]; exact g j m hj hm
section XF
variable {h h2 i j p g : Nat} {μ0 μ : Mm} {S N : Hs} {F : Nat}
theorem oth (R : XS h μ0 μ S) (hN : RX h2 μ0.1 N) (hne : h ≠ h2) : XS h2 μ μ N := XS.rf (hN.fr R.2.1 hne)
/-- every memory with its numbers shows some house -/
theorem RX.mem {f : Nat → Nat → Int32} (a b m t : Nat) (mi fr lo : Int32) (hb : a ≤ 12 ∧ b ≤ 6) (hs : f (hI h) 2 = nI a ∧ f (hI h) 3 = nI b ∧ f (hI h) 4 = nI t ∧ f (hI h) 5 = nI m ∧ f (hI h) 6 = mi ∧ f (hI h) 7 = fr ∧ f (hI h) 8 = lo) (hn : (∀ i, i < 12 → f (gI h i) 0 = nI i) ∧ (∀ i, i < 6 → f (pI h i) 0 = nI i)) : RX h f ((a, b, m, t), (mi, fr, lo), (fun i k => f (gI h i) (k + 1)), (fun i k => f (pI h i) (k + 1))) :=
  ⟨hb, hs, hn, fun _ _ _ _ _ => rfl, fun _ _ _ => rfl, fun _ _ _ _ => rfl⟩
theorem x_gbec {P : Unit × Mm → Prop} (R : XS h μ0 μ S) (hh : h < 3) (hh2 : h2 < 3) (hne : h ≠ h2) (hN : RX h2 μ0.1 N) (hv : Iv N) (hi : i < sG S) (hi2 : i < sG N) (k : ∀ μ' T, XS h μ0 μ' T → T.1 = S.1 → T.2.1 = S.2.1 → sp T = sp S → (∀ x, x ≠ i → sg T x = sg S x) → gEq T N i → P ((), μ')) : OkO (f_G_become F μ (gI h i) (some (gI h2 i))) P := by
  have c6 := (hv.2.2.2.1 i hi2).2.2.2
  unfold f_G_become
  refine okJ (x_gG (k := 0) (oth R hN hne) hh2 hi2 (by decide) (by decide) ?_)
  refine okJ (x_wG (k := 0) R hh hi (by decide) (by decide) (fun μ1 R1 => ?_))
  refine okJ (x_gG (k := 1) (oth R1 hN hne) hh2 hi2 (by decide) (by decide) ?_)
  refine okJ (x_wG (k := 1) R1 hh hi (by decide) (by decide) (fun μ2 R2 => ?_))
  refine okJ (x_gG (k := 2) (oth R2 hN hne) hh2 hi2 (by decide) (by decide) ?_)
  refine okJ (x_wG (k := 2) R2 hh hi (by decide) (by decide) (fun μ3 R3 => ?_))
  refine okJ (x_gG (k := 3) (oth R3 hN hne) hh2 hi2 (by decide) (by decide) ?_)
  -- the place and the minute: both from the other's cells
  have hz := (hN.fr R3.2.1 hne).2.2.2.2.1 i hi2
  have e4 : ∀ v, (ob (jpi YX 0 4 μ3 (some (gI h i)) v) fun u8 => ob (jgi YX 0 5 u8 (some (gI h2 i))) fun x9 => ob (jpi YX 0 5 u8 (some (gI h i)) x9) fun u10 => ob (jgi YX 0 6 u10 (some (gI h2 i))) fun x11 => ob (jpi YX 0 6 u10 (some (gI h i)) x11) fun u12 => ob (jgi YX 0 7 u12 (some (gI h2 i))) fun x13 => ob (jpz YX 0 7 u12 (some (gI h i)) x13) fun u14 => some ((), u14)) = ob (ob (jpi YX 0 4 μ3 (some (gI h i)) v) fun u8 => jpi YX 0 5 u8 (some (gI h i)) (μ3.1 (gI h2 i) 5)) fun u10 => ob (jgi YX 0 6 u10 (some (gI h2 i))) fun x11 => ob (jpi YX 0 6 u10 (some (gI h i)) x11) fun u12 => ob (jgi YX 0 7 u12 (some (gI h2 i))) fun x13 => ob (jpz YX 0 7 u12 (some (gI h i)) x13) fun u14 => some ((), u14) := by
    intro v
    rw [jpi, jk_g hh (Nat.lt_of_lt_of_le hi R.G), ob_s, ob_s, ob_s, jgi, jk_g hh2 (Nat.lt_of_lt_of_le hi2 hv.1.1), ob_s, ob_s]
    have : y2 μ3.1 (gI h i) 4 v (gI h2 i) 5 = μ3.1 (gI h2 i) 5 := y2_k _ _ (by decide)
    show ob (jpi YX 0 5 _ (some (gI h i)) (y2 μ3.1 (gI h i) 4 v (gI h2 i) 5)) _ = _
    rw [this]
  rw [e4]
  refine okJ (x_wWL (t := μ3.1 (gI h2 i) 5) R3 hh hi (fun _ => rfl) (fun μ4 R4 => ?_))
  refine okJ (x_gG (k := 5) (oth R4 hN hne) hh2 hi2 (by decide) (by decide) ?_)
  refine okJ (x_wG (k := 5) R4 hh hi (by decide) (by decide) (fun μ5 R5 => ?_))
  refine okJ (x_gG (k := 6) (oth R5 hN hne) hh2 hi2 (by decide) (by decide) ?_)
  refine okJ (x_zG (k := 6) R5 hh hi (by decide) (by decide) c6 (fun μ6 R6 => okR ?_))
  refine k μ6 _ R6 rfl rfl rfl (fun x hx => ?_) ⟨fun m hm h4 => ?_, fun hl => ?_⟩
  · funext m
    show y2 (y2 (y2 (y2 (y2 (y2 (y2 (sg S) i 0 _) i 1 _) i 2 _) i 3 _) i 4 _) i 5 _) i 6 _ x m = _
    rw [y2_i _ _ hx, y2_i _ _ hx, y2_i _ _ hx, y2_i _ _ hx, y2_i _ _ hx, y2_i _ _ hx, y2_i _ _ hx]
  · show y2 (y2 (y2 (y2 (y2 (y2 (y2 (sg S) i 0 _) i 1 _) i 2 _) i 3 _) i 4 _) i 5 _) i 6 _ i m = _
    rcases (by omega : m = 0 ∨ m = 1 ∨ m = 2 ∨ m = 3 ∨ m = 5 ∨ m = 6) with rfl | rfl | rfl | rfl | rfl | rfl <;> simp [y2]
  · exact (y2_s (sg (uG (uG (uG (uG S i 0 (sg N i 0)) i 1 (sg N i 1)) i 2 (sg N i 2)) i 3 (sg N i 3))) i 4 (μ3.1 (gI h2 i) 5)).trans (hz hl)
theorem x_pbec {P : Unit × Mm → Prop} (R : XS h μ0 μ S) (hh : h < 3) (hh2 : h2 < 3) (hne : h ≠ h2) (hN : RX h2 μ0.1 N) (hv : Iv N) (hi : i < sP S) (hi2 : i < sP N) (k : ∀ μ' T, XS h μ0 μ' T → T.1 = S.1 → T.2.1 = S.2.1 → sg T = sg S → (∀ x, x ≠ i → sp T x = sp S x) → (∀ m, m < 9 → sp T i m = sp N i m) → P ((), μ')) : OkO (f_U_become F μ (pI h i) (some (pI h2 i))) P := by
  have c8 := (hv.2.2.2.2 i hi2).2.2.2.2.2.2
  unfold f_U_become
  refine okJ (x_pG (k := 0) (oth R hN hne) hh2 hi2 (by decide) ?_)
  refine okJ (x_wP (k := 0) R hh hi (by decide) (fun μ1 R1 => ?_))
  refine okJ (x_pG (k := 1) (oth R1 hN hne) hh2 hi2 (by decide) ?_)
  refine okJ (x_wP (k := 1) R1 hh hi (by decide) (fun μ2 R2 => ?_))
  refine okJ (x_pG (k := 2) (oth R2 hN hne) hh2 hi2 (by decide) ?_)
  refine okJ (x_wP (k := 2) R2 hh hi (by decide) (fun μ3 R3 => ?_))
  refine okJ (x_pG (k := 3) (oth R3 hN hne) hh2 hi2 (by decide) ?_)
  refine okJ (x_wP (k := 3) R3 hh hi (by decide) (fun μ4 R4 => ?_))
  refine okJ (x_pG (k := 4) (oth R4 hN hne) hh2 hi2 (by decide) ?_)
  refine okJ (x_wP (k := 4) R4 hh hi (by decide) (fun μ5 R5 => ?_))
  refine okJ (x_pG (k := 5) (oth R5 hN hne) hh2 hi2 (by decide) ?_)
  refine okJ (x_wP (k := 5) R5 hh hi (by decide) (fun μ6 R6 => ?_))
  refine okJ (x_pG (k := 6) (oth R6 hN hne) hh2 hi2 (by decide) ?_)
  refine okJ (x_wP (k := 6) R6 hh hi (by decide) (fun μ7 R7 => ?_))
  refine okJ (x_pG (k := 7) (oth R7 hN hne) hh2 hi2 (by decide) ?_)
  refine okJ (x_wP (k := 7) R7 hh hi (by decide) (fun μ8 R8 => ?_))
  refine okJ (x_pG (k := 8) (oth R8 hN hne) hh2 hi2 (by decide) ?_)
  refine okJ (x_zP (k := 8) R8 hh hi (by decide) c8 (fun μ9 R9 => okR ?_))
  refine k μ9 _ R9 rfl rfl rfl (fun x hx => ?_) (fun m hm => ?_)
  · funext m
    show y2 (y2 (y2 (y2 (y2 (y2 (y2 (y2 (y2 (sp S) i 0 _) i 1 _) i 2 _) i 3 _) i 4 _) i 5 _) i 6 _) i 7 _) i 8 _ x m = _
    rw [y2_i _ _ hx, y2_i _ _ hx, y2_i _ _ hx, y2_i _ _ hx, y2_i _ _ hx, y2_i _ _ hx, y2_i _ _ hx, y2_i _ _ hx, y2_i _ _ hx]
  · show y2 (y2 (y2 (y2 (y2 (y2 (y2 (y2 (y2 (sp S) i 0 _) i 1 _) i 2 _) i 3 _) i 4 _) i 5 _) i 6 _) i 7 _) i 8 _ i m = _
    rcases (by omega : m = 0 ∨ m = 1 ∨ m = 2 ∨ m = 3 ∨ m = 4 ∨ m = 5 ∨ m = 6 ∨ m = 7 ∨ m = 8) with rfl | rfl | rfl | rfl | rfl | rfl | rfl | rfl | rfl <;> simp [y2]
theorem x_bec {P : Unit × Mm → Prop} (R : XS h μ0 μ S) (hh : h < 3) (hh2 : h2 < 3) (hne : h ≠ h2) (hN : RX h2 μ0.1 N) (hv : Iv N) (hF : 100 ≤ F) (k : ∀ μ', XS h μ0 μ' (uC N 0 0 (-4)) → P ((), μ')) : OkO (f_H_become F μ (hI h) (some (hI h2))) P := by
  have hb := hv.1
  have hN0 := oth R hN hne
  have hs := hN0.1.2.1
  have hn := R.1.2.2.1
  have ne : ∀ (f : Nat → Nat → Int32) k v m, y2 f (hI h) k v (hI h2) m = f (hI h2) m := fun f k v m => y2_i _ _ (by unfold hI; omega)
  have w : ∀ (u : Mm) k v, jpi YX 2 k u (some (hI h)) v = some (y2 u.1 (hI h) k v, u.2.1, u.2.2) := fun u k v => by rw [jpi, jk_h hh, ob_s]
  have r : ∀ (u : Mm) k, jgi YX 2 k u (some (hI h2)) = some (u.1 (hI h2) k) := fun u k => by rw [jgi, jk_h hh2, ob_s]
  unfold f_H_become
  simp only [w, r, ob_s, ne, hs.1, hs.2.1, hs.2.2.1, hs.2.2.2.1]
  generalize e1 : y2 (y2 (y2 (y2 (y2 (y2 (y2 μ.1 (hI h) 2 (nI (sG N))) (hI h) 3 (nI (sP N))) (hI h) 4 (nI (sT N))) (hI h) 5 (nI (sM N))) (hI h) 6 0) (hI h) 7 0) (hI h) 8 (-4) = f1
  have f1n : ∀ id k, id ≠ hI h → f1 id k = μ.1 id k := by
    intro id k hid
    rw [← e1, y2_i _ _ hid, y2_i _ _ hid, y2_i _ _ hid, y2_i _ _ hid, y2_i _ _ hid, y2_i _ _ hid, y2_i _ _ hid]
  have R1 : XS h μ0 (f1, μ.2.1, μ.2.2) ((sG N, sP N, sM N, sT N), ((0 : Int32), (0 : Int32), (-4 : Int32)), (fun i k => f1 (gI h i) (k + 1)), (fun i k => f1 (pI h i) (k + 1))) := by
    refine ⟨RX.mem _ _ _ _ _ _ _ hb ?_ ⟨fun i hi => ?_, fun i hi => ?_⟩, fun id k hq => ?_, R.2.2⟩
    · rw [← e1]; refine ⟨?_, ?_, ?_, ?_, ?_, ?_, ?_⟩ <;> simp [y2]
    · show f1 _ _ = _; rw [f1n _ _ gh_ne]; exact hn.1 i hi
    · show f1 _ _ = _; rw [f1n _ _ ph_ne]; exact hn.2 i hi
    · show f1 _ _ = _; rw [f1n _ _ (by unfold hI; omega)]; exact R.2.1 id k hq
  generalize (f1, μ.2.1, μ.2.2) = μ1 at R1 ⊢
  generalize eT : ((sG N, sP N, sM N, sT N), ((0 : Int32), (0 : Int32), (-4 : Int32)), (fun i k => f1 (gI h i) (k + 1)), (fun i k => f1 (pI h i) (k + 1))) = T1 at R1
  have t1 : T1.1 = N.1 := by rw [← eT]
  have t2 : T1.2.1 = (0, 0, -4) := by rw [← eT]
  refine lpA (A := Unit) (L := fun m u _ j => f_H_become_L50 F (some (hI h)) (some (hI h2)) _ m u j) (sG N) (fun j u _ => ∃ T, XS h μ0 u T ∧ T.1 = N.1 ∧ T.2.1 = (0, 0, -4) ∧ ∀ x, x < j → gEq T N x) (fun m u a hQ => ?_) (fun m j u a hj hQ hk => ?_) (sG N) 0 F μ1 () (by omega) (by omega) ⟨T1, R1, t1, t2, fun x hx => absurd hx (Nat.not_lt_zero x)⟩
  · obtain ⟨T, RT, a1, a2, a3⟩ := hQ
    have g1 : sG T = sG N := by show T.1.1 = _; rw [a1]
    have p1 : sP T = sP N := by show T.1.2.1 = _; rw [a1]
    simp only [f_H_become_L50]
    refine okJ (x_s2 RT hh (okT (by rw [g1]; exact nI_le (Nat.le_refl _) (by omega)) ?_))
    refine lpA (A := Unit) (L := fun m u _ j => f_H_become_L94 F (some (hI h)) (some (hI h2)) _ m u j) (sP N) (fun j u _ => ∃ T, XS h μ0 u T ∧ T.1 = N.1 ∧ T.2.1 = (0, 0, -4) ∧ (∀ x, x < sG N → gEq T N x) ∧ ∀ x k, x < j → k < 9 → sp T x k = sp N x k) (fun m u a hQ => ?_) (fun m j u a hj hQ hk => ?_) (sP N) 0 F u () (by omega) (by omega) ⟨T, RT, a1, a2, a3, fun x _ hx => absurd hx (Nat.not_lt_zero x)⟩
    · obtain ⟨T, RT, a1, a2, a3, a4⟩ := hQ
      have g1 : sG T = sG N := by show T.1.1 = _; rw [a1]
      have p1 : sP T = sP N := by show T.1.2.1 = _; rw [a1]
      simp only [f_H_become_L94]
      refine okJ (x_s3 RT hh (okT (by rw [p1]; exact nI_le (Nat.le_refl _) (by omega)) (okR (k u ⟨RT.1.cg2 a1.symm a2.symm (fun i hi => a3 i (by omega)) (fun i m hi hm => (a4 i m (by omega) hm).symm), RT.2⟩))))
    · obtain ⟨T, RT, a1, a2, a3, a4⟩ := hQ
      have g1 : sG T = sG N := by show T.1.1 = _; rw [a1]
      have p1 : sP T = sP N := by show T.1.2.1 = _; rw [a1]
      simp only [f_H_become_L94]
      refine okJ (x_s3 RT hh (okF (by rw [p1]; exact nI_ge hj (by omega)) (okJ (x_h hh (okY (x_guestAt RT hh (by omega) ?_))))))
      dsimp only
      refine okJ (x_h hh2 (okY (x_guestAt (oth RT hN hne) hh2 hj ?_)))
      dsimp only
      refine okJ (okF sI_none (okF sI_none (okJ (x_p RT hh (by omega) (okY (x_pbec RT hh hh2 hne hN hv (by omega) hj (fun μ' T' R' b1 b2 b3 b4 b5 => okR (okJ (okR ?_)))))))))
      rw [nI_1 j]
      refine hk μ' () ⟨T', R', b1.trans a1, b2.trans a2, fun x hx => ?_, fun x m hx hm => ?_⟩
      · unfold gEq; rw [b3]; exact a3 x hx
      · by_cases q : x = j
        · subst q; exact b5 m hm
        · rw [b4 x q]; exact a4 x m (by omega) hm
  · obtain ⟨T, RT, a1, a2, a3⟩ := hQ
    have g1 : sG T = sG N := by show T.1.1 = _; rw [a1]
    simp only [f_H_become_L50]
    refine okJ (x_s2 RT hh (okF (by rw [g1]; exact nI_ge hj (by omega)) (okJ (x_h hh (okY (x_glassAt RT hh (by omega) ?_))))))
    dsimp only
    refine okJ (x_h hh2 (okY (x_glassAt (oth RT hN hne) hh2 hj ?_)))
    dsimp only
    refine okJ (okF sI_none (okF sI_none (okJ (x_g RT hh (by omega) (okY (x_gbec RT hh hh2 hne hN hv (by omega) hj (fun μ' T' R' b1 b2 b3 b4 b5 => okR (okJ (okR ?_)))))))))
    rw [nI_1 j]
    refine hk μ' () ⟨T', R', b1.trans a1, b2.trans a2, fun x hx => ?_⟩
    by_cases q : x = j
    · subst q; exact b5
    · unfold gEq; rw [b4 x q]; exact a3 x (by omega)
end XF
