/-! PURE 67: a guest more; digits of a text -/
def pRow (f : Nat → Nat → Int32) (i : Nat) (a b c q pl : Int32) : Nat → Nat → Int32 := fun x j => if x = i then (if j = 0 then a else if j = 1 then b else if j = 2 then c else if j = 3 then q else if j = 4 then pl else if j = 5 then -4 else if j = 6 then -4 else 0) else f x j
theorem pRow_o {f : Nat → Nat → Int32} {i x : Nat} {a b c q pl : Int32} (h : x ≠ i) : pRow f i a b c q pl x = f x := by funext j; unfold pRow; rw [if_neg h]
theorem pRow_i {f : Nat → Nat → Int32} {i j : Nat} {a b c q pl : Int32} : pRow f i a b c q pl i j = if j = 0 then a else if j = 1 then b else if j = 2 then c else if j = 3 then q else if j = 4 then pl else if j = 5 then -4 else if j = 6 then -4 else 0 := by unfold pRow; rw [if_pos rfl]
def sGu (S : Hs) (a b c q pl : Int32) : Hs := ((sG S, sP S + 1, sM S, sT S), S.2.1, sg S, pRow (sp S) (sP S) a b c q pl)
theorem o9b {m : Nat} (h : m < 9) : m = 0 ∨ m = 1 ∨ m = 2 ∨ m = 3 ∨ m = 4 ∨ m = 5 ∨ m = 6 ∨ m = 7 ∨ m = 8 := by omega
theorem RX.growP {h : Nat} {f : Nat → Nat → Int32} {S : Hs} (R : RX h f S) (hlt : sP S < 6) : RX h (y2 f (hI h) 3 (nI (sP S + 1))) ((sG S, sP S + 1, sM S, sT S), S.2.1, sg S, (fun x j => if x = sP S then f (pI h (sP S)) (j + 1) else sp S x j)) := by
  obtain ⟨a, b, c, d, e, g⟩ := R
  have hk : ∀ j, j ≠ 3 → y2 f (hI h) 3 (nI (sP S + 1)) (hI h) j = f (hI h) j := fun j hj => y2_k _ _ hj
  refine ⟨⟨a.1, hlt⟩, ⟨?_, y2_s _ _ _ _, ?_, ?_, ?_, ?_, ?_⟩, ⟨fun j hj => ?_, fun j hj => ?_⟩, fun j m (hj : j < sG S) hm h4 => ?_, fun j (hj : j < sG S) hl => ?_, fun j m (hj : j < sP S + 1) hm => ?_⟩
  · rw [hk 2 (by decide)]; exact b.1
  · rw [hk 4 (by decide)]; exact b.2.2.1
  · rw [hk 5 (by decide)]; exact b.2.2.2.1
  · rw [hk 6 (by decide)]; exact b.2.2.2.2.1
  · rw [hk 7 (by decide)]; exact b.2.2.2.2.2.1
  · rw [hk 8 (by decide)]; exact b.2.2.2.2.2.2
  · rw [y2_i _ _ gh_ne]; exact c.1 j hj
  · rw [y2_i _ _ ph_ne]; exact c.2 j hj
  · rw [y2_i _ _ gh_ne]; exact d j m hj hm h4
  · rw [y2_i _ _ gh_ne]; exact e j hj hl
  · rw [y2_i _ _ ph_ne]
    show _ = if j = sP S then f (pI h (sP S)) (m + 1) else sp S j m
    by_cases q : j = sP S
    · rw [if_pos q, q]
    · rw [if_neg q]; exact g j m (by omega) hm
section RQ
variable {h i j p g F d n x k : Nat} {μ0 μ τ0 τ u : Mm} {S : Hs} {dd ee : Int32} {B : Nat → Int32}
theorem x_addP {P : Option Nat × Mm → Prop} {a b c q pl : Int32} (R : XS h μ0 μ S) (hh : h < 3) (hlt : sP S < 6) (k : ∀ μ', XS h μ0 μ' (sGu S a b c q pl) → P (some (pI h (sP S)), μ')) : OkO (f_H_addGuest F μ (hI h) a b c q pl) P := by
  unfold f_H_addGuest
  refine okJ (x_s3 R hh (okT (nI_lt hlt (by decide)) (okJ (x_s3 R hh ?_))))
  rw [nI_1]
  have R1 : XS h μ0 (y2 μ.1 (hI h) 3 (nI (sP S + 1)), μ.2.1, μ.2.2) ((sG S, sP S + 1, sM S, sT S), S.2.1, sg S, (fun x j => if x = sP S then μ.1 (pI h (sP S)) (j + 1) else sp S x j)) :=
    ⟨R.1.growP hlt, R.2.1.y2 (by unfold hI; omega) (by unfold hI; omega), R.2.2⟩
  refine okJ (okE (x := (y2 μ.1 (hI h) 3 (nI (sP S + 1)), μ.2.1, μ.2.2)) (by rw [jpi, jk_h hh, ob_s]) ?_)
  generalize (y2 μ.1 (hI h) 3 (nI (sP S + 1)), μ.2.1, μ.2.2) = μ1 at R1 ⊢
  refine okJ (x_s3 R1 hh ?_)
  have e1 : nI (sP S + 1) - 1 = nI (sP S) := nI_pred _
  show OkO (ob (jk YX 2 (some (hI h))) fun t => yb (f_H_guestAt F μ1 t (nI (sP S + 1) - 1)) _) P
  rw [e1]
  refine okJ (x_h hh (okY (x_guestAt (i := sP S) R1 hh (Nat.lt_succ_self (sP S)) ?_)))
  dsimp only
  refine okJ (okF sI_none (okJ (x_p (i := sP S) R1 hh (Nat.lt_succ_self _) (okY ?_))))
  unfold f_U_begin
  refine okJ (x_wP (i := sP S) (k := 0) R1 hh (Nat.lt_succ_self _) (by decide) (fun μ2 R2 => ?_))
  refine okJ (x_wP (i := sP S) (k := 1) R2 hh (Nat.lt_succ_self _) (by decide) (fun μ3 R3 => ?_))
  refine okJ (x_wP (i := sP S) (k := 2) R3 hh (Nat.lt_succ_self _) (by decide) (fun μ4 R4 => ?_))
  refine okJ (x_wP (i := sP S) (k := 3) R4 hh (Nat.lt_succ_self _) (by decide) (fun μ5 R5 => ?_))
  refine okJ (x_wP (i := sP S) (k := 4) R5 hh (Nat.lt_succ_self _) (by decide) (fun μ6 R6 => ?_))
  refine okJ (x_wP (i := sP S) (k := 5) R6 hh (Nat.lt_succ_self _) (by decide) (fun μ7 R7 => ?_))
  refine okJ (x_wP (i := sP S) (k := 6) R7 hh (Nat.lt_succ_self _) (by decide) (fun μ8 R8 => ?_))
  refine okJ (x_wP (i := sP S) (k := 7) R8 hh (Nat.lt_succ_self _) (by decide) (fun μ9 R9 => ?_))
  refine okJ (x_zP (i := sP S) (k := 8) R9 hh (Nat.lt_succ_self _) (by decide) (Or.inl rfl) (fun μ10 R10 => okR (okR (okR ?_))))
  refine k μ10 ⟨R10.1.cg rfl rfl (fun i m hi hm => rfl) (fun i m hi hm => ?_), R10.2⟩
  show pRow (sp S) (sP S) a b c q pl i m = y2 (y2 (y2 (y2 (y2 (y2 (y2 (y2 (y2 (fun x j => if x = sP S then μ.1 (pI h (sP S)) (j + 1) else sp S x j) (sP S) 0 a) (sP S) 1 b) (sP S) 2 c) (sP S) 3 q) (sP S) 4 pl) (sP S) 5 (-4)) (sP S) 6 (-4)) (sP S) 7 0) (sP S) 8 0 i m
  by_cases z : i = sP S
  · subst z
    rcases o9b hm with rfl | rfl | rfl | rfl | rfl | rfl | rfl | rfl | rfl <;> simp [pRow, y2]
  · rw [pRow_o z, y2_i _ _ z, y2_i _ _ z, y2_i _ _ z, y2_i _ _ z, y2_i _ _ z, y2_i _ _ z, y2_i _ _ z, y2_i _ _ z, y2_i _ _ z, if_neg z]
theorem x_addP0 {P : Option Nat × Mm → Prop} {a b c q pl : Int32} (X : XS h μ0 μ S) (hh : h < 3) (hlt : sP S = 6) (hk : P (none, μ)) : OkO (f_H_addGuest F μ (hI h) a b c q pl) P := by
  unfold f_H_addGuest
  refine okJ (x_s3 X hh ?_)
  rw [hlt]
  exact okF (by decide) (okR hk)
theorem Iv.newP {a b c q pl : Int32} (hv : Iv S) (hlt : sP S < 6) (ha : ∃ n, 0 < n ∧ n < 10 ∧ a = nI n) (hb : ∃ n, 0 < n ∧ n < 10 ∧ b = nI n) (hc : ∃ n, n < 10 ∧ c = nI n) (hpl : ∃ n, n < 6 ∧ pl = nI n) : Iv (sGu S a b c q pl) := by
  refine ⟨⟨hv.1.1, hlt⟩, hv.2.1, hv.2.2.1, hv.2.2.2.1, fun j (hj : j < sP S + 1) => ?_⟩
  by_cases z : j = sP S
  · subst z
    refine ⟨?_, ?_, ?_, ?_, ?_, ?_, ?_⟩
    · have e : sp (sGu S a b c q pl) (sP S) 0 = a := pRow_i
      rw [e]; exact ha
    · have e : sp (sGu S a b c q pl) (sP S) 1 = b := pRow_i
      rw [e]; exact hb
    · have e : sp (sGu S a b c q pl) (sP S) 2 = c := pRow_i
      rw [e]; exact hc
    · have e : sp (sGu S a b c q pl) (sP S) 4 = pl := pRow_i
      rw [e]; exact hpl
    · exact Or.inl pRow_i
    · exact Or.inl pRow_i
    · exact Or.inl pRow_i
  · have e : sp (sGu S a b c q pl) j = sp S j := pRow_o z
    have := hv.2.2.2.2 j (by omega)
    unfold IvP
    rw [e]
    exact this
theorem RM.newP {t t' : Nat → Nat → Int32} {a b c q pl : Int32} (R : RM dd ee t S) (hlt : sP S < 6) (h0 : t' 0 1 = nI (sP S + 1)) (h1 : ∀ j, j ≠ 1 → t' 0 j = t 0 j) (h2 : ∀ id i, 1 ≤ id → id < 17 → ¬ (8 ≤ id ∧ i = sP S) → t' id i = t id i) (h3 : t' 8 (sP S) = a ∧ t' 9 (sP S) = b ∧ t' 10 (sP S) = c ∧ t' 11 (sP S) = q ∧ t' 12 (sP S) = pl ∧ t' 13 (sP S) = -4 ∧ t' 14 (sP S) = -4 ∧ t' 15 (sP S) = 0 ∧ t' 16 (sP S) = 0) : RM dd ee t' (sGu S a b c q pl) := by
  obtain ⟨a0, b0, c0, g0⟩ := R
  refine ⟨⟨a0.1, hlt⟩, ⟨?_, h0, ?_, ?_, ?_, ?_, ?_⟩, fun j m (hj : j < sG S) hm => ?_, fun j m (hj : j < sP S + 1) hm => ?_⟩
  · rw [h1 _ (by decide)]; exact b0.1
  · rw [h1 _ (by decide)]; exact b0.2.2.1
  · rw [h1 _ (by decide)]; exact b0.2.2.2.1
  · rw [h1 _ (by decide)]; exact b0.2.2.2.2.1
  · rw [h1 _ (by decide)]; exact b0.2.2.2.2.2.1
  · rw [h1 _ (by decide)]; exact b0.2.2.2.2.2.2
  · rw [h2 _ _ (by omega) (by omega) (fun z => by omega)]; exact c0 j m hj hm
  · show t' (m + 8) j = pRow (sp S) (sP S) a b c q pl j m
    by_cases z : j = sP S
    · subst z
      obtain ⟨x1, x2, x3, x4, x5, x6, x7, x8, x9⟩ := h3
      rcases o9b hm with rfl | rfl | rfl | rfl | rfl | rfl | rfl | rfl | rfl <;> simp [pRow, x1, x2, x3, x4, x5, x6, x7, x8, x9]
    · rw [pRow_o z, h2 _ _ (by omega) (by omega) (fun y => z y.2)]; exact g0 j m (by omega) hm
/-- a digit's value -/
def dv (B : Nat → Int32) (y : Nat) : Nat := (B y - 48).toNatClampNeg
theorem dv_e {y : Nat} (c : dg B n y) : B y - 48 = nI (dv B y) ∧ dv B y < 10 := by
  have a1 := Int32.le_iff_toInt_le.mp c.2.1
  have a2 := Int32.le_iff_toInt_le.mp c.2.2
  rw [show (48 : Int32).toInt = 48 from rfl] at a1
  rw [show (57 : Int32).toInt = 57 from rfl] at a2
  have h1 : (B y - 48).toInt = (B y).toInt - 48 := by
    rw [Int32.toInt_sub, show (48 : Int32).toInt = 48 from rfl]
    exact Int.bmod_eq_of_le (by omega) (by omega)
  obtain ⟨b, hb2, e⟩ := nI_of2 (x := B y - 48) (n := 9) (M := 9) rfl (by rw [Int32.lt_iff_toInt_lt, h1]; rw [show (0 : Int32).toInt = 0 from rfl]; omega) (by rw [Int32.le_iff_toInt_le, h1]; rw [show (9 : Int32).toInt = 9 from rfl]; omega)
  have e2 : dv B y = b := by unfold dv; rw [e]; exact nI_clamp (by omega)
  rw [e2]
  exact ⟨e, by omega⟩
theorem t_dv {P : Int32 × Mm → Prop} (hd : d < 8) (hn : n ≤ 100) {y : Nat} (hy : dg (u.1 (66 + 2 * d)) n y) (h : P (nI (dv (u.1 (66 + 2 * d)) y), u)) : OkO (f_T_digit F u (some (65 + 2 * d)) (nI y)) P := by
  have := hy.1
  unfold f_T_digit
  refine okJ (x_sk hd (okY (t_ela hd (by omega) (okR ?_))))
  dsimp only
  rw [(dv_e hy).1]
  exact h
end RQ
