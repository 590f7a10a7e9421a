/-! sums and searches over a house -/
def sFil (S : Hs) : Int32 := it (fun i s => s + sg S i 2) 0 (sG S)
def sSnk (S : Hs) : Int32 := it (fun i s => if sg S i 3 = 20 then s + 1 else s) 0 (sG S)
def sLA (S : Hs) (o : Nat) (pl : Int32) : Int32 := it (fun i s => if sg S i 3 = pl then s + sLik S o i else s) 0 (sG S)
def sOwn (S : Hs) (g : Nat) : Bool := bEx (fun p => decide (sp S p 6 = nI g)) (sP S)
def sIdl (S : Hs) (pl : Int32) : Int32 := it (fun i s => if sg S i 3 = pl then (if sOwn S i = true then s else s + 1) else s) 0 (sG S)
def oldF (S : Hs) (pl : Int32) (i : Nat) (b : Option Nat) : Option Nat := if sg S i 3 = pl then (match b with
  | none => some i
  | some j => if sg S j 4 ≤ sg S i 4 then some j else some i) else b
def sOld (S : Hs) (pl : Int32) : Option Nat := it (oldF S pl) none (sG S)
def sCB (S : Hs) : Int32 := it (fun p b => if sp S p 8 = 0 then b else b ||| ((1 : Int32) <<< (nI p &&& 31))) 0 (sP S)
def sobF (S : Hs) (i : Nat) (b : Option Nat) : Option Nat := match b with
  | none => some i
  | some j => if sp S j 7 ≤ sp S i 7 then some j else some i
def sSob (S : Hs) : Option Nat := it (sobF S) none (sP S)
def sEmp (S : Hs) : Bool := bEx (fun i => decide (¬ sg S i 3 = 20) && decide (sg S i 2 = 0)) (sG S)
theorem oldF_in (S : Hs) (pl : Int32) : ∀ i, i ≤ sG S → ∀ b, it (oldF S pl) none i = some b → b < i ∧ sg S b 3 = pl := by
  intro i hi
  refine it_p (f := oldF S pl) (a := none) (fun i s => ∀ b, s = some b → b < i ∧ sg S b 3 = pl) (fun b h => by cases h) (N := sG S) (fun i s hi h b hb => ?_) i hi
  unfold oldF at hb
  by_cases c1 : sg S i 3 = pl
  · rw [if_pos c1] at hb
    cases s with
    | none => cases hb; exact ⟨by omega, c1⟩
    | some j =>
      dsimp only at hb
      by_cases c2 : sg S j 4 ≤ sg S i 4
      · rw [if_pos c2] at hb; cases hb; exact ⟨by have := (h b rfl).1; omega, (h b rfl).2⟩
      · rw [if_neg c2] at hb; cases hb; exact ⟨by omega, c1⟩
  · rw [if_neg c1] at hb; exact ⟨by have := (h b hb).1; omega, (h b hb).2⟩
theorem sobF_in (S : Hs) : ∀ i, i ≤ sP S → ∀ b, it (sobF S) none i = some b → b < i := by
  intro i hi
  refine it_p (f := sobF S) (a := none) (fun i s => ∀ b, s = some b → b < i) (fun b h => by cases h) (N := sP S) (fun i s hi h b hb => ?_) i hi
  unfold sobF at hb
  cases s with
  | none => cases hb; omega
  | some j =>
    dsimp only at hb
    by_cases c2 : sp S j 7 ≤ sp S i 7
    · rw [if_pos c2] at hb; cases hb; have := h b rfl; omega
    · rw [if_neg c2] at hb; cases hb; omega
theorem i1n : ¬ (1 : Int32) = 0 := by decide
section XC2
variable {h i j p : Nat} {μ0 μ : Mm} {S : Hs} {F : Nat}
theorem x_fil {P : Int32 × Mm → Prop} (R : XS h μ0 μ S) (hh : h < 3) (hF : 100 ≤ F) (k : P (sFil S, μ)) : OkO (f_H_allFills F μ (hI h)) P := by
  have hG := R.G
  unfold f_H_allFills
  refine lpA (A := Int32) (L := fun n u a i => f_H_allFills_L4 F (some (hI h)) _ n u a i) (sG S) (fun i u a => u = μ ∧ a = it (fun i s => s + sg S i 2) 0 i) (fun n u a hI => ?_) (fun n i u a hi hI hk => ?_) (sG S) 0 F μ 0 (by omega) (by omega) ⟨rfl, rfl⟩
  · obtain ⟨hu, ha⟩ := hI
    subst hu
    simp only [f_H_allFills_L4]
    refine okJ (x_s2 R hh (okT (nI_le (Nat.le_refl _) (by omega)) (okR ?_)))
    rw [ha]; exact k
  · obtain ⟨hu, ha⟩ := hI
    subst hu
    simp only [f_H_allFills_L4]
    refine okJ (x_s2 R hh (okF (nI_ge hi (by omega)) ?_))
    refine okJ (x_h hh (okY (x_glassAt R hh hi ?_)))
    dsimp only
    refine okJ (okF sI_none (okJ (x_gG (k := 2) R hh hi (by decide) (by decide) (okJ (okR (okR (okJ (okR ?_))))))))
    rw [nI_1]
    exact hk u _ ⟨rfl, by rw [it_s, ← ha]⟩
theorem x_snk {P : Int32 × Mm → Prop} (R : XS h μ0 μ S) (hh : h < 3) (hF : 100 ≤ F) (k : P (sSnk S, μ)) : OkO (f_H_countInSink F μ (hI h)) P := by
  have hG := R.G
  unfold f_H_countInSink
  refine lpA (A := Int32) (L := fun n u a i => f_H_countInSink_L4 F (some (hI h)) _ n u a i) (sG S) (fun i u a => u = μ ∧ a = it (fun i s => if sg S i 3 = 20 then s + 1 else s) 0 i) (fun n u a hI => ?_) (fun n i u a hi hI hk => ?_) (sG S) 0 F μ 0 (by omega) (by omega) ⟨rfl, rfl⟩
  · obtain ⟨hu, ha⟩ := hI
    subst hu
    simp only [f_H_countInSink_L4]
    refine okJ (x_s2 R hh (okT (nI_le (Nat.le_refl _) (by omega)) (okR ?_)))
    rw [ha]; exact k
  · obtain ⟨hu, ha⟩ := hI
    subst hu
    simp only [f_H_countInSink_L4]
    refine okJ (x_s2 R hh (okF (nI_ge hi (by omega)) ?_))
    refine okJ (x_h hh (okY (x_glassAt R hh hi ?_)))
    dsimp only
    refine okJ (okF sI_none (okJ (x_gG (k := 3) R hh hi (by decide) (by decide) (okI (fun c => okJ (okR (okR (okJ (okR ?_))))) (fun c => okR (okJ (okR ?_)))))))
    · rw [nI_1]; exact hk u _ ⟨rfl, by rw [it_s, ← ha, if_pos c]⟩
    · rw [nI_1]; exact hk u _ ⟨rfl, by rw [it_s, ← ha, if_neg c]⟩
theorem x_la {P : Int32 × Mm → Prop} {pl : Int32} (R : XS h μ0 μ S) (hh : h < 3) (hj : j < sG S) (hF : 100 ≤ F) (k : P (sLA S j pl, μ)) : OkO (f_H_likeToAllAt F μ (hI h) (some (gI h j)) pl) P := by
  have hG := R.G
  unfold f_H_likeToAllAt
  refine lpA (A := Int32) (L := fun n u a i => f_H_likeToAllAt_L5 F (some (hI h)) (some (gI h j)) pl _ n u a i) (sG S) (fun i u a => u = μ ∧ a = it (fun i s => if sg S i 3 = pl then s + sLik S j i else s) 0 i) (fun n u a hI => ?_) (fun n i u a hi hI hk => ?_) (sG S) 0 F μ 0 (by omega) (by omega) ⟨rfl, rfl⟩
  · obtain ⟨hu, ha⟩ := hI
    subst hu
    simp only [f_H_likeToAllAt_L5]
    refine okJ (x_s2 R hh (okT (nI_le (Nat.le_refl _) (by omega)) (okR ?_)))
    rw [ha]; exact k
  · obtain ⟨hu, ha⟩ := hI
    subst hu
    simp only [f_H_likeToAllAt_L5]
    refine okJ (x_s2 R hh (okF (nI_ge hi (by omega)) ?_))
    refine okJ (x_h hh (okY (x_glassAt R hh hi ?_)))
    dsimp only
    refine okJ (okF sI_none (okJ (x_gG (k := 3) R hh hi (by decide) (by decide) (okI (fun c => okJ (x_g R hh hj (okY (x_lik R hh hj hi (okJ (okR (okR (okJ (okR ?_)))))))) ) (fun c => okR (okJ (okR ?_)))))))
    · dsimp only; rw [nI_1]; exact hk u _ ⟨rfl, by rw [it_s, ← ha, if_pos c]⟩
    · dsimp only; rw [nI_1]; exact hk u _ ⟨rfl, by rw [it_s, ← ha, if_neg c]⟩
theorem x_own {P : Int32 × Mm → Prop} (R : XS h μ0 μ S) (hh : h < 3) (hi : i < 12) (hF : 100 ≤ F) (k1 : sOwn S i = true → P (1, μ)) (k0 : ¬ sOwn S i = true → P (0, μ)) : OkO (f_H_isOwned F μ (hI h) (nI i)) P := by
  have hG := R.P
  unfold f_H_isOwned
  refine lpA (A := Unit) (L := fun n u _ j => f_H_isOwned_L2 F (some (hI h)) (nI i) _ n u j) (sP S) (fun j u _ => u = μ ∧ bEx (fun p => decide (sp S p 6 = nI i)) j = false) (fun n u a hI => ?_) (fun n j u a hj hI hk => ?_) (sP S) 0 F μ () (by omega) (by omega) ⟨rfl, rfl⟩
  · obtain ⟨hu, ha⟩ := hI
    subst hu
    simp only [f_H_isOwned_L2]
    refine okJ (x_s3 R hh (okT (nI_le (Nat.le_refl _) (by omega)) (okJ (okz (Or.inl rfl) (okR (k0 ?_))))))
    unfold sOwn; rw [ha]; decide
  · obtain ⟨hu, ha⟩ := hI
    subst hu
    simp only [f_H_isOwned_L2]
    refine okJ (x_s3 R hh (okF (nI_ge hj (by omega)) ?_))
    refine okJ (x_h hh (okY (x_guestAt R hh hj ?_)))
    dsimp only
    refine okF sI_none (okJ (x_pG (k := 6) R hh hj (by decide) (okI (fun c => okJ (okz (Or.inr rfl) (okR (k1 ?_)))) (fun c => okJ (okR ?_)))))
    · exact bEx_m hj (decide_eq_true c)
    · rw [nI_1]; exact hk u () ⟨rfl, by rw [bEx_s, ha, Bool.false_or]; exact decide_eq_false c⟩
theorem x_idl {P : Int32 × Mm → Prop} {pl : Int32} (R : XS h μ0 μ S) (hh : h < 3) (hF : 100 ≤ F) (k : P (sIdl S pl, μ)) : OkO (f_H_idleAt F μ (hI h) pl) P := by
  have hG := R.G
  unfold f_H_idleAt
  refine lpA (A := Int32) (L := fun n u a i => f_H_idleAt_L4 F (some (hI h)) pl _ n u a i) (sG S) (fun i u a => u = μ ∧ a = it (fun i s => if sg S i 3 = pl then (if sOwn S i = true then s else s + 1) else s) 0 i) (fun n u a hI => ?_) (fun n i u a hi hI hk => ?_) (sG S) 0 F μ 0 (by omega) (by omega) ⟨rfl, rfl⟩
  · obtain ⟨hu, ha⟩ := hI
    subst hu
    simp only [f_H_idleAt_L4]
    refine okJ (x_s2 R hh (okT (nI_le (Nat.le_refl _) (by omega)) (okR ?_)))
    rw [ha]; exact k
  · obtain ⟨hu, ha⟩ := hI
    subst hu
    simp only [f_H_idleAt_L4]
    refine okJ (x_s2 R hh (okF (nI_ge hi (by omega)) ?_))
    refine okJ (x_h hh (okY (x_glassAt R hh hi ?_)))
    dsimp only
    refine okJ (okF sI_none (okJ (x_gG (k := 3) R hh hi (by decide) (by decide) (okI (fun c => okJ (x_h hh (okY (x_own R hh (by omega) hF (fun c2 => okF i1n (okR (okJ (okR ?_)))) (fun c2 => okT rfl (okJ (okR (okR (okJ (okR ?_)))))))))) (fun c => okR (okJ (okR ?_)))))))
    · dsimp only; rw [nI_1]; exact hk u _ ⟨rfl, by rw [it_s, ← ha, if_pos c, if_pos c2]⟩
    · dsimp only; rw [nI_1]; exact hk u _ ⟨rfl, by rw [it_s, ← ha, if_pos c, if_neg c2]⟩
    · dsimp only; rw [nI_1]; exact hk u _ ⟨rfl, by rw [it_s, ← ha, if_neg c]⟩
theorem x_old {P : Int32 × Mm → Prop} {pl : Int32} (R : XS h μ0 μ S) (hh : h < 3) (hpl : pl < 6) (hF : 100 ≤ F) (k : P (oI (sOld S pl), μ)) : OkO (f_H_oldestAt F μ (hI h) pl) P := by
  have hG := R.G
  unfold f_H_oldestAt
  refine lpA (A := Option Nat) (L := fun n u a i => f_H_oldestAt_L4 F (some (hI h)) pl _ n u (a.map (gI h)) i) (sG S) (fun i u a => u = μ ∧ a = it (oldF S pl) none i) (fun n u a hI => ?_) (fun n i u a hi hI hk => ?_) (sG S) 0 F μ none (by omega) (by omega) ⟨rfl, rfl⟩
  · obtain ⟨hu, ha⟩ := hI
    subst hu
    have hin := oldF_in S pl (sG S) (Nat.le_refl _)
    rw [← ha] at hin
    have k' : P (oI a, u) := by rw [ha]; exact k
    simp only [f_H_oldestAt_L4]
    refine okJ (x_s2 R hh (okT (nI_le (Nat.le_refl _) (by omega)) ?_))
    cases a with
    | none => exact okT rfl (okR k')
    | some b => exact okF sI_none (okJ (x_gN R hh (hin b rfl).1 (okR k')))
  · obtain ⟨hu, ha⟩ := hI
    subst hu
    have hin := oldF_in S pl i (by omega)
    rw [← ha] at hin
    have hnx : it (oldF S pl) none (i + 1) = oldF S pl i a := by rw [it_s, ← ha]
    simp only [f_H_oldestAt_L4]
    refine okJ (x_s2 R hh (okF (nI_ge hi (by omega)) ?_))
    refine okJ (x_h hh (okY (x_glassAt R hh hi ?_)))
    dsimp only
    have go : ∀ b', oldF S pl i a = b' → OkO (ob (some (nI i + 1)) fun x13 => f_H_oldestAt_L4 F (some (hI h)) pl _ n u (b'.map (gI h)) x13) P := fun b' hc => by
      refine okJ (okR ?_)
      rw [nI_1]
      exact hk u b' ⟨rfl, by rw [hnx, hc]⟩
    refine okJ (okF sI_none (okJ (x_gG (k := 3) R hh hi (by decide) (by decide) ?_)))
    refine okI (fun c => ?_) (fun c => okR (go a (by unfold oldF; rw [if_neg c])))
    cases a with
    | none => exact okT rfl (okR (go (some i) (by unfold oldF; rw [if_pos c])))
    | some b =>
      obtain ⟨hb, hwb⟩ := hin b rfl
      refine okF sI_none (okJ (x_gL R hh hi (by rw [c]; exact hpl) (okJ (x_gL R hh (by omega) (by rw [hwb]; exact hpl) (okI (fun c2 => okR ?_) (fun c2 => okR ?_))))))
      · exact go (some b) (by unfold oldF; rw [if_pos c]; dsimp only; rw [if_pos c2])
      · exact go (some i) (by unfold oldF; rw [if_pos c]; dsimp only; rw [if_neg c2])
theorem x_cb {P : Int32 × Mm → Prop} (R : XS h μ0 μ S) (hh : h < 3) (hF : 100 ≤ F) (k : P (sCB S, μ)) : OkO (f_H_coldBits F μ (hI h)) P := by
  have hG := R.P
  unfold f_H_coldBits
  refine lpA (A := Int32) (L := fun n u a i => f_H_coldBits_L4 F (some (hI h)) _ n u a i) (sP S) (fun i u a => u = μ ∧ a = it (fun p b => if sp S p 8 = 0 then b else b ||| ((1 : Int32) <<< (nI p &&& 31))) 0 i) (fun n u a hI => ?_) (fun n i u a hi hI hk => ?_) (sP S) 0 F μ 0 (by omega) (by omega) ⟨rfl, rfl⟩
  · obtain ⟨hu, ha⟩ := hI
    subst hu
    simp only [f_H_coldBits_L4]
    refine okJ (x_s3 R hh (okT (nI_le (Nat.le_refl _) (by omega)) (okR ?_)))
    rw [ha]; exact k
  · obtain ⟨hu, ha⟩ := hI
    subst hu
    simp only [f_H_coldBits_L4]
    refine okJ (x_s3 R hh (okF (nI_ge hi (by omega)) ?_))
    refine okJ (x_h hh (okY (x_guestAt R hh hi ?_)))
    dsimp only
    refine okJ (okF sI_none (okJ (x_pG (k := 8) R hh hi (by decide) (okI (fun c => okR (okJ (okR ?_))) (fun c => okJ (okR (okR (okJ (okR ?_)))))))))
    · rw [nI_1]; exact hk u _ ⟨rfl, by rw [it_s, ← ha, if_pos c]⟩
    · rw [nI_1]; exact hk u _ ⟨rfl, by rw [it_s, ← ha, if_neg c]⟩
theorem x_sob {P : Int32 × Mm → Prop} (R : XS h μ0 μ S) (hh : h < 3) (hF : 100 ≤ F) (k : P (oI (sSob S), μ)) : OkO (f_H_soberest F μ (hI h)) P := by
  have hG := R.P
  unfold f_H_soberest
  refine lpA (A := Option Nat) (L := fun n u a i => f_H_soberest_L4 F (some (hI h)) _ n u (a.map (pI h)) i) (sP S) (fun i u a => u = μ ∧ a = it (sobF S) none i) (fun n u a hI => ?_) (fun n i u a hi hI hk => ?_) (sP S) 0 F μ none (by omega) (by omega) ⟨rfl, rfl⟩
  · obtain ⟨hu, ha⟩ := hI
    subst hu
    have hin := sobF_in S (sP S) (Nat.le_refl _)
    rw [← ha] at hin
    have k' : P (oI a, u) := by rw [ha]; exact k
    simp only [f_H_soberest_L4]
    refine okJ (x_s3 R hh (okT (nI_le (Nat.le_refl _) (by omega)) ?_))
    cases a with
    | none => exact okT rfl (okR k')
    | some b => exact okF sI_none (okJ (x_pN R hh (hin b rfl) (okR k')))
  · obtain ⟨hu, ha⟩ := hI
    subst hu
    have hin := sobF_in S i (by omega)
    rw [← ha] at hin
    have hnx : it (sobF S) none (i + 1) = sobF S i a := by rw [it_s, ← ha]
    simp only [f_H_soberest_L4]
    refine okJ (x_s3 R hh (okF (nI_ge hi (by omega)) ?_))
    refine okJ (x_h hh (okY (x_guestAt R hh hi ?_)))
    dsimp only
    have go : ∀ b', sobF S i a = b' → OkO (ob (some (nI i + 1)) fun x13 => f_H_soberest_L4 F (some (hI h)) _ n u (b'.map (pI h)) x13) P := fun b' hc => by
      refine okJ (okR ?_)
      rw [nI_1]
      exact hk u b' ⟨rfl, by rw [hnx, hc]⟩
    refine okJ (okF sI_none ?_)
    cases a with
    | none => exact okT rfl (okR (go (some i) (by unfold sobF; rfl)))
    | some b =>
      have hb := hin b rfl
      refine okF sI_none (okJ (x_pG (k := 7) R hh hi (by decide) (okJ (x_pG (k := 7) R hh (by omega) (by decide) (okI (fun c2 => okR ?_) (fun c2 => okR ?_))))))
      · exact go (some b) (by unfold sobF; dsimp only; rw [if_pos c2])
      · exact go (some i) (by unfold sobF; dsimp only; rw [if_neg c2])
theorem x_emp {P : Int32 × Mm → Prop} (R : XS h μ0 μ S) (hh : h < 3) (hF : 100 ≤ F) (k1 : sEmp S = true → P (1, μ)) (k0 : ¬ sEmp S = true → P (0, μ)) : OkO (f_H_hasEmptyGlass F μ (hI h)) P := by
  have hG := R.G
  unfold f_H_hasEmptyGlass
  refine lpA (A := Unit) (L := fun n u _ j => f_H_hasEmptyGlass_L2 F (some (hI h)) _ n u j) (sG S) (fun j u _ => u = μ ∧ bEx (fun i => decide (¬ sg S i 3 = 20) && decide (sg S i 2 = 0)) j = false) (fun n u a hI => ?_) (fun n j u a hj hI hk => ?_) (sG S) 0 F μ () (by omega) (by omega) ⟨rfl, rfl⟩
  · obtain ⟨hu, ha⟩ := hI
    subst hu
    simp only [f_H_hasEmptyGlass_L2]
    refine okJ (x_s2 R hh (okT (nI_le (Nat.le_refl _) (by omega)) (okJ (okz (Or.inl rfl) (okR (k0 ?_))))))
    unfold sEmp; rw [ha]; decide
  · obtain ⟨hu, ha⟩ := hI
    subst hu
    simp only [f_H_hasEmptyGlass_L2]
    refine okJ (x_s2 R hh (okF (nI_ge hj (by omega)) ?_))
    refine okJ (x_h hh (okY (x_glassAt R hh hj ?_)))
    dsimp only
    refine okF sI_none (okJ (x_gG (k := 3) R hh hj (by decide) (by decide) (okI (fun c => okJ (okR ?_)) (fun c => okJ (x_gG (k := 2) R hh hj (by decide) (by decide) (okI (fun c2 => okJ (okz (Or.inr rfl) (okR (k1 ?_)))) (fun c2 => okJ (okR ?_))))))))
    · rw [nI_1]; exact hk u () ⟨rfl, by rw [bEx_s, ha, Bool.false_or, c]; rfl⟩
    · exact bEx_m hj (by rw [decide_eq_true c, decide_eq_true c2]; rfl)
    · rw [nI_1]; exact hk u () ⟨rfl, by rw [bEx_s, ha, Bool.false_or, decide_eq_false c2, Bool.and_false]⟩
end XC2
