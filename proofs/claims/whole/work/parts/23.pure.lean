/-! what a guest would take -/
def chF (S : Hs) (o : Nat) (pl : Int32) (i : Nat) (s : Option Nat × Int32) : Option Nat × Int32 :=
  if sg S i 3 = pl then (if s.2 < sLik S o i then (some i, sLik S o i) else match s.1 with
    | none => s
    | some b => if sLik S o i = s.2 then (if sg S i 4 ≤ sg S b 4 then s else (some i, sLik S o i)) else s) else s
def sCh (S : Hs) (p : Nat) : Option Nat :=
  if sp S p 6 < 0 then none else if sg S (sp S p 6).toNatClampNeg 3 = 20 then none else
    match (it (chF S (sp S p 6).toNatClampNeg (sp S p 4)) (none, 0) (sG S)).1 with
    | none => none
    | some b => if sp S p 3 ≤ (it (chF S (sp S p 6).toNatClampNeg (sp S p 4)) (none, 0) (sG S)).2 then some b else none
theorem chF_in (S : Hs) (o : Nat) (pl : Int32) : ∀ i, i ≤ sG S → ∀ b, (it (chF S o pl) (none, 0) i).1 = some b → b < i ∧ sg S b 3 = pl := by
  intro i hi
  refine it_p (f := chF S o pl) (a := (none, 0)) (fun i s => ∀ b, s.1 = some b → b < i ∧ sg S b 3 = pl) (fun b h => by cases h) (N := sG S) (fun i s hi h b hb => ?_) i hi
  have hs : ∀ b, s.1 = some b → b < i + 1 ∧ sg S b 3 = pl := fun b hb => ⟨by have := (h b hb).1; omega, (h b hb).2⟩
  unfold chF at hb
  by_cases c1 : sg S i 3 = pl
  · rw [if_pos c1] at hb
    have hn : ∀ b, (some i : Option Nat) = some b → b < i + 1 ∧ sg S b 3 = pl := fun b hb => by cases hb; exact ⟨by omega, c1⟩
    by_cases c2 : s.2 < sLik S o i
    · rw [if_pos c2] at hb; exact hn b hb
    · rw [if_neg c2] at hb
      cases e : s.1 with
      | none => rw [e] at hb; exact hs b hb
      | some b0 =>
        rw [e] at hb
        dsimp only at hb
        by_cases c3 : sLik S o i = s.2
        · rw [if_pos c3] at hb
          by_cases c4 : sg S i 4 ≤ sg S b0 4
          · rw [if_pos c4] at hb; exact hs b hb
          · rw [if_neg c4] at hb; exact hn b hb
        · rw [if_neg c3] at hb; exact hs b hb
  · rw [if_neg c1] at hb; exact hs b hb
section XC
variable {h i j p : Nat} {μ0 μ : Mm} {S : Hs} {F : Nat}
theorem pl_lt {v : Int32} {n : Nat} (hn : n < 6) (e : v = nI n) : v < 6 := by rw [e]; exact nI_lt hn (by decide)
theorem sI_none {a : Nat} {f : Nat → Nat} : ¬ (some (f a) : Option Nat) = none := fun z => by cases z
theorem x_ch {P : Int32 × Mm → Prop} (R : XS h μ0 μ S) (hh : h < 3) (hv : Iv S) (hp : p < sP S) (hF : 100 ≤ F) (k : P (oI (sCh S p), μ)) : OkO (f_H_choiceOf F μ (hI h) (some (pI h p))) P := by
  have hG := R.G
  obtain ⟨-, -, -, ⟨pl, hpl, epl⟩, -, hown, -⟩ := hv.2.2.2.2 p hp
  unfold f_H_choiceOf
  refine okJ (x_pG (k := 6) R hh hp (by decide) ?_)
  refine okJ (x_h hh (okY ?_))
  rcases hown with e | ⟨o, ho, e⟩
  · have e2 : sCh S p = none := by unfold sCh; rw [e, if_pos (by decide)]
    rw [e2] at k
    rw [e]
    refine x_glassNo R hh (Or.inl (by decide)) ?_
    exact okT rfl (okR k)
  · have ec : sCh S p = if sg S o 3 = 20 then none else match (it (chF S o (sp S p 4)) (none, 0) (sG S)).1 with
      | none => none
      | some b => if sp S p 3 ≤ (it (chF S o (sp S p 4)) (none, 0) (sG S)).2 then some b else none := by
      unfold sCh; rw [e, if_neg (nI_pos (by omega)), nI_clamp (by omega)]
    rw [e]
    refine x_glassAt R hh ho ?_
    dsimp only
    refine okF sI_none (okJ (x_gG (k := 3) R hh ho (by decide) (by decide) ?_))
    refine okI (fun c => ?_) (fun c => ?_)
    · rw [if_pos c] at ec
      rw [ec] at k
      exact okR k
    · rw [if_neg c] at ec
      refine lpA (A := Option Nat × Int32) (L := fun n u a i => f_H_choiceOf_L33 F (some (hI h)) (some (pI h p)) (some (gI h o)) _ n u (a.1.map (gI h)) a.2 i) (sG S) (fun i u a => u = μ ∧ a = it (chF S o (sp S p 4)) (none, 0) i) (fun n u a hI => ?_) (fun n i u a hi hI hk => ?_) (sG S) 0 F μ (none, 0) (by omega) (by omega) ⟨rfl, rfl⟩
      · obtain ⟨hu, ha⟩ := hI
        subst hu
        subst ha
        simp only [f_H_choiceOf_L33]
        refine okJ (x_s2 R hh (okT (nI_le (Nat.le_refl _) (by omega)) ?_))
        cases e3 : (it (chF S o (sp S p 4)) (none, 0) (sG S)).1 with
        | none =>
          rw [e3] at ec
          rw [ec] at k
          exact okT rfl (okR k)
        | some b =>
          have hb := (chF_in S o (sp S p 4) (sG S) (Nat.le_refl _) b e3).1
          rw [e3] at ec
          dsimp only at ec
          refine okF sI_none (okJ (x_pG (k := 3) R hh hp (by decide) ?_))
          refine okI (fun c2 => ?_) (fun c2 => ?_)
          · rw [if_pos c2] at ec
            rw [ec] at k
            exact okJ (x_gN R hh hb (okR k))
          · rw [if_neg c2] at ec
            rw [ec] at k
            exact okR k
      · obtain ⟨hu, ha⟩ := hI
        subst hu
        have hin := chF_in S o (sp S p 4) i (by omega)
        rw [← ha] at hin
        have hnx : it (chF S o (sp S p 4)) (none, 0) (i + 1) = chF S o (sp S p 4) i a := by rw [it_s, ← ha]
        clear ha
        obtain ⟨b, m⟩ := a
        simp only [f_H_choiceOf_L33]
        refine okJ (x_s2 R hh (okF (nI_ge hi (by omega)) ?_))
        refine okJ (x_h hh (okY (x_glassAt R hh hi ?_)))
        dsimp only
        refine okJ (okF sI_none (okJ (x_gG (k := 3) R hh hi (by decide) (by decide) (okJ (x_pG (k := 4) R hh hp (by decide) ?_)))))
        have go : ∀ b' m', chF S o (sp S p 4) i (b, m) = (b', m') → OkO (ob (some (nI i + 1)) fun x26 => f_H_choiceOf_L33 F (some (hI h)) (some (pI h p)) (some (gI h o)) _ n u (b'.map (gI h)) m' x26) P := fun b' m' hc => by
          refine okJ (okR ?_)
          rw [nI_1]
          exact hk u (b', m') ⟨rfl, by rw [hnx, hc]⟩
        refine okI (fun c1 => ?_) (fun c1 => ?_)
        · refine okJ (x_g R hh ho (okY (x_lik R hh ho hi ?_)))
          dsimp only
          have hwi : sg S i 3 < 6 := pl_lt hpl (c1.trans epl)
          refine okJ ?_
          cases b with
          | none =>
            refine okT rfl (okR (okI (fun c2 => okR ?_) (fun c2 => okT rfl (okR ?_))))
            · exact go (some i) (sLik S o i) (by unfold chF; rw [if_pos c1, if_pos c2])
            · exact go none m (by unfold chF; rw [if_pos c1, if_neg c2])
          | some b =>
            obtain ⟨hb, hwb⟩ := hin b rfl
            have hwb : sg S b 3 < 6 := pl_lt hpl (hwb.trans epl)
            refine okF sI_none (okI (fun c3 => okJ (x_gL R hh hi hwi (okJ (x_gL R hh (by omega) hwb (okI (fun c4 => okR ?_) (fun c4 => okR ?_)))))) (fun c3 => okR ?_))
            · refine okI (fun c2 => okR ?_) (fun c2 => okT rfl (okR ?_))
              · exact go (some i) (sLik S o i) (by unfold chF; rw [if_pos c1, if_pos c2])
              · exact go (some b) m (by unfold chF; rw [if_pos c1, if_neg c2]; dsimp only; rw [if_pos c3, if_pos c4])
            · refine okI (fun c2 => okR ?_) (fun c2 => okF (by decide) (okR ?_))
              · exact go (some i) (sLik S o i) (by unfold chF; rw [if_pos c1, if_pos c2])
              · exact go (some i) (sLik S o i) (by unfold chF; rw [if_pos c1, if_neg c2]; dsimp only; rw [if_pos c3, if_neg c4])
            · refine okI (fun c2 => okR ?_) (fun c2 => okT rfl (okR ?_))
              · exact go (some i) (sLik S o i) (by unfold chF; rw [if_pos c1, if_pos c2])
              · exact go (some b) m (by unfold chF; rw [if_pos c1, if_neg c2]; dsimp only; rw [if_neg c3])
        · exact okR (go b m (by unfold chF; rw [if_neg c1]))
end XC
