/-! what changes a house -/
def sSip (S : Hs) (p g : Nat) : Hs :=
  let c : Int32 := if sp S p 8 = 0 then (if sg S g 6 = 0 then 0 else 1) else 1
  uG (uP (uG (uP (uG S g 2 (sg S g 2 - 1)) p 7 (sp S p 7 + sStr S g)) g 5 (sg S g 5 ||| ((1 : Int32) <<< (nI p &&& 31)))) p 8 c) g 6 c
def sLay (S : Hs) (p g : Nat) : Hs := uP (uG (uG S g 3 (sp S p 4)) g 4 (nI (sM S))) p 5 (-4)
def sHold (S : Hs) (p g : Nat) : Hs := uG (uG (uP (uP S p 5 (nI g)) p 6 (nI g)) g 3 (10 + nI p)) g 4 (-4)
def nRow (g : Nat → Nat → Int32) (i : Nat) (k f l w a s e : Int32) : Nat → Nat → Int32 := fun x j => if x = i then (if j = 0 then k else if j = 1 then f else if j = 2 then l else if j = 3 then w else if j = 4 then a else if j = 5 then s else e) else g x j
def sNew (S : Hs) (k f l w a : Int32) : Hs := ((sG S + 1, sP S, sM S, sT S), S.2.1, nRow (sg S) (sG S) k f l w a 0 0, sp S)
def sTray (S : Hs) (p : Nat) : Hs := uP (uP ((sG S + 1, sP S, sM S, sT S - 1), (sMi S, sFr S + 1, sLo S), nRow (sg S) (sG S) 0 (nI ((sT S - 1) % 10)) 9 (10 + nI p) (-4) 0 0, sp S) p 5 (nI (sG S))) p 6 (nI (sG S))
def sTake (S : Hs) (p : Nat) : Int32 × Hs := match sCh S p with
  | some g => (nI g, sHold (uC S (if nI g = sp S p 6 then sMi S else sMi S + 1) (sFr S) (sLo S)) p g)
  | none => if sT S = 0 ∨ sG S = 12 then (-4, S) else (nI (sG S), sTray S p)
def isM (t d : Int32) : Prop := ¬ d ≤ 0 ∧ t - t / d * d = 0
theorem isM_d (t d : Int32) : isM t d ∨ ¬ isM t d := Classical.em _
def plB (pl lo : Int32) : Int32 :=
  let n := (pl + 1) - (pl + 1) / 6 * 6
  if n = lo then (n + 1) - (n + 1) / 6 * 6 else n
noncomputable def sStep (S : Hs) (p : Nat) : Hs := @ite _ (¬ nI (sM S) = 0 ∧ isM (nI (sM S)) (sp S p 2)) (Classical.propDecidable _) (uP S p 4 (plB (sp S p 4) (sLo S))) S
noncomputable def sLive1 (S : Hs) (p g : Nat) : Hs := @ite _ (isM (nI (sM S)) (sp S p 0) ∧ ¬ sg S g 2 ≤ 0) (Classical.propDecidable _) (sSip S p g) S
noncomputable def sLive2 (S : Hs) (p g : Nat) : Hs := @ite _ (¬ nI (sM S) = 0 ∧ isM (nI (sM S)) (sp S p 1)) (Classical.propDecidable _) (sLay S p g) S
noncomputable def sLive3 (S : Hs) (p : Nat) : Hs := if sp S p 5 < 0 then (sTake S p).2 else sLive2 (sLive1 S p (sp S p 5).toNatClampNeg) p (sp S p 5).toNatClampNeg
noncomputable def sLive (p : Nat) (S : Hs) : Hs := sLive3 (sStep S p) p
noncomputable def sMin (S : Hs) : Hs := let T := it sLive S (sP S); uN T (sG T) (sP T) (sM T + 1) (sT T)
noncomputable def sPass (S : Hs) (n : Nat) : Hs := it (fun _ T => sMin T) S n
/-! what holds is kept -/
def okWh (v : Int32) : Prop := (∃ q, q < 6 ∧ v = nI q) ∨ (∃ q, q < 6 ∧ v = nI (10 + q)) ∨ v = 20
theorem Iv.g {S : Hs} {i k : Nat} {v : Int32} (hv : Iv S) (h0 : k = 0 → ∃ n, n < 8 ∧ v = nI n) (h2 : k = 2 → ∃ n, n < 10 ∧ v = nI n) (h3 : k = 3 → okWh v) (h6 : k = 6 → v = 0 ∨ v = 1) : Iv (uG S i k v) := by
  obtain ⟨a, b, c, d, e⟩ := hv
  refine ⟨a, b, c, fun j (hj : j < sG S) => ?_, fun p (hp : p < sP S) => e p hp⟩
  obtain ⟨d0, d2, d3, d6⟩ := d j hj
  have key : ∀ m, sg (uG S i k v) j m = v ∧ m = k ∨ sg (uG S i k v) j m = sg S j m := by
    intro m
    show y2 (sg S) i k v j m = v ∧ m = k ∨ y2 (sg S) i k v j m = sg S j m
    by_cases q : m = k ∧ j = i
    · obtain ⟨rfl, rfl⟩ := q; exact Or.inl ⟨y2_s _ _ _ _, rfl⟩
    · exact Or.inr (y2_o _ _ q)
  refine ⟨?_, ?_, ?_, ?_⟩
  · rcases key 0 with ⟨q, z⟩ | q
    · rw [q]; exact h0 z.symm
    · rw [q]; exact d0
  · rcases key 2 with ⟨q, z⟩ | q
    · rw [q]; exact h2 z.symm
    · rw [q]; exact d2
  · rcases key 3 with ⟨q, z⟩ | q
    · rw [q]; exact h3 z.symm
    · rw [q]; exact d3
  · rcases key 6 with ⟨q, z⟩ | q
    · rw [q]; exact h6 z.symm
    · rw [q]; exact d6
theorem Iv.p {S : Hs} {i k : Nat} {v : Int32} (hv : Iv S) (h0 : k = 0 ∨ k = 1 → ∃ n, 0 < n ∧ n < 10 ∧ v = nI n) (h2 : k = 2 → ∃ n, n < 10 ∧ v = nI n) (h4 : k = 4 → ∃ n, n < 6 ∧ v = nI n) (h5 : k = 5 ∨ k = 6 → v = -4 ∨ ∃ g, g < sG S ∧ v = nI g) (h8 : k = 8 → v = 0 ∨ v = 1) : Iv (uP S i k v) := by
  obtain ⟨a, b, c, d, e⟩ := hv
  refine ⟨a, b, c, fun j (hj : j < sG S) => d j hj, fun p (hp : p < sP S) => ?_⟩
  obtain ⟨e0, e1, e2, e4, e5, e6, e8⟩ := e p hp
  have key : ∀ m, sp (uP S i k v) p m = v ∧ m = k ∨ sp (uP S i k v) p m = sp S p m := by
    intro m
    show y2 (sp S) i k v p m = v ∧ m = k ∨ y2 (sp S) i k v p m = sp S p m
    by_cases q : m = k ∧ p = i
    · obtain ⟨rfl, rfl⟩ := q; exact Or.inl ⟨y2_s _ _ _ _, rfl⟩
    · exact Or.inr (y2_o _ _ q)
  refine ⟨?_, ?_, ?_, ?_, ?_, ?_, ?_⟩
  · rcases key 0 with ⟨q, z⟩ | q
    · rw [q]; exact h0 (Or.inl z.symm)
    · rw [q]; exact e0
  · rcases key 1 with ⟨q, z⟩ | q
    · rw [q]; exact h0 (Or.inr z.symm)
    · rw [q]; exact e1
  · rcases key 2 with ⟨q, z⟩ | q
    · rw [q]; exact h2 z.symm
    · rw [q]; exact e2
  · rcases key 4 with ⟨q, z⟩ | q
    · rw [q]; exact h4 z.symm
    · rw [q]; exact e4
  · rcases key 5 with ⟨q, z⟩ | q
    · rw [q]; exact h5 (Or.inl z.symm)
    · rw [q]; exact e5
  · rcases key 6 with ⟨q, z⟩ | q
    · rw [q]; exact h5 (Or.inr z.symm)
    · rw [q]; exact e6
  · rcases key 8 with ⟨q, z⟩ | q
    · rw [q]; exact h8 z.symm
    · rw [q]; exact e8
theorem Iv.c {S : Hs} {m f : Int32} (hv : Iv S) : Iv (uC S m f (sLo S)) := hv
theorem Iv.n {S : Hs} {t m : Nat} (hv : Iv S) (ht : t < 100) : Iv (uN S (sG S) (sP S) m t) := ⟨hv.1, ht, hv.2.2⟩
theorem nRow_o {g : Nat → Nat → Int32} {i x : Nat} {k f l w a s e : Int32} (h : x ≠ i) : nRow g i k f l w a s e x = g x := by funext j; unfold nRow; rw [if_neg h]
theorem Iv.new {S S' : Hs} {k f l w a : Int32} (hv : Iv S) (hlt : sG S < 12) (hk : ∃ n, n < 8 ∧ k = nI n) (hl : ∃ n, n < 10 ∧ l = nI n) (hw : okWh w) (h1 : sG S' = sG S + 1) (h2 : sP S' = sP S) (h3 : sT S' < 100) (h4 : sLo S' = sLo S) (h5 : sg S' = nRow (sg S) (sG S) k f l w a 0 0) (h6 : sp S' = sp S) : Iv S' := by
  obtain ⟨a1, b, c, d, e⟩ := hv
  refine ⟨⟨by omega, by omega⟩, h3, by rw [h4]; exact c, fun j hj => ?_, fun p hp => ?_⟩
  · unfold IvG
    rw [h5]
    by_cases q : j = sG S
    · subst q
      refine ⟨by simp only [nRow, if_true]; exact hk, ?_, ?_, ?_⟩
      · simpa [nRow] using hl
      · have : nRow (sg S) (sG S) k f l w a 0 0 (sG S) 3 = w := by simp [nRow]
        rw [this]; exact hw
      · left; simp [nRow]
    · rw [nRow_o q]; exact d j (by omega)
  · unfold IvP
    rw [h6, h1]
    obtain ⟨e0, e1, e2, e4, e5, e6, e8⟩ := e p (by omega)
    exact ⟨e0, e1, e2, e4, e5.imp id (fun ⟨g, hg, q⟩ => ⟨g, by omega, q⟩), e6.imp id (fun ⟨g, hg, q⟩ => ⟨g, by omega, q⟩), e8⟩
theorem isM_pos {t d : Int32} (h : isM t d) : ¬ d ≤ 0 := h.1
theorem okWh_h {p : Nat} (hp : p < 6) : okWh (10 + nI p) := Or.inr (Or.inl ⟨p, hp, by rw [show (10 : Int32) = nI 10 from rfl, nI_add]⟩)
theorem sSip_Iv {S : Hs} {p g : Nat} (hv : Iv S) (hg : g < sG S) (hf : ¬ sg S g 2 ≤ 0) : Iv (sSip S p g) := by
  have hc : ∀ c : Int32, c = (if sp S p 8 = 0 then (if sg S g 6 = 0 then 0 else 1) else 1) → c = 0 ∨ c = 1 := by
    intro c hc
    rw [hc]
    by_cases h1 : sp S p 8 = 0
    · rw [if_pos h1]; by_cases h2 : sg S g 6 = 0
      · rw [if_pos h2]; exact Or.inl rfl
      · rw [if_neg h2]; exact Or.inr rfl
    · rw [if_neg h1]; exact Or.inr rfl
  obtain ⟨n, hn, en⟩ := (hv.2.2.2.1 g hg).2.1
  have hn0 : 0 < n := by
    rcases Nat.eq_zero_or_pos n with z | z
    · exfalso; apply hf; rw [en, z]; decide
    · exact z
  unfold sSip
  refine Iv.g (Iv.p (Iv.g (Iv.p (Iv.g hv ?_ ?_ ?_ ?_) ?_ ?_ ?_ ?_ ?_) ?_ ?_ ?_ ?_) ?_ ?_ ?_ ?_ ?_) ?_ ?_ ?_ ?_ <;> (try (intro z; omega))
  · intro _; exact ⟨n - 1, by omega, by rw [en, show (1 : Int32) = nI 1 from rfl, pk_sub (by omega)]⟩
  · intro _; exact hc _ rfl
  · intro _; exact hc _ rfl
theorem sLay_Iv {S : Hs} {p g : Nat} (hv : Iv S) (hp : p < sP S) : Iv (sLay S p g) := by
  obtain ⟨n, hn, en⟩ := (hv.2.2.2.2 p hp).2.2.2.1
  unfold sLay
  refine Iv.p (Iv.g (Iv.g hv ?_ ?_ ?_ ?_) ?_ ?_ ?_ ?_) ?_ ?_ ?_ ?_ ?_ <;> (try (intro z; omega))
  · intro _; exact Or.inl ⟨n, hn, en⟩
  · intro _; exact Or.inl rfl
theorem sHold_Iv {S : Hs} {p g : Nat} (hv : Iv S) (hp : p < sP S) (hg : g < sG S) : Iv (sHold S p g) := by
  have := hv.1.2
  unfold sHold
  refine Iv.g (Iv.g (Iv.p (Iv.p hv ?_ ?_ ?_ ?_ ?_) ?_ ?_ ?_ ?_ ?_) ?_ ?_ ?_ ?_) ?_ ?_ ?_ ?_ <;> (try (intro z; omega))
  · intro _; exact Or.inr ⟨g, hg, rfl⟩
  · intro _; exact Or.inr ⟨g, hg, rfl⟩
  · intro _; exact okWh_h (by omega)
theorem sCh_in {S : Hs} {p g : Nat} (h : sCh S p = some g) : g < sG S ∧ sg S g 3 = sp S p 4 := by
  unfold sCh at h
  by_cases c1 : sp S p 6 < 0
  · rw [if_pos c1] at h; cases h
  · rw [if_neg c1] at h
    by_cases c2 : sg S (sp S p 6).toNatClampNeg 3 = 20
    · rw [if_pos c2] at h; cases h
    · rw [if_neg c2] at h
      have hin := chF_in S (sp S p 6).toNatClampNeg (sp S p 4) (sG S) (Nat.le_refl _)
      cases e : (it (chF S (sp S p 6).toNatClampNeg (sp S p 4)) (none, 0) (sG S)).1 with
      | none => rw [e] at h; cases h
      | some b =>
        rw [e] at h
        dsimp only at h
        by_cases c3 : sp S p 3 ≤ (it (chF S (sp S p 6).toNatClampNeg (sp S p 4)) (none, 0) (sG S)).2
        · rw [if_pos c3] at h; cases h; exact hin g e
        · rw [if_neg c3] at h; cases h
theorem sTray_Iv {S : Hs} {p : Nat} (hv : Iv S) (hp : p < sP S) (hlt : sG S < 12) : Iv (sTray S p) := by
  have h6 := hv.1.2
  have hT := hv.2.1
  have h1 : Iv ((sG S + 1, sP S, sM S, sT S - 1), (sMi S, sFr S + 1, sLo S), nRow (sg S) (sG S) 0 (nI ((sT S - 1) % 10)) 9 (10 + nI p) (-4) 0 0, sp S) :=
    Iv.new hv hlt ⟨0, by omega, rfl⟩ ⟨9, by omega, rfl⟩ (okWh_h (p := p) (by omega)) rfl rfl (by show sT S - 1 < 100; omega) rfl rfl rfl
  unfold sTray
  refine Iv.p (Iv.p h1 ?_ ?_ ?_ ?_ ?_) ?_ ?_ ?_ ?_ ?_ <;> (try (intro z; omega))
  · intro _; exact Or.inr ⟨sG S, Nat.lt_succ_self _, rfl⟩
  · intro _; exact Or.inr ⟨sG S, Nat.lt_succ_self _, rfl⟩
theorem sTake_Iv {S : Hs} {p : Nat} (hv : Iv S) (hp : p < sP S) : Iv (sTake S p).2 := by
  unfold sTake
  cases e : sCh S p with
  | some g => exact sHold_Iv (S := uC S _ _ _) hv.c hp (sCh_in e).1
  | none =>
    dsimp only
    by_cases c : sT S = 0 ∨ sG S = 12
    · rw [if_pos c]; exact hv
    · rw [if_neg c]; exact sTray_Iv hv hp (by have := hv.1.1; omega)
theorem plB_in {pl lo : Int32} (h : ∃ n, n < 6 ∧ pl = nI n) : ∃ n, n < 6 ∧ plB pl lo = nI n := by
  obtain ⟨n, hn, rfl⟩ := h
  unfold plB
  rw [nI_1, show (6 : Int32) = nI 6 from rfl, pk_rem (by omega) (by decide) (by decide)]
  by_cases c : nI ((n + 1) % 6) = lo
  · simp only [c, if_true]
    rw [← c, nI_1, pk_rem (by omega) (by decide) (by decide)]
    exact ⟨_, Nat.mod_lt _ (by decide), rfl⟩
  · simp only [c, if_false]
    exact ⟨_, Nat.mod_lt _ (by decide), rfl⟩
theorem sStep_Iv {S : Hs} {p : Nat} (hv : Iv S) (hp : p < sP S) : Iv (sStep S p) := by
  unfold sStep
  rcases Classical.em (¬ nI (sM S) = 0 ∧ isM (nI (sM S)) (sp S p 2)) with c | c
  · rw [if_pos c]
    refine Iv.p hv ?_ ?_ ?_ ?_ ?_ <;> (try (intro z; omega))
    intro _; exact plB_in (hv.2.2.2.2 p hp).2.2.2.1
  · rw [if_neg c]; exact hv
/-- a house's sizes: guests and the minute stay -/
def Sz (S T : Hs) : Prop := sP T = sP S ∧ sM T = sM S ∧ sG S ≤ sG T ∧ sLo T = sLo S
theorem Sz.rf {S : Hs} : Sz S S := ⟨rfl, rfl, Nat.le_refl _, rfl⟩
theorem Sz.tr {S T U : Hs} (a : Sz S T) (b : Sz T U) : Sz S U := ⟨b.1.trans a.1, b.2.1.trans a.2.1, Nat.le_trans a.2.2.1 b.2.2.1, b.2.2.2.trans a.2.2.2⟩
theorem sTake_Sz {S : Hs} {p : Nat} : Sz S (sTake S p).2 := by
  unfold sTake
  cases e : sCh S p with
  | some g => exact Sz.rf
  | none =>
    dsimp only
    by_cases c : sT S = 0 ∨ sG S = 12
    · rw [if_pos c]; exact Sz.rf
    · rw [if_neg c]; exact ⟨rfl, rfl, Nat.le_succ _, rfl⟩
theorem sStep_Sz {S : Hs} {p : Nat} : Sz S (sStep S p) := by
  unfold sStep
  rcases Classical.em (¬ nI (sM S) = 0 ∧ isM (nI (sM S)) (sp S p 2)) with c | c
  · rw [if_pos c]; exact Sz.rf
  · rw [if_neg c]; exact Sz.rf
theorem sLive1_Sz {S : Hs} {p g : Nat} : Sz S (sLive1 S p g) := by
  unfold sLive1
  rcases Classical.em (isM (nI (sM S)) (sp S p 0) ∧ ¬ sg S g 2 ≤ 0) with c | c
  · rw [if_pos c]; exact Sz.rf
  · rw [if_neg c]; exact Sz.rf
theorem sLive2_Sz {S : Hs} {p g : Nat} : Sz S (sLive2 S p g) := by
  unfold sLive2
  rcases Classical.em (¬ nI (sM S) = 0 ∧ isM (nI (sM S)) (sp S p 1)) with c | c
  · rw [if_pos c]; exact Sz.rf
  · rw [if_neg c]; exact Sz.rf
theorem sLive3_Sz {S : Hs} {p : Nat} : Sz S (sLive3 S p) := by
  unfold sLive3
  by_cases c : sp S p 5 < 0
  · rw [if_pos c]; exact sTake_Sz
  · rw [if_neg c]; exact sLive1_Sz.tr sLive2_Sz
theorem sLive_Sz {S : Hs} {p : Nat} : Sz S (sLive p S) := sStep_Sz.tr sLive3_Sz
theorem hold_in {S : Hs} {p : Nat} (hv : Iv S) (hp : p < sP S) (c : ¬ sp S p 5 < 0) : ∃ g, g < sG S ∧ sp S p 5 = nI g ∧ (sp S p 5).toNatClampNeg = g := by
  have := hv.1.1
  rcases (hv.2.2.2.2 p hp).2.2.2.2.1 with e | ⟨g, hg, e⟩
  · exfalso; apply c; rw [e]; decide
  · exact ⟨g, hg, e, by rw [e, nI_clamp (by omega)]⟩
theorem sLive1_Iv {S : Hs} {p g : Nat} (hv : Iv S) (hg : g < sG S) : Iv (sLive1 S p g) := by
  unfold sLive1
  rcases Classical.em (isM (nI (sM S)) (sp S p 0) ∧ ¬ sg S g 2 ≤ 0) with c | c
  · rw [if_pos c]; exact sSip_Iv hv hg c.2
  · rw [if_neg c]; exact hv
theorem sLive2_Iv {S : Hs} {p g : Nat} (hv : Iv S) (hp : p < sP S) : Iv (sLive2 S p g) := by
  unfold sLive2
  rcases Classical.em (¬ nI (sM S) = 0 ∧ isM (nI (sM S)) (sp S p 1)) with c | c
  · rw [if_pos c]; exact sLay_Iv hv hp
  · rw [if_neg c]; exact hv
theorem sLive3_Iv {S : Hs} {p : Nat} (hv : Iv S) (hp : p < sP S) : Iv (sLive3 S p) := by
  unfold sLive3
  by_cases c : sp S p 5 < 0
  · rw [if_pos c]; exact sTake_Iv hv hp
  · rw [if_neg c]
    obtain ⟨g, hg, e, e2⟩ := hold_in hv hp c
    rw [e2]
    exact sLive2_Iv (sLive1_Iv hv hg) (by rw [(sLive1_Sz (S := S) (p := p) (g := g)).1]; exact hp)
theorem sLive_Iv {S : Hs} {p : Nat} (hv : Iv S) (hp : p < sP S) : Iv (sLive p S) := sLive3_Iv (sStep_Iv hv hp) (by rw [(sStep_Sz (S := S) (p := p)).1]; exact hp)
theorem itLive {S : Hs} (hv : Iv S) : ∀ i, i ≤ sP S → Iv (it sLive S i) ∧ Sz S (it sLive S i) := by
  intro i hi
  refine it_p (f := sLive) (a := S) (fun i T => Iv T ∧ Sz S T) ⟨hv, Sz.rf⟩ (N := sP S) (fun i T hi h => ?_) i hi
  exact ⟨sLive_Iv h.1 (by rw [h.2.1]; exact hi), h.2.tr sLive_Sz⟩
theorem sMin_Iv {S : Hs} (hv : Iv S) : Iv (sMin S) := by
  obtain ⟨h1, h2⟩ := itLive hv (sP S) (Nat.le_refl _)
  exact Iv.n h1 h1.2.1
theorem sMin_Sz {S : Hs} (hv : Iv S) : sP (sMin S) = sP S ∧ sM (sMin S) = sM S + 1 ∧ sG S ≤ sG (sMin S) ∧ sLo (sMin S) = sLo S := by
  obtain ⟨h1, h2⟩ := itLive hv (sP S) (Nat.le_refl _)
  exact ⟨h2.1, congrArg (· + 1) h2.2.1, h2.2.2.1, h2.2.2.2⟩
theorem sPass_Iv {S : Hs} (hv : Iv S) : ∀ n, Iv (sPass S n) ∧ sP (sPass S n) = sP S ∧ sM (sPass S n) = sM S + n ∧ sG S ≤ sG (sPass S n) ∧ sLo (sPass S n) = sLo S := by
  intro n
  induction n with
  | zero => exact ⟨hv, rfl, rfl, Nat.le_refl _, rfl⟩
  | succ n ih =>
    obtain ⟨a, b, c, d, e⟩ := ih
    obtain ⟨b2, c2, d2, e2⟩ := sMin_Sz a
    exact ⟨sMin_Iv a, b2.trans b, by show sM (sMin (sPass S n)) = _; omega, Nat.le_trans d d2, e2.trans e⟩
