/-! PURE: what is computed, and houses as values -/
def OkO {α : Type} (o : Option α) (P : α → Prop) : Prop := ∃ x, o = some x ∧ P x
theorem okR {α : Type} {x : α} {P : α → Prop} (h : P x) : OkO (some x) P := ⟨x, rfl, h⟩
theorem okJ {α β : Type} {o : Option α} {K : α → Option β} {P : β → Prop} (h : OkO o (fun x => OkO (K x) P)) : OkO (ob o K) P := by
  obtain ⟨x, rfl, h⟩ := h
  exact h
theorem okY {α β : Type} {o : Option (α × Mm)} {K : α → Mm → Option β} {P : β → Prop} (h : OkO o (fun q => OkO (K q.1 q.2) P)) : OkO (yb o K) P := by
  obtain ⟨x, rfl, h⟩ := h
  exact h
theorem okM {α : Type} {o : Option α} {P P' : α → Prop} (h : OkO o P') (k : ∀ x, P' x → P x) : OkO o P := by
  obtain ⟨x, e, h⟩ := h
  exact ⟨x, e, k x h⟩
theorem okE {α : Type} {o : Option α} {x : α} {P : α → Prop} (e : o = some x) (h : P x) : OkO o P := ⟨x, e, h⟩
theorem okI {α : Type} {c : Prop} {hc : Decidable c} {a b : Option α} {P : α → Prop} (h1 : c → OkO a P) (h2 : ¬ c → OkO b P) : OkO (if c then a else b) P := by
  by_cases h : c
  · rw [if_pos h]; exact h1 h
  · rw [if_neg h]; exact h2 h
theorem okT {α : Type} {c : Prop} {hc : Decidable c} {a b : Option α} {P : α → Prop} (h : c) (h1 : OkO a P) : OkO (if c then a else b) P := by rw [if_pos h]; exact h1
theorem okF {α : Type} {c : Prop} {hc : Decidable c} {a b : Option α} {P : α → Prop} (h : ¬ c) (h1 : OkO b P) : OkO (if c then a else b) P := by rw [if_neg h]; exact h1
theorem okz {v : Int32} {P : Int32 → Prop} (h : v = 0 ∨ v = 1) (k : P v) : OkO (jz v) P := ⟨v, by rw [jz, if_pos h], k⟩
theorem okrm {x y : Int32} {P : Int32 → Prop} (h : ¬ y = 0) (k : P (x - x / y * y)) : OkO (jrm x y) P := ⟨_, by rw [jrm, if_neg h], k⟩
theorem okdv {x y : Int32} {P : Int32 → Prop} (h : ¬ y = 0) (k : P (x / y)) : OkO (jdv x y) P := ⟨_, by rw [jdv, if_neg h], k⟩
theorem y2_s {α : Type} (f : Nat → Nat → α) (a b : Nat) (v : α) : y2 f a b v a b = v := by simp [y2]
theorem y2_k {α : Type} (f : Nat → Nat → α) {a b i j : Nat} (v : α) (h : j ≠ b) : y2 f a b v i j = f i j := by simp [y2, h]
theorem y2_o {α : Type} (f : Nat → Nat → α) {a b i j : Nat} (v : α) (h : ¬ (j = b ∧ i = a)) : y2 f a b v i j = f i j := by unfold y2; rw [if_neg h]
theorem y2_i {α : Type} (f : Nat → Nat → α) {a b i j : Nat} (v : α) (h : i ≠ a) : y2 f a b v i j = f i j := by simp [y2, h]
/-! numbers -/
theorem nl (n : Nat) : (OfNat.ofNat n : Int32) = nI n := rfl
theorem n0l (n : Nat) (h : n < 2 ^ 31) : 0 ≤ nI n := nI_pos' h
theorem n0n (n : Nat) (h : n < 2 ^ 31) : ¬ nI n < 0 := nI_pos h
theorem nIi {a b : Nat} (ha : a < 2 ^ 31) (hb : b < 2 ^ 31) (h : nI a = nI b) : a = b := (nI_eq ha hb).mp h
theorem jin_nI {n j : Nat} (h : j < n) (hn : n < 2 ^ 31) : jin n (nI j) = some j := by
  unfold jin
  rw [nI_clamp (by omega), if_pos ⟨nI_pos' (by omega), h⟩]
/-! A HOUSE: (glasses, guests, minute, tray), (mistakes, fresh, left out), glasses' values (kind, figure, fill, where, laid, sips, germs), guests' (pace, lays, step, care, place, holds, own, had, cold) -/
abbrev Hs : Type := (Nat × Nat × Nat × Nat) × (Int32 × Int32 × Int32) × (Nat → Nat → Int32) × (Nat → Nat → Int32)
abbrev sG (S : Hs) : Nat := S.1.1
abbrev sP (S : Hs) : Nat := S.1.2.1
abbrev sM (S : Hs) : Nat := S.1.2.2.1
abbrev sT (S : Hs) : Nat := S.1.2.2.2
abbrev sMi (S : Hs) : Int32 := S.2.1.1
abbrev sFr (S : Hs) : Int32 := S.2.1.2.1
abbrev sLo (S : Hs) : Int32 := S.2.1.2.2
abbrev sg (S : Hs) : Nat → Nat → Int32 := S.2.2.1
abbrev sp (S : Hs) : Nat → Nat → Int32 := S.2.2.2
def uG (S : Hs) (i k : Nat) (v : Int32) : Hs := (S.1, S.2.1, y2 (sg S) i k v, sp S)
def uP (S : Hs) (i k : Nat) (v : Int32) : Hs := (S.1, S.2.1, sg S, y2 (sp S) i k v)
def uC (S : Hs) (m f l : Int32) : Hs := (S.1, (m, f, l), sg S, sp S)
def uN (S : Hs) (g p m t : Nat) : Hs := ((g, p, m, t), S.2.1, sg S, sp S)
/-! where a house lies in the class's memory -/
def hI (h : Nat) : Nat := 1 + 21 * h
def gI (h i : Nat) : Nat := 4 + 21 * h + i
def pI (h i : Nat) : Nat := 16 + 21 * h + i
theorem kd_h {h : Nat} (hh : h < 3) : kdX (hI h) = 2 := by
  rcases (by omega : h = 0 ∨ h = 1 ∨ h = 2) with rfl | rfl | rfl <;> rfl
theorem kd_g {h i : Nat} (hh : h < 3) (hi : i < 12) : kdX (gI h i) = 0 := by
  unfold kdX gI
  rw [if_neg (by omega), if_pos (by omega), if_neg (by omega), if_neg (by omega), if_neg (by omega), if_pos (by omega)]
theorem kd_p {h i : Nat} (hh : h < 3) (hi : i < 6) : kdX (pI h i) = 1 := by
  unfold kdX pI
  rw [if_neg (by omega), if_pos (by omega), if_neg (by omega), if_neg (by omega), if_neg (by omega), if_neg (by omega)]
theorem jk_h {h : Nat} (hh : h < 3) : jk YX 2 (some (hI h)) = some (hI h) := by
  show ob (some (hI h)) _ = _
  rw [ob_s, if_pos ⟨by show hI h < 81; unfold hI; omega, kd_h hh⟩]
theorem jk_g {h i : Nat} (hh : h < 3) (hi : i < 12) : jk YX 0 (some (gI h i)) = some (gI h i) := by
  show ob (some (gI h i)) _ = _
  rw [ob_s, if_pos ⟨by show gI h i < 81; unfold gI; omega, kd_g hh hi⟩]
theorem jk_p {h i : Nat} (hh : h < 3) (hi : i < 6) : jk YX 1 (some (pI h i)) = some (pI h i) := by
  show ob (some (pI h i)) _ = _
  rw [ob_s, if_pos ⟨by show pI h i < 81; unfold pI; omega, kd_p hh hi⟩]
/-- house h of the class's memory f shows the value S: counts and counters, numbers, glasses below the count (where they were laid only while they are laid), guests below the count -/
def RX (h : Nat) (f : Nat → Nat → Int32) (S : Hs) : Prop :=
  (sG S ≤ 12 ∧ sP S ≤ 6) ∧ (f (hI h) 2 = nI (sG S) ∧ f (hI h) 3 = nI (sP S) ∧ f (hI h) 4 = nI (sT S) ∧ f (hI h) 5 = nI (sM S) ∧ f (hI h) 6 = sMi S ∧ f (hI h) 7 = sFr S ∧ f (hI h) 8 = sLo S) ∧
  ((∀ i, i < 12 → f (gI h i) 0 = nI i) ∧ (∀ i, i < 6 → f (pI h i) 0 = nI i)) ∧
  (∀ i k, i < sG S → k < 7 → k ≠ 4 → f (gI h i) (k + 1) = sg S i k) ∧ (∀ i, i < sG S → sg S i 3 < 6 → f (gI h i) 5 = sg S i 4) ∧
  (∀ i k, i < sP S → k < 9 → f (pI h i) (k + 1) = sp S i k)
/-- nothing but house h has changed -/
def FrX (h : Nat) (f f' : Nat → Nat → Int32) : Prop := ∀ id k, (id < 1 + 21 * h ∨ 22 + 21 * h ≤ id) → f' id k = f id k
def XS (h : Nat) (μ0 μ : Mm) (S : Hs) : Prop := RX h μ.1 S ∧ FrX h μ0.1 μ.1 ∧ μ.2 = μ0.2
theorem XS.rf {h : Nat} {μ : Mm} {S : Hs} (R : RX h μ.1 S) : XS h μ μ S := ⟨R, fun _ _ _ => rfl, rfl⟩
theorem XS.tr {h : Nat} {μ0 μ1 μ2 : Mm} {S S' : Hs} (A : XS h μ0 μ1 S) (B : XS h μ1 μ2 S') : XS h μ0 μ2 S' := ⟨B.1, fun id k hq => (B.2.1 id k hq).trans (A.2.1 id k hq), B.2.2.trans A.2.2⟩
theorem FrX.y2 {h id k : Nat} {f f' : Nat → Nat → Int32} {v : Int32} (F : FrX h f f') (h1 : 1 + 21 * h ≤ id) (h2 : id < 22 + 21 * h) : FrX h f (y2 f' id k v) := fun x j hq => by
  rw [y2_i _ _ (by omega)]
  exact F x j hq
section XR
variable {h i : Nat} {μ0 μ : Mm} {S : Hs}
theorem XS.G (R : XS h μ0 μ S) : sG S ≤ 12 := R.1.1.1
theorem XS.P (R : XS h μ0 μ S) : sP S ≤ 6 := R.1.1.2
theorem x_h {P : Nat → Prop} (hh : h < 3) (k : P (hI h)) : OkO (jk YX 2 (some (hI h))) P := okE (jk_h hh) k
theorem x_g {P : Nat → Prop} (R : XS h μ0 μ S) (hh : h < 3) (hi : i < sG S) (k : P (gI h i)) : OkO (jk YX 0 (some (gI h i))) P := okE (jk_g hh (Nat.lt_of_lt_of_le hi R.G)) k
theorem x_p {P : Nat → Prop} (R : XS h μ0 μ S) (hh : h < 3) (hi : i < sP S) (k : P (pI h i)) : OkO (jk YX 1 (some (pI h i))) P := okE (jk_p hh (Nat.lt_of_lt_of_le hi R.P)) k
theorem x_gG {k : Nat} {P : Int32 → Prop} (R : XS h μ0 μ S) (hh : h < 3) (hi : i < sG S) (hk : k < 7) (h4 : k ≠ 4) (hP : P (sg S i k)) : OkO (jgi YX 0 (k + 1) μ (some (gI h i))) P :=
  okE (by rw [jgi, jk_g hh (Nat.lt_of_lt_of_le hi R.G), ob_s, R.1.2.2.2.1 i k hi hk h4]) hP
theorem x_gL {P : Int32 → Prop} (R : XS h μ0 μ S) (hh : h < 3) (hi : i < sG S) (hl : sg S i 3 < 6) (hP : P (sg S i 4)) : OkO (jgi YX 0 5 μ (some (gI h i))) P :=
  okE (by rw [jgi, jk_g hh (Nat.lt_of_lt_of_le hi R.G), ob_s, R.1.2.2.2.2.1 i hi hl]) hP
theorem x_gLa {P : Int32 → Prop} (R : XS h μ0 μ S) (hh : h < 3) (hi : i < sG S) (hP : P (μ.1 (gI h i) 5)) : OkO (jgi YX 0 5 μ (some (gI h i))) P :=
  okE (by rw [jgi, jk_g hh (Nat.lt_of_lt_of_le hi R.G), ob_s]) hP
theorem x_gN {P : Int32 → Prop} (R : XS h μ0 μ S) (hh : h < 3) (hi : i < sG S) (hP : P (nI i)) : OkO (jgi YX 0 0 μ (some (gI h i))) P :=
  okE (by rw [jgi, jk_g hh (Nat.lt_of_lt_of_le hi R.G), ob_s, R.1.2.2.1.1 i (Nat.lt_of_lt_of_le hi R.G)]) hP
theorem x_pG {k : Nat} {P : Int32 → Prop} (R : XS h μ0 μ S) (hh : h < 3) (hi : i < sP S) (hk : k < 9) (hP : P (sp S i k)) : OkO (jgi YX 1 (k + 1) μ (some (pI h i))) P :=
  okE (by rw [jgi, jk_p hh (Nat.lt_of_lt_of_le hi R.P), ob_s, R.1.2.2.2.2.2 i k hi hk]) hP
theorem x_pN {P : Int32 → Prop} (R : XS h μ0 μ S) (hh : h < 3) (hi : i < sP S) (hP : P (nI i)) : OkO (jgi YX 1 0 μ (some (pI h i))) P :=
  okE (by rw [jgi, jk_p hh (Nat.lt_of_lt_of_le hi R.P), ob_s, R.1.2.2.1.2 i (Nat.lt_of_lt_of_le hi R.P)]) hP
theorem x_s2 {P : Int32 → Prop} (R : XS h μ0 μ S) (hh : h < 3) (hP : P (nI (sG S))) : OkO (jgi YX 2 2 μ (some (hI h))) P := okE (by rw [jgi, jk_h hh, ob_s, R.1.2.1.1]) hP
theorem x_s3 {P : Int32 → Prop} (R : XS h μ0 μ S) (hh : h < 3) (hP : P (nI (sP S))) : OkO (jgi YX 2 3 μ (some (hI h))) P := okE (by rw [jgi, jk_h hh, ob_s, R.1.2.1.2.1]) hP
theorem x_s4 {P : Int32 → Prop} (R : XS h μ0 μ S) (hh : h < 3) (hP : P (nI (sT S))) : OkO (jgi YX 2 4 μ (some (hI h))) P := okE (by rw [jgi, jk_h hh, ob_s, R.1.2.1.2.2.1]) hP
theorem x_s5 {P : Int32 → Prop} (R : XS h μ0 μ S) (hh : h < 3) (hP : P (nI (sM S))) : OkO (jgi YX 2 5 μ (some (hI h))) P := okE (by rw [jgi, jk_h hh, ob_s, R.1.2.1.2.2.2.1]) hP
theorem x_s6 {P : Int32 → Prop} (R : XS h μ0 μ S) (hh : h < 3) (hP : P (sMi S)) : OkO (jgi YX 2 6 μ (some (hI h))) P := okE (by rw [jgi, jk_h hh, ob_s, R.1.2.1.2.2.2.2.1]) hP
theorem x_s7 {P : Int32 → Prop} (R : XS h μ0 μ S) (hh : h < 3) (hP : P (sFr S)) : OkO (jgi YX 2 7 μ (some (hI h))) P := okE (by rw [jgi, jk_h hh, ob_s, R.1.2.1.2.2.2.2.2.1]) hP
theorem x_s8 {P : Int32 → Prop} (R : XS h μ0 μ S) (hh : h < 3) (hP : P (sLo S)) : OkO (jgi YX 2 8 μ (some (hI h))) P := okE (by rw [jgi, jk_h hh, ob_s, R.1.2.1.2.2.2.2.2.2]) hP
end XR
theorem gI_i {h i j : Nat} : gI h i = gI h j ↔ i = j := by unfold gI; omega
theorem pI_i {h i j : Nat} : pI h i = pI h j ↔ i = j := by unfold pI; omega
theorem gp_ne {h i j : Nat} (hi : i < 12) : gI h i ≠ pI h j := by unfold gI pI; omega
theorem gh_ne {h i : Nat} : gI h i ≠ hI h := by unfold gI hI; omega
theorem ph_ne {h i : Nat} : pI h i ≠ hI h := by unfold pI hI; omega
/-! writing -/
theorem RX.g {h i k : Nat} {f : Nat → Nat → Int32} {S : Hs} {v : Int32} (R : RX h f S) (hi : i < sG S) (hk : k < 7) (h3 : k ≠ 3) : RX h (y2 f (gI h i) (k + 1) v) (uG S i k v) := by
  obtain ⟨a, b, c, d, e, g⟩ := R
  refine ⟨a, ?_, ⟨fun j hj => ?_, fun j hj => ?_⟩, fun j m (hj : j < sG S) hm h4 => ?_, fun j (hj : j < sG S) hl => ?_, fun j m (hj : j < sP S) hm => ?_⟩
  · simp only [y2_i _ _ (Ne.symm gh_ne)]; exact b
  · rw [y2_k _ _ (by omega)]; exact c.1 j hj
  · rw [y2_k _ _ (by omega)]; exact c.2 j hj
  · show y2 f (gI h i) (k + 1) v (gI h j) (m + 1) = y2 (sg S) i k v j m
    by_cases q : m = k ∧ j = i
    · obtain ⟨rfl, rfl⟩ := q; rw [y2_s, y2_s]
    · rw [y2_o _ _ (by rw [gI_i]; omega), y2_o _ _ q]; exact d j m hj hm h4
  · have hl' : sg S j 3 < 6 := by have z : (uG S i k v).2.2.1 j 3 = sg S j 3 := y2_k _ _ (by omega); rw [← z]; exact hl
    show y2 f (gI h i) (k + 1) v (gI h j) 5 = y2 (sg S) i k v j 4
    by_cases q : 4 = k ∧ j = i
    · obtain ⟨rfl, rfl⟩ := q; rw [y2_s, y2_s]
    · rw [y2_o _ _ (by rw [gI_i]; omega), y2_o _ _ q]; exact e j hj hl'
  · rw [y2_i _ _ (Ne.symm (gp_ne (by omega)))]; exact g j m hj hm
theorem RX.p {h i k : Nat} {f : Nat → Nat → Int32} {S : Hs} {v : Int32} (R : RX h f S) (hi : i < sP S) (hk : k < 9) : RX h (y2 f (pI h i) (k + 1) v) (uP S i k v) := by
  obtain ⟨a, b, c, d, e, g⟩ := R
  refine ⟨a, ?_, ⟨fun j hj => ?_, fun j hj => ?_⟩, fun j m (hj : j < sG S) hm h4 => ?_, fun j (hj : j < sG S) hl => ?_, fun j m (hj : j < sP S) hm => ?_⟩
  · simp only [y2_i _ _ (Ne.symm ph_ne)]; exact b
  · rw [y2_k _ _ (by omega)]; exact c.1 j hj
  · rw [y2_k _ _ (by omega)]; exact c.2 j hj
  · rw [y2_i _ _ (gp_ne (by omega))]; exact d j m hj hm h4
  · rw [y2_i _ _ (gp_ne (by omega))]; exact e j hj hl
  · show y2 f (pI h i) (k + 1) v (pI h j) (m + 1) = y2 (sp S) i k v j m
    by_cases q : m = k ∧ j = i
    · obtain ⟨rfl, rfl⟩ := q; rw [y2_s, y2_s]
    · rw [y2_o _ _ (by rw [pI_i]; omega), y2_o _ _ q]; exact g j m hj hm
/-- a glass's place and its minute at once -/
theorem RX.w {h i : Nat} {f : Nat → Nat → Int32} {S : Hs} {v t : Int32} (R : RX h f S) (hi : i < sG S) (ht : v < 6 → f (gI h i) 5 = t) : RX h (y2 f (gI h i) 4 v) (uG (uG S i 3 v) i 4 t) := by
  obtain ⟨a, b, c, d, e, g⟩ := R
  refine ⟨a, ?_, ⟨fun j hj => ?_, fun j hj => ?_⟩, fun j m (hj : j < sG S) hm h4 => ?_, fun j (hj : j < sG S) hl => ?_, fun j m (hj : j < sP S) hm => ?_⟩
  · simp only [y2_i _ _ (Ne.symm gh_ne)]; exact b
  · rw [y2_k _ _ (by omega)]; exact c.1 j hj
  · rw [y2_k _ _ (by omega)]; exact c.2 j hj
  · show y2 f (gI h i) (3 + 1) v (gI h j) (m + 1) = y2 (y2 (sg S) i 3 v) i 4 t j m
    rw [y2_k (y2 (sg S) i 3 v) _ h4]
    by_cases q : m = 3 ∧ j = i
    · obtain ⟨rfl, rfl⟩ := q; rw [y2_s, y2_s]
    · rw [y2_o _ _ (by rw [gI_i]; omega), y2_o _ _ q]; exact d j m hj hm h4
  · have z : (uG (uG S i 3 v) i 4 t).2.2.1 j 3 = y2 (sg S) i 3 v j 3 := by
      show y2 (y2 (sg S) i 3 v) i 4 t j 3 = _
      exact y2_k _ _ (by omega)
    have hl2 : (uG (uG S i 3 v) i 4 t).2.2.1 j 3 < 6 := hl
    rw [z] at hl2
    show y2 f (gI h i) 4 v (gI h j) 5 = y2 (y2 (sg S) i 3 v) i 4 t j 4
    rw [y2_k f _ (by omega)]
    by_cases q : j = i
    · subst q
      rw [y2_s] at hl2
      rw [y2_s]
      exact ht hl2
    · rw [y2_i _ _ q] at hl2
      rw [y2_i _ _ q, y2_k _ _ (by omega)]
      exact e j hj hl2
  · rw [y2_i _ _ (Ne.symm (gp_ne (by omega)))]; exact g j m hj hm
section XW
variable {h i : Nat} {μ0 μ : Mm} {S : Hs}
theorem x_wG {k : Nat} {v : Int32} {P : Mm → Prop} (R : XS h μ0 μ S) (hh : h < 3) (hi : i < sG S) (hk : k < 7) (h3 : k ≠ 3) (hP : ∀ μ', XS h μ0 μ' (uG S i k v) → P μ') : OkO (jpi YX 0 (k + 1) μ (some (gI h i)) v) P :=
  okE (x := (y2 μ.1 (gI h i) (k + 1) v, μ.2.1, μ.2.2)) (by rw [jpi, jk_g hh (Nat.lt_of_lt_of_le hi R.G), ob_s]) (hP _ ⟨R.1.g hi hk h3, R.2.1.y2 (by unfold gI; omega) (by have := R.G; unfold gI; omega), R.2.2⟩)
theorem x_zG {k : Nat} {v : Int32} {P : Mm → Prop} (R : XS h μ0 μ S) (hh : h < 3) (hi : i < sG S) (hk : k < 7) (h3 : k ≠ 3) (hv : v = 0 ∨ v = 1) (hP : ∀ μ', XS h μ0 μ' (uG S i k v) → P μ') : OkO (jpz YX 0 (k + 1) μ (some (gI h i)) v) P := by
  rw [jpz, if_pos hv]
  exact x_wG R hh hi hk h3 hP
theorem x_wP {k : Nat} {v : Int32} {P : Mm → Prop} (R : XS h μ0 μ S) (hh : h < 3) (hi : i < sP S) (hk : k < 9) (hP : ∀ μ', XS h μ0 μ' (uP S i k v) → P μ') : OkO (jpi YX 1 (k + 1) μ (some (pI h i)) v) P :=
  okE (x := (y2 μ.1 (pI h i) (k + 1) v, μ.2.1, μ.2.2)) (by rw [jpi, jk_p hh (Nat.lt_of_lt_of_le hi R.P), ob_s]) (hP _ ⟨R.1.p hi hk, R.2.1.y2 (by unfold pI; omega) (by have := R.P; unfold pI; omega), R.2.2⟩)
theorem x_zP {k : Nat} {v : Int32} {P : Mm → Prop} (R : XS h μ0 μ S) (hh : h < 3) (hi : i < sP S) (hk : k < 9) (hv : v = 0 ∨ v = 1) (hP : ∀ μ', XS h μ0 μ' (uP S i k v) → P μ') : OkO (jpz YX 1 (k + 1) μ (some (pI h i)) v) P := by
  rw [jpz, if_pos hv]
  exact x_wP R hh hi hk hP
/-- laid down or lifted: the place, then the minute -/
theorem x_wW {v t : Int32} {P : Mm → Prop} (R : XS h μ0 μ S) (hh : h < 3) (hi : i < sG S) (hv : ¬ v < 6) (hP : ∀ μ', XS h μ0 μ' (uG (uG S i 3 v) i 4 t) → P μ') : OkO (jpi YX 0 4 μ (some (gI h i)) v) P :=
  okE (x := (y2 μ.1 (gI h i) 4 v, μ.2.1, μ.2.2)) (by rw [jpi, jk_g hh (Nat.lt_of_lt_of_le hi R.G), ob_s]) (hP _ ⟨R.1.w hi (fun z => absurd z hv), R.2.1.y2 (by unfold gI; omega) (by have := R.G; unfold gI; omega), R.2.2⟩)
theorem x_wWL {v t : Int32} {P : Mm → Prop} {K : Mm → Option Mm} (R : XS h μ0 μ S) (hh : h < 3) (hi : i < sG S) (hK : ∀ u, K u = jpi YX 0 5 u (some (gI h i)) t) (hP : ∀ μ', XS h μ0 μ' (uG (uG S i 3 v) i 4 t) → P μ') : OkO (ob (jpi YX 0 4 μ (some (gI h i)) v) K) P := by
  rw [jpi, jk_g hh (Nat.lt_of_lt_of_le hi R.G), ob_s, ob_s, hK, jpi, jk_g hh (Nat.lt_of_lt_of_le hi R.G), ob_s]
  have R1 : RX h (y2 (y2 μ.1 (gI h i) 4 v) (gI h i) 5 t) (uG (uG S i 3 v) i 4 t) := by
    have A : RX h (y2 (y2 μ.1 (gI h i) 5 t) (gI h i) 4 v) (uG (uG (uG S i 4 t) i 3 v) i 4 t) := RX.w (R.1.g hi (by omega) (by omega)) hi (fun _ => y2_s _ _ _ _)
    have e1 : y2 (y2 μ.1 (gI h i) 5 t) (gI h i) 4 v = y2 (y2 μ.1 (gI h i) 4 v) (gI h i) 5 t := by
      funext a b
      unfold y2
      by_cases q : b = 4 ∧ a = gI h i
      · rw [if_pos q, if_neg (by omega), if_pos q]
      · rw [if_neg q]
        by_cases q2 : b = 5 ∧ a = gI h i
        · rw [if_pos q2, if_pos q2]
        · rw [if_neg q2, if_neg q2, if_neg q]
    have e2 : uG (uG (uG S i 4 t) i 3 v) i 4 t = uG (uG S i 3 v) i 4 t := by
      unfold uG
      refine congrArg (fun z => (S.1, S.2.1, z, sp S)) ?_
      funext a b
      show y2 (y2 (y2 (sg S) i 4 t) i 3 v) i 4 t a b = y2 (y2 (sg S) i 3 v) i 4 t a b
      unfold y2
      by_cases q : b = 4 ∧ a = i
      · rw [if_pos q, if_pos q]
      · rw [if_neg q, if_neg q, if_neg q]
    rw [← e1, ← e2]
    exact A
  exact okR (hP _ ⟨R1, (R.2.1.y2 (by unfold gI; omega) (by have := R.G; unfold gI; omega)).y2 (by unfold gI; omega) (by have := R.G; unfold gI; omega), R.2.2⟩)
theorem RX.sc {f : Nat → Nat → Int32} {S S' : Hs} {k : Nat} {v : Int32} (R : RX h f S) (hn : sG S' ≤ sG S ∧ sP S' ≤ sP S) (hg : sg S' = sg S) (hp : sp S' = sp S) (hk : (k = 2 → v = nI (sG S')) ∧ (k ≠ 2 → sG S' = sG S) ∧ (k = 3 → v = nI (sP S')) ∧ (k ≠ 3 → sP S' = sP S) ∧ (k = 4 → v = nI (sT S')) ∧ (k ≠ 4 → sT S' = sT S) ∧ (k = 5 → v = nI (sM S')) ∧ (k ≠ 5 → sM S' = sM S) ∧ (k = 6 → v = sMi S') ∧ (k ≠ 6 → sMi S' = sMi S) ∧ (k = 7 → v = sFr S') ∧ (k ≠ 7 → sFr S' = sFr S) ∧ (k = 8 → v = sLo S') ∧ (k ≠ 8 → sLo S' = sLo S)) : RX h (y2 f (hI h) k v) S' := by
  obtain ⟨a, ⟨b2, b3, b4, b5, b6, b7, b8⟩, c, d, e, g⟩ := R
  obtain ⟨k2, n2, k3, n3, k4, n4, k5, n5, k6, n6, k7, n7, k8, n8⟩ := hk
  have key : ∀ j, y2 f (hI h) k v (hI h) j = if j = k then v else f (hI h) j := by
    intro j
    unfold y2
    by_cases q : j = k
    · rw [if_pos ⟨q, rfl⟩, if_pos q]
    · rw [if_neg (fun z => q z.1), if_neg q]
  refine ⟨⟨Nat.le_trans hn.1 a.1, Nat.le_trans hn.2 a.2⟩, ⟨?_, ?_, ?_, ?_, ?_, ?_, ?_⟩, ⟨fun j hj => ?_, fun j hj => ?_⟩, fun j m hj hm h4 => ?_, fun j hj hl => ?_, fun j m hj hm => ?_⟩
  · rw [key]; by_cases q : 2 = k
    · rw [if_pos q]; exact k2 q.symm
    · rw [if_neg q, b2, n2 (Ne.symm q)]
  · rw [key]; by_cases q : 3 = k
    · rw [if_pos q]; exact k3 q.symm
    · rw [if_neg q, b3, n3 (Ne.symm q)]
  · rw [key]; by_cases q : 4 = k
    · rw [if_pos q]; exact k4 q.symm
    · rw [if_neg q, b4, n4 (Ne.symm q)]
  · rw [key]; by_cases q : 5 = k
    · rw [if_pos q]; exact k5 q.symm
    · rw [if_neg q, b5, n5 (Ne.symm q)]
  · rw [key]; by_cases q : 6 = k
    · rw [if_pos q]; exact k6 q.symm
    · rw [if_neg q, b6, n6 (Ne.symm q)]
  · rw [key]; by_cases q : 7 = k
    · rw [if_pos q]; exact k7 q.symm
    · rw [if_neg q, b7, n7 (Ne.symm q)]
  · rw [key]; by_cases q : 8 = k
    · rw [if_pos q]; exact k8 q.symm
    · rw [if_neg q, b8, n8 (Ne.symm q)]
  · rw [y2_i _ _ gh_ne]; exact c.1 j hj
  · rw [y2_i _ _ ph_ne]; exact c.2 j hj
  · rw [y2_i _ _ gh_ne, hg]; exact d j m (Nat.lt_of_lt_of_le hj hn.1) hm h4
  · rw [y2_i _ _ gh_ne, hg]; exact e j (Nat.lt_of_lt_of_le hj hn.1) (by rw [← hg]; exact hl)
  · rw [y2_i _ _ ph_ne, hp]; exact g j m (Nat.lt_of_lt_of_le hj hn.2) hm
theorem x_wS {k : Nat} {v : Int32} {P : Mm → Prop} (S' : Hs) (R : XS h μ0 μ S) (hh : h < 3) (hP : ∀ μ', XS h μ0 μ' S' → P μ') (hn : sG S' ≤ sG S ∧ sP S' ≤ sP S) (hg : sg S' = sg S) (hp : sp S' = sp S) (hk : (k = 2 → v = nI (sG S')) ∧ (k ≠ 2 → sG S' = sG S) ∧ (k = 3 → v = nI (sP S')) ∧ (k ≠ 3 → sP S' = sP S) ∧ (k = 4 → v = nI (sT S')) ∧ (k ≠ 4 → sT S' = sT S) ∧ (k = 5 → v = nI (sM S')) ∧ (k ≠ 5 → sM S' = sM S) ∧ (k = 6 → v = sMi S') ∧ (k ≠ 6 → sMi S' = sMi S) ∧ (k = 7 → v = sFr S') ∧ (k ≠ 7 → sFr S' = sFr S) ∧ (k = 8 → v = sLo S') ∧ (k ≠ 8 → sLo S' = sLo S)) : OkO (jpi YX 2 k μ (some (hI h)) v) P :=
  okE (x := (y2 μ.1 (hI h) k v, μ.2.1, μ.2.2)) (by rw [jpi, jk_h hh, ob_s]) (hP _ ⟨R.1.sc hn hg hp hk, R.2.1.y2 (by unfold hI; omega) (by unfold hI; omega), R.2.2⟩)
end XW
