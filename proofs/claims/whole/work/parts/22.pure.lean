/-! loops, and what they compute -/
def it {α : Type} (f : Nat → α → α) (a : α) : Nat → α
  | 0 => a
  | i + 1 => f i (it f a i)
theorem it_0 {α : Type} (f : Nat → α → α) (a : α) : it f a 0 = a := rfl
theorem it_s {α : Type} (f : Nat → α → α) (a : α) (i : Nat) : it f a (i + 1) = f i (it f a i) := rfl
theorem it_c {α : Type} {f g : Nat → α → α} {a : α} {N : Nat} (h : ∀ i x, i < N → f i x = g i x) : ∀ i, i ≤ N → it f a i = it g a i := by
  intro i
  induction i with
  | zero => intro _; rfl
  | succ i ih => intro hi; rw [it_s, it_s, ih (by omega), h i _ (by omega)]
/-- a relation kept by two loops side by side -/
theorem it_r {α β : Type} {f : Nat → α → α} {g : Nat → β → β} {a : α} {b : β} (R : Nat → α → β → Prop) (h0 : R 0 a b) {N : Nat} (h : ∀ i x y, i < N → R i x y → R (i + 1) (f i x) (g i y)) : ∀ i, i ≤ N → R i (it f a i) (it g b i) := by
  intro i
  induction i with
  | zero => intro _; exact h0
  | succ i ih => intro hi; exact h i _ _ (by omega) (ih (by omega))
theorem it_p {α : Type} {f : Nat → α → α} {a : α} (R : Nat → α → Prop) (h0 : R 0 a) {N : Nat} (h : ∀ i x, i < N → R i x → R (i + 1) (f i x)) : ∀ i, i ≤ N → R i (it f a i) := by
  intro i
  induction i with
  | zero => intro _; exact h0
  | succ i ih => intro hi; exact h i _ (by omega) (ih (by omega))
def bEx (c : Nat → Bool) (N : Nat) : Bool := it (fun i b => b || c i) false N
theorem bEx_s (c : Nat → Bool) (N : Nat) : bEx c (N + 1) = (bEx c N || c N) := rfl
theorem bEx_m {c : Nat → Bool} {i : Nat} : ∀ {N : Nat}, i < N → c i = true → bEx c N = true := by
  intro N
  induction N with
  | zero => intro h; omega
  | succ N ih =>
    intro h hc
    rw [bEx_s]
    by_cases q : i < N
    · rw [ih q hc]; rfl
    · have : i = N := by omega
      rw [← this, hc, Bool.or_true]
theorem bEx_f {c : Nat → Bool} : ∀ {N : Nat}, (∀ i, i < N → c i = false) → bEx c N = false := by
  intro N
  induction N with
  | zero => intro _; rfl
  | succ N ih => intro h; rw [bEx_s, ih (fun i hi => h i (by omega)), h N (by omega)]; rfl
theorem lpA {A β : Type} {L : Nat → Mm → A → Int32 → Option β} {P : β → Prop} (N : Nat) (I : Nat → Mm → A → Prop) (hx : ∀ n μ a, I N μ a → OkO (L (n + 1) μ a (nI N)) P) (hs : ∀ n i μ a, i < N → I i μ a → (∀ μ' a', I (i + 1) μ' a' → OkO (L n μ' a' (nI (i + 1))) P) → OkO (L (n + 1) μ a (nI i)) P) : ∀ d i n μ a, i + d = N → d < n → I i μ a → OkO (L n μ a (nI i)) P := by
  intro d
  induction d with
  | zero =>
    intro i n μ a hi hn hI
    obtain ⟨m, rfl⟩ : ∃ m, n = m + 1 := ⟨n - 1, by omega⟩
    have : i = N := by omega
    subst this
    exact hx m μ a hI
  | succ d ih =>
    intro i n μ a hi hn hI
    obtain ⟨m, rfl⟩ : ∃ m, n = m + 1 := ⟨n - 1, by omega⟩
    exact hs m i μ a (by omega) hI (fun μ' a' h' => ih (i + 1) m μ' a' (by omega) (by omega) h')
/-- with everything found out: plain ifs -/
theorem L2 {α : Type} {c : Prop} {hc : Decidable c} {a b : α} : (if c then some a else some b) = some (if c then a else b) := by by_cases h : c <;> simp [h]
theorem L3 {α β : Type} {c : Prop} {hc : Decidable c} {a b : α} {m : β} : (if c then (a, m) else (b, m)) = ((if c then a else b), m) := by by_cases h : c <;> simp [h]
theorem jz01 {c : Prop} {hc : Decidable c} : jz (if c then 1 else 0) = some (if c then 1 else 0) := by by_cases h : c <;> simp [h, jz]
/-! what holds in every house -/
def IvG (S : Hs) (i : Nat) : Prop := (∃ k, k < 8 ∧ sg S i 0 = nI k) ∧ (∃ n, n < 10 ∧ sg S i 2 = nI n) ∧ ((∃ q, q < 6 ∧ sg S i 3 = nI q) ∨ (∃ q, q < 6 ∧ sg S i 3 = nI (10 + q)) ∨ sg S i 3 = 20) ∧ (sg S i 6 = 0 ∨ sg S i 6 = 1)
def IvP (S : Hs) (p : Nat) : Prop := (∃ n, 0 < n ∧ n < 10 ∧ sp S p 0 = nI n) ∧ (∃ n, 0 < n ∧ n < 10 ∧ sp S p 1 = nI n) ∧ (∃ n, n < 10 ∧ sp S p 2 = nI n) ∧ (∃ n, n < 6 ∧ sp S p 4 = nI n) ∧ (sp S p 5 = -4 ∨ ∃ g, g < sG S ∧ sp S p 5 = nI g) ∧ (sp S p 6 = -4 ∨ ∃ g, g < sG S ∧ sp S p 6 = nI g) ∧ (sp S p 8 = 0 ∨ sp S p 8 = 1)
def Iv (S : Hs) : Prop := (sG S ≤ 12 ∧ sP S ≤ 6) ∧ sT S < 100 ∧ (sLo S = -4 ∨ ∃ v, v < 6 ∧ sLo S = nI v) ∧ (∀ i, i < sG S → IvG S i) ∧ (∀ p, p < sP S → IvP S p)
/-! what calls compute of a house -/
def strV (k f l : Int32) : Int32 := if k = 2 then 1 else if k = 3 then 2 + f else if k = 4 then 0 else if k = 6 then (if l - l / 2 * 2 = 0 then 2 + f else 0) else if k = 7 then 3 + f else 2
def likV (a b ka fa kb fb lb : Int32) : Int32 :=
  let q3 : Int32 := if a = b then 1 else 0
  let q7 : Int32 := if fa = fb then 3 else 1
  let q10 : Int32 := if kb = 2 then 1 else if kb = 4 then 1 else 0
  let q15 : Int32 := if kb = 3 then 1 else if kb = 6 then 1 else if kb = 7 then 1 else 0
  let q21 : Int32 := if q10 = 0 then q7 else q7 + 3
  let q23 : Int32 := if q15 = 0 then q7 else q7 + 4
  let q25 : Int32 := if q3 = 0 then 0 else 20
  if ka = 1 then q25 else if ka = 2 then q21 else if ka = 3 then q23 else if ka = 4 then (if kb = 4 then q21 + 1 else q21) else if ka = 5 then (if kb = 5 then (if q3 = 0 then 5 else q25) else q25) else if ka = 6 then (if q3 = 0 then q23 else 2 * q23) else if ka = 7 then (if lb = 0 then 0 else q23) else q7
def sStr (S : Hs) (g : Nat) : Int32 := strV (sg S g 0) (sg S g 1) (sg S g 2)
def sLik (S : Hs) (a b : Nat) : Int32 := likV (nI a) (nI b) (sg S a 0) (sg S a 1) (sg S b 0) (sg S b 1) (sg S b 2)
def oI (r : Option Nat) : Int32 := match r with
  | none => -4
  | some g => nI g
section XM
variable {h i j : Nat} {μ0 μ : Mm} {S : Hs} {F : Nat}
theorem kd_h1 {h : Nat} (hh : h < 3) : jk YX 8 (some (hI h + 1)) = some (hI h + 1) := by
  rcases (by omega : h = 0 ∨ h = 1 ∨ h = 2) with rfl | rfl | rfl <;> rfl
theorem kd_h2 {h : Nat} (hh : h < 3) : jk YX 9 (some (hI h + 2)) = some (hI h + 2) := by
  rcases (by omega : h = 0 ∨ h = 1 ∨ h = 2) with rfl | rfl | rfl <;> rfl
theorem x_rg {P : Option Nat → Prop} (hh : h < 3) (k : P (some (hI h + 1))) : OkO (jgr YX 2 0 (some (hI h))) P := okE (by rcases (by omega : h = 0 ∨ h = 1 ∨ h = 2) with rfl | rfl | rfl <;> rfl) k
theorem x_rp {P : Option Nat → Prop} (hh : h < 3) (k : P (some (hI h + 2))) : OkO (jgr YX 2 1 (some (hI h))) P := okE (by rcases (by omega : h = 0 ∨ h = 1 ∨ h = 2) with rfl | rfl | rfl <;> rfl) k
theorem x_lg {P : Int32 → Prop} (hh : h < 3) (k : P (nI 12)) : OkO (jln YX 8 (some (hI h + 1))) P := okE (by rcases (by omega : h = 0 ∨ h = 1 ∨ h = 2) with rfl | rfl | rfl <;> rfl) k
theorem x_lp {P : Int32 → Prop} (hh : h < 3) (k : P (nI 6)) : OkO (jln YX 9 (some (hI h + 2))) P := okE (by rcases (by omega : h = 0 ∨ h = 1 ∨ h = 2) with rfl | rfl | rfl <;> rfl) k
theorem x_ag {P : Option Nat → Prop} (hh : h < 3) (hi : i < 12) (k : P (some (gI h i))) : OkO (jaa YX 8 (some (hI h + 1)) (nI i)) P := by
  refine okE ?_ k
  rw [jaa, kd_h1 hh, ob_s]
  rcases (by omega : h = 0 ∨ h = 1 ∨ h = 2) with rfl | rfl | rfl
  · rw [show YX.2.2.1 (hI 0 + 1) = 12 from rfl, jin_nI hi (by decide), ob_s]; rfl
  · rw [show YX.2.2.1 (hI 1 + 1) = 12 from rfl, jin_nI hi (by decide), ob_s]; rfl
  · rw [show YX.2.2.1 (hI 2 + 1) = 12 from rfl, jin_nI hi (by decide), ob_s]; rfl
theorem x_ap {P : Option Nat → Prop} (hh : h < 3) (hi : i < 6) (k : P (some (pI h i))) : OkO (jaa YX 9 (some (hI h + 2)) (nI i)) P := by
  refine okE ?_ k
  rw [jaa, kd_h2 hh, ob_s]
  rcases (by omega : h = 0 ∨ h = 1 ∨ h = 2) with rfl | rfl | rfl
  · rw [show YX.2.2.1 (hI 0 + 2) = 6 from rfl, jin_nI hi (by decide), ob_s]; rfl
  · rw [show YX.2.2.1 (hI 1 + 2) = 6 from rfl, jin_nI hi (by decide), ob_s]; rfl
  · rw [show YX.2.2.1 (hI 2 + 2) = 6 from rfl, jin_nI hi (by decide), ob_s]; rfl
/-- glassAt: the glass, or none -/
theorem x_glassAt {P : Option Nat × Mm → Prop} (R : XS h μ0 μ S) (hh : h < 3) (hi : i < sG S) (k : P (some (gI h i), μ)) : OkO (f_H_glassAt F μ (hI h) (nI i)) P := by
  have hG := R.G
  unfold f_H_glassAt
  refine okF (nI_pos (by omega)) (okJ (x_s2 R hh ?_))
  refine okF (nI_ge hi (by omega)) (okJ (x_rg hh ?_))
  refine okJ (x_lg hh ?_)
  refine okF (nI_ge (by omega) (by decide)) (okJ (x_rg hh ?_))
  refine okJ (x_ag hh (by omega) ?_)
  exact okR k
theorem x_glassNo {x : Int32} {P : Option Nat × Mm → Prop} (R : XS h μ0 μ S) (hh : h < 3) (hx : x < 0 ∨ nI (sG S) ≤ x) (k : P (none, μ)) : OkO (f_H_glassAt F μ (hI h) x) P := by
  unfold f_H_glassAt
  rcases hx with hx | hx
  · exact okT hx (okR k)
  · refine okI (fun _ => okR k) (fun _ => okJ (x_s2 R hh ?_))
    exact okT hx (okR k)
theorem x_guestAt {P : Option Nat × Mm → Prop} (R : XS h μ0 μ S) (hh : h < 3) (hi : i < sP S) (k : P (some (pI h i), μ)) : OkO (f_H_guestAt F μ (hI h) (nI i)) P := by
  have hG := R.P
  unfold f_H_guestAt
  refine okF (nI_pos (by omega)) (okJ (x_s3 R hh ?_))
  refine okF (nI_ge hi (by omega)) (okJ (x_rp hh ?_))
  refine okJ (x_lp hh ?_)
  refine okF (nI_ge (by omega) (by decide)) (okJ (x_rp hh ?_))
  refine okJ (x_ap hh (by omega) ?_)
  exact okR k
theorem x_guestNo {x : Int32} {P : Option Nat × Mm → Prop} (R : XS h μ0 μ S) (hh : h < 3) (hx : x < 0 ∨ nI (sP S) ≤ x) (k : P (none, μ)) : OkO (f_H_guestAt F μ (hI h) x) P := by
  unfold f_H_guestAt
  rcases hx with hx | hx
  · exact okT hx (okR k)
  · refine okI (fun _ => okR k) (fun _ => okJ (x_s3 R hh ?_))
    exact okT hx (okR k)
/-- reads as equations, for plain computing -/
theorem XS.e {k : Nat} (R : XS h μ0 μ S) (hh : h < 3) (hi : i < sG S) (hk : k < 7) (h4 : k ≠ 4) : jgi YX 0 (k + 1) μ (some (gI h i)) = some (sg S i k) := by
  rw [jgi, jk_g hh (Nat.lt_of_lt_of_le hi R.G), ob_s, R.1.2.2.2.1 i k hi hk h4]
theorem XS.en (R : XS h μ0 μ S) (hh : h < 3) (hi : i < sG S) : jgi YX 0 0 μ (some (gI h i)) = some (nI i) := by
  rw [jgi, jk_g hh (Nat.lt_of_lt_of_le hi R.G), ob_s, R.1.2.2.1.1 i (Nat.lt_of_lt_of_le hi R.G)]
theorem x_str {P : Int32 × Mm → Prop} (R : XS h μ0 μ S) (hh : h < 3) (hi : i < sG S) (k : P (sStr S i, μ)) : OkO (f_G_strength F μ (gI h i)) P := by
  refine okE ?_ k
  have e0 := R.e (k := 0) hh hi (by decide) (by decide)
  have e1 := R.e (k := 1) hh hi (by decide) (by decide)
  have e2 := R.e (k := 2) hh hi (by decide) (by decide)
  unfold f_G_strength sStr strV
  have e3 : ∀ x : Int32, jrm x 2 = some (x - x / 2 * 2) := fun x => by rw [jrm, if_neg (by decide)]
  simp only [e0, e1, e2, e3, ob_s, L2, L3]
theorem x_lik {P : Int32 × Mm → Prop} (R : XS h μ0 μ S) (hh : h < 3) (hi : i < sG S) (hj : j < sG S) (k : P (sLik S i j, μ)) : OkO (f_G_likeTo F μ (gI h i) (some (gI h j))) P := by
  refine okE ?_ k
  have e0 := R.e (k := 0) hh hi (by decide) (by decide)
  have e1 := R.e (k := 1) hh hi (by decide) (by decide)
  have en := R.en hh hi
  have b0 := R.e (k := 0) hh hj (by decide) (by decide)
  have b1 := R.e (k := 1) hh hj (by decide) (by decide)
  have b2 := R.e (k := 2) hh hj (by decide) (by decide)
  have bn := R.en hh hj
  unfold f_G_likeTo sLik likV
  simp only [e0, e1, en, b0, b1, b2, bn, ob_s, L2, L3]
end XM
