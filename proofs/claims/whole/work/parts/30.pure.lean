/-! THE REFERENCE: its rows show a house, counters up to d, e -/
def RM (d e : Int32) (t : Nat → Nat → Int32) (S : Hs) : Prop :=
  (sG S ≤ 12 ∧ sP S ≤ 6) ∧ (t 0 0 = nI (sG S) ∧ t 0 1 = nI (sP S) ∧ t 0 2 = nI (sT S) ∧ t 0 3 = nI (sM S) ∧ t 0 20 = sMi S + d ∧ t 0 21 = sFr S + e ∧ t 0 22 = (if sLo S = -4 then -1 else sLo S)) ∧
  (∀ i k, i < sG S → k < 7 → t (k + 1) i = sg S i k) ∧ (∀ p k, p < sP S → k < 9 → t (k + 8) p = sp S p k)
def FrM (t t' : Nat → Nat → Int32) : Prop := (∀ id k, 17 ≤ id → t' id k = t id k) ∧ ∀ k, 4 ≤ k → k ≠ 20 → k ≠ 21 → t' 0 k = t 0 k
def MS (d e : Int32) (τ0 τ : Mm) (S : Hs) : Prop := RM d e τ.1 S ∧ FrM τ0.1 τ.1 ∧ τ.2 = τ0.2
theorem MS.rf {d e : Int32} {τ : Mm} {S : Hs} (R : RM d e τ.1 S) : MS d e τ τ S := ⟨R, ⟨fun _ _ _ => rfl, fun _ _ _ _ => rfl⟩, rfl⟩
theorem FrM.tr {a b c : Nat → Nat → Int32} (x : FrM a b) (y : FrM b c) : FrM a c := ⟨fun id k h => (y.1 id k h).trans (x.1 id k h), fun k h1 h2 h3 => (y.2 k h1 h2 h3).trans (x.2 k h1 h2 h3)⟩
theorem MS.tr {d e d2 e2 : Int32} {τ0 τ1 τ2 : Mm} {S S' : Hs} (A : MS d e τ0 τ1 S) (B : MS d2 e2 τ1 τ2 S') : MS d2 e2 τ0 τ2 S' := ⟨B.1, A.2.1.tr B.2.1, B.2.2.trans A.2.2⟩
theorem FrM.a {t t' : Nat → Nat → Int32} {id k : Nat} {v : Int32} (F : FrM t t') (h1 : 1 ≤ id) (h2 : id < 17) : FrM t (y2 t' id k v) := ⟨fun x j h => by rw [y2_i _ _ (by omega)]; exact F.1 x j h, fun j a b c => by rw [y2_i _ _ (by omega)]; exact F.2 j a b c⟩
theorem FrM.s {t t' : Nat → Nat → Int32} {k : Nat} {v : Int32} (F : FrM t t') (h : k < 4 ∨ k = 20 ∨ k = 21) : FrM t (y2 t' 0 k v) := ⟨fun x j h => by rw [y2_i _ _ (by omega)]; exact F.1 x j h, fun j a b c => by rw [y2_k _ _ (by omega)]; exact F.2 j a b c⟩
theorem RM.g {d e : Int32} {t : Nat → Nat → Int32} {S : Hs} {i k : Nat} {v : Int32} (R : RM d e t S) (hk : k < 7) : RM d e (y2 t (k + 1) i v) (uG S i k v) := by
  obtain ⟨a, b, c, f⟩ := R
  have e0 : ∀ j, y2 t (k + 1) i v 0 j = t 0 j := fun j => y2_i _ _ (by omega)
  refine ⟨a, by simp only [e0]; exact b, fun j m (hj : j < sG S) hm => ?_, fun j m (hj : j < sP S) hm => ?_⟩
  · show y2 t (k + 1) i v (m + 1) j = y2 (sg S) i k v j m
    by_cases q : m = k ∧ j = i
    · obtain ⟨rfl, rfl⟩ := q; rw [y2_s, y2_s]
    · rw [y2_o _ _ (by omega), y2_o _ _ q]; exact c j m hj hm
  · rw [y2_i _ _ (by omega)]; exact f j m hj hm
theorem RM.p {d e : Int32} {t : Nat → Nat → Int32} {S : Hs} {i k : Nat} {v : Int32} (R : RM d e t S) (hk : k < 9) : RM d e (y2 t (k + 8) i v) (uP S i k v) := by
  obtain ⟨a, b, c, f⟩ := R
  have e0 : ∀ j, y2 t (k + 8) i v 0 j = t 0 j := fun j => y2_i _ _ (by omega)
  refine ⟨a, by simp only [e0]; exact b, fun j m (hj : j < sG S) hm => ?_, fun j m (hj : j < sP S) hm => ?_⟩
  · rw [y2_i _ _ (by omega)]; exact c j m hj hm
  · show y2 t (k + 8) i v (m + 8) j = y2 (sp S) i k v j m
    by_cases q : m = k ∧ j = i
    · obtain ⟨rfl, rfl⟩ := q; rw [y2_s, y2_s]
    · rw [y2_o _ _ (by omega), y2_o _ _ q]; exact f j m hj hm
theorem RM.sc {d e d' e' : Int32} {t : Nat → Nat → Int32} {S S' : Hs} {k : Nat} {v : Int32} (R : RM d e t S) (hn : sG S' ≤ sG S ∧ sP S' ≤ sP S) (hg : sg S' = sg S) (hp : sp S' = sp S) (hs : y2 t 0 k v 0 0 = nI (sG S') ∧ y2 t 0 k v 0 1 = nI (sP S') ∧ y2 t 0 k v 0 2 = nI (sT S') ∧ y2 t 0 k v 0 3 = nI (sM S') ∧ y2 t 0 k v 0 20 = sMi S' + d' ∧ y2 t 0 k v 0 21 = sFr S' + e' ∧ y2 t 0 k v 0 22 = (if sLo S' = -4 then -1 else sLo S')) : RM d' e' (y2 t 0 k v) S' := by
  obtain ⟨a, b, c, f⟩ := R
  refine ⟨⟨Nat.le_trans hn.1 a.1, Nat.le_trans hn.2 a.2⟩, hs, fun j m hj hm => ?_, fun j m hj hm => ?_⟩
  · rw [y2_i _ _ (by omega), hg]; exact c j m (Nat.lt_of_lt_of_le hj hn.1) hm
  · rw [y2_i _ _ (by omega), hp]; exact f j m (Nat.lt_of_lt_of_le hj hn.2) hm
theorem RM.cg {d e : Int32} {t : Nat → Nat → Int32} {S T : Hs} (R : RM d e t S) (h1 : T.1 = S.1) (h2 : T.2.1 = S.2.1) (h3 : ∀ i k, i < sG S → k < 7 → sg T i k = sg S i k) (h4 : ∀ i k, i < sP S → k < 9 → sp T i k = sp S i k) : RM d e t T := by
  obtain ⟨a, b, c, f⟩ := R
  obtain ⟨T1, T2, T3, T4⟩ := T
  dsimp only at h1 h2
  subst h1
  subst h2
  exact ⟨a, b, fun j m hj hm => by rw [h3 j m hj hm]; exact c j m hj hm, fun j m hj hm => by rw [h4 j m hj hm]; exact f j m hj hm⟩
section MB
variable {d e : Int32} {i k : Nat} {τ0 τ : Mm} {S : Hs}
theorem MS.G (R : MS d e τ0 τ S) : sG S ≤ 12 := R.1.1.1
theorem MS.P (R : MS d e τ0 τ S) : sP S ≤ 6 := R.1.1.2
theorem m_k {P : Nat → Prop} (h : P 0) : OkO (jk YM 5 (some 0)) P := okE rfl h
theorem m_r {P : Option Nat → Prop} (id : Nat) (h : P (some id)) (hk : rfM 0 k = some id := by rfl) : OkO (jgr YM 5 k (some 0)) P := okE (by show some (rfM 0 k) = _; rw [hk]) h
theorem m_x {P : Int32 → Prop} (h : P (τ.1 0 k)) : OkO (jgi YM 5 k τ (some 0)) P := okE rfl h
theorem m_s0 {P : Int32 → Prop} (R : MS d e τ0 τ S) (h : P (nI (sG S))) : OkO (jgi YM 5 0 τ (some 0)) P := okE (by show some (τ.1 0 0) = _; rw [R.1.2.1.1]) h
theorem m_s1 {P : Int32 → Prop} (R : MS d e τ0 τ S) (h : P (nI (sP S))) : OkO (jgi YM 5 1 τ (some 0)) P := okE (by show some (τ.1 0 1) = _; rw [R.1.2.1.2.1]) h
theorem m_s2 {P : Int32 → Prop} (R : MS d e τ0 τ S) (h : P (nI (sT S))) : OkO (jgi YM 5 2 τ (some 0)) P := okE (by show some (τ.1 0 2) = _; rw [R.1.2.1.2.2.1]) h
theorem m_s3 {P : Int32 → Prop} (R : MS d e τ0 τ S) (h : P (nI (sM S))) : OkO (jgi YM 5 3 τ (some 0)) P := okE (by show some (τ.1 0 3) = _; rw [R.1.2.1.2.2.2.1]) h
theorem m_s20 {P : Int32 → Prop} (R : MS d e τ0 τ S) (h : P (sMi S + d)) : OkO (jgi YM 5 20 τ (some 0)) P := okE (by show some (τ.1 0 20) = _; rw [R.1.2.1.2.2.2.2.1]) h
theorem m_s21 {P : Int32 → Prop} (R : MS d e τ0 τ S) (h : P (sFr S + e)) : OkO (jgi YM 5 21 τ (some 0)) P := okE (by show some (τ.1 0 21) = _; rw [R.1.2.1.2.2.2.2.2.1]) h
theorem m_s22 {P : Int32 → Prop} (R : MS d e τ0 τ S) (h : P (if sLo S = -4 then -1 else sLo S)) : OkO (jgi YM 5 22 τ (some 0)) P := okE (by show some (τ.1 0 22) = _; rw [R.1.2.1.2.2.2.2.2.2]) h
theorem jk6 {id : Nat} (h1 : 1 ≤ id) (h2 : id < 27) : jk YM 6 (some id) = some id := by
  show ob (some id) _ = _
  rw [ob_s, if_pos ⟨by show id < 29; omega, by show kdM id = 6; unfold kdM; rw [if_neg (by omega), if_pos h2]⟩]
theorem al_e {id : Nat} (h1 : 1 ≤ id) (h2 : id < 27) (hi : i < lnM id) (hi2 : i < 1000) : jal YM τ (some id) (nI i) = some (τ.1 id i) := by
  rw [jal, jk6 h1 h2, ob_s, show YM.2.2.1 id = lnM id from rfl, jin, nI_clamp (by omega), if_pos ⟨nI_pos' (by omega), hi⟩, ob_s]
theorem as_e {id : Nat} {v : Int32} (h1 : 1 ≤ id) (h2 : id < 27) (hi : i < lnM id) (hi2 : i < 1000) : jas YM τ (some id) (nI i) v = some (y2 τ.1 id i v, τ.2.1, τ.2.2) := by
  rw [jas, jk6 h1 h2, ob_s, show YM.2.2.1 id = lnM id from rfl, jin, nI_clamp (by omega), if_pos ⟨nI_pos' (by omega), hi⟩, ob_s]
theorem ln12 {id : Nat} (h : id ≤ 7) : lnM id = 12 := by unfold lnM; rw [if_pos h]
theorem ln6 {id : Nat} (h : 8 ≤ id) (h2 : id ≤ 16) : lnM id = 6 := by unfold lnM; rw [if_neg (by omega), if_pos h2]
theorem m_gA {P : Int32 → Prop} (R : MS d e τ0 τ S) (hi : i < sG S) (hk : k < 7) (h : P (sg S i k)) : OkO (jal YM τ (some (k + 1)) (nI i)) P := by
  have := R.G
  exact okE (by rw [al_e (by omega) (by omega) (by rw [ln12 (by omega)]; omega) (by omega), R.1.2.2.1 i k hi hk]) h
theorem m_pA {P : Int32 → Prop} (R : MS d e τ0 τ S) (hi : i < sP S) (hk : k < 9) (h : P (sp S i k)) : OkO (jal YM τ (some (k + 8)) (nI i)) P := by
  have := R.P
  exact okE (by rw [al_e (by omega) (by omega) (by rw [ln6 (by omega) (by omega)]; omega) (by omega), R.1.2.2.2 i k hi hk]) h
theorem m_wG {v : Int32} {P : Mm → Prop} (R : MS d e τ0 τ S) (hi : i < 12) (hk : k < 7) (h : ∀ τ', MS d e τ0 τ' (uG S i k v) → P τ') : OkO (jas YM τ (some (k + 1)) (nI i) v) P :=
  okE (x := (y2 τ.1 (k + 1) i v, τ.2.1, τ.2.2)) (as_e (by omega) (by omega) (by rw [ln12 (by omega)]; omega) (by omega)) (h _ ⟨R.1.g hk, R.2.1.a (by omega) (by omega), R.2.2⟩)
theorem m_wP {v : Int32} {P : Mm → Prop} (R : MS d e τ0 τ S) (hi : i < 6) (hk : k < 9) (h : ∀ τ', MS d e τ0 τ' (uP S i k v) → P τ') : OkO (jas YM τ (some (k + 8)) (nI i) v) P :=
  okE (x := (y2 τ.1 (k + 8) i v, τ.2.1, τ.2.2)) (as_e (by omega) (by omega) (by rw [ln6 (by omega) (by omega)]; omega) (by omega)) (h _ ⟨R.1.p hk, R.2.1.a (by omega) (by omega), R.2.2⟩)
theorem m_wS {d' e' v : Int32} {P : Mm → Prop} (S' : Hs) (R : MS d e τ0 τ S) (h : ∀ τ', MS d' e' τ0 τ' S' → P τ') (hk : k < 4 ∨ k = 20 ∨ k = 21) (hn : sG S' ≤ sG S ∧ sP S' ≤ sP S) (hg : sg S' = sg S) (hp : sp S' = sp S) (hs : y2 τ.1 0 k v 0 0 = nI (sG S') ∧ y2 τ.1 0 k v 0 1 = nI (sP S') ∧ y2 τ.1 0 k v 0 2 = nI (sT S') ∧ y2 τ.1 0 k v 0 3 = nI (sM S') ∧ y2 τ.1 0 k v 0 20 = sMi S' + d' ∧ y2 τ.1 0 k v 0 21 = sFr S' + e' ∧ y2 τ.1 0 k v 0 22 = (if sLo S' = -4 then -1 else sLo S')) : OkO (jpi YM 5 k τ (some 0) v) P :=
  okE (x := (y2 τ.1 0 k v, τ.2.1, τ.2.2)) rfl (h _ ⟨R.1.sc hn hg hp hs, R.2.1.s hk, R.2.2⟩)
end MB
section MC
variable {d e : Int32} {i j k p g : Nat} {τ0 τ : Mm} {S : Hs} {F : Nat}
theorem yrm0 {n : Nat} (h : n < 10) : nI n - nI n / 2 * 2 = 0 ∨ nI n - nI n / 2 * 2 = 1 := by
  rw [show (2 : Int32) = nI 2 from rfl, pk_rem (by omega) (by decide) (by decide)]
  rcases (by omega : n % 2 = 0 ∨ n % 2 = 1) with q | q <;> rw [q]
  · exact Or.inl rfl
  · exact Or.inr rfl
theorem m_str {P : Int32 × Mm → Prop} (R : MS d e τ0 τ S) (hv : Iv S) (hi : i < sG S) (h : P (sStr S i, τ)) : OkO (f_M_strengthOf F τ 0 (nI i)) P := by
  have hG := R.G
  obtain ⟨n, hn, en⟩ := (hv.2.2.2.1 i hi).2.1
  have r := R.1.2.2.1 i
  have e0 : jal YM τ (some 1) (nI i) = some (sg S i 0) := by rw [al_e (by omega) (by omega) (by rw [ln12 (by omega)]; omega) (by omega), r 0 hi (by decide)]
  have e1 : jal YM τ (some 2) (nI i) = some (sg S i 1) := by rw [al_e (by omega) (by omega) (by rw [ln12 (by omega)]; omega) (by omega), r 1 hi (by decide)]
  have e2 : jal YM τ (some 3) (nI i) = some (sg S i 2) := by rw [al_e (by omega) (by omega) (by rw [ln12 (by omega)]; omega) (by omega), r 2 hi (by decide)]
  have g4 : jgr YM 5 4 (some 0) = some (some 1) := rfl
  have g5 : jgr YM 5 5 (some 0) = some (some 2) := rfl
  have g6 : jgr YM 5 6 (some 0) = some (some 3) := rfl
  have e3 : ∀ x : Int32, jrm x 2 = some (x - x / 2 * 2) := fun x => by rw [jrm, if_neg (by decide)]
  refine okE ?_ h
  unfold f_M_strengthOf sStr strV
  simp only [e0, e1, e2, e3, g4, g5, g6, ob_s, L2, L3]
  rcases yrm0 hn with q | q
  · rw [en, q]; simp
  · rw [en, q]; simp
/-- the reference's likeness of values -/
def likM (a b ka fa kb fb lb : Int32) : Int32 :=
  let pl : Int32 := if fa = fb then 3 else 1
  let ta : Int32 := pl + (if kb = 2 then 3 else if kb = 4 then 3 else 0)
  let re : Int32 := pl + (if (if kb = 3 then (1 : Int32) else if kb = 6 then 1 else if kb = 7 then 1 else 0) = 0 then 0 else 4)
  if ka = 0 then pl else if ka = 1 then (if a = b then 20 else 0) else if ka = 2 then ta else if ka = 3 then re else if ka = 4 then ta + (if kb = 4 then 1 else 0) else if ka = 5 then (if a = b then 20 else if kb = 5 then 5 else 0) else if ka = 6 then re * (if a = b then 2 else 1) else if lb = 0 then 0 else re
theorem lik_e {a b ka fa kb fb lb : Int32} (h1 : ∃ n, n < 8 ∧ ka = nI n) (h2 : ∃ n, n < 8 ∧ kb = nI n) : likM a b ka fa kb fb lb = likV a b ka fa kb fb lb := by
  obtain ⟨n, hn, rfl⟩ := h1
  obtain ⟨m, hm, rfl⟩ := h2
  have key : ∀ n, n < 8 → ∀ m, m < 8 → ∀ s f l : Bool, (likM (if s then 0 else 1) 0 (nI n) (if f then 0 else 1) (nI m) 0 (if l then 0 else 1)) = likV (if s then 0 else 1) 0 (nI n) (if f then 0 else 1) (nI m) 0 (if l then 0 else 1) := by decide +kernel
  have gen : ∀ f : Int32 → Int32 → Int32 → Int32 → Int32 → Int32 → Int32 → Int32, (f = likM ∨ f = likV) → f a b (nI n) fa (nI m) fb lb = f (if decide (a = b) = true then 0 else 1) 0 (nI n) (if decide (fa = fb) = true then 0 else 1) (nI m) 0 (if decide (lb = 0) = true then 0 else 1) := by
    intro f hf
    rcases hf with rfl | rfl
    · unfold likM
      by_cases q1 : a = b <;> by_cases q2 : fa = fb <;> by_cases q3 : lb = 0 <;> simp [q1, q2, q3]
    · unfold likV
      by_cases q1 : a = b <;> by_cases q2 : fa = fb <;> by_cases q3 : lb = 0 <;> simp [q1, q2, q3]
  rw [gen likM (Or.inl rfl), gen likV (Or.inr rfl)]
  exact key n hn m hm (decide (a = b)) (decide (fa = fb)) (decide (lb = 0))
theorem m_lik {P : Int32 × Mm → Prop} (R : MS d e τ0 τ S) (hv : Iv S) (hi : i < sG S) (hj : j < sG S) (h : P (sLik S i j, τ)) : OkO (f_M_likeOf F τ 0 (nI i) (nI j)) P := by
  have hG := R.G
  have r := R.1.2.2.1 i
  have r2 := R.1.2.2.1 j
  have e0 : jal YM τ (some 1) (nI i) = some (sg S i 0) := by rw [al_e (by omega) (by omega) (by rw [ln12 (by omega)]; omega) (by omega), r 0 hi (by decide)]
  have e1 : jal YM τ (some 2) (nI i) = some (sg S i 1) := by rw [al_e (by omega) (by omega) (by rw [ln12 (by omega)]; omega) (by omega), r 1 hi (by decide)]
  have b0 : jal YM τ (some 1) (nI j) = some (sg S j 0) := by rw [al_e (by omega) (by omega) (by rw [ln12 (by omega)]; omega) (by omega), r2 0 hj (by decide)]
  have b1 : jal YM τ (some 2) (nI j) = some (sg S j 1) := by rw [al_e (by omega) (by omega) (by rw [ln12 (by omega)]; omega) (by omega), r2 1 hj (by decide)]
  have b2 : jal YM τ (some 3) (nI j) = some (sg S j 2) := by rw [al_e (by omega) (by omega) (by rw [ln12 (by omega)]; omega) (by omega), r2 2 hj (by decide)]
  have g4 : jgr YM 5 4 (some 0) = some (some 1) := rfl
  have g5 : jgr YM 5 5 (some 0) = some (some 2) := rfl
  have g6 : jgr YM 5 6 (some 0) = some (some 3) := rfl
  have k0 : jk YM 5 (some 0) = some 0 := rfl
  refine okE ?_ h
  have e : sLik S i j = likM (nI i) (nI j) (sg S i 0) (sg S i 1) (sg S j 0) (sg S j 1) (sg S j 2) := (lik_e (hv.2.2.2.1 i hi).1 (hv.2.2.2.1 j hj).1).symm
  rw [e]
  unfold f_M_likeOf likM
  unfold f_M_tally f_M_redly f_M_plainly
  simp only [e0, e1, b0, b1, b2, g4, g5, g6, k0, ob_s, L2, L3, yb_s]
end MC
