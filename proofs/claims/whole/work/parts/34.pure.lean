/-! PURE 34: the reference's rows, kept and put back -/
def lv (t : Nat → Nat → Int32) (m : Nat) : Int32 := if m < 4 then t 0 m else if m < 88 then t ((m - 4) % 7 + 1) ((m - 4) / 7) else t ((m - 88) % 9 + 8) ((m - 88) / 9)
def ix (a i : Nat) : Nat := if a = 0 then (if i < 4 then i else 999) else if a < 8 then (if i < 12 then 4 + 7 * i + (a - 1) else 999) else if a < 17 then (if i < 6 then 88 + 9 * i + (a - 8) else 999) else 999
def zf (tk : Bool) (id : Nat) (t : Nat → Nat → Int32) (j a i : Nat) : Int32 := match tk with
  | true => if a = id ∧ i < j then lv t i else t a i
  | false => if ix a i < j then t id (ix a i) else t a i
theorem ix_0 {i : Nat} (h : i < 4) : ix 0 i = i := by unfold ix; rw [if_pos rfl, if_pos h]
theorem ix_g {k i : Nat} (hk : k < 7) (h : i < 12) : ix (k + 1) i = 4 + 7 * i + k := by unfold ix; rw [if_neg (by omega), if_pos (by omega), if_pos h, Nat.add_sub_cancel]
theorem ix_p {k i : Nat} (hk : k < 9) (h : i < 6) : ix (k + 8) i = 88 + 9 * i + k := by unfold ix; rw [if_neg (by omega), if_neg (by omega), if_pos (by omega), if_pos h, Nat.add_sub_cancel]
theorem ix_no {a i : Nat} (h : 17 ≤ a) : ix a i = 999 := by unfold ix; rw [if_neg (by omega), if_neg (by omega), if_neg (by omega)]
theorem ix_0n {i : Nat} (h : 4 ≤ i) : ix 0 i = 999 := by unfold ix; rw [if_pos rfl, if_neg (by omega)]
theorem ix_lt {a i : Nat} (h : ix a i < 142) : (a = 0 ∧ i < 4 ∧ ix a i = i) ∨ (1 ≤ a ∧ a < 8 ∧ i < 12 ∧ ix a i = 4 + 7 * i + (a - 1)) ∨ (8 ≤ a ∧ a < 17 ∧ i < 6 ∧ ix a i = 88 + 9 * i + (a - 8)) := by
  by_cases h0 : a = 0
  · subst h0
    by_cases h1 : i < 4
    · exact Or.inl ⟨rfl, h1, ix_0 h1⟩
    · rw [ix_0n (by omega)] at h; omega
  · by_cases h2 : a < 8
    · by_cases h1 : i < 12
      · refine Or.inr (Or.inl ⟨by omega, h2, h1, ?_⟩)
        unfold ix; rw [if_neg h0, if_pos h2, if_pos h1]
      · unfold ix at h; rw [if_neg h0, if_pos h2, if_neg h1] at h; omega
    · by_cases h3 : a < 17
      · by_cases h1 : i < 6
        · refine Or.inr (Or.inr ⟨by omega, h3, h1, ?_⟩)
          unfold ix; rw [if_neg h0, if_neg h2, if_pos h3, if_pos h1]
        · unfold ix at h; rw [if_neg h0, if_neg h2, if_pos h3, if_neg h1] at h; omega
      · rw [ix_no (by omega)] at h; omega
theorem ix_inj {a i b j : Nat} (h : ix b j = ix a i) (hl : ix a i < 142) : b = a ∧ j = i := by
  have h1 := ix_lt hl
  have h2 := ix_lt (a := b) (i := j) (by omega)
  rcases h1 with h1 | h1 | h1 <;> rcases h2 with h2 | h2 | h2 <;> omega
theorem lv_ix {t : Nat → Nat → Int32} {a i : Nat} (hl : ix a i < 142) : lv t (ix a i) = t a i := by
  unfold lv
  rcases ix_lt hl with ⟨rfl, h2, e⟩ | ⟨h1, h2, h3, e⟩ | ⟨h1, h2, h3, e⟩
  · rw [e, if_pos h2]
  · rw [e, if_neg (by omega), if_pos (by omega), show (4 + 7 * i + (a - 1) - 4) % 7 + 1 = a by omega, show (4 + 7 * i + (a - 1) - 4) / 7 = i by omega]
  · rw [e, if_neg (by omega), if_neg (by omega), show (88 + 9 * i + (a - 8) - 88) % 9 + 8 = a by omega, show (88 + 9 * i + (a - 8) - 88) / 9 = i by omega]
def tkI (tk : Bool) : Int32 := if tk = true then 1 else 0
def Zc (tk : Bool) (id : Nat) (τ : Mm) (j : Nat) (u : Mm) : Prop := u.2 = (τ.2.1, some id) ∧ u.1 0 28 = tkI tk ∧ u.1 0 27 = nI j ∧ ∀ a i, ¬ (a = 0 ∧ (i = 27 ∨ i = 28)) → u.1 a i = zf tk id τ.1 j a i
section MK
variable {tk : Bool} {id j a i : Nat} {τ u : Mm} {F : Nat}
theorem zf_st (hid : id = 17 ∨ id = 18) (hj : j < 142) (he : ix a i = j) (hz : Zc tk id τ j u) : Zc tk id τ (j + 1) (y2 (y2 (if tk = true then y2 u.1 id j (u.1 a i) else u.1) 0 27 (nI (j + 1))) a i (if tk = true then u.1 a i else u.1 id j), u.2.1, u.2.2) := by
  obtain ⟨z1, z2, z3, z4⟩ := hz
  have h0 := ix_lt (a := a) (i := i) (by omega)
  have hn : ¬ (a = 0 ∧ (i = 27 ∨ i = 28)) := by omega
  have ha : a ≠ id := by omega
  have hia : u.1 a i = τ.1 a i := by
    rw [z4 a i hn]
    unfold zf
    cases tk with
    | true => dsimp only; rw [if_neg (by omega)]
    | false => dsimp only; rw [if_neg (by omega)]
  have hii : u.1 id j = (match tk with | true => u.1 id j | false => τ.1 id j) := by
    cases tk with
    | true => rfl
    | false =>
      dsimp only
      rw [z4 id j (by omega)]
      unfold zf
      dsimp only
      rw [ix_no (by omega), if_neg (by omega)]
  refine ⟨z1, ?_, ?_, fun b m hb => ?_⟩
  · show y2 (y2 _ 0 27 _) a i _ 0 28 = _
    rw [y2_o _ _ (by omega), y2_k _ _ (by omega)]
    cases tk with
    | true => rw [if_pos rfl, y2_i _ _ (by omega)]; exact z2
    | false => exact z2
  · show y2 (y2 _ 0 27 _) a i _ 0 27 = _
    rw [y2_o _ _ (by omega), y2_s]
  · show y2 (y2 _ 0 27 _) a i _ b m = _
    by_cases q : m = i ∧ b = a
    · obtain ⟨rfl, rfl⟩ := q
      rw [y2_s]
      cases tk with
      | true =>
        rw [if_pos rfl, hia]
        unfold zf
        dsimp only
        rw [if_neg (by omega)]
      | false =>
        rw [if_neg (by decide), hii]
        unfold zf
        dsimp only
        rw [he, if_pos (by omega)]
    · rw [y2_o _ _ q, y2_o _ _ (by omega)]
      cases tk with
      | true =>
        rw [if_pos rfl]
        by_cases q2 : m = j ∧ b = id
        · obtain ⟨rfl, rfl⟩ := q2
          rw [y2_s, hia]
          unfold zf
          dsimp only
          rw [if_pos ⟨rfl, by omega⟩, ← he, lv_ix (by omega)]
        · rw [y2_o _ _ q2, z4 b m hb]
          unfold zf
          dsimp only
          by_cases q3 : b = id ∧ m < j
          · rw [if_pos q3, if_pos ⟨q3.1, by omega⟩]
          · rw [if_neg q3, if_neg (by omega)]
      | false =>
        rw [if_neg (by decide), z4 b m hb]
        unfold zf
        dsimp only
        have : ix b m ≠ j := fun z => q (by have := ix_inj (z.trans he.symm) (by omega); exact ⟨this.2, this.1⟩)
        by_cases q3 : ix b m < j
        · rw [if_pos q3, if_pos (by omega)]
        · rw [if_neg q3, if_neg (by omega)]
theorem tk0 : ¬ tkI true = 0 := by decide
theorem m_carry {v : Int32} (hid : id = 17 ∨ id = 18) (hj : j < 142) (h1 : u.2.2 = some id) (h2 : u.1 0 28 = tkI tk) (h3 : u.1 0 27 = nI j) : f_M_carry F u 0 v = some (if tk = true then v else u.1 id j, (y2 (if tk = true then y2 u.1 id j v else u.1) 0 27 (nI (j + 1)), u.2.1, u.2.2)) := by
  have hl : lnM id = 142 := by rcases hid with rfl | rfl <;> rfl
  unfold f_M_carry
  have e28 : jgi YM 5 28 u (some 0) = some (tkI tk) := by show some (u.1 0 28) = _; rw [h2]
  have e27 : jgi YM 5 27 u (some 0) = some (nI j) := by show some (u.1 0 27) = _; rw [h3]
  have ek : jgk YM u (some 0) = some (some id) := by show some u.2.2 = _; rw [h1]
  rw [e28, ob_s, e27, ek, ob_s, ob_s, as_e (by omega) (by omega) (by omega) (by omega), ob_s]
  cases tk with
  | true =>
    rw [if_neg tk0, ob_s, if_pos rfl, if_pos rfl]
    have e27' : jgi YM 5 27 (y2 u.1 id j v, u.2.1, u.2.2) (some 0) = some (nI j) := by show some (y2 u.1 id j v 0 27) = _; rw [y2_i _ _ (by omega), h3]
    rw [e27', ob_s, nI_1]
    show ob (some (y2 (y2 u.1 id j v) 0 27 (nI (j + 1)), u.2.1, u.2.2)) _ = _
    rw [ob_s]
    show ob (some u.2.2) _ = _
    rw [ob_s]
    show ob (some (y2 (y2 u.1 id j v) 0 27 (nI (j + 1)) 0 27)) _ = _
    rw [ob_s, y2_s, h1, show (1 : Int32) = nI 1 from rfl, pk_sub (by omega), Nat.add_sub_cancel, al_e (by omega) (by omega) (by omega) (by omega), ob_s]
    show some (y2 (y2 u.1 id j v) 0 27 (nI (j + 1)) id j, _) = _
    rw [y2_i _ _ (by omega), y2_s]
  | false =>
    rw [if_pos (show tkI false = 0 from rfl), ob_s, if_neg (by decide), if_neg (by decide), e27, ob_s, nI_1]
    show ob (some (y2 u.1 0 27 (nI (j + 1)), u.2.1, u.2.2)) _ = _
    rw [ob_s]
    show ob (some u.2.2) _ = _
    rw [ob_s]
    show ob (some (y2 u.1 0 27 (nI (j + 1)) 0 27)) _ = _
    rw [ob_s, y2_s, h1, show (1 : Int32) = nI 1 from rfl, pk_sub (by omega), Nat.add_sub_cancel, al_e (by omega) (by omega) (by omega) (by omega), ob_s]
    show some (y2 u.1 0 27 (nI (j + 1)) id j, _) = _
    rw [y2_i _ _ (by omega)]
theorem c_s {β : Type} {K : Mm → Option β} {P : β → Prop} (hid : id = 17 ∨ id = 18) (hj : j < 4) (hz : Zc tk id τ j u) (hk : ∀ u', Zc tk id τ (j + 1) u' → OkO (K u') P) : OkO (ob (jgi YM 5 j u (some 0)) fun x => ob (jk YM 5 (some 0)) fun t => yb (f_M_carry F u t x) fun y u2 => ob (jpi YM 5 j u2 (some 0) y) K) P := by
  refine okJ (m_x (okJ (m_k ?_)))
  rw [m_carry hid (by omega) (by rw [hz.1]) hz.2.1 hz.2.2.1]
  exact okJ (okR (hk _ (zf_st hid (by omega) (ix_0 hj) hz)))
theorem c_r {β : Type} {K : Mm → Option β} {P : β → Prop} (hid : id = 17 ∨ id = 18) (hj : j < 142) (h1 : 1 ≤ a) (h2 : a < 17) (hi : i < lnM a) (hi2 : i < 12) (he : ix a i = j) (hz : Zc tk id τ j u) (hk : ∀ u', Zc tk id τ (j + 1) u' → OkO (K u') P) : OkO (ob (jal YM u (some a) (nI i)) fun x => ob (jk YM 5 (some 0)) fun t => yb (f_M_carry F u t x) fun y u2 => ob (jas YM u2 (some a) (nI i) y) K) P := by
  rw [al_e h1 (by omega) hi (by omega), ob_s]
  refine okJ (m_k ?_)
  rw [m_carry hid hj (by rw [hz.1]) hz.2.1 hz.2.2.1]
  show OkO (ob (jas YM _ (some a) (nI i) _) K) P
  rw [as_e h1 (by omega) hi (by omega), ob_s]
  exact hk _ (zf_st hid hj he hz)
theorem m_cAll {P : Unit × Mm → Prop} (hid : id = 17 ∨ id = 18) (hF : 100 ≤ F) (h : ∀ τ', τ'.2 = (τ.2.1, some id) → (∀ a i, ¬ (a = 0 ∧ (i = 27 ∨ i = 28)) → τ'.1 a i = zf tk id τ.1 142 a i) → P ((), τ')) : OkO (f_M_carryAll F τ 0 (some id) (tkI tk)) P := by
  unfold f_M_carryAll
  refine okJ (okR (x := (τ.1, τ.2.1, some id)) ?_)
  refine okJ (okE (x := (y2 τ.1 0 28 (tkI tk), τ.2.1, some id)) (by rw [jpz, if_pos (by cases tk; exact Or.inl rfl; exact Or.inr rfl)]; rfl) ?_)
  refine okJ (okR (x := (y2 (y2 τ.1 0 28 (tkI tk)) 0 27 0, τ.2.1, some id)) ?_)
  have z0 : Zc tk id τ 0 (y2 (y2 τ.1 0 28 (tkI tk)) 0 27 0, τ.2.1, some id) := by
    refine ⟨rfl, by show y2 (y2 τ.1 0 28 (tkI tk)) 0 27 0 0 28 = _; rw [y2_k _ _ (by omega), y2_s], y2_s (y2 τ.1 0 28 (tkI tk)) 0 27 0, fun b m hb => ?_⟩
    show y2 (y2 τ.1 0 28 (tkI tk)) 0 27 0 b m = _
    rw [y2_o _ _ (by omega), y2_o _ _ (by omega)]
    unfold zf
    cases tk with
    | true => dsimp only; rw [if_neg (by omega)]
    | false => dsimp only; rw [if_neg (by omega)]
  refine c_s (j := 0) hid (by decide) z0 (fun u1 z1 => c_s (j := 1) hid (by decide) z1 (fun u2 z2 => c_s (j := 2) hid (by decide) z2 (fun u3 z3 => c_s (j := 3) hid (by decide) z3 (fun u4 z4 => ?_))))
  refine lpA (A := Unit) (L := fun n u _ j => f_M_carryAll_L65 F (some 0) _ n u j) 12 (fun j u _ => Zc tk id τ (4 + 7 * j) u) (fun n u b hQ => ?_) (fun n j u b hj hQ hk => ?_) 12 0 F u4 () (by omega) (by omega) z4
  · simp only [f_M_carryAll_L65]
    refine okT (by decide) ?_
    refine lpA (A := Unit) (L := fun n u _ j => f_M_carryAll_L191 F (some 0) _ n u j) 6 (fun j u _ => Zc tk id τ (88 + 9 * j) u) (fun n u b hQ => ?_) (fun n j u b hj hQ hk => ?_) 6 0 F u () (by omega) (by omega) hQ
    · simp only [f_M_carryAll_L191]
      exact okT (by decide) (okR (h u hQ.1 hQ.2.2.2))
    · simp only [f_M_carryAll_L191]
      refine okF (nI_ge (b := 6) hj (by decide)) ?_
      refine okJ (m_r 8 (okJ (m_r 8 (c_r (a := 8) hid (by omega) (by decide) (by decide) hj (by omega) (ix_p (k := 0) (by decide) hj) hQ (fun u1 z1 => ?_)))))
      refine okJ (m_r 9 (okJ (m_r 9 (c_r (a := 9) hid (by omega) (by decide) (by decide) hj (by omega) (ix_p (k := 1) (by decide) hj) z1 (fun u2 z2 => ?_)))))
      refine okJ (m_r 10 (okJ (m_r 10 (c_r (a := 10) hid (by omega) (by decide) (by decide) hj (by omega) (ix_p (k := 2) (by decide) hj) z2 (fun u3 z3 => ?_)))))
      refine okJ (m_r 11 (okJ (m_r 11 (c_r (a := 11) hid (by omega) (by decide) (by decide) hj (by omega) (ix_p (k := 3) (by decide) hj) z3 (fun u4 z4 => ?_)))))
      refine okJ (m_r 12 (okJ (m_r 12 (c_r (a := 12) hid (by omega) (by decide) (by decide) hj (by omega) (ix_p (k := 4) (by decide) hj) z4 (fun u5 z5 => ?_)))))
      refine okJ (m_r 13 (okJ (m_r 13 (c_r (a := 13) hid (by omega) (by decide) (by decide) hj (by omega) (ix_p (k := 5) (by decide) hj) z5 (fun u6 z6 => ?_)))))
      refine okJ (m_r 14 (okJ (m_r 14 (c_r (a := 14) hid (by omega) (by decide) (by decide) hj (by omega) (ix_p (k := 6) (by decide) hj) z6 (fun u7 z7 => ?_)))))
      refine okJ (m_r 15 (okJ (m_r 15 (c_r (a := 15) hid (by omega) (by decide) (by decide) hj (by omega) (ix_p (k := 7) (by decide) hj) z7 (fun u8 z8 => ?_)))))
      refine okJ (m_r 16 (okJ (m_r 16 (c_r (a := 16) hid (by omega) (by decide) (by decide) hj (by omega) (ix_p (k := 8) (by decide) hj) z8 (fun u9 z9 => ?_)))))
      refine okJ (okR ?_)
      rw [nI_1]
      exact hk u9 () z9
  · simp only [f_M_carryAll_L65]
    refine okF (nI_ge (b := 12) hj (by decide)) ?_
    refine okJ (m_r 1 (okJ (m_r 1 (c_r (a := 1) hid (by omega) (by decide) (by decide) hj hj (ix_g (k := 0) (by decide) hj) hQ (fun u1 z1 => ?_)))))
    refine okJ (m_r 2 (okJ (m_r 2 (c_r (a := 2) hid (by omega) (by decide) (by decide) hj hj (ix_g (k := 1) (by decide) hj) z1 (fun u2 z2 => ?_)))))
    refine okJ (m_r 3 (okJ (m_r 3 (c_r (a := 3) hid (by omega) (by decide) (by decide) hj hj (ix_g (k := 2) (by decide) hj) z2 (fun u3 z3 => ?_)))))
    refine okJ (m_r 4 (okJ (m_r 4 (c_r (a := 4) hid (by omega) (by decide) (by decide) hj hj (ix_g (k := 3) (by decide) hj) z3 (fun u4 z4 => ?_)))))
    refine okJ (m_r 5 (okJ (m_r 5 (c_r (a := 5) hid (by omega) (by decide) (by decide) hj hj (ix_g (k := 4) (by decide) hj) z4 (fun u5 z5 => ?_)))))
    refine okJ (m_r 6 (okJ (m_r 6 (c_r (a := 6) hid (by omega) (by decide) (by decide) hj hj (ix_g (k := 5) (by decide) hj) z5 (fun u6 z6 => ?_)))))
    refine okJ (m_r 7 (okJ (m_r 7 (c_r (a := 7) hid (by omega) (by decide) (by decide) hj hj (ix_g (k := 6) (by decide) hj) z6 (fun u7 z7 => ?_)))))
    refine okJ (okR ?_)
    rw [nI_1]
    exact hk u7 () z7
end MK
