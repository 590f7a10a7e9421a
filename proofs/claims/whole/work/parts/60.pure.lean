/-! PURE 60: a statement's end -/
section RJ
variable {d n x k F i : Nat} {τ u : Mm} {bad : Int32} {B : Nat → Int32}
theorem Rd.o {v : Int32} {j : Nat} (H : Rd d n τ u x bad k) (hj : j = 32 ∨ j = 33 ∨ j = 34) {x' : Nat} {bad' : Int32} {k' : Nat} (h32 : nI x' = if 32 = j then v else nI x) (h33 : bad' = if 33 = j then v else bad) (h34 : nI k' = if 34 = j then v else nI k) : Rd d n τ (y2 u.1 0 j v, u.2.1, u.2.2) x' bad' k' := by
  obtain ⟨⟨h0, h1, h2, h3, h4⟩, hf, h5⟩ := H
  have e : ∀ i, y2 u.1 0 j v 0 i = if i = j then v else u.1 0 i := fun i => by
    by_cases q : i = j
    · subst q; rw [y2_s, if_pos rfl]
    · rw [y2_k _ _ q, if_neg q]
  refine ⟨⟨?_, ?_, ?_, ?_, ?_⟩, fun a i q1 q2 q3 q4 => ?_, h5⟩
  · show y2 u.1 0 j v 0 30 = _
    rw [e, if_neg (by omega)]; exact h0
  · show y2 u.1 0 j v 0 31 = _
    rw [e, if_neg (by omega)]; exact h1
  · show y2 u.1 0 j v 0 32 = _
    rw [e, h2, h32]
  · show y2 u.1 0 j v 0 33 = _
    rw [e, h3, h33]
  · show y2 u.1 0 j v 0 34 = _
    rw [e, h4, h34]
  · show y2 u.1 0 j v a i = _
    rw [y2_o _ _ (by omega)]; exact hf a i q1 q2 q3 q4
theorem Rd.b (H : Rd d n τ u x bad k) (b' : Int32) : Rd d n τ (y2 u.1 0 33 b', u.2.1, u.2.2) x b' k := H.o (Or.inr (Or.inl rfl)) (by rw [if_neg (by decide)]) (by rw [if_pos rfl]) (by rw [if_neg (by decide)])
theorem Rd.mv (H : Rd d n τ u x bad k) (x' : Nat) : Rd d n τ (y2 u.1 0 32 (nI x'), u.2.1, u.2.2) x' bad k := H.o (Or.inl rfl) (by rw [if_pos rfl]) (by rw [if_neg (by decide)]) (by rw [if_neg (by decide)])
theorem Rd.st (H : Rd d n τ u x bad k) (k' : Nat) : Rd d n τ (y2 u.1 0 34 (nI k'), u.2.1, u.2.2) x bad k' := H.o (Or.inr (Or.inr rfl)) (by rw [if_neg (by decide)]) (by rw [if_neg (by decide)]) (by rw [if_pos rfl])
theorem m_tail {P : Unit × Mm → Prop} {v : Mm} (hd : d < 8) (hn : n ≤ 100) (hB : RB d τ B) (hx : x < 900) (H : Rd d n τ v x bad k) (h01 : bad = 0 ∨ bad = 1) (hy : bad = 0 → x < n → B x = 59 → ∀ v', Rd d n τ v' (x + 1) 0 (k + 1) → (∀ a i, a = 19 ∨ a = 20 ∨ a = 21 → v'.1 a i = v.1 a i) → P ((), v')) (hno : ¬ (bad = 0 ∧ x < n ∧ B x = 59) → ∀ v', Rd d n τ v' x 1 (k + 1) → P ((), v')) :
  OkO (ob (jgi YM 5 33 v (some 0)) fun x58 => ob ((if x58 = 0 then ob (jk YM 5 (some 0)) fun t => yb (f_M_here F v t ) fun x61 u62 => (if x61 = (59 : Int32) then some ((0 : Int32), u62) else some ((1 : Int32), u62)) else some ((1 : Int32), v)) : Option (Int32 × Mm)) fun q59 => ob (jpz YM 5 33 q59.2 (some 0) q59.1) fun u64 => ob (jgi YM 5 32 u64 (some 0)) fun x65 => ob (jgi YM 5 33 u64 (some 0)) fun x66 => ob ((if x66 = 0 then some (1 : Int32) else some (0 : Int32)) : Option Int32) fun q67 => ob (jpi YM 5 32 u64 (some 0) (x65 + q67)) fun u69 => ob (jgi YM 5 34 u69 (some 0)) fun x70 => ob (jpi YM 5 34 u69 (some 0) (x70 + 1)) fun u71 => some ((), u71)) P := by
  have fin : ∀ b' : Int32, (b' = 0 ∨ b' = 1) → (b' = 0 → bad = 0 ∧ x < n ∧ B x = 59) → (b' = 1 → ¬ (bad = 0 ∧ x < n ∧ B x = 59)) → OkO (ob (jpz YM 5 33 v (some 0) b') fun u64 => ob (jgi YM 5 32 u64 (some 0)) fun x65 => ob (jgi YM 5 33 u64 (some 0)) fun x66 => ob ((if x66 = 0 then some (1 : Int32) else some (0 : Int32)) : Option Int32) fun q67 => ob (jpi YM 5 32 u64 (some 0) (x65 + q67)) fun u69 => ob (jgi YM 5 34 u69 (some 0)) fun x70 => ob (jpi YM 5 34 u69 (some 0) (x70 + 1)) fun u71 => some ((), u71)) P := by
    intro b' hb h0 h1
    have R1 := H.b b'
    refine okJ (okE (x := (y2 v.1 0 33 b', v.2.1, v.2.2)) (by rw [jpz, if_pos hb]; rfl) (okJ (m_x ?_)))
    rw [R1.1.2.2.1]
    refine okJ (m_x ?_)
    rw [R1.1.2.2.2.1]
    rcases hb with rfl | rfl
    · obtain ⟨c1, c2, c3⟩ := h0 rfl
      refine okJ (okT rfl (okR ?_))
      rw [nI_1]
      have R2 := R1.mv (x + 1)
      refine okJ (okR (x := (y2 (y2 v.1 0 33 0) 0 32 (nI (x + 1)), v.2.1, v.2.2)) (okJ (m_x ?_)))
      rw [R2.1.2.2.2.2, nI_1]
      have R3 := R2.st (k + 1)
      refine okJ (okR (x := (y2 (y2 (y2 v.1 0 33 0) 0 32 (nI (x + 1))) 0 34 (nI (k + 1)), v.2.1, v.2.2)) (okR (hy c1 c2 c3 _ R3 (fun a i ha => ?_))))
      show y2 (y2 (y2 v.1 0 33 0) 0 32 (nI (x + 1))) 0 34 (nI (k + 1)) a i = _
      rw [y2_o _ _ (by omega), y2_o _ _ (by omega), y2_o _ _ (by omega)]
    · refine okJ (okF i1n (okR ?_))
      rw [Int32.add_zero]
      have R2 := R1.mv x
      refine okJ (okR (x := (y2 (y2 v.1 0 33 1) 0 32 (nI x), v.2.1, v.2.2)) (okJ (m_x ?_)))
      rw [R2.1.2.2.2.2, nI_1]
      have R3 := R2.st (k + 1)
      exact okJ (okR (x := (y2 (y2 (y2 v.1 0 33 1) 0 32 (nI x)) 0 34 (nI (k + 1)), v.2.1, v.2.2)) (okR (hno (h1 rfl) _ R3)))
  refine okJ (m_x ?_)
  rw [H.1.2.2.2.1]
  rcases h01 with rfl | rfl
  · refine okJ (okT rfl (okJ (m_k (okY (m_here hd hn hB (by omega) H (okI (fun c => okR ?_) (fun c => okR ?_)))))))
    · have c2 := (hV_c (c := 59) hB.1 hn (by decide)).mp c
      exact fin 0 (Or.inl rfl) (fun _ => ⟨rfl, c2⟩) (fun y => absurd y (by decide))
    · exact fin 1 (Or.inr rfl) (fun y => absurd y (by decide)) (fun _ y => c ((hV_c (c := 59) hB.1 hn (by decide)).mpr y.2))
  · exact okJ (okF i1n (okR (fin 1 (Or.inr rfl) (fun y => absurd y (by decide)) (fun _ y => absurd y.1 (by decide)))))
end RJ
