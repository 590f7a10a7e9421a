/-! PURE 61: the reference reads a statement -/
def TV (B : Nat → Int32) (n : Nat) (t : Nat → Nat → Int32) (k x : Nat) : Prop :=
  (B x = 103 → ∀ j, j < 4 → t 21 (5 * k + j) = B (x + 1 + j) - 48) ∧ (B x = 112 → ∀ j, j < 5 → t 21 (5 * k + j) = B (x + 1 + j) - 48) ∧ (B x = 99 → t 21 (5 * k) = B (x + 1) - 48) ∧ (B x = 104 → t 21 (5 * k) = B (x + 1) - 48 ∧ t 21 (5 * k + 1) = 10 * (B (x + 1 + 1) - 48) + (B (x + 1 + 2) - 48)) ∧ (B x = 116 → (dg B n (x + 1 + 1) → t 21 (5 * k) = 10 * (B (x + 1) - 48) + (B (x + 1 + 1) - 48)) ∧ (¬ dg B n (x + 1 + 1) → t 21 (5 * k) = B (x + 1) - 48))
def Old (k : Nat) (u u' : Mm) : Prop := (∀ j, j < k → u'.1 19 j = u.1 19 j ∧ u'.1 20 j = u.1 20 j) ∧ ∀ y, y < 5 * k → u'.1 21 y = u.1 21 y
section RK
variable {d n x k F i : Nat} {τ u : Mm} {bad : Int32} {B : Nat → Int32}
theorem m_51 {P : Mm → Prop} {v : Int32} {id : Nat} (hid : id = 19 ∨ id = 20) (hi : k ≤ 50) (h : P (y2 u.1 id k v, u.2.1, u.2.2)) : OkO (jas YM u (some id) (nI k) v) P := okE (as_e (by omega) (by omega) (by rcases hid with rfl | rfl <;> (show k < 51; omega)) (by omega)) h
theorem eV_m {m : Nat} (h : mt B n x = some m) : eV B n x = x + 1 + nd B n (x + 1) m := by unfold eV; rw [h]
theorem mt_l {c : Int32} {m : Nat} (hx : x < n) (hc : B x = c) (hm : ms c = some m) : mt B n x = some m := by unfold mt; rw [if_pos hx, hc, hm]
end RK
