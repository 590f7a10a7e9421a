/-! PURE 57: the reference reads: a byte, a digit -/
theorem h255a : ∀ b, b < 128 → nI b &&& 255 = nI b := by decide +kernel
theorem h255b : ∀ b, b < 128 → (nI b - 128) &&& 255 = nI (b + 128) := by decide +kernel
theorem h255 {v : Int32} (hb : -128 ≤ v ∧ v ≤ 127) : ∃ h, h < 256 ∧ v &&& 255 = nI h ∧ ((h < 128 ∧ v = nI h) ∨ (128 ≤ h ∧ v < 0)) := by
  by_cases c : v < 0
  · have h1 : (v + 128).toInt = v.toInt + 128 := by
      rw [Int32.toInt_add]
      have a1 := Int32.le_iff_toInt_le.mp hb.1
      have a2 := Int32.le_iff_toInt_le.mp hb.2
      rw [show (-128 : Int32).toInt = -128 from rfl] at a1
      rw [show (127 : Int32).toInt = 127 from rfl] at a2
      rw [show (128 : Int32).toInt = 128 from rfl]
      exact Int.bmod_eq_of_le (by omega) (by omega)
    have a1 := Int32.le_iff_toInt_le.mp hb.1
    have a3 := Int32.lt_iff_toInt_lt.mp c
    rw [show (-128 : Int32).toInt = -128 from rfl] at a1
    rw [show (0 : Int32).toInt = 0 from rfl] at a3
    obtain ⟨b, hb2, e⟩ := nI_of2 (x := v + 128) (n := 127) (M := 127) rfl (by rw [Int32.lt_iff_toInt_lt, h1]; rw [show (0 : Int32).toInt = 0 from rfl]; omega) (by rw [Int32.le_iff_toInt_le, h1]; rw [show (127 : Int32).toInt = 127 from rfl]; omega)
    have e2 : v = nI b - 128 := by rw [← e, Int32.add_sub_cancel]
    refine ⟨b + 128, by omega, ?_, Or.inr ⟨by omega, c⟩⟩
    rw [e2]
    exact h255b b (by omega)
  · obtain ⟨b, hb2, rfl⟩ := nI_of2 (n := 127) (M := 127) rfl c hb.2
    exact ⟨b, by omega, h255a b (by omega), Or.inl ⟨by omega, rfl⟩⟩
/-- the byte read there: -1 behind the end -/
def hV (B : Nat → Int32) (n x : Nat) : Int32 := if x < n then B x &&& 255 else -1
def Byt (B : Nat → Int32) : Prop := ∀ x, x < 100 → -128 ≤ B x ∧ B x ≤ 127
theorem hV_c {B : Nat → Int32} {n x c : Nat} (hB : Byt B) (hn : n ≤ 100) (hc : c < 128) : hV B n x = nI c ↔ x < n ∧ B x = nI c := by
  unfold hV
  by_cases q : x < n
  · rw [if_pos q]
    obtain ⟨h, h1, h2, h3⟩ := h255 (hB x (by omega))
    rw [h2]
    rcases h3 with ⟨h4, h5⟩ | ⟨h4, h5⟩
    · rw [h5]; exact ⟨fun y => ⟨q, y⟩, fun y => y.2⟩
    · refine ⟨fun y => ?_, fun y => ?_⟩
      · have := nIi (by omega) (by omega) y; omega
      · rw [y.2] at h5; exact absurd h5 (nI_pos (by omega))
  · rw [if_neg q]
    exact ⟨fun y => absurd (nI_pos (n := c) (by omega)) (fun z => z (by rw [← y]; decide)), fun y => absurd y.1 q⟩
theorem hV_d {B : Nat → Int32} {n x : Nat} (hB : Byt B) (hn : n ≤ 100) : (48 ≤ hV B n x ∧ hV B n x ≤ 57) ↔ dg B n x := by
  unfold hV dg
  by_cases q : x < n
  · rw [if_pos q]
    obtain ⟨h, h1, h2, h3⟩ := h255 (hB x (by omega))
    rw [h2]
    rcases h3 with ⟨h4, h5⟩ | ⟨h4, h5⟩
    · rw [h5]; exact ⟨fun y => ⟨q, y⟩, fun y => y.2⟩
    · refine ⟨fun y => ?_, fun y => ?_⟩
      · exact absurd y.2 (nI_ge (a := 57) (b := h) (by omega) (by omega))
      · exact absurd (xlt h5 (show (0 : Int32) ≤ 48 by decide)) (xnlt.mpr y.2.1)
  · rw [if_neg q]
    exact ⟨fun y => absurd y.1 (by decide), fun y => absurd y.1 q⟩
