def yR0 : String := "WhoseGlass$Glass"
def yT0 : u_T := fun k => match k with
  | 0 => ("WhoseGlass$Glass", "number", "I", true)
  | 1 => ("WhoseGlass$Glass", "kind", "I", false)
  | 2 => ("WhoseGlass$Glass", "figure", "I", false)
  | 3 => ("WhoseGlass$Glass", "fill", "I", false)
  | 4 => ("WhoseGlass$Glass", "where", "I", false)
  | 5 => ("WhoseGlass$Glass", "laid", "I", false)
  | 6 => ("WhoseGlass$Glass", "sippedBy", "I", false)
  | _ => ("WhoseGlass$Glass", "germs", "Z", false)
def yY0 : Nat → FieldType := fun k => match k with
  | 0 => .int
  | 1 => .int
  | 2 => .int
  | 3 => .int
  | 4 => .int
  | 5 => .int
  | 6 => .int
  | _ => .boolean
theorem yN0 : ∀ a, a < 8 → ∀ b, b < 8 → a ≠ b → (yT0 a).2.1 ≠ (yT0 b).2.1 := by decide +kernel
theorem yO0 : ∀ k, k < 8 → parseFieldDescriptor (yT0 k).2.2.1 = some (yY0 k) := by decide +kernel
def yR1 : String := "WhoseGlass$Guest"
def yT1 : u_T := fun k => match k with
  | 0 => ("WhoseGlass$Guest", "number", "I", true)
  | 1 => ("WhoseGlass$Guest", "pace", "I", false)
  | 2 => ("WhoseGlass$Guest", "lays", "I", false)
  | 3 => ("WhoseGlass$Guest", "step", "I", false)
  | 4 => ("WhoseGlass$Guest", "care", "I", false)
  | 5 => ("WhoseGlass$Guest", "place", "I", false)
  | 6 => ("WhoseGlass$Guest", "holds", "I", false)
  | 7 => ("WhoseGlass$Guest", "own", "I", false)
  | 8 => ("WhoseGlass$Guest", "had", "I", false)
  | _ => ("WhoseGlass$Guest", "cold", "Z", false)
def yY1 : Nat → FieldType := fun k => match k with
  | 0 => .int
  | 1 => .int
  | 2 => .int
  | 3 => .int
  | 4 => .int
  | 5 => .int
  | 6 => .int
  | 7 => .int
  | 8 => .int
  | _ => .boolean
theorem yN1 : ∀ a, a < 10 → ∀ b, b < 10 → a ≠ b → (yT1 a).2.1 ≠ (yT1 b).2.1 := by decide +kernel
theorem yO1 : ∀ k, k < 10 → parseFieldDescriptor (yT1 k).2.2.1 = some (yY1 k) := by decide +kernel
def yR2 : String := "WhoseGlass$House"
def yT2 : u_T := fun k => match k with
  | 0 => ("WhoseGlass$House", "glasses", "[LWhoseGlass$Glass;", true)
  | 1 => ("WhoseGlass$House", "guests", "[LWhoseGlass$Guest;", true)
  | 2 => ("WhoseGlass$House", "glassCount", "I", false)
  | 3 => ("WhoseGlass$House", "guestCount", "I", false)
  | 4 => ("WhoseGlass$House", "tray", "I", false)
  | 5 => ("WhoseGlass$House", "minute", "I", false)
  | 6 => ("WhoseGlass$House", "mistakes", "I", false)
  | 7 => ("WhoseGlass$House", "fresh", "I", false)
  | _ => ("WhoseGlass$House", "leftOut", "I", false)
def yY2 : Nat → FieldType := fun k => match k with
  | 0 => .array (.object "WhoseGlass$Glass")
  | 1 => .array (.object "WhoseGlass$Guest")
  | 2 => .int
  | 3 => .int
  | 4 => .int
  | 5 => .int
  | 6 => .int
  | 7 => .int
  | _ => .int
theorem yN2 : ∀ a, a < 9 → ∀ b, b < 9 → a ≠ b → (yT2 a).2.1 ≠ (yT2 b).2.1 := by decide +kernel
theorem yO2 : ∀ k, k < 9 → parseFieldDescriptor (yT2 k).2.2.1 = some (yY2 k) := by decide +kernel
def yR3 : String := "WhoseGlass$Shelf"
def yT3 : u_T := fun k => match k with
  | 0 => ("WhoseGlass$Shelf", "content", "I", false)
  | 1 => ("WhoseGlass$Shelf", "kind", "I", false)
  | 2 => ("WhoseGlass$Shelf", "figure", "I", false)
  | 3 => ("WhoseGlass$Shelf", "sort", "I", false)
  | 4 => ("WhoseGlass$Shelf", "size", "I", false)
  | _ => ("WhoseGlass$Shelf", "elements", "[I", true)
def yY3 : Nat → FieldType := fun k => match k with
  | 0 => .int
  | 1 => .int
  | 2 => .int
  | 3 => .int
  | 4 => .int
  | _ => .array .int
theorem yN3 : ∀ a, a < 6 → ∀ b, b < 6 → a ≠ b → (yT3 a).2.1 ≠ (yT3 b).2.1 := by decide +kernel
theorem yO3 : ∀ k, k < 6 → parseFieldDescriptor (yT3 k).2.2.1 = some (yY3 k) := by decide +kernel
def yR4 : String := "WhoseGlass"
def yT4 : u_T := fun k => match k with
  | 0 => ("WhoseGlass", "now", "LWhoseGlass$House;", true)
  | 1 => ("WhoseGlass", "mind", "LWhoseGlass$House;", true)
  | 2 => ("WhoseGlass", "picture", "LWhoseGlass$House;", true)
  | 3 => ("WhoseGlass", "pictured", "Z", false)
  | _ => ("WhoseGlass", "shelves", "[LWhoseGlass$Shelf;", true)
def yY4 : Nat → FieldType := fun k => match k with
  | 0 => .object "WhoseGlass$House"
  | 1 => .object "WhoseGlass$House"
  | 2 => .object "WhoseGlass$House"
  | 3 => .boolean
  | _ => .array (.object "WhoseGlass$Shelf")
theorem yN4 : ∀ a, a < 5 → ∀ b, b < 5 → a ≠ b → (yT4 a).2.1 ≠ (yT4 b).2.1 := by decide +kernel
theorem yO4 : ∀ k, k < 5 → parseFieldDescriptor (yT4 k).2.2.1 = some (yY4 k) := by decide +kernel
def yR5 : String := "WhoseGlassModel"
def yT5 : u_T := fun k => match k with
  | 0 => ("WhoseGlassModel", "glasses", "I", false)
  | 1 => ("WhoseGlassModel", "guests", "I", false)
  | 2 => ("WhoseGlassModel", "tray0", "I", false)
  | 3 => ("WhoseGlassModel", "minute", "I", false)
  | 4 => ("WhoseGlassModel", "kinds", "[I", true)
  | 5 => ("WhoseGlassModel", "figures", "[I", true)
  | 6 => ("WhoseGlassModel", "fills", "[I", true)
  | 7 => ("WhoseGlassModel", "wheres", "[I", true)
  | 8 => ("WhoseGlassModel", "laid", "[I", true)
  | 9 => ("WhoseGlassModel", "sips", "[I", true)
  | 10 => ("WhoseGlassModel", "germs", "[I", true)
  | 11 => ("WhoseGlassModel", "paces", "[I", true)
  | 12 => ("WhoseGlassModel", "lays", "[I", true)
  | 13 => ("WhoseGlassModel", "steps", "[I", true)
  | 14 => ("WhoseGlassModel", "cares", "[I", true)
  | 15 => ("WhoseGlassModel", "places", "[I", true)
  | 16 => ("WhoseGlassModel", "holds", "[I", true)
  | 17 => ("WhoseGlassModel", "owns", "[I", true)
  | 18 => ("WhoseGlassModel", "hads", "[I", true)
  | 19 => ("WhoseGlassModel", "cold", "[I", true)
  | 20 => ("WhoseGlassModel", "wrongs", "I", false)
  | 21 => ("WhoseGlassModel", "freshes", "I", false)
  | 22 => ("WhoseGlassModel", "closed", "I", false)
  | 23 => ("WhoseGlassModel", "thrown", "I", false)
  | 24 => ("WhoseGlassModel", "kept", "[I", true)
  | 25 => ("WhoseGlassModel", "imaged", "[I", true)
  | 26 => ("WhoseGlassModel", "hasImage", "Z", false)
  | 27 => ("WhoseGlassModel", "place0", "I", false)
  | 28 => ("WhoseGlassModel", "isTaking", "Z", false)
  | 29 => ("WhoseGlassModel", "keptIn", "[I", false)
  | 30 => ("WhoseGlassModel", "base", "I", false)
  | 31 => ("WhoseGlassModel", "end", "I", false)
  | 32 => ("WhoseGlassModel", "at", "I", false)
  | 33 => ("WhoseGlassModel", "isBad", "Z", false)
  | 34 => ("WhoseGlassModel", "statements", "I", false)
  | 35 => ("WhoseGlassModel", "placeOf", "[I", true)
  | 36 => ("WhoseGlassModel", "letterOf", "[I", true)
  | 37 => ("WhoseGlassModel", "told", "[I", true)
  | 38 => ("WhoseGlassModel", "seed", "I", false)
  | 39 => ("WhoseGlassModel", "holdsWhat", "[I", true)
  | 40 => ("WhoseGlassModel", "keptKind", "[I", true)
  | 41 => ("WhoseGlassModel", "keptFigure", "[I", true)
  | 42 => ("WhoseGlassModel", "rowSort", "[I", true)
  | 43 => ("WhoseGlassModel", "rowMany", "[I", true)
  | 44 => ("WhoseGlassModel", "rows", "[J", true)
  | _ => ("WhoseGlassModel", "between", "[J", true)
def yY5 : Nat → FieldType := fun k => match k with
  | 0 => .int
  | 1 => .int
  | 2 => .int
  | 3 => .int
  | 4 => .array .int
  | 5 => .array .int
  | 6 => .array .int
  | 7 => .array .int
  | 8 => .array .int
  | 9 => .array .int
  | 10 => .array .int
  | 11 => .array .int
  | 12 => .array .int
  | 13 => .array .int
  | 14 => .array .int
  | 15 => .array .int
  | 16 => .array .int
  | 17 => .array .int
  | 18 => .array .int
  | 19 => .array .int
  | 20 => .int
  | 21 => .int
  | 22 => .int
  | 23 => .int
  | 24 => .array .int
  | 25 => .array .int
  | 26 => .boolean
  | 27 => .int
  | 28 => .boolean
  | 29 => .array .int
  | 30 => .int
  | 31 => .int
  | 32 => .int
  | 33 => .boolean
  | 34 => .int
  | 35 => .array .int
  | 36 => .array .int
  | 37 => .array .int
  | 38 => .int
  | 39 => .array .int
  | 40 => .array .int
  | 41 => .array .int
  | 42 => .array .int
  | 43 => .array .int
  | 44 => .array .long
  | _ => .array .long
theorem yN5 : ∀ a, a < 46 → ∀ b, b < 46 → a ≠ b → (yT5 a).2.1 ≠ (yT5 b).2.1 := by decide +kernel
theorem yO5 : ∀ k, k < 46 → parseFieldDescriptor (yT5 k).2.2.1 = some (yY5 k) := by decide +kernel
abbrev yCl : List vw_C := [(yR0, yT0, 8), (yR1, yT1, 10), (yR2, yT2, 9), (yR3, yT3, 6), (yR4, yT4, 5), (yR5, yT5, 46)]
/-- which fields hold references -/
def yRf (ci k : Nat) : Bool := match ci with
  | 2 => k == 0 || k == 1
  | 3 => k == 5
  | 4 => k == 0 || k == 1 || k == 2 || k == 4
  | 5 => (4 ≤ k && k ≤ 19) || k == 24 || k == 25 || k == 29 || (35 ≤ k && k ≤ 37) || (39 ≤ k && k ≤ 45)
  | _ => false
theorem yI0 : ∀ w ∈ u_ws yR0 yT0 8, w ∈ yGW := by
  intro w hw
  obtain ⟨k, hk, rfl⟩ := List.mem_map.mp hw
  have hk := List.mem_range.mp hk
  match k, hk with
  | 0, _ => exact y_i1 62 rfl rfl
  | 1, _ => exact y_i1 64 rfl rfl
  | 2, _ => exact y_i1 66 rfl rfl
  | 3, _ => exact y_i1 68 rfl rfl
  | 4, _ => exact y_i1 70 rfl rfl
  | 5, _ => exact y_i1 72 rfl rfl
  | 6, _ => exact y_i1 74 rfl rfl
  | 7, _ => exact y_i1 76 rfl rfl
  | k + 8, hk => exact absurd hk (by omega)
theorem yI1 : ∀ w ∈ u_ws yR1 yT1 10, w ∈ yGW := by
  intro w hw
  obtain ⟨k, hk, rfl⟩ := List.mem_map.mp hw
  have hk := List.mem_range.mp hk
  match k, hk with
  | 0, _ => exact y_i1 110 rfl rfl
  | 1, _ => exact y_i1 112 rfl rfl
  | 2, _ => exact y_i1 114 rfl rfl
  | 3, _ => exact y_i1 116 rfl rfl
  | 4, _ => exact y_i1 118 rfl rfl
  | 5, _ => exact y_i1 120 rfl rfl
  | 6, _ => exact y_i1 122 rfl rfl
  | 7, _ => exact y_i1 124 rfl rfl
  | 8, _ => exact y_i1 126 rfl rfl
  | 9, _ => exact y_i1 128 rfl rfl
  | k + 10, hk => exact absurd hk (by omega)
theorem yI2 : ∀ w ∈ u_ws yR2 yT2 9, w ∈ yGW := by
  intro w hw
  obtain ⟨k, hk, rfl⟩ := List.mem_map.mp hw
  have hk := List.mem_range.mp hk
  match k, hk with
  | 0, _ => exact y_i1 149 rfl rfl
  | 1, _ => exact y_i1 151 rfl rfl
  | 2, _ => exact y_i1 153 rfl rfl
  | 3, _ => exact y_i1 155 rfl rfl
  | 4, _ => exact y_i1 157 rfl rfl
  | 5, _ => exact y_i1 159 rfl rfl
  | 6, _ => exact y_i1 161 rfl rfl
  | 7, _ => exact y_i1 163 rfl rfl
  | 8, _ => exact y_i1 165 rfl rfl
  | k + 9, hk => exact absurd hk (by omega)
theorem yI3 : ∀ w ∈ u_ws yR3 yT3 6, w ∈ yGW := by
  intro w hw
  obtain ⟨k, hk, rfl⟩ := List.mem_map.mp hw
  have hk := List.mem_range.mp hk
  match k, hk with
  | 0, _ => exact y_i1 188 rfl rfl
  | 1, _ => exact y_i1 190 rfl rfl
  | 2, _ => exact y_i1 192 rfl rfl
  | 3, _ => exact y_i1 194 rfl rfl
  | 4, _ => exact y_i1 196 rfl rfl
  | 5, _ => exact y_i1 198 rfl rfl
  | k + 6, hk => exact absurd hk (by omega)
theorem yI4 : ∀ w ∈ u_ws yR4 yT4 5, w ∈ yGW := by
  intro w hw
  obtain ⟨k, hk, rfl⟩ := List.mem_map.mp hw
  have hk := List.mem_range.mp hk
  match k, hk with
  | 0, _ => exact y_i1 207 rfl rfl
  | 1, _ => exact y_i1 209 rfl rfl
  | 2, _ => exact y_i1 211 rfl rfl
  | 3, _ => exact y_i1 213 rfl rfl
  | 4, _ => exact y_i1 215 rfl rfl
  | k + 5, hk => exact absurd hk (by omega)
theorem yI5 : ∀ w ∈ u_ws yR5 yT5 46, w ∈ yGW := by
  intro w hw
  obtain ⟨k, hk, rfl⟩ := List.mem_map.mp hw
  have hk := List.mem_range.mp hk
  match k, hk with
  | 0, _ => exact y_i4 110 rfl rfl
  | 1, _ => exact y_i4 112 rfl rfl
  | 2, _ => exact y_i4 114 rfl rfl
  | 3, _ => exact y_i4 116 rfl rfl
  | 4, _ => exact y_i4 118 rfl rfl
  | 5, _ => exact y_i4 120 rfl rfl
  | 6, _ => exact y_i4 122 rfl rfl
  | 7, _ => exact y_i4 124 rfl rfl
  | 8, _ => exact y_i4 126 rfl rfl
  | 9, _ => exact y_i4 128 rfl rfl
  | 10, _ => exact y_i4 130 rfl rfl
  | 11, _ => exact y_i4 132 rfl rfl
  | 12, _ => exact y_i4 134 rfl rfl
  | 13, _ => exact y_i4 136 rfl rfl
  | 14, _ => exact y_i4 138 rfl rfl
  | 15, _ => exact y_i4 140 rfl rfl
  | 16, _ => exact y_i4 142 rfl rfl
  | 17, _ => exact y_i4 144 rfl rfl
  | 18, _ => exact y_i4 146 rfl rfl
  | 19, _ => exact y_i4 148 rfl rfl
  | 20, _ => exact y_i4 150 rfl rfl
  | 21, _ => exact y_i4 152 rfl rfl
  | 22, _ => exact y_i4 154 rfl rfl
  | 23, _ => exact y_i4 156 rfl rfl
  | 24, _ => exact y_i4 158 rfl rfl
  | 25, _ => exact y_i4 160 rfl rfl
  | 26, _ => exact y_i4 162 rfl rfl
  | 27, _ => exact y_i4 164 rfl rfl
  | 28, _ => exact y_i4 166 rfl rfl
  | 29, _ => exact y_i4 168 rfl rfl
  | 30, _ => exact y_i4 170 rfl rfl
  | 31, _ => exact y_i4 172 rfl rfl
  | 32, _ => exact y_i4 174 rfl rfl
  | 33, _ => exact y_i4 176 rfl rfl
  | 34, _ => exact y_i4 178 rfl rfl
  | 35, _ => exact y_i4 180 rfl rfl
  | 36, _ => exact y_i4 182 rfl rfl
  | 37, _ => exact y_i4 184 rfl rfl
  | 38, _ => exact y_i4 186 rfl rfl
  | 39, _ => exact y_i4 188 rfl rfl
  | 40, _ => exact y_i4 190 rfl rfl
  | 41, _ => exact y_i4 192 rfl rfl
  | 42, _ => exact y_i4 194 rfl rfl
  | 43, _ => exact y_i4 196 rfl rfl
  | 44, _ => exact y_i4 198 rfl rfl
  | 45, _ => exact y_i4 200 rfl rfl
  | k + 46, hk => exact absurd hk (by omega)
def yNf (ci : Nat) : Nat := match ci with
  | 0 => 8
  | 1 => 10
  | 2 => 9
  | 3 => 6
  | 4 => 5
  | _ => 46
theorem yCls {ci : Nat} {q : vw_C} (hc : yCl[ci]? = some q) : (∀ w ∈ u_ws q.1 q.2.1 q.2.2, w ∈ yGW) ∧ (∃ ty : Nat → FieldType, ∀ k, k < q.2.2 → parseFieldDescriptor (q.2.1 k).2.2.1 = some (ty k)) ∧ (∀ a, a < q.2.2 → ∀ b, b < q.2.2 → a ≠ b → (q.2.1 a).2.1 ≠ (q.2.1 b).2.1) ∧ q.2.2 = yNf ci ∧ ci < 6 := by
  match ci, hc with
  | 0, hc => cases hc; exact ⟨yI0, ⟨yY0, yO0⟩, yN0, rfl, by decide⟩
  | 1, hc => cases hc; exact ⟨yI1, ⟨yY1, yO1⟩, yN1, rfl, by decide⟩
  | 2, hc => cases hc; exact ⟨yI2, ⟨yY2, yO2⟩, yN2, rfl, by decide⟩
  | 3, hc => cases hc; exact ⟨yI3, ⟨yY3, yO3⟩, yN3, rfl, by decide⟩
  | 4, hc => cases hc; exact ⟨yI4, ⟨yY4, yO4⟩, yN4, rfl, by decide⟩
  | 5, hc => cases hc; exact ⟨yI5, ⟨yY5, yO5⟩, yN5, rfl, by decide⟩
  | n + 6, hc => simp at hc
/-! THE WORLD OF A SYSTEM -/
/-- a system's memory: ints and longs by cell and place; the one reference that moves -/
abbrev Mm : Type := (Nat → Nat → Int32) × (Nat → Nat → Int64) × Option Nat
/-- a system: how many cells, the kind of each (below 6 a class; 6 ints, 7 longs, 8 and on references), the lengths, the references that stay -/
abbrev Sy : Type := Nat × (Nat → Nat) × (Nat → Nat) × (Nat → Nat → Option Nat)
/-- where it lies: the addresses, the classes' numbers and slots, the arrays' classes -/
abbrev WP : Type := (Nat → Nat) × va_G × (Nat → ClassId)
def yV (Y : Sy) (w : WP) (μ : Mm) (id ci k : Nat) : Value := if yRf ci k = true then va_re w.1 (if ci = 5 ∧ k = 29 then μ.2.2 else Y.2.2.2 id k) else .int (μ.1 id k)
def yF (Y : Sy) (w : WP) (μ : Mm) (id ci n : Nat) : List Value := (List.range n).map (yV Y w μ id ci)
def yC (Y : Sy) (w : WP) (μ : Mm) (id : Nat) : va_E :=
  if Y.2.1 id < 6 then .inr (Y.2.1 id, yF Y w μ id (Y.2.1 id) (yNf (Y.2.1 id)))
  else if Y.2.1 id = 6 then .inl (w.2.2 0, Y.2.2.1 id, .inl (μ.1 id))
  else if Y.2.1 id = 7 then .inl (w.2.2 1, Y.2.2.1 id, .inr (.inl (μ.2.1 id)))
  else .inl (w.2.2 (Y.2.1 id - 6), Y.2.2.1 id, .inr (.inr (.inr (.inr (fun j => (Y.2.2.2 id j).map w.1)))))
def yW (Y : Sy) (w : WP) (μ : Mm) : va_W := (List.range Y.1).map (fun k => (w.1 k, yC Y w μ k))
theorem yW_at {Y : Sy} {w : WP} {μ : Mm} {k : Nat} (h : k < Y.1) : (yW Y w μ)[k]? = some (w.1 k, yC Y w μ k) := by simp [yW, h]
theorem yW_set {Y : Sy} {w : WP} {μ μ' : Mm} {id : Nat} {e : va_E} (h : id < Y.1) (he : yC Y w μ' id = e) (ho : ∀ k, k ≠ id → yC Y w μ' k = yC Y w μ k) : (yW Y w μ).set id (w.1 id, e) = yW Y w μ' := by
  have hlen : ∀ μ0 : Mm, (yW Y w μ0).length = Y.1 := fun μ0 => by simp [yW]
  apply List.ext_getElem?
  intro k
  by_cases hk : k = id
  · subst hk
    rw [List.getElem?_set_self (by rw [hlen]; exact h), yW_at h, he]
  · rw [List.getElem?_set_ne (Ne.symm hk)]
    by_cases h2 : k < Y.1
    · rw [yW_at h2, yW_at h2, ho k hk]
    · rw [List.getElem?_eq_none (by rw [hlen]; omega), List.getElem?_eq_none (by rw [hlen]; omega)]
def yTys (w : WP) : List (ClassId × FieldType) := [(w.2.2 0, .int), (w.2.2 1, .long), (w.2.2 2, .object "WhoseGlass$Glass"), (w.2.2 3, .object "WhoseGlass$Guest"), (w.2.2 4, .object "WhoseGlass$Shelf")]
def yA (Y : Sy) (w : WP) : Nat → Prop := fun q => ∃ k, k < Y.1 ∧ q = w.1 k
def yInj (Y : Sy) (w : WP) : Prop := ∀ i j, i < Y.1 → j < Y.1 → w.1 i = w.1 j → i = j
/-- the links between nest mates -/
def yNst : List Cond := [.methodLinkNest "WhoseGlass" 28 ⟨"WhoseGlass$Shelf", "<init>", "()V"⟩ "WhoseGlass", .methodLinkNest "WhoseGlass$House" 77 ⟨"WhoseGlass", "isMultiple", "(II)Z"⟩ "WhoseGlass", .methodLinkNest "WhoseGlass$HouseText" 76 ⟨"WhoseGlass", "isBelow", "(II)Z"⟩ "WhoseGlass"]
def yNs (U : State) : Prop := ∀ x ∈ yNst, va_Nw x U
theorem yD {Y : Sy} {w : WP} {μ : Mm} (h : yInj Y w) : va_D (yA Y w) (yW Y w μ) := by
  have hlen : (yW Y w μ).length = Y.1 := by simp [yW]
  have key : ∀ (i : Nat) (p : Nat × va_E), (yW Y w μ)[i]? = some p → i < Y.1 ∧ p.1 = w.1 i := by
    intro i p hp
    have hi : i < Y.1 := by rw [← hlen]; exact (List.getElem?_eq_some_iff.mp hp).1
    rw [yW_at hi] at hp
    cases hp
    exact ⟨hi, rfl⟩
  refine ⟨fun i j p q hp hq hpq => ?_, fun k q hq => ?_⟩
  · obtain ⟨h1, h2⟩ := key i p hp
    obtain ⟨h3, h4⟩ := key j q hq
    exact h i j h1 h3 (by rw [← h2, ← h4, hpq])
  · obtain ⟨h1, h2⟩ := key k q hq
    exact ⟨k, h1, h2⟩
/-! THE PURE STEPS: what may fail is an Option -/
def ob {α β : Type} (o : Option α) (K : α → Option β) : Option β := match o with
  | none => none
  | some x => K x
/-- behind a call: its answer and the memory -/
def yb {α β : Type} (o : Option (α × Mm)) (K : α → Mm → Option β) : Option β := match o with
  | none => none
  | some q => K q.1 q.2
theorem ob_s {α β : Type} (x : α) (K : α → Option β) : ob (some x) K = K x := rfl
theorem ob_n {α β : Type} (K : α → Option β) : ob none K = none := rfl
theorem yb_s {α β : Type} (x : α) (μ : Mm) (K : α → Mm → Option β) : yb (some (x, μ)) K = K x μ := rfl
theorem ob_e {α β : Type} {o : Option α} {K : α → Option β} {z : β} (h : ob o K = some z) : ∃ x, o = some x ∧ K x = some z := by
  cases o with
  | none => cases h
  | some x => exact ⟨x, rfl, h⟩
theorem yb_e {α β : Type} {o : Option (α × Mm)} {K : α → Mm → Option β} {z : β} (h : yb o K = some z) : ∃ q, o = some q ∧ K q.1 q.2 = some z := by
  cases o with
  | none => cases h
  | some x => exact ⟨x, rfl, h⟩
def y2 {α : Type} (f : Nat → Nat → α) (a b : Nat) (v : α) : Nat → Nat → α := fun i j => if j = b ∧ i = a then v else f i j
def jk (Y : Sy) (ci : Nat) (r : Option Nat) : Option Nat := ob r fun id => if id < Y.1 ∧ Y.2.1 id = ci then some id else none
def jgi (Y : Sy) (ci k : Nat) (μ : Mm) (r : Option Nat) : Option Int32 := ob (jk Y ci r) fun id => some (μ.1 id k)
def jgr (Y : Sy) (ci k : Nat) (r : Option Nat) : Option (Option Nat) := ob (jk Y ci r) fun id => some (Y.2.2.2 id k)
def jgk (Y : Sy) (μ : Mm) (r : Option Nat) : Option (Option Nat) := ob (jk Y 5 r) fun _ => some μ.2.2
def jpi (Y : Sy) (ci k : Nat) (μ : Mm) (r : Option Nat) (v : Int32) : Option Mm := ob (jk Y ci r) fun id => some (y2 μ.1 id k v, μ.2.1, μ.2.2)
def jpz (Y : Sy) (ci k : Nat) (μ : Mm) (r : Option Nat) (v : Int32) : Option Mm := if v = 0 ∨ v = 1 then jpi Y ci k μ r v else none
def jpk (Y : Sy) (μ : Mm) (r : Option Nat) (v : Option Nat) : Option Mm := ob (jk Y 5 r) fun _ => some (μ.1, μ.2.1, v)
def jin (n : Nat) (i : Int32) : Option Nat := if 0 ≤ i ∧ i.toNatClampNeg < n then some i.toNatClampNeg else none
def jal (Y : Sy) (μ : Mm) (r : Option Nat) (i : Int32) : Option Int32 := ob (jk Y 6 r) fun id => ob (jin (Y.2.2.1 id) i) fun j => some (μ.1 id j)
def jas (Y : Sy) (μ : Mm) (r : Option Nat) (i v : Int32) : Option Mm := ob (jk Y 6 r) fun id => ob (jin (Y.2.2.1 id) i) fun j => some (y2 μ.1 id j v, μ.2.1, μ.2.2)
def jll (Y : Sy) (μ : Mm) (r : Option Nat) (i : Int32) : Option Int64 := ob (jk Y 7 r) fun id => ob (jin (Y.2.2.1 id) i) fun j => some (μ.2.1 id j)
def jls (Y : Sy) (μ : Mm) (r : Option Nat) (i : Int32) (v : Int64) : Option Mm := ob (jk Y 7 r) fun id => ob (jin (Y.2.2.1 id) i) fun j => some (μ.1, y2 μ.2.1 id j v, μ.2.2)
def jaa (Y : Sy) (ki : Nat) (r : Option Nat) (i : Int32) : Option (Option Nat) := ob (jk Y ki r) fun id => ob (jin (Y.2.2.1 id) i) fun j => some (Y.2.2.2 id j)
def jln (Y : Sy) (ki : Nat) (r : Option Nat) : Option Int32 := ob (jk Y ki r) fun id => some (nI (Y.2.2.1 id))
def jdv (x y : Int32) : Option Int32 := if y = 0 then none else some (x / y)
def jrm (x y : Int32) : Option Int32 := if y = 0 then none else some (x - x / y * y)
def jz (v : Int32) : Option Int32 := if v = 0 ∨ v = 1 then some v else none
theorem jk_e {Y : Sy} {ci : Nat} {r : Option Nat} {id : Nat} (h : jk Y ci r = some id) : r = some id ∧ id < Y.1 ∧ Y.2.1 id = ci := by
  obtain ⟨x, hx, h2⟩ := ob_e h
  subst hx
  by_cases hc : x < Y.1 ∧ Y.2.1 x = ci
  · rw [if_pos hc] at h2; cases h2; exact ⟨rfl, hc⟩
  · rw [if_neg hc] at h2; cases h2
theorem jin_e {n j : Nat} {i : Int32} (h : jin n i = some j) : vp_in i n ∧ j = i.toNatClampNeg ∧ j < n := by
  unfold jin at h
  by_cases hc : 0 ≤ i ∧ i.toNatClampNeg < n
  · rw [if_pos hc] at h; cases h
    exact ⟨fun q => q.elim (fun q => absurd hc.1 (Int32.not_le.mpr q)) (fun q => absurd hc.2 (Nat.not_lt.mpr q)), rfl, hc.2⟩
  · rw [if_neg hc] at h; cases h
theorem y_cat (a : Nat → Nat) (r : Option Nat) : (va_re a r).category = 1 := by cases r <;> rfl
/-! THE JUDGEMENT: from the machine at pc, with these locals, this stack, the system's cells holding μ, Q is reached -/
def yX (p : Program) (e : Env) (R : Room) (s : State) (m : MethodId) (args : Array Value) (c : Code) (Y : Sy) (w : WP) (nL : Nat) (cc : ByteArray) (own : String) : Prop :=
  p.tables.exec = Jvm.exec ∧ c.code = cc ∧ c.maxLocals = nL ∧ s.vm.findClass own = some m.cls ∧ (∀ w ∈ yGW, w.before args s = true) ∧ va_K w.2.1 yCl (yTys w) s ∧ yInj Y w ∧ yNs s
def yG (p : Program) (l : Launch) (e : Env) (R : Room) (s : State) (m : MethodId) (args : Array Value) (below : List Frame) (meth : Method) (c : Code) (Y : Sy) (w : WP) (nL : Nat) (Q : State → Prop) (μ : Mm) (pc : Nat) (lv : List (Nat × Value)) (st : List Value) : Prop :=
  ∀ (H : Heap) (locs : List Loc) (ls : Array Slot), lv_has ls nL lv → va_P w.2.1 yCl (yW Y w μ) H → va_S (yA Y w) s.heap H locs → W p l e R s m args below meth c H locs 0 0 Q (F0 m pc ls st)
/-! contracts -/
def yB (Y : Sy) (w : WP) (μ : Mm) (U : State) : Prop := va_P w.2.1 yCl (yW Y w μ) U.heap ∧ va_K w.2.1 yCl (yTys w) U ∧ yInj Y w ∧ yNs U
def yQ {ρ : Type} (Y : Sy) (w : WP) (f : ρ → Option Value) (out : ρ × Mm) : Array Value → State → Outcome → State → Prop := fun _ st oc t => oc = .returned (f out.1) ∧ va_P w.2.1 yCl (yW Y w out.2) t.heap ∧ va_F (yA Y w) st t
def yMet {ρ : Type} (l : Launch) (y : MethodName) (ws : List Cond) (rm : Room) (Y : Sy) (w : WP) (μ : Mm) (As : List Value) (f : ρ → Option Value) (out : ρ × Mm) : Prop := Met l y ws rm (va_Pc As (yB Y w μ)) (yQ Y w f out) 0 0 (yA Y w)
def yfi (x : Int32) : Option Value := some (.int x)
def yfl (x : Int64) : Option Value := some (.long x)
def yfr (w : WP) (r : Option Nat) : Option Value := some (va_re w.1 r)
def yfv (_ : Unit) : Option Value := none
theorem yNs.calling {U : State} {g : JFrame} {mk : MethodId} {a : Array Value} (h : yNs U) : yNs (U.calling g mk a) := fun x hx => by
  have h1 := h x hx
  have hW : U.vm.Alike U.vm := Vm.Alike.refl U.vm
  simp only [yNst, List.mem_cons, List.not_mem_nil, or_false] at hx
  rcases hx with rfl | rfl | rfl <;> exact h1
theorem yNs.warm {s U : State} (hW : s.WarmedH U.vm) (h : yNs s) : yNs U := fun x hx => by
  have h1 := h x hx
  simp only [yNst, List.mem_cons, List.not_mem_nil, or_false] at hx
  rcases hx with rfl | rfl | rfl <;> exact va_Nw.warmM hW h1
section YR
variable {p : Program} {l : Launch} {e : Env} {R : Room} {s : State} {m : MethodId} {args : Array Value} {below : List Frame} {meth : Method} {c : Code} {Y : Sy} {w : WP} {nL : Nat} {Q : State → Prop} {cc : ByteArray} {own : String}
variable {μ : Mm} {pc : Nat} {lv : List (Nat × Value)} {st : List Value}

theorem y_iconst (C : yX p e R s m args c Y w nL cc own) {n : Int} {v : Int32} (hdg : decode cc pc = .ok (.iconst n, 1)) (hv : Int32.ofInt n = v) (k : yG p l e R s m args below meth c Y w nL Q μ (pc + 1) lv (.int v :: st)) : yG p l e R s m args below meth c Y w nL Q μ (pc) lv (st) := fun H locs ls h1 h2 h3 => lv_iconst C.1 C.2.1 hdg hv (k H locs ls h1 h2 h3)
theorem y_bipush (C : yX p e R s m args c Y w nL cc own) {n : Int} {v : Int32} (hdg : decode cc pc = .ok (.bipush n, 2)) (hv : (Int8.ofInt n).toInt32 = v) (k : yG p l e R s m args below meth c Y w nL Q μ (pc + 2) lv (.int v :: st)) : yG p l e R s m args below meth c Y w nL Q μ (pc) lv (st) := fun H locs ls h1 h2 h3 => lv_bipush C.1 C.2.1 hdg hv (k H locs ls h1 h2 h3)
theorem y_sipush (C : yX p e R s m args c Y w nL cc own) {n : Int} {v : Int32} (hdg : decode cc pc = .ok (.sipush n, 3)) (hv : (Int16.ofInt n).toInt32 = v) (k : yG p l e R s m args below meth c Y w nL Q μ (pc + 3) lv (.int v :: st)) : yG p l e R s m args below meth c Y w nL Q μ (pc) lv (st) := fun H locs ls h1 h2 h3 => lv_sipush C.1 C.2.1 hdg hv (k H locs ls h1 h2 h3)
theorem y_lconst (C : yX p e R s m args c Y w nL cc own) {n : Fin 2} {v : Int64} (hdg : decode cc pc = .ok (.lconst n, 1)) (hv : Int64.ofNat (n : Nat) = v) (k : yG p l e R s m args below meth c Y w nL Q μ (pc + 1) lv (.long v :: st)) : yG p l e R s m args below meth c Y w nL Q μ (pc) lv (st) := fun H locs ls h1 h2 h3 => lv_lconst C.1 C.2.1 hdg hv (k H locs ls h1 h2 h3)
theorem y_iload_n (C : yX p e R s m args c Y w nL cc own) {k : Fin 4} {i : Nat} {x : Int32} (j : Nat) (hdg : decode cc pc = .ok (.iload_n k, 1)) (hi : (k : Nat) = i) (hj : lv[j]? = some (i, .int x)) (kk : yG p l e R s m args below meth c Y w nL Q μ (pc + 1) lv (.int x :: st)) : yG p l e R s m args below meth c Y w nL Q μ (pc) lv (st) := fun H locs ls h1 h2 h3 => lv_iload_n C.1 C.2.1 hdg hi (lv_at h1 j hj) (kk H locs ls h1 h2 h3)
theorem y_iload (C : yX p e R s m args c Y w nL cc own) {i : Nat} {x : Int32} (j : Nat) (hdg : decode cc pc = .ok (.iload i, 2)) (hj : lv[j]? = some (i, .int x)) (kk : yG p l e R s m args below meth c Y w nL Q μ (pc + 2) lv (.int x :: st)) : yG p l e R s m args below meth c Y w nL Q μ (pc) lv (st) := fun H locs ls h1 h2 h3 => lv_iload C.1 C.2.1 hdg (lv_at h1 j hj) (kk H locs ls h1 h2 h3)
theorem y_lload_n (C : yX p e R s m args c Y w nL cc own) {k : Fin 4} {i : Nat} {x : Int64} (j : Nat) (hdg : decode cc pc = .ok (.lload_n k, 1)) (hi : (k : Nat) = i) (hj : lv[j]? = some (i, .long x)) (kk : yG p l e R s m args below meth c Y w nL Q μ (pc + 1) lv (.long x :: st)) : yG p l e R s m args below meth c Y w nL Q μ (pc) lv (st) := fun H locs ls h1 h2 h3 => lv_lload_n C.1 C.2.1 hdg hi (lv_at h1 j hj) (kk H locs ls h1 h2 h3)
theorem y_lload (C : yX p e R s m args c Y w nL cc own) {i : Nat} {x : Int64} (j : Nat) (hdg : decode cc pc = .ok (.lload i, 2)) (hj : lv[j]? = some (i, .long x)) (kk : yG p l e R s m args below meth c Y w nL Q μ (pc + 2) lv (.long x :: st)) : yG p l e R s m args below meth c Y w nL Q μ (pc) lv (st) := fun H locs ls h1 h2 h3 => lv_lload C.1 C.2.1 hdg (lv_at h1 j hj) (kk H locs ls h1 h2 h3)
theorem y_aload_n (C : yX p e R s m args c Y w nL cc own) {k : Fin 4} {i : Nat} {r : Option Nat} (j : Nat) (hdg : decode cc pc = .ok (.aload_n k, 1)) (hi : (k : Nat) = i) (hj : lv[j]? = some (i, va_re w.1 r)) (kk : yG p l e R s m args below meth c Y w nL Q μ (pc + 1) lv (va_re w.1 r :: st)) : yG p l e R s m args below meth c Y w nL Q μ (pc) lv (st) := by
  intro H locs ls h1 h2 h3
  cases r with
  | none => exact lv_aload_nN C.1 C.2.1 hdg hi (lv_at h1 j hj) (kk H locs ls h1 h2 h3)
  | some z => exact lv_aload_n C.1 C.2.1 hdg hi (lv_at h1 j hj) (kk H locs ls h1 h2 h3)
theorem y_aload (C : yX p e R s m args c Y w nL cc own) {i : Nat} {r : Option Nat} (j : Nat) (hdg : decode cc pc = .ok (.aload i, 2)) (hj : lv[j]? = some (i, va_re w.1 r)) (kk : yG p l e R s m args below meth c Y w nL Q μ (pc + 2) lv (va_re w.1 r :: st)) : yG p l e R s m args below meth c Y w nL Q μ (pc) lv (st) := by
  intro H locs ls h1 h2 h3
  cases r with
  | none => exact lv_aloadN C.1 C.2.1 hdg (lv_at h1 j hj) (kk H locs ls h1 h2 h3)
  | some z => exact lv_aload C.1 C.2.1 hdg (lv_at h1 j hj) (kk H locs ls h1 h2 h3)
theorem y_istore_n (C : yX p e R s m args c Y w nL cc own) {k : Fin 4} {i : Nat} {v : Int32} {lvp : List (Nat × Value)} (hdg : decode cc pc = .ok (.istore_n k, 1)) (hi : (k : Nat) = i) (hn : i < nL) (hl : lv.filter (fun q => !(q.1 == i) && !(q.1 + 1 == i && q.2.category == 2)) = lvp) (kk : yG p l e R s m args below meth c Y w nL Q μ (pc + 1) ((i, .int v) :: lvp) (st)) : yG p l e R s m args below meth c Y w nL Q μ (pc) lv (.int v :: st) := fun H locs ls h1 h2 h3 => lv_istore_n C.1 C.2.1 hdg hi h1 hn (congrArg (List.cons (i, .int v)) hl) (fun ls2 h4 => kk H locs ls2 h4 h2 h3)
theorem y_istore_nB (C : yX p e R s m args c Y w nL cc own) {k : Fin 4} {i : Nat} {v : Int32} {lvp : List (Nat × Value)} {ρ : Type} {K : Int32 → Option ρ} {out : ρ} (hdg : decode cc pc = .ok (.istore_n k, 1)) (hi : (k : Nat) = i) (hn : i < nL) (hl : lv.filter (fun q => !(q.1 == i) && !(q.1 + 1 == i && q.2.category == 2)) = lvp) (h : ob (some v) K = some out) (kk : ∀ v : Int32, K v = some out → yG p l e R s m args below meth c Y w nL Q μ (pc + 1) ((i, .int v) :: lvp) (st)) : yG p l e R s m args below meth c Y w nL Q μ (pc) lv (.int v :: st) := y_istore_n C hdg hi hn hl (kk v h)
theorem y_istore (C : yX p e R s m args c Y w nL cc own) {i : Nat} {v : Int32} {lvp : List (Nat × Value)} (hdg : decode cc pc = .ok (.istore i, 2)) (hn : i < nL) (hl : lv.filter (fun q => !(q.1 == i) && !(q.1 + 1 == i && q.2.category == 2)) = lvp) (kk : yG p l e R s m args below meth c Y w nL Q μ (pc + 2) ((i, .int v) :: lvp) (st)) : yG p l e R s m args below meth c Y w nL Q μ (pc) lv (.int v :: st) := fun H locs ls h1 h2 h3 => lv_istore C.1 C.2.1 hdg h1 hn (congrArg (List.cons (i, .int v)) hl) (fun ls2 h4 => kk H locs ls2 h4 h2 h3)
theorem y_istoreB (C : yX p e R s m args c Y w nL cc own) {i : Nat} {v : Int32} {lvp : List (Nat × Value)} {ρ : Type} {K : Int32 → Option ρ} {out : ρ} (hdg : decode cc pc = .ok (.istore i, 2)) (hn : i < nL) (hl : lv.filter (fun q => !(q.1 == i) && !(q.1 + 1 == i && q.2.category == 2)) = lvp) (h : ob (some v) K = some out) (kk : ∀ v : Int32, K v = some out → yG p l e R s m args below meth c Y w nL Q μ (pc + 2) ((i, .int v) :: lvp) (st)) : yG p l e R s m args below meth c Y w nL Q μ (pc) lv (.int v :: st) := y_istore C hdg hn hl (kk v h)
theorem y_lstore_n (C : yX p e R s m args c Y w nL cc own) {k : Fin 4} {i : Nat} {v : Int64} {lvp : List (Nat × Value)} (hdg : decode cc pc = .ok (.lstore_n k, 1)) (hi : (k : Nat) = i) (hn : i + 1 < nL) (hl : lv.filter (fun q => !(q.1 == i) && (!(q.1 == i + 1) && !(q.1 + 1 == i && q.2.category == 2))) = lvp) (kk : yG p l e R s m args below meth c Y w nL Q μ (pc + 1) ((i, .long v) :: lvp) (st)) : yG p l e R s m args below meth c Y w nL Q μ (pc) lv (.long v :: st) := fun H locs ls h1 h2 h3 => lv_lstore_n C.1 C.2.1 hdg hi h1 hn (congrArg (List.cons (i, .long v)) hl) (fun ls2 h4 => kk H locs ls2 h4 h2 h3)
theorem y_lstore_nB (C : yX p e R s m args c Y w nL cc own) {k : Fin 4} {i : Nat} {v : Int64} {lvp : List (Nat × Value)} {ρ : Type} {K : Int64 → Option ρ} {out : ρ} (hdg : decode cc pc = .ok (.lstore_n k, 1)) (hi : (k : Nat) = i) (hn : i + 1 < nL) (hl : lv.filter (fun q => !(q.1 == i) && (!(q.1 == i + 1) && !(q.1 + 1 == i && q.2.category == 2))) = lvp) (h : ob (some v) K = some out) (kk : ∀ v : Int64, K v = some out → yG p l e R s m args below meth c Y w nL Q μ (pc + 1) ((i, .long v) :: lvp) (st)) : yG p l e R s m args below meth c Y w nL Q μ (pc) lv (.long v :: st) := y_lstore_n C hdg hi hn hl (kk v h)
theorem y_lstore (C : yX p e R s m args c Y w nL cc own) {i : Nat} {v : Int64} {lvp : List (Nat × Value)} (hdg : decode cc pc = .ok (.lstore i, 2)) (hn : i + 1 < nL) (hl : lv.filter (fun q => !(q.1 == i) && (!(q.1 == i + 1) && !(q.1 + 1 == i && q.2.category == 2))) = lvp) (kk : yG p l e R s m args below meth c Y w nL Q μ (pc + 2) ((i, .long v) :: lvp) (st)) : yG p l e R s m args below meth c Y w nL Q μ (pc) lv (.long v :: st) := fun H locs ls h1 h2 h3 => lv_lstore C.1 C.2.1 hdg h1 hn (congrArg (List.cons (i, .long v)) hl) (fun ls2 h4 => kk H locs ls2 h4 h2 h3)
theorem y_lstoreB (C : yX p e R s m args c Y w nL cc own) {i : Nat} {v : Int64} {lvp : List (Nat × Value)} {ρ : Type} {K : Int64 → Option ρ} {out : ρ} (hdg : decode cc pc = .ok (.lstore i, 2)) (hn : i + 1 < nL) (hl : lv.filter (fun q => !(q.1 == i) && (!(q.1 == i + 1) && !(q.1 + 1 == i && q.2.category == 2))) = lvp) (h : ob (some v) K = some out) (kk : ∀ v : Int64, K v = some out → yG p l e R s m args below meth c Y w nL Q μ (pc + 2) ((i, .long v) :: lvp) (st)) : yG p l e R s m args below meth c Y w nL Q μ (pc) lv (.long v :: st) := y_lstore C hdg hn hl (kk v h)
theorem y_astore_n (C : yX p e R s m args c Y w nL cc own) {k : Fin 4} {i : Nat} {r : Option Nat} {lvp : List (Nat × Value)} (hdg : decode cc pc = .ok (.astore_n k, 1)) (hi : (k : Nat) = i) (hn : i < nL) (hl : lv.filter (fun q => !(q.1 == i) && !(q.1 + 1 == i && q.2.category == 2)) = lvp) (kk : yG p l e R s m args below meth c Y w nL Q μ (pc + 1) ((i, va_re w.1 r) :: lvp) (st)) : yG p l e R s m args below meth c Y w nL Q μ (pc) lv (va_re w.1 r :: st) := by
  intro H locs ls h1 h2 h3
  cases r with
  | none => exact lv_astore_nN C.1 C.2.1 hdg hi h1 hn (congrArg (List.cons (i, Value.null)) hl) (fun ls2 h4 => kk H locs ls2 h4 h2 h3)
  | some z => exact lv_astore_n C.1 C.2.1 hdg hi h1 hn (congrArg (List.cons (i, Value.ref (w.1 z))) hl) (fun ls2 h4 => kk H locs ls2 h4 h2 h3)
theorem y_astore (C : yX p e R s m args c Y w nL cc own) {i : Nat} {r : Option Nat} {lvp : List (Nat × Value)} (hdg : decode cc pc = .ok (.astore i, 2)) (hn : i < nL) (hl : lv.filter (fun q => !(q.1 == i) && !(q.1 + 1 == i && q.2.category == 2)) = lvp) (kk : yG p l e R s m args below meth c Y w nL Q μ (pc + 2) ((i, va_re w.1 r) :: lvp) (st)) : yG p l e R s m args below meth c Y w nL Q μ (pc) lv (va_re w.1 r :: st) := by
  intro H locs ls h1 h2 h3
  cases r with
  | none => exact lv_astoreN C.1 C.2.1 hdg h1 hn (congrArg (List.cons (i, Value.null)) hl) (fun ls2 h4 => kk H locs ls2 h4 h2 h3)
  | some z => exact lv_astore C.1 C.2.1 hdg h1 hn (congrArg (List.cons (i, Value.ref (w.1 z))) hl) (fun ls2 h4 => kk H locs ls2 h4 h2 h3)
theorem y_iinc (C : yX p e R s m args c Y w nL cc own) {i j : Nat} {n : Int} {x v : Int32} {lvp : List (Nat × Value)} {ρ : Type} {K : Int32 → Option ρ} {out : ρ} (hdg : decode cc pc = .ok (.iinc i n, 3)) (hj : lv[j]? = some (i, .int x)) (hv : Int32.ofInt n = v) (hn : i < nL) (hl : lv.filter (fun q => !(q.1 == i) && !(q.1 + 1 == i && q.2.category == 2)) = lvp) (h : ob (some (x + v)) K = some out) (kk : ∀ v : Int32, K v = some out → yG p l e R s m args below meth c Y w nL Q μ (pc + 3) ((i, .int v) :: lvp) (st)) : yG p l e R s m args below meth c Y w nL Q μ (pc) lv (st) := fun H locs ls h1 h2 h3 => lv_iinc C.1 C.2.1 hdg h1 hj (by rw [hv]) hn (congrArg (List.cons (i, Value.int (x + v))) hl) (fun ls2 h4 => kk _ h H locs ls2 h4 h2 h3)
theorem y_iadd (C : yX p e R s m args c Y w nL cc own) {x y : Int32} (hdg : decode cc pc = .ok (.iadd, 1))  (k : yG p l e R s m args below meth c Y w nL Q μ (pc + 1) lv (.int (x + y) :: st)) : yG p l e R s m args below meth c Y w nL Q μ (pc) lv (.int y :: .int x :: st) := fun H locs ls h1 h2 h3 => lv_iadd C.1 C.2.1 hdg (k H locs ls h1 h2 h3)
theorem y_isub (C : yX p e R s m args c Y w nL cc own) {x y : Int32} (hdg : decode cc pc = .ok (.isub, 1))  (k : yG p l e R s m args below meth c Y w nL Q μ (pc + 1) lv (.int (x - y) :: st)) : yG p l e R s m args below meth c Y w nL Q μ (pc) lv (.int y :: .int x :: st) := fun H locs ls h1 h2 h3 => lv_isub C.1 C.2.1 hdg (k H locs ls h1 h2 h3)
theorem y_imul (C : yX p e R s m args c Y w nL cc own) {x y : Int32} (hdg : decode cc pc = .ok (.imul, 1))  (k : yG p l e R s m args below meth c Y w nL Q μ (pc + 1) lv (.int (x * y) :: st)) : yG p l e R s m args below meth c Y w nL Q μ (pc) lv (.int y :: .int x :: st) := fun H locs ls h1 h2 h3 => lv_imul C.1 C.2.1 hdg (k H locs ls h1 h2 h3)
theorem y_iand (C : yX p e R s m args c Y w nL cc own) {x y : Int32} (hdg : decode cc pc = .ok (.iand, 1))  (k : yG p l e R s m args below meth c Y w nL Q μ (pc + 1) lv (.int (x &&& y) :: st)) : yG p l e R s m args below meth c Y w nL Q μ (pc) lv (.int y :: .int x :: st) := fun H locs ls h1 h2 h3 => lv_iand C.1 C.2.1 hdg (k H locs ls h1 h2 h3)
theorem y_ior (C : yX p e R s m args c Y w nL cc own) {x y : Int32} (hdg : decode cc pc = .ok (.ior, 1))  (k : yG p l e R s m args below meth c Y w nL Q μ (pc + 1) lv (.int (x ||| y) :: st)) : yG p l e R s m args below meth c Y w nL Q μ (pc) lv (.int y :: .int x :: st) := fun H locs ls h1 h2 h3 => lv_ior C.1 C.2.1 hdg (k H locs ls h1 h2 h3)
theorem y_ishl (C : yX p e R s m args c Y w nL cc own) {x y : Int32} (hdg : decode cc pc = .ok (.ishl, 1))  (k : yG p l e R s m args below meth c Y w nL Q μ (pc + 1) lv (.int (x <<< (y &&& 31)) :: st)) : yG p l e R s m args below meth c Y w nL Q μ (pc) lv (.int y :: .int x :: st) := fun H locs ls h1 h2 h3 => lv_ishl C.1 C.2.1 hdg (k H locs ls h1 h2 h3)
theorem y_idiv (C : yX p e R s m args c Y w nL cc own) {x y : Int32} {ρ : Type} {K : Int32 → Option ρ} {out : ρ} (hdg : decode cc pc = .ok (.idiv, 1)) (h : ob (jdv x y) K = some out) (kk : ∀ v : Int32, K v = some out → yG p l e R s m args below meth c Y w nL Q μ (pc + 1) lv (.int v :: st)) : yG p l e R s m args below meth c Y w nL Q μ (pc) lv (.int y :: .int x :: st) := by
  intro H locs ls h1 h2 h3
  by_cases hy : y = 0
  · rw [jdv, if_pos hy] at h; cases h
  · rw [jdv, if_neg hy] at h
    exact lv_idiv C.1 C.2.1 hdg hy (kk _ h H locs ls h1 h2 h3)
theorem y_irem (C : yX p e R s m args c Y w nL cc own) {x y : Int32} {ρ : Type} {K : Int32 → Option ρ} {out : ρ} (hdg : decode cc pc = .ok (.irem, 1)) (h : ob (jrm x y) K = some out) (kk : ∀ v : Int32, K v = some out → yG p l e R s m args below meth c Y w nL Q μ (pc + 1) lv (.int v :: st)) : yG p l e R s m args below meth c Y w nL Q μ (pc) lv (.int y :: .int x :: st) := by
  intro H locs ls h1 h2 h3
  by_cases hy : y = 0
  · rw [jrm, if_pos hy] at h; cases h
  · rw [jrm, if_neg hy] at h
    exact lv_irem C.1 C.2.1 hdg hy (kk _ h H locs ls h1 h2 h3)
theorem y_i2l (C : yX p e R s m args c Y w nL cc own) {x : Int32} (hdg : decode cc pc = .ok (.i2l, 1))  (k : yG p l e R s m args below meth c Y w nL Q μ (pc + 1) lv (.long x.toInt64 :: st)) : yG p l e R s m args below meth c Y w nL Q μ (pc) lv (.int x :: st) := fun H locs ls h1 h2 h3 => lv_i2l C.1 C.2.1 hdg rfl (k H locs ls h1 h2 h3)
theorem y_l2i (C : yX p e R s m args c Y w nL cc own) {x : Int64} (hdg : decode cc pc = .ok (.l2i, 1))  (k : yG p l e R s m args below meth c Y w nL Q μ (pc + 1) lv (.int x.toInt32 :: st)) : yG p l e R s m args below meth c Y w nL Q μ (pc) lv (.long x :: st) := fun H locs ls h1 h2 h3 => lv_l2i C.1 C.2.1 hdg rfl (k H locs ls h1 h2 h3)
theorem y_i2b (C : yX p e R s m args c Y w nL cc own) {x : Int32} (hdg : decode cc pc = .ok (.i2b, 1))  (k : yG p l e R s m args below meth c Y w nL Q μ (pc + 1) lv (.int x.toInt8.toInt32 :: st)) : yG p l e R s m args below meth c Y w nL Q μ (pc) lv (.int x :: st) := fun H locs ls h1 h2 h3 => lv_i2b C.1 C.2.1 hdg rfl (k H locs ls h1 h2 h3)
theorem y_i2s (C : yX p e R s m args c Y w nL cc own) {x : Int32} (hdg : decode cc pc = .ok (.i2s, 1))  (k : yG p l e R s m args below meth c Y w nL Q μ (pc + 1) lv (.int x.toInt16.toInt32 :: st)) : yG p l e R s m args below meth c Y w nL Q μ (pc) lv (.int x :: st) := fun H locs ls h1 h2 h3 => lv_i2s C.1 C.2.1 hdg rfl (k H locs ls h1 h2 h3)
theorem y_lcmp (C : yX p e R s m args c Y w nL cc own) {x y : Int64} (hdg : decode cc pc = .ok (.lcmp, 1))  (k : yG p l e R s m args below meth c Y w nL Q μ (pc + 1) lv (.int (lg_cmp x y) :: st)) : yG p l e R s m args below meth c Y w nL Q μ (pc) lv (.long y :: .long x :: st) := fun H locs ls h1 h2 h3 => W.lcmp C.1 C.2.1 hdg (k H locs ls h1 h2 h3)
theorem y_dup (C : yX p e R s m args c Y w nL cc own) {v : Value} (hdg : decode cc pc = .ok (.dup, 1)) (hv : v.category = 1) (k : yG p l e R s m args below meth c Y w nL Q μ (pc + 1) lv (v :: v :: st)) : yG p l e R s m args below meth c Y w nL Q μ (pc) lv (v :: st) := fun H locs ls h1 h2 h3 => lv_dup C.1 C.2.1 hdg hv (k H locs ls h1 h2 h3)
theorem y_pop (C : yX p e R s m args c Y w nL cc own) {v : Value} (hdg : decode cc pc = .ok (.pop, 1)) (hv : v.category = 1) (k : yG p l e R s m args below meth c Y w nL Q μ (pc + 1) lv (st)) : yG p l e R s m args below meth c Y w nL Q μ (pc) lv (v :: st) := fun H locs ls h1 h2 h3 => lv_pop C.1 C.2.1 hdg hv (k H locs ls h1 h2 h3)
theorem y_dup2 (C : yX p e R s m args c Y w nL cc own) {va vb : Value} (hdg : decode cc pc = .ok (.dup2, 1)) (hv : va.category = 1) (hw : vb.category = 1) (k : yG p l e R s m args below meth c Y w nL Q μ (pc + 1) lv (va :: vb :: va :: vb :: st)) : yG p l e R s m args below meth c Y w nL Q μ (pc) lv (va :: vb :: st) := fun H locs ls h1 h2 h3 => lv_dup2_11 C.1 C.2.1 hdg hv hw (k H locs ls h1 h2 h3)
theorem y_goto (C : yX p e R s m args c Y w nL cc own) {off : Int} {tgt : Nat} (hdg : decode cc pc = .ok (.goto off, 3)) (ht : (pc : Int) + off = (tgt : Int)) (k : yG p l e R s m args below meth c Y w nL Q μ (tgt) lv (st)) : yG p l e R s m args below meth c Y w nL Q μ (pc) lv (st) := fun H locs ls h1 h2 h3 => lv_goto C.1 C.2.1 hdg ht (k H locs ls h1 h2 h3)
theorem y_null (C : yX p e R s m args c Y w nL cc own)  (hdg : decode cc pc = .ok (.aconst_null, 1)) (k : yG p l e R s m args below meth c Y w nL Q μ (pc + 1) lv (va_re w.1 none :: st)) : yG p l e R s m args below meth c Y w nL Q μ (pc) lv (st) := fun H locs ls h1 h2 h3 => lv_null C.1 C.2.1 hdg (k H locs ls h1 h2 h3)
theorem y_ldc (C : yX p e R s m args c Y w nL cc own) {index : Nat} {v : Int32} (hdg : decode cc pc = .ok (.ldc index, 2)) (hc : Cond.constant own index v ∈ yGW) (k : yG p l e R s m args below meth c Y w nL Q μ (pc + 2) lv (.int v :: st)) : yG p l e R s m args below meth c Y w nL Q μ (pc) lv (st) := fun H locs ls h1 h2 h3 => lv_ldc C.1 C.2.1 C.2.2.2.1 (C.2.2.2.2.1 _ hc) hdg (k H locs ls h1 h2 h3)
theorem y_ldcw (C : yX p e R s m args c Y w nL cc own) {index : Nat} {v : Int32} (hdg : decode cc pc = .ok (.ldc_w index, 3)) (hc : Cond.constant own index v ∈ yGW) (k : yG p l e R s m args below meth c Y w nL Q μ (pc + 3) lv (.int v :: st)) : yG p l e R s m args below meth c Y w nL Q μ (pc) lv (st) := fun H locs ls h1 h2 h3 => lv_ldcw C.1 C.2.1 C.2.2.2.1 (C.2.2.2.2.1 _ hc) hdg (k H locs ls h1 h2 h3)
theorem y_ldc2 (C : yX p e R s m args c Y w nL cc own) {index : Nat} {v : Int64} (hdg : decode cc pc = .ok (.ldc2_w index, 3)) (hc : Cond.constantLong own index v ∈ yGW) (k : yG p l e R s m args below meth c Y w nL Q μ (pc + 3) lv (.long v :: st)) : yG p l e R s m args below meth c Y w nL Q μ (pc) lv (st) := fun H locs ls h1 h2 h3 => lv_ldc2 C.1 C.2.1 C.2.2.2.1 (C.2.2.2.2.1 _ hc) hdg (k H locs ls h1 h2 h3)
theorem y_ic_eq (C : yX p e R s m args c Y w nL cc own) {x y : Int32} {off : Int} {ρ : Type} {u v : Option ρ} {out : ρ} (tgt : Nat) (hdg : decode cc pc = .ok (.if_icmp .eq off, 3)) (ht : (pc : Int) + off = (tgt : Int)) (h : (if x = y then u else v) = some out) (kt : x = y → u = some out → yG p l e R s m args below meth c Y w nL Q μ (tgt) lv (st)) (kf : ¬ (x = y) → v = some out → yG p l e R s m args below meth c Y w nL Q μ (pc + 3) lv (st)) : yG p l e R s m args below meth c Y w nL Q μ (pc) lv (.int y :: .int x :: st) := fun H locs ls h1 h2 h3 => lv_icmp_eq C.1 C.2.1 hdg ht (fun q => kt q (by rw [if_pos q] at h; exact h) H locs ls h1 h2 h3) (fun q => kf q (by rw [if_neg q] at h; exact h) H locs ls h1 h2 h3)
theorem y_if_eq (C : yX p e R s m args c Y w nL cc own) {x : Int32} {off : Int} {ρ : Type} {u v : Option ρ} {out : ρ} (tgt : Nat) (hdg : decode cc pc = .ok (.ifCond .eq off, 3)) (ht : (pc : Int) + off = (tgt : Int)) (h : (if x = 0 then u else v) = some out) (kt : x = 0 → u = some out → yG p l e R s m args below meth c Y w nL Q μ (tgt) lv (st)) (kf : ¬ (x = 0) → v = some out → yG p l e R s m args below meth c Y w nL Q μ (pc + 3) lv (st)) : yG p l e R s m args below meth c Y w nL Q μ (pc) lv (.int x :: st) := fun H locs ls h1 h2 h3 => lv_if_eq C.1 C.2.1 hdg ht (fun q => kt q (by rw [if_pos q] at h; exact h) H locs ls h1 h2 h3) (fun q => kf q (by rw [if_neg q] at h; exact h) H locs ls h1 h2 h3)
theorem y_ic_ne (C : yX p e R s m args c Y w nL cc own) {x y : Int32} {off : Int} {ρ : Type} {u v : Option ρ} {out : ρ} (tgt : Nat) (hdg : decode cc pc = .ok (.if_icmp .ne off, 3)) (ht : (pc : Int) + off = (tgt : Int)) (h : (if x = y then u else v) = some out) (kt : x = y → u = some out → yG p l e R s m args below meth c Y w nL Q μ (pc + 3) lv (st)) (kf : ¬ (x = y) → v = some out → yG p l e R s m args below meth c Y w nL Q μ (tgt) lv (st)) : yG p l e R s m args below meth c Y w nL Q μ (pc) lv (.int y :: .int x :: st) := fun H locs ls h1 h2 h3 => lv_icmp_ne C.1 C.2.1 hdg ht (fun q => kf q (by rw [if_neg q] at h; exact h) H locs ls h1 h2 h3) (fun q => kt q (by rw [if_pos q] at h; exact h) H locs ls h1 h2 h3)
theorem y_if_ne (C : yX p e R s m args c Y w nL cc own) {x : Int32} {off : Int} {ρ : Type} {u v : Option ρ} {out : ρ} (tgt : Nat) (hdg : decode cc pc = .ok (.ifCond .ne off, 3)) (ht : (pc : Int) + off = (tgt : Int)) (h : (if x = 0 then u else v) = some out) (kt : x = 0 → u = some out → yG p l e R s m args below meth c Y w nL Q μ (pc + 3) lv (st)) (kf : ¬ (x = 0) → v = some out → yG p l e R s m args below meth c Y w nL Q μ (tgt) lv (st)) : yG p l e R s m args below meth c Y w nL Q μ (pc) lv (.int x :: st) := fun H locs ls h1 h2 h3 => lv_if_ne C.1 C.2.1 hdg ht (fun q => kf q (by rw [if_neg q] at h; exact h) H locs ls h1 h2 h3) (fun q => kt q (by rw [if_pos q] at h; exact h) H locs ls h1 h2 h3)
theorem y_ic_lt (C : yX p e R s m args c Y w nL cc own) {x y : Int32} {off : Int} {ρ : Type} {u v : Option ρ} {out : ρ} (tgt : Nat) (hdg : decode cc pc = .ok (.if_icmp .lt off, 3)) (ht : (pc : Int) + off = (tgt : Int)) (h : (if x < y then u else v) = some out) (kt : x < y → u = some out → yG p l e R s m args below meth c Y w nL Q μ (tgt) lv (st)) (kf : ¬ (x < y) → v = some out → yG p l e R s m args below meth c Y w nL Q μ (pc + 3) lv (st)) : yG p l e R s m args below meth c Y w nL Q μ (pc) lv (.int y :: .int x :: st) := fun H locs ls h1 h2 h3 => lv_icmp_lt C.1 C.2.1 hdg ht (fun q => kt q (by rw [if_pos q] at h; exact h) H locs ls h1 h2 h3) (fun q => kf q (by rw [if_neg q] at h; exact h) H locs ls h1 h2 h3)
theorem y_if_lt (C : yX p e R s m args c Y w nL cc own) {x : Int32} {off : Int} {ρ : Type} {u v : Option ρ} {out : ρ} (tgt : Nat) (hdg : decode cc pc = .ok (.ifCond .lt off, 3)) (ht : (pc : Int) + off = (tgt : Int)) (h : (if x < 0 then u else v) = some out) (kt : x < 0 → u = some out → yG p l e R s m args below meth c Y w nL Q μ (tgt) lv (st)) (kf : ¬ (x < 0) → v = some out → yG p l e R s m args below meth c Y w nL Q μ (pc + 3) lv (st)) : yG p l e R s m args below meth c Y w nL Q μ (pc) lv (.int x :: st) := fun H locs ls h1 h2 h3 => lv_if_lt C.1 C.2.1 hdg ht (fun q => kt q (by rw [if_pos q] at h; exact h) H locs ls h1 h2 h3) (fun q => kf q (by rw [if_neg q] at h; exact h) H locs ls h1 h2 h3)
theorem y_ic_ge (C : yX p e R s m args c Y w nL cc own) {x y : Int32} {off : Int} {ρ : Type} {u v : Option ρ} {out : ρ} (tgt : Nat) (hdg : decode cc pc = .ok (.if_icmp .ge off, 3)) (ht : (pc : Int) + off = (tgt : Int)) (h : (if y ≤ x then u else v) = some out) (kt : y ≤ x → u = some out → yG p l e R s m args below meth c Y w nL Q μ (tgt) lv (st)) (kf : ¬ (y ≤ x) → v = some out → yG p l e R s m args below meth c Y w nL Q μ (pc + 3) lv (st)) : yG p l e R s m args below meth c Y w nL Q μ (pc) lv (.int y :: .int x :: st) := fun H locs ls h1 h2 h3 => lv_icmp_ge C.1 C.2.1 hdg ht (fun q => kt q (by rw [if_pos q] at h; exact h) H locs ls h1 h2 h3) (fun q => kf q (by rw [if_neg q] at h; exact h) H locs ls h1 h2 h3)
theorem y_if_ge (C : yX p e R s m args c Y w nL cc own) {x : Int32} {off : Int} {ρ : Type} {u v : Option ρ} {out : ρ} (tgt : Nat) (hdg : decode cc pc = .ok (.ifCond .ge off, 3)) (ht : (pc : Int) + off = (tgt : Int)) (h : (if 0 ≤ x then u else v) = some out) (kt : 0 ≤ x → u = some out → yG p l e R s m args below meth c Y w nL Q μ (tgt) lv (st)) (kf : ¬ (0 ≤ x) → v = some out → yG p l e R s m args below meth c Y w nL Q μ (pc + 3) lv (st)) : yG p l e R s m args below meth c Y w nL Q μ (pc) lv (.int x :: st) := fun H locs ls h1 h2 h3 => lv_if_ge C.1 C.2.1 hdg ht (fun q => kt q (by rw [if_pos q] at h; exact h) H locs ls h1 h2 h3) (fun q => kf q (by rw [if_neg q] at h; exact h) H locs ls h1 h2 h3)
theorem y_ic_gt (C : yX p e R s m args c Y w nL cc own) {x y : Int32} {off : Int} {ρ : Type} {u v : Option ρ} {out : ρ} (tgt : Nat) (hdg : decode cc pc = .ok (.if_icmp .gt off, 3)) (ht : (pc : Int) + off = (tgt : Int)) (h : (if y < x then u else v) = some out) (kt : y < x → u = some out → yG p l e R s m args below meth c Y w nL Q μ (tgt) lv (st)) (kf : ¬ (y < x) → v = some out → yG p l e R s m args below meth c Y w nL Q μ (pc + 3) lv (st)) : yG p l e R s m args below meth c Y w nL Q μ (pc) lv (.int y :: .int x :: st) := fun H locs ls h1 h2 h3 => lv_icmp_gt C.1 C.2.1 hdg ht (fun q => kt q (by rw [if_pos q] at h; exact h) H locs ls h1 h2 h3) (fun q => kf q (by rw [if_neg q] at h; exact h) H locs ls h1 h2 h3)
theorem y_if_gt (C : yX p e R s m args c Y w nL cc own) {x : Int32} {off : Int} {ρ : Type} {u v : Option ρ} {out : ρ} (tgt : Nat) (hdg : decode cc pc = .ok (.ifCond .gt off, 3)) (ht : (pc : Int) + off = (tgt : Int)) (h : (if 0 < x then u else v) = some out) (kt : 0 < x → u = some out → yG p l e R s m args below meth c Y w nL Q μ (tgt) lv (st)) (kf : ¬ (0 < x) → v = some out → yG p l e R s m args below meth c Y w nL Q μ (pc + 3) lv (st)) : yG p l e R s m args below meth c Y w nL Q μ (pc) lv (.int x :: st) := fun H locs ls h1 h2 h3 => lv_if_gt C.1 C.2.1 hdg ht (fun q => kt q (by rw [if_pos q] at h; exact h) H locs ls h1 h2 h3) (fun q => kf q (by rw [if_neg q] at h; exact h) H locs ls h1 h2 h3)
theorem y_ic_le (C : yX p e R s m args c Y w nL cc own) {x y : Int32} {off : Int} {ρ : Type} {u v : Option ρ} {out : ρ} (tgt : Nat) (hdg : decode cc pc = .ok (.if_icmp .le off, 3)) (ht : (pc : Int) + off = (tgt : Int)) (h : (if x ≤ y then u else v) = some out) (kt : x ≤ y → u = some out → yG p l e R s m args below meth c Y w nL Q μ (tgt) lv (st)) (kf : ¬ (x ≤ y) → v = some out → yG p l e R s m args below meth c Y w nL Q μ (pc + 3) lv (st)) : yG p l e R s m args below meth c Y w nL Q μ (pc) lv (.int y :: .int x :: st) := fun H locs ls h1 h2 h3 => lv_icmp_le C.1 C.2.1 hdg ht (fun q => kt q (by rw [if_pos q] at h; exact h) H locs ls h1 h2 h3) (fun q => kf q (by rw [if_neg q] at h; exact h) H locs ls h1 h2 h3)
theorem y_if_le (C : yX p e R s m args c Y w nL cc own) {x : Int32} {off : Int} {ρ : Type} {u v : Option ρ} {out : ρ} (tgt : Nat) (hdg : decode cc pc = .ok (.ifCond .le off, 3)) (ht : (pc : Int) + off = (tgt : Int)) (h : (if x ≤ 0 then u else v) = some out) (kt : x ≤ 0 → u = some out → yG p l e R s m args below meth c Y w nL Q μ (tgt) lv (st)) (kf : ¬ (x ≤ 0) → v = some out → yG p l e R s m args below meth c Y w nL Q μ (pc + 3) lv (st)) : yG p l e R s m args below meth c Y w nL Q μ (pc) lv (.int x :: st) := fun H locs ls h1 h2 h3 => lv_if_le C.1 C.2.1 hdg ht (fun q => kt q (by rw [if_pos q] at h; exact h) H locs ls h1 h2 h3) (fun q => kf q (by rw [if_neg q] at h; exact h) H locs ls h1 h2 h3)
theorem y_ifnull (C : yX p e R s m args c Y w nL cc own) {r : Option Nat} {off : Int} {ρ : Type} {u v : Option ρ} {out : ρ} (tgt : Nat) (hdg : decode cc pc = .ok (.ifnull off, 3)) (ht : (pc : Int) + off = (tgt : Int)) (h : (if r = none then u else v) = some out) (kt : r = none → u = some out → yG p l e R s m args below meth c Y w nL Q μ (tgt) lv (st)) (kf : ¬ (r = none) → v = some out → yG p l e R s m args below meth c Y w nL Q μ (pc + 3) lv (st)) : yG p l e R s m args below meth c Y w nL Q μ (pc) lv (va_re w.1 r :: st) := by
  intro H locs ls h1 h2 h3
  cases r with
  | none => exact lv_ifnullN C.1 C.2.1 hdg ht (kt rfl (by rw [if_pos rfl] at h; exact h) H locs ls h1 h2 h3)
  | some z => exact lv_ifnull C.1 C.2.1 hdg (kf (by intro q; cases q) (by rw [if_neg (by intro q; cases q)] at h; exact h) H locs ls h1 h2 h3)
theorem y_ifnonnull (C : yX p e R s m args c Y w nL cc own) {r : Option Nat} {off : Int} {ρ : Type} {u v : Option ρ} {out : ρ} (tgt : Nat) (hdg : decode cc pc = .ok (.ifnonnull off, 3)) (ht : (pc : Int) + off = (tgt : Int)) (h : (if r = none then u else v) = some out) (kt : r = none → u = some out → yG p l e R s m args below meth c Y w nL Q μ (pc + 3) lv (st)) (kf : ¬ (r = none) → v = some out → yG p l e R s m args below meth c Y w nL Q μ (tgt) lv (st)) : yG p l e R s m args below meth c Y w nL Q μ (pc) lv (va_re w.1 r :: st) := by
  intro H locs ls h1 h2 h3
  cases r with
  | none => exact lv_ifnonnullN C.1 C.2.1 hdg (kt rfl (by rw [if_pos rfl] at h; exact h) H locs ls h1 h2 h3)
  | some z => exact lv_ifnonnull C.1 C.2.1 hdg ht (kf (by intro q; cases q) (by rw [if_neg (by intro q; cases q)] at h; exact h) H locs ls h1 h2 h3)
theorem y_sp {ρ : Type} {q : Prop} {P : Prop} {u v : Option ρ} {out : ρ} {hq : Decidable q} (h : (if q then u else v) = some out) (kt : q → u = some out → P) (kf : ¬ q → v = some out → P) : P := by
  by_cases hc : q
  · rw [if_pos hc] at h; exact kt hc h
  · rw [if_neg hc] at h; exact kf hc h
theorem y_tsw (C : yX p e R s m args c Y w nL cc own) {dflt lo hi : Int} {offs : Array Int} {len : Nat} {x : Int32} {off : Int} (tgt : Nat) (hdg : decode cc pc = .ok (.tableswitch dflt lo hi offs, len)) (ho : ((x.toInt < lo ∨ hi < x.toInt) ∧ off = dflt) ∨ (¬ x.toInt < lo ∧ ¬ hi < x.toInt ∧ offs[(x.toInt - lo).toNat]? = some off)) (ht : (pc : Int) + off = (tgt : Int)) (k : yG p l e R s m args below meth c Y w nL Q μ (tgt) lv (st)) : yG p l e R s m args below meth c Y w nL Q μ (pc) lv (.int x :: st) := by
  intro H locs ls h1 h2 h3
  rcases ho with ⟨a, rfl⟩ | ⟨a, b, d⟩
  · exact lv_tableOut C.1 C.2.1 hdg a ht (k H locs ls h1 h2 h3)
  · exact lv_tableIn C.1 C.2.1 hdg a b d ht (k H locs ls h1 h2 h3)
theorem y_lsw (C : yX p e R s m args c Y w nL cc own) {dflt : Int} {ps : Array (Int × Int)} {len : Nat} {x : Int32} {off : Int} (tgt : Nat) (hdg : decode cc pc = .ok (.lookupswitch dflt ps, len)) (hp : (ps.toList.zip (ps.toList.drop 1)).all (fun (a, next) => a.1 < next.1) = true) (ho : Op.lookupswitch.offset ps.toList dflt x.toInt = off) (ht : (pc : Int) + off = (tgt : Int)) (k : yG p l e R s m args below meth c Y w nL Q μ (tgt) lv (st)) : yG p l e R s m args below meth c Y w nL Q μ (pc) lv (.int x :: st) := fun H locs ls h1 h2 h3 => lv_lookup C.1 C.2.1 hdg hp ho ht (k H locs ls h1 h2 h3)
theorem y_sub {lvp : List (Nat × Value)} (ks : List Nat) (hl : lv_pick lv ks = lvp) (k : yG p l e R s m args below meth c Y w nL Q μ (pc) lvp (st)) : yG p l e R s m args below meth c Y w nL Q μ (pc) lv (st) := fun H locs ls h1 h2 h3 => k H locs ls (lv_sub h1 ks hl) h2 h3
theorem y_stk {stp0 : List Value} (hs : st = stp0) (k : yG p l e R s m args below meth c Y w nL Q μ (pc) lv (stp0)) : yG p l e R s m args below meth c Y w nL Q μ (pc) lv (st) := hs ▸ k
theorem yC_c {Y : Sy} {w : WP} {μ : Mm} {id ci : Nat} (h : Y.2.1 id = ci) (h6 : ci < 6) : yC Y w μ id = .inr (ci, yF Y w μ id ci (yNf ci)) := by unfold yC; rw [h, if_pos h6]
theorem yF_at {Y : Sy} {w : WP} {μ : Mm} {id ci k n : Nat} (h : k < n) : (yF Y w μ id ci n)[k]? = some (yV Y w μ id ci k) := by simp [yF, h]
theorem yF_len {Y : Sy} {w : WP} {μ : Mm} {id ci n : Nat} : (yF Y w μ id ci n).length = n := by simp [yF]
theorem y_gi (C : yX p e R s m args c Y w nL cc own) {ci k index : Nat} {q : vw_C} {r : Option Nat} {ρ : Type} {out : ρ} {K : Int32 → Option ρ} (hc : yCl[ci]? = some q) (hk : k < q.2.2) (hf : yRf ci k = false) (hl : Cond.fieldLink own index (q.2.1 k).1 (q.2.1 k).2.1 (q.2.1 k).2.2.1 ∈ yGW) (hdg : decode cc pc = .ok (.getfield index, 3)) (h : ob (jgi Y ci k μ r) K = some out) (kk : ∀ x : Int32, K x = some out → yG p l e R s m args below meth c Y w nL Q μ (pc + 3) lv (.int x :: st)) : yG p l e R s m args below meth c Y w nL Q μ (pc) lv (va_re w.1 r :: st) := by
  obtain ⟨x, hx0, h⟩ := ob_e h
  obtain ⟨id, hid, hx1⟩ := ob_e hx0
  obtain ⟨rfl, hlt, hkd⟩ := jk_e hid
  cases hx1
  intro H locs ls h1 h2 h3
  obtain ⟨d1, d2, d3, d4, d5⟩ := yCls hc
  have he : (yW Y w μ)[id]? = some (w.1 id, .inr (ci, yF Y w μ id ci q.2.2)) := by rw [yW_at hlt, yC_c hkd d5, d4]
  refine va_get (D := w.2.1) (ci := ci) (v := .int (μ.1 id k)) C.1 C.2.1 C.2.2.2.2.1 d1 C.2.2.2.1 C.2.2.2.2.2.1 h2 id he hc k hk (C.2.2.2.2.1 _ hl) (fun _ z => z) ?_ hdg (kk _ h H locs ls h1 h2 h3)
  rw [yF_at hk, yV, hf]; rfl
theorem y_gr (C : yX p e R s m args c Y w nL cc own) {ci k index : Nat} {q : vw_C} {r : Option Nat} {ρ : Type} {out : ρ} {K : Option Nat → Option ρ} (hc : yCl[ci]? = some q) (hk : k < q.2.2) (hf : yRf ci k = true) (h29 : ¬ (ci = 5 ∧ k = 29)) (hl : Cond.fieldLink own index (q.2.1 k).1 (q.2.1 k).2.1 (q.2.1 k).2.2.1 ∈ yGW) (hdg : decode cc pc = .ok (.getfield index, 3)) (h : ob (jgr Y ci k r) K = some out) (kk : ∀ x : Option Nat, K x = some out → yG p l e R s m args below meth c Y w nL Q μ (pc + 3) lv (va_re w.1 x :: st)) : yG p l e R s m args below meth c Y w nL Q μ (pc) lv (va_re w.1 r :: st) := by
  obtain ⟨x, hx0, h⟩ := ob_e h
  obtain ⟨id, hid, hx1⟩ := ob_e hx0
  obtain ⟨rfl, hlt, hkd⟩ := jk_e hid
  cases hx1
  intro H locs ls h1 h2 h3
  obtain ⟨d1, d2, d3, d4, d5⟩ := yCls hc
  have he : (yW Y w μ)[id]? = some (w.1 id, .inr (ci, yF Y w μ id ci q.2.2)) := by rw [yW_at hlt, yC_c hkd d5, d4]
  refine va_get (D := w.2.1) (ci := ci) (v := va_re w.1 (Y.2.2.2 id k)) C.1 C.2.1 C.2.2.2.2.1 d1 C.2.2.2.1 C.2.2.2.2.2.1 h2 id he hc k hk (C.2.2.2.2.1 _ hl) (fun _ z => z) ?_ hdg (kk _ h H locs ls h1 h2 h3)
  rw [yF_at hk, yV, hf, if_neg h29]; rfl
theorem y_gk (C : yX p e R s m args c Y w nL cc own) {index : Nat} {q : vw_C} {r : Option Nat} {ρ : Type} {out : ρ} {K : Option Nat → Option ρ} (hc : yCl[5]? = some q) (hk : 29 < q.2.2) (hl : Cond.fieldLink own index (q.2.1 29).1 (q.2.1 29).2.1 (q.2.1 29).2.2.1 ∈ yGW) (hdg : decode cc pc = .ok (.getfield index, 3)) (h : ob (jgk Y μ r) K = some out) (kk : ∀ x : Option Nat, K x = some out → yG p l e R s m args below meth c Y w nL Q μ (pc + 3) lv (va_re w.1 x :: st)) : yG p l e R s m args below meth c Y w nL Q μ (pc) lv (va_re w.1 r :: st) := by
  obtain ⟨x, hx0, h⟩ := ob_e h
  obtain ⟨id, hid, hx1⟩ := ob_e hx0
  obtain ⟨rfl, hlt, hkd⟩ := jk_e hid
  cases hx1
  intro H locs ls h1 h2 h3
  obtain ⟨d1, d2, d3, d4, d5⟩ := yCls hc
  have he : (yW Y w μ)[id]? = some (w.1 id, .inr (5, yF Y w μ id 5 q.2.2)) := by rw [yW_at hlt, yC_c hkd d5, d4]
  refine va_get (D := w.2.1) (ci := 5) (v := va_re w.1 μ.2.2) C.1 C.2.1 C.2.2.2.2.1 d1 C.2.2.2.1 C.2.2.2.2.2.1 h2 id he hc 29 hk (C.2.2.2.2.1 _ hl) (fun _ z => z) ?_ hdg (kk _ h H locs ls h1 h2 h3)
  rw [yF_at hk, yV, if_pos (c := yRf 5 29 = true) rfl, if_pos (c := 5 = 5 ∧ 29 = 29) ⟨rfl, rfl⟩]
theorem yV_y2 {Y : Sy} {w : WP} {μ : Mm} {id ci k : Nat} {v : Int32} (hf : yRf ci k = false) {n : Nat} : (yF Y w μ id ci n).set k (.int v) = yF Y w (y2 μ.1 id k v, μ.2.1, μ.2.2) id ci n := by
  apply List.ext_getElem?
  intro j
  by_cases hj : j < n
  · by_cases h : j = k
    · subst h
      rw [List.getElem?_set_self (by rw [yF_len]; exact hj), yF_at hj]
      simp [yV, hf, y2]
    · rw [List.getElem?_set_ne (Ne.symm h), yF_at hj, yF_at hj]
      simp [yV, y2, h]
  · rw [List.getElem?_eq_none (by rw [List.length_set, yF_len]; omega), List.getElem?_eq_none (by rw [yF_len]; omega)]
theorem yC_o {Y : Sy} {w : WP} {μ : Mm} {id k : Nat} {v : Int32} {x : Nat} (h : x ≠ id) : yC Y w (y2 μ.1 id k v, μ.2.1, μ.2.2) x = yC Y w μ x := by
  have e : (y2 μ.1 id k v) x = μ.1 x := by funext j; simp [y2, h]
  have e2 : ∀ ci n, yF Y w (y2 μ.1 id k v, μ.2.1, μ.2.2) x ci n = yF Y w μ x ci n := by
    intro ci n
    unfold yF
    congr 1
    funext j
    simp only [yV, e]
  simp only [yC, e, e2]
theorem y_pi (C : yX p e R s m args c Y w nL cc own) {ci k index : Nat} {q : vw_C} {r : Option Nat} {ρ : Type} {out : ρ} {v : Int32} {K : Mm → Option ρ} (hc : yCl[ci]? = some q) (hk : k < q.2.2) (hf : yRf ci k = false) (hfin : (q.2.1 k).2.2.2 = false) (hd : parseFieldDescriptor (q.2.1 k).2.2.1 = some .int) (hl : Cond.fieldLink own index (q.2.1 k).1 (q.2.1 k).2.1 (q.2.1 k).2.2.1 ∈ yGW) (hdg : decode cc pc = .ok (.putfield index, 3)) (h : ob (jpi Y ci k μ r v) K = some out) (kk : ∀ x : Mm, K x = some out → yG p l e R s m args below meth c Y w nL Q x (pc + 3) lv (st)) : yG p l e R s m args below meth c Y w nL Q μ (pc) lv (.int v :: va_re w.1 r :: st) := by
  obtain ⟨x, hx0, h⟩ := ob_e h
  obtain ⟨id, hid, hx1⟩ := ob_e hx0
  obtain ⟨rfl, hlt, hkd⟩ := jk_e hid
  cases hx1
  intro H locs ls h1 h2 h3
  obtain ⟨d1, ⟨ty, d2⟩, d3, d4, d5⟩ := yCls hc
  have he : (yW Y w μ)[id]? = some (w.1 id, .inr (ci, yF Y w μ id ci q.2.2)) := by rw [yW_at hlt, yC_c hkd d5, d4]
  refine va_put (D := w.2.1) (ci := ci) C.1 C.2.1 C.2.2.2.2.1 d1 ty d2 d3 C.2.2.2.1 C.2.2.2.2.2.1 h2 (yD C.2.2.2.2.2.2.1) h3 id he hc k hk (C.2.2.2.2.1 _ hl) (fun _ z => z) hfin hd rfl rfl (by rw [yF_len]; exact hk) hdg (fun H1 locs1 g1 g2 g3 => kk _ h H1 locs1 ls h1 ?_ g3)
  rw [yV_y2 hf, yW_set hlt (by rw [yC_c hkd d5, d4]) (fun x hx => yC_o hx)] at g1
  exact g1
theorem y_pz (C : yX p e R s m args c Y w nL cc own) {ci k index : Nat} {q : vw_C} {r : Option Nat} {ρ : Type} {out : ρ} {v : Int32} {K : Mm → Option ρ} (hc : yCl[ci]? = some q) (hk : k < q.2.2) (hf : yRf ci k = false) (hfin : (q.2.1 k).2.2.2 = false) (hd : parseFieldDescriptor (q.2.1 k).2.2.1 = some .boolean) (hl : Cond.fieldLink own index (q.2.1 k).1 (q.2.1 k).2.1 (q.2.1 k).2.2.1 ∈ yGW) (hdg : decode cc pc = .ok (.putfield index, 3)) (h : ob (jpz Y ci k μ r v) K = some out) (kk : ∀ x : Mm, K x = some out → yG p l e R s m args below meth c Y w nL Q x (pc + 3) lv (st)) : yG p l e R s m args below meth c Y w nL Q μ (pc) lv (.int v :: va_re w.1 r :: st) := by
  obtain ⟨x, hx0, h⟩ := ob_e h
  unfold jpz at hx0
  by_cases hv : v = 0 ∨ v = 1
  · rw [if_pos hv] at hx0
    obtain ⟨id, hid, hx1⟩ := ob_e hx0
    obtain ⟨rfl, hlt, hkd⟩ := jk_e hid
    cases hx1
    intro H locs ls h1 h2 h3
    obtain ⟨d1, ⟨ty, d2⟩, d3, d4, d5⟩ := yCls hc
    have he : (yW Y w μ)[id]? = some (w.1 id, .inr (ci, yF Y w μ id ci q.2.2)) := by rw [yW_at hlt, yC_c hkd d5, d4]
    refine va_put (D := w.2.1) (ci := ci) C.1 C.2.1 C.2.2.2.2.1 d1 ty d2 d3 C.2.2.2.1 C.2.2.2.2.2.1 h2 (yD C.2.2.2.2.2.2.1) h3 id he hc k hk (C.2.2.2.2.1 _ hl) (fun _ z => z) hfin hd (by rcases hv with rfl | rfl <;> rfl) (by rcases hv with rfl | rfl <;> rfl) (by rw [yF_len]; exact hk) hdg (fun H1 locs1 g1 g2 g3 => kk _ h H1 locs1 ls h1 ?_ g3)
    rw [yV_y2 hf, yW_set hlt (by rw [yC_c hkd d5, d4]) (fun x hx => yC_o hx)] at g1
    exact g1
  · rw [if_neg hv] at hx0; cases hx0
theorem yV_k {Y : Sy} {w : WP} {μ : Mm} {id n : Nat} {v : Option Nat} : (yF Y w μ id 5 n).set 29 (va_re w.1 v) = yF Y w (μ.1, μ.2.1, v) id 5 n := by
  apply List.ext_getElem?
  intro j
  by_cases hj : j < n
  · by_cases h : j = 29
    · subst h
      rw [List.getElem?_set_self (by rw [yF_len]; exact hj), yF_at hj, yV, if_pos (c := yRf 5 29 = true) rfl, if_pos (c := 5 = 5 ∧ 29 = 29) ⟨rfl, rfl⟩]
    · rw [List.getElem?_set_ne (Ne.symm h), yF_at hj, yF_at hj]
      simp [yV, h]
  · rw [List.getElem?_eq_none (by rw [List.length_set, yF_len]; omega), List.getElem?_eq_none (by rw [yF_len]; omega)]
theorem y_pk (C : yX p e R s m args c Y w nL cc own) {index : Nat} {q : vw_C} {r : Option Nat} {ρ : Type} {out : ρ} {v : Option Nat} {K : Mm → Option ρ} (hc : yCl[5]? = some q) (hk : 29 < q.2.2) (hone : ∀ x, x ≠ 0 → Y.2.1 x ≠ 5) (hfin : (q.2.1 29).2.2.2 = false) (hd : parseFieldDescriptor (q.2.1 29).2.2.1 = some (.array .int)) (hl : Cond.fieldLink own index (q.2.1 29).1 (q.2.1 29).2.1 (q.2.1 29).2.2.1 ∈ yGW) (hdg : decode cc pc = .ok (.putfield index, 3)) (h : ob (jpk Y μ r v) K = some out) (kk : ∀ x : Mm, K x = some out → yG p l e R s m args below meth c Y w nL Q x (pc + 3) lv (st)) : yG p l e R s m args below meth c Y w nL Q μ (pc) lv (va_re w.1 v :: va_re w.1 r :: st) := by
  obtain ⟨x, hx0, hh⟩ := ob_e h
  obtain ⟨id, hid, hx1⟩ := ob_e hx0
  obtain ⟨rfl, hlt, hkd⟩ := jk_e hid
  cases hx1
  intro H locs ls h1 h2 h3
  obtain ⟨d1, ⟨ty, d2⟩, d3, d4, d5⟩ := yCls hc
  have hid0 : id = 0 := Classical.byContradiction fun z => hone id z hkd
  subst hid0
  have he : (yW Y w μ)[0]? = some (w.1 0, .inr (5, yF Y w μ 0 5 q.2.2)) := by rw [yW_at hlt, yC_c hkd d5, d4]
  refine va_put (D := w.2.1) (ci := 5) C.1 C.2.1 C.2.2.2.2.1 d1 ty d2 d3 C.2.2.2.1 C.2.2.2.2.2.1 h2 (yD C.2.2.2.2.2.2.1) h3 0 he hc 29 hk (C.2.2.2.2.1 _ hl) (fun _ z => z) hfin hd (by cases v <;> rfl) (by cases v <;> rfl) (by rw [yF_len]; exact hk) hdg (fun H1 locs1 g1 g2 g3 => kk _ hh H1 locs1 ls h1 ?_ g3)
  rw [yV_k, yW_set (μ' := (μ.1, μ.2.1, v)) hlt (by rw [yC_c hkd d5, d4]) (fun x hx => ?_)] at g1
  · exact g1
  · have e2 : ∀ ci n, ci ≠ 5 → yF Y w (μ.1, μ.2.1, v) x ci n = yF Y w μ x ci n := by
      intro ci n hci
      unfold yF
      congr 1
      funext j
      simp [yV, hci]
    simp only [yC, e2 _ _ (hone x hx)]
theorem yC_6 {Y : Sy} {w : WP} {μ : Mm} {id : Nat} (h : Y.2.1 id = 6) : yC Y w μ id = .inl (w.2.2 0, Y.2.2.1 id, .inl (μ.1 id)) := by unfold yC; rw [h]; rfl
theorem yC_7 {Y : Sy} {w : WP} {μ : Mm} {id : Nat} (h : Y.2.1 id = 7) : yC Y w μ id = .inl (w.2.2 1, Y.2.2.1 id, .inr (.inl (μ.2.1 id))) := by unfold yC; rw [h]; rfl
theorem yC_8 {Y : Sy} {w : WP} {μ : Mm} {id ki : Nat} (h : Y.2.1 id = ki + 8) : yC Y w μ id = .inl (w.2.2 (ki + 2), Y.2.2.1 id, .inr (.inr (.inr (.inr (fun j => (Y.2.2.2 id j).map w.1))))) := by
  unfold yC; rw [h, if_neg (by omega), if_neg (by omega), if_neg (by omega), show ki + 8 - 6 = ki + 2 by omega]
theorem y_al (C : yX p e R s m args c Y w nL cc own) {r : Option Nat} {i : Int32} {ρ : Type} {out : ρ} {K : Int32 → Option ρ} (hdg : decode cc pc = .ok (.iaload, 1)) (h : ob (jal Y μ r i) K = some out) (kk : ∀ x : Int32, K x = some out → yG p l e R s m args below meth c Y w nL Q μ (pc + 1) lv (.int x :: st)) : yG p l e R s m args below meth c Y w nL Q μ (pc) lv (.int i :: va_re w.1 r :: st) := by
  obtain ⟨x, hx0, h⟩ := ob_e h
  obtain ⟨id, hid, hx1⟩ := ob_e hx0
  obtain ⟨rfl, hlt, hkd⟩ := jk_e hid
  obtain ⟨j, hj, hx2⟩ := ob_e hx1
  obtain ⟨hin, rfl, -⟩ := jin_e hj
  cases hx2
  intro H locs ls h1 h2 h3
  have he : (yW Y w μ)[id]? = some (w.1 id, .inl (w.2.2 0, Y.2.2.1 id, .inl (μ.1 id))) := by rw [yW_at hlt, yC_6 hkd]
  exact va_iald (D := w.2.1) C.1 C.2.1 C.2.2.2.2.2.1 h2 id 0 he rfl hin hdg (kk _ h H locs ls h1 h2 h3)
theorem y_as (C : yX p e R s m args c Y w nL cc own) {r : Option Nat} {i v : Int32} {ρ : Type} {out : ρ} {K : Mm → Option ρ} (hdg : decode cc pc = .ok (.iastore, 1)) (h : ob (jas Y μ r i v) K = some out) (kk : ∀ x : Mm, K x = some out → yG p l e R s m args below meth c Y w nL Q x (pc + 1) lv (st)) : yG p l e R s m args below meth c Y w nL Q μ (pc) lv (.int v :: .int i :: va_re w.1 r :: st) := by
  obtain ⟨x, hx0, h⟩ := ob_e h
  obtain ⟨id, hid, hx1⟩ := ob_e hx0
  obtain ⟨rfl, hlt, hkd⟩ := jk_e hid
  obtain ⟨j, hj, hx2⟩ := ob_e hx1
  obtain ⟨hin, rfl, -⟩ := jin_e hj
  cases hx2
  intro H locs ls h1 h2 h3
  have he : (yW Y w μ)[id]? = some (w.1 id, .inl (w.2.2 0, Y.2.2.1 id, .inl (μ.1 id))) := by rw [yW_at hlt, yC_6 hkd]
  refine va_iast (D := w.2.1) C.1 C.2.1 C.2.2.2.2.2.1 h2 (yD C.2.2.2.2.2.2.1) h3 id 0 he rfl hin hdg (fun H1 locs1 g1 g2 g3 => kk _ h H1 locs1 ls h1 ?_ g3)
  rw [yW_set (μ' := (y2 μ.1 id i.toNatClampNeg v, μ.2.1, μ.2.2)) hlt (by rw [yC_6 hkd]; congr 4; funext z; simp [y2, upd]) (fun x hx => yC_o hx)] at g1
  exact g1
theorem y_ll (C : yX p e R s m args c Y w nL cc own) {r : Option Nat} {i : Int32} {ρ : Type} {out : ρ} {K : Int64 → Option ρ} (hdg : decode cc pc = .ok (.laload, 1)) (h : ob (jll Y μ r i) K = some out) (kk : ∀ x : Int64, K x = some out → yG p l e R s m args below meth c Y w nL Q μ (pc + 1) lv (.long x :: st)) : yG p l e R s m args below meth c Y w nL Q μ (pc) lv (.int i :: va_re w.1 r :: st) := by
  obtain ⟨x, hx0, h⟩ := ob_e h
  obtain ⟨id, hid, hx1⟩ := ob_e hx0
  obtain ⟨rfl, hlt, hkd⟩ := jk_e hid
  obtain ⟨j, hj, hx2⟩ := ob_e hx1
  obtain ⟨hin, rfl, -⟩ := jin_e hj
  cases hx2
  intro H locs ls h1 h2 h3
  have he : (yW Y w μ)[id]? = some (w.1 id, .inl (w.2.2 1, Y.2.2.1 id, .inr (.inl (μ.2.1 id)))) := by rw [yW_at hlt, yC_7 hkd]
  exact va_lald (D := w.2.1) C.1 C.2.1 C.2.2.2.2.2.1 h2 id 1 he rfl hin hdg (kk _ h H locs ls h1 h2 h3)
theorem y_ls (C : yX p e R s m args c Y w nL cc own) {r : Option Nat} {i : Int32} {v : Int64} {ρ : Type} {out : ρ} {K : Mm → Option ρ} (hdg : decode cc pc = .ok (.lastore, 1)) (h : ob (jls Y μ r i v) K = some out) (kk : ∀ x : Mm, K x = some out → yG p l e R s m args below meth c Y w nL Q x (pc + 1) lv (st)) : yG p l e R s m args below meth c Y w nL Q μ (pc) lv (.long v :: .int i :: va_re w.1 r :: st) := by
  obtain ⟨x, hx0, h⟩ := ob_e h
  obtain ⟨id, hid, hx1⟩ := ob_e hx0
  obtain ⟨rfl, hlt, hkd⟩ := jk_e hid
  obtain ⟨j, hj, hx2⟩ := ob_e hx1
  obtain ⟨hin, rfl, -⟩ := jin_e hj
  cases hx2
  intro H locs ls h1 h2 h3
  have he : (yW Y w μ)[id]? = some (w.1 id, .inl (w.2.2 1, Y.2.2.1 id, .inr (.inl (μ.2.1 id)))) := by rw [yW_at hlt, yC_7 hkd]
  refine va_last (D := w.2.1) C.1 C.2.1 C.2.2.2.2.2.1 h2 (yD C.2.2.2.2.2.2.1) h3 id 1 he rfl hin hdg (fun H1 locs1 g1 g2 g3 => kk _ h H1 locs1 ls h1 ?_ g3)
  rw [yW_set (μ' := (μ.1, y2 μ.2.1 id i.toNatClampNeg v, μ.2.2)) hlt (by rw [yC_7 hkd]; congr 5; funext z; simp [y2, vp_updL]) (fun x hx => ?_)] at g1
  · exact g1
  · have e : (y2 μ.2.1 id i.toNatClampNeg v) x = μ.2.1 x := by funext z; simp [y2, hx]
    have e2 : ∀ ci n, yF Y w (μ.1, y2 μ.2.1 id i.toNatClampNeg v, μ.2.2) x ci n = yF Y w μ x ci n := fun ci n => rfl
    simp only [yC, e, e2]
theorem y_aa (C : yX p e R s m args c Y w nL cc own) {r : Option Nat} {i : Int32} {ki : Nat} {C0 : String} {ρ : Type} {out : ρ} {K : Option Nat → Option ρ} (hty : (yTys w)[ki + 2]? = some (w.2.2 (ki + 2), .object C0)) (hdg : decode cc pc = .ok (.aaload, 1)) (h : ob (jaa Y (ki + 8) r i) K = some out) (kk : ∀ x : Option Nat, K x = some out → yG p l e R s m args below meth c Y w nL Q μ (pc + 1) lv (va_re w.1 x :: st)) : yG p l e R s m args below meth c Y w nL Q μ (pc) lv (.int i :: va_re w.1 r :: st) := by
  obtain ⟨x, hx0, h⟩ := ob_e h
  obtain ⟨id, hid, hx1⟩ := ob_e hx0
  obtain ⟨rfl, hlt, hkd⟩ := jk_e hid
  obtain ⟨j, hj, hx2⟩ := ob_e hx1
  obtain ⟨hin, rfl, -⟩ := jin_e hj
  cases hx2
  intro H locs ls h1 h2 h3
  have he : (yW Y w μ)[id]? = some (w.1 id, .inl (w.2.2 (ki + 2), Y.2.2.1 id, .inr (.inr (.inr (.inr (fun j => (Y.2.2.2 id j).map w.1)))))) := by rw [yW_at hlt, yC_8 hkd]
  exact va_aldq (D := w.2.1) C.1 C.2.1 C.2.2.2.2.2.1 h2 id (ki + 2) he hty hin hdg (kk _ h H locs ls h1 h2 h3)
theorem y_lni (C : yX p e R s m args c Y w nL cc own) {r : Option Nat} {ρ : Type} {out : ρ} {K : Int32 → Option ρ} (hdg : decode cc pc = .ok (.arraylength, 1)) (h : ob (jln Y 6 r) K = some out) (kk : ∀ x : Int32, K x = some out → yG p l e R s m args below meth c Y w nL Q μ (pc + 1) lv (.int x :: st)) : yG p l e R s m args below meth c Y w nL Q μ (pc) lv (va_re w.1 r :: st) := by
  obtain ⟨x, hx0, h⟩ := ob_e h
  obtain ⟨id, hid, hx1⟩ := ob_e hx0
  obtain ⟨rfl, hlt, hkd⟩ := jk_e hid
  cases hx1
  intro H locs ls h1 h2 h3
  have he : (yW Y w μ)[id]? = some (w.1 id, .inl (w.2.2 0, Y.2.2.1 id, .inl (μ.1 id))) := by rw [yW_at hlt, yC_6 hkd]
  exact va_alen (D := w.2.1) C.1 C.2.1 C.2.2.2.2.2.1 h2 id 0 he rfl rfl hdg (kk _ h H locs ls h1 h2 h3)
theorem y_lnr (C : yX p e R s m args c Y w nL cc own) {r : Option Nat} {ki : Nat} {C0 : String} {ρ : Type} {out : ρ} {K : Int32 → Option ρ} (hty : (yTys w)[ki + 2]? = some (w.2.2 (ki + 2), .object C0)) (hdg : decode cc pc = .ok (.arraylength, 1)) (h : ob (jln Y (ki + 8) r) K = some out) (kk : ∀ x : Int32, K x = some out → yG p l e R s m args below meth c Y w nL Q μ (pc + 1) lv (.int x :: st)) : yG p l e R s m args below meth c Y w nL Q μ (pc) lv (va_re w.1 r :: st) := by
  obtain ⟨x, hx0, h⟩ := ob_e h
  obtain ⟨id, hid, hx1⟩ := ob_e hx0
  obtain ⟨rfl, hlt, hkd⟩ := jk_e hid
  cases hx1
  intro H locs ls h1 h2 h3
  have he : (yW Y w μ)[id]? = some (w.1 id, .inl (w.2.2 (ki + 2), Y.2.2.1 id, .inr (.inr (.inr (.inr (fun j => (Y.2.2.2 id j).map w.1)))))) := by rw [yW_at hlt, yC_8 hkd]
  exact va_alen (D := w.2.1) C.1 C.2.1 C.2.2.2.2.2.1 h2 id (ki + 2) he hty rfl hdg (kk _ h H locs ls h1 h2 h3)
theorem y_iret (C : yX p e R s m args c Y w nL cc own) {v : Int32} {out : Int32 × Mm} (hr : meth.sig.returnType = some .int) (hlocks : meth.locks = false) (hdg : decode cc pc = .ok (.ireturn, 1)) (h : some (v, μ) = some out) : yG p l e R s m args below meth c Y w nL (MQ below (yQ Y w yfi out) args s 0 0 (yA Y w)) μ pc lv [.int v] := by
  cases h
  intro H locs ls h1 h2 h3
  exact W.iret C.1 C.2.1 hr (fun t ht hW => ⟨rfl, by rw [ht]; exact h2, h3.F ht⟩) h3.2.2 hdg hlocks
theorem y_lret (C : yX p e R s m args c Y w nL cc own) {v : Int64} {out : Int64 × Mm} (hr : meth.sig.returnType = some .long) (hlocks : meth.locks = false) (hdg : decode cc pc = .ok (.lreturn, 1)) (h : some (v, μ) = some out) : yG p l e R s m args below meth c Y w nL (MQ below (yQ Y w yfl out) args s 0 0 (yA Y w)) μ pc lv [.long v] := by
  cases h
  intro H locs ls h1 h2 h3
  exact W.lret C.1 C.2.1 hr (fun t ht hW => ⟨rfl, by rw [ht]; exact h2, h3.F ht⟩) h3.2.2 hdg hlocks
theorem y_zret (C : yX p e R s m args c Y w nL cc own) {v : Int32} {out : Int32 × Mm} (hr : meth.sig.returnType = some .boolean) (hlocks : meth.locks = false) (hdg : decode cc pc = .ok (.ireturn, 1)) (h : ob (jz v) (fun v => some (v, μ)) = some out) : yG p l e R s m args below meth c Y w nL (MQ below (yQ Y w yfi out) args s 0 0 (yA Y w)) μ pc lv [.int v] := by
  obtain ⟨x, hx, h⟩ := ob_e h
  unfold jz at hx
  by_cases hv : v = 0 ∨ v = 1
  · rw [if_pos hv] at hx
    cases hx
    cases h
    intro H locs ls h1 h2 h3
    exact W.zret C.1 C.2.1 hr (by rcases hv with rfl | rfl <;> rfl) (fun t ht hW => ⟨rfl, by rw [ht]; exact h2, h3.F ht⟩) h3.2.2 hdg hlocks
  · rw [if_neg hv] at hx; cases hx
theorem y_aret (C : yX p e R s m args c Y w nL cc own) {v : Option Nat} {out : Option Nat × Mm} {n : String} (hr : meth.sig.returnType = some (.object n)) (hlocks : meth.locks = false) (hdg : decode cc pc = .ok (.areturn, 1)) (h : some (v, μ) = some out) : yG p l e R s m args below meth c Y w nL (MQ below (yQ Y w (yfr w) out) args s 0 0 (yA Y w)) μ pc lv [va_re w.1 v] := by
  cases h
  intro H locs ls h1 h2 h3
  exact W.aret C.1 C.2.1 hr (Or.inl ⟨_, rfl⟩) (by cases v with
    | none => exact Or.inl rfl
    | some z => exact Or.inr ⟨w.1 z, rfl⟩) (fun t ht hW => ⟨rfl, by rw [ht]; exact h2, h3.F ht⟩) h3.2.2 hdg hlocks
theorem y_vret (C : yX p e R s m args c Y w nL cc own) {out : Unit × Mm} (hr : meth.sig.returnType = none) (hlocks : meth.locks = false) (hdg : decode cc pc = .ok (.return_, 1)) (h : some ((), μ) = some out) : yG p l e R s m args below meth c Y w nL (MQ below (yQ Y w yfv out) args s 0 0 (yA Y w)) μ pc lv [] := by
  cases h
  intro H locs ls h1 h2 h3
  exact W.vret C.1 C.2.1 hr (fun t ht hW => ⟨rfl, by rw [ht]; exact h2, h3.F ht⟩) h3.2.2 hdg hlocks
theorem yB.blind {Y : Sy} {w : WP} {μ : Mm} {As : List Value} : FrameBlind (va_Pc As (yB Y w μ)) := fun a U g mk h => ⟨h.1, h.2.1, va_K.moved (u := U) (U := U.calling g mk a) (Vm.Alike.refl U.vm) h.2.2.1, h.2.2.2.1, h.2.2.2.2.calling⟩
theorem y_back {y : MethodName} {rm : Room} {ρ : Type} {f : ρ → Option Value} {out : ρ × Mm} {H : Heap} {locs : List Loc} {ls : Array Slot} {st0 : List Value} {a : Array Value} (C : yX p e R s m args c Y w nL cc own) (hl : lv_has ls nL lv) (hS : va_S (yA Y w) s.heap H locs) (hr : va_Run p l e R s m args below meth c H locs 0 0 0 0 (F0 m pc ls st0) st (yQ Y w f out a) (yA Y w)) (kk : yG p l e R s m args below meth c Y w nL Q out.2 (pc + 3) lv ((f out.1).toList ++ st)) : W p l e R s m args below meth c H locs 0 0 Q (F0 m pc ls st0) := by
  intro T hT X
  obtain ⟨v, st₀, t, T', L, h0, X', hL, e1, e2, ⟨hv, hp, hz, hk⟩, stp⟩ := hr T hT X
  cases hv
  rw [h0] at hz hk
  have hS1 : va_S (yA Y w) s.heap T'.heap (locs ++ L) := ⟨Nat.le_trans hS.1 (by rw [e1]; exact hz), fun q h1 h2 => by rw [e1, hk q (Nat.lt_of_lt_of_le h1 hS.1) h2]; exact hS.2.1 q h1 h2, fun q hq => by
      rcases List.mem_append.mp hq with h | h
      · exact hS.2.2 q h
      · exact hL q h⟩
  obtain ⟨t2, a1, b1⟩ := kk T'.heap (locs ++ L) ls hl (by rw [e1]; exact hp) hS1 T' rfl X'
  exact ⟨t2, stp t2 a1, b1⟩
theorem y_callV {y : MethodName} {bytes : ByteArray} {maxL index ci : Nat} {ret : Option FieldType} {rm : Room} {ρ ρ' : Type} {f : ρ → Option Value} {r : Option Nat} {As st0 : List Value} {fy : Nat → Option (ρ × Mm)} {K : ρ → Mm → Option ρ'} {z : ρ'} {q : vw_C} (n : Nat) (C : yX p e R s m args c Y w nL cc own)
    (hM : ∀ o out, fy o = some out → yMet l y (yWs y bytes maxL ret) rm Y w μ (va_re w.1 (some o) :: As) f out) (hg : GoodIn yGW (wsV own index q.1 y (yWs y bytes maxL ret))) (hcl : yCl[ci]? = some q) (h6 : ci < 6)
    (hd : y.cls = q.1 ∧ y.cls ≠ "java/lang/invoke/MethodHandle" ∧ y.cls ≠ "java/lang/invoke/VarHandle" ∧ (parseMethodDescriptor y.desc).map (fun d => d.parameters.length) = some n) (hR : rm.frames + 1 ≤ R.frames ∧ 8 + (maxL + 11) + rm.locals ≤ R.locals) (hrc : rm.cells = 0) (hrs : rm.slots = 0)
    (hn : As.length = n) (hst : st0 = As.reverse ++ va_re w.1 r :: st) (hcat : (st.map fun v => v.category).sum ≤ 8) (hdg : decode cc pc = .ok (.invokevirtual index, 3))
    (h : ob (jk Y ci r) (fun o => yb (fy o) K) = some z) (kk : ∀ x μ1, K x μ1 = some z → yG p l e R s m args below meth c Y w nL Q μ1 (pc + 3) lv ((f x).toList ++ st)) : yG p l e R s m args below meth c Y w nL Q μ pc lv st0 := by
  obtain ⟨id, hid, hh⟩ := ob_e h
  obtain ⟨rfl, hlt, hkd⟩ := jk_e hid
  obtain ⟨out, ho, hh2⟩ := yb_e hh
  subst hst
  intro H locs ls h1 h2 h3
  have he : (yW Y w μ)[id]? = some (w.1 id, .inr (ci, yF Y w μ id ci (yNf ci))) := by rw [yW_at hlt, yC_c hkd h6]
  exact y_back (y := y) (rm := rm) C h1 h3 (va_runV (b := w.1 id) (As := As) (rest := st) (nL := nL) (own := own) ⟨C.1, C.2.1, C.2.2.1, C.2.2.2.1, C.2.2.2.2.1⟩ (hM id out ho) (cwV n C.2.2.2.2.1 hg rfl hrc hrs hd hR) ⟨yB.blind, va_recv C.2.2.2.2.2.1 h2 hcl he, fun U hU hW => ⟨rfl, by rw [hU]; exact h2, va_K.moved hW.alike C.2.2.2.2.2.1, C.2.2.2.2.2.2.1, C.2.2.2.2.2.2.2.warm hW⟩⟩ rfl hn h1.1 rfl (lv_room hcat) hdg ⟨Nat.zero_le _, Nat.zero_le _⟩) (kk _ _ hh2)
theorem y_callS {y : MethodName} {bytes : ByteArray} {maxL index : Nat} {ret : Option FieldType} {rm : Room} {ρ ρ' : Type} {f : ρ → Option Value} {As st0 : List Value} {fy : Option (ρ × Mm)} {K : ρ → Mm → Option ρ'} {z : ρ'} (n : Nat) (C : yX p e R s m args c Y w nL cc own)
    (hM : ∀ out, fy = some out → yMet l y (yWs y bytes maxL ret) rm Y w μ As f out) (hg : GoodIn yGW (yWs y bytes maxL ret)) (hlk : Cond.methodLink own index y ∈ yGW) (hini : Cond.initialized y.cls ∈ yGW) (hstat : Cond.static y ∈ yGW)
    (hd : y.cls ≠ "java/lang/invoke/MethodHandle" ∧ y.cls ≠ "java/lang/invoke/VarHandle" ∧ (parseMethodDescriptor y.desc).map (fun d => d.parameters.length) = some n) (hR : rm.frames + 1 ≤ R.frames ∧ 8 + (maxL + 11) + rm.locals ≤ R.locals) (hrc : rm.cells = 0) (hrs : rm.slots = 0)
    (hn : As.length = n) (hst : st0 = As.reverse ++ st) (hcat : (st.map fun v => v.category).sum ≤ 8) (hdg : decode cc pc = .ok (.invokestatic index, 3))
    (h : yb fy K = some z) (kk : ∀ x μ1, K x μ1 = some z → yG p l e R s m args below meth c Y w nL Q μ1 (pc + 3) lv ((f x).toList ++ st)) : yG p l e R s m args below meth c Y w nL Q μ pc lv st0 := by
  obtain ⟨out, ho, h⟩ := yb_e h
  subst hst
  intro H locs ls h1 h2 h3
  exact y_back (y := y) (rm := rm) C h1 h3 (va_runS (As := As) (rest := st) (nL := nL) (own := own) ⟨C.1, C.2.1, C.2.2.1, C.2.2.2.1, C.2.2.2.2.1⟩ (hM out ho) ⟨callB_of n C.2.2.2.2.1 hg rfl hrc hrs (C.2.2.2.2.1 _ hini) (C.2.2.2.2.1 _ hlk) hd hR, C.2.2.2.2.1 _ hstat⟩ ⟨yB.blind, fun U hU hW => ⟨rfl, by rw [hU]; exact h2, va_K.moved hW.alike C.2.2.2.2.2.1, C.2.2.2.2.2.2.1, C.2.2.2.2.2.2.2.warm hW⟩⟩ rfl hn h1.1 rfl (lv_room hcat) hdg ⟨Nat.zero_le _, Nat.zero_le _⟩) (kk _ _ h)
theorem y_callN {y : MethodName} {bytes : ByteArray} {maxL index : Nat} {ret : Option FieldType} {rm : Room} {host : String} {ρ ρ' : Type} {f : ρ → Option Value} {As st0 : List Value} {fy : Option (ρ × Mm)} {K : ρ → Mm → Option ρ'} {z : ρ'} (n : Nat) (C : yX p e R s m args c Y w nL cc own)
    (hM : ∀ out, fy = some out → yMet l y (yWs y bytes maxL ret) rm Y w μ As f out) (hg : GoodIn yGW (yWs y bytes maxL ret)) (hnest : Cond.methodLinkNest own index y host ∈ yNst) (hini : Cond.initialized y.cls ∈ yGW) (hstat : Cond.static y ∈ yGW)
    (hd : y.cls ≠ "java/lang/invoke/MethodHandle" ∧ y.cls ≠ "java/lang/invoke/VarHandle" ∧ (parseMethodDescriptor y.desc).map (fun d => d.parameters.length) = some n) (hR : rm.frames + 1 ≤ R.frames ∧ 8 + (maxL + 11) + rm.locals ≤ R.locals) (hrc : rm.cells = 0) (hrs : rm.slots = 0)
    (hn : As.length = n) (hst : st0 = As.reverse ++ st) (hcat : (st.map fun v => v.category).sum ≤ 8) (hdg : decode cc pc = .ok (.invokestatic index, 3))
    (h : yb fy K = some z) (kk : ∀ x μ1, K x μ1 = some z → yG p l e R s m args below meth c Y w nL Q μ1 (pc + 3) lv ((f x).toList ++ st)) : yG p l e R s m args below meth c Y w nL Q μ pc lv st0 := by
  obtain ⟨out, ho, h⟩ := yb_e h
  subst hst
  intro H locs ls h1 h2 h3
  exact y_back (y := y) (rm := rm) C h1 h3 (va_runSN (host := host) (As := As) (rest := st) (nL := nL) (own := own) (Ts := yGW) ⟨C.1, C.2.1, C.2.2.1, C.2.2.2.1, C.2.2.2.2.1⟩ (hM out ho) ⟨va_cnB n C.2.2.2.2.1 hg rfl hrc hrs (C.2.2.2.2.2.2.2 _ hnest) (C.2.2.2.2.1 _ hini) hd hR, C.2.2.2.2.1 _ hstat, trivial⟩ ⟨yB.blind, fun U hU hW => ⟨rfl, by rw [hU]; exact h2, va_K.moved hW.alike C.2.2.2.2.2.1, C.2.2.2.2.2.2.1, C.2.2.2.2.2.2.2.warm hW⟩⟩ rfl hn h1.1 rfl (lv_room hcat) hdg ⟨Nat.zero_le _, Nat.zero_le _⟩) (kk _ _ h)
end YR
theorem y_entry {l : Launch} {y : MethodName} {rm : Room} {Y : Sy} {w : WP} {μ : Mm} {As : List Value} {ρ : Type} {f : ρ → Option Value} {out : ρ × Mm} {cc : ByteArray} {maxL : Nat} {ret : Option FieldType} {own : String} {lv : List (Nat × Value)} (hy : plainName y.cls = true) (hcls : y.cls = own) (hlv : lv_args 0 As = lv) (hlen : (lg_sl As).length ≤ maxL)
    (body : ∀ (p : Program) (e : Env) (s : State) (m : MethodId) (args : Array Value) (below : List Frame) (meth : Method) (c : Code), yX p e rm s m args c Y w maxL cc own → meth.sig.returnType = ret → meth.locks = false → yG p l e rm s m args below meth c Y w maxL (MQ below (yQ Y w f out) args s 0 0 (yA Y w)) μ 0 lv []) : yMet l y (yWs y cc maxL ret) rm Y w μ As f out := by
  refine Met.ofW (cc := cc) (maxL := maxL) (ret := ret) hy rfl ?_
  intro p e s m args below meth c s₁ B hml hv
  obtain ⟨rfl, hP, hK, hI, hN⟩ := hv
  have hts := atoms_spec (ws := yWs y cc maxL ret) B.pre
  have hown : s.vm.findClass own = some m.cls := hcls ▸ findClass_of_methodNamed B.named
  have hl := lv_entry As (n := maxL) hlen
  rw [hlv] at hl
  rw [lg_entry_eq]
  exact body p e s m As.toArray below meth c ⟨B.exec, B.bytes, hml, hown, fun w hw => hts w (List.mem_cons_of_mem _ hw), hK, hI, hN⟩ B.returns B.notSynchronized s.heap [] _ hl hP va_S.rf
