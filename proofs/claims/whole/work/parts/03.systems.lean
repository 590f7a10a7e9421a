/-! THE TWO SYSTEMS -/
/-- the class: cell 0 the WhoseGlass; a house at 1, 22, 43 (itself, its glasses' row, its guests' row, 12 glasses, 6 guests); 64 the shelves' row; a shelf at 65, 67 .., its elements behind it -/
def kdX (id : Nat) : Nat := if id = 0 then 4 else if id ≤ 63 then (if (id - 1) % 21 = 0 then 2 else if (id - 1) % 21 = 1 then 8 else if (id - 1) % 21 = 2 then 9 else if (id - 1) % 21 ≤ 14 then 0 else 1) else if id = 64 then 10 else if id % 2 = 1 then 3 else 6
def lnX (id : Nat) : Nat := if id = 64 then 8 else if 64 < id then 100 else if (id - 1) % 21 = 1 then 12 else 6
def rfX (id k : Nat) : Option Nat := if id = 0 then (if k = 0 then some 1 else if k = 1 then some 22 else if k = 2 then some 43 else some 64) else if id = 64 then some (65 + 2 * k) else if 64 < id then some (id + 1) else if (id - 1) % 21 = 0 then some (id + 1 + k) else if (id - 1) % 21 = 1 then some (id + 2 + k) else some (id + 13 + k)
def YX : Sy := (81, kdX, lnX, rfX)
/-- the reference: cell 0 the model; its rows in the order of their making -/
def kdM (id : Nat) : Nat := if id = 0 then 5 else if id < 27 then 6 else 7
def lnM (id : Nat) : Nat := if id ≤ 7 then 12 else if id ≤ 16 then 6 else if id ≤ 18 then 142 else if id ≤ 20 then 51 else if id = 21 then 255 else if id ≤ 26 then 8 else if id = 27 then 800 else 100
def rfM (_ k : Nat) : Option Nat := if k ≤ 19 then some (k - 3) else if k ≤ 25 then some (k - 7) else if k ≤ 37 then some (k - 16) else some (k - 17)
def YM : Sy := (29, kdM, lnM, rfM)
theorem YM_one : ∀ x, x ≠ 0 → YM.2.1 x ≠ 5 := by
  intro x hx
  show kdM x ≠ 5
  unfold kdM
  rw [if_neg hx]
  split <;> decide
theorem y_tdef {x : Int32} {lo hi dflt : Int} {offs : Array Int} (n : Nat) (hn : hi = lo + n) (hs : ∀ i : Nat, i ≤ n → (¬ x.toInt = lo + i ∨ offs[i]? = some dflt)) : ((x.toInt < lo ∨ hi < x.toInt) ∧ dflt = dflt) ∨ (¬ x.toInt < lo ∧ ¬ hi < x.toInt ∧ offs[(x.toInt - lo).toNat]? = some dflt) := by
  by_cases h : x.toInt < lo ∨ hi < x.toInt
  · exact Or.inl ⟨h, rfl⟩
  · have h1 : ¬ x.toInt < lo := fun q => h (Or.inl q)
    have h2 : ¬ hi < x.toInt := fun q => h (Or.inr q)
    refine Or.inr ⟨h1, h2, ?_⟩
    rcases hs (x.toInt - lo).toNat (by omega) with q | q
    · exact absurd (by omega) q
    · exact q
theorem y_catI (x : Int32) : (Value.int x).category = 1 := rfl
theorem y_catJ (x : Int64) : (Value.long x).category = 2 := rfl
/-- System.arraycopy between two rows of ints -/
def jcp (Y : Sy) (μ : Mm) (r1 : Option Nat) (i : Int32) (r2 : Option Nat) (j n : Int32) : Option Mm := ob (jk Y 6 r1) fun a => ob (jk Y 6 r2) fun b => if 0 ≤ i ∧ 0 ≤ j ∧ 0 ≤ n ∧ i.toNatClampNeg + n.toNatClampNeg ≤ Y.2.2.1 a ∧ j.toNatClampNeg + n.toNatClampNeg ≤ Y.2.2.1 b then some ((fun x k => if x = b then va_cpy (μ.1 a) (μ.1 b) i.toNatClampNeg j.toNatClampNeg n.toNatClampNeg k else μ.1 x k), μ.2.1, μ.2.2) else none
section YR2
variable {p : Program} {l : Launch} {e : Env} {R : Room} {s : State} {m : MethodId} {args : Array Value} {below : List Frame} {meth : Method} {c : Code} {Y : Sy} {w : WP} {nL : Nat} {Q : State → Prop} {cc : ByteArray} {own : String}
variable {μ : Mm} {pc : Nat} {lv : List (Nat × Value)} {st : List Value}
theorem y_mmax (C : yX p e R s m args c Y w nL cc own) {x y : Int32} {index : Nat} (h1 : Cond.methodLink own index Lib.Math.max.name ∈ yGW) (h2 : Cond.static Lib.Math.max.name ∈ yGW) (h3 : Cond.initialized "java/lang/Math" ∈ yGW) (h4 : Cond.code Lib.Math.max.name Lib.Math.max.code 2 (some .int) ∈ yGW) (hfr : 1 ≤ R.frames) (hlo : (st.map fun v => v.category).sum + 13 ≤ R.locals) (hdg : decode cc pc = .ok (.invokestatic index, 3)) (k : yG p l e R s m args below meth c Y w nL Q μ (pc + 3) lv (.int (if x < y then y else x) :: st)) : yG p l e R s m args below meth c Y w nL Q μ pc lv (.int y :: .int x :: st) :=
  fun H locs ls g1 g2 g3 => va_mmax C.1 C.2.1 (C.2.2.1.trans g1.1.symm) C.2.2.2.1 (C.2.2.2.2.1 _ h1) (C.2.2.2.2.1 _ h2) (C.2.2.2.2.1 _ h3) (C.2.2.2.2.1 _ h4) hfr hlo (Nat.zero_le _) (Nat.zero_le _) hdg (k H locs ls g1 g2 g3)
theorem y_cpy (C : yX p e R s m args c Y w nL cc own) {r1 r2 : Option Nat} {i j n : Int32} {index : Nat} {ρ : Type} {out : ρ} {K : Mm → Option ρ} (h1 : Cond.methodLink own index arraycopyName ∈ yGW) (h2 : Cond.native arraycopyName ∈ yGW) (h3 : Cond.static arraycopyName ∈ yGW) (h4 : Cond.initialized "java/lang/System" ∈ yGW) (hfr : 1 ≤ R.frames) (hlo : (st.map fun v => v.category).sum + (nativeFrameWords "java/lang/System" "arraycopy" 5 + 11) ≤ R.locals) (hdg : decode cc pc = .ok (.invokestatic index, 3)) (h : ob (jcp Y μ r1 i r2 j n) K = some out) (kk : ∀ x : Mm, K x = some out → yG p l e R s m args below meth c Y w nL Q x (pc + 3) lv st) : yG p l e R s m args below meth c Y w nL Q μ pc lv (.int n :: .int j :: va_re w.1 r2 :: .int i :: va_re w.1 r1 :: st) := by
  obtain ⟨x, hx0, hh⟩ := ob_e h
  obtain ⟨a, ha, hx1⟩ := ob_e hx0
  obtain ⟨b, hb, hx2⟩ := ob_e hx1
  obtain ⟨e1, alt, akd⟩ := jk_e ha
  obtain ⟨e2, blt, bkd⟩ := jk_e hb
  subst e1
  subst e2
  by_cases hc : 0 ≤ i ∧ 0 ≤ j ∧ 0 ≤ n ∧ i.toNatClampNeg + n.toNatClampNeg ≤ Y.2.2.1 a ∧ j.toNatClampNeg + n.toNatClampNeg ≤ Y.2.2.1 b
  · rw [if_pos hc] at hx2
    cases hx2
    obtain ⟨c1, c2, c3, c4, c5⟩ := hc
    intro H locs ls g1 g2 g3
    have hA : (yW Y w μ)[a]? = some (w.1 a, .inl (w.2.2 0, Y.2.2.1 a, .inl (μ.1 a))) := by rw [yW_at alt, yC_6 akd]
    have hB : (yW Y w μ)[b]? = some (w.1 b, .inl (w.2.2 0, Y.2.2.1 b, .inl (μ.1 b))) := by rw [yW_at blt, yC_6 bkd]
    refine va_copyi (D := w.2.1) (a0 := w.1 a) (a := w.1 b) (ty := .int) C.1 C.2.1 (C.2.2.1.trans g1.1.symm) C.2.2.2.1 (C.2.2.2.2.1 _ h1) (C.2.2.2.2.1 _ h2) (C.2.2.2.2.1 _ h3) (C.2.2.2.2.1 _ h4) C.2.2.2.2.2.1 g2 (yD C.2.2.2.2.2.2.1) g3 a b 0 0 hA hB rfl rfl rfl (Int32.not_lt.mpr c1) (Int32.not_lt.mpr c2) (Int32.not_lt.mpr c3) c4 c5 (fun _ _ => rfl) hfr hlo hdg (fun H1 locs1 k1 k2 k3 => kk _ hh H1 locs1 ls g1 ?_ k3)
    rw [yW_set (μ' := ((fun x k => if x = b then va_cpy (μ.1 a) (μ.1 b) i.toNatClampNeg j.toNatClampNeg n.toNatClampNeg k else μ.1 x k), μ.2.1, μ.2.2)) blt (by rw [yC_6 bkd]; congr 4; funext z; simp) (fun x hx => ?_)] at k1
    · exact k1
    · have e : (fun k => if x = b then va_cpy (μ.1 a) (μ.1 b) i.toNatClampNeg j.toNatClampNeg n.toNatClampNeg k else μ.1 x k) = μ.1 x := by funext k; simp [hx]
      have e2 : ∀ ci n0, yF Y w ((fun x k => if x = b then va_cpy (μ.1 a) (μ.1 b) i.toNatClampNeg j.toNatClampNeg n.toNatClampNeg k else μ.1 x k), μ.2.1, μ.2.2) x ci n0 = yF Y w μ x ci n0 := by
        intro ci n0
        unfold yF
        congr 1
        funext k
        simp only [yV, hx, if_false]
      simp only [yC, e2]
      rw [e]
  · rw [if_neg hc] at hx2; cases hx2
end YR2
