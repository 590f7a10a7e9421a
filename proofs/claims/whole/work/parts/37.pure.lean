/-! PURE 37: the calls that ask and change a glass or a guest -/
theorem IvP.h {S : Hs} {p : Nat} (hv : Iv S) (hp : p < sP S) : sp S p 5 = -4 ∨ ∃ g, g < sG S ∧ sp S p 5 = nI g := (hv.2.2.2.2 p hp).2.2.2.2.1
theorem IvP.o {S : Hs} {p : Nat} (hv : Iv S) (hp : p < sP S) : sp S p 6 = -4 ∨ ∃ g, g < sG S ∧ sp S p 6 = nI g := (hv.2.2.2.2 p hp).2.2.2.2.2.1
theorem m4_o {n : Nat} : Out (-4) n := Or.inl (by decide)
theorem m4_n {n : Nat} (h : n < 2 ^ 31) : ¬ nI n = -4 := fun z => nI_pos h (by rw [z]; decide)
def vG (S : Hs) (g j : Nat) : Int32 := if j < 4 then sg S g j else if j = 4 then sg S g 5 else if j = 5 then sg S g 6 else sg S g 4
def vP (S : Hs) (p j : Nat) : Int32 := sp S p j
theorem o7 {j : Nat} (h : j < 7) : j = 0 ∨ j = 1 ∨ j = 2 ∨ j = 3 ∨ j = 4 ∨ j = 5 ∨ j = 6 := by omega
theorem o9 {j : Nat} (h : j < 9) : j = 0 ∨ j = 1 ∨ j = 2 ∨ j = 3 ∨ j = 4 ∨ j = 5 ∨ j = 6 ∨ j = 7 ∨ j = 8 := by omega
section QA
variable {N S : Hs} {μ0 μ σ τ : Mm} {F g j h p : Nat}
theorem x_toldG {P : Int32 × Mm → Prop} (X : XS h μ0 μ S) (hh : h < 3) (hv : Iv S ∧ Lv S) (hg : g < sG S) (hj : j < 7) (hk : P (vG S g j, μ)) : OkO (f_G_told F μ (gI h g) (nI j)) P := by
  have c6 := (hv.1.2.2.2.1 g hg).2.2.2
  unfold f_G_told
  rcases o7 hj with rfl | rfl | rfl | rfl | rfl | rfl | rfl
  · exact okT rfl (okJ (x_gG (k := 0) X hh hg (by decide) (by decide) (okR hk)))
  · exact okF (by decide) (okT rfl (okJ (x_gG (k := 1) X hh hg (by decide) (by decide) (okR hk))))
  · repeat (refine okF (by decide) ?_)
    exact okT rfl (okJ (x_gG (k := 2) X hh hg (by decide) (by decide) (okR hk)))
  · repeat (refine okF (by decide) ?_)
    exact okT rfl (okJ (x_gG (k := 3) X hh hg (by decide) (by decide) (okR hk)))
  · repeat (refine okF (by decide) ?_)
    exact okT rfl (okJ (x_gG (k := 5) X hh hg (by decide) (by decide) (okR hk)))
  · repeat (refine okF (by decide) ?_)
    have e : vG S g 5 = sg S g 6 := rfl
    rw [e] at hk
    refine okT rfl (okJ (x_gG (k := 6) X hh hg (by decide) (by decide) (okI (fun c => okR ?_) (fun c => okR ?_))))
    · rw [c] at hk; exact hk
    · rw [c6.resolve_left c] at hk; exact hk
  · repeat (refine okF (by decide) ?_)
    have e : vG S g 6 = sg S g 4 := rfl
    rw [e] at hk
    refine okT rfl (okJ (x_g X hh hg ?_))
    unfold f_G_isLaid
    refine okY (okJ (x_gG (k := 3) X hh hg (by decide) (by decide) (okI (fun c => okJ (okz (Or.inl rfl) (okR (okT rfl (okR ?_))))) (fun c => okJ (okz (Or.inr rfl) (okR (okF i1n (okJ (x_gL X hh hg (xnle.mp c) (okR hk))))))))))
    rw [(hv.2 g hg).resolve_left (fun z => xnlt.mpr c z)] at hk; exact hk
theorem x_toldG0 {P : Int32 × Mm → Prop} {b : Int32} (hb : Out b 7) (hk : P (-1, μ)) : OkO (f_G_told F μ (gI h g) b) P := by
  have hne : ∀ j, j < 7 → ¬ b = nI j := fun j hj z => hb.no (by decide) ⟨j, hj, z⟩
  unfold f_G_told
  exact okF (hne 0 (by decide)) (okF (hne 1 (by decide)) (okF (hne 2 (by decide)) (okF (hne 3 (by decide)) (okF (hne 4 (by decide)) (okF (hne 5 (by decide)) (okF (hne 6 (by decide)) (okR hk)))))))
theorem q_glass (a b : Int32) (R : Rl N σ τ) : Ag (f_X_glass F σ 0 a b) (f_M_glass F τ 0 a b) := by
  have X := R.x
  have hv := R.1.2.1
  unfold Ag f_X_glass
  refine okJ (x_r (hI 0) (okJ (x_h (by decide) ?_)))
  rcases px a (n := sG N) (by have := X.G; omega) with ⟨g, hg, rfl⟩ | ho
  · refine okY (x_glassAt X (by decide) hg ?_)
    refine okF sI_none (okJ (x_g X (by decide) hg ?_))
    rcases px b (n := 7) (by decide) with ⟨j, hj, rfl⟩ | hb
    · refine okY (x_toldG X (by decide) hv hg hj (okR ?_))
      unfold f_M_glass
      refine m_t R (fun τ1 R1 => okJ (m_k ?_))
      obtain ⟨d, e, M⟩ := R1.m
      refine okY (m_isG1 M.1 hg (okF i1n (okY (m_n1 (n := 7) hj (by decide) rfl (okF i1n ?_)))))
      rcases o7 hj with rfl | rfl | rfl | rfl | rfl | rfl | rfl
      · exact okT rfl (okJ (m_r 1 (okJ (m_gA (k := 0) M hg (by decide) (okR ⟨rfl, N, R1⟩)))))
      · repeat (refine okF (by decide) ?_)
        exact okT rfl (okJ (m_r 2 (okJ (m_gA (k := 1) M hg (by decide) (okR ⟨rfl, N, R1⟩)))))
      · repeat (refine okF (by decide) ?_)
        exact okT rfl (okJ (m_r 3 (okJ (m_gA (k := 2) M hg (by decide) (okR ⟨rfl, N, R1⟩)))))
      · repeat (refine okF (by decide) ?_)
        exact okT rfl (okJ (m_r 4 (okJ (m_gA (k := 3) M hg (by decide) (okR ⟨rfl, N, R1⟩)))))
      · repeat (refine okF (by decide) ?_)
        exact okT rfl (okJ (m_r 6 (okJ (m_gA (k := 5) M hg (by decide) (okR ⟨rfl, N, R1⟩)))))
      · repeat (refine okF (by decide) ?_)
        exact okT rfl (okJ (m_r 7 (okJ (m_gA (k := 6) M hg (by decide) (okR ⟨rfl, N, R1⟩)))))
      · repeat (refine okF (by decide) ?_)
        exact okJ (m_r 5 (okJ (m_gA (k := 4) M hg (by decide) (okR ⟨rfl, N, R1⟩))))
    · refine okY (x_toldG0 hb (okR ?_))
      unfold f_M_glass
      refine m_t R (fun τ1 R1 => okJ (m_k ?_))
      obtain ⟨d, e, M⟩ := R1.m
      exact okY (m_isG1 M.1 hg (okF i1n (okY (m_n0 (n := 7) hb (by decide) rfl (okT rfl (okR ⟨rfl, N, R1⟩))))))
  · refine okY (x_glassNo X (by decide) ho (okT rfl (okR ?_)))
    unfold f_M_glass
    refine m_t R (fun τ1 R1 => okJ (m_k ?_))
    obtain ⟨d, e, M⟩ := R1.m
    exact okY (m_isG0 M.1 ho (okT rfl (okR ⟨rfl, N, R1⟩)))
theorem x_toldP {P : Int32 × Mm → Prop} (X : XS h μ0 μ S) (hh : h < 3) (hv : Iv S) (hp : p < sP S) (hj : j < 9) (hk : P (vP S p j, μ)) : OkO (f_U_told F μ (pI h p) (nI j)) P := by
  have c8 := (hv.2.2.2.2 p hp).2.2.2.2.2.2
  unfold f_U_told
  rcases o9 hj with rfl | rfl | rfl | rfl | rfl | rfl | rfl | rfl | rfl
  · exact okT rfl (okJ (x_pG (k := 0) X hh hp (by decide) (okR hk)))
  · repeat (refine okF (by decide) ?_)
    exact okT rfl (okJ (x_pG (k := 1) X hh hp (by decide) (okR hk)))
  · repeat (refine okF (by decide) ?_)
    exact okT rfl (okJ (x_pG (k := 2) X hh hp (by decide) (okR hk)))
  · repeat (refine okF (by decide) ?_)
    exact okT rfl (okJ (x_pG (k := 3) X hh hp (by decide) (okR hk)))
  · repeat (refine okF (by decide) ?_)
    exact okT rfl (okJ (x_pG (k := 4) X hh hp (by decide) (okR hk)))
  · repeat (refine okF (by decide) ?_)
    exact okT rfl (okJ (x_pG (k := 5) X hh hp (by decide) (okR hk)))
  · repeat (refine okF (by decide) ?_)
    exact okT rfl (okJ (x_pG (k := 6) X hh hp (by decide) (okR hk)))
  · repeat (refine okF (by decide) ?_)
    exact okT rfl (okJ (x_pG (k := 7) X hh hp (by decide) (okR hk)))
  · repeat (refine okF (by decide) ?_)
    have e : vP S p 8 = sp S p 8 := rfl
    rw [e] at hk
    refine okT rfl (okJ (x_pG (k := 8) X hh hp (by decide) (okI (fun c => okR ?_) (fun c => okR ?_))))
    · rw [c] at hk; exact hk
    · rw [c8.resolve_left c] at hk; exact hk
theorem x_toldP0 {P : Int32 × Mm → Prop} {b : Int32} (hb : Out b 9) (hk : P (-1, μ)) : OkO (f_U_told F μ (pI h g) b) P := by
  have hne : ∀ j, j < 9 → ¬ b = nI j := fun j hj z => hb.no (by decide) ⟨j, hj, z⟩
  unfold f_U_told
  exact okF (hne 0 (by decide)) (okF (hne 1 (by decide)) (okF (hne 2 (by decide)) (okF (hne 3 (by decide)) (okF (hne 4 (by decide)) (okF (hne 5 (by decide)) (okF (hne 6 (by decide)) (okF (hne 7 (by decide)) (okF (hne 8 (by decide)) (okR hk)))))))))
theorem q_guest (a b : Int32) (R : Rl N σ τ) : Ag (f_X_guest F σ 0 a b) (f_M_guest F τ 0 a b) := by
  have X := R.x
  have hv := R.1.2.1
  unfold Ag f_X_guest
  refine okJ (x_r (hI 0) (okJ (x_h (by decide) ?_)))
  rcases px a (n := sP N) (by have := X.P; omega) with ⟨g, hg, rfl⟩ | ho
  · refine okY (x_guestAt X (by decide) hg ?_)
    refine okF sI_none (okJ (x_p X (by decide) hg ?_))
    rcases px b (n := 9) (by decide) with ⟨j, hj, rfl⟩ | hb
    · refine okY (x_toldP X (by decide) hv.1 hg hj (okR ?_))
      unfold f_M_guest
      refine m_t R (fun τ1 R1 => okJ (m_k ?_))
      obtain ⟨d, e, M⟩ := R1.m
      refine okY (m_isP1 M.1 hg (okF i1n (okY (m_n1 (n := 9) hj (by decide) rfl (okF i1n ?_)))))
      rcases o9 hj with rfl | rfl | rfl | rfl | rfl | rfl | rfl | rfl | rfl
      · exact okT rfl (okJ (m_r 8 (okJ (m_pA (k := 0) M hg (by decide) (okR ⟨rfl, N, R1⟩)))))
      · repeat (refine okF (by decide) ?_)
        exact okT rfl (okJ (m_r 9 (okJ (m_pA (k := 1) M hg (by decide) (okR ⟨rfl, N, R1⟩)))))
      · repeat (refine okF (by decide) ?_)
        exact okT rfl (okJ (m_r 10 (okJ (m_pA (k := 2) M hg (by decide) (okR ⟨rfl, N, R1⟩)))))
      · repeat (refine okF (by decide) ?_)
        exact okT rfl (okJ (m_r 11 (okJ (m_pA (k := 3) M hg (by decide) (okR ⟨rfl, N, R1⟩)))))
      · repeat (refine okF (by decide) ?_)
        exact okT rfl (okJ (m_r 12 (okJ (m_pA (k := 4) M hg (by decide) (okR ⟨rfl, N, R1⟩)))))
      · repeat (refine okF (by decide) ?_)
        exact okT rfl (okJ (m_r 13 (okJ (m_pA (k := 5) M hg (by decide) (okR ⟨rfl, N, R1⟩)))))
      · repeat (refine okF (by decide) ?_)
        exact okT rfl (okJ (m_r 14 (okJ (m_pA (k := 6) M hg (by decide) (okR ⟨rfl, N, R1⟩)))))
      · repeat (refine okF (by decide) ?_)
        exact okT rfl (okJ (m_r 15 (okJ (m_pA (k := 7) M hg (by decide) (okR ⟨rfl, N, R1⟩)))))
      · repeat (refine okF (by decide) ?_)
        exact okJ (m_r 16 (okJ (m_pA (k := 8) M hg (by decide) (okR ⟨rfl, N, R1⟩))))
    · refine okY (x_toldP0 hb (okR ?_))
      unfold f_M_guest
      refine m_t R (fun τ1 R1 => okJ (m_k ?_))
      obtain ⟨d, e, M⟩ := R1.m
      exact okY (m_isP1 M.1 hg (okF i1n (okY (m_n0 (n := 9) hb (by decide) rfl (okT rfl (okR ⟨rfl, N, R1⟩))))))
  · refine okY (x_guestNo X (by decide) ho (okT rfl (okR ?_)))
    unfold f_M_guest
    refine m_t R (fun τ1 R1 => okJ (m_k ?_))
    obtain ⟨d, e, M⟩ := R1.m
    exact okY (m_isP0 M.1 ho (okT rfl (okR ⟨rfl, N, R1⟩)))
theorem q_go (a b : Int32) (R : Rl N σ τ) : Ag (f_X_go F σ 0 a b) (f_M_go F τ 0 a b) := by
  have X := R.x
  have hv := R.1.2.1
  unfold Ag f_X_go f_M_go
  refine okJ (x_r (hI 0) (okJ (x_h (by decide) ?_)))
  rcases px a (n := sP N) (by have := X.P; omega) with ⟨p, hp, rfl⟩ | ho
  · refine okY (x_guestAt X (by decide) hp ?_)
    refine okF sI_none ?_
    rcases px b (n := 6) (by decide) with ⟨j, hj, rfl⟩ | hb
    · refine okY (x_isb1 (n := 6) hj (by decide) (okF i1n (okJ (x_pG (k := 4) X (by decide) hp (by decide) (okJ (x_wP (k := 4) X (by decide) hp (by decide) (fun σ' X' => okR ?_)))))))
      refine m_t R (fun τ1 R1 => okJ (m_k ?_))
      obtain ⟨d, e, M⟩ := R1.m
      refine okY (m_isP1 M.1 hp (okF i1n (okY (m_isW1 hj (okF i1n ?_)))))
      refine okJ (m_r 12 (okJ (m_pA (k := 4) M hp (by decide) (okJ (m_r 12 (okJ (m_wP (k := 4) M (by have := X.P; omega) (by decide) (fun τ' M' => okR ⟨rfl, ?_⟩))))))))
      exact R1.both X' M' ⟨Iv.p hv.1 (fun z => absurd z (by decide)) (fun z => absurd z (by decide)) (fun _ => ⟨j, hj, rfl⟩) (fun z => absurd z (by decide)) (fun z => absurd z (by decide)), hv.2⟩ R.1.2.2.1 R.1.2.2.2.1
    · refine okY (x_isb0 (n := 6) hb (okT rfl (okR ?_)))
      refine m_t R (fun τ1 R1 => okJ (m_k ?_))
      obtain ⟨d, e, M⟩ := R1.m
      exact okY (m_isP1 M.1 hp (okF i1n (okY (m_isW0 hb (okT rfl (okR ⟨rfl, N, R1⟩))))))
  · refine okY (x_guestNo X (by decide) ho (okT rfl (okR ?_)))
    refine m_t R (fun τ1 R1 => okJ (m_k ?_))
    obtain ⟨d, e, M⟩ := R1.m
    exact okY (m_isP0 M.1 ho (okT rfl (okR ⟨rfl, N, R1⟩)))
end QA
