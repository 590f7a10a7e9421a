/-! PURE 42: how likely; common divisors -/
theorem likV_b {a b ka fa kb fb lb : Int32} (h1 : ∃ n, n < 8 ∧ ka = nI n) (h2 : ∃ n, n < 8 ∧ kb = nI n) : ∃ v, v ≤ 30 ∧ likV a b ka fa kb fb lb = nI v := by
  obtain ⟨n, hn, rfl⟩ := h1
  obtain ⟨m, hm, rfl⟩ := h2
  have key : ∀ n, n < 8 → ∀ m, m < 8 → ∀ s f l : Bool, ¬ likV (if s then 0 else 1) 0 (nI n) (if f then 0 else 1) (nI m) 0 (if l then 0 else 1) < 0 ∧ likV (if s then 0 else 1) 0 (nI n) (if f then 0 else 1) (nI m) 0 (if l then 0 else 1) ≤ 30 := by decide +kernel
  have gen : likV a b (nI n) fa (nI m) fb lb = likV (if decide (a = b) = true then 0 else 1) 0 (nI n) (if decide (fa = fb) = true then 0 else 1) (nI m) 0 (if decide (lb = 0) = true then 0 else 1) := by
    unfold likV
    by_cases q1 : a = b <;> by_cases q2 : fa = fb <;> by_cases q3 : lb = 0 <;> simp [q1, q2, q3]
  rw [gen]
  have k := key n hn m hm (decide (a = b)) (decide (fa = fb)) (decide (lb = 0))
  exact nI_of2 (n := 30) (M := 30) rfl k.1 k.2
theorem sLik_b {S : Hs} {i j : Nat} (hv : Iv S) (hi : i < sG S) (hj : j < sG S) : ∃ v, v ≤ 30 ∧ sLik S i j = nI v := likV_b (hv.2.2.2.1 i hi).1 (hv.2.2.2.1 j hj).1
theorem sLA_b {S : Hs} {o : Nat} {pl : Int32} (hv : Iv S) (ho : o < sG S) : ∀ i, i ≤ sG S → ∃ w, w ≤ 30 * i ∧ it (fun i s => if sg S i 3 = pl then s + sLik S o i else s) 0 i = nI w ∧ ∀ x v, x < i → sg S x 3 = pl → sLik S o x = nI v → v ≤ 30 → v ≤ w := by
  intro i
  induction i with
  | zero => intro _; exact ⟨0, Nat.le_refl _, rfl, fun x v hx => absurd hx (Nat.not_lt_zero x)⟩
  | succ i ih =>
    intro hi
    obtain ⟨w, hw, ew, hall⟩ := ih (by omega)
    rw [it_s, ew]
    by_cases c : sg S i 3 = pl
    · obtain ⟨v, hv2, ev⟩ := sLik_b (S := S) (i := o) (j := i) hv ho (by omega)
      rw [if_pos c, ev, nI_add]
      refine ⟨w + v, by omega, rfl, fun x v' hx hp e' hv' => ?_⟩
      by_cases q : x = i
      · subst q
        rw [ev] at e'
        have := nIi (by omega) (by omega) e'
        omega
      · have := hall x v' (by omega) hp e' hv'
        omega
    · rw [if_neg c]
      refine ⟨w, by omega, rfl, fun x v' hx hp e' hv' => ?_⟩
      by_cases q : x = i
      · subst q; exact absurd hp c
      · exact hall x v' (by omega) hp e' hv'
section QF
variable {N S : Hs} {μ0 μ σ τ : Mm} {F g j h p : Nat}
theorem m_div {P : Int32 × Mm → Prop} {a b : Nat} (ha : a < 2 ^ 31) (hb : b < 2 ^ 31) (hF : b < F) (h : P (nI (Nat.gcd a b), τ)) : OkO (f_M_divisor F τ (nI a) (nI b)) P := by
  unfold f_M_divisor
  have key : ∀ n x y, y < n → x < 2 ^ 31 → y < 2 ^ 31 → Nat.gcd x y = Nat.gcd a b → OkO (f_M_divisor_L4 F (fun u3 x4 => some (x4, u3)) n τ (nI x) (nI y)) P := by
    intro n
    induction n with
    | zero => intro x y hn; exact absurd hn (Nat.not_lt_zero y)
    | succ n ih =>
      intro x y hn hx hy e
      simp only [f_M_divisor_L4]
      rcases Nat.eq_zero_or_pos y with z | z
      · subst z
        rw [Nat.gcd_zero_right] at e
        refine okT rfl (okR ?_)
        rw [e]; exact h
      · refine okF (nI_ne0 z hy) (okJ (okrm (nI_ne0 z hy) ?_))
        rw [pk_rem hx z hy]
        have hlt := Nat.mod_lt x z
        refine ih y (x % y) (by omega) hy (by omega) ?_
        rw [← e, Nat.gcd_comm x y, Nat.gcd_rec y x, Nat.gcd_comm]
  exact key F a b hF ha hb rfl
theorem x_red {P : Int32 × Mm → Prop} {a b : Nat} (ha : a < 1000) (hb : b < 1000) (h0 : 0 < a ∨ 0 < b) (hF : 1000 ≤ F) (h : P (nI (a / Nat.gcd a b), σ)) : OkO (f_X_reduced F σ (nI a) (nI b)) P := by
  unfold f_X_reduced
  have g0 : 0 < Nat.gcd a b := by
    rcases h0 with h0 | h0
    · exact Nat.gcd_pos_of_pos_left _ h0
    · exact Nat.gcd_pos_of_pos_right _ h0
  have key : ∀ d n, d < n → d < 1000 → Nat.gcd a b ≤ d → OkO (f_X_reduced_L6 F (nI a) (nI b) (fun u10 => some (nI a, u10)) n σ (nI d)) P := by
    intro d
    induction d with
    | zero => intro n _ _ hg; omega
    | succ d ih =>
      intro n hn hd hg
      obtain ⟨m, rfl⟩ : ∃ m, n = m + 1 := ⟨n - 1, by omega⟩
      simp only [f_X_reduced_L6]
      rcases Nat.eq_zero_or_pos d with z | z
      · subst z
        refine okT (by decide) (okR ?_)
        have : Nat.gcd a b = 1 := by omega
        rw [this, Nat.div_one] at h; exact h
      · have nx : ¬ Nat.gcd a b = d + 1 → OkO (ob (some (nI (d + 1) + -1)) fun x9 => f_X_reduced_L6 F (nI a) (nI b) (fun u10 => some (nI a, u10)) m σ x9) P := by
          intro hne
          refine okJ (okR ?_)
          rw [pk_m1]
          exact ih m (by omega) (by omega) (by omega)
        refine okF (nI_ge (a := 1) (b := d + 1) (by omega) (by omega)) (okJ (okrm (nI_ne0 (by omega) (by omega)) ?_))
        rw [pk_rem (by omega) (by omega) (by omega)]
        refine okI (fun c => okJ (okrm (nI_ne0 (by omega) (by omega)) ?_)) (fun c => nx ?_)
        · rw [pk_rem (by omega) (by omega) (by omega)]
          have hl1 := Nat.mod_lt a (show 0 < d + 1 by omega)
          have hl2 := Nat.mod_lt b (show 0 < d + 1 by omega)
          have c1 : a % (d + 1) = 0 := nIi (by omega) (by omega) c
          refine okI (fun c2 => okJ (okdv (nI_ne0 (by omega) (by omega)) (okR ?_))) (fun c2 => nx ?_)
          · have c3 : b % (d + 1) = 0 := nIi (by omega) (by omega) c2
            have hd1 : d + 1 ∣ Nat.gcd a b := Nat.dvd_gcd (Nat.dvd_of_mod_eq_zero c1) (Nat.dvd_of_mod_eq_zero c3)
            have := Nat.le_of_dvd g0 hd1
            have e : Nat.gcd a b = d + 1 := by omega
            rw [pk_div (by omega) (by omega) (by omega)]
            rw [e] at h; exact h
          · intro e
            apply c2
            have := Nat.mod_eq_zero_of_dvd (Nat.gcd_dvd_right a b)
            rw [e] at this
            rw [this]; rfl
        · intro e
          apply c
          have := Nat.mod_eq_zero_of_dvd (Nat.gcd_dvd_left a b)
          rw [e] at this
          rw [this]; rfl
  have gl : ∀ m, a ≤ m → b ≤ m → Nat.gcd a b ≤ m := by
    intro m h1 h2
    rcases h0 with h0 | h0
    · exact Nat.le_trans (Nat.le_of_dvd h0 (Nat.gcd_dvd_left a b)) h1
    · exact Nat.le_trans (Nat.le_of_dvd h0 (Nat.gcd_dvd_right a b)) h2
  refine okJ (okR ?_)
  by_cases c : nI a < nI b
  · rw [if_pos c]
    have := (nI_ltI (a := a) (b := b) (by omega) (by omega)).mp c
    exact key b F (by omega) hb (gl b (by omega) (Nat.le_refl _))
  · rw [if_neg c]
    have : ¬ a < b := fun z => c (nI_lt z (by omega))
    exact key a F (by omega) ha (gl a (Nat.le_refl _) (by omega))
theorem q_likely (a b c : Int32) (R : Rl N σ τ) (hF : 1000 ≤ F) : Ag (f_X_likely F σ 0 a b c) (f_M_likely F τ 0 a b c) := by
  have X := R.x
  have hv := R.1.2.1
  have hG := X.G
  have hPP := X.P
  unfold Ag f_X_likely
  refine okJ (x_r (hI 0) (okJ (x_h (by decide) ?_)))
  rcases px a (n := sP N) (by omega) with ⟨p, hp, rfl⟩ | ho
  · refine okY (x_guestAt X (by decide) hp (okJ (x_r (hI 0) (okJ (x_h (by decide) ?_)))))
    rcases px b (n := sG N) (by omega) with ⟨g, hg, rfl⟩ | hb
    · refine okY (x_glassAt X (by decide) hg (okF sI_none (okF sI_none ?_)))
      rcases px c (n := 2) (by decide) with ⟨k, hk, rfl⟩ | hc
      · refine okY (x_isb1 (n := 2) hk (by decide) (okF i1n (okJ (x_r (hI 0) (okJ (x_pG (k := 6) X (by decide) hp (by decide) ?_))))))
        have pre : ∀ {P : Int32 × Mm → Prop}, (∀ τ1 d e, Rl N σ τ1 → MS d e τ1 τ1 N → OkO (if sp N p 6 < 0 then some ((-3 : Int32), τ1) else ob (jgr YM 5 7 (some 0)) fun r14 => ob (jal YM τ1 r14 (nI g)) fun x15 => ob (jgr YM 5 15 (some 0)) fun r16 => ob (jal YM τ1 r16 (nI p)) fun x17 => (if x15 = x17 then f_M_likely_L66 F (some 0) (nI p) (nI g) (nI k) (fun u33 x34 => ob (jgr YM 5 17 (some 0)) fun r35 => ob (jal YM u33 r35 (nI p)) fun x36 => ob (jk YM 5 (some 0)) fun t => yb (f_M_likeOf F u33 t x36 (nI g)) fun x37 u38 => (if x37 = 0 then some (nI k, u38) else yb (f_M_divisor F u38 x34 x37) fun x40 u41 => (if nI k = 0 then ob (jdv x37 x40) fun x43 => some (x43, u41) else ob (jdv x34 x40) fun x44 => some (x44, u41)))) F τ1 0 0 else some ((-3 : Int32), τ1))) P) → OkO (f_M_likely F τ 0 (nI p) (nI g) (nI k)) P := by
          intro P hkk
          unfold f_M_likely
          refine m_t R (fun τ1 R1 => okJ (m_k ?_))
          obtain ⟨d, e, M⟩ := R1.m
          exact okY (m_isP1 M.1 hp (okF i1n (okJ (m_k (okY (m_isG1 M.1 hg (okF i1n (okY (m_n1 (n := 2) hk (by decide) rfl (okF i1n (okJ (m_r 14 (okJ (m_pA (k := 6) M hp (by decide) (hkk τ1 d e R1 M)))))))))))))))
        rcases IvP.o hv.1 hp with e6 | ⟨o, ho, e6⟩
        · rw [e6]
          refine okJ (x_h (by decide) (okY (x_glassNo X (by decide) m4_o (okT rfl (okR (pre (fun τ1 d e R1 M => ?_)))))))
          rw [e6]
          exact okT n4_neg (okR ⟨rfl, N, R1⟩)
        · rw [e6]
          refine okJ (x_h (by decide) (okY (x_glassAt X (by decide) ho (okF sI_none (okJ (x_gG (k := 3) X (by decide) hg (by decide) (by decide) (okJ (x_pG (k := 4) X (by decide) hp (by decide) ?_))))))))
          refine okI (fun c1 => ?_) (fun c1 => okR (pre (fun τ1 d e R1 M => ?_)))
          · obtain ⟨v, hv1, ev⟩ := sLik_b (S := N) (i := o) (j := g) hv.1 ho hg
            obtain ⟨w, hw, ew, hall⟩ := sLA_b (S := N) (o := o) (pl := sp N p 4) hv.1 ho (sG N) (Nat.le_refl _)
            have hvw := hall g v hg c1 ev hv1
            have eLA : sLA N o (sp N p 4) = nI w := ew
            refine okJ (x_g X (by decide) ho (okY (x_lik X (by decide) ho hg (okJ (x_r (hI 0) (okJ (x_pG (k := 4) X (by decide) hp (by decide) (okJ (x_h (by decide) (okY (x_la X (by decide) ho (by omega) ?_)))))))))))
            rw [ev, eLA]
            have mm : ∀ {P : Int32 × Mm → Prop}, (∀ τ1 d e, Rl N σ τ1 → MS d e τ1 τ1 N → OkO (if nI v = 0 then some (nI k, τ1) else yb (f_M_divisor F τ1 (nI w) (nI v)) fun x40 u41 => (if nI k = 0 then ob (jdv (nI v) x40) fun x43 => some (x43, u41) else ob (jdv (nI w) x40) fun x44 => some (x44, u41))) P) → OkO (f_M_likely F τ 0 (nI p) (nI g) (nI k)) P := by
              intro P hkk
              refine pre (fun τ1 d e R1 M => ?_)
              rw [e6]
              refine okF (nI_pos (by omega)) (okJ (m_r 4 (okJ (m_gA (k := 3) M hg (by decide) (okJ (m_r 12 (okJ (m_pA (k := 4) M hp (by decide) (okT c1 ?_)))))))))
              refine lpA (A := Int32) (L := fun n u b i => f_M_likely_L66 F (some 0) (nI p) (nI g) (nI k) _ n u b i) (sG N) (fun i u b => u = τ1 ∧ b = it (fun i s => if sg N i 3 = sp N p 4 then s + sLik N o i else s) 0 i) (fun n u b hQ => ?_) (fun n i u b hi hQ hk2 => ?_) (sG N) 0 F τ1 0 (by omega) (by omega) ⟨rfl, rfl⟩
              · obtain ⟨hu, hb⟩ := hQ
                subst hu
                rw [ew] at hb
                subst hb
                simp only [f_M_likely_L66]
                refine okJ (m_s0 M (okT (nI_le (Nat.le_refl _) (by omega)) (okJ (m_r 14 (okJ (m_pA (k := 6) M hp (by decide) ?_))))))
                rw [e6]
                refine okJ (m_k (okY (m_lik M hv.1 ho hg ?_)))
                rw [ev]
                exact hkk u d e R1 M
              · obtain ⟨hu, hb⟩ := hQ
                subst hu
                simp only [f_M_likely_L66]
                refine okJ (m_s0 M (okF (nI_ge hi (by omega)) (okJ (m_r 4 (okJ (m_gA (k := 3) M hi (by decide) (okJ (m_r 12 (okJ (m_pA (k := 4) M hp (by decide) (okJ ?_))))))))))) 
                refine okI (fun c2 => okJ (m_r 14 (okJ (m_pA (k := 6) M hp (by decide) ?_)))) (fun c2 => okR (okJ (okR (okJ (okR ?_)))))
                · rw [e6]
                  refine okJ (m_k (okY (m_lik M hv.1 ho hi (okR (okJ (okR (okJ (okR ?_))))))))
                  rw [nI_1 i]
                  exact hk2 u _ ⟨rfl, by rw [it_s, ← hb, if_pos c2]⟩
                · rw [nI_1 i]
                  refine hk2 u _ ⟨rfl, ?_⟩
                  rw [it_s, ← hb, if_neg c2]; exact Int32.add_zero _
            rcases Nat.eq_zero_or_pos w with zw | zw
            · have zv : v = 0 := by omega
              subst zw
              subst zv
              exact okT rfl (okR (mm (fun τ1 d e R1 M => okT rfl (okR ⟨rfl, N, R1⟩))))
            · refine okF (nI_ne0 zw (by omega)) ?_
              rcases (by omega : k = 0 ∨ k = 1) with rfl | rfl
              · refine okT rfl (okY (x_red (by omega) (by omega) (Or.inr zw) (by omega) (okR (mm (fun τ1 d e R1 M => ?_)))))
                rcases Nat.eq_zero_or_pos v with zv | zv
                · subst zv
                  exact okT rfl (okR ⟨by rw [Nat.zero_div], N, R1⟩)
                · have g0 := Nat.gcd_pos_of_pos_right w zv
                  have gl := Nat.le_of_dvd zv (Nat.gcd_dvd_right w v)
                  refine okF (nI_ne0 zv (by omega)) (okY (m_div (by omega) (by omega) (by omega) (okT rfl (okJ (okdv (nI_ne0 g0 (by omega)) (okR ⟨?_, N, R1⟩))))))
                  rw [pk_div (by omega) g0 (by omega), Nat.gcd_comm v w]
              · refine okF (by decide) (okY (x_red (by omega) (by omega) (Or.inl zw) (by omega) (okR (mm (fun τ1 d e R1 M => ?_)))))
                rcases Nat.eq_zero_or_pos v with zv | zv
                · subst zv
                  refine okT rfl (okR ⟨?_, N, R1⟩)
                  rw [Nat.gcd_zero_right, Nat.div_self zw]
                · have g0 := Nat.gcd_pos_of_pos_right w zv
                  have gl := Nat.le_of_dvd zv (Nat.gcd_dvd_right w v)
                  refine okF (nI_ne0 zv (by omega)) (okY (m_div (by omega) (by omega) (by omega) (okF (by decide) (okJ (okdv (nI_ne0 g0 (by omega)) (okR ⟨?_, N, R1⟩))))))
                  rw [pk_div (by omega) g0 (by omega)]
          · rw [e6]
            exact okF (nI_pos (by omega)) (okJ (m_r 4 (okJ (m_gA (k := 3) M hg (by decide) (okJ (m_r 12 (okJ (m_pA (k := 4) M hp (by decide) (okF c1 (okR ⟨rfl, N, R1⟩)))))))))) 
      · refine okY (x_isb0 (n := 2) hc (okT rfl (okR ?_)))
        unfold f_M_likely
        refine m_t R (fun τ1 R1 => okJ (m_k ?_))
        obtain ⟨d, e, M⟩ := R1.m
        exact okY (m_isP1 M.1 hp (okF i1n (okJ (m_k (okY (m_isG1 M.1 hg (okF i1n (okY (m_n0 (n := 2) hc (by decide) rfl (okT rfl (okR ⟨rfl, N, R1⟩)))))))))))
    · refine okY (x_glassNo X (by decide) hb (okF sI_none (okT rfl (okR ?_))))
      unfold f_M_likely
      refine m_t R (fun τ1 R1 => okJ (m_k ?_))
      obtain ⟨d, e, M⟩ := R1.m
      exact okY (m_isP1 M.1 hp (okF i1n (okJ (m_k (okY (m_isG0 M.1 hb (okT rfl (okR ⟨rfl, N, R1⟩))))))))
  · refine okY (x_guestNo X (by decide) ho (okJ (x_r (hI 0) (okJ (x_h (by decide) ?_)))))
    have fin : OkO (f_M_likely F τ 0 a b c) (fun q => (-1 : Int32) = q.1 ∧ Rel σ q.2) := by
      unfold f_M_likely
      refine m_t R (fun τ1 R1 => okJ (m_k ?_))
      obtain ⟨d, e, M⟩ := R1.m
      exact okY (m_isP0 M.1 ho (okT rfl (okR ⟨rfl, N, R1⟩)))
    rcases px b (n := sG N) (by omega) with ⟨j, hj, rfl⟩ | hb
    · exact okY (x_glassAt X (by decide) hj (okT rfl (okR fin)))
    · exact okY (x_glassNo X (by decide) hb (okT rfl (okR fin)))
end QF
