/-! PURE 48: image, restore; shelves -/
theorem Shd.fr2 {d : Nat} {σ σ' τ τ' : Mm} (h : Shd d σ τ) (A : ∀ k, σ'.1 (65 + 2 * d) k = σ.1 (65 + 2 * d) k) (A2 : ∀ k, σ'.1 (66 + 2 * d) k = σ.1 (66 + 2 * d) k) (B : ∀ a, 22 ≤ a → τ'.1 a d = τ.1 a d) (B2 : ∀ i, i < 100 → τ'.2.1 27 (100 * d + i) = τ.2.1 27 (100 * d + i)) : Shd d σ' τ' := by
  unfold Shd
  simp only [A, A2, B 22 (by decide), B 23 (by decide), B 24 (by decide), B 25 (by decide), B 26 (by decide)]
  refine ⟨h.1, h.2.1, fun c => ?_⟩
  obtain ⟨a, b, c1, d1, e1, f1⟩ := h.2.2 c
  exact ⟨a, b, c1, d1, fun i hi => by rw [B2 i hi]; exact e1 i hi, f1⟩
section QL
variable {N S : Hs} {μ0 μ σ τ0 τ u : Mm} {F g j h p n k : Nat} {d e z : Int32}
theorem m_t2 {β : Type} {N : Hs} {σ τ : Mm} {K : Mm → Option β} {P : β → Prop} (R : Rl N σ τ) (hk : ∀ τ', Rl N σ τ' → (∀ a k, ¬ (a = 0 ∧ k = 23) → τ'.1 a k = τ.1 a k) → OkO (K τ') P) : OkO (ob (jpi YM 5 23 τ (some 0) 0) K) P :=
  okJ (okR (x := (y2 τ.1 0 23 0, τ.2.1, τ.2.2)) (hk _ (R.t (fun a k hq => y2_o _ _ (by omega)) rfl) (fun a k hq => y2_o _ _ (by omega))))
theorem q_image (R : Rl N σ τ) (hF : 2000 ≤ F) : Ag (f_X_image F σ 0) (f_M_image F τ 0) := by
  have R0 := R
  obtain ⟨⟨hx, hvv, hl, hm, -⟩, ⟨Q, hQ⟩, ⟨p1, p2, P2, p3, p4⟩, hsh⟩ := R0
  unfold Ag f_X_image
  refine okJ (x_r (hI 2) (okJ (x_r (hI 0) (okJ (x_h (by decide) (okY (x_bec (h := 2) (h2 := 0) (XS.rf p3) (by decide) (by decide) (by decide) hx hvv.1 (by omega) (fun σ1 X1 => ?_))))))))
  refine okJ (okE (x := (y2 σ1.1 0 3 1, σ1.2.1, σ1.2.2)) (by rw [jpz, if_pos (Or.inr rfl)]; rfl) ?_)
  have fr : ∀ id k, (1 ≤ id ∧ id < 43) ∨ 64 ≤ id → y2 σ1.1 0 3 1 id k = σ.1 id k := fun id k hq => by
    rw [y2_i _ _ (by omega)]
    exact X1.2.1 id k (by omega)
  have hx' : RX 0 (y2 σ1.1 0 3 1) N := hx.cp (fun id k h1 h2 => fr id k (by omega))
  refine okJ (x_r (hI 0) (okJ (x_s5 (XS.rf (μ := (y2 σ1.1 0 3 1, σ1.2.1, σ1.2.2)) hx') (by decide) (okR ?_))))
  unfold f_M_image
  refine m_t R (fun τ1 R1 => ?_)
  obtain ⟨d, e, M⟩ := R1.m
  refine okJ (okE (x := (y2 τ1.1 0 26 1, τ1.2.1, τ1.2.2)) (by rw [jpz, if_pos (Or.inr rfl)]; rfl) ?_)
  have M1 : RM d e (y2 τ1.1 0 26 1) N := M.1.o (by decide)
  refine okJ (m_r 18 (okJ (m_k (okY (m_keep (τ := (y2 τ1.1 0 26 1, τ1.2.1, τ1.2.2)) (Or.inr rfl) M1 (by omega) (fun τ2 M2 I2 h1 h2 h3 => okJ (m_s3 (MS.rf M2) (okR ⟨rfl, N, ⟨hx', hvv, hl, hm, d, e, M2⟩, ⟨Q, hQ.cp (fun id k h1 h2 => fr id k (by omega))⟩, ?_, fun i hi => ?_⟩))))))))
  · refine ⟨?_, Or.inr (by show y2 σ1.1 0 3 1 0 3 = 1; rw [y2_s]), uC N 0 0 (-4), X1.1.cp (fun id k h1 h2 => y2_i _ _ (by omega)), fun _ => ⟨⟨m4_uC hvv.1, hvv.2⟩, hm, rfl, I2.C rfl rfl⟩⟩
    show y2 σ1.1 0 3 1 0 3 = τ2.1 0 26
    rw [h2 26 (by decide) (by decide), y2_s]
    show 1 = y2 τ1.1 0 26 1 0 26
    rw [y2_s]
  · refine (R1.2.2.2 i hi).fr2 (fun k => fr _ _ (by omega)) (fun k => fr _ _ (by omega)) (fun a ha => ?_) (fun j hj => ?_)
    · rw [h1 a i (by omega) (by omega)]; exact y2_i _ _ (by omega)
    · rw [h3]
theorem q_restore (R : Rl N σ τ) (hF : 2000 ≤ F) : Ag (f_X_restore F σ 0) (f_M_restore F τ 0) := by
  obtain ⟨p1, p2, P2, p3, p4⟩ := R.2.2.1
  unfold Ag f_X_restore f_M_restore
  refine okJ (okE (x := σ.1 0 3) rfl ?_)
  refine okI (fun c => okR ?_) (fun c => ?_)
  · refine m_t R (fun τ1 R1 => okJ (m_x ?_))
    have e1 : τ1.1 0 26 = 0 := by rw [← R1.2.2.1.1, c]
    rw [e1]
    exact okT rfl (okR ⟨rfl, N, R1⟩)
  · have c1 := p2.resolve_left c
    obtain ⟨hvP, hmP, hlP, -⟩ := p4 c1
    refine okJ (x_r (hI 0) (okJ (x_r (hI 2) (okJ (x_h (by decide) (okY (x_bec (h := 0) (h2 := 2) R.x (by decide) (by decide) (by decide) p3 hvP.1 (by omega) (fun σ1 X1 => okJ (x_r (hI 0) (okJ (x_s5 X1 (by decide) (okR ?_))))))))))))
    obtain ⟨-, -, -, hi18⟩ := p4 c1
    refine m_t2 R (fun τ1 R1 hs1 => okJ (m_x ?_))
    have e1 : τ1.1 0 26 = 1 := by rw [← R1.2.2.1.1, c1]
    rw [e1]
    obtain ⟨d, e, M⟩ := R1.m
    have es : IM 18 τ1.1 P2 := hi18.cg (fun i => hs1 18 i (by omega))
    refine okF i1n (okJ (m_r 18 (okJ (m_k (okY (m_put (Or.inr rfl) M.1 es hvP.1.1 (by omega) (fun τ2 M2 h1 h2 h3 => ?_)))))))
    have e2 : (P2.1, N.2.1, P2.2.2) = shc (sMi N - 0) (sFr N - 0) (uC P2 0 0 (-4)) := by
      have := shc_0 (uC P2 0 0 (-4)) (sMi N) (sFr N)
      rw [show sMi (uC P2 0 0 (-4)) = 0 from rfl, show sFr (uC P2 0 0 (-4)) = 0 from rfl] at this
      rw [← this]
      show (P2.1, N.2.1, P2.2.2) = (P2.1, (sMi N, sFr N, -4), sg P2, sp P2)
      rw [← R.1.2.2.1]
    rw [e2] at M2
    have M3 := M2.sh
    obtain ⟨Q, hQ⟩ := R.2.1
    refine okJ (m_s3 (MS.rf M3) (okR ⟨rfl, uC P2 0 0 (-4), R1.up (X1.fx (by decide)) ⟨fun a i ha => h1 a i (by omega), h2 26 (by decide) (by decide) (by decide), h3⟩ X1.1 ⟨m4_uC hvP.1, hvP.2⟩ rfl hmP M3 ⟨Q, hQ.fr X1.2.1 (by decide)⟩⟩))
end QL
