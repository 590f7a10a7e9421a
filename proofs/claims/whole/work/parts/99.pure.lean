/-! PURE 99: the law's loop -/
theorem d_law_23 : decode code 23 = .ok (.iload 4, 2) := by decide +kernel
theorem d_law_25 : decode code 25 = .ok (.aload_n 0, 1) := by decide +kernel
theorem d_law_26 : decode code 26 = .ok (.arraylength, 1) := by decide +kernel
theorem d_law_27 : decode code 27 = .ok (.bipush 6, 2) := by decide +kernel
theorem d_law_29 : decode code 29 = .ok (.isub, 1) := by decide +kernel
theorem d_law_30 : decode code 30 = .ok (.if_icmp .gt 1469, 3) := by decide +kernel
theorem d_law_33 : decode code 33 = .ok (.aload_n 0, 1) := by decide +kernel
theorem d_law_34 : decode code 34 = .ok (.iload 4, 2) := by decide +kernel
theorem d_law_36 : decode code 36 = .ok (.iaload, 1) := by decide +kernel
theorem d_law_37 : decode code 37 = .ok (.bipush 63, 2) := by decide +kernel
theorem d_law_39 : decode code 39 = .ok (.iand, 1) := by decide +kernel
theorem d_law_40 : decode code 40 = .ok (.tableswitch 1453 0 38 #[172, 197, 234, 271, 308, 345, 370, 395, 420, 445, 482, 507, 544, 569, 618, 643, 668, 693, 718, 743, 780, 817, 854, 879, 904, 929, 954, 967, 1016, 1053, 1066, 1079, 1104, 1165, 1214, 1263, 1330, 1403, 1428], 172) := by decide +kernel
theorem d_law_1493 : decode code 1493 = .ok (.iinc 4 6, 3) := by decide +kernel
theorem d_law_1496 : decode code 1496 = .ok (.goto (-1473), 3) := by decide +kernel
theorem d_law_1499 : decode code 1499 = .ok (.iconst 1, 1) := by decide +kernel
theorem d_law_1500 : decode code 1500 = .ok (.ireturn, 1) := by decide +kernel
section LC
variable {p : Program} {l : Launch} {e : Env} {s : State} {m : MethodId} {below : List Frame} {meth : Method} {c : Code} {Q : State → Prop} {cells slots : Nat}
variable {b L i pc : Nat} {xs : Nat → Int32} {w2 : va_G × (Nat → ClassId)} {aX aM : Nat → Nat} {qo : Nat} {σ τ : Mm} {g : Nat → Int64}
theorem l_tab {x : Int32} (C : lC p l s m meth c b L xs w2) (D : lD s.heap.size aX aM qo) (hi : 6 * i + 6 ≤ L) (R : Rel σ τ) (hcs : cells + 1 ≤ room_1.cells ∧ slots + 6 ≤ room_1.slots) (J : ∀ (σ1 τ1 : Mm) (g1 : Nat → Int64), Rel σ1 τ1 → lG p l e s m below meth c b w2 aX aM qo Q (cells + 1) (slots + 6) σ1 τ1 g1 1493 (lvI b aX aM qo i) []) : lG p l e s m below meth c b w2 aX aM qo Q cells slots σ τ g 40 (lvI b aX aM qo i) [.int x] := by
  intro H locs ls h1 h2 h3
  by_cases hx : x.toInt < 0 ∨ 38 < x.toInt
  · exact lv_tableOut (tgt := 1493) C.1 C.2.1 d_law_40 hx (by decide) (l_wide (Nat.le_succ _) (Nat.le_add_right _ 6) (J σ τ g R) H locs ls h1 h2 h3)
  · have z1 : ¬ x.toInt < 0 := fun q => hx (Or.inl q)
    have z2 : ¬ 38 < x.toInt := fun q => hx (Or.inr q)
    obtain ⟨k, hk, ez⟩ : ∃ k : Nat, k < 39 ∧ (x.toInt - 0).toNat = k := ⟨_, by omega, rfl⟩
    match k, hk, ez with
    | 0, _, ez => exact lv_tableIn (off := 172) (tgt := 212) C.1 C.2.1 d_law_40 z1 z2 (by rw [ez]; rfl) (by decide) (l_c0 C D hi R hcs J H locs ls h1 h2 h3)
    | 1, _, ez => exact lv_tableIn (off := 197) (tgt := 237) C.1 C.2.1 d_law_40 z1 z2 (by rw [ez]; rfl) (by decide) (l_c1 C D hi R hcs J H locs ls h1 h2 h3)
    | 2, _, ez => exact lv_tableIn (off := 234) (tgt := 274) C.1 C.2.1 d_law_40 z1 z2 (by rw [ez]; rfl) (by decide) (l_c2 C D hi R hcs J H locs ls h1 h2 h3)
    | 3, _, ez => exact lv_tableIn (off := 271) (tgt := 311) C.1 C.2.1 d_law_40 z1 z2 (by rw [ez]; rfl) (by decide) (l_c3 C D hi R hcs J H locs ls h1 h2 h3)
    | 4, _, ez => exact lv_tableIn (off := 308) (tgt := 348) C.1 C.2.1 d_law_40 z1 z2 (by rw [ez]; rfl) (by decide) (l_c4 C D hi R hcs J H locs ls h1 h2 h3)
    | 5, _, ez => exact lv_tableIn (off := 345) (tgt := 385) C.1 C.2.1 d_law_40 z1 z2 (by rw [ez]; rfl) (by decide) (l_c5 C D hi R hcs J H locs ls h1 h2 h3)
    | 6, _, ez => exact lv_tableIn (off := 370) (tgt := 410) C.1 C.2.1 d_law_40 z1 z2 (by rw [ez]; rfl) (by decide) (l_c6 C D hi R hcs J H locs ls h1 h2 h3)
    | 7, _, ez => exact lv_tableIn (off := 395) (tgt := 435) C.1 C.2.1 d_law_40 z1 z2 (by rw [ez]; rfl) (by decide) (l_c7 C D hi R hcs J H locs ls h1 h2 h3)
    | 8, _, ez => exact lv_tableIn (off := 420) (tgt := 460) C.1 C.2.1 d_law_40 z1 z2 (by rw [ez]; rfl) (by decide) (l_c8 C D hi R hcs J H locs ls h1 h2 h3)
    | 9, _, ez => exact lv_tableIn (off := 445) (tgt := 485) C.1 C.2.1 d_law_40 z1 z2 (by rw [ez]; rfl) (by decide) (l_c9 C D hi R hcs J H locs ls h1 h2 h3)
    | 10, _, ez => exact lv_tableIn (off := 482) (tgt := 522) C.1 C.2.1 d_law_40 z1 z2 (by rw [ez]; rfl) (by decide) (l_c10 C D hi R hcs J H locs ls h1 h2 h3)
    | 11, _, ez => exact lv_tableIn (off := 507) (tgt := 547) C.1 C.2.1 d_law_40 z1 z2 (by rw [ez]; rfl) (by decide) (l_c11 C D hi R hcs J H locs ls h1 h2 h3)
    | 12, _, ez => exact lv_tableIn (off := 544) (tgt := 584) C.1 C.2.1 d_law_40 z1 z2 (by rw [ez]; rfl) (by decide) (l_c12 C D hi R hcs J H locs ls h1 h2 h3)
    | 13, _, ez => exact lv_tableIn (off := 569) (tgt := 609) C.1 C.2.1 d_law_40 z1 z2 (by rw [ez]; rfl) (by decide) (l_c13 C D hi R hcs J H locs ls h1 h2 h3)
    | 14, _, ez => exact lv_tableIn (off := 618) (tgt := 658) C.1 C.2.1 d_law_40 z1 z2 (by rw [ez]; rfl) (by decide) (l_c14 C D hi R hcs J H locs ls h1 h2 h3)
    | 15, _, ez => exact lv_tableIn (off := 643) (tgt := 683) C.1 C.2.1 d_law_40 z1 z2 (by rw [ez]; rfl) (by decide) (l_c15 C D hi R hcs J H locs ls h1 h2 h3)
    | 16, _, ez => exact lv_tableIn (off := 668) (tgt := 708) C.1 C.2.1 d_law_40 z1 z2 (by rw [ez]; rfl) (by decide) (l_c16 C D hi R hcs J H locs ls h1 h2 h3)
    | 17, _, ez => exact lv_tableIn (off := 693) (tgt := 733) C.1 C.2.1 d_law_40 z1 z2 (by rw [ez]; rfl) (by decide) (l_c17 C D hi R hcs J H locs ls h1 h2 h3)
    | 18, _, ez => exact lv_tableIn (off := 718) (tgt := 758) C.1 C.2.1 d_law_40 z1 z2 (by rw [ez]; rfl) (by decide) (l_c18 C D hi R hcs J H locs ls h1 h2 h3)
    | 19, _, ez => exact lv_tableIn (off := 743) (tgt := 783) C.1 C.2.1 d_law_40 z1 z2 (by rw [ez]; rfl) (by decide) (l_c19 C D hi R hcs J H locs ls h1 h2 h3)
    | 20, _, ez => exact lv_tableIn (off := 780) (tgt := 820) C.1 C.2.1 d_law_40 z1 z2 (by rw [ez]; rfl) (by decide) (l_c20 C D hi R hcs J H locs ls h1 h2 h3)
    | 21, _, ez => exact lv_tableIn (off := 817) (tgt := 857) C.1 C.2.1 d_law_40 z1 z2 (by rw [ez]; rfl) (by decide) (l_c21 C D hi R hcs J H locs ls h1 h2 h3)
    | 22, _, ez => exact lv_tableIn (off := 854) (tgt := 894) C.1 C.2.1 d_law_40 z1 z2 (by rw [ez]; rfl) (by decide) (l_c22 C D hi R hcs J H locs ls h1 h2 h3)
    | 23, _, ez => exact lv_tableIn (off := 879) (tgt := 919) C.1 C.2.1 d_law_40 z1 z2 (by rw [ez]; rfl) (by decide) (l_c23 C D hi R hcs J H locs ls h1 h2 h3)
    | 24, _, ez => exact lv_tableIn (off := 904) (tgt := 944) C.1 C.2.1 d_law_40 z1 z2 (by rw [ez]; rfl) (by decide) (l_c24 C D hi R hcs J H locs ls h1 h2 h3)
    | 25, _, ez => exact lv_tableIn (off := 929) (tgt := 969) C.1 C.2.1 d_law_40 z1 z2 (by rw [ez]; rfl) (by decide) (l_c25 C D hi R hcs J H locs ls h1 h2 h3)
    | 26, _, ez => exact lv_tableIn (off := 954) (tgt := 994) C.1 C.2.1 d_law_40 z1 z2 (by rw [ez]; rfl) (by decide) (l_c26 C D hi R hcs J H locs ls h1 h2 h3)
    | 27, _, ez => exact lv_tableIn (off := 967) (tgt := 1007) C.1 C.2.1 d_law_40 z1 z2 (by rw [ez]; rfl) (by decide) (l_c27 C D hi R hcs J H locs ls h1 h2 h3)
    | 28, _, ez => exact lv_tableIn (off := 1016) (tgt := 1056) C.1 C.2.1 d_law_40 z1 z2 (by rw [ez]; rfl) (by decide) (l_c28 C D hi R hcs J H locs ls h1 h2 h3)
    | 29, _, ez => exact lv_tableIn (off := 1053) (tgt := 1093) C.1 C.2.1 d_law_40 z1 z2 (by rw [ez]; rfl) (by decide) (l_c29 C D hi R hcs J H locs ls h1 h2 h3)
    | 30, _, ez => exact lv_tableIn (off := 1066) (tgt := 1106) C.1 C.2.1 d_law_40 z1 z2 (by rw [ez]; rfl) (by decide) (l_c30 C D hi R hcs J H locs ls h1 h2 h3)
    | 31, _, ez => exact lv_tableIn (off := 1079) (tgt := 1119) C.1 C.2.1 d_law_40 z1 z2 (by rw [ez]; rfl) (by decide) (l_c31 C D hi R hcs J H locs ls h1 h2 h3)
    | 32, _, ez => exact lv_tableIn (off := 1104) (tgt := 1144) C.1 C.2.1 d_law_40 z1 z2 (by rw [ez]; rfl) (by decide) (l_c32 C D hi R hcs J H locs ls h1 h2 h3)
    | 33, _, ez => exact lv_tableIn (off := 1165) (tgt := 1205) C.1 C.2.1 d_law_40 z1 z2 (by rw [ez]; rfl) (by decide) (l_c33 C D hi R hcs J H locs ls h1 h2 h3)
    | 34, _, ez => exact lv_tableIn (off := 1214) (tgt := 1254) C.1 C.2.1 d_law_40 z1 z2 (by rw [ez]; rfl) (by decide) (l_c34 C D hi R hcs J H locs ls h1 h2 h3)
    | 35, _, ez => exact lv_tableIn (off := 1263) (tgt := 1303) C.1 C.2.1 d_law_40 z1 z2 (by rw [ez]; rfl) (by decide) (l_c35 C D hi R hcs J H locs ls h1 h2 h3)
    | 36, _, ez => exact lv_tableIn (off := 1330) (tgt := 1370) C.1 C.2.1 d_law_40 z1 z2 (by rw [ez]; rfl) (by decide) (l_c36 C D hi R hcs J H locs ls h1 h2 h3)
    | 37, _, ez => exact lv_tableIn (off := 1403) (tgt := 1443) C.1 C.2.1 d_law_40 z1 z2 (by rw [ez]; rfl) (by decide) (l_c37 C D hi R hcs J H locs ls h1 h2 h3)
    | 38, _, ez => exact lv_tableIn (off := 1428) (tgt := 1468) C.1 C.2.1 d_law_40 z1 z2 (by rw [ez]; rfl) (by decide) (l_c38 C D hi R hcs J H locs ls h1 h2 h3)
    | n + 39, hk, _ => exact absurd hk (by omega)
theorem l_sub6 {L i : Nat} (h : L ≤ 3072) (h2 : 6 * i ≤ 4000) (z : ¬ nI (6 * i) > Int32.ofNat L - 6) : 6 * i + 6 ≤ L := by
  refine Classical.byContradiction fun q => z ?_
  rcases Nat.lt_or_ge L 6 with h6 | h6
  · have : ∀ L, L < 6 → nI L - 6 < 0 := by decide
    exact Int32.lt_of_lt_of_le (this L h6) (nI_pos' (by omega))
  · obtain ⟨k, rfl⟩ : ∃ k, L = k + 6 := ⟨L - 6, by omega⟩
    have e1 : Int32.ofNat (k + 6) - 6 = nI k := by
      show nI (k + 6) - 6 = nI k
      rw [← nI_add]
      show nI k + 6 - 6 = nI k
      exact Int32.add_sub_cancel _ _
    rw [e1]
    exact nI_lt (by omega) (by omega)
theorem l_head (C : lC p l s m meth c b L xs w2) (h6 : 6 * i ≤ 4000) (E : lG p l e s m below meth c b w2 aX aM qo Q cells slots σ τ g 1499 (lvI b aX aM qo i) []) (K : 6 * i + 6 ≤ L → lG p l e s m below meth c b w2 aX aM qo Q cells slots σ τ g 33 (lvI b aX aM qo i) []) : lG p l e s m below meth c b w2 aX aM qo Q cells slots σ τ g 23 (lvI b aX aM qo i) [] := by
  intro H locs ls h1 h2 h3
  have hL : L ≤ 3072 := C.2.2.2.2.2.2.2.2.2.2.2.2.2.2
  refine lv_iload C.1 C.2.1 d_law_23 (lv_at h1 4 rfl) ?_
  refine lv_aload_n C.1 C.2.1 d_law_25 rfl (lv_at h1 0 rfl) ?_
  refine va_slen C.1 C.2.1 C.2.2.2.2.2.2.2.2.2.1 C.2.2.2.2.2.2.2.2.2.2.1 C.bA h3 d_law_26 ?_
  refine lv_bipush (v := 6) C.1 C.2.1 d_law_27 (by decide) ?_
  refine lv_isub C.1 C.2.1 d_law_29 ?_
  exact lv_icmp_gt (tgt := 1499) C.1 C.2.1 d_law_30 (by decide) (fun _ => E H locs ls h1 h2 h3) (fun z => K (l_sub6 hL h6 z) H locs ls h1 h2 h3)
theorem l_body (C : lC p l s m meth c b L xs w2) (D : lD s.heap.size aX aM qo) (hi : 6 * i + 6 ≤ L) (R : Rel σ τ) (hcs : cells + 1 ≤ room_1.cells ∧ slots + 6 ≤ room_1.slots) (J : ∀ (σ1 τ1 : Mm) (g1 : Nat → Int64), Rel σ1 τ1 → lG p l e s m below meth c b w2 aX aM qo Q (cells + 1) (slots + 6) σ1 τ1 g1 23 (lvI b aX aM qo (i + 1)) []) : lG p l e s m below meth c b w2 aX aM qo Q cells slots σ τ g 33 (lvI b aX aM qo i) [] := by
  intro H locs ls h1 h2 h3
  have hL : L ≤ 3072 := C.2.2.2.2.2.2.2.2.2.2.2.2.2.2
  refine lv_aload_n C.1 C.2.1 d_law_33 rfl (lv_at h1 0 rfl) ?_
  refine lv_iload C.1 C.2.1 d_law_34 (lv_at h1 4 rfl) ?_
  refine va_sld (i := nI (6 * i)) C.1 C.2.1 C.2.2.2.2.2.2.2.2.2.1 C.2.2.2.2.2.2.2.2.2.2.1 C.bA h3 (vp_in_nI (by omega) (by omega)) d_law_36 ?_
  refine lv_bipush (v := 63) C.1 C.2.1 d_law_37 (by decide) ?_
  refine lv_iand C.1 C.2.1 d_law_39 ?_
  refine l_tab C D hi R hcs (fun σ1 τ1 g1 R1 => ?_) H locs ls h1 h2 h3
  intro H locs ls h1 h2 h3
  refine lv_iinc (v := nI (6 * i) + 6) (lv' := (4, .int (nI (6 * i) + 6)) :: [(0, .ref b), (1, .ref (aX 0)), (2, .ref (aM 0)), (3, .ref qo)]) C.1 C.2.1 d_law_1493 h1 (k := 4) rfl rfl (by decide) rfl (fun ls h4 => ?_)
  refine lv_goto (tgt := 23) C.1 C.2.1 d_law_1496 (by decide) ?_
  have e6 : nI (6 * i) + 6 = nI (6 * (i + 1)) := nI_add (6 * i) 6
  rw [e6] at h4
  exact J σ1 τ1 g1 R1 H locs ls (lv_sub h4 [1, 2, 3, 4, 0] rfl) h2 h3
theorem l_loop (C : lC p l s m meth c b L xs w2) (D : lD s.heap.size aX aM qo) (E : ∀ (i : Nat) (σ τ : Mm) (g : Nat → Int64), lG p l e s m below meth c b w2 aX aM qo Q room_1.cells room_1.slots σ τ g 1499 (lvI b aX aM qo i) []) :
    ∀ (n i : Nat) (σ τ : Mm) (g : Nat → Int64), L + 1 ≤ 6 * i + n → 6 * i ≤ 3078 → Rel σ τ → lG p l e s m below meth c b w2 aX aM qo Q (200 + i) (4000 + 6 * i) σ τ g 23 (lvI b aX aM qo i) [] := by
  have hL : L ≤ 3072 := C.2.2.2.2.2.2.2.2.2.2.2.2.2.2
  have r1 : room_1.cells = 601024 := rfl
  have r2 : room_1.slots = 7293034 := rfl
  intro n
  induction n with
  | zero =>
    intro i σ τ g hn h6 R
    exact l_head C (by omega) (l_wide (by omega) (by omega) (E i σ τ g)) (fun hi => absurd hn (by omega))
  | succ n ih =>
    intro i σ τ g hn h6 R
    refine l_head C (by omega) (l_wide (by omega) (by omega) (E i σ τ g)) (fun hi => ?_)
    exact l_body C D hi R ⟨by omega, by omega⟩ (fun σ1 τ1 g1 R1 => ih (i + 1) σ1 τ1 g1 (by omega) (by omega) R1)
end LC

