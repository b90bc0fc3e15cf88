/-! THE PURE PART, part 12: more methods of the model. Own work. -/
section RA
variable {G : Env0} {Q : Option AV → Mem → Prop} {M : Mem} {m : Nat}
theorem ac_loop {p_z : Int} (hs : ShM M m) (p0_z : 0 ≤ p_z) (p1_z : p_z + 4 ≤ 28) (hq : ∀ M', Ex (fun r_z => r_z = m ∨ r_z = m + 8 ∨ r_z = m + 9) M M' → (∀ j_z, j_z ≠ 25 → gI M' m j_z = gI M m j_z) → gI M' m 25 = p_z + 4 → gI M' (m + 8) = rc (gI M (m + 8)) p_z (gI M (m + 27)) 0 4 → gI M' (m + 9) = rc (gI M (m + 9)) p_z (gI M (m + 28)) 0 4 → Q none M') : ∀ (n_z : Nat) (k_z : Int) (M' : Mem), (4 - k_z).toNat = n_z → 0 ≤ k_z → k_z ≤ 4 → Ex (fun r_z => r_z = m ∨ r_z = m + 8 ∨ r_z = m + 9) M M' → (∀ j_z, j_z ≠ 25 → gI M' m j_z = gI M m j_z) → gI M' m 25 = p_z + k_z → gI M' (m + 8) = rc (gI M (m + 8)) p_z (gI M (m + 27)) 0 k_z → gI M' (m + 9) = rc (gI M (m + 9)) p_z (gI M (m + 28)) 0 k_z → At G 232 25 [a_r m, a_i k_z] [] M' Q := by
  intro n_z
  induction n_z with
  | zero =>
    intro k_z M' hn k0_z k1_z hE hF h25 hR1 hR2
    have : k_z = 4 := by omega
    subst this
    have hh := hq M' hE hF h25 hR1 hR2
    rw [B_232_25]
    simp (disch := omega) only [B_232_76, inI, inL, isT, kInt, kByt, true_and, and_true, an_t, im_t, im_f, or_true, true_or, true_imp_iff, false_imp_iff, not_true_eq_false, not_false_eq_true, gK_uI, gK_uL, gK_uR, gK_uCI, gK_uCL, gN_uI, gN_uL, gN_uR, gN_uCI, gN_uCL, gR_uI, gR_uL, gR_uCI, gR_uCL, gI_uL, gI_uR, gI_uCL, gL_uI, gL_uR, gL_uCI, gz_uI, gz_uL, gz_uR, gz_uCI, gz_uCL, gs_uI, gs_uL, gs_uR, gs_uCI, gs_uCL, rI_at, rL_at, rR_at, rI_ne, rL_ne, rR_ne, rI_nk, rL_nk, rR_nk, rI_eq, rL_eq, rR_eq, Option.toList_some, Option.toList_none, List.cons_append, List.nil_append, List.append_nil, zc_eq, zc_lt, zc_le, zc_ge, zc_gt]
    all_goals exact hh
  | succ n_z ih_z =>
    intro k_z M' hn k0_z k1_z hE hF h25 hR1 hR2
    have hs' := hE.sh hs
    have e27_z : gI M' (m + 27) = gI M (m + 27) := (hE.2.2.2.2.2 (m + 27) (by omega)).1
    have e28_z : gI M' (m + 28) = gI M (m + 28) := (hE.2.2.2.2.2 (m + 28) (by omega)).1
    have st_z := fun f_z g_z => rc_step f_z p_z g_z 0 k0_z
    simp only [Int.zero_add] at st_z
    have hh := ih_z (k_z + 1) (uI (uI (uI M' (m + 8) (p_z + k_z) (gI M (m + 27) k_z)) (m + 9) (p_z + k_z) (gI M (m + 28) k_z)) m 25 (p_z + k_z + 1)) (by omega) (by omega) (by omega) (((hE.uI _ _ (Or.inr (Or.inl rfl))).uI _ _ (Or.inr (Or.inr rfl))).uI _ _ (Or.inl rfl))
      (fun j_z hj => by rw [rI_nk hj, rI_ne (by omega), rI_ne (by omega)]; exact hF j_z hj)
      (by rw [rI_at]; omega)
      (by rw [rI_ne (by omega), rI_ne (by omega), rI_row, hR1, st_z])
      (by rw [rI_ne (by omega), rI_row, rI_ne (by omega), hR2, st_z])
    rw [B_232_25]
    simp (disch := omega) only [B_232_60, hs'.u, e27_z, e28_z, h25, inI, inL, isT, kInt, kByt, true_and, and_true, an_t, im_t, im_f, or_true, true_or, true_imp_iff, false_imp_iff, not_true_eq_false, not_false_eq_true, gK_uI, gK_uL, gK_uR, gK_uCI, gK_uCL, gN_uI, gN_uL, gN_uR, gN_uCI, gN_uCL, gR_uI, gR_uL, gR_uCI, gR_uCL, gI_uL, gI_uR, gI_uCL, gL_uI, gL_uR, gL_uCI, gz_uI, gz_uL, gz_uR, gz_uCI, gz_uCL, gs_uI, gs_uL, gs_uR, gs_uCI, gs_uCL, rI_at, rL_at, rR_at, rI_ne, rL_ne, rR_ne, rI_nk, rL_nk, rR_nk, rI_eq, rL_eq, rR_eq, Option.toList_some, Option.toList_none, List.cons_append, List.nil_append, List.append_nil, zc_eq, zc_lt, zc_le, zc_ge, zc_gt]
    all_goals exact hh
theorem X_addsCorners {p_z q_z : Int} (hs : ShM M m) (hp : gI M m 25 = p_z) (hr : gI M m 26 = q_z) (p0_z : 0 ≤ p_z) (p1_z : p_z + 4 ≤ 28) (q0 : 0 ≤ q_z) (q1_z : q_z < 28) (hq : ∀ M', Ex (fun r_z => r_z = m ∨ r_z = m + 8 ∨ r_z = m + 9 ∨ r_z = m + 10) M M' → (∀ j_z, j_z ≠ 25 → j_z ≠ 26 → gI M' m j_z = gI M m j_z) → gI M' m 25 = p_z + 4 → gI M' m 26 = q_z + 1 → gI M' (m + 8) = rc (gI M (m + 8)) p_z (gI M (m + 27)) 0 4 → gI M' (m + 9) = rc (gI M (m + 9)) p_z (gI M (m + 28)) 0 4 → gI M' (m + 10) = upf (gI M (m + 10)) q_z p_z → Q none M') : Call G J_M_addsCorners [a_r m] M Q := by
  have e8 : gI (uI (uI M (m + 10) q_z p_z) m 26 (q_z + 1)) (m + 8) = gI M (m + 8) := by simp (disch := omega) only [gK_uI, gK_uL, gK_uR, gK_uCI, gK_uCL, gN_uI, gN_uL, gN_uR, gN_uCI, gN_uCL, gR_uI, gR_uL, gR_uCI, gR_uCL, gI_uL, gI_uR, gI_uCL, gL_uI, gL_uR, gL_uCI, gz_uI, gz_uL, gz_uR, gz_uCI, gz_uCL, gs_uI, gs_uL, gs_uR, gs_uCI, gs_uCL, rI_at, rL_at, rR_at, rI_ne, rL_ne, rR_ne, rI_nk, rL_nk, rR_nk, rI_eq, rL_eq, rR_eq]
  have e9_z : gI (uI (uI M (m + 10) q_z p_z) m 26 (q_z + 1)) (m + 9) = gI M (m + 9) := by simp (disch := omega) only [gK_uI, gK_uL, gK_uR, gK_uCI, gK_uCL, gN_uI, gN_uL, gN_uR, gN_uCI, gN_uCL, gR_uI, gR_uL, gR_uCI, gR_uCL, gI_uL, gI_uR, gI_uCL, gL_uI, gL_uR, gL_uCI, gz_uI, gz_uL, gz_uR, gz_uCI, gz_uCL, gs_uI, gs_uL, gs_uR, gs_uCI, gs_uCL, rI_at, rL_at, rR_at, rI_ne, rL_ne, rR_ne, rI_nk, rL_nk, rR_nk, rI_eq, rL_eq, rR_eq]
  have e27_z : gI (uI (uI M (m + 10) q_z p_z) m 26 (q_z + 1)) (m + 27) = gI M (m + 27) := by simp (disch := omega) only [gK_uI, gK_uL, gK_uR, gK_uCI, gK_uCL, gN_uI, gN_uL, gN_uR, gN_uCI, gN_uCL, gR_uI, gR_uL, gR_uCI, gR_uCL, gI_uL, gI_uR, gI_uCL, gL_uI, gL_uR, gL_uCI, gz_uI, gz_uL, gz_uR, gz_uCI, gz_uCL, gs_uI, gs_uL, gs_uR, gs_uCI, gs_uCL, rI_at, rL_at, rR_at, rI_ne, rL_ne, rR_ne, rI_nk, rL_nk, rR_nk, rI_eq, rL_eq, rR_eq]
  have e28_z : gI (uI (uI M (m + 10) q_z p_z) m 26 (q_z + 1)) (m + 28) = gI M (m + 28) := by simp (disch := omega) only [gK_uI, gK_uL, gK_uR, gK_uCI, gK_uCL, gN_uI, gN_uL, gN_uR, gN_uCI, gN_uCL, gR_uI, gR_uL, gR_uCI, gR_uCL, gI_uL, gI_uR, gI_uCL, gL_uI, gL_uR, gL_uCI, gz_uI, gz_uL, gz_uR, gz_uCI, gz_uCL, gs_uI, gs_uL, gs_uR, gs_uCI, gs_uCL, rI_at, rL_at, rR_at, rI_ne, rL_ne, rR_ne, rI_nk, rL_nk, rR_nk, rI_eq, rL_eq, rR_eq]
  have e10_z : gI (uI (uI M (m + 10) q_z p_z) m 26 (q_z + 1)) (m + 10) = upf (gI M (m + 10)) q_z p_z := by
    rw [rI_ne (by omega), rI_row]
  have hA : Ex (fun r_z => r_z = m ∨ r_z = m + 8 ∨ r_z = m + 9 ∨ r_z = m + 10) M (uI (uI M (m + 10) q_z p_z) m 26 (q_z + 1)) := ((Ex.refl _ M).uI q_z p_z (Or.inr (Or.inr (Or.inr rfl)))).uI 26 (q_z + 1) (Or.inl rfl)
  have hh := ac_loop (G := G) (Q := Q) (M := uI (uI M (m + 10) q_z p_z) m 26 (q_z + 1)) (m := m) (p_z := p_z) hs p0_z p1_z (fun M' hE hF h25 hR1 hR2 => by
    have hE2 : Ex (fun r_z => r_z = m ∨ r_z = m + 8 ∨ r_z = m + 9 ∨ r_z = m + 10) M M' := hA.trans (hE.mono (fun r_z hr => by omega))
    refine hq M' hE2 (fun j_z h1 h2 => ?_) h25 ?_ ?_ ?_ ?_
    · rw [hF j_z h1, rI_nk h2, rI_ne (by omega)]
    · rw [hF 26 (by decide), rI_at]
    · rw [hR1, e8, e27_z]
    · rw [hR2, e9_z, e28_z]
    · rw [(hE.2.2.2.2.2 (m + 10) (by omega)).1, e10_z]) 4 0 (uI (uI M (m + 10) q_z p_z) m 26 (q_z + 1)) rfl (by decide) (by decide) (Ex.refl _ _) (fun _ _ => rfl) (by simp (disch := omega) only [gK_uI, gK_uL, gK_uR, gK_uCI, gK_uCL, gN_uI, gN_uL, gN_uR, gN_uCI, gN_uCL, gR_uI, gR_uL, gR_uCI, gR_uCL, gI_uL, gI_uR, gI_uCL, gL_uI, gL_uR, gL_uCI, gz_uI, gz_uL, gz_uR, gz_uCI, gz_uCL, gs_uI, gs_uL, gs_uR, gs_uCI, gs_uCL, rI_at, rL_at, rR_at, rI_ne, rL_ne, rR_ne, rI_nk, rL_nk, rR_nk, rI_eq, rL_eq, rR_eq]; omega) (rc_zero _ _ _ _).symm (rc_zero _ _ _ _).symm
  simp (disch := omega) only [E_M_addsCorners, B_232_0, B_232_23, hs.u, hp, hr, inI, inL, isT, kInt, kByt, true_and, and_true, an_t, im_t, im_f, or_true, true_or, true_imp_iff, false_imp_iff, not_true_eq_false, not_false_eq_true, gK_uI, gK_uL, gK_uR, gK_uCI, gK_uCL, gN_uI, gN_uL, gN_uR, gN_uCI, gN_uCL, gR_uI, gR_uL, gR_uCI, gR_uCL, gI_uL, gI_uR, gI_uCL, gL_uI, gL_uR, gL_uCI, gz_uI, gz_uL, gz_uR, gz_uCI, gz_uCL, gs_uI, gs_uL, gs_uR, gs_uCI, gs_uCL, rI_at, rL_at, rR_at, rI_ne, rL_ne, rR_ne, rI_nk, rL_nk, rR_nk, rI_eq, rL_eq, rR_eq, Option.toList_some, Option.toList_none, List.cons_append, List.nil_append, List.append_nil, zc_eq, zc_lt, zc_le, zc_ge, zc_gt]
  exact hh
theorem pt_loop {r_z l e_z d_z : Int} {N_z : Nat → Mem} (hs : ShM M m) (e0_z : 0 ≤ e_z) (e1_z : e_z + 12 ≤ 360) (i0_z : 0 ≤ gI M m 35) (i1_z : gI M m 35 < 30) (hq : ∀ M', Ex (fun a_z => a_z = m + 16) M M' → gI M' (m + 16) = rc (gI M (m + 16)) (e_z + 5) (gI M (m + 6)) 13 7 → Q none (uI M' m 35 (gI M m 35 + 1))) : ∀ (n_z : Nat) (k_z : Int) (M' : Mem), (7 - k_z).toNat = n_z → 0 ≤ k_z → k_z ≤ 7 → Ex (fun a_z => a_z = m + 16) M M' → gI M' (m + 16) = rc (gI M (m + 16)) (e_z + 5) (gI M (m + 6)) 13 k_z → At G 234 79 [a_r m, a_i r_z, a_i l, a_i e_z, a_i d_z, a_i k_z] [] M' Q := by
  intro n_z
  induction n_z with
  | zero =>
    intro k_z M' hn k0_z k1_z hE hR
    have hs' := hE.sh hs
    have em : gI M' m = gI M m := (hE.2.2.2.2.2 m (by omega)).1
    have : k_z = 7 := by omega
    subst this
    have hh := hq M' hE hR
    rw [B_234_79]
    simp (disch := omega) only [B_234_113, hs'.u, em, inI, inL, isT, kInt, kByt, true_and, and_true, an_t, im_t, im_f, or_true, true_or, true_imp_iff, false_imp_iff, not_true_eq_false, not_false_eq_true, gK_uI, gK_uL, gK_uR, gK_uCI, gK_uCL, gN_uI, gN_uL, gN_uR, gN_uCI, gN_uCL, gR_uI, gR_uL, gR_uCI, gR_uCL, gI_uL, gI_uR, gI_uCL, gL_uI, gL_uR, gL_uCI, gz_uI, gz_uL, gz_uR, gz_uCI, gz_uCL, gs_uI, gs_uL, gs_uR, gs_uCI, gs_uCL, rI_at, rL_at, rR_at, rI_ne, rL_ne, rR_ne, rI_nk, rL_nk, rR_nk, rI_eq, rL_eq, rR_eq, Option.toList_some, Option.toList_none, List.cons_append, List.nil_append, List.append_nil, zc_eq, zc_lt, zc_le, zc_ge, zc_gt]
    all_goals exact hh
  | succ n_z ih_z =>
    intro k_z M' hn k0_z k1_z hE hR
    have hs' := hE.sh hs
    have e6_z : gI M' (m + 6) = gI M (m + 6) := (hE.2.2.2.2.2 (m + 6) (by omega)).1
    have hh := ih_z (k_z + 1) (uI M' (m + 16) (e_z + 5 + k_z) (gI M (m + 6) (13 + k_z))) (by omega) (by omega) (by omega) (hE.uI _ _ rfl) (by
      rw [rI_row, hR, rc_step _ _ _ _ k0_z])
    rw [B_234_79]
    simp (disch := omega) only [hs'.u, e6_z, inI, inL, isT, kInt, kByt, true_and, and_true, an_t, im_t, im_f, or_true, true_or, true_imp_iff, false_imp_iff, not_true_eq_false, not_false_eq_true, gK_uI, gK_uL, gK_uR, gK_uCI, gK_uCL, gN_uI, gN_uL, gN_uR, gN_uCI, gN_uCL, gR_uI, gR_uL, gR_uCI, gR_uCL, gI_uL, gI_uR, gI_uCL, gL_uI, gL_uR, gL_uCI, gz_uI, gz_uL, gz_uR, gz_uCI, gz_uCL, gs_uI, gs_uL, gs_uR, gs_uCI, gs_uCL, rI_at, rL_at, rR_at, rI_ne, rL_ne, rR_ne, rI_nk, rL_nk, rR_nk, rI_eq, rL_eq, rR_eq, Option.toList_some, Option.toList_none, List.cons_append, List.nil_append, List.append_nil, zc_eq, zc_lt, zc_le, zc_ge, zc_gt]
    all_goals exact hh
theorem X_paints {rl l p_z it : Int} (hs : ShM M m) (hp : gI M m 33 = p_z) (p0_z : 0 ≤ p_z) (p1_z : p_z < 202) (n0_z : 0 ≤ gI M m 25) (n1_z : gI M m 25 ≤ 24) (hi_z : gI M m 35 = it) (i0_z : 0 ≤ it) (i1_z : it < 30) (l0 : 0 ≤ l) (l1 : l < 5) (s0_z : 0 ≤ gI M (m + 17) l) (s1_z : gI M (m + 17) l ≤ 100)
    (hq : ∀ M', Ex (fun r_z => r_z = m ∨ r_z = m + 11 ∨ r_z = m + 12 ∨ r_z = m + 13 ∨ r_z = m + 14 ∨ r_z = m + 15 ∨ r_z = m + 16) M M' → (∀ j_z, j_z ≠ 33 → j_z ≠ 35 → gI M' m j_z = gI M m j_z) → gI M' m 33 = p_z + 1 → gI M' m 35 = it + 1 → gI M' (m + 11) = rc (gI M (m + 11)) (24 * p_z) (gI M (m + 8)) 0 (gI M m 25) → gI M' (m + 12) = rc (gI M (m + 12)) (24 * p_z) (gI M (m + 9)) 0 (gI M m 25) → gI M' (m + 13) = rc (gI M (m + 13)) (24 * p_z) (gI M (m + 10)) 0 (gI M m 25) → gI M' (m + 14) = upf (gI M (m + 14)) p_z (gI M m 25) → gI M' (m + 15) = upf (gI M (m + 15)) p_z (gI M m 26) → gI M' (m + 16) = rc (upf (upf (upf (upf (upf (gI M (m + 16)) (12 * it) (gI M (m + 6) 12)) (12 * it + 1) rl) (12 * it + 2) p_z) (12 * it + 3) (gI M (m + 17) l - 1)) (12 * it + 4) (gI M (m + 18) l)) (12 * it + 5) (gI M (m + 6)) 13 7 → Q none M') : Call G J_M_paints [a_r m, a_i rl, a_i l] M Q := by
  simp (disch := omega) only [E_M_paints, B_234_0, hs.u, hi_z, inI, inL, isT, kInt, kByt, true_and, and_true, an_t, im_t, im_f, or_true, true_or, true_imp_iff, false_imp_iff, not_true_eq_false, not_false_eq_true, gK_uI, gK_uL, gK_uR, gK_uCI, gK_uCL, gN_uI, gN_uL, gN_uR, gN_uCI, gN_uCL, gR_uI, gR_uL, gR_uCI, gR_uCL, gI_uL, gI_uR, gI_uCL, gL_uI, gL_uR, gL_uCI, gz_uI, gz_uL, gz_uR, gz_uCI, gz_uCL, gs_uI, gs_uL, gs_uR, gs_uCI, gs_uCL, rI_at, rL_at, rR_at, rI_ne, rL_ne, rR_ne, rI_nk, rL_nk, rR_nk, rI_eq, rL_eq, rR_eq, Option.toList_some, Option.toList_none, List.cons_append, List.nil_append, List.append_nil, zc_eq, zc_lt, zc_le, zc_ge, zc_gt]
  refine X_keepsPath hs hp p0_z p1_z n0_z n1_z (fun M1_z hE h11 h12 h13 => ?_)
  have hs1 := hE.sh hs
  have em : gI M1_z m = gI M m := (hE.2.2.2.2.2 m (by omega)).1
  have e6_z : gI M1_z (m + 6) = gI M (m + 6) := (hE.2.2.2.2.2 (m + 6) (by omega)).1
  have e17_z : gI M1_z (m + 17) = gI M (m + 17) := (hE.2.2.2.2.2 (m + 17) (by omega)).1
  have e18_z : gI M1_z (m + 18) = gI M (m + 18) := (hE.2.2.2.2.2 (m + 18) (by omega)).1
  have e16_z : gI M1_z (m + 16) = gI M (m + 16) := (hE.2.2.2.2.2 (m + 16) (by omega)).1
  have e14_z : gI M1_z (m + 14) = gI M (m + 14) := (hE.2.2.2.2.2 (m + 14) (by omega)).1
  have e15_z : gI M1_z (m + 15) = gI M (m + 15) := (hE.2.2.2.2.2 (m + 15) (by omega)).1
  have hE2 := hE.mono (P'_z := fun r_z => r_z = m ∨ r_z = m + 11 ∨ r_z = m + 12 ∨ r_z = m + 13 ∨ r_z = m + 14 ∨ r_z = m + 15 ∨ r_z = m + 16) (fun r_z hr => by omega)
  have hE3 : Ex (fun r_z => r_z = m ∨ r_z = m + 11 ∨ r_z = m + 12 ∨ r_z = m + 13 ∨ r_z = m + 14 ∨ r_z = m + 15 ∨ r_z = m + 16) M (uI (uI (uI M1_z (m + 14) p_z (gI M m 25)) (m + 15) p_z (gI M m 26)) m 33 (p_z + 1)) := ((hE2.uI _ _ (by omega)).uI _ _ (by omega)).uI _ _ (Or.inl rfl)
  have a16 : gI (uI (uI (uI M1_z (m + 14) p_z (gI M m 25)) (m + 15) p_z (gI M m 26)) m 33 (p_z + 1)) (m + 16) = gI M (m + 16) := by rw [rI_ne (by omega), rI_ne (by omega), rI_ne (by omega), e16_z]
  have a6 : gI (uI (uI (uI M1_z (m + 14) p_z (gI M m 25)) (m + 15) p_z (gI M m 26)) m 33 (p_z + 1)) (m + 6) = gI M (m + 6) := by rw [rI_ne (by omega), rI_ne (by omega), rI_ne (by omega), e6_z]
  have a17 : gI (uI (uI (uI M1_z (m + 14) p_z (gI M m 25)) (m + 15) p_z (gI M m 26)) m 33 (p_z + 1)) (m + 17) = gI M (m + 17) := by rw [rI_ne (by omega), rI_ne (by omega), rI_ne (by omega), e17_z]
  have a18 : gI (uI (uI (uI M1_z (m + 14) p_z (gI M m 25)) (m + 15) p_z (gI M m 26)) m 33 (p_z + 1)) (m + 18) = gI M (m + 18) := by rw [rI_ne (by omega), rI_ne (by omega), rI_ne (by omega), e18_z]
  have a11 : gI (uI (uI (uI M1_z (m + 14) p_z (gI M m 25)) (m + 15) p_z (gI M m 26)) m 33 (p_z + 1)) (m + 11) = gI M1_z (m + 11) := by rw [rI_ne (by omega), rI_ne (by omega), rI_ne (by omega)]
  have a12 : gI (uI (uI (uI M1_z (m + 14) p_z (gI M m 25)) (m + 15) p_z (gI M m 26)) m 33 (p_z + 1)) (m + 12) = gI M1_z (m + 12) := by rw [rI_ne (by omega), rI_ne (by omega), rI_ne (by omega)]
  have a13 : gI (uI (uI (uI M1_z (m + 14) p_z (gI M m 25)) (m + 15) p_z (gI M m 26)) m 33 (p_z + 1)) (m + 13) = gI M1_z (m + 13) := by rw [rI_ne (by omega), rI_ne (by omega), rI_ne (by omega)]
  have a14 : gI (uI (uI (uI M1_z (m + 14) p_z (gI M m 25)) (m + 15) p_z (gI M m 26)) m 33 (p_z + 1)) (m + 14) = upf (gI M (m + 14)) p_z (gI M m 25) := by rw [rI_ne (by omega), rI_ne (by omega), rI_row, e14_z]
  have a15 : gI (uI (uI (uI M1_z (m + 14) p_z (gI M m 25)) (m + 15) p_z (gI M m 26)) m 33 (p_z + 1)) (m + 15) = upf (gI M (m + 15)) p_z (gI M m 26) := by rw [rI_ne (by omega), rI_row, rI_ne (by omega), e15_z]
  have amf : ∀ j_z, j_z ≠ 33 → gI (uI (uI (uI M1_z (m + 14) p_z (gI M m 25)) (m + 15) p_z (gI M m 26)) m 33 (p_z + 1)) m j_z = gI M m j_z := fun j_z hj => by rw [rI_nk hj, rI_ne (by omega), rI_ne (by omega), em]
  have am33 : gI (uI (uI (uI M1_z (m + 14) p_z (gI M m 25)) (m + 15) p_z (gI M m 26)) m 33 (p_z + 1)) m 33 = p_z + 1 := rI_at
  generalize uI (uI (uI M1_z (m + 14) p_z (gI M m 25)) (m + 15) p_z (gI M m 26)) m 33 (p_z + 1) = M2_z at *
  have hs2 := hE3.sh hs
  have am35 := amf 35 (by decide)
  have hh := pt_loop (G := G) (Q := Q) (r_z := rl) (l := l) (e_z := 12 * it) (d_z := p_z) (N_z := fun _ => M) (M := uI (uI (uI (uI (uI M2_z (m + 16) (12 * it) (gI M (m + 6) 12)) (m + 16) (12 * it + 1) rl) (m + 16) (12 * it + 2) p_z) (m + 16) (12 * it + 3) (gI M (m + 17) l - 1)) (m + 16) (12 * it + 4) (gI M (m + 18) l)) (m := m) hs2 (by omega) (by omega) (by simp (disch := omega) only [gK_uI, gK_uL, gK_uR, gK_uCI, gK_uCL, gN_uI, gN_uL, gN_uR, gN_uCI, gN_uCL, gR_uI, gR_uL, gR_uCI, gR_uCL, gI_uL, gI_uR, gI_uCL, gL_uI, gL_uR, gL_uCI, gz_uI, gz_uL, gz_uR, gz_uCI, gz_uCL, gs_uI, gs_uL, gs_uR, gs_uCI, gs_uCL, rI_at, rL_at, rR_at, rI_ne, rL_ne, rR_ne, rI_nk, rL_nk, rR_nk, rI_eq, rL_eq, rR_eq, am35]; omega) (by simp (disch := omega) only [gK_uI, gK_uL, gK_uR, gK_uCI, gK_uCL, gN_uI, gN_uL, gN_uR, gN_uCI, gN_uCL, gR_uI, gR_uL, gR_uCI, gR_uCL, gI_uL, gI_uR, gI_uCL, gL_uI, gL_uR, gL_uCI, gz_uI, gz_uL, gz_uR, gz_uCI, gz_uCL, gs_uI, gs_uL, gs_uR, gs_uCI, gs_uCL, rI_at, rL_at, rR_at, rI_ne, rL_ne, rR_ne, rI_nk, rL_nk, rR_nk, rI_eq, rL_eq, rR_eq, am35]; omega) (fun M4_z hE4 h16_z => by
    have b35 : gI (uI (uI (uI (uI (uI M2_z (m + 16) (12 * it) (gI M (m + 6) 12)) (m + 16) (12 * it + 1) rl) (m + 16) (12 * it + 2) p_z) (m + 16) (12 * it + 3) (gI M (m + 17) l - 1)) (m + 16) (12 * it + 4) (gI M (m + 18) l)) m 35 = it := by simp (disch := omega) only [gK_uI, gK_uL, gK_uR, gK_uCI, gK_uCL, gN_uI, gN_uL, gN_uR, gN_uCI, gN_uCL, gR_uI, gR_uL, gR_uCI, gR_uCL, gI_uL, gI_uR, gI_uCL, gL_uI, gL_uR, gL_uCI, gz_uI, gz_uL, gz_uR, gz_uCI, gz_uCL, gs_uI, gs_uL, gs_uR, gs_uCI, gs_uCL, rI_at, rL_at, rR_at, rI_ne, rL_ne, rR_ne, rI_nk, rL_nk, rR_nk, rI_eq, rL_eq, rR_eq, am35, hi_z]
    rw [b35]
    have q16_z : gI (uI (uI (uI (uI (uI M2_z (m + 16) (12 * it) (gI M (m + 6) 12)) (m + 16) (12 * it + 1) rl) (m + 16) (12 * it + 2) p_z) (m + 16) (12 * it + 3) (gI M (m + 17) l - 1)) (m + 16) (12 * it + 4) (gI M (m + 18) l)) (m + 16) = upf (upf (upf (upf (upf (gI M (m + 16)) (12 * it) (gI M (m + 6) 12)) (12 * it + 1) rl) (12 * it + 2) p_z) (12 * it + 3) (gI M (m + 17) l - 1)) (12 * it + 4) (gI M (m + 18) l) := by rw [rI_row, rI_row, rI_row, rI_row, rI_row, a16]
    have q6_z : gI (uI (uI (uI (uI (uI M2_z (m + 16) (12 * it) (gI M (m + 6) 12)) (m + 16) (12 * it + 1) rl) (m + 16) (12 * it + 2) p_z) (m + 16) (12 * it + 3) (gI M (m + 17) l - 1)) (m + 16) (12 * it + 4) (gI M (m + 18) l)) (m + 6) = gI M (m + 6) := by rw [rI_ne (by omega), rI_ne (by omega), rI_ne (by omega), rI_ne (by omega), rI_ne (by omega), a6]
    rw [q16_z, q6_z] at h16_z
    have hB_z : Ex (fun r_z => r_z = m ∨ r_z = m + 11 ∨ r_z = m + 12 ∨ r_z = m + 13 ∨ r_z = m + 14 ∨ r_z = m + 15 ∨ r_z = m + 16) M (uI (uI (uI (uI (uI M2_z (m + 16) (12 * it) (gI M (m + 6) 12)) (m + 16) (12 * it + 1) rl) (m + 16) (12 * it + 2) p_z) (m + 16) (12 * it + 3) (gI M (m + 17) l - 1)) (m + 16) (12 * it + 4) (gI M (m + 18) l)) := ((((hE3.uI _ _ (by omega)).uI _ _ (by omega)).uI _ _ (by omega)).uI _ _ (by omega)).uI _ _ (by omega)
    have hE5 : Ex (fun r_z => r_z = m ∨ r_z = m + 11 ∨ r_z = m + 12 ∨ r_z = m + 13 ∨ r_z = m + 14 ∨ r_z = m + 15 ∨ r_z = m + 16) M M4_z := hB_z.trans (hE4.mono (fun r_z hr => by omega))
    have rw4 : ∀ r_z, r_z ≠ m + 16 → gI M4_z r_z = gI M2_z r_z := fun r_z hr => by rw [(hE4.2.2.2.2.2 r_z hr).1, rI_ne hr, rI_ne hr, rI_ne hr, rI_ne hr, rI_ne hr]
    refine hq _ (hE5.uI _ _ (Or.inl rfl)) (fun j_z h1 h2 => ?_) ?_ rI_at ?_ ?_ ?_ ?_ ?_ ?_
    · rw [rI_nk h2, rw4 m (by omega)]
      exact amf j_z h1
    · rw [rI_nk (by decide), rw4 m (by omega)]
      exact am33
    · rw [rI_ne (by omega), rw4 _ (by omega), a11, h11]
    · rw [rI_ne (by omega), rw4 _ (by omega), a12, h12]
    · rw [rI_ne (by omega), rw4 _ (by omega), a13, h13]
    · rw [rI_ne (by omega), rw4 _ (by omega), a14]
    · rw [rI_ne (by omega), rw4 _ (by omega), a15]
    · rw [rI_ne (by omega), h16_z]) 7 0 _ rfl (by decide) (by decide) (Ex.refl _ _) (rc_zero _ _ _ _).symm
  simp (disch := omega) only [B_234_12, B_234_36, B_234_62, hs2.u, a6, a17, a18, inI, inL, isT, kInt, kByt, true_and, and_true, an_t, im_t, im_f, or_true, true_or, true_imp_iff, false_imp_iff, not_true_eq_false, not_false_eq_true, gK_uI, gK_uL, gK_uR, gK_uCI, gK_uCL, gN_uI, gN_uL, gN_uR, gN_uCI, gN_uCL, gR_uI, gR_uL, gR_uCI, gR_uCL, gI_uL, gI_uR, gI_uCL, gL_uI, gL_uR, gL_uCI, gz_uI, gz_uL, gz_uR, gz_uCI, gz_uCL, gs_uI, gs_uL, gs_uR, gs_uCI, gs_uCL, rI_at, rL_at, rR_at, rI_ne, rL_ne, rR_ne, rI_nk, rL_nk, rR_nk, rI_eq, rL_eq, rR_eq, Option.toList_some, Option.toList_none, List.cons_append, List.nil_append, List.append_nil, zc_eq, zc_lt, zc_le, zc_ge, zc_gt]
  all_goals exact hh
end RA
