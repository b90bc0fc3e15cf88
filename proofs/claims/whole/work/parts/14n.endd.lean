/-! THE PURE PART, part 14: the model drops its path; what ends a path, done. Own work. -/
section AK
variable {G : Env0} {Q : Option AV → Mem → Prop} {M T : Mem} {c s m r : Nat}
theorem X_endsD {p_z n_z mk : Int} (hs : ShM T m) (hp : gI T m 33 = p_z) (p0_z : 0 ≤ p_z) (p1_z : p_z < 202) (z0 : 0 ≤ gI T m 25) (z1 : gI T m 25 ≤ 24) (hm_z : gI T m 27 = mk) (hm2 : mk ≤ 2) (hn : gI T (m + 6) 13 = n_z) (n0_z : 0 ≤ n_z) (n1_z : 0 < mk → n_z < 6) (h0 : mk ≤ 0 → Q none (uI (uI (uI T m 25 0) m 26 0) m 27 0))
    (h1 : 0 < mk → ∀ T1, KpT T T1 m p_z → gI T1 m 35 = gI T m 35 → gI T1 (m + 16) = gI T (m + 16) → Q none (uI (uI (uI (uI (uI T1 (m + 6) (14 + n_z) (2 * p_z + (mk - 1))) (m + 6) 13 (n_z + 1)) m 25 0) m 26 0) m 27 0)) : Call G J_M_ends [a_r m, a_i 11] T Q := by
  by_cases cm : mk ≤ 0
  · have hh := h0 cm
    have em := fun qq => X_empties (G := G) (Q := qq) hs
    simp (disch := omega) only [E_M_ends, B_233_0, B_233_25, hs.u, hm_z, B_233_61, em, B_233_65, inI, inL, isT, kInt, kByt, true_and, and_true, an_t, im_t, im_f, or_true, true_or, true_imp_iff, false_imp_iff, not_true_eq_false, not_false_eq_true, gK_uI, gK_uL, gK_uR, gK_uCI, gK_uCL, gN_uI, gN_uL, gN_uR, gN_uCI, gN_uCL, gR_uI, gR_uL, gR_uCI, gR_uCL, gI_uL, gI_uR, gI_uCL, gL_uI, gL_uR, gL_uCI, gz_uI, gz_uL, gz_uR, gz_uCI, gz_uCL, gs_uI, gs_uL, gs_uR, gs_uCI, gs_uCL, rI_at, rL_at, rR_at, rI_ne, rL_ne, rR_ne, rI_nk, rL_nk, rR_nk, rI_eq, rL_eq, rR_eq, Option.toList_some, Option.toList_none, List.cons_append, List.nil_append, List.append_nil, zc_eq, zc_lt, zc_le, zc_ge, zc_gt]
    all_goals exact hh
  · have hh := h1 (by omega)
    have n2_z := n1_z (by omega)
    have kp_z : Call G J_M_keepsPath [a_r m] T (fun r M2_z => At G 233 43 [a_r m, a_i 11] (r.toList ++ [a_r m]) M2_z Q) := by
      refine X_keepsPath hs hp p0_z p1_z z0 z1 (fun M' hE h11 h12 h13 => ?_)
      have hs1 : ShM M' m := Ex.sh (hE.mono (fun a_z ha_z => show m ≤ a_z ∧ a_z < m + 29 by omega)) hs
      have oE : Ex (fun r => r = m ∨ (m + 11 ≤ r ∧ r ≤ m + 16)) T (uI (uI (uI M' (m + 14) p_z (gI T m 25)) (m + 15) p_z (gI T m 26)) m 33 (p_z + 1)) := (((hE.mono (fun a_z ha_z => by omega)).uI _ _ (by omega)).uI _ _ (by omega)).uI _ _ (by omega)
      have mrow : ∀ a_z, a_z ≠ m + 11 → a_z ≠ m + 12 → a_z ≠ m + 13 → gI M' a_z = gI T a_z := fun a_z q0 q1_z q2_z => (hE.2.2.2.2.2 a_z (by omega)).1
      have hs2 : ShM (uI (uI (uI M' (m + 14) p_z (gI T m 25)) (m + 15) p_z (gI T m 26)) m 33 (p_z + 1)) m := hs1
      have fj : ∀ j_z, j_z ≠ 33 → gI (uI (uI (uI M' (m + 14) p_z (gI T m 25)) (m + 15) p_z (gI T m 26)) m 33 (p_z + 1)) m j_z = gI T m j_z := fun j_z q0 => by
        rw [rI_nk q0, rI_ne (by omega), rI_ne (by omega), mrow m (by omega) (by omega) (by omega)]
      have q6_z : gI (uI (uI (uI M' (m + 14) p_z (gI T m 25)) (m + 15) p_z (gI T m 26)) m 33 (p_z + 1)) (m + 6) = gI T (m + 6) := by
        rw [rI_ne (by omega), rI_ne (by omega), rI_ne (by omega), mrow _ (by omega) (by omega) (by omega)]
      have kk : KpT T (uI (uI (uI M' (m + 14) p_z (gI T m 25)) (m + 15) p_z (gI T m 26)) m 33 (p_z + 1)) m p_z := by
        refine ⟨oE, fun j_z q0 q1_z => fj j_z q0, rI_at, ?_, ?_, ?_, ?_, ?_⟩
        · rw [rI_ne (by omega), rI_ne (by omega), rI_ne (by omega), h11]
        · rw [rI_ne (by omega), rI_ne (by omega), rI_ne (by omega), h12]
        · rw [rI_ne (by omega), rI_ne (by omega), rI_ne (by omega), h13]
        · rw [rI_ne (by omega), rI_ne (by omega), rI_row, mrow _ (by omega) (by omega) (by omega)]
        · rw [rI_ne (by omega), rI_row, rI_ne (by omega), mrow _ (by omega) (by omega) (by omega)]
      have h2 := hh _ kk (fj 35 (by decide)) (by rw [rI_ne (by omega), rI_ne (by omega), rI_ne (by omega), mrow _ (by omega) (by omega) (by omega)])
      have g27 := (fj 27 (by decide)).trans hm_z
      generalize uI (uI (uI M' (m + 14) p_z (gI T m 25)) (m + 15) p_z (gI T m 26)) m 33 (p_z + 1) = T1 at *
      have hn1 : gI T1 (m + 6) 13 = n_z := by rw [q6_z]; exact hn
      have cl_z := fun qq => X_clips (G := G) (Q := qq) (p_z := p_z) (r_z := mk - 1) hs2 (by omega) (by omega) (by omega) (by omega)
      rw [hn1] at cl_z
      have hs3 : ShM (uI (uI T1 (m + 6) (14 + n_z) (2 * p_z + (mk - 1))) (m + 6) 13 (n_z + 1)) m := hs2
      have em := fun qq => X_empties (G := G) (Q := qq) hs3
      simp (disch := omega) only [B_233_43, B_233_52, hs2.u, g27, cl_z, B_233_61, hs3.u, em, B_233_65, inI, inL, isT, kInt, kByt, true_and, and_true, an_t, im_t, im_f, or_true, true_or, true_imp_iff, false_imp_iff, not_true_eq_false, not_false_eq_true, gK_uI, gK_uL, gK_uR, gK_uCI, gK_uCL, gN_uI, gN_uL, gN_uR, gN_uCI, gN_uCL, gR_uI, gR_uL, gR_uCI, gR_uCL, gI_uL, gI_uR, gI_uCL, gL_uI, gL_uR, gL_uCI, gz_uI, gz_uL, gz_uR, gz_uCI, gz_uCL, gs_uI, gs_uL, gs_uR, gs_uCI, gs_uCL, rI_at, rL_at, rR_at, rI_ne, rL_ne, rR_ne, rI_nk, rL_nk, rR_nk, rI_eq, rL_eq, rR_eq, Option.toList_some, Option.toList_none, List.cons_append, List.nil_append, List.append_nil, zc_eq, zc_lt, zc_le, zc_ge, zc_gt]
      all_goals exact h2
    simp (disch := omega) only [E_M_ends, B_233_0, B_233_25, hs.u, hm_z, inI, inL, isT, kInt, kByt, true_and, and_true, an_t, im_t, im_f, or_true, true_or, true_imp_iff, false_imp_iff, not_true_eq_false, not_false_eq_true, gK_uI, gK_uL, gK_uR, gK_uCI, gK_uCL, gN_uI, gN_uL, gN_uR, gN_uCI, gN_uCL, gR_uI, gR_uL, gR_uCI, gR_uCL, gI_uL, gI_uR, gI_uCL, gL_uI, gL_uR, gL_uCI, gz_uI, gz_uL, gz_uR, gz_uCI, gz_uCL, gs_uI, gs_uL, gs_uR, gs_uCI, gs_uCL, rI_at, rL_at, rR_at, rI_ne, rL_ne, rR_ne, rI_nk, rL_nk, rR_nk, rI_eq, rL_eq, rR_eq, Option.toList_some, Option.toList_none, List.cons_append, List.nil_append, List.append_nil, zc_eq, zc_lt, zc_le, zc_ge, zc_gt]
    all_goals exact kp_z
theorem X_doesE {k_z d_z : Nat} {w_z : Int} (hs : ShM T m) (hk : k_z = 9 ∨ k_z = 10 ∨ k_z = 11) (hl : gI T m 36 = (d_z : Int)) (hw : gI T (m + 19) d_z = w_z) (l1 : d_z < 5) (w0_z : 0 ≤ w_z) (w1_z : w_z ≤ 16) (h_z : ∀ qq : Option AV → Mem → Prop, (∀ M2_z, Q none M2_z → qq none M2_z) → Call G J_M_ends [a_r m, a_i (k_z : Int)] (uI T (m + 19) d_z (w_z - 0)) qq) : Call G J_M_does [a_r m, a_i (k_z : Int)] T Q := by
  have hh := h_z (fun r M2_z => At G 228 306 [a_r m, a_i (k_z : Int), a_i 0, a_i 0, a_i 0, a_u] r.toList M2_z Q) (fun M2_z hM_z => by
    simp (disch := omega) only [B_228_306, B_228_353, inI, inL, isT, kInt, kByt, true_and, and_true, an_t, im_t, im_f, or_true, true_or, true_imp_iff, false_imp_iff, not_true_eq_false, not_false_eq_true, gK_uI, gK_uL, gK_uR, gK_uCI, gK_uCL, gN_uI, gN_uL, gN_uR, gN_uCI, gN_uCL, gR_uI, gR_uL, gR_uCI, gR_uCL, gI_uL, gI_uR, gI_uCL, gL_uI, gL_uR, gL_uCI, gz_uI, gz_uL, gz_uR, gz_uCI, gz_uCL, gs_uI, gs_uL, gs_uR, gs_uCI, gs_uCL, rI_at, rL_at, rR_at, rI_ne, rL_ne, rR_ne, rI_nk, rL_nk, rR_nk, rI_eq, rL_eq, rR_eq, Option.toList_some, Option.toList_none, List.cons_append, List.nil_append, List.append_nil, zc_eq, zc_lt, zc_le, zc_ge, zc_gt]
    exact hM_z)
  have go_z : At G 228 301 [a_r m, a_i (k_z : Int), a_i 0, a_i 0, a_i 0, a_u] [] (uI T (m + 19) d_z (w_z - 0)) Q := by
    simp (disch := omega) only [B_228_301, hs.u, inI, inL, isT, kInt, kByt, true_and, and_true, an_t, im_t, im_f, or_true, true_or, true_imp_iff, false_imp_iff, not_true_eq_false, not_false_eq_true, gK_uI, gK_uL, gK_uR, gK_uCI, gK_uCL, gN_uI, gN_uL, gN_uR, gN_uCI, gN_uCL, gR_uI, gR_uL, gR_uCI, gR_uCL, gI_uL, gI_uR, gI_uCL, gL_uI, gL_uR, gL_uCI, gz_uI, gz_uL, gz_uR, gz_uCI, gz_uCL, gs_uI, gs_uL, gs_uR, gs_uCI, gs_uCL, rI_at, rL_at, rR_at, rI_ne, rL_ne, rR_ne, rI_nk, rL_nk, rR_nk, rI_eq, rL_eq, rR_eq, Option.toList_some, Option.toList_none, List.cons_append, List.nil_append, List.append_nil, zc_eq, zc_lt, zc_le, zc_ge, zc_gt]
    all_goals exact hh
  rcases hk with hk | hk | hk <;> subst hk
  · have n17 := fun qq => X_needed (G := G) (T := T) (Q := qq) (k_z := 9) (by omega) (by omega)
    rw [show need 9 = 0 from by decide] at n17
    simp (disch := omega) only [E_M_does, B_228_0, Int.cast_ofNat_Int, n17, B_228_4, B_228_23, hs.u, B_228_24, B_228_54, B_228_55, Y_inF (x_z := 9) (y_z := 16) (w_z := 18) (by omega), B_228_65, B_228_74, hl, hw, inI, inL, isT, kInt, kByt, true_and, and_true, an_t, im_t, im_f, or_true, true_or, true_imp_iff, false_imp_iff, not_true_eq_false, not_false_eq_true, gK_uI, gK_uL, gK_uR, gK_uCI, gK_uCL, gN_uI, gN_uL, gN_uR, gN_uCI, gN_uCL, gR_uI, gR_uL, gR_uCI, gR_uCL, gI_uL, gI_uR, gI_uCL, gL_uI, gL_uR, gL_uCI, gz_uI, gz_uL, gz_uR, gz_uCI, gz_uCL, gs_uI, gs_uL, gs_uR, gs_uCI, gs_uCL, rI_at, rL_at, rR_at, rI_ne, rL_ne, rR_ne, rI_nk, rL_nk, rR_nk, rI_eq, rL_eq, rR_eq, Option.toList_some, Option.toList_none, List.cons_append, List.nil_append, List.append_nil, zc_eq, zc_lt, zc_le, zc_ge, zc_gt] at go_z ⊢
    all_goals exact go_z
  · have n17 := fun qq => X_needed (G := G) (T := T) (Q := qq) (k_z := 10) (by omega) (by omega)
    rw [show need 10 = 0 from by decide] at n17
    simp (disch := omega) only [E_M_does, B_228_0, Int.cast_ofNat_Int, n17, B_228_4, B_228_23, hs.u, B_228_24, B_228_54, B_228_55, Y_inF (x_z := 10) (y_z := 16) (w_z := 18) (by omega), B_228_65, B_228_74, hl, hw, inI, inL, isT, kInt, kByt, true_and, and_true, an_t, im_t, im_f, or_true, true_or, true_imp_iff, false_imp_iff, not_true_eq_false, not_false_eq_true, gK_uI, gK_uL, gK_uR, gK_uCI, gK_uCL, gN_uI, gN_uL, gN_uR, gN_uCI, gN_uCL, gR_uI, gR_uL, gR_uCI, gR_uCL, gI_uL, gI_uR, gI_uCL, gL_uI, gL_uR, gL_uCI, gz_uI, gz_uL, gz_uR, gz_uCI, gz_uCL, gs_uI, gs_uL, gs_uR, gs_uCI, gs_uCL, rI_at, rL_at, rR_at, rI_ne, rL_ne, rR_ne, rI_nk, rL_nk, rR_nk, rI_eq, rL_eq, rR_eq, Option.toList_some, Option.toList_none, List.cons_append, List.nil_append, List.append_nil, zc_eq, zc_lt, zc_le, zc_ge, zc_gt] at go_z ⊢
    all_goals exact go_z
  · have n17 := fun qq => X_needed (G := G) (T := T) (Q := qq) (k_z := 11) (by omega) (by omega)
    rw [show need 11 = 0 from by decide] at n17
    simp (disch := omega) only [E_M_does, B_228_0, Int.cast_ofNat_Int, n17, B_228_4, B_228_23, hs.u, B_228_24, B_228_54, B_228_55, Y_inF (x_z := 11) (y_z := 16) (w_z := 18) (by omega), B_228_65, B_228_74, hl, hw, inI, inL, isT, kInt, kByt, true_and, and_true, an_t, im_t, im_f, or_true, true_or, true_imp_iff, false_imp_iff, not_true_eq_false, not_false_eq_true, gK_uI, gK_uL, gK_uR, gK_uCI, gK_uCL, gN_uI, gN_uL, gN_uR, gN_uCI, gN_uCL, gR_uI, gR_uL, gR_uCI, gR_uCL, gI_uL, gI_uR, gI_uCL, gL_uI, gL_uR, gL_uCI, gz_uI, gz_uL, gz_uR, gz_uCI, gz_uCL, gs_uI, gs_uL, gs_uR, gs_uCI, gs_uCL, rI_at, rL_at, rR_at, rI_ne, rL_ne, rR_ne, rI_nk, rL_nk, rR_nk, rI_eq, rL_eq, rR_eq, Option.toList_some, Option.toList_none, List.cons_append, List.nil_append, List.append_nil, zc_eq, zc_lt, zc_le, zc_ge, zc_gt] at go_z ⊢
    all_goals exact go_z
end AK
