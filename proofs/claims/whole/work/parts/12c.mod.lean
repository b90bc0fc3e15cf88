/-! THE PURE PART, part 12: the model's small methods. Own work. -/
def upf (f_z : Int → Int) (k_z v_z : Int) : Int → Int := fun j_z => if j_z = k_z then v_z else f_z j_z
theorem upf_at (f_z : Int → Int) (k_z v_z : Int) : upf f_z k_z v_z k_z = v_z := if_pos rfl
theorem upf_ne (f_z : Int → Int) {k_z j_z : Int} (v_z : Int) (h_z : j_z ≠ k_z) : upf f_z k_z v_z j_z = f_z j_z := if_neg h_z
theorem upf_eq (f_z : Int → Int) {k_z j_z : Int} (v_z : Int) (h_z : j_z = k_z) : upf f_z k_z v_z j_z = v_z := if_pos h_z
theorem rI_row {M_z : Mem} {r_z : Nat} {k_z v_z : Int} : gI (uI M_z r_z k_z v_z) r_z = upf (gI M_z r_z) k_z v_z := by
  funext j
  rw [gI_uI]
  unfold upf
  by_cases h_z : j = k_z
  · rw [if_pos ⟨rfl, h_z⟩, if_pos h_z]
  · rw [if_neg (fun q_z => h_z q_z.2), if_neg h_z]
/-- a_z row with n_z places of another row from a_z on -/
def rc (f_z : Int → Int) (a_z : Int) (g_z : Int → Int) (b_z n_z : Int) : Int → Int := fun i_z => if a_z ≤ i_z ∧ i_z < a_z + n_z then g_z (b_z + (i_z - a_z)) else f_z i_z
theorem rc_in (f_z : Int → Int) {a_z : Int} (g_z : Int → Int) {b_z n_z i_z : Int} (h_z : a_z ≤ i_z ∧ i_z < a_z + n_z) : rc f_z a_z g_z b_z n_z i_z = g_z (b_z + (i_z - a_z)) := if_pos h_z
theorem rc_out (f_z : Int → Int) {a_z : Int} (g_z : Int → Int) {b_z n_z i_z : Int} (h_z : ¬ (a_z ≤ i_z ∧ i_z < a_z + n_z)) : rc f_z a_z g_z b_z n_z i_z = f_z i_z := if_neg h_z
theorem rc_zero (f_z : Int → Int) (a_z : Int) (g_z : Int → Int) (b_z : Int) : rc f_z a_z g_z b_z 0 = f_z := by
  funext i
  exact if_neg (by omega)
theorem rc_step (f_z : Int → Int) (a_z : Int) (g_z : Int → Int) (b_z : Int) {k_z : Int} (hk : 0 ≤ k_z) : upf (rc f_z a_z g_z b_z k_z) (a_z + k_z) (g_z (b_z + k_z)) = rc f_z a_z g_z b_z (k_z + 1) := by
  funext i
  unfold upf rc
  by_cases h_z : i = a_z + k_z
  · rw [if_pos h_z, if_pos (by omega), show b_z + (i - a_z) = b_z + k_z from by omega]
  · rw [if_neg h_z]
    by_cases h2 : a_z ≤ i ∧ i < a_z + k_z
    · rw [if_pos h2, if_pos (by omega)]
    · rw [if_neg h2, if_neg (by omega)]
theorem rCI_row {M_z : Mem} {a_z b_z : Nat} {i_z j_z n_z : Int} : gI (uCI M_z a_z i_z b_z j_z n_z) a_z = rc (gI M_z a_z) i_z (gI M_z b_z) j_z n_z := by
  funext k
  rw [gI_uCI]
  unfold rc
  by_cases h_z : i_z ≤ k ∧ k < i_z + n_z
  · rw [if_pos ⟨rfl, h_z⟩, if_pos h_z]
  · rw [if_neg (fun q_z => h_z q_z.2), if_neg h_z]
theorem Ex.sh {P_z : Nat → Prop} {M_z M' : Mem} {m_z : Nat} (h_z : Ex P_z M_z M') (hs : ShM M_z m_z) : ShM M' m_z := by
  obtain ⟨a1_z, a2, a3, a4, a5, a6⟩ := h_z
  unfold ShM ShMx
  rw [a1_z, a2, a3]
  exact hs
section QA
variable {G : Env0} {Q : Option AV → Mem → Prop} {M : Mem} {m : Nat}
theorem Y_in {x_z y_z w_z : Int} : Call G J_M_in [a_i x_z, a_i y_z, a_i w_z] M Q ↔ Q (some (a_i (zB (y_z ≤ x_z ∧ x_z ≤ w_z)))) M := by
  by_cases c1_z : x_z < y_z
  · rw [zB_f (by omega)]
    simp (disch := omega) only [E_M_in, B_170_0, B_170_14, B_170_15, inI, inL, isT, kInt, kByt, true_and, and_true, an_t, im_t, im_f, or_true, true_or, true_imp_iff, false_imp_iff, not_true_eq_false, not_false_eq_true, gK_uI, gK_uL, gK_uR, gK_uCI, gK_uCL, gN_uI, gN_uL, gN_uR, gN_uCI, gN_uCL, gR_uI, gR_uL, gR_uCI, gR_uCL, gI_uL, gI_uR, gI_uCL, gL_uI, gL_uR, gL_uCI, gz_uI, gz_uL, gz_uR, gz_uCI, gz_uCL, gs_uI, gs_uL, gs_uR, gs_uCI, gs_uCL, rI_at, rL_at, rR_at, rI_ne, rL_ne, rR_ne, rI_nk, rL_nk, rR_nk, rI_eq, rL_eq, rR_eq, Option.toList_some, Option.toList_none, List.cons_append, List.nil_append, List.append_nil, zc_eq, zc_lt, zc_le, zc_ge, zc_gt]
  · by_cases c2_z : w_z < x_z
    · rw [zB_f (by omega)]
      simp (disch := omega) only [E_M_in, B_170_0, B_170_14, B_170_15, inI, inL, isT, kInt, kByt, true_and, and_true, an_t, im_t, im_f, or_true, true_or, true_imp_iff, false_imp_iff, not_true_eq_false, not_false_eq_true, gK_uI, gK_uL, gK_uR, gK_uCI, gK_uCL, gN_uI, gN_uL, gN_uR, gN_uCI, gN_uCL, gR_uI, gR_uL, gR_uCI, gR_uCL, gI_uL, gI_uR, gI_uCL, gL_uI, gL_uR, gL_uCI, gz_uI, gz_uL, gz_uR, gz_uCI, gz_uCL, gs_uI, gs_uL, gs_uR, gs_uCI, gs_uCL, rI_at, rL_at, rR_at, rI_ne, rL_ne, rR_ne, rI_nk, rL_nk, rR_nk, rI_eq, rL_eq, rR_eq, Option.toList_some, Option.toList_none, List.cons_append, List.nil_append, List.append_nil, zc_eq, zc_lt, zc_le, zc_ge, zc_gt]
    · rw [zB_t (by omega)]
      simp (disch := omega) only [E_M_in, B_170_0, B_170_14, B_170_15, inI, inL, isT, kInt, kByt, true_and, and_true, an_t, im_t, im_f, or_true, true_or, true_imp_iff, false_imp_iff, not_true_eq_false, not_false_eq_true, gK_uI, gK_uL, gK_uR, gK_uCI, gK_uCL, gN_uI, gN_uL, gN_uR, gN_uCI, gN_uCL, gR_uI, gR_uL, gR_uCI, gR_uCL, gI_uL, gI_uR, gI_uCL, gL_uI, gL_uR, gL_uCI, gz_uI, gz_uL, gz_uR, gz_uCI, gz_uCL, gs_uI, gs_uL, gs_uR, gs_uCI, gs_uCL, rI_at, rL_at, rR_at, rI_ne, rL_ne, rR_ne, rI_nk, rL_nk, rR_nk, rI_eq, rL_eq, rR_eq, Option.toList_some, Option.toList_none, List.cons_append, List.nil_append, List.append_nil, zc_eq, zc_lt, zc_le, zc_ge, zc_gt]
theorem Y_inT {x_z y_z w_z : Int} (h_z : y_z ≤ x_z ∧ x_z ≤ w_z) : Call G J_M_in [a_i x_z, a_i y_z, a_i w_z] M Q ↔ Q (some (a_i 1)) M := by rw [Y_in, zB_t h_z]
theorem Y_inF {x_z y_z w_z : Int} (h_z : ¬ (y_z ≤ x_z ∧ x_z ≤ w_z)) : Call G J_M_in [a_i x_z, a_i y_z, a_i w_z] M Q ↔ Q (some (a_i 0)) M := by rw [Y_in, zB_f h_z]
theorem X_empties (hs : ShM M m) : Call G J_M_empties [a_r m] M Q ↔ Q none (uI (uI (uI M m 25 0) m 26 0) m 27 0) := by
  simp (disch := omega) only [E_M_empties, B_198_0, B_198_10, hs.u, inI, inL, isT, kInt, kByt, true_and, and_true, an_t, im_t, im_f, or_true, true_or, true_imp_iff, false_imp_iff, not_true_eq_false, not_false_eq_true, gK_uI, gK_uL, gK_uR, gK_uCI, gK_uCL, gN_uI, gN_uL, gN_uR, gN_uCI, gN_uCL, gR_uI, gR_uL, gR_uCI, gR_uCL, gI_uL, gI_uR, gI_uCL, gL_uI, gL_uR, gL_uCI, gz_uI, gz_uL, gz_uR, gz_uCI, gz_uCL, gs_uI, gs_uL, gs_uR, gs_uCI, gs_uCL, rI_at, rL_at, rR_at, rI_ne, rL_ne, rR_ne, rI_nk, rL_nk, rR_nk, rI_eq, rL_eq, rR_eq, Option.toList_some, Option.toList_none, List.cons_append, List.nil_append, List.append_nil, zc_eq, zc_lt, zc_le, zc_ge, zc_gt]
theorem X_topE {k_z l w_z : Int} (hs : ShM M m) (hl : gI M m 36 = l) (hw : gI M (m + 19) l = w_z) (l0 : 0 ≤ l) (l1 : l < 5) (w0_z : 0 ≤ w_z) (w1_z : w_z ≤ 16) (h1 : -20 ≤ k_z) (h2 : k_z ≤ 20) : Call G J_M_top [a_r m, a_i k_z] M Q ↔ Q (some (a_i (16 * l + w_z - 1 - k_z))) M := by
  simp (disch := omega) only [E_M_top, B_204_0, hs.u, hl, hw, inI, inL, isT, kInt, kByt, true_and, and_true, an_t, im_t, im_f, or_true, true_or, true_imp_iff, false_imp_iff, not_true_eq_false, not_false_eq_true, gK_uI, gK_uL, gK_uR, gK_uCI, gK_uCL, gN_uI, gN_uL, gN_uR, gN_uCI, gN_uCL, gR_uI, gR_uL, gR_uCI, gR_uCL, gI_uL, gI_uR, gI_uCL, gL_uI, gL_uR, gL_uCI, gz_uI, gz_uL, gz_uR, gz_uCI, gz_uCL, gs_uI, gs_uL, gs_uR, gs_uCI, gs_uCL, rI_at, rL_at, rR_at, rI_ne, rL_ne, rR_ne, rI_nk, rL_nk, rR_nk, rI_eq, rL_eq, rR_eq]
theorem X_addsPoint {k_z : Int} (hs : ShM M m) (h0 : 0 ≤ k_z) (h1 : k_z < 28) : Call G J_M_addsPoint [a_r m, a_i k_z] M Q ↔ Q none (uI (uI M (m + 8) k_z (gI M m 20)) (m + 9) k_z (gI M m 21)) := by
  simp (disch := omega) only [E_M_addsPoint, B_231_0, B_231_20, hs.u, inI, inL, isT, kInt, kByt, true_and, and_true, an_t, im_t, im_f, or_true, true_or, true_imp_iff, false_imp_iff, not_true_eq_false, not_false_eq_true, gK_uI, gK_uL, gK_uR, gK_uCI, gK_uCL, gN_uI, gN_uL, gN_uR, gN_uCI, gN_uCL, gR_uI, gR_uL, gR_uCI, gR_uCL, gI_uL, gI_uR, gI_uCL, gL_uI, gL_uR, gL_uCI, gz_uI, gz_uL, gz_uR, gz_uCI, gz_uCL, gs_uI, gs_uL, gs_uR, gs_uCI, gs_uCL, rI_at, rL_at, rR_at, rI_ne, rL_ne, rR_ne, rI_nk, rL_nk, rR_nk, rI_eq, rL_eq, rR_eq, Option.toList_some, Option.toList_none, List.cons_append, List.nil_append, List.append_nil, zc_eq, zc_lt, zc_le, zc_ge, zc_gt]
theorem X_clips {p_z r_z : Int} (hs : ShM M m) (h0 : 0 ≤ gI M (m + 6) 13) (h1 : gI M (m + 6) 13 < 6) (hp : 0 ≤ p_z ∧ p_z ≤ 1000) (hr : 0 ≤ r_z ∧ r_z ≤ 1) : Call G J_M_clips [a_r m, a_i p_z, a_i r_z] M Q ↔ Q none (uI (uI M (m + 6) (14 + gI M (m + 6) 13) (2 * p_z + r_z)) (m + 6) 13 (gI M (m + 6) 13 + 1)) := by
  simp (disch := omega) only [E_M_clips, B_236_0, B_236_31, hs.u, inI, inL, isT, kInt, kByt, true_and, and_true, an_t, im_t, im_f, or_true, true_or, true_imp_iff, false_imp_iff, not_true_eq_false, not_false_eq_true, gK_uI, gK_uL, gK_uR, gK_uCI, gK_uCL, gN_uI, gN_uL, gN_uR, gN_uCI, gN_uCL, gR_uI, gR_uL, gR_uCI, gR_uCL, gI_uL, gI_uR, gI_uCL, gL_uI, gL_uR, gL_uCI, gz_uI, gz_uL, gz_uR, gz_uCI, gz_uCL, gs_uI, gs_uL, gs_uR, gs_uCI, gs_uCL, rI_at, rL_at, rR_at, rI_ne, rL_ne, rR_ne, rI_nk, rL_nk, rR_nk, rI_eq, rL_eq, rR_eq, Option.toList_some, Option.toList_none, List.cons_append, List.nil_append, List.append_nil, zc_eq, zc_lt, zc_le, zc_ge, zc_gt]
theorem X_traces (hs : ShM M m) (h0 : 0 ≤ gI M m 49) (h1 : gI M m 49 < 200) (l0 : 0 ≤ gI M m 36) (l1 : gI M m 36 < 5) (s0_z : 0 ≤ gI M (m + 17) (gI M m 36)) (s1_z : gI M (m + 17) (gI M m 36) ≤ 100) : Call G J_M_traces [a_r m] M Q ↔ Q none (uI (uI (uI (uI M (m + 25) (3 * gI M m 49) (gI M (m + 17) (gI M m 36) - 1)) (m + 25) (3 * gI M m 49 + 1) (gI M (m + 18) (gI M m 36))) (m + 25) (3 * gI M m 49 + 2) (gI M m 36)) m 49 (gI M m 49 + 1)) := by
  simp (disch := omega) only [E_M_traces, B_227_0, B_227_43, B_227_61, hs.u, inI, inL, isT, kInt, kByt, true_and, and_true, an_t, im_t, im_f, or_true, true_or, true_imp_iff, false_imp_iff, not_true_eq_false, not_false_eq_true, gK_uI, gK_uL, gK_uR, gK_uCI, gK_uCL, gN_uI, gN_uL, gN_uR, gN_uCI, gN_uCL, gR_uI, gR_uL, gR_uCI, gR_uCL, gI_uL, gI_uR, gI_uCL, gL_uI, gL_uR, gL_uCI, gz_uI, gz_uL, gz_uR, gz_uCI, gz_uCL, gs_uI, gs_uL, gs_uR, gs_uCI, gs_uCL, rI_at, rL_at, rR_at, rI_ne, rL_ne, rR_ne, rI_nk, rL_nk, rR_nk, rI_eq, rL_eq, rR_eq, Option.toList_some, Option.toList_none, List.cons_append, List.nil_append, List.append_nil, zc_eq, zc_lt, zc_le, zc_ge, zc_gt]
theorem X_fails {x_z : Int} (hs : ShM M m) (l0 : 0 ≤ gI M m 36) (l1 : gI M m 36 < 5) (s0_z : 0 ≤ gI M (m + 17) (gI M m 36)) (s1_z : gI M (m + 17) (gI M m 36) ≤ 100) : Call G J_M_fails [a_r m, a_i x_z] M Q ↔ Q none (uI (uI (uI M m 46 x_z) m 47 (gI M (m + 17) (gI M m 36) - 1)) m 48 (gI M (m + 18) (gI M m 36))) := by
  simp (disch := omega) only [E_M_fails, B_202_0, B_202_20, hs.u, inI, inL, isT, kInt, kByt, true_and, and_true, an_t, im_t, im_f, or_true, true_or, true_imp_iff, false_imp_iff, not_true_eq_false, not_false_eq_true, gK_uI, gK_uL, gK_uR, gK_uCI, gK_uCL, gN_uI, gN_uL, gN_uR, gN_uCI, gN_uCL, gR_uI, gR_uL, gR_uCI, gR_uCL, gI_uL, gI_uR, gI_uCL, gL_uI, gL_uR, gL_uCI, gz_uI, gz_uL, gz_uR, gz_uCI, gz_uCL, gs_uI, gs_uL, gs_uR, gs_uCI, gs_uCL, rI_at, rL_at, rR_at, rI_ne, rL_ne, rR_ne, rI_nk, rL_nk, rR_nk, rI_eq, rL_eq, rR_eq, Option.toList_some, Option.toList_none, List.cons_append, List.nil_append, List.append_nil, zc_eq, zc_lt, zc_le, zc_ge, zc_gt]
theorem X_tokenAt {k_z : Int} (hs : ShM M m) (l0 : 0 ≤ gI M m 36) (l1 : gI M m 36 < 5) (s0_z : 0 ≤ gI M (m + 17) (gI M m 36)) (s1_z : gI M (m + 17) (gI M m 36) ≤ 6) (k0_z : 0 ≤ k_z) (k1_z : k_z < 160) : Call G J_M_tokenAt [a_r m, a_i k_z] M Q ↔ Q (some (a_i (gI M (m + 1) (161 * gI M (m + 17) (gI M m 36) + 1 + k_z)))) M := by
  have e_z : (0 : Int) + 161 * gI M (m + 17) (gI M m 36) = 161 * gI M (m + 17) (gI M m 36) := by omega
  simp (disch := omega) only [E_M_tokenAt, B_200_0, hs.u, e_z, inI, inL, isT, kInt, kByt, true_and, and_true, an_t, im_t, im_f, or_true, true_or, true_imp_iff, false_imp_iff, not_true_eq_false, not_false_eq_true, gK_uI, gK_uL, gK_uR, gK_uCI, gK_uCL, gN_uI, gN_uL, gN_uR, gN_uCI, gN_uCL, gR_uI, gR_uL, gR_uCI, gR_uCL, gI_uL, gI_uR, gI_uCL, gL_uI, gL_uR, gL_uCI, gz_uI, gz_uL, gz_uR, gz_uCI, gz_uCL, gs_uI, gs_uL, gs_uR, gs_uCI, gs_uCL, rI_at, rL_at, rR_at, rI_ne, rL_ne, rR_ne, rI_nk, rL_nk, rR_nk, rI_eq, rL_eq, rR_eq, Option.toList_some, Option.toList_none, List.cons_append, List.nil_append, List.append_nil, zc_eq, zc_lt, zc_le, zc_ge, zc_gt]
theorem X_pushes {a_z b_z l w_z : Int} (hs : ShM M m) (hl : gI M m 36 = l) (hw : gI M (m + 19) l = w_z) (l0 : 0 ≤ l) (l1 : l < 5) (w0_z : 0 ≤ w_z) (w1_z : w_z < 16) (ha_z : inI a_z) (hb_z : inI b_z) : Call G J_M_pushes [a_r m, a_l a_z, a_l b_z] M Q ↔ Q none (uI (uI (uI M (m + 19) l (w_z + 1)) (m + 20) (16 * l + w_z) a_z) (m + 21) (16 * l + w_z) b_z) := by
  have t1_z := fun qq => X_topE (G := G) (Q := qq) (M := uI M (m + 19) l (w_z + 1)) (m := m) (k_z := 0) (l := l) (w_z := w_z + 1) hs (by simp (disch := omega) only [gK_uI, gK_uL, gK_uR, gK_uCI, gK_uCL, gN_uI, gN_uL, gN_uR, gN_uCI, gN_uCL, gR_uI, gR_uL, gR_uCI, gR_uCL, gI_uL, gI_uR, gI_uCL, gL_uI, gL_uR, gL_uCI, gz_uI, gz_uL, gz_uR, gz_uCI, gz_uCL, gs_uI, gs_uL, gs_uR, gs_uCI, gs_uCL, rI_at, rL_at, rR_at, rI_ne, rL_ne, rR_ne, rI_nk, rL_nk, rR_nk, rI_eq, rL_eq, rR_eq, hl]) (by simp (disch := omega) only [gK_uI, gK_uL, gK_uR, gK_uCI, gK_uCL, gN_uI, gN_uL, gN_uR, gN_uCI, gN_uCL, gR_uI, gR_uL, gR_uCI, gR_uCL, gI_uL, gI_uR, gI_uCL, gL_uI, gL_uR, gL_uCI, gz_uI, gz_uL, gz_uR, gz_uCI, gz_uCL, gs_uI, gs_uL, gs_uR, gs_uCI, gs_uCL, rI_at, rL_at, rR_at, rI_ne, rL_ne, rR_ne, rI_nk, rL_nk, rR_nk, rI_eq, rL_eq, rR_eq]) l0 l1 (by omega) (by omega) (by omega) (by omega)
  have t2_z := fun qq => X_topE (G := G) (Q := qq) (M := uI (uI M (m + 19) l (w_z + 1)) (m + 20) (16 * l + w_z) a_z) (m := m) (k_z := 0) (l := l) (w_z := w_z + 1) hs (by simp (disch := omega) only [gK_uI, gK_uL, gK_uR, gK_uCI, gK_uCL, gN_uI, gN_uL, gN_uR, gN_uCI, gN_uCL, gR_uI, gR_uL, gR_uCI, gR_uCL, gI_uL, gI_uR, gI_uCL, gL_uI, gL_uR, gL_uCI, gz_uI, gz_uL, gz_uR, gz_uCI, gz_uCL, gs_uI, gs_uL, gs_uR, gs_uCI, gs_uCL, rI_at, rL_at, rR_at, rI_ne, rL_ne, rR_ne, rI_nk, rL_nk, rR_nk, rI_eq, rL_eq, rR_eq, hl]) (by simp (disch := omega) only [gK_uI, gK_uL, gK_uR, gK_uCI, gK_uCL, gN_uI, gN_uL, gN_uR, gN_uCI, gN_uCL, gR_uI, gR_uL, gR_uCI, gR_uCL, gI_uL, gI_uR, gI_uCL, gL_uI, gL_uR, gL_uCI, gz_uI, gz_uL, gz_uR, gz_uCI, gz_uCL, gs_uI, gs_uL, gs_uR, gs_uCI, gs_uCL, rI_at, rL_at, rR_at, rI_ne, rL_ne, rR_ne, rI_nk, rL_nk, rR_nk, rI_eq, rL_eq, rR_eq]) l0 l1 (by omega) (by omega) (by omega) (by omega)
  have e_z : 16 * l + (w_z + 1) - 1 - 0 = 16 * l + w_z := by omega
  rw [e_z] at t1_z t2_z
  simp (disch := omega) only [E_M_pushes, B_203_0, B_203_22, B_203_34, hs.u, hl, hw, t1_z, t2_z, l2i_id ha_z, l2i_id hb_z, inI, inL, isT, kInt, kByt, true_and, and_true, an_t, im_t, im_f, or_true, true_or, true_imp_iff, false_imp_iff, not_true_eq_false, not_false_eq_true, gK_uI, gK_uL, gK_uR, gK_uCI, gK_uCL, gN_uI, gN_uL, gN_uR, gN_uCI, gN_uCL, gR_uI, gR_uL, gR_uCI, gR_uCL, gI_uL, gI_uR, gI_uCL, gL_uI, gL_uR, gL_uCI, gz_uI, gz_uL, gz_uR, gz_uCI, gz_uCL, gs_uI, gs_uL, gs_uR, gs_uCI, gs_uCL, rI_at, rL_at, rR_at, rI_ne, rL_ne, rR_ne, rI_nk, rL_nk, rR_nk, rI_eq, rL_eq, rR_eq, Option.toList_some, Option.toList_none, List.cons_append, List.nil_append, List.append_nil, zc_eq, zc_lt, zc_le, zc_ge, zc_gt]
theorem X_isNamed {l w_z : Int} (hs : ShM M m) (hl : gI M m 36 = l) (hw : gI M (m + 19) l = w_z) (l0 : 0 ≤ l) (l1 : l < 5) (w0_z : 1 ≤ w_z) (w1_z : w_z ≤ 16) : Call G J_M_isNamed [a_r m] M Q ↔ Q (some (a_i (zB (gI M (m + 21) (16 * l + w_z - 1) = 0)))) M := by
  have t1_z := fun qq => X_topE (G := G) (Q := qq) (M := M) (m := m) (k_z := 0) hs hl hw l0 l1 (by omega) w1_z (by omega) (by omega)
  have e_z : 16 * l + w_z - 1 - 0 = 16 * l + w_z - 1 := by omega
  rw [e_z] at t1_z
  by_cases c_z : gI M (m + 21) (16 * l + w_z - 1) = 0
  · rw [zB_t c_z]
    simp (disch := omega) only [E_M_isNamed, B_209_0, B_209_9, B_209_17, B_209_18, hs.u, t1_z, inI, inL, isT, kInt, kByt, true_and, and_true, an_t, im_t, im_f, or_true, true_or, true_imp_iff, false_imp_iff, not_true_eq_false, not_false_eq_true, gK_uI, gK_uL, gK_uR, gK_uCI, gK_uCL, gN_uI, gN_uL, gN_uR, gN_uCI, gN_uCL, gR_uI, gR_uL, gR_uCI, gR_uCL, gI_uL, gI_uR, gI_uCL, gL_uI, gL_uR, gL_uCI, gz_uI, gz_uL, gz_uR, gz_uCI, gz_uCL, gs_uI, gs_uL, gs_uR, gs_uCI, gs_uCL, rI_at, rL_at, rR_at, rI_ne, rL_ne, rR_ne, rI_nk, rL_nk, rR_nk, rI_eq, rL_eq, rR_eq, Option.toList_some, Option.toList_none, List.cons_append, List.nil_append, List.append_nil, zc_eq, zc_lt, zc_le, zc_ge, zc_gt]
  · rw [zB_f c_z]
    simp (disch := omega) only [E_M_isNamed, B_209_0, B_209_9, B_209_17, B_209_18, hs.u, t1_z, inI, inL, isT, kInt, kByt, true_and, and_true, an_t, im_t, im_f, or_true, true_or, true_imp_iff, false_imp_iff, not_true_eq_false, not_false_eq_true, gK_uI, gK_uL, gK_uR, gK_uCI, gK_uCL, gN_uI, gN_uL, gN_uR, gN_uCI, gN_uCL, gR_uI, gR_uL, gR_uCI, gR_uCL, gI_uL, gI_uR, gI_uCL, gL_uI, gL_uR, gL_uCI, gz_uI, gz_uL, gz_uR, gz_uCI, gz_uCL, gs_uI, gs_uL, gs_uR, gs_uCI, gs_uCL, rI_at, rL_at, rR_at, rI_ne, rL_ne, rR_ne, rI_nk, rL_nk, rR_nk, rI_eq, rL_eq, rR_eq, Option.toList_some, Option.toList_none, List.cons_append, List.nil_append, List.append_nil, zc_eq, zc_lt, zc_le, zc_ge, zc_gt]
theorem X_isInteger {l w_z x_z y_z : Int} (hs : ShM M m) (hl : gI M m 36 = l) (hw : gI M (m + 19) l = w_z) (l0 : 0 ≤ l) (l1 : l < 5) (w0_z : 1 ≤ w_z) (w1_z : w_z ≤ 16) : Call G J_M_isInteger [a_r m, a_i x_z, a_i y_z] M Q ↔ Q (some (a_i (zB (gI M (m + 21) (16 * l + w_z - 1) = 1 ∧ x_z ≤ gI M (m + 20) (16 * l + w_z - 1) ∧ gI M (m + 20) (16 * l + w_z - 1) ≤ y_z)))) M := by
  have t1_z := fun qq => X_topE (G := G) (Q := qq) (M := M) (m := m) (k_z := 0) hs hl hw l0 l1 (by omega) w1_z (by omega) (by omega)
  have e_z : 16 * l + w_z - 1 - 0 = 16 * l + w_z - 1 := by omega
  rw [e_z] at t1_z
  by_cases c_z : gI M (m + 21) (16 * l + w_z - 1) = 1
  · by_cases c2_z : x_z ≤ gI M (m + 20) (16 * l + w_z - 1) ∧ gI M (m + 20) (16 * l + w_z - 1) ≤ y_z
    · rw [zB_t ⟨c_z, c2_z⟩]
      simp (disch := omega) only [E_M_isInteger, B_210_0, B_210_9, B_210_23, B_210_29, B_210_36, B_210_37, hs.u, t1_z, Y_inT c2_z, inI, inL, isT, kInt, kByt, true_and, and_true, an_t, im_t, im_f, or_true, true_or, true_imp_iff, false_imp_iff, not_true_eq_false, not_false_eq_true, gK_uI, gK_uL, gK_uR, gK_uCI, gK_uCL, gN_uI, gN_uL, gN_uR, gN_uCI, gN_uCL, gR_uI, gR_uL, gR_uCI, gR_uCL, gI_uL, gI_uR, gI_uCL, gL_uI, gL_uR, gL_uCI, gz_uI, gz_uL, gz_uR, gz_uCI, gz_uCL, gs_uI, gs_uL, gs_uR, gs_uCI, gs_uCL, rI_at, rL_at, rR_at, rI_ne, rL_ne, rR_ne, rI_nk, rL_nk, rR_nk, rI_eq, rL_eq, rR_eq, Option.toList_some, Option.toList_none, List.cons_append, List.nil_append, List.append_nil, zc_eq, zc_lt, zc_le, zc_ge, zc_gt]
    · rw [zB_f (fun q_z => c2_z q_z.2)]
      simp (disch := omega) only [E_M_isInteger, B_210_0, B_210_9, B_210_23, B_210_29, B_210_36, B_210_37, hs.u, t1_z, Y_inF c2_z, inI, inL, isT, kInt, kByt, true_and, and_true, an_t, im_t, im_f, or_true, true_or, true_imp_iff, false_imp_iff, not_true_eq_false, not_false_eq_true, gK_uI, gK_uL, gK_uR, gK_uCI, gK_uCL, gN_uI, gN_uL, gN_uR, gN_uCI, gN_uCL, gR_uI, gR_uL, gR_uCI, gR_uCL, gI_uL, gI_uR, gI_uCL, gL_uI, gL_uR, gL_uCI, gz_uI, gz_uL, gz_uR, gz_uCI, gz_uCL, gs_uI, gs_uL, gs_uR, gs_uCI, gs_uCL, rI_at, rL_at, rR_at, rI_ne, rL_ne, rR_ne, rI_nk, rL_nk, rR_nk, rI_eq, rL_eq, rR_eq, Option.toList_some, Option.toList_none, List.cons_append, List.nil_append, List.append_nil, zc_eq, zc_lt, zc_le, zc_ge, zc_gt]
  · rw [zB_f (fun q_z => c_z q_z.1)]
    simp (disch := omega) only [E_M_isInteger, B_210_0, B_210_9, B_210_23, B_210_29, B_210_36, B_210_37, hs.u, t1_z, inI, inL, isT, kInt, kByt, true_and, and_true, an_t, im_t, im_f, or_true, true_or, true_imp_iff, false_imp_iff, not_true_eq_false, not_false_eq_true, gK_uI, gK_uL, gK_uR, gK_uCI, gK_uCL, gN_uI, gN_uL, gN_uR, gN_uCI, gN_uCL, gR_uI, gR_uL, gR_uCI, gR_uCL, gI_uL, gI_uR, gI_uCL, gL_uI, gL_uR, gL_uCI, gz_uI, gz_uL, gz_uR, gz_uCI, gz_uCL, gs_uI, gs_uL, gs_uR, gs_uCI, gs_uCL, rI_at, rL_at, rR_at, rI_ne, rL_ne, rR_ne, rI_nk, rL_nk, rR_nk, rI_eq, rL_eq, rR_eq, Option.toList_some, Option.toList_none, List.cons_append, List.nil_append, List.append_nil, zc_eq, zc_lt, zc_le, zc_ge, zc_gt]
theorem keeps_loop (hs : ShM M m) (h0 : 0 ≤ gI M m 19) (h1 : gI M m 19 < 40) (hq : ∀ M', Ex (fun r_z => r_z = m + 7) M M' → gI M' (m + 7) = rc (gI M (m + 7)) (20 * gI M m 19) (gI M (m + 6)) 0 20 → Q none (uI M' m 19 (gI M m 19 + 1))) : ∀ (n_z : Nat) (k_z : Int) (M' : Mem), (20 - k_z).toNat = n_z → 0 ≤ k_z → k_z ≤ 20 → Ex (fun r_z => r_z = m + 7) M M' → gI M' (m + 7) = rc (gI M (m + 7)) (20 * gI M m 19) (gI M (m + 6)) 0 k_z → At G 230 2 [a_r m, a_i k_z] [] M' Q := by
  intro n_z
  induction n_z with
  | zero =>
    intro k_z M' hn k0_z k1_z hE hR
    have hs' := hE.sh hs
    have e19_z : gI M' m 19 = gI M m 19 := congrFun (hE.2.2.2.2.2 m (by omega)).1 19
    have : k_z = 20 := by omega
    subst this
    have hh := hq M' hE hR
    rw [B_230_2]
    simp (disch := omega) only [B_230_34, hs'.u, e19_z, inI, inL, isT, kInt, kByt, true_and, and_true, an_t, im_t, im_f, or_true, true_or, true_imp_iff, false_imp_iff, not_true_eq_false, not_false_eq_true, gK_uI, gK_uL, gK_uR, gK_uCI, gK_uCL, gN_uI, gN_uL, gN_uR, gN_uCI, gN_uCL, gR_uI, gR_uL, gR_uCI, gR_uCL, gI_uL, gI_uR, gI_uCL, gL_uI, gL_uR, gL_uCI, gz_uI, gz_uL, gz_uR, gz_uCI, gz_uCL, gs_uI, gs_uL, gs_uR, gs_uCI, gs_uCL, rI_at, rL_at, rR_at, rI_ne, rL_ne, rR_ne, rI_nk, rL_nk, rR_nk, rI_eq, rL_eq, rR_eq, Option.toList_some, Option.toList_none, List.cons_append, List.nil_append, List.append_nil, zc_eq, zc_lt, zc_le, zc_ge, zc_gt]
    all_goals exact hh
  | succ n_z ih_z =>
    intro k_z M' hn k0_z k1_z hE hR
    have hs' := hE.sh hs
    have e19_z : gI M' m 19 = gI M m 19 := congrFun (hE.2.2.2.2.2 m (by omega)).1 19
    have e6_z : gI M' (m + 6) = gI M (m + 6) := (hE.2.2.2.2.2 (m + 6) (by omega)).1
    have hh := ih_z (k_z + 1) (uI M' (m + 7) (20 * gI M m 19 + k_z) (gI M (m + 6) k_z)) (by omega) (by omega) (by omega) (hE.uI _ _ rfl) (by
      rw [rI_row, hR]
      have := rc_step (gI M (m + 7)) (20 * gI M m 19) (gI M (m + 6)) 0 k0_z
      rw [Int.zero_add] at this
      exact this)
    rw [B_230_2]
    simp (disch := omega) only [hs'.u, e19_z, e6_z, inI, inL, isT, kInt, kByt, true_and, and_true, an_t, im_t, im_f, or_true, true_or, true_imp_iff, false_imp_iff, not_true_eq_false, not_false_eq_true, gK_uI, gK_uL, gK_uR, gK_uCI, gK_uCL, gN_uI, gN_uL, gN_uR, gN_uCI, gN_uCL, gR_uI, gR_uL, gR_uCI, gR_uCL, gI_uL, gI_uR, gI_uCL, gL_uI, gL_uR, gL_uCI, gz_uI, gz_uL, gz_uR, gz_uCI, gz_uCL, gs_uI, gs_uL, gs_uR, gs_uCI, gs_uCL, rI_at, rL_at, rR_at, rI_ne, rL_ne, rR_ne, rI_nk, rL_nk, rR_nk, rI_eq, rL_eq, rR_eq, Option.toList_some, Option.toList_none, List.cons_append, List.nil_append, List.append_nil, zc_eq, zc_lt, zc_le, zc_ge, zc_gt]
    all_goals exact hh
theorem X_keeps (hs : ShM M m) (h0 : 0 ≤ gI M m 19) (h1 : gI M m 19 < 40) (hq : ∀ M', Ex (fun r_z => r_z = m + 7) M M' → gI M' (m + 7) = rc (gI M (m + 7)) (20 * gI M m 19) (gI M (m + 6)) 0 20 → Q none (uI M' m 19 (gI M m 19 + 1))) : Call G J_M_keeps [a_r m] M Q := by
  rw [E_M_keeps, B_230_0]
  exact keeps_loop hs h0 h1 hq 20 0 M rfl (by decide) (by decide) (Ex.refl _ _) (rc_zero _ _ _ _).symm
theorem tb_loop (hs : ShM M m) (h0 : 0 ≤ gI M m 19) (h1 : gI M m 19 < 40) (hq : ∀ M', Ex (fun r_z => r_z = m + 6) M M' → gI M' (m + 6) = rc (gI M (m + 6)) 0 (gI M (m + 7)) (20 * gI M m 19) 20 → Q none M') : ∀ (n_z : Nat) (k_z : Int) (M' : Mem), (20 - k_z).toNat = n_z → 0 ≤ k_z → k_z ≤ 20 → Ex (fun r_z => r_z = m + 6) M M' → gI M' (m + 6) = rc (gI M (m + 6)) 0 (gI M (m + 7)) (20 * gI M m 19) k_z → At G 199 12 [a_r m, a_i k_z] [] M' Q := by
  intro n_z
  induction n_z with
  | zero =>
    intro k_z M' hn k0_z k1_z hE hR
    have : k_z = 20 := by omega
    subst this
    have hh := hq M' hE hR
    rw [B_199_12]
    simp (disch := omega) only [B_199_44, inI, inL, isT, kInt, kByt, true_and, and_true, an_t, im_t, im_f, or_true, true_or, true_imp_iff, false_imp_iff, not_true_eq_false, not_false_eq_true, gK_uI, gK_uL, gK_uR, gK_uCI, gK_uCL, gN_uI, gN_uL, gN_uR, gN_uCI, gN_uCL, gR_uI, gR_uL, gR_uCI, gR_uCL, gI_uL, gI_uR, gI_uCL, gL_uI, gL_uR, gL_uCI, gz_uI, gz_uL, gz_uR, gz_uCI, gz_uCL, gs_uI, gs_uL, gs_uR, gs_uCI, gs_uCL, rI_at, rL_at, rR_at, rI_ne, rL_ne, rR_ne, rI_nk, rL_nk, rR_nk, rI_eq, rL_eq, rR_eq, Option.toList_some, Option.toList_none, List.cons_append, List.nil_append, List.append_nil, zc_eq, zc_lt, zc_le, zc_ge, zc_gt]
    all_goals exact hh
  | succ n_z ih_z =>
    intro k_z M' hn k0_z k1_z hE hR
    have hs' := hE.sh hs
    have e19_z : gI M' m 19 = gI M m 19 := congrFun (hE.2.2.2.2.2 m (by omega)).1 19
    have e6_z : gI M' (m + 7) = gI M (m + 7) := (hE.2.2.2.2.2 (m + 7) (by omega)).1
    have hh := ih_z (k_z + 1) (uI M' (m + 6) k_z (gI M (m + 7) (20 * gI M m 19 + k_z))) (by omega) (by omega) (by omega) (hE.uI _ _ rfl) (by
      rw [rI_row, hR]
      have := rc_step (gI M (m + 6)) 0 (gI M (m + 7)) (20 * gI M m 19) k0_z
      rw [Int.zero_add] at this
      exact this)
    rw [B_199_12]
    simp (disch := omega) only [hs'.u, e19_z, e6_z, inI, inL, isT, kInt, kByt, true_and, and_true, an_t, im_t, im_f, or_true, true_or, true_imp_iff, false_imp_iff, not_true_eq_false, not_false_eq_true, gK_uI, gK_uL, gK_uR, gK_uCI, gK_uCL, gN_uI, gN_uL, gN_uR, gN_uCI, gN_uCL, gR_uI, gR_uL, gR_uCI, gR_uCL, gI_uL, gI_uR, gI_uCL, gL_uI, gL_uR, gL_uCI, gz_uI, gz_uL, gz_uR, gz_uCI, gz_uCL, gs_uI, gs_uL, gs_uR, gs_uCI, gs_uCL, rI_at, rL_at, rR_at, rI_ne, rL_ne, rR_ne, rI_nk, rL_nk, rR_nk, rI_eq, rL_eq, rR_eq, Option.toList_some, Option.toList_none, List.cons_append, List.nil_append, List.append_nil, zc_eq, zc_lt, zc_le, zc_ge, zc_gt]
    all_goals exact hh
theorem X_takesBack (hs : ShM M m) (h0 : 0 < gI M m 19) (h1 : gI M m 19 ≤ 40) (hq : ∀ M', Ex (fun r_z => r_z = m + 6) (uI M m 19 (gI M m 19 - 1)) M' → gI M' (m + 6) = rc (gI M (m + 6)) 0 (gI M (m + 7)) (20 * (gI M m 19 - 1)) 20 → Q none M') : Call G J_M_takesBack [a_r m] M Q := by
  have e1_z : gI (uI M m 19 (gI M m 19 - 1)) m 19 = gI M m 19 - 1 := by simp (disch := omega) only [gK_uI, gK_uL, gK_uR, gK_uCI, gK_uCL, gN_uI, gN_uL, gN_uR, gN_uCI, gN_uCL, gR_uI, gR_uL, gR_uCI, gR_uCL, gI_uL, gI_uR, gI_uCL, gL_uI, gL_uR, gL_uCI, gz_uI, gz_uL, gz_uR, gz_uCI, gz_uCL, gs_uI, gs_uL, gs_uR, gs_uCI, gs_uCL, rI_at, rL_at, rR_at, rI_ne, rL_ne, rR_ne, rI_nk, rL_nk, rR_nk, rI_eq, rL_eq, rR_eq]
  have e2_z : gI (uI M m 19 (gI M m 19 - 1)) (m + 6) = gI M (m + 6) := by simp (disch := omega) only [gK_uI, gK_uL, gK_uR, gK_uCI, gK_uCL, gN_uI, gN_uL, gN_uR, gN_uCI, gN_uCL, gR_uI, gR_uL, gR_uCI, gR_uCL, gI_uL, gI_uR, gI_uCL, gL_uI, gL_uR, gL_uCI, gz_uI, gz_uL, gz_uR, gz_uCI, gz_uCL, gs_uI, gs_uL, gs_uR, gs_uCI, gs_uCL, rI_at, rL_at, rR_at, rI_ne, rL_ne, rR_ne, rI_nk, rL_nk, rR_nk, rI_eq, rL_eq, rR_eq]
  have e3_z : gI (uI M m 19 (gI M m 19 - 1)) (m + 7) = gI M (m + 7) := by simp (disch := omega) only [gK_uI, gK_uL, gK_uR, gK_uCI, gK_uCL, gN_uI, gN_uL, gN_uR, gN_uCI, gN_uCL, gR_uI, gR_uL, gR_uCI, gR_uCL, gI_uL, gI_uR, gI_uCL, gL_uI, gL_uR, gL_uCI, gz_uI, gz_uL, gz_uR, gz_uCI, gz_uCL, gs_uI, gs_uL, gs_uR, gs_uCI, gs_uCL, rI_at, rL_at, rR_at, rI_ne, rL_ne, rR_ne, rI_nk, rL_nk, rR_nk, rI_eq, rL_eq, rR_eq]
  have hh := tb_loop (G := G) (Q := Q) (M := uI M m 19 (gI M m 19 - 1)) (m := m) hs (by rw [e1_z]; omega) (by rw [e1_z]; omega) (fun M' a_z b_z => hq M' a_z (by rw [b_z, e1_z, e2_z, e3_z])) 20 0 _ rfl (by decide) (by decide) (Ex.refl _ _) (rc_zero _ _ _ _).symm
  simp (disch := omega) only [E_M_takesBack, B_199_0, hs.u, inI, inL, isT, kInt, kByt, true_and, and_true, an_t, im_t, im_f, or_true, true_or, true_imp_iff, false_imp_iff, not_true_eq_false, not_false_eq_true, gK_uI, gK_uL, gK_uR, gK_uCI, gK_uCL, gN_uI, gN_uL, gN_uR, gN_uCI, gN_uCL, gR_uI, gR_uL, gR_uCI, gR_uCL, gI_uL, gI_uR, gI_uCL, gL_uI, gL_uR, gL_uCI, gz_uI, gz_uL, gz_uR, gz_uCI, gz_uCL, gs_uI, gs_uL, gs_uR, gs_uCI, gs_uCL, rI_at, rL_at, rR_at, rI_ne, rL_ne, rR_ne, rI_nk, rL_nk, rR_nk, rI_eq, rL_eq, rR_eq, Option.toList_some, Option.toList_none, List.cons_append, List.nil_append, List.append_nil, zc_eq, zc_lt, zc_le, zc_ge, zc_gt]
  exact hh
theorem kp_loop {p_z : Int} (hs : ShM M m) (hp : gI M m 33 = p_z) (p0_z : 0 ≤ p_z) (p1_z : p_z < 202) (n0_z : 0 ≤ gI M m 25) (n1_z : gI M m 25 ≤ 24) (hq : ∀ M', Ex (fun r_z => r_z = m + 11 ∨ r_z = m + 12 ∨ r_z = m + 13) M M' → gI M' (m + 11) = rc (gI M (m + 11)) (24 * p_z) (gI M (m + 8)) 0 (gI M m 25) → gI M' (m + 12) = rc (gI M (m + 12)) (24 * p_z) (gI M (m + 9)) 0 (gI M m 25) → gI M' (m + 13) = rc (gI M (m + 13)) (24 * p_z) (gI M (m + 10)) 0 (gI M m 25) → Q (some (a_i p_z)) (uI (uI (uI M' (m + 14) p_z (gI M m 25)) (m + 15) p_z (gI M m 26)) m 33 (p_z + 1))) : ∀ (n_z : Nat) (k_z : Int) (M' : Mem), (gI M m 25 - k_z).toNat = n_z → 0 ≤ k_z → k_z ≤ gI M m 25 → Ex (fun r_z => r_z = m + 11 ∨ r_z = m + 12 ∨ r_z = m + 13) M M' → gI M' (m + 11) = rc (gI M (m + 11)) (24 * p_z) (gI M (m + 8)) 0 k_z → gI M' (m + 12) = rc (gI M (m + 12)) (24 * p_z) (gI M (m + 9)) 0 k_z → gI M' (m + 13) = rc (gI M (m + 13)) (24 * p_z) (gI M (m + 10)) 0 k_z → At G 235 7 [a_r m, a_i p_z, a_i k_z] [] M' Q := by
  intro n_z
  induction n_z with
  | zero =>
    intro k_z M' hn k0_z k1_z hE hR1 hR2 hR3
    have hs' := hE.sh hs
    have em : gI M' m = gI M m := (hE.2.2.2.2.2 m (by omega)).1
    have : k_z = gI M m 25 := by omega
    subst this
    have hh := hq M' hE hR1 hR2 hR3
    rw [B_235_7]
    simp (disch := omega) only [B_235_72, B_235_92, hs'.u, em, hp, inI, inL, isT, kInt, kByt, true_and, and_true, an_t, im_t, im_f, or_true, true_or, true_imp_iff, false_imp_iff, not_true_eq_false, not_false_eq_true, gK_uI, gK_uL, gK_uR, gK_uCI, gK_uCL, gN_uI, gN_uL, gN_uR, gN_uCI, gN_uCL, gR_uI, gR_uL, gR_uCI, gR_uCL, gI_uL, gI_uR, gI_uCL, gL_uI, gL_uR, gL_uCI, gz_uI, gz_uL, gz_uR, gz_uCI, gz_uCL, gs_uI, gs_uL, gs_uR, gs_uCI, gs_uCL, rI_at, rL_at, rR_at, rI_ne, rL_ne, rR_ne, rI_nk, rL_nk, rR_nk, rI_eq, rL_eq, rR_eq, Option.toList_some, Option.toList_none, List.cons_append, List.nil_append, List.append_nil, zc_eq, zc_lt, zc_le, zc_ge, zc_gt]
    all_goals exact hh
  | succ n_z ih_z =>
    intro k_z M' hn k0_z k1_z hE hR1 hR2 hR3
    have hs' := hE.sh hs
    have em : gI M' m = gI M m := (hE.2.2.2.2.2 m (by omega)).1
    have e8 : gI M' (m + 8) = gI M (m + 8) := (hE.2.2.2.2.2 (m + 8) (by omega)).1
    have e9_z : gI M' (m + 9) = gI M (m + 9) := (hE.2.2.2.2.2 (m + 9) (by omega)).1
    have e10_z : gI M' (m + 10) = gI M (m + 10) := (hE.2.2.2.2.2 (m + 10) (by omega)).1
    have st_z := fun f_z g_z => rc_step f_z (24 * p_z) g_z 0 k0_z
    simp only [Int.zero_add] at st_z
    have hh := ih_z (k_z + 1) (uI (uI (uI M' (m + 11) (24 * p_z + k_z) (gI M (m + 8) k_z)) (m + 12) (24 * p_z + k_z) (gI M (m + 9) k_z)) (m + 13) (24 * p_z + k_z) (gI M (m + 10) k_z)) (by omega) (by omega) (by omega) (((hE.uI _ _ (Or.inl rfl)).uI _ _ (Or.inr (Or.inl rfl))).uI _ _ (Or.inr (Or.inr rfl)))
      (by rw [rI_ne (by omega), rI_ne (by omega), rI_row, hR1, st_z])
      (by rw [rI_ne (by omega), rI_row, rI_ne (by omega), hR2, st_z])
      (by rw [rI_row, rI_ne (by omega), rI_ne (by omega), hR3, st_z])
    rw [B_235_7]
    simp (disch := omega) only [B_235_49, hs'.u, em, e8, e9_z, e10_z, hp, inI, inL, isT, kInt, kByt, true_and, and_true, an_t, im_t, im_f, or_true, true_or, true_imp_iff, false_imp_iff, not_true_eq_false, not_false_eq_true, gK_uI, gK_uL, gK_uR, gK_uCI, gK_uCL, gN_uI, gN_uL, gN_uR, gN_uCI, gN_uCL, gR_uI, gR_uL, gR_uCI, gR_uCL, gI_uL, gI_uR, gI_uCL, gL_uI, gL_uR, gL_uCI, gz_uI, gz_uL, gz_uR, gz_uCI, gz_uCL, gs_uI, gs_uL, gs_uR, gs_uCI, gs_uCL, rI_at, rL_at, rR_at, rI_ne, rL_ne, rR_ne, rI_nk, rL_nk, rR_nk, rI_eq, rL_eq, rR_eq, Option.toList_some, Option.toList_none, List.cons_append, List.nil_append, List.append_nil, zc_eq, zc_lt, zc_le, zc_ge, zc_gt]
    all_goals exact hh
theorem X_keepsPath {p_z : Int} (hs : ShM M m) (hp : gI M m 33 = p_z) (p0_z : 0 ≤ p_z) (p1_z : p_z < 202) (n0_z : 0 ≤ gI M m 25) (n1_z : gI M m 25 ≤ 24) (hq : ∀ M', Ex (fun r_z => r_z = m + 11 ∨ r_z = m + 12 ∨ r_z = m + 13) M M' → gI M' (m + 11) = rc (gI M (m + 11)) (24 * p_z) (gI M (m + 8)) 0 (gI M m 25) → gI M' (m + 12) = rc (gI M (m + 12)) (24 * p_z) (gI M (m + 9)) 0 (gI M m 25) → gI M' (m + 13) = rc (gI M (m + 13)) (24 * p_z) (gI M (m + 10)) 0 (gI M m 25) → Q (some (a_i p_z)) (uI (uI (uI M' (m + 14) p_z (gI M m 25)) (m + 15) p_z (gI M m 26)) m 33 (p_z + 1))) : Call G J_M_keepsPath [a_r m] M Q := by
  rw [E_M_keepsPath, B_235_0, hp]
  exact ⟨hs.1, kp_loop hs hp p0_z p1_z n0_z n1_z hq _ 0 M rfl (by decide) n0_z (Ex.refl _ _) (rc_zero _ _ _ _).symm (rc_zero _ _ _ _).symm (rc_zero _ _ _ _).symm⟩
end QA
