/-! THE PURE PART, part 12: methods of the class's machine. Own work. -/
/-- the same but for the rows in P_z -/
def Ex (P_z : Nat → Prop) (M_z M' : Mem) : Prop := gK M' = gK M_z ∧ gN M' = gN M_z ∧ gR M' = gR M_z ∧ gz M' = gz M_z ∧ gs M' = gs M_z ∧ ∀ r_z, ¬ P_z r_z → gI M' r_z = gI M_z r_z ∧ gL M' r_z = gL M_z r_z
theorem Ex.refl (P_z : Nat → Prop) (M_z : Mem) : Ex P_z M_z M_z := ⟨rfl, rfl, rfl, rfl, rfl, fun _ _ => ⟨rfl, rfl⟩⟩
theorem Ex.trans {P_z : Nat → Prop} {M_z M' M'' : Mem} (h_z : Ex P_z M_z M') (h2 : Ex P_z M' M'') : Ex P_z M_z M'' := by
  obtain ⟨a1_z, a2, a3, a4, a5, a6⟩ := h_z
  obtain ⟨b1, b2, b3, b4, b5, b6⟩ := h2
  exact ⟨b1.trans a1_z, b2.trans a2, b3.trans a3, b4.trans a4, b5.trans a5, fun r_z q_z => ⟨(b6 r_z q_z).1.trans (a6 r_z q_z).1, (b6 r_z q_z).2.trans (a6 r_z q_z).2⟩⟩
theorem Ex.mono {P_z P'_z : Nat → Prop} {M_z M' : Mem} (h_z : Ex P_z M_z M') (hp : ∀ r_z, P_z r_z → P'_z r_z) : Ex P'_z M_z M' := by
  obtain ⟨a1_z, a2, a3, a4, a5, a6⟩ := h_z
  exact ⟨a1_z, a2, a3, a4, a5, fun r_z q_z => a6 r_z (fun c_z => q_z (hp r_z c_z))⟩
theorem Ex.uI {P_z : Nat → Prop} {M_z M' : Mem} (h_z : Ex P_z M_z M') {r_z : Nat} (k_z v_z : Int) (hr : P_z r_z) : Ex P_z M_z (uI M' r_z k_z v_z) := by
  obtain ⟨a1_z, a2, a3, a4, a5, a6⟩ := h_z
  refine ⟨a1_z, a2, a3, a4, a5, fun a_z q_z => ⟨?_, (a6 a_z q_z).2⟩⟩
  rw [rI_ne (fun e_z => q_z (by rw [e_z]; exact hr))]
  exact (a6 a_z q_z).1
theorem Ex.uL {P_z : Nat → Prop} {M_z M' : Mem} (h_z : Ex P_z M_z M') {r_z : Nat} (k_z v_z : Int) (hr : P_z r_z) : Ex P_z M_z (uL M' r_z k_z v_z) := by
  obtain ⟨a1_z, a2, a3, a4, a5, a6⟩ := h_z
  refine ⟨a1_z, a2, a3, a4, a5, fun a_z q_z => ⟨(a6 a_z q_z).1, ?_⟩⟩
  rw [rL_ne (fun e_z => q_z (by rw [e_z]; exact hr))]
  exact (a6 a_z q_z).2
theorem Ex.uCI {P_z : Nat → Prop} {M_z M' : Mem} (h_z : Ex P_z M_z M') {a_z b_z : Nat} (i_z j_z n_z : Int) (hr : P_z a_z) : Ex P_z M_z (uCI M' a_z i_z b_z j_z n_z) := by
  obtain ⟨a1_z, a2, a3, a4, a5, a6⟩ := h_z
  refine ⟨a1_z, a2, a3, a4, a5, fun r_z q_z => ⟨?_, (a6 r_z q_z).2⟩⟩
  rw [rCI_ne (fun e_z => q_z (by rw [e_z]; exact hr))]
  exact (a6 r_z q_z).1
theorem Ex.uCL {P_z : Nat → Prop} {M_z M' : Mem} (h_z : Ex P_z M_z M') {a_z b_z : Nat} (i_z j_z n_z : Int) (hr : P_z a_z) : Ex P_z M_z (uCL M' a_z i_z b_z j_z n_z) := by
  obtain ⟨a1_z, a2, a3, a4, a5, a6⟩ := h_z
  refine ⟨a1_z, a2, a3, a4, a5, fun r_z q_z => ⟨(a6 r_z q_z).1, ?_⟩⟩
  rw [rCL_ne (fun e_z => q_z (by rw [e_z]; exact hr))]
  exact (a6 r_z q_z).2
theorem Ex.ma {P_z : Nat → Prop} {M_z M' : Mem} {c_z : Nat} (h_z : Ex P_z M_z M') (hs : ShMa M_z c_z) : ShMa M' c_z := by
  obtain ⟨a1_z, a2, a3, a4, a5, a6⟩ := h_z
  unfold ShMa ShM0 ShM0x ShPa ShPax ShIt ShItx ShFr ShFrx ShGr ShGrx
  rw [a1_z, a2, a3]
  exact hs
theorem ShMa.fr {M_z : Mem} {c_z : Nat} (h_z : ShMa M_z c_z) {d_z : Int} (h0 : 0 ≤ d_z) (h1 : d_z < 5) : gR M_z (c_z + 1) d_z = c_z + 22 + 4 * d_z.toNat ∧ ShFr M_z (c_z + 22 + 4 * d_z.toNat) := by
  have := h_z.2.2.2.1 d_z.toNat (by omega)
  rw [Int.toNat_of_nonneg h0] at this
  exact this
theorem ShMa.gr {M_z : Mem} {c_z : Nat} (h_z : ShMa M_z c_z) {d_z : Int} (h0 : 0 ≤ d_z) (h1 : d_z < 35) : gR M_z (c_z + 2) d_z = c_z + 42 + 3 * d_z.toNat ∧ ShGr M_z (c_z + 42 + 3 * d_z.toNat) := by
  have := h_z.2.2.2.2 d_z.toNat (by omega)
  rw [Int.toNat_of_nonneg h0] at this
  exact this
section NA
variable {G : Env0} {Q : Option AV → Mem → Prop} {M : Mem} {c r s : Nat}
theorem Y_isBetween {x_z y_z w_z : Int} : Call G J_X_isBetween [a_i x_z, a_i y_z, a_i w_z] M Q ↔ Q (some (a_i (zB (y_z ≤ x_z ∧ x_z ≤ w_z)))) M := by
  by_cases c1_z : x_z < y_z
  · rw [zB_f (by omega)]
    simp (disch := omega) only [E_X_isBetween, B_15_0, B_15_14, B_15_15, inI, inL, isT, kInt, kByt, true_and, and_true, an_t, im_t, im_f, or_true, true_or, true_imp_iff, false_imp_iff, not_true_eq_false, not_false_eq_true, gK_uI, gK_uL, gK_uR, gK_uCI, gK_uCL, gN_uI, gN_uL, gN_uR, gN_uCI, gN_uCL, gR_uI, gR_uL, gR_uCI, gR_uCL, gI_uL, gI_uR, gI_uCL, gL_uI, gL_uR, gL_uCI, gz_uI, gz_uL, gz_uR, gz_uCI, gz_uCL, gs_uI, gs_uL, gs_uR, gs_uCI, gs_uCL, rI_at, rL_at, rR_at, rI_ne, rL_ne, rR_ne, rI_nk, rL_nk, rR_nk, rI_eq, rL_eq, rR_eq, Option.toList_some, Option.toList_none, List.cons_append, List.nil_append, List.append_nil, zc_eq, zc_lt, zc_le, zc_ge, zc_gt]
  · by_cases c2_z : w_z < x_z
    · rw [zB_f (by omega)]
      simp (disch := omega) only [E_X_isBetween, B_15_0, B_15_14, B_15_15, inI, inL, isT, kInt, kByt, true_and, and_true, an_t, im_t, im_f, or_true, true_or, true_imp_iff, false_imp_iff, not_true_eq_false, not_false_eq_true, gK_uI, gK_uL, gK_uR, gK_uCI, gK_uCL, gN_uI, gN_uL, gN_uR, gN_uCI, gN_uCL, gR_uI, gR_uL, gR_uCI, gR_uCL, gI_uL, gI_uR, gI_uCL, gL_uI, gL_uR, gL_uCI, gz_uI, gz_uL, gz_uR, gz_uCI, gz_uCL, gs_uI, gs_uL, gs_uR, gs_uCI, gs_uCL, rI_at, rL_at, rR_at, rI_ne, rL_ne, rR_ne, rI_nk, rL_nk, rR_nk, rI_eq, rL_eq, rR_eq, Option.toList_some, Option.toList_none, List.cons_append, List.nil_append, List.append_nil, zc_eq, zc_lt, zc_le, zc_ge, zc_gt]
    · rw [zB_t (by omega)]
      simp (disch := omega) only [E_X_isBetween, B_15_0, B_15_14, B_15_15, inI, inL, isT, kInt, kByt, true_and, and_true, an_t, im_t, im_f, or_true, true_or, true_imp_iff, false_imp_iff, not_true_eq_false, not_false_eq_true, gK_uI, gK_uL, gK_uR, gK_uCI, gK_uCL, gN_uI, gN_uL, gN_uR, gN_uCI, gN_uCL, gR_uI, gR_uL, gR_uCI, gR_uCL, gI_uL, gI_uR, gI_uCL, gL_uI, gL_uR, gL_uCI, gz_uI, gz_uL, gz_uR, gz_uCI, gz_uCL, gs_uI, gs_uL, gs_uR, gs_uCI, gs_uCL, rI_at, rL_at, rR_at, rI_ne, rL_ne, rR_ne, rI_nk, rL_nk, rR_nk, rI_eq, rL_eq, rR_eq, Option.toList_some, Option.toList_none, List.cons_append, List.nil_append, List.append_nil, zc_eq, zc_lt, zc_le, zc_ge, zc_gt]
theorem Y_isStream {x_z : Int} : Call G J_X_isStream [a_i x_z] M Q ↔ Q (some (a_i (zB (-1 ≤ x_z ∧ x_z ≤ 5)))) M := by
  simp only [E_X_isStream, B_14_0, B_14_6, Y_isBetween, isT_zB, Option.toList_some, Option.toList_none, List.cons_append, List.nil_append, List.append_nil, true_and]
theorem Y_isName {x_z : Int} : Call G J_X_isName [a_i x_z] M Q ↔ Q (some (a_i (zB (0 ≤ x_z ∧ x_z ≤ 7)))) M := by
  simp only [E_X_isName, B_27_0, B_27_7, Y_isBetween, isT_zB, Option.toList_some, Option.toList_none, List.cons_append, List.nil_append, List.append_nil, true_and]
theorem Y_isForm {x_z : Int} : Call G J_X_isForm [a_i x_z] M Q ↔ Q (some (a_i (zB (0 ≤ x_z ∧ x_z ≤ 5)))) M := by
  simp only [E_X_isForm, B_59_0, B_59_6, Y_isBetween, isT_zB, Option.toList_some, Option.toList_none, List.cons_append, List.nil_append, List.append_nil, true_and]
theorem Y_isStreamT {x_z : Int} (h_z : -1 ≤ x_z ∧ x_z ≤ 5) : Call G J_X_isStream [a_i x_z] M Q ↔ Q (some (a_i 1)) M := by rw [Y_isStream, zB_t h_z]
theorem Y_isStreamF {x_z : Int} (h_z : ¬ (-1 ≤ x_z ∧ x_z ≤ 5)) : Call G J_X_isStream [a_i x_z] M Q ↔ Q (some (a_i 0)) M := by rw [Y_isStream, zB_f h_z]
theorem Y_isNameT {x_z : Int} (h_z : 0 ≤ x_z ∧ x_z ≤ 7) : Call G J_X_isName [a_i x_z] M Q ↔ Q (some (a_i 1)) M := by rw [Y_isName, zB_t h_z]
theorem Y_isNameF {x_z : Int} (h_z : ¬ (0 ≤ x_z ∧ x_z ≤ 7)) : Call G J_X_isName [a_i x_z] M Q ↔ Q (some (a_i 0)) M := by rw [Y_isName, zB_f h_z]
theorem Y_isFormT {x_z : Int} (h_z : 0 ≤ x_z ∧ x_z ≤ 5) : Call G J_X_isForm [a_i x_z] M Q ↔ Q (some (a_i 1)) M := by rw [Y_isForm, zB_t h_z]
theorem Y_isFormF {x_z : Int} (h_z : ¬ (0 ≤ x_z ∧ x_z ≤ 5)) : Call G J_X_isForm [a_i x_z] M Q ↔ Q (some (a_i 0)) M := by rw [Y_isForm, zB_f h_z]
theorem Y_isBetweenT {x_z y_z w_z : Int} (h_z : y_z ≤ x_z ∧ x_z ≤ w_z) : Call G J_X_isBetween [a_i x_z, a_i y_z, a_i w_z] M Q ↔ Q (some (a_i 1)) M := by rw [Y_isBetween, zB_t h_z]
theorem Y_isBetweenF {x_z y_z w_z : Int} (h_z : ¬ (y_z ≤ x_z ∧ x_z ≤ w_z)) : Call G J_X_isBetween [a_i x_z, a_i y_z, a_i w_z] M Q ↔ Q (some (a_i 0)) M := by rw [Y_isBetween, zB_f h_z]
theorem X_findRes {x_z y_z : Int} (h_z : ShSa M s) (h0 : -1 ≤ x_z ∧ x_z ≤ 5) (h1 : 0 ≤ y_z ∧ y_z ≤ 7) : Call G J_Sa_findResource [a_r s, a_i x_z, a_i y_z] M Q ↔ Q (some (a_i (gI M (s + 4) ((x_z + 1) * 8 + y_z)))) M := by
  simp (disch := omega) only [E_Sa_findResource, B_65_0, B_65_4, B_65_11, B_65_30, B_65_31, Y_isStreamT h0, Y_isNameT h1, h_z.u, inI, inL, isT, kInt, kByt, true_and, and_true, an_t, im_t, im_f, or_true, true_or, true_imp_iff, false_imp_iff, not_true_eq_false, not_false_eq_true, gK_uI, gK_uL, gK_uR, gK_uCI, gK_uCL, gN_uI, gN_uL, gN_uR, gN_uCI, gN_uCL, gR_uI, gR_uL, gR_uCI, gR_uCL, gI_uL, gI_uR, gI_uCL, gL_uI, gL_uR, gL_uCI, gz_uI, gz_uL, gz_uR, gz_uCI, gz_uCL, gs_uI, gs_uL, gs_uR, gs_uCI, gs_uCL, rI_at, rL_at, rR_at, rI_ne, rL_ne, rR_ne, rI_nk, rL_nk, rR_nk, rI_eq, rL_eq, rR_eq, Option.toList_some, Option.toList_none, List.cons_append, List.nil_append, List.append_nil, zc_eq, zc_lt, zc_le, zc_ge, zc_gt]
theorem X_sideOf {x_z y_z : Int} (h_z : ShSa M s) (h0 : 0 ≤ x_z ∧ x_z ≤ 5) (h1 : 0 ≤ y_z ∧ y_z ≤ 3) (hb_z : (gI M (s + 3) (x_z * 4 + y_z)).natAbs ≤ 1000) (hq : Q (some (a_l (low (gI M (s + 3) (x_z * 4 + y_z)) 1))) M) : Call G J_Sa_findSideOfBox [a_r s, a_i x_z, a_i y_z] M Q := by
  simp (disch := omega) only [E_Sa_findSideOfBox, B_120_0, B_120_4, B_120_13, B_120_16, B_120_18, B_120_33, Y_isFormT h0, Y_isBetweenT h1, h_z.u, inI, inL, isT, kInt, kByt, true_and, and_true, an_t, im_t, im_f, or_true, true_or, true_imp_iff, false_imp_iff, not_true_eq_false, not_false_eq_true, gK_uI, gK_uL, gK_uR, gK_uCI, gK_uCL, gN_uI, gN_uL, gN_uR, gN_uCI, gN_uCL, gR_uI, gR_uL, gR_uCI, gR_uCL, gI_uL, gI_uR, gI_uCL, gL_uI, gL_uR, gL_uCI, gz_uI, gz_uL, gz_uR, gz_uCI, gz_uCL, gs_uI, gs_uL, gs_uR, gs_uCI, gs_uCL, rI_at, rL_at, rR_at, rI_ne, rL_ne, rR_ne, rI_nk, rL_nk, rR_nk, rI_eq, rL_eq, rR_eq, Option.toList_some, Option.toList_none, List.cons_append, List.nil_append, List.append_nil, zc_eq, zc_lt, zc_le, zc_ge, zc_gt]
  refine X_lowest (by omega) (by decide) (by decide) ?_
  simp only [E_Sa_findSideOfBox, B_120_0, B_120_4, B_120_13, B_120_16, B_120_18, B_120_33, Option.toList_some, Option.toList_none, List.cons_append, List.nil_append, List.append_nil]
  exact hq
theorem X_popGr (h_z : ShMa M c) (h0 : 0 < gI M c 12) (h1 : gI M c 12 < 100) : Call G J_Ma_popGraphics [a_r c] M Q ↔ Q none (uI M c 12 (gI M c 12 - 1)) := by
  simp (disch := omega) only [E_Ma_popGraphics, B_80_0, B_80_17, h_z.1.u, inI, inL, isT, kInt, kByt, true_and, and_true, an_t, im_t, im_f, or_true, true_or, true_imp_iff, false_imp_iff, not_true_eq_false, not_false_eq_true, gK_uI, gK_uL, gK_uR, gK_uCI, gK_uCL, gN_uI, gN_uL, gN_uR, gN_uCI, gN_uCL, gR_uI, gR_uL, gR_uCI, gR_uCL, gI_uL, gI_uR, gI_uCL, gL_uI, gL_uR, gL_uCI, gz_uI, gz_uL, gz_uR, gz_uCI, gz_uCL, gs_uI, gs_uL, gs_uR, gs_uCI, gs_uCL, rI_at, rL_at, rR_at, rI_ne, rL_ne, rR_ne, rI_nk, rL_nk, rR_nk, rI_eq, rL_eq, rR_eq, Option.toList_some, Option.toList_none, List.cons_append, List.nil_append, List.append_nil, zc_eq, zc_lt, zc_le, zc_ge, zc_gt]
theorem X_leave (h_z : ShMa M c) (h0 : 0 < gI M c 12) (h1 : gI M c 12 < 100) (h2 : 0 < gI M c 11) (h3 : gI M c 11 < 100) : Call G J_Ma_leaveForm [a_r c] M Q ↔ Q none (uI (uI M c 11 (gI M c 11 - 1)) c 12 (gI M c 12 - 1)) := by
  have e1_z : gI (uI M c 11 (gI M c 11 - 1)) c 12 = gI M c 12 := by simp (disch := omega) only [gK_uI, gK_uL, gK_uR, gK_uCI, gK_uCL, gN_uI, gN_uL, gN_uR, gN_uCI, gN_uCL, gR_uI, gR_uL, gR_uCI, gR_uCL, gI_uL, gI_uR, gI_uCL, gL_uI, gL_uR, gL_uCI, gz_uI, gz_uL, gz_uR, gz_uCI, gz_uCL, gs_uI, gs_uL, gs_uR, gs_uCI, gs_uCL, rI_at, rL_at, rR_at, rI_ne, rL_ne, rR_ne, rI_nk, rL_nk, rR_nk, rI_eq, rL_eq, rR_eq]
  have e_z := X_popGr (G := G) (Q := fun r_z M2_z => At G 79 21 [a_r c] r_z.toList M2_z Q) (M := uI M c 11 (gI M c 11 - 1)) (c := c) h_z (by rw [e1_z]; exact h0) (by rw [e1_z]; exact h1)
  rw [e1_z] at e_z
  simp (disch := omega) only [E_Ma_leaveForm, B_79_0, e_z, B_79_21, h_z.1.u, inI, inL, isT, kInt, kByt, true_and, and_true, an_t, im_t, im_f, or_true, true_or, true_imp_iff, false_imp_iff, not_true_eq_false, not_false_eq_true, gK_uI, gK_uL, gK_uR, gK_uCI, gK_uCL, gN_uI, gN_uL, gN_uR, gN_uCI, gN_uCL, gR_uI, gR_uL, gR_uCI, gR_uCL, gI_uL, gI_uR, gI_uCL, gL_uI, gL_uR, gL_uCI, gz_uI, gz_uL, gz_uR, gz_uCI, gz_uCL, gs_uI, gs_uL, gs_uR, gs_uCI, gs_uCL, rI_at, rL_at, rR_at, rI_ne, rL_ne, rR_ne, rI_nk, rL_nk, rR_nk, rI_eq, rL_eq, rR_eq, Option.toList_some, Option.toList_none, List.cons_append, List.nil_append, List.append_nil, zc_eq, zc_lt, zc_le, zc_ge, zc_gt]
theorem X_pushGr (h_z : ShMa M c) (h0 : 0 ≤ gI M c 12) (h1 : gI M c 12 + 1 < 35) : Call G J_Ma_pushGraphics [a_r c] M Q ↔ Q none (uI (uI (uI (uCI (uCL M (c + 42 + 3 * (gI M c 12 + 1).toNat + 1) 0 (c + 42 + 3 * (gI M c 12).toNat + 1) 0 6) (c + 42 + 3 * (gI M c 12 + 1).toNat + 2) 0 (c + 42 + 3 * (gI M c 12).toNat + 2) 0 6) (c + 42 + 3 * (gI M c 12 + 1).toNat) 2 (gI M (c + 42 + 3 * (gI M c 12).toNat) 2)) (c + 42 + 3 * (gI M c 12 + 1).toNat) 3 (gI M (c + 42 + 3 * (gI M c 12).toNat) 3)) c 12 (gI M c 12 + 1)) := by
  obtain ⟨e1_z, s1_z⟩ := h_z.gr h0 (by omega)
  obtain ⟨e2_z, s2_z⟩ := h_z.gr (d_z := gI M c 12 + 1) (by omega) (by omega)
  simp (disch := omega) only [E_Ma_pushGraphics, B_89_0, B_89_34, B_89_44, h_z.1.u, e1_z, e2_z, s1_z.u, s2_z.u, X_grCopy s2_z.u s1_z.u (by omega), Nat.reduceEqDiff, false_and, or_false, false_or, rCI_ne, rCL_ne, inI, inL, isT, kInt, kByt, true_and, and_true, an_t, im_t, im_f, or_true, true_or, true_imp_iff, false_imp_iff, not_true_eq_false, not_false_eq_true, gK_uI, gK_uL, gK_uR, gK_uCI, gK_uCL, gN_uI, gN_uL, gN_uR, gN_uCI, gN_uCL, gR_uI, gR_uL, gR_uCI, gR_uCL, gI_uL, gI_uR, gI_uCL, gL_uI, gL_uR, gL_uCI, gz_uI, gz_uL, gz_uR, gz_uCI, gz_uCL, gs_uI, gs_uL, gs_uR, gs_uCI, gs_uCL, rI_at, rL_at, rR_at, rI_ne, rL_ne, rR_ne, rI_nk, rL_nk, rR_nk, rI_eq, rL_eq, rR_eq, Option.toList_some, Option.toList_none, List.cons_append, List.nil_append, List.append_nil, zc_eq, zc_lt, zc_le, zc_ge, zc_gt]
theorem X_count {x_z y_z z_z : Int} (h_z : ShMa M c) (h0 : 0 ≤ gI M c 13) (h1 : gI M c 13 < 200) : Call G J_Ma_count [a_r c, a_i x_z, a_i y_z, a_i z_z] M Q ↔ Q none (uI (uI (uI (uI M (c + 17) (gI M c 13) x_z) (c + 18) (gI M c 13) y_z) (c + 19) (gI M c 13) z_z) c 13 (gI M c 13 + 1)) := by
  simp (disch := omega) only [E_Ma_count, B_130_0, B_130_30, B_130_50, h_z.1.u, inI, inL, isT, kInt, kByt, true_and, and_true, an_t, im_t, im_f, or_true, true_or, true_imp_iff, false_imp_iff, not_true_eq_false, not_false_eq_true, gK_uI, gK_uL, gK_uR, gK_uCI, gK_uCL, gN_uI, gN_uL, gN_uR, gN_uCI, gN_uCL, gR_uI, gR_uL, gR_uCI, gR_uCL, gI_uL, gI_uR, gI_uCL, gL_uI, gL_uR, gL_uCI, gz_uI, gz_uL, gz_uR, gz_uCI, gz_uCL, gs_uI, gs_uL, gs_uR, gs_uCI, gs_uCL, rI_at, rL_at, rR_at, rI_ne, rL_ne, rR_ne, rI_nk, rL_nk, rR_nk, rI_eq, rL_eq, rR_eq, Option.toList_some, Option.toList_none, List.cons_append, List.nil_append, List.append_nil, zc_eq, zc_lt, zc_le, zc_ge, zc_gt]
/-- the first that is not 0, from above -/
def lk (f_z : Nat → Int) : Nat → Int
  | 0 => 0
  | n_z + 1 => if f_z n_z = 0 then lk f_z n_z else f_z n_z
theorem lookUp_loop {x_z : Int} (h_z : ShMa M c) (hs : gR M c 9 = s) (hsa : ShSa M s) (hx : 0 ≤ x_z ∧ x_z ≤ 7) (hst : ∀ l : Nat, l < 5 → (l : Int) ≤ gI M c 11 → -1 ≤ gI M (c + 22 + 4 * l) 4 ∧ gI M (c + 22 + 4 * l) 4 ≤ 5) : ∀ (n_z : Nat) (u_z : AV), n_z ≤ 5 → (n_z : Int) ≤ gI M c 11 + 1 → Q (some (a_i (lk (fun l => gI M (s + 4) ((gI M (c + 22 + 4 * l) 4 + 1) * 8 + x_z)) n_z))) M → At G 116 5 [a_r c, a_i x_z, a_i ((n_z : Int) - 1), u_z] [] M Q := by
  intro n_z
  induction n_z with
  | zero =>
    intro u_z h1 h2 hq
    simp (disch := omega) only [B_116_5, B_116_39, inI, inL, isT, kInt, kByt, true_and, and_true, an_t, im_t, im_f, or_true, true_or, true_imp_iff, false_imp_iff, not_true_eq_false, not_false_eq_true, gK_uI, gK_uL, gK_uR, gK_uCI, gK_uCL, gN_uI, gN_uL, gN_uR, gN_uCI, gN_uCL, gR_uI, gR_uL, gR_uCI, gR_uCL, gI_uL, gI_uR, gI_uCL, gL_uI, gL_uR, gL_uCI, gz_uI, gz_uL, gz_uR, gz_uCI, gz_uCL, gs_uI, gs_uL, gs_uR, gs_uCI, gs_uCL, rI_at, rL_at, rR_at, rI_ne, rL_ne, rR_ne, rI_nk, rL_nk, rR_nk, rI_eq, rL_eq, rR_eq, Option.toList_some, Option.toList_none, List.cons_append, List.nil_append, List.append_nil, zc_eq, zc_lt, zc_le, zc_ge, zc_gt]
    exact hq
  | succ n_z ih_z =>
    intro u_z h1 h2 hq
    have e0_z : ((n_z + 1 : Nat) : Int) - 1 = (n_z : Int) := by omega
    rw [e0_z, B_116_5]
    obtain ⟨e1_z, s1_z⟩ := h_z.2.2.2.1 n_z (by omega)
    have hb_z := hst n_z (by omega) (by omega)
    unfold lk at hq
    simp (disch := omega) only [h_z.1.u, e1_z, s1_z.u, hs, hsa.u, X_findRes hsa.u hb_z hx, B_116_26, inI, inL, isT, kInt, kByt, true_and, and_true, an_t, im_t, im_f, or_true, true_or, true_imp_iff, false_imp_iff, not_true_eq_false, not_false_eq_true, gK_uI, gK_uL, gK_uR, gK_uCI, gK_uCL, gN_uI, gN_uL, gN_uR, gN_uCI, gN_uCL, gR_uI, gR_uL, gR_uCI, gR_uCL, gI_uL, gI_uR, gI_uCL, gL_uI, gL_uR, gL_uCI, gz_uI, gz_uL, gz_uR, gz_uCI, gz_uCL, gs_uI, gs_uL, gs_uR, gs_uCI, gs_uCL, rI_at, rL_at, rR_at, rI_ne, rL_ne, rR_ne, rI_nk, rL_nk, rR_nk, rI_eq, rL_eq, rR_eq, Option.toList_some, Option.toList_none, List.cons_append, List.nil_append, List.append_nil, zc_eq, zc_lt, zc_le, zc_ge, zc_gt]
    by_cases c0_z : gI M (s + 4) ((gI M (c + 22 + 4 * n_z) 4 + 1) * 8 + x_z) = 0
    · rw [if_pos c0_z] at hq
      rw [c0_z]
      simp (disch := omega) only [B_116_33, inI, inL, isT, kInt, kByt, true_and, and_true, an_t, im_t, im_f, or_true, true_or, true_imp_iff, false_imp_iff, not_true_eq_false, not_false_eq_true, gK_uI, gK_uL, gK_uR, gK_uCI, gK_uCL, gN_uI, gN_uL, gN_uR, gN_uCI, gN_uCL, gR_uI, gR_uL, gR_uCI, gR_uCL, gI_uL, gI_uR, gI_uCL, gL_uI, gL_uR, gL_uCI, gz_uI, gz_uL, gz_uR, gz_uCI, gz_uCL, gs_uI, gs_uL, gs_uR, gs_uCI, gs_uCL, rI_at, rL_at, rR_at, rI_ne, rL_ne, rR_ne, rI_nk, rL_nk, rR_nk, rI_eq, rL_eq, rR_eq, Option.toList_some, Option.toList_none, List.cons_append, List.nil_append, List.append_nil, zc_eq, zc_lt, zc_le, zc_ge, zc_gt]
      have := ih_z (a_i 0) (by omega) (by omega) hq
      rw [show (n_z : Int) + -1 = (n_z : Int) - 1 from by omega]
      exact this
    · rw [if_neg c0_z] at hq
      simp (disch := omega) only [inI, inL, isT, kInt, kByt, true_and, and_true, an_t, im_t, im_f, or_true, true_or, true_imp_iff, false_imp_iff, not_true_eq_false, not_false_eq_true, gK_uI, gK_uL, gK_uR, gK_uCI, gK_uCL, gN_uI, gN_uL, gN_uR, gN_uCI, gN_uCL, gR_uI, gR_uL, gR_uCI, gR_uCL, gI_uL, gI_uR, gI_uCL, gL_uI, gL_uR, gL_uCI, gz_uI, gz_uL, gz_uR, gz_uCI, gz_uCL, gs_uI, gs_uL, gs_uR, gs_uCI, gs_uCL, rI_at, rL_at, rR_at, rI_ne, rL_ne, rR_ne, rI_nk, rL_nk, rR_nk, rI_eq, rL_eq, rR_eq, Option.toList_some, Option.toList_none, List.cons_append, List.nil_append, List.append_nil, zc_eq, zc_lt, zc_le, zc_ge, zc_gt]
      all_goals exact hq
theorem X_lookUp {x_z : Int} (h_z : ShMa M c) (hs : gR M c 9 = s) (hsa : ShSa M s) (hx : 0 ≤ x_z ∧ x_z ≤ 7) (hd_z : 0 ≤ gI M c 11) (hd2 : gI M c 11 < 5) (hst : ∀ l : Nat, l < 5 → (l : Int) ≤ gI M c 11 → -1 ≤ gI M (c + 22 + 4 * l) 4 ∧ gI M (c + 22 + 4 * l) 4 ≤ 5) (hq : Q (some (a_i (lk (fun l => gI M (s + 4) ((gI M (c + 22 + 4 * l) 4 + 1) * 8 + x_z)) (gI M c 11 + 1).toNat))) M) : Call G J_Ma_lookUp [a_r c, a_i x_z] M Q := by
  rw [E_Ma_lookUp, B_116_0]
  refine ⟨h_z.1.1, ?_⟩
  have := lookUp_loop (G := G) (Q := Q) h_z hs hsa hx hst (gI M c 11 + 1).toNat a_u (by omega) (by omega) hq
  rw [show ((gI M c 11 + 1).toNat : Int) - 1 = gI M c 11 from by omega] at this
  exact this
theorem isExec_loop {x_z : Int} (h_z : ShMa M c) (hd2 : gI M c 11 < 5) (hq : ∀ z_z : Int, ((z_z = 1 ∧ ∃ l : Nat, 1 ≤ l ∧ (l : Int) ≤ gI M c 11 ∧ gI M (c + 22 + 4 * l) 4 = x_z) ∨ (z_z = 0 ∧ ∀ l : Nat, 1 ≤ l → (l : Int) ≤ gI M c 11 → gI M (c + 22 + 4 * l) 4 ≠ x_z)) → Q (some (a_i z_z)) M) : ∀ (n_z l : Nat), 6 - l = n_z → 1 ≤ l → l ≤ 6 → (∀ j_z : Nat, 1 ≤ j_z → j_z < l → (j_z : Int) ≤ gI M c 11 → gI M (c + 22 + 4 * j_z) 4 ≠ x_z) → At G 119 2 [a_r c, a_i x_z, a_i (l : Int)] [] M Q := by
  intro n_z
  induction n_z with
  | zero =>
    intro l h1 h2 h3 hn
    have hh := hq 0 (Or.inr ⟨rfl, fun j_z j1 j2_z => hn j_z j1 (by omega) j2_z⟩)
    simp (disch := omega) only [B_119_2, B_119_31, h_z.1.u, inI, inL, isT, kInt, kByt, true_and, and_true, an_t, im_t, im_f, or_true, true_or, true_imp_iff, false_imp_iff, not_true_eq_false, not_false_eq_true, gK_uI, gK_uL, gK_uR, gK_uCI, gK_uCL, gN_uI, gN_uL, gN_uR, gN_uCI, gN_uCL, gR_uI, gR_uL, gR_uCI, gR_uCL, gI_uL, gI_uR, gI_uCL, gL_uI, gL_uR, gL_uCI, gz_uI, gz_uL, gz_uR, gz_uCI, gz_uCL, gs_uI, gs_uL, gs_uR, gs_uCI, gs_uCL, rI_at, rL_at, rR_at, rI_ne, rL_ne, rR_ne, rI_nk, rL_nk, rR_nk, rI_eq, rL_eq, rR_eq, Option.toList_some, Option.toList_none, List.cons_append, List.nil_append, List.append_nil, zc_eq, zc_lt, zc_le, zc_ge, zc_gt]
    all_goals exact hh
  | succ n_z ih_z =>
    intro l h1 h2 h3 hn
    by_cases c0_z : gI M c 11 < (l : Int)
    · have hh := hq 0 (Or.inr ⟨rfl, fun j_z j1 j2_z => hn j_z j1 (by omega) j2_z⟩)
      rw [B_119_2]
      simp (disch := omega) only [B_119_31, h_z.1.u, inI, inL, isT, kInt, kByt, true_and, and_true, an_t, im_t, im_f, or_true, true_or, true_imp_iff, false_imp_iff, not_true_eq_false, not_false_eq_true, gK_uI, gK_uL, gK_uR, gK_uCI, gK_uCL, gN_uI, gN_uL, gN_uR, gN_uCI, gN_uCL, gR_uI, gR_uL, gR_uCI, gR_uCL, gI_uL, gI_uR, gI_uCL, gL_uI, gL_uR, gL_uCI, gz_uI, gz_uL, gz_uR, gz_uCI, gz_uCL, gs_uI, gs_uL, gs_uR, gs_uCI, gs_uCL, rI_at, rL_at, rR_at, rI_ne, rL_ne, rR_ne, rI_nk, rL_nk, rR_nk, rI_eq, rL_eq, rR_eq, Option.toList_some, Option.toList_none, List.cons_append, List.nil_append, List.append_nil, zc_eq, zc_lt, zc_le, zc_ge, zc_gt]
      all_goals exact hh
    · obtain ⟨e1_z, s1_z⟩ := h_z.2.2.2.1 l (by omega)
      rw [B_119_2]
      by_cases c1_z : gI M (c + 22 + 4 * l) 4 = x_z
      · have hh := hq 1 (Or.inl ⟨rfl, l, h2, by omega, c1_z⟩)
        simp (disch := omega) only [h_z.1.u, e1_z, s1_z.u, inI, inL, isT, kInt, kByt, true_and, and_true, an_t, im_t, im_f, or_true, true_or, true_imp_iff, false_imp_iff, not_true_eq_false, not_false_eq_true, gK_uI, gK_uL, gK_uR, gK_uCI, gK_uCL, gN_uI, gN_uL, gN_uR, gN_uCI, gN_uCL, gR_uI, gR_uL, gR_uCI, gR_uCL, gI_uL, gI_uR, gI_uCL, gL_uI, gL_uR, gL_uCI, gz_uI, gz_uL, gz_uR, gz_uCI, gz_uCL, gs_uI, gs_uL, gs_uR, gs_uCI, gs_uCL, rI_at, rL_at, rR_at, rI_ne, rL_ne, rR_ne, rI_nk, rL_nk, rR_nk, rI_eq, rL_eq, rR_eq, Option.toList_some, Option.toList_none, List.cons_append, List.nil_append, List.append_nil, zc_eq, zc_lt, zc_le, zc_ge, zc_gt]
        all_goals exact hh
      · have hh := ih_z (l + 1) (by omega) (by omega) (by omega) (fun j_z j1 j2_z j3_z => by
          by_cases c2_z : j_z = l
          · rw [c2_z]; exact c1_z
          · exact hn j_z j1 (by omega) j3_z)
        rw [show ((l + 1 : Nat) : Int) = (l : Int) + 1 from by omega] at hh
        simp (disch := omega) only [B_119_25, h_z.1.u, e1_z, s1_z.u, inI, inL, isT, kInt, kByt, true_and, and_true, an_t, im_t, im_f, or_true, true_or, true_imp_iff, false_imp_iff, not_true_eq_false, not_false_eq_true, gK_uI, gK_uL, gK_uR, gK_uCI, gK_uCL, gN_uI, gN_uL, gN_uR, gN_uCI, gN_uCL, gR_uI, gR_uL, gR_uCI, gR_uCL, gI_uL, gI_uR, gI_uCL, gL_uI, gL_uR, gL_uCI, gz_uI, gz_uL, gz_uR, gz_uCI, gz_uCL, gs_uI, gs_uL, gs_uR, gs_uCI, gs_uCL, rI_at, rL_at, rR_at, rI_ne, rL_ne, rR_ne, rI_nk, rL_nk, rR_nk, rI_eq, rL_eq, rR_eq, Option.toList_some, Option.toList_none, List.cons_append, List.nil_append, List.append_nil, zc_eq, zc_lt, zc_le, zc_ge, zc_gt]
        all_goals exact hh
theorem X_isExec {x_z : Int} (h_z : ShMa M c) (hd2 : gI M c 11 < 5) (hq : ∀ z_z : Int, ((z_z = 1 ∧ ∃ l : Nat, 1 ≤ l ∧ (l : Int) ≤ gI M c 11 ∧ gI M (c + 22 + 4 * l) 4 = x_z) ∨ (z_z = 0 ∧ ∀ l : Nat, 1 ≤ l → (l : Int) ≤ gI M c 11 → gI M (c + 22 + 4 * l) 4 ≠ x_z)) → Q (some (a_i z_z)) M) : Call G J_Ma_isExecuted [a_r c, a_i x_z] M Q := by
  rw [E_Ma_isExecuted, B_119_0]
  exact isExec_loop h_z hd2 hq 5 1 rfl (by decide) (by decide) (fun j_z j1 j2_z => absurd j2_z (by omega))
/-- a point more -/
def pAdd (M_z : Mem) (r_z : Nat) (x_z y_z z_z : Int) : Mem := uI (uI (uI (uI M_z (r_z + 1) (gI M_z r_z 6) x_z) (r_z + 2) (gI M_z r_z 6) y_z) (r_z + 3) (gI M_z r_z 6) z_z) r_z 6 (gI M_z r_z 6 + 1)
theorem pAdd_6 (x_z y_z z_z : Int) : gI (pAdd M r x_z y_z z_z) r 6 = gI M r 6 + 1 := rI_at
theorem pAdd_ne {a_z : Nat} (x_z y_z z_z : Int) (h_z : a_z + 1 ≤ r ∨ r + 4 ≤ a_z) : gI (pAdd M r x_z y_z z_z) a_z = gI M a_z := by
  unfold pAdd
  simp (disch := omega) only [gK_uI, gK_uL, gK_uR, gK_uCI, gK_uCL, gN_uI, gN_uL, gN_uR, gN_uCI, gN_uCL, gR_uI, gR_uL, gR_uCI, gR_uCL, gI_uL, gI_uR, gI_uCL, gL_uI, gL_uR, gL_uCI, gz_uI, gz_uL, gz_uR, gz_uCI, gz_uCL, gs_uI, gs_uL, gs_uR, gs_uCI, gs_uCL, rI_at, rL_at, rR_at, rI_ne, rL_ne, rR_ne, rI_nk, rL_nk, rR_nk, rI_eq, rL_eq, rR_eq]
theorem X_paAdd2 {x_z y_z z_z : Int} (h_z : ShPa M r) (h4 : 0 ≤ gI M r 6) (h5 : gI M r 6 < 800) (hz : z_z = 0 ∨ z_z = 1) : Call G J_Pa_add [a_r r, a_i x_z, a_i y_z, a_i z_z] M Q ↔ Q none (pAdd M r x_z y_z z_z) := X_paAdd h_z h4 h5 hz
/-- the four points of a_z row of corners -/
def pAdd4 (M_z : Mem) (r_z a_z : Nat) : Mem := pAdd (pAdd (pAdd (pAdd M_z r_z (gI M_z a_z 0) (gI M_z a_z 1) 1) r_z (gI M_z a_z 2) (gI M_z a_z 3) 0) r_z (gI M_z a_z 4) (gI M_z a_z 5) 0) r_z (gI M_z a_z 6) (gI M_z a_z 7) 0
theorem addPart_step {a_z : Nat} {i_z z_z : Int} {M1_z : Mem} (h_z : ShPa M1_z r) (ha_z : gK M1_z a_z = 100 ∧ gN M1_z a_z = 8) (hi_z : 0 ≤ i_z ∧ i_z + 1 < 8) (hz : z_z = if i_z = 0 then 1 else 0) (h4 : 0 ≤ gI M1_z r 6) (h5 : gI M1_z r 6 < 800) (hq : At G 106 2 [a_r r, a_r a_z, a_i (i_z + 2)] [] (pAdd M1_z r (gI M1_z a_z i_z) (gI M1_z a_z (i_z + 1)) z_z) Q) : At G 106 2 [a_r r, a_r a_z, a_i i_z] [] M1_z Q := by
  have A1 := X_paAdd2 (G := G) (Q := fun q_z M2_z => At G 106 31 [a_r r, a_r a_z, a_i i_z] q_z.toList M2_z Q) (x_z := gI M1_z a_z i_z) (y_z := gI M1_z a_z (i_z + 1)) (z_z := z_z) h_z h4 (by omega) (by omega)
  rw [B_106_2]
  by_cases c_z : i_z = 0
  · rw [if_pos c_z] at hz
    subst hz
    simp (disch := omega) only [ha_z, h_z.u, A1, B_106_28, B_106_31, inI, inL, isT, kInt, kByt, true_and, and_true, an_t, im_t, im_f, or_true, true_or, true_imp_iff, false_imp_iff, not_true_eq_false, not_false_eq_true, gK_uI, gK_uL, gK_uR, gK_uCI, gK_uCL, gN_uI, gN_uL, gN_uR, gN_uCI, gN_uCL, gR_uI, gR_uL, gR_uCI, gR_uCL, gI_uL, gI_uR, gI_uCL, gL_uI, gL_uR, gL_uCI, gz_uI, gz_uL, gz_uR, gz_uCI, gz_uCL, gs_uI, gs_uL, gs_uR, gs_uCI, gs_uCL, rI_at, rL_at, rR_at, rI_ne, rL_ne, rR_ne, rI_nk, rL_nk, rR_nk, rI_eq, rL_eq, rR_eq, Option.toList_some, Option.toList_none, List.cons_append, List.nil_append, List.append_nil, zc_eq, zc_lt, zc_le, zc_ge, zc_gt]
    all_goals exact hq
  · rw [if_neg c_z] at hz
    subst hz
    simp (disch := omega) only [ha_z, h_z.u, A1, B_106_27, B_106_28, B_106_31, inI, inL, isT, kInt, kByt, true_and, and_true, an_t, im_t, im_f, or_true, true_or, true_imp_iff, false_imp_iff, not_true_eq_false, not_false_eq_true, gK_uI, gK_uL, gK_uR, gK_uCI, gK_uCL, gN_uI, gN_uL, gN_uR, gN_uCI, gN_uCL, gR_uI, gR_uL, gR_uCI, gR_uCL, gI_uL, gI_uR, gI_uCL, gL_uI, gL_uR, gL_uCI, gz_uI, gz_uL, gz_uR, gz_uCI, gz_uCL, gs_uI, gs_uL, gs_uR, gs_uCI, gs_uCL, rI_at, rL_at, rR_at, rI_ne, rL_ne, rR_ne, rI_nk, rL_nk, rR_nk, rI_eq, rL_eq, rR_eq, Option.toList_some, Option.toList_none, List.cons_append, List.nil_append, List.append_nil, zc_eq, zc_lt, zc_le, zc_ge, zc_gt]
    all_goals exact hq
theorem addPart_end {a_z : Nat} {M1_z : Mem} (ha_z : gK M1_z a_z = 100 ∧ gN M1_z a_z = 8) (hq : Q none M1_z) : At G 106 2 [a_r r, a_r a_z, a_i 8] [] M1_z Q := by
  rw [B_106_2]
  simp (disch := omega) only [ha_z, B_106_37, inI, inL, isT, kInt, kByt, true_and, and_true, an_t, im_t, im_f, or_true, true_or, true_imp_iff, false_imp_iff, not_true_eq_false, not_false_eq_true, gK_uI, gK_uL, gK_uR, gK_uCI, gK_uCL, gN_uI, gN_uL, gN_uR, gN_uCI, gN_uCL, gR_uI, gR_uL, gR_uCI, gR_uCL, gI_uL, gI_uR, gI_uCL, gL_uI, gL_uR, gL_uCI, gz_uI, gz_uL, gz_uR, gz_uCI, gz_uCL, gs_uI, gs_uL, gs_uR, gs_uCI, gs_uCL, rI_at, rL_at, rR_at, rI_ne, rL_ne, rR_ne, rI_nk, rL_nk, rR_nk, rI_eq, rL_eq, rR_eq, Option.toList_some, Option.toList_none, List.cons_append, List.nil_append, List.append_nil, zc_eq, zc_lt, zc_le, zc_ge, zc_gt]
  all_goals exact hq
theorem X_addPart {a_z : Nat} (h_z : ShPa M r) (ha_z : gK M a_z = 100 ∧ gN M a_z = 8) (hn : r + 6 ≤ a_z) (h4 : 0 ≤ gI M r 6) (h5 : gI M r 6 + 4 ≤ 800) (hq : Q none (pAdd4 M r a_z)) : Call G J_Pa_addPart [a_r r, a_r a_z] M Q := by
  rw [E_Pa_addPart, B_106_0]
  have e1_z := fun M1_z x_z y_z z_z => pAdd_ne (M := M1_z) (r := r) (a_z := a_z) x_z y_z z_z (by omega)
  refine addPart_step (i_z := 0) (z_z := 1) h_z ha_z (by omega) rfl h4 (by omega) (addPart_step (i_z := 2) (z_z := 0) h_z ha_z (by omega) rfl (by rw [pAdd_6]; omega) (by rw [pAdd_6]; omega) (addPart_step (i_z := 4) (z_z := 0) h_z ha_z (by omega) rfl (by rw [pAdd_6, pAdd_6]; omega) (by rw [pAdd_6, pAdd_6]; omega) (addPart_step (i_z := 6) (z_z := 0) h_z ha_z (by omega) rfl (by rw [pAdd_6, pAdd_6, pAdd_6]; omega) (by rw [pAdd_6, pAdd_6, pAdd_6]; omega) ?_)))
  simp only [e1_z, Int.reduceAdd]
  unfold pAdd4 at hq
  have k1_z : ∀ M1_z x_z y_z z_z, gK (pAdd M1_z r x_z y_z z_z) = gK M1_z := fun _ _ _ _ => rfl
  have k2_z : ∀ M1_z x_z y_z z_z, gN (pAdd M1_z r x_z y_z z_z) = gN M1_z := fun _ _ _ _ => rfl
  refine addPart_end ⟨?_, ?_⟩ hq
  · rw [k1_z, k1_z, k1_z, k1_z]
    exact ha_z.1
  · rw [k2_z, k2_z, k2_z, k2_z]
    exact ha_z.2
theorem X_toDevice {x_z y_z k_z : Int} (h_z : ShGr M r) (hk : k_z = 0 ∨ k_z = 1) (hm_z : ∀ i_z : Int, 0 ≤ i_z → i_z < 6 → NV (gL M (r + 1) i_z)) (hx : RV x_z) (hy : RV y_z) (hq : Q (some (a_i (dv (gL M (r + 1)) x_z y_z k_z))) M) : Call G J_Gr_toDevice [a_r r, a_l x_z, a_l y_z, a_i k_z] M Q := by
  have r1_z : RV (fM (gL M (r + 1) k_z) x_z) := rv_M (Or.inr (hm_z k_z (by omega) (by omega))) hx
  have r2 : RV (fM (gL M (r + 1) (k_z + 2)) y_z) := rv_M (Or.inr (hm_z (k_z + 2) (by omega) (by omega))) hy
  have r3 := rv_S r1_z r2
  have r4 : RV (fS (fS (fM (gL M (r + 1) k_z) x_z) (fM (gL M (r + 1) (k_z + 2)) y_z)) (gL M (r + 1) (k_z + 4))) := rv_S r3 (Or.inr (hm_z (k_z + 4) (by omega) (by omega)))
  have ev_z : dv (gL M (r + 1)) x_z y_z k_z = six (fS (fS (fM (gL M (r + 1) k_z) x_z) (fM (gL M (r + 1) (k_z + 2)) y_z)) (gL M (r + 1) (k_z + 4))) := by
    unfold dv fsum
    rw [if_neg (by omega), fM_comm x_z, fM_comm y_z]
  rw [ev_z] at hq
  simp (disch := omega) only [E_Gr_toDevice, B_98_0, B_98_7, B_98_14, Y_isBetweenT (x_z := k_z) (y_z := 0) (w_z := 1) (by omega), h_z.u, inI, inL, isT, kInt, kByt, true_and, and_true, an_t, im_t, im_f, or_true, true_or, true_imp_iff, false_imp_iff, not_true_eq_false, not_false_eq_true, gK_uI, gK_uL, gK_uR, gK_uCI, gK_uCL, gN_uI, gN_uL, gN_uR, gN_uCI, gN_uCL, gR_uI, gR_uL, gR_uCI, gR_uCL, gI_uL, gI_uR, gI_uCL, gL_uI, gL_uR, gL_uCI, gz_uI, gz_uL, gz_uR, gz_uCI, gz_uCL, gs_uI, gs_uL, gs_uR, gs_uCI, gs_uCL, rI_at, rL_at, rR_at, rI_ne, rL_ne, rR_ne, rI_nk, rL_nk, rR_nk, rI_eq, rL_eq, rR_eq, Option.toList_some, Option.toList_none, List.cons_append, List.nil_append, List.append_nil, zc_eq, zc_lt, zc_le, zc_ge, zc_gt]
  refine X_product (Or.inr (hm_z k_z (by omega) (by omega))) hx ?_
  simp (disch := omega) only [B_98_25, h_z.u, inI, inL, isT, kInt, kByt, true_and, and_true, an_t, im_t, im_f, or_true, true_or, true_imp_iff, false_imp_iff, not_true_eq_false, not_false_eq_true, gK_uI, gK_uL, gK_uR, gK_uCI, gK_uCL, gN_uI, gN_uL, gN_uR, gN_uCI, gN_uCL, gR_uI, gR_uL, gR_uCI, gR_uCL, gI_uL, gI_uR, gI_uCL, gL_uI, gL_uR, gL_uCI, gz_uI, gz_uL, gz_uR, gz_uCI, gz_uCL, gs_uI, gs_uL, gs_uR, gs_uCI, gs_uCL, rI_at, rL_at, rR_at, rI_ne, rL_ne, rR_ne, rI_nk, rL_nk, rR_nk, rI_eq, rL_eq, rR_eq, Option.toList_some, Option.toList_none, List.cons_append, List.nil_append, List.append_nil, zc_eq, zc_lt, zc_le, zc_ge, zc_gt]
  refine X_product (Or.inr (hm_z (k_z + 2) (by omega) (by omega))) hy ?_
  simp (disch := omega) only [B_98_40, inI, inL, isT, kInt, kByt, true_and, and_true, an_t, im_t, im_f, or_true, true_or, true_imp_iff, false_imp_iff, not_true_eq_false, not_false_eq_true, gK_uI, gK_uL, gK_uR, gK_uCI, gK_uCL, gN_uI, gN_uL, gN_uR, gN_uCI, gN_uCL, gR_uI, gR_uL, gR_uCI, gR_uCL, gI_uL, gI_uR, gI_uCL, gL_uI, gL_uR, gL_uCI, gz_uI, gz_uL, gz_uR, gz_uCI, gz_uCL, gs_uI, gs_uL, gs_uR, gs_uCI, gs_uCL, rI_at, rL_at, rR_at, rI_ne, rL_ne, rR_ne, rI_nk, rL_nk, rR_nk, rI_eq, rL_eq, rR_eq, Option.toList_some, Option.toList_none, List.cons_append, List.nil_append, List.append_nil, zc_eq, zc_lt, zc_le, zc_ge, zc_gt]
  refine X_sum r1_z r2 ?_
  simp (disch := omega) only [B_98_49, h_z.u, inI, inL, isT, kInt, kByt, true_and, and_true, an_t, im_t, im_f, or_true, true_or, true_imp_iff, false_imp_iff, not_true_eq_false, not_false_eq_true, gK_uI, gK_uL, gK_uR, gK_uCI, gK_uCL, gN_uI, gN_uL, gN_uR, gN_uCI, gN_uCL, gR_uI, gR_uL, gR_uCI, gR_uCL, gI_uL, gI_uR, gI_uCL, gL_uI, gL_uR, gL_uCI, gz_uI, gz_uL, gz_uR, gz_uCI, gz_uCL, gs_uI, gs_uL, gs_uR, gs_uCI, gs_uCL, rI_at, rL_at, rR_at, rI_ne, rL_ne, rR_ne, rI_nk, rL_nk, rR_nk, rI_eq, rL_eq, rR_eq, Option.toList_some, Option.toList_none, List.cons_append, List.nil_append, List.append_nil, zc_eq, zc_lt, zc_le, zc_ge, zc_gt]
  refine X_sum r3 (Or.inr (hm_z (k_z + 4) (by omega) (by omega))) ?_
  simp (disch := omega) only [B_98_61, inI, inL, isT, kInt, kByt, true_and, and_true, an_t, im_t, im_f, or_true, true_or, true_imp_iff, false_imp_iff, not_true_eq_false, not_false_eq_true, gK_uI, gK_uL, gK_uR, gK_uCI, gK_uCL, gN_uI, gN_uL, gN_uR, gN_uCI, gN_uCL, gR_uI, gR_uL, gR_uCI, gR_uCL, gI_uL, gI_uR, gI_uCL, gL_uI, gL_uR, gL_uCI, gz_uI, gz_uL, gz_uR, gz_uCI, gz_uCL, gs_uI, gs_uL, gs_uR, gs_uCI, gs_uCL, rI_at, rL_at, rR_at, rI_ne, rL_ne, rR_ne, rI_nk, rL_nk, rR_nk, rI_eq, rL_eq, rR_eq, Option.toList_some, Option.toList_none, List.cons_append, List.nil_append, List.append_nil, zc_eq, zc_lt, zc_le, zc_ge, zc_gt]
  refine X_sixteenths r4 ?_
  simp (disch := omega) only [B_98_64, inI, inL, isT, kInt, kByt, true_and, and_true, an_t, im_t, im_f, or_true, true_or, true_imp_iff, false_imp_iff, not_true_eq_false, not_false_eq_true, gK_uI, gK_uL, gK_uR, gK_uCI, gK_uCL, gN_uI, gN_uL, gN_uR, gN_uCI, gN_uCL, gR_uI, gR_uL, gR_uCI, gR_uCL, gI_uL, gI_uR, gI_uCL, gL_uI, gL_uR, gL_uCI, gz_uI, gz_uL, gz_uR, gz_uCI, gz_uCL, gs_uI, gs_uL, gs_uR, gs_uCI, gs_uCL, rI_at, rL_at, rR_at, rI_ne, rL_ne, rR_ne, rI_nk, rL_nk, rR_nk, rI_eq, rL_eq, rR_eq, Option.toList_some, Option.toList_none, List.cons_append, List.nil_append, List.append_nil, zc_eq, zc_lt, zc_le, zc_ge, zc_gt]
  exact hq
/-- good up to a_z corner k_z, and coordinate j_z there -/
def cOk (mt_z : Int → Int) (x0_z y0 x1_z y1 k_z j_z : Int) : Prop := ∀ a_z b_z : Int, 0 ≤ a_z → 0 ≤ b_z → b_z < 2 → (a_z < k_z ∨ (a_z = k_z ∧ b_z < j_z)) → dv mt_z (pX x0_z x1_z a_z) (pY y0 y1 a_z) b_z ≠ 16001
def cRow (M' : Mem) (c_z : Nat) (mt_z : Int → Int) (x0_z y0 x1_z y1 k_z j_z : Int) : Prop := ∀ a_z b_z : Int, 0 ≤ a_z → 0 ≤ b_z → b_z < 2 → (a_z < k_z ∨ (a_z = k_z ∧ b_z < j_z)) → gI M' (c_z + 21) (2 * a_z + b_z) = dv mt_z (pX x0_z x1_z a_z) (pY y0 y1 a_z) b_z
theorem corner_in {x0_z y0 x1_z y1 : Int} {M0 : Mem} (h_z : ShMa M0 c) (h0 : 0 ≤ gI M0 c 12) (h1 : gI M0 c 12 < 35) (hm_z : ∀ i_z : Int, 0 ≤ i_z → i_z < 6 → NV (gL M0 (c + 42 + 3 * (gI M0 c 12).toNat + 1) i_z)) (v0_z : RV x0_z) (v1_z : RV y0) (v2 : RV x1_z) (v3 : RV y1) {k_z : Int} (k0_z : 0 ≤ k_z) (k1_z : k_z < 4)
    (nx : ∀ (M' : Mem) (z_z : Int) (u8 u12 u14 u16 : AV), Ex (fun a_z => a_z = c + 21) M0 M' → cRow M' c (gL M0 (c + 42 + 3 * (gI M0 c 12).toNat + 1)) x0_z y0 x1_z y1 k_z 2 → ((z_z = 1 ∧ cOk (gL M0 (c + 42 + 3 * (gI M0 c 12).toNat + 1)) x0_z y0 x1_z y1 k_z 2) ∨ (z_z = 0 ∧ ¬ cOk (gL M0 (c + 42 + 3 * (gI M0 c 12).toNat + 1)) x0_z y0 x1_z y1 k_z 2)) → At G 105 115 [a_r c, a_l x0_z, a_u, a_l y0, a_u, a_l x1_z, a_u, a_l y1, u8, a_i z_z, a_i k_z, a_l (pX x0_z x1_z k_z), u12, a_l (pY y0 y1 k_z), u14, a_i 2, u16] [] M' Q) : ∀ (n_z : Nat) (j_z z_z : Int) (u8 u12 u14 u16 : AV) (M' : Mem), (2 - j_z).toNat = n_z → 0 ≤ j_z → j_z ≤ 2 → Ex (fun a_z => a_z = c + 21) M0 M' → cRow M' c (gL M0 (c + 42 + 3 * (gI M0 c 12).toNat + 1)) x0_z y0 x1_z y1 k_z j_z → ((z_z = 1 ∧ cOk (gL M0 (c + 42 + 3 * (gI M0 c 12).toNat + 1)) x0_z y0 x1_z y1 k_z j_z) ∨ (z_z = 0 ∧ ¬ cOk (gL M0 (c + 42 + 3 * (gI M0 c 12).toNat + 1)) x0_z y0 x1_z y1 k_z j_z)) → At G 105 49 [a_r c, a_l x0_z, a_u, a_l y0, a_u, a_l x1_z, a_u, a_l y1, u8, a_i z_z, a_i k_z, a_l (pX x0_z x1_z k_z), u12, a_l (pY y0 y1 k_z), u14, a_i j_z, u16] [] M' Q := by
  intro n_z
  induction n_z with
  | zero =>
    intro j_z z_z u8 u12 u14 u16 M' hn j0 j1 hE hR hz
    have : j_z = 2 := by omega
    subst this
    rw [B_105_49]
    have hh := nx M' z_z u8 u12 u14 u16 hE hR hz
    simp (disch := omega) only [inI, inL, isT, kInt, kByt, true_and, and_true, an_t, im_t, im_f, or_true, true_or, true_imp_iff, false_imp_iff, not_true_eq_false, not_false_eq_true, gK_uI, gK_uL, gK_uR, gK_uCI, gK_uCL, gN_uI, gN_uL, gN_uR, gN_uCI, gN_uCL, gR_uI, gR_uL, gR_uCI, gR_uCL, gI_uL, gI_uR, gI_uCL, gL_uI, gL_uR, gL_uCI, gz_uI, gz_uL, gz_uR, gz_uCI, gz_uCL, gs_uI, gs_uL, gs_uR, gs_uCI, gs_uCL, rI_at, rL_at, rR_at, rI_ne, rL_ne, rR_ne, rI_nk, rL_nk, rR_nk, rI_eq, rL_eq, rR_eq, Option.toList_some, Option.toList_none, List.cons_append, List.nil_append, List.append_nil, zc_eq, zc_lt, zc_le, zc_ge, zc_gt]
    all_goals exact hh
  | succ n_z ih_z =>
    intro j_z z_z u8 u12 u14 u16 M' hn j0 j1 hE hR hz
    have hs' := hE.ma h_z
    have e12_z : gI M' c 12 = gI M0 c 12 := congrFun (hE.2.2.2.2.2 c (by omega)).1 12
    have eL : gL M' (c + 42 + 3 * (gI M0 c 12).toNat + 1) = gL M0 (c + 42 + 3 * (gI M0 c 12).toNat + 1) := (hE.2.2.2.2.2 _ (by omega)).2
    obtain ⟨g1, g2⟩ := hs'.gr h0 h1
    rw [B_105_49]
    simp (disch := omega) only [hs'.1.u, e12_z, g1, g2.u, inI, inL, isT, kInt, kByt, true_and, and_true, an_t, im_t, im_f, or_true, true_or, true_imp_iff, false_imp_iff, not_true_eq_false, not_false_eq_true, gK_uI, gK_uL, gK_uR, gK_uCI, gK_uCL, gN_uI, gN_uL, gN_uR, gN_uCI, gN_uCL, gR_uI, gR_uL, gR_uCI, gR_uCL, gI_uL, gI_uR, gI_uCL, gL_uI, gL_uR, gL_uCI, gz_uI, gz_uL, gz_uR, gz_uCI, gz_uCL, gs_uI, gs_uL, gs_uR, gs_uCI, gs_uCL, rI_at, rL_at, rR_at, rI_ne, rL_ne, rR_ne, rI_nk, rL_nk, rR_nk, rI_eq, rL_eq, rR_eq, Option.toList_some, Option.toList_none, List.cons_append, List.nil_append, List.append_nil, zc_eq, zc_lt, zc_le, zc_ge, zc_gt]
    have r1_z : RV (pX x0_z x1_z k_z) := by unfold pX; split <;> assumption
    have r2 : RV (pY y0 y1 k_z) := by unfold pY; split <;> assumption
    refine X_toDevice g2 (by omega) (by rw [eL]; exact hm_z) r1_z r2 ?_
    rw [eL]
    generalize hmt : gL M0 (c + 42 + 3 * (gI M0 c 12).toNat + 1) = mt_z at *
    generalize hd_z : dv mt_z (pX x0_z x1_z k_z) (pY y0 y1 k_z) j_z = d_z
    have hE2 := hE.uI (r_z := c + 21) (2 * k_z + j_z) d_z rfl
    have hR2 : cRow (uI M' (c + 21) (2 * k_z + j_z) d_z) c mt_z x0_z y0 x1_z y1 k_z (j_z + 1) := by
      intro a_z b_z a0_z b0 b1 hab
      by_cases cc : a_z = k_z ∧ b_z = j_z
      · obtain ⟨e1_z, e2_z⟩ := cc
        subst e1_z e2_z
        rw [rI_at, hd_z]
      · rw [rI_nk (by omega)]
        exact hR a_z b_z a0_z b0 b1 (by omega)
    have hO : ∀ w_z : Int, (w_z = 1 ∧ z_z = 1 ∧ d_z ≠ 16001) ∨ (w_z = 0 ∧ ¬ (z_z = 1 ∧ d_z ≠ 16001)) → (w_z = 1 ∧ cOk mt_z x0_z y0 x1_z y1 k_z (j_z + 1)) ∨ (w_z = 0 ∧ ¬ cOk mt_z x0_z y0 x1_z y1 k_z (j_z + 1)) := by
      intro w_z hw
      rcases hw with ⟨w1_z, w2_z, w3_z⟩ | ⟨w1_z, w2_z⟩
      · refine Or.inl ⟨w1_z, fun a_z b_z a0_z b0 b1 hab => ?_⟩
        rcases hz with ⟨z1, hz⟩ | ⟨z1, hz⟩
        · by_cases cc : a_z = k_z ∧ b_z = j_z
          · obtain ⟨e1_z, e2_z⟩ := cc
            subst e1_z e2_z
            rw [hd_z]
            exact w3_z
          · exact hz a_z b_z a0_z b0 b1 (by omega)
        · omega
      · refine Or.inr ⟨w1_z, fun ho => ?_⟩
        rcases hz with ⟨z1, hz⟩ | ⟨z1, hz⟩
        · refine w2_z ⟨z1, ?_⟩
          rw [← hd_z]
          exact ho k_z j_z k0_z j0 (by omega) (by omega)
        · exact hz (fun a_z b_z a0_z b0 b1 hab => ho a_z b_z a0_z b0 b1 (by omega))
    rcases hz with ⟨z1, -⟩ | ⟨z1, -⟩
    · by_cases cd : d_z = 16001
      · have hh := fun u8 u12 u14 u16 => ih_z (j_z + 1) 0 u8 u12 u14 u16 _ (by omega) (by omega) (by omega) hE2 hR2 (hO 0 (Or.inr ⟨rfl, fun q_z => q_z.2 cd⟩))
        simp (disch := omega) only [B_105_73, B_105_106, B_105_107, hs'.1.u, inI, inL, isT, kInt, kByt, true_and, and_true, an_t, im_t, im_f, or_true, true_or, true_imp_iff, false_imp_iff, not_true_eq_false, not_false_eq_true, gK_uI, gK_uL, gK_uR, gK_uCI, gK_uCL, gN_uI, gN_uL, gN_uR, gN_uCI, gN_uCL, gR_uI, gR_uL, gR_uCI, gR_uCL, gI_uL, gI_uR, gI_uCL, gL_uI, gL_uR, gL_uCI, gz_uI, gz_uL, gz_uR, gz_uCI, gz_uCL, gs_uI, gs_uL, gs_uR, gs_uCI, gs_uCL, rI_at, rL_at, rR_at, rI_ne, rL_ne, rR_ne, rI_nk, rL_nk, rR_nk, rI_eq, rL_eq, rR_eq, Option.toList_some, Option.toList_none, List.cons_append, List.nil_append, List.append_nil, zc_eq, zc_lt, zc_le, zc_ge, zc_gt]
        all_goals exact hh _ _ _ _
      · have hh := fun u8 u12 u14 u16 => ih_z (j_z + 1) 1 u8 u12 u14 u16 _ (by omega) (by omega) (by omega) hE2 hR2 (hO 1 (Or.inl ⟨rfl, z1, cd⟩))
        simp (disch := omega) only [B_105_73, B_105_106, B_105_107, hs'.1.u, inI, inL, isT, kInt, kByt, true_and, and_true, an_t, im_t, im_f, or_true, true_or, true_imp_iff, false_imp_iff, not_true_eq_false, not_false_eq_true, gK_uI, gK_uL, gK_uR, gK_uCI, gK_uCL, gN_uI, gN_uL, gN_uR, gN_uCI, gN_uCL, gR_uI, gR_uL, gR_uCI, gR_uCL, gI_uL, gI_uR, gI_uCL, gL_uI, gL_uR, gL_uCI, gz_uI, gz_uL, gz_uR, gz_uCI, gz_uCL, gs_uI, gs_uL, gs_uR, gs_uCI, gs_uCL, rI_at, rL_at, rR_at, rI_ne, rL_ne, rR_ne, rI_nk, rL_nk, rR_nk, rI_eq, rL_eq, rR_eq, Option.toList_some, Option.toList_none, List.cons_append, List.nil_append, List.append_nil, zc_eq, zc_lt, zc_le, zc_ge, zc_gt]
        all_goals exact hh _ _ _ _
    · have hh := fun u8 u12 u14 u16 => ih_z (j_z + 1) 0 u8 u12 u14 u16 _ (by omega) (by omega) (by omega) hE2 hR2 (hO 0 (Or.inr ⟨rfl, fun q_z => by omega⟩))
      simp (disch := omega) only [B_105_73, B_105_106, B_105_107, hs'.1.u, inI, inL, isT, kInt, kByt, true_and, and_true, an_t, im_t, im_f, or_true, true_or, true_imp_iff, false_imp_iff, not_true_eq_false, not_false_eq_true, gK_uI, gK_uL, gK_uR, gK_uCI, gK_uCL, gN_uI, gN_uL, gN_uR, gN_uCI, gN_uCL, gR_uI, gR_uL, gR_uCI, gR_uCL, gI_uL, gI_uR, gI_uCL, gL_uI, gL_uR, gL_uCI, gz_uI, gz_uL, gz_uR, gz_uCI, gz_uCL, gs_uI, gs_uL, gs_uR, gs_uCI, gs_uCL, rI_at, rL_at, rR_at, rI_ne, rL_ne, rR_ne, rI_nk, rL_nk, rR_nk, rI_eq, rL_eq, rR_eq, Option.toList_some, Option.toList_none, List.cons_append, List.nil_append, List.append_nil, zc_eq, zc_lt, zc_le, zc_ge, zc_gt]
      all_goals exact hh _ _ _ _
theorem corner_out {x0_z y0 x1_z y1 : Int} {M0 : Mem} (h_z : ShMa M0 c) (h0 : 0 ≤ gI M0 c 12) (h1 : gI M0 c 12 < 35) (hm_z : ∀ i_z : Int, 0 ≤ i_z → i_z < 6 → NV (gL M0 (c + 42 + 3 * (gI M0 c 12).toNat + 1) i_z)) (v0_z : RV x0_z) (v1_z : RV y0) (v2 : RV x1_z) (v3 : RV y1)
    (hq : ∀ (M' : Mem) (z_z : Int), Ex (fun a_z => a_z = c + 21) M0 M' → cRow M' c (gL M0 (c + 42 + 3 * (gI M0 c 12).toNat + 1)) x0_z y0 x1_z y1 4 0 → ((z_z = 1 ∧ cOk (gL M0 (c + 42 + 3 * (gI M0 c 12).toNat + 1)) x0_z y0 x1_z y1 4 0) ∨ (z_z = 0 ∧ ¬ cOk (gL M0 (c + 42 + 3 * (gI M0 c 12).toNat + 1)) x0_z y0 x1_z y1 4 0)) → Q (some (a_i z_z)) M') : ∀ (n_z : Nat) (k_z z_z : Int) (u8 u11 u12 u13 u14 u15 u16 : AV) (M' : Mem), (4 - k_z).toNat = n_z → 0 ≤ k_z → k_z ≤ 4 → Ex (fun a_z => a_z = c + 21) M0 M' → cRow M' c (gL M0 (c + 42 + 3 * (gI M0 c 12).toNat + 1)) x0_z y0 x1_z y1 k_z 0 → ((z_z = 1 ∧ cOk (gL M0 (c + 42 + 3 * (gI M0 c 12).toNat + 1)) x0_z y0 x1_z y1 k_z 0) ∨ (z_z = 0 ∧ ¬ cOk (gL M0 (c + 42 + 3 * (gI M0 c 12).toNat + 1)) x0_z y0 x1_z y1 k_z 0)) → At G 105 6 [a_r c, a_l x0_z, a_u, a_l y0, a_u, a_l x1_z, a_u, a_l y1, u8, a_i z_z, a_i k_z, u11, u12, u13, u14, u15, u16] [] M' Q := by
  intro n_z
  induction n_z with
  | zero =>
    intro k_z z_z u8 u11 u12 u13 u14 u15 u16 M' hn k0_z k1_z hE hR hz
    have : k_z = 4 := by omega
    subst this
    have hh := hq M' z_z hE hR hz
    have hz2 : z_z = 0 ∨ z_z = 1 := by rcases hz with hz | hz <;> omega
    rw [B_105_6]
    simp (disch := omega) only [B_105_121, inI, inL, isT, kInt, kByt, true_and, and_true, an_t, im_t, im_f, or_true, true_or, true_imp_iff, false_imp_iff, not_true_eq_false, not_false_eq_true, gK_uI, gK_uL, gK_uR, gK_uCI, gK_uCL, gN_uI, gN_uL, gN_uR, gN_uCI, gN_uCL, gR_uI, gR_uL, gR_uCI, gR_uCL, gI_uL, gI_uR, gI_uCL, gL_uI, gL_uR, gL_uCI, gz_uI, gz_uL, gz_uR, gz_uCI, gz_uCL, gs_uI, gs_uL, gs_uR, gs_uCI, gs_uCL, rI_at, rL_at, rR_at, rI_ne, rL_ne, rR_ne, rI_nk, rL_nk, rR_nk, rI_eq, rL_eq, rR_eq, Option.toList_some, Option.toList_none, List.cons_append, List.nil_append, List.append_nil, zc_eq, zc_lt, zc_le, zc_ge, zc_gt]
    all_goals exact hh
  | succ n_z ih_z =>
    intro k_z z_z u8 u11 u12 u13 u14 u15 u16 M' hn k0_z k1_z hE hR hz
    have hin := fun u8 u12 u14 u16 => corner_in (Q := Q) (G := G) h_z h0 h1 hm_z v0_z v1_z v2 v3 k0_z (by omega) (fun M2_z w_z u8 u12 u14 u16 hE2 hR2 hw => by
      have hh := fun u8 u11 u12 u13 u14 u15 u16 => ih_z (k_z + 1) w_z u8 u11 u12 u13 u14 u15 u16 M2_z (by omega) (by omega) (by omega) hE2 (fun a_z b_z a0_z b0 b1 hab => hR2 a_z b_z a0_z b0 b1 (by omega)) (by
        rcases hw with ⟨w1_z, hw⟩ | ⟨w1_z, hw⟩
        · exact Or.inl ⟨w1_z, fun a_z b_z a0_z b0 b1 hab => hw a_z b_z a0_z b0 b1 (by omega)⟩
        · exact Or.inr ⟨w1_z, fun q_z => hw (fun a_z b_z a0_z b0 b1 hab => q_z a_z b_z a0_z b0 b1 (by omega))⟩)
      simp (disch := omega) only [B_105_115, inI, inL, isT, kInt, kByt, true_and, and_true, an_t, im_t, im_f, or_true, true_or, true_imp_iff, false_imp_iff, not_true_eq_false, not_false_eq_true, gK_uI, gK_uL, gK_uR, gK_uCI, gK_uCL, gN_uI, gN_uL, gN_uR, gN_uCI, gN_uCL, gR_uI, gR_uL, gR_uCI, gR_uCL, gI_uL, gI_uR, gI_uCL, gL_uI, gL_uR, gL_uCI, gz_uI, gz_uL, gz_uR, gz_uCI, gz_uCL, gs_uI, gs_uL, gs_uR, gs_uCI, gs_uCL, rI_at, rL_at, rR_at, rI_ne, rL_ne, rR_ne, rI_nk, rL_nk, rR_nk, rI_eq, rL_eq, rR_eq, Option.toList_some, Option.toList_none, List.cons_append, List.nil_append, List.append_nil, zc_eq, zc_lt, zc_le, zc_ge, zc_gt]
      all_goals exact hh _ _ _ _ _ _ _) 2 0 z_z u8 u12 u14 u16 M' rfl (by omega) (by omega) hE hR hz
    rw [B_105_6]
    by_cases c1_z : k_z = 1 ∨ k_z = 2
    · have e1_z : pX x0_z x1_z k_z = x1_z := if_pos c1_z
      rw [e1_z] at hin
      by_cases c2_z : k_z < 2
      · have e2_z : pY y0 y1 k_z = y0 := if_pos c2_z
        rw [e2_z] at hin
        simp (disch := omega) only [B_105_24, B_105_29, B_105_30, B_105_42, B_105_44, inI, inL, isT, kInt, kByt, true_and, and_true, an_t, im_t, im_f, or_true, true_or, true_imp_iff, false_imp_iff, not_true_eq_false, not_false_eq_true, gK_uI, gK_uL, gK_uR, gK_uCI, gK_uCL, gN_uI, gN_uL, gN_uR, gN_uCI, gN_uCL, gR_uI, gR_uL, gR_uCI, gR_uCL, gI_uL, gI_uR, gI_uCL, gL_uI, gL_uR, gL_uCI, gz_uI, gz_uL, gz_uR, gz_uCI, gz_uCL, gs_uI, gs_uL, gs_uR, gs_uCI, gs_uCL, rI_at, rL_at, rR_at, rI_ne, rL_ne, rR_ne, rI_nk, rL_nk, rR_nk, rI_eq, rL_eq, rR_eq, Option.toList_some, Option.toList_none, List.cons_append, List.nil_append, List.append_nil, zc_eq, zc_lt, zc_le, zc_ge, zc_gt]
        all_goals exact hin _ _ _ _
      · have e2_z : pY y0 y1 k_z = y1 := if_neg c2_z
        rw [e2_z] at hin
        simp (disch := omega) only [B_105_24, B_105_29, B_105_30, B_105_42, B_105_44, inI, inL, isT, kInt, kByt, true_and, and_true, an_t, im_t, im_f, or_true, true_or, true_imp_iff, false_imp_iff, not_true_eq_false, not_false_eq_true, gK_uI, gK_uL, gK_uR, gK_uCI, gK_uCL, gN_uI, gN_uL, gN_uR, gN_uCI, gN_uCL, gR_uI, gR_uL, gR_uCI, gR_uCL, gI_uL, gI_uR, gI_uCL, gL_uI, gL_uR, gL_uCI, gz_uI, gz_uL, gz_uR, gz_uCI, gz_uCL, gs_uI, gs_uL, gs_uR, gs_uCI, gs_uCL, rI_at, rL_at, rR_at, rI_ne, rL_ne, rR_ne, rI_nk, rL_nk, rR_nk, rI_eq, rL_eq, rR_eq, Option.toList_some, Option.toList_none, List.cons_append, List.nil_append, List.append_nil, zc_eq, zc_lt, zc_le, zc_ge, zc_gt]
        all_goals exact hin _ _ _ _
    · have e1_z : pX x0_z x1_z k_z = x0_z := if_neg c1_z
      rw [e1_z] at hin
      by_cases c2_z : k_z < 2
      · have e2_z : pY y0 y1 k_z = y0 := if_pos c2_z
        rw [e2_z] at hin
        simp (disch := omega) only [B_105_24, B_105_29, B_105_30, B_105_42, B_105_44, inI, inL, isT, kInt, kByt, true_and, and_true, an_t, im_t, im_f, or_true, true_or, true_imp_iff, false_imp_iff, not_true_eq_false, not_false_eq_true, gK_uI, gK_uL, gK_uR, gK_uCI, gK_uCL, gN_uI, gN_uL, gN_uR, gN_uCI, gN_uCL, gR_uI, gR_uL, gR_uCI, gR_uCL, gI_uL, gI_uR, gI_uCL, gL_uI, gL_uR, gL_uCI, gz_uI, gz_uL, gz_uR, gz_uCI, gz_uCL, gs_uI, gs_uL, gs_uR, gs_uCI, gs_uCL, rI_at, rL_at, rR_at, rI_ne, rL_ne, rR_ne, rI_nk, rL_nk, rR_nk, rI_eq, rL_eq, rR_eq, Option.toList_some, Option.toList_none, List.cons_append, List.nil_append, List.append_nil, zc_eq, zc_lt, zc_le, zc_ge, zc_gt]
        all_goals exact hin _ _ _ _
      · have e2_z : pY y0 y1 k_z = y1 := if_neg c2_z
        rw [e2_z] at hin
        simp (disch := omega) only [B_105_24, B_105_29, B_105_30, B_105_42, B_105_44, inI, inL, isT, kInt, kByt, true_and, and_true, an_t, im_t, im_f, or_true, true_or, true_imp_iff, false_imp_iff, not_true_eq_false, not_false_eq_true, gK_uI, gK_uL, gK_uR, gK_uCI, gK_uCL, gN_uI, gN_uL, gN_uR, gN_uCI, gN_uCL, gR_uI, gR_uL, gR_uCI, gR_uCL, gI_uL, gI_uR, gI_uCL, gL_uI, gL_uR, gL_uCI, gz_uI, gz_uL, gz_uR, gz_uCI, gz_uCL, gs_uI, gs_uL, gs_uR, gs_uCI, gs_uCL, rI_at, rL_at, rR_at, rI_ne, rL_ne, rR_ne, rI_nk, rL_nk, rR_nk, rI_eq, rL_eq, rR_eq, Option.toList_some, Option.toList_none, List.cons_append, List.nil_append, List.append_nil, zc_eq, zc_lt, zc_le, zc_ge, zc_gt]
        all_goals exact hin _ _ _ _
theorem X_setCorners {x0_z y0 x1_z y1 : Int} (h_z : ShMa M c) (h0 : 0 ≤ gI M c 12) (h1 : gI M c 12 < 35) (hm_z : ∀ i_z : Int, 0 ≤ i_z → i_z < 6 → NV (gL M (c + 42 + 3 * (gI M c 12).toNat + 1) i_z)) (v0_z : RV x0_z) (v1_z : RV y0) (v2 : RV x1_z) (v3 : RV y1)
    (hq : ∀ (M' : Mem) (z_z : Int), Ex (fun a_z => a_z = c + 21) M M' → (∀ k_z j_z : Int, 0 ≤ k_z → k_z < 4 → 0 ≤ j_z → j_z < 2 → gI M' (c + 21) (2 * k_z + j_z) = dv (gL M (c + 42 + 3 * (gI M c 12).toNat + 1)) (pX x0_z x1_z k_z) (pY y0 y1 k_z) j_z) → ((z_z = 1 ∧ rGood (gL M (c + 42 + 3 * (gI M c 12).toNat + 1)) x0_z y0 x1_z y1) ∨ (z_z = 0 ∧ ¬ rGood (gL M (c + 42 + 3 * (gI M c 12).toNat + 1)) x0_z y0 x1_z y1)) → Q (some (a_i z_z)) M') : Call G J_Ma_setCorners [a_r c, a_l x0_z, a_l y0, a_l x1_z, a_l y1] M Q := by
  rw [E_Ma_setCorners, B_105_0]
  refine corner_out h_z h0 h1 hm_z v0_z v1_z v2 v3 (fun M' z_z hE hR hz => hq M' z_z hE (fun k_z j_z k0_z k1_z j0 j1 => hR k_z j_z k0_z j0 j1 (Or.inl k1_z)) ?_) 4 0 1 _ _ _ _ _ _ _ M rfl (by decide) (by decide) (Ex.refl _ _) (fun a_z b_z a0_z b0 b1 hab => by omega) (Or.inl ⟨rfl, fun a_z b_z a0_z b0 b1 hab => by omega⟩)
  rcases hz with ⟨w1_z, hw⟩ | ⟨w1_z, hw⟩
  · exact Or.inl ⟨w1_z, fun k_z j_z k0_z k1_z j0 j1 => hw k_z j_z k0_z j0 j1 (Or.inl k1_z)⟩
  · exact Or.inr ⟨w1_z, fun q_z => hw (fun a_z b_z a0_z b0 b1 hab => q_z a_z b_z a0_z (by omega) b0 b1)⟩
end NA
