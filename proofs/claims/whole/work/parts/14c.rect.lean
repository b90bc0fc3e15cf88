/-! THE PURE PART, part 14: the model's rectangle. Own work. -/
section AD
variable {G : Env0} {Q : Option AV → Mem → Prop} {M T : Mem} {c s m r : Nat}
/-- what the corners leave -/
def CnO (T1 : Mem) (m : Nat) (mt_z : Int → Int) (x0_z y0 x1_z y1 : Int) : Prop := (gI T1 m 16 = 0 ∧ rGood mt_z x0_z y0 x1_z y1 ∧ ∀ k_z, 0 ≤ k_z → k_z < 4 → gI T1 (m + 27) k_z = dv mt_z (pX x0_z x1_z k_z) (pY y0 y1 k_z) 0 ∧ gI T1 (m + 28) k_z = dv mt_z (pX x0_z x1_z k_z) (pY y0 y1 k_z) 1) ∨ (gI T1 m 16 = 1 ∧ ¬ rGood mt_z x0_z y0 x1_z y1)
theorem X_tooR {d_z : Nat} {w_z v3 v2 v1_z v0_z n_z : Int} {mt_z : Int → Int} (hs : ShM T m) (hl : gI T m 36 = (d_z : Int)) (hw : gI T (m + 19) d_z = w_z) (l1 : d_z < 5) (w0_z : 4 ≤ w_z) (w1_z : w_z ≤ 16) (hf : gI T m 16 = 0) (hg : GV T m mt_z) (n3_z : NV v3) (n2_z : NV v2) (n1_z : NV v1_z) (n0_z : NV v0_z) (hn : gI T m 25 = n_z) (hn0 : 0 ≤ n_z) (hn1 : n_z ≤ 24) (ops : ∀ i_z, 0 ≤ i_z → i_z < 4 → gI T (m + 20) (16 * d_z + w_z - 1 - i_z) = fu (if i_z = 0 then v0_z else if i_z = 1 then v1_z else if i_z = 2 then v2 else v3) ∧ gI T (m + 21) (16 * d_z + w_z - 1 - i_z) = fd (if i_z = 0 then v0_z else if i_z = 1 then v1_z else if i_z = 2 then v2 else v3)) (h_z : ∀ T1, Sy T T1 m → CnO T1 m mt_z v3 v2 (fS v3 v1_z) (fS v2 v0_z) → (24 < n_z + 4 → Q (some (a_i 1)) T1) ∧ (¬ 24 < n_z + 4 → Q (some (a_i 0)) T1)) : Call G J_M_isTooMuch [a_r m, a_i 6] T Q := by
  have tp : ∀ k_z, tpM T m k_z = 16 * d_z + w_z - 1 - k_z := fun k_z => by
    unfold tpM
    rw [hl, hw]
  have TT : ∀ (j_z : Int) (qq : Option AV → Mem → Prop), (j_z = 2 ∨ j_z = 3) → (Call G J_M_top [a_r m, a_i j_z] T qq ↔ qq (some (a_i (16 * d_z + w_z - 1 - j_z))) T) := fun j_z qq a4 => X_topE hs hl hw (by omega) (by omega) (by omega) (by omega) (by omega) (by omega)
  have t3_z := fun qq => TT 3 qq (Or.inr rfl)
  have t2_z := fun qq => TT 2 qq (Or.inl rfl)
  obtain ⟨p0_z, q0⟩ := ops 0 (by decide) (by decide)
  obtain ⟨p1_z, q1_z⟩ := ops 1 (by decide) (by decide)
  obtain ⟨p2_z, q2_z⟩ := ops 2 (by decide) (by decide)
  obtain ⟨p3_z, q3_z⟩ := ops 3 (by decide) (by decide)
  rw [if_pos rfl] at p0_z q0
  rw [if_neg (by decide), if_pos rfl] at p1_z q1_z
  rw [if_neg (by decide), if_neg (by decide), if_pos rfl] at p2_z q2_z
  rw [if_neg (by decide), if_neg (by decide), if_neg (by decide)] at p3_z q3_z
  simp (disch := omega) only [E_M_isTooMuch, B_215_0, B_215_169, hs.u, t3_z, B_215_179, p3_z, B_215_189, q3_z, t2_z, B_215_199, p2_z, B_215_209, q2_z, inI, inL, isT, kInt, kByt, true_and, and_true, an_t, im_t, im_f, or_true, true_or, true_imp_iff, false_imp_iff, not_true_eq_false, not_false_eq_true, gK_uI, gK_uL, gK_uR, gK_uCI, gK_uCL, gN_uI, gN_uL, gN_uR, gN_uCI, gN_uCL, gR_uI, gR_uL, gR_uCI, gR_uCL, gI_uL, gI_uR, gI_uCL, gL_uI, gL_uR, gL_uCI, gz_uI, gz_uL, gz_uR, gz_uCI, gz_uCL, gs_uI, gs_uL, gs_uR, gs_uCI, gs_uCL, rI_at, rL_at, rR_at, rI_ne, rL_ne, rR_ne, rI_nk, rL_nk, rR_nk, rI_eq, rL_eq, rR_eq, Option.toList_some, Option.toList_none, List.cons_append, List.nil_append, List.append_nil, zc_eq, zc_lt, zc_le, zc_ge, zc_gt]
  refine X_corners (x0_z := v3) (y0 := v2) (w_z := v1_z) (hh := v0_z) (mt := mt_z) hs hg ⟨by omega, by omega, by rw [hl, hw]; omega, by rw [hl, hw]; omega⟩ (by rw [hl, hw]; exact w0_z) hf n3_z n2_z n1_z n0_z ⟨by rw [tp]; exact p1_z, by rw [tp]; exact q1_z⟩ ⟨by rw [tp]; exact p0_z, by rw [tp]; exact q0⟩ (fun T1 hy hc_z => ?_)
  have hs1 := hy.sh hs
  have e25_z : gI T1 m 25 = n_z := by rw [hy.fld (by decide)]; exact hn
  obtain ⟨r1_z, r0⟩ := h_z T1 hy hc_z
  by_cases cc : 24 < n_z + 4
  · have hh := r1_z cc
    simp (disch := omega) only [B_215_213, B_215_229, hs1.u, e25_z, inI, inL, isT, kInt, kByt, true_and, and_true, an_t, im_t, im_f, or_true, true_or, true_imp_iff, false_imp_iff, not_true_eq_false, not_false_eq_true, gK_uI, gK_uL, gK_uR, gK_uCI, gK_uCL, gN_uI, gN_uL, gN_uR, gN_uCI, gN_uCL, gR_uI, gR_uL, gR_uCI, gR_uCL, gI_uL, gI_uR, gI_uCL, gL_uI, gL_uR, gL_uCI, gz_uI, gz_uL, gz_uR, gz_uCI, gz_uCL, gs_uI, gs_uL, gs_uR, gs_uCI, gs_uCL, rI_at, rL_at, rR_at, rI_ne, rL_ne, rR_ne, rI_nk, rL_nk, rR_nk, rI_eq, rL_eq, rR_eq, Option.toList_some, Option.toList_none, List.cons_append, List.nil_append, List.append_nil, zc_eq, zc_lt, zc_le, zc_ge, zc_gt]
    all_goals exact hh
  · have hh := r0 cc
    simp (disch := omega) only [B_215_213, B_215_228, B_215_229, hs1.u, e25_z, inI, inL, isT, kInt, kByt, true_and, and_true, an_t, im_t, im_f, or_true, true_or, true_imp_iff, false_imp_iff, not_true_eq_false, not_false_eq_true, gK_uI, gK_uL, gK_uR, gK_uCI, gK_uCL, gN_uI, gN_uL, gN_uR, gN_uCI, gN_uCL, gR_uI, gR_uL, gR_uCI, gR_uCL, gI_uL, gI_uR, gI_uCL, gL_uI, gL_uR, gL_uCI, gz_uI, gz_uL, gz_uR, gz_uCI, gz_uCL, gs_uI, gs_uL, gs_uR, gs_uCI, gs_uCL, rI_at, rL_at, rR_at, rI_ne, rL_ne, rR_ne, rI_nk, rL_nk, rR_nk, rI_eq, rL_eq, rR_eq, Option.toList_some, Option.toList_none, List.cons_append, List.nil_append, List.append_nil, zc_eq, zc_lt, zc_le, zc_ge, zc_gt]
    all_goals exact hh
theorem X_doesV6 {d_z : Nat} {w_z p_z q_z : Int} (hs : ShM T m) (hl : gI T m 36 = (d_z : Int)) (hw : gI T (m + 19) d_z = w_z) (l1 : d_z < 5) (w0_z : 4 ≤ w_z) (w1_z : w_z ≤ 16) (hp : gI T m 25 = p_z) (hq : gI T m 26 = q_z) (p0_z : 0 ≤ p_z) (p1_z : p_z + 4 ≤ 28) (q0 : 0 ≤ q_z) (q1_z : q_z < 28) (h_z : ∀ M', Ex (fun r => r = m ∨ r = m + 8 ∨ r = m + 9 ∨ r = m + 10) (uI T (m + 19) d_z (w_z - 4)) M' → (∀ j_z, j_z ≠ 25 → j_z ≠ 26 → gI M' m j_z = gI T m j_z) → gI M' m 25 = p_z + 4 → gI M' m 26 = q_z + 1 → gI M' (m + 8) = rc (gI T (m + 8)) p_z (gI T (m + 27)) 0 4 → gI M' (m + 9) = rc (gI T (m + 9)) p_z (gI T (m + 28)) 0 4 → gI M' (m + 10) = upf (gI T (m + 10)) q_z p_z → Q none M') : Call G J_M_does [a_r m, a_i 6] T Q := by
  have n17 := fun qq => X_needed (G := G) (T := T) (Q := qq) (k_z := 6) (by omega) (by omega)
  rw [show need 6 = 4 from by decide] at n17
  have hs3 : ShM (uI T (m + 19) d_z (w_z - 4)) m := hs
  have ne : ∀ a_z, a_z ≠ m + 19 → gI (uI T (m + 19) d_z (w_z - 4)) a_z = gI T a_z := fun a_z n0_z => rI_ne n0_z
  have pu : Call G J_M_addsCorners [a_r m] (uI T (m + 19) d_z (w_z - 4)) (fun r M2_z => At G 228 280 [a_r m, a_i 6, a_i 4, a_i 0, a_i 0, a_u] r.toList M2_z Q) := by
    refine X_addsCorners hs3 (by rw [ne _ (by omega)]; exact hp) (by rw [ne _ (by omega)]; exact hq) p0_z p1_z q0 q1_z (fun M' hE hj h25 h26 h8 h9 h10 => ?_)
    rw [ne _ (by omega), ne _ (by omega)] at h8 h9
    rw [ne _ (by omega)] at h10
    have hh := h_z M' hE (fun j_z j0 j1 => by rw [hj j_z j0 j1, ne _ (by omega)]) h25 h26 h8 h9 h10
    simp (disch := omega) only [B_228_280, B_228_353, inI, inL, isT, kInt, kByt, true_and, and_true, an_t, im_t, im_f, or_true, true_or, true_imp_iff, false_imp_iff, not_true_eq_false, not_false_eq_true, gK_uI, gK_uL, gK_uR, gK_uCI, gK_uCL, gN_uI, gN_uL, gN_uR, gN_uCI, gN_uCL, gR_uI, gR_uL, gR_uCI, gR_uCL, gI_uL, gI_uR, gI_uCL, gL_uI, gL_uR, gL_uCI, gz_uI, gz_uL, gz_uR, gz_uCI, gz_uCL, gs_uI, gs_uL, gs_uR, gs_uCI, gs_uCL, rI_at, rL_at, rR_at, rI_ne, rL_ne, rR_ne, rI_nk, rL_nk, rR_nk, rI_eq, rL_eq, rR_eq, Option.toList_some, Option.toList_none, List.cons_append, List.nil_append, List.append_nil, zc_eq, zc_lt, zc_le, zc_ge, zc_gt]
    all_goals exact hh
  simp (disch := omega) only [E_M_does, B_228_0, n17, B_228_4, B_228_23, hs.u, B_228_24, B_228_54, B_228_55, Y_inF (x_z := 6) (y_z := 16) (w_z := 18) (by omega), B_228_65, B_228_74, B_228_276, hl, hw, inI, inL, isT, kInt, kByt, true_and, and_true, an_t, im_t, im_f, or_true, true_or, true_imp_iff, false_imp_iff, not_true_eq_false, not_false_eq_true, gK_uI, gK_uL, gK_uR, gK_uCI, gK_uCL, gN_uI, gN_uL, gN_uR, gN_uCI, gN_uCL, gR_uI, gR_uL, gR_uCI, gR_uCL, gI_uL, gI_uR, gI_uCL, gL_uI, gL_uR, gL_uCI, gz_uI, gz_uL, gz_uR, gz_uCI, gz_uCL, gs_uI, gs_uL, gs_uR, gs_uCI, gs_uCL, rI_at, rL_at, rR_at, rI_ne, rL_ne, rR_ne, rI_nk, rL_nk, rR_nk, rI_eq, rL_eq, rR_eq, Option.toList_some, Option.toList_none, List.cons_append, List.nil_append, List.append_nil, zc_eq, zc_lt, zc_le, zc_ge, zc_gt]
  all_goals exact pu
end AD
