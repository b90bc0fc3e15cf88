/-! THE PURE PART, part 17: item, point, both sides. Own work. -/
section DJ
variable {G : Env0} {Q : Option AV → Mem → Prop} {M T : Mem} {c m b r : Nat}
/-- the parts of an item -/
theorem it_path {i_z : Int} (rs : RsR M T c m) (i0_z : 0 ≤ i_z) (i1_z : i_z < gI M (c + 3) 8) : PthR M T c m (gI M (c + 10) i_z) (gI T (m + 16) (12 * i_z + 2)) := (rs.2.1.2.2.2 i_z i0_z i1_z).2.2.2.2.1
/-- what the class says of an item -/
theorem X_prop {i_z w_z : Int} {W_z H_z s_z : Nat} (sh_z : ShMa M c) (rs : RsR M T c m) (i0_z : 0 ≤ i_z) (i1_z : i_z < gI M (c + 3) 8) (w0_z : 0 ≤ w_z) (w1_z : w_z ≤ 8) (sS : ShSa M s_z) (hw : gI M s_z 4 = (W_z : Int)) (hh : gI M s_z 5 = (H_z : Int)) (hW : W_z ≤ 24) (hH : H_z ≤ 24)
    (h0 : w_z = 0 → Q (some (a_i (gI M (c + 12) i_z))) M) (h1 : w_z = 1 → Q (some (a_i (gI M (c + 11) i_z))) M) (h2 : w_z = 2 → Q (some (a_i (gI T (m + 15) (gI T (m + 16) (12 * i_z + 2))))) M) (h3 : w_z = 3 → Q (some (a_i (npI M c i_z))) M) (h4 : w_z = 4 → Q (some (a_i (gI M (c + 15) i_z))) M) (h5 : w_z = 5 → Q (some (a_i (gI M (c + 13) i_z))) M) (h6 : w_z = 6 → Q (some (a_i (gI M (c + 14) i_z))) M) (h7 : w_z = 7 → Q (some (a_i (gsm (fCov M c i_z) W_z (W_z * H_z)))) M) (h8 : w_z = 8 → Q (some (a_i (gsm (fChg M c i_z) W_z (W_z * H_z)))) M) : Call G J_It_findProperty [a_r (c + 3), a_i i_z, a_i w_z, a_r s_z] M Q := by
  have sI : ShIt M (c + 3) (c + 4) := sh_z.2.2.1
  have sP : ShPa M (c + 4) := sh_z.2.1
  have t1_z := rs.2.1.2.2.1
  have hs := fun qq => X_hasT (G := G) (Q := qq) sI i0_z i1_z t1_z
  have hp := it_path rs i0_z i1_z
  have o1 := (rs.2.1.2.2.2 i_z i0_z i1_z).2.2.2.1
  have a8 : w_z = 0 ∨ w_z = 1 ∨ w_z = 2 ∨ w_z = 3 ∨ w_z = 4 ∨ w_z = 5 ∨ w_z = 6 ∨ w_z = 7 ∨ w_z = 8 := by omega
  rcases a8 with e_z | e_z | e_z | e_z | e_z | e_z | e_z | e_z | e_z <;> subst e_z
  · have hq := h0 rfl
    clear h0 h1 h2 h3 h4 h5 h6 h7 h8
    simp (disch := omega) only [E_It_findProperty, B_156_0, sI.u, hs, B_156_5, B_156_11, B_156_60, inI, inL, isT, kInt, kByt, true_and, and_true, an_t, im_t, im_f, or_true, true_or, true_imp_iff, false_imp_iff, not_true_eq_false, not_false_eq_true, gK_uI, gK_uL, gK_uR, gK_uCI, gK_uCL, gN_uI, gN_uL, gN_uR, gN_uCI, gN_uCL, gR_uI, gR_uL, gR_uCI, gR_uCL, gI_uL, gI_uR, gI_uCL, gL_uI, gL_uR, gL_uCI, gz_uI, gz_uL, gz_uR, gz_uCI, gz_uCL, gs_uI, gs_uL, gs_uR, gs_uCI, gs_uCL, rI_at, rL_at, rR_at, rI_ne, rL_ne, rR_ne, rI_nk, rL_nk, rR_nk, rI_eq, rL_eq, rR_eq, Option.toList_some, Option.toList_none, List.cons_append, List.nil_append, List.append_nil, zc_eq, zc_lt, zc_le, zc_ge, zc_gt]
    all_goals exact hq
  · have hq := h1 rfl
    clear h0 h1 h2 h3 h4 h5 h6 h7 h8
    rcases o1 with o | o <;> (rw [o] at hq; have e_z : gI M (c + 3 + 8) i_z = _ := o)
    · simp (disch := omega) only [E_It_findProperty, B_156_0, sI.u, hs, B_156_5, B_156_11, B_156_67, e_z, B_156_80, B_156_81, inI, inL, isT, kInt, kByt, true_and, and_true, an_t, im_t, im_f, or_true, true_or, true_imp_iff, false_imp_iff, not_true_eq_false, not_false_eq_true, gK_uI, gK_uL, gK_uR, gK_uCI, gK_uCL, gN_uI, gN_uL, gN_uR, gN_uCI, gN_uCL, gR_uI, gR_uL, gR_uCI, gR_uCL, gI_uL, gI_uR, gI_uCL, gL_uI, gL_uR, gL_uCI, gz_uI, gz_uL, gz_uR, gz_uCI, gz_uCL, gs_uI, gs_uL, gs_uR, gs_uCI, gs_uCL, rI_at, rL_at, rR_at, rI_ne, rL_ne, rR_ne, rI_nk, rL_nk, rR_nk, rI_eq, rL_eq, rR_eq, Option.toList_some, Option.toList_none, List.cons_append, List.nil_append, List.append_nil, zc_eq, zc_lt, zc_le, zc_ge, zc_gt]
      all_goals exact hq
    · simp (disch := omega) only [E_It_findProperty, B_156_0, sI.u, hs, B_156_5, B_156_11, B_156_67, e_z, B_156_81, inI, inL, isT, kInt, kByt, true_and, and_true, an_t, im_t, im_f, or_true, true_or, true_imp_iff, false_imp_iff, not_true_eq_false, not_false_eq_true, gK_uI, gK_uL, gK_uR, gK_uCI, gK_uCL, gN_uI, gN_uL, gN_uR, gN_uCI, gN_uCL, gR_uI, gR_uL, gR_uCI, gR_uCL, gI_uL, gI_uR, gI_uCL, gL_uI, gL_uR, gL_uCI, gz_uI, gz_uL, gz_uR, gz_uCI, gz_uCL, gs_uI, gs_uL, gs_uR, gs_uCI, gs_uCL, rI_at, rL_at, rR_at, rI_ne, rL_ne, rR_ne, rI_nk, rL_nk, rR_nk, rI_eq, rL_eq, rR_eq, Option.toList_some, Option.toList_none, List.cons_append, List.nil_append, List.append_nil, zc_eq, zc_lt, zc_le, zc_ge, zc_gt]
      all_goals exact hq
  · have hq := h2 rfl
    clear h0 h1 h2 h3 h4 h5 h6 h7 h8
    have go_z : Call G J_Pa_countParts [a_r (c + 4), a_i (gI M (c + 10) i_z)] M (fun r M2_z => At G 156 95 [a_r (c + 3), a_i i_z, a_i 2, a_r s_z] r.toList M2_z Q) := by
      obtain ⟨-, -, -, -, -, -, -, -, ⟨-, -, hE, hL, h33⟩, -⟩ := rs
      have hp2 := hp
      obtain ⟨p0_z, p1_z, q0, q1_z, a0_z, a1_z, a2, a3⟩ := hp2
      refine X_parts (a_z := gI M (c + 8) (gI M (c + 10) i_z)) (n_z := gI M (c + 8) (gI M (c + 10) i_z + 1) - gI M (c + 8) (gI M (c + 10) i_z)) sP p0_z p1_z hE rfl ?_ a0_z.1 (by omega) (by omega) (fun i_z _ _ => rfl) (fun j_z j0 j1 => ((pth_pol hp).2.2 j_z j0 j1).2.2) a3.2.2.2 ?_
      · show gI M (c + 8) (gI M (c + 10) i_z + 1) = _
        omega
      · simp (disch := omega) only [B_156_95, inI, inL, isT, kInt, kByt, true_and, and_true, an_t, im_t, im_f, or_true, true_or, true_imp_iff, false_imp_iff, not_true_eq_false, not_false_eq_true, gK_uI, gK_uL, gK_uR, gK_uCI, gK_uCL, gN_uI, gN_uL, gN_uR, gN_uCI, gN_uCL, gR_uI, gR_uL, gR_uCI, gR_uCL, gI_uL, gI_uR, gI_uCL, gL_uI, gL_uR, gL_uCI, gz_uI, gz_uL, gz_uR, gz_uCI, gz_uCL, gs_uI, gs_uL, gs_uR, gs_uCI, gs_uCL, rI_at, rL_at, rR_at, rI_ne, rL_ne, rR_ne, rI_nk, rL_nk, rR_nk, rI_eq, rL_eq, rR_eq, Option.toList_some, Option.toList_none, List.cons_append, List.nil_append, List.append_nil, zc_eq, zc_lt, zc_le, zc_ge, zc_gt]
        all_goals exact hq
    simp (disch := omega) only [E_It_findProperty, B_156_0, sI.u, hs, B_156_5, B_156_11, B_156_82, sP.u, inI, inL, isT, kInt, kByt, true_and, and_true, an_t, im_t, im_f, or_true, true_or, true_imp_iff, false_imp_iff, not_true_eq_false, not_false_eq_true, gK_uI, gK_uL, gK_uR, gK_uCI, gK_uCL, gN_uI, gN_uL, gN_uR, gN_uCI, gN_uCL, gR_uI, gR_uL, gR_uCI, gR_uCL, gI_uL, gI_uR, gI_uCL, gL_uI, gL_uR, gL_uCI, gz_uI, gz_uL, gz_uR, gz_uCI, gz_uCL, gs_uI, gs_uL, gs_uR, gs_uCI, gs_uCL, rI_at, rL_at, rR_at, rI_ne, rL_ne, rR_ne, rI_nk, rL_nk, rR_nk, rI_eq, rL_eq, rR_eq, Option.toList_some, Option.toList_none, List.cons_append, List.nil_append, List.append_nil, zc_eq, zc_lt, zc_le, zc_ge, zc_gt]
    all_goals exact go_z
  · have hq := h3 rfl
    clear h0 h1 h2 h3 h4 h5 h6 h7 h8
    have pt := fun qq => X_points (G := G) (Q := qq) sh_z rs i0_z i1_z
    simp (disch := omega) only [E_It_findProperty, B_156_0, sI.u, hs, B_156_5, B_156_11, B_156_96, pt, B_156_101, inI, inL, isT, kInt, kByt, true_and, and_true, an_t, im_t, im_f, or_true, true_or, true_imp_iff, false_imp_iff, not_true_eq_false, not_false_eq_true, gK_uI, gK_uL, gK_uR, gK_uCI, gK_uCL, gN_uI, gN_uL, gN_uR, gN_uCI, gN_uCL, gR_uI, gR_uL, gR_uCI, gR_uCL, gI_uL, gI_uR, gI_uCL, gL_uI, gL_uR, gL_uCI, gz_uI, gz_uL, gz_uR, gz_uCI, gz_uCL, gs_uI, gs_uL, gs_uR, gs_uCI, gs_uCL, rI_at, rL_at, rR_at, rI_ne, rL_ne, rR_ne, rI_nk, rL_nk, rR_nk, rI_eq, rL_eq, rR_eq, Option.toList_some, Option.toList_none, List.cons_append, List.nil_append, List.append_nil, zc_eq, zc_lt, zc_le, zc_ge, zc_gt]
    all_goals exact hq
  · have hq := h4 rfl
    clear h0 h1 h2 h3 h4 h5 h6 h7 h8
    simp (disch := omega) only [E_It_findProperty, B_156_0, sI.u, hs, B_156_5, B_156_11, B_156_102, inI, inL, isT, kInt, kByt, true_and, and_true, an_t, im_t, im_f, or_true, true_or, true_imp_iff, false_imp_iff, not_true_eq_false, not_false_eq_true, gK_uI, gK_uL, gK_uR, gK_uCI, gK_uCL, gN_uI, gN_uL, gN_uR, gN_uCI, gN_uCL, gR_uI, gR_uL, gR_uCI, gR_uCL, gI_uL, gI_uR, gI_uCL, gL_uI, gL_uR, gL_uCI, gz_uI, gz_uL, gz_uR, gz_uCI, gz_uCL, gs_uI, gs_uL, gs_uR, gs_uCI, gs_uCL, rI_at, rL_at, rR_at, rI_ne, rL_ne, rR_ne, rI_nk, rL_nk, rR_nk, rI_eq, rL_eq, rR_eq, Option.toList_some, Option.toList_none, List.cons_append, List.nil_append, List.append_nil, zc_eq, zc_lt, zc_le, zc_ge, zc_gt]
    all_goals exact hq
  · have hq := h5 rfl
    clear h0 h1 h2 h3 h4 h5 h6 h7 h8
    simp (disch := omega) only [E_It_findProperty, B_156_0, sI.u, hs, B_156_5, B_156_11, B_156_109, inI, inL, isT, kInt, kByt, true_and, and_true, an_t, im_t, im_f, or_true, true_or, true_imp_iff, false_imp_iff, not_true_eq_false, not_false_eq_true, gK_uI, gK_uL, gK_uR, gK_uCI, gK_uCL, gN_uI, gN_uL, gN_uR, gN_uCI, gN_uCL, gR_uI, gR_uL, gR_uCI, gR_uCL, gI_uL, gI_uR, gI_uCL, gL_uI, gL_uR, gL_uCI, gz_uI, gz_uL, gz_uR, gz_uCI, gz_uCL, gs_uI, gs_uL, gs_uR, gs_uCI, gs_uCL, rI_at, rL_at, rR_at, rI_ne, rL_ne, rR_ne, rI_nk, rL_nk, rR_nk, rI_eq, rL_eq, rR_eq, Option.toList_some, Option.toList_none, List.cons_append, List.nil_append, List.append_nil, zc_eq, zc_lt, zc_le, zc_ge, zc_gt]
    all_goals exact hq
  · have hq := h6 rfl
    clear h0 h1 h2 h3 h4 h5 h6 h7 h8
    simp (disch := omega) only [E_It_findProperty, B_156_0, sI.u, hs, B_156_5, B_156_11, B_156_116, inI, inL, isT, kInt, kByt, true_and, and_true, an_t, im_t, im_f, or_true, true_or, true_imp_iff, false_imp_iff, not_true_eq_false, not_false_eq_true, gK_uI, gK_uL, gK_uR, gK_uCI, gK_uCL, gN_uI, gN_uL, gN_uR, gN_uCI, gN_uCL, gR_uI, gR_uL, gR_uCI, gR_uCL, gI_uL, gI_uR, gI_uCL, gL_uI, gL_uR, gL_uCI, gz_uI, gz_uL, gz_uR, gz_uCI, gz_uCL, gs_uI, gs_uL, gs_uR, gs_uCI, gs_uCL, rI_at, rL_at, rR_at, rI_ne, rL_ne, rR_ne, rI_nk, rL_nk, rR_nk, rI_eq, rL_eq, rR_eq, Option.toList_some, Option.toList_none, List.cons_append, List.nil_append, List.append_nil, zc_eq, zc_lt, zc_le, zc_ge, zc_gt]
    all_goals exact hq
  · have hq := h7 rfl
    clear h0 h1 h2 h3 h4 h5 h6 h7 h8
    have go_z : Call G J_It_countCovered [a_r (c + 3), a_i i_z, a_r s_z] M (fun r M2_z => At G 156 129 [a_r (c + 3), a_i i_z, a_i 7, a_r s_z] r.toList M2_z Q) := by
      refine X_cntCov (T := T) (m := m) sh_z rs i0_z i1_z sS hw hh hW hH ?_
      simp (disch := omega) only [B_156_129, inI, inL, isT, kInt, kByt, true_and, and_true, an_t, im_t, im_f, or_true, true_or, true_imp_iff, false_imp_iff, not_true_eq_false, not_false_eq_true, gK_uI, gK_uL, gK_uR, gK_uCI, gK_uCL, gN_uI, gN_uL, gN_uR, gN_uCI, gN_uCL, gR_uI, gR_uL, gR_uCI, gR_uCL, gI_uL, gI_uR, gI_uCL, gL_uI, gL_uR, gL_uCI, gz_uI, gz_uL, gz_uR, gz_uCI, gz_uCL, gs_uI, gs_uL, gs_uR, gs_uCI, gs_uCL, rI_at, rL_at, rR_at, rI_ne, rL_ne, rR_ne, rI_nk, rL_nk, rR_nk, rI_eq, rL_eq, rR_eq, Option.toList_some, Option.toList_none, List.cons_append, List.nil_append, List.append_nil, zc_eq, zc_lt, zc_le, zc_ge, zc_gt]
      all_goals exact hq
    simp (disch := omega) only [E_It_findProperty, B_156_0, sI.u, hs, B_156_5, B_156_11, B_156_123, inI, inL, isT, kInt, kByt, true_and, and_true, an_t, im_t, im_f, or_true, true_or, true_imp_iff, false_imp_iff, not_true_eq_false, not_false_eq_true, gK_uI, gK_uL, gK_uR, gK_uCI, gK_uCL, gN_uI, gN_uL, gN_uR, gN_uCI, gN_uCL, gR_uI, gR_uL, gR_uCI, gR_uCL, gI_uL, gI_uR, gI_uCL, gL_uI, gL_uR, gL_uCI, gz_uI, gz_uL, gz_uR, gz_uCI, gz_uCL, gs_uI, gs_uL, gs_uR, gs_uCI, gs_uCL, rI_at, rL_at, rR_at, rI_ne, rL_ne, rR_ne, rI_nk, rL_nk, rR_nk, rI_eq, rL_eq, rR_eq, Option.toList_some, Option.toList_none, List.cons_append, List.nil_append, List.append_nil, zc_eq, zc_lt, zc_le, zc_ge, zc_gt]
    all_goals exact go_z
  · have hq := h8 rfl
    clear h0 h1 h2 h3 h4 h5 h6 h7 h8
    have go_z : Call G J_It_countChanged [a_r (c + 3), a_i i_z, a_r s_z] M (fun r M2_z => At G 156 136 [a_r (c + 3), a_i i_z, a_i 8, a_r s_z] r.toList M2_z Q) := by
      refine X_cntChg (T := T) (m := m) sh_z rs i0_z i1_z sS hw hh hW hH ?_
      simp (disch := omega) only [B_156_136, inI, inL, isT, kInt, kByt, true_and, and_true, an_t, im_t, im_f, or_true, true_or, true_imp_iff, false_imp_iff, not_true_eq_false, not_false_eq_true, gK_uI, gK_uL, gK_uR, gK_uCI, gK_uCL, gN_uI, gN_uL, gN_uR, gN_uCI, gN_uCL, gR_uI, gR_uL, gR_uCI, gR_uCL, gI_uL, gI_uR, gI_uCL, gL_uI, gL_uR, gL_uCI, gz_uI, gz_uL, gz_uR, gz_uCI, gz_uCL, gs_uI, gs_uL, gs_uR, gs_uCI, gs_uCL, rI_at, rL_at, rR_at, rI_ne, rL_ne, rR_ne, rI_nk, rL_nk, rR_nk, rI_eq, rL_eq, rR_eq, Option.toList_some, Option.toList_none, List.cons_append, List.nil_append, List.append_nil, zc_eq, zc_lt, zc_le, zc_ge, zc_gt]
      all_goals exact hq
    simp (disch := omega) only [E_It_findProperty, B_156_0, sI.u, hs, B_156_5, B_156_11, B_156_130, inI, inL, isT, kInt, kByt, true_and, and_true, an_t, im_t, im_f, or_true, true_or, true_imp_iff, false_imp_iff, not_true_eq_false, not_false_eq_true, gK_uI, gK_uL, gK_uR, gK_uCI, gK_uCL, gN_uI, gN_uL, gN_uR, gN_uCI, gN_uCL, gR_uI, gR_uL, gR_uCI, gR_uCL, gI_uL, gI_uR, gI_uCL, gL_uI, gL_uR, gL_uCI, gz_uI, gz_uL, gz_uR, gz_uCI, gz_uCL, gs_uI, gs_uL, gs_uR, gs_uCI, gs_uCL, rI_at, rL_at, rR_at, rI_ne, rL_ne, rR_ne, rI_nk, rL_nk, rR_nk, rI_eq, rL_eq, rR_eq, Option.toList_some, Option.toList_none, List.cons_append, List.nil_append, List.append_nil, zc_eq, zc_lt, zc_le, zc_ge, zc_gt]
    all_goals exact go_z
/-- what the model says of an item -/
theorem X_mProp {i_z w_z no_z : Int} {W_z H_z : Nat} (sm_z : ShM T m) (rs : RsR M T c m) (i0_z : 0 ≤ i_z) (i1_z : i_z < gI M (c + 3) 8) (w0_z : 0 ≤ w_z) (w1_z : w_z ≤ 8) (hw : gI T (m + 1) 1213 = (W_z : Int)) (hh : gI T (m + 1) 1214 = (H_z : Int)) (hW : W_z ≤ 24) (hH : H_z ≤ 24)
    (h0 : w_z = 0 → Q (some (a_i (gI M (c + 12) i_z))) T) (h1 : w_z = 1 → Q (some (a_i (gI M (c + 11) i_z))) T) (h2 : w_z = 2 → Q (some (a_i (gI T (m + 15) (gI T (m + 16) (12 * i_z + 2))))) T) (h3 : w_z = 3 → Q (some (a_i (npI M c i_z))) T) (h4 : w_z = 4 → Q (some (a_i (gI M (c + 15) i_z))) T) (h5 : w_z = 5 → Q (some (a_i (gI M (c + 13) i_z))) T) (h6 : w_z = 6 → Q (some (a_i (gI M (c + 14) i_z))) T) (h7 : w_z = 7 → Q (some (a_i (gsm (fCov M c i_z) W_z (W_z * H_z)))) T) (h8 : w_z = 8 → Q (some (a_i (gsm (fChg M c i_z) W_z (W_z * H_z)))) T) : At G 253 19 [a_r m, a_i i_z, a_i w_z, a_i no_z, a_u] [] T Q := by
  obtain ⟨-, ⟨-, t0_z, t1_z, it⟩, -, -, -, -, -, -, ⟨-, -, hE, hL, h33⟩, -⟩ := id rs
  obtain ⟨e0_z, -, e1_z, -, hp, e3_z, e4_z, e5_z, -, -, -⟩ := it i_z i0_z i1_z
  clear it
  have q0 := hp.2.2.1
  have q1_z := hp.2.2.2.1
  have e14_z := hp.2.2.2.2.2.2.1
  have a8 : w_z = 0 ∨ w_z = 1 ∨ w_z = 2 ∨ w_z = 3 ∨ w_z = 4 ∨ w_z = 5 ∨ w_z = 6 ∨ w_z = 7 ∨ w_z = 8 := by omega
  rcases a8 with e_z | e_z | e_z | e_z | e_z | e_z | e_z | e_z | e_z <;> subst e_z
  · have hq := h0 rfl
    clear h0 h1 h2 h3 h4 h5 h6 h7 h8
    rw [e0_z, show 12 * i_z = 12 * i_z + 0 from by omega] at hq
    simp (disch := omega) only [B_253_19, B_253_72, sm_z.u, inI, inL, isT, kInt, kByt, true_and, and_true, an_t, im_t, im_f, or_true, true_or, true_imp_iff, false_imp_iff, not_true_eq_false, not_false_eq_true, gK_uI, gK_uL, gK_uR, gK_uCI, gK_uCL, gN_uI, gN_uL, gN_uR, gN_uCI, gN_uCL, gR_uI, gR_uL, gR_uCI, gR_uCL, gI_uL, gI_uR, gI_uCL, gL_uI, gL_uR, gL_uCI, gz_uI, gz_uL, gz_uR, gz_uCI, gz_uCL, gs_uI, gs_uL, gs_uR, gs_uCI, gs_uCL, rI_at, rL_at, rR_at, rI_ne, rL_ne, rR_ne, rI_nk, rL_nk, rR_nk, rI_eq, rL_eq, rR_eq, Option.toList_some, Option.toList_none, List.cons_append, List.nil_append, List.append_nil, zc_eq, zc_lt, zc_le, zc_ge, zc_gt]
    all_goals exact hq
  · have hq := h1 rfl
    clear h0 h1 h2 h3 h4 h5 h6 h7 h8
    rw [e1_z] at hq
    simp (disch := omega) only [B_253_19, B_253_72, sm_z.u, inI, inL, isT, kInt, kByt, true_and, and_true, an_t, im_t, im_f, or_true, true_or, true_imp_iff, false_imp_iff, not_true_eq_false, not_false_eq_true, gK_uI, gK_uL, gK_uR, gK_uCI, gK_uCL, gN_uI, gN_uL, gN_uR, gN_uCI, gN_uCL, gR_uI, gR_uL, gR_uCI, gR_uCL, gI_uL, gI_uR, gI_uCL, gL_uI, gL_uR, gL_uCI, gz_uI, gz_uL, gz_uR, gz_uCI, gz_uCL, gs_uI, gs_uL, gs_uR, gs_uCI, gs_uCL, rI_at, rL_at, rR_at, rI_ne, rL_ne, rR_ne, rI_nk, rL_nk, rR_nk, rI_eq, rL_eq, rR_eq, Option.toList_some, Option.toList_none, List.cons_append, List.nil_append, List.append_nil, zc_eq, zc_lt, zc_le, zc_ge, zc_gt]
    all_goals exact hq
  · have hq := h2 rfl
    clear h0 h1 h2 h3 h4 h5 h6 h7 h8
    simp (disch := omega) only [B_253_19, B_253_82, sm_z.u, inI, inL, isT, kInt, kByt, true_and, and_true, an_t, im_t, im_f, or_true, true_or, true_imp_iff, false_imp_iff, not_true_eq_false, not_false_eq_true, gK_uI, gK_uL, gK_uR, gK_uCI, gK_uCL, gN_uI, gN_uL, gN_uR, gN_uCI, gN_uCL, gR_uI, gR_uL, gR_uCI, gR_uCL, gI_uL, gI_uR, gI_uCL, gL_uI, gL_uR, gL_uCI, gz_uI, gz_uL, gz_uR, gz_uCI, gz_uCL, gs_uI, gs_uL, gs_uR, gs_uCI, gs_uCL, rI_at, rL_at, rR_at, rI_ne, rL_ne, rR_ne, rI_nk, rL_nk, rR_nk, rI_eq, rL_eq, rR_eq, Option.toList_some, Option.toList_none, List.cons_append, List.nil_append, List.append_nil, zc_eq, zc_lt, zc_le, zc_ge, zc_gt]
    all_goals exact hq
  · have hq := h3 rfl
    clear h0 h1 h2 h3 h4 h5 h6 h7 h8
    unfold npI at hq
    rw [← e14_z] at hq
    simp (disch := omega) only [B_253_19, B_253_97, sm_z.u, inI, inL, isT, kInt, kByt, true_and, and_true, an_t, im_t, im_f, or_true, true_or, true_imp_iff, false_imp_iff, not_true_eq_false, not_false_eq_true, gK_uI, gK_uL, gK_uR, gK_uCI, gK_uCL, gN_uI, gN_uL, gN_uR, gN_uCI, gN_uCL, gR_uI, gR_uL, gR_uCI, gR_uCL, gI_uL, gI_uR, gI_uCL, gL_uI, gL_uR, gL_uCI, gz_uI, gz_uL, gz_uR, gz_uCI, gz_uCL, gs_uI, gs_uL, gs_uR, gs_uCI, gs_uCL, rI_at, rL_at, rR_at, rI_ne, rL_ne, rR_ne, rI_nk, rL_nk, rR_nk, rI_eq, rL_eq, rR_eq, Option.toList_some, Option.toList_none, List.cons_append, List.nil_append, List.append_nil, zc_eq, zc_lt, zc_le, zc_ge, zc_gt]
    all_goals exact hq
  · have hq := h4 rfl
    clear h0 h1 h2 h3 h4 h5 h6 h7 h8
    rw [e5_z] at hq
    simp (disch := omega) only [B_253_19, B_253_112, sm_z.u, inI, inL, isT, kInt, kByt, true_and, and_true, an_t, im_t, im_f, or_true, true_or, true_imp_iff, false_imp_iff, not_true_eq_false, not_false_eq_true, gK_uI, gK_uL, gK_uR, gK_uCI, gK_uCL, gN_uI, gN_uL, gN_uR, gN_uCI, gN_uCL, gR_uI, gR_uL, gR_uCI, gR_uCL, gI_uL, gI_uR, gI_uCL, gL_uI, gL_uR, gL_uCI, gz_uI, gz_uL, gz_uR, gz_uCI, gz_uCL, gs_uI, gs_uL, gs_uR, gs_uCI, gs_uCL, rI_at, rL_at, rR_at, rI_ne, rL_ne, rR_ne, rI_nk, rL_nk, rR_nk, rI_eq, rL_eq, rR_eq, Option.toList_some, Option.toList_none, List.cons_append, List.nil_append, List.append_nil, zc_eq, zc_lt, zc_le, zc_ge, zc_gt]
    all_goals exact hq
  · have hq := h5 rfl
    clear h0 h1 h2 h3 h4 h5 h6 h7 h8
    rw [e3_z, show 12 * i_z + 3 = 12 * i_z + 5 - 2 from by omega] at hq
    simp (disch := omega) only [B_253_19, B_253_122, sm_z.u, inI, inL, isT, kInt, kByt, true_and, and_true, an_t, im_t, im_f, or_true, true_or, true_imp_iff, false_imp_iff, not_true_eq_false, not_false_eq_true, gK_uI, gK_uL, gK_uR, gK_uCI, gK_uCL, gN_uI, gN_uL, gN_uR, gN_uCI, gN_uCL, gR_uI, gR_uL, gR_uCI, gR_uCL, gI_uL, gI_uR, gI_uCL, gL_uI, gL_uR, gL_uCI, gz_uI, gz_uL, gz_uR, gz_uCI, gz_uCL, gs_uI, gs_uL, gs_uR, gs_uCI, gs_uCL, rI_at, rL_at, rR_at, rI_ne, rL_ne, rR_ne, rI_nk, rL_nk, rR_nk, rI_eq, rL_eq, rR_eq, Option.toList_some, Option.toList_none, List.cons_append, List.nil_append, List.append_nil, zc_eq, zc_lt, zc_le, zc_ge, zc_gt]
    all_goals exact hq
  · have hq := h6 rfl
    clear h0 h1 h2 h3 h4 h5 h6 h7 h8
    rw [e4_z, show 12 * i_z + 4 = 12 * i_z + 6 - 2 from by omega] at hq
    simp (disch := omega) only [B_253_19, B_253_122, sm_z.u, inI, inL, isT, kInt, kByt, true_and, and_true, an_t, im_t, im_f, or_true, true_or, true_imp_iff, false_imp_iff, not_true_eq_false, not_false_eq_true, gK_uI, gK_uL, gK_uR, gK_uCI, gK_uCL, gN_uI, gN_uL, gN_uR, gN_uCI, gN_uCL, gR_uI, gR_uL, gR_uCI, gR_uCL, gI_uL, gI_uR, gI_uCL, gL_uI, gL_uR, gL_uCI, gz_uI, gz_uL, gz_uR, gz_uCI, gz_uCL, gs_uI, gs_uL, gs_uR, gs_uCI, gs_uCL, rI_at, rL_at, rR_at, rI_ne, rL_ne, rR_ne, rI_nk, rL_nk, rR_nk, rI_eq, rL_eq, rR_eq, Option.toList_some, Option.toList_none, List.cons_append, List.nil_append, List.append_nil, zc_eq, zc_lt, zc_le, zc_ge, zc_gt]
    all_goals exact hq
  · have hq := h7 rfl
    clear h0 h1 h2 h3 h4 h5 h6 h7 h8
    have go_z : Call G J_M_coveredBy [a_r m, a_i i_z] T (fun r M2_z => At G 253 139 [a_r m, a_i i_z, a_i 7, a_i no_z, a_i (12 * i_z)] r.toList M2_z Q) := by
      refine X_mCovd (M := M) (c := c) sm_z rs i0_z i1_z hw hh hW hH ?_
      simp (disch := omega) only [B_253_139, inI, inL, isT, kInt, kByt, true_and, and_true, an_t, im_t, im_f, or_true, true_or, true_imp_iff, false_imp_iff, not_true_eq_false, not_false_eq_true, gK_uI, gK_uL, gK_uR, gK_uCI, gK_uCL, gN_uI, gN_uL, gN_uR, gN_uCI, gN_uCL, gR_uI, gR_uL, gR_uCI, gR_uCL, gI_uL, gI_uR, gI_uCL, gL_uI, gL_uR, gL_uCI, gz_uI, gz_uL, gz_uR, gz_uCI, gz_uCL, gs_uI, gs_uL, gs_uR, gs_uCI, gs_uCL, rI_at, rL_at, rR_at, rI_ne, rL_ne, rR_ne, rI_nk, rL_nk, rR_nk, rI_eq, rL_eq, rR_eq, Option.toList_some, Option.toList_none, List.cons_append, List.nil_append, List.append_nil, zc_eq, zc_lt, zc_le, zc_ge, zc_gt]
      all_goals exact hq
    simp (disch := omega) only [B_253_19, B_253_134, sm_z.u, inI, inL, isT, kInt, kByt, true_and, and_true, an_t, im_t, im_f, or_true, true_or, true_imp_iff, false_imp_iff, not_true_eq_false, not_false_eq_true, gK_uI, gK_uL, gK_uR, gK_uCI, gK_uCL, gN_uI, gN_uL, gN_uR, gN_uCI, gN_uCL, gR_uI, gR_uL, gR_uCI, gR_uCL, gI_uL, gI_uR, gI_uCL, gL_uI, gL_uR, gL_uCI, gz_uI, gz_uL, gz_uR, gz_uCI, gz_uCL, gs_uI, gs_uL, gs_uR, gs_uCI, gs_uCL, rI_at, rL_at, rR_at, rI_ne, rL_ne, rR_ne, rI_nk, rL_nk, rR_nk, rI_eq, rL_eq, rR_eq, Option.toList_some, Option.toList_none, List.cons_append, List.nil_append, List.append_nil, zc_eq, zc_lt, zc_le, zc_ge, zc_gt]
    all_goals exact go_z
  · have hq := h8 rfl
    clear h0 h1 h2 h3 h4 h5 h6 h7 h8
    have go_z : Call G J_M_shownBy [a_r m, a_i i_z] T (fun r M2_z => At G 253 145 [a_r m, a_i i_z, a_i 8, a_i no_z, a_i (12 * i_z)] r.toList M2_z Q) := by
      refine X_mShown (M := M) (c := c) sm_z rs i0_z i1_z hw hh hW hH ?_
      simp (disch := omega) only [B_253_145, inI, inL, isT, kInt, kByt, true_and, and_true, an_t, im_t, im_f, or_true, true_or, true_imp_iff, false_imp_iff, not_true_eq_false, not_false_eq_true, gK_uI, gK_uL, gK_uR, gK_uCI, gK_uCL, gN_uI, gN_uL, gN_uR, gN_uCI, gN_uCL, gR_uI, gR_uL, gR_uCI, gR_uCL, gI_uL, gI_uR, gI_uCL, gL_uI, gL_uR, gL_uCI, gz_uI, gz_uL, gz_uR, gz_uCI, gz_uCL, gs_uI, gs_uL, gs_uR, gs_uCI, gs_uCL, rI_at, rL_at, rR_at, rI_ne, rL_ne, rR_ne, rI_nk, rL_nk, rR_nk, rI_eq, rL_eq, rR_eq, Option.toList_some, Option.toList_none, List.cons_append, List.nil_append, List.append_nil, zc_eq, zc_lt, zc_le, zc_ge, zc_gt]
      all_goals exact hq
    simp (disch := omega) only [B_253_19, B_253_140, sm_z.u, inI, inL, isT, kInt, kByt, true_and, and_true, an_t, im_t, im_f, or_true, true_or, true_imp_iff, false_imp_iff, not_true_eq_false, not_false_eq_true, gK_uI, gK_uL, gK_uR, gK_uCI, gK_uCL, gN_uI, gN_uL, gN_uR, gN_uCI, gN_uCL, gR_uI, gR_uL, gR_uCI, gR_uCL, gI_uL, gI_uR, gI_uCL, gL_uI, gL_uR, gL_uCI, gz_uI, gz_uL, gz_uR, gz_uCI, gz_uCL, gs_uI, gs_uL, gs_uR, gs_uCI, gs_uCL, rI_at, rL_at, rR_at, rI_ne, rL_ne, rR_ne, rI_nk, rL_nk, rR_nk, rI_eq, rL_eq, rR_eq, Option.toList_some, Option.toList_none, List.cons_append, List.nil_append, List.append_nil, zc_eq, zc_lt, zc_le, zc_ge, zc_gt]
    all_goals exact go_z
/-- one answer for each property -/
def prI (M : Mem) (c m W_z H_z : Nat) (i_z w_z : Int) : Int := if w_z = 0 then gI M (c + 12) i_z else if w_z = 1 then gI M (c + 11) i_z else if w_z = 2 then gI M (m + 15) (gI M (m + 16) (12 * i_z + 2)) else if w_z = 3 then npI M c i_z else if w_z = 4 then gI M (c + 15) i_z else if w_z = 5 then gI M (c + 13) i_z else if w_z = 6 then gI M (c + 14) i_z else if w_z = 7 then gsm (fCov M c i_z) W_z (W_z * H_z) else gsm (fChg M c i_z) W_z (W_z * H_z)
theorem s_item {x_z y_z : Int} (h_z : Inv G M b) : Same G b J_X_item J_M_item [a_i x_z, a_i y_z] M := by
  have sX_z := h_z.1.1
  have sM := h_z.ma.1
  have sT := h_z.mo
  have sI : ShIt M (b + 16 + 3) (b + 16 + 4) := h_z.ma.2.2.1
  obtain ⟨⟨w1_z, w2_z, w3_z⟩, ⟨v1_z, v2, v3⟩⟩ := h_z.wh
  obtain ⟨W_z, hW⟩ : ∃ W_z : Nat, gI M (b + 10) 4 = (W_z : Int) := ⟨(gI M (b + 10) 4).toNat, by omega⟩
  obtain ⟨H_z, hH⟩ : ∃ H_z : Nat, gI M (b + 10) 5 = (H_z : Int) := ⟨(gI M (b + 10) 5).toNat, by omega⟩
  have m2_z := fun qq => Y_in (G := G) (M := M) (Q := qq) (x_z := y_z) (y_z := 0) (w_z := 8)
  have rf := fun qq v_z => X_refused (G := G) (Q := qq) (i_z := x_z) (v_z := v_z) sT
  by_cases cx : x_z < 0
  · have e_z : ∀ v_z, refI x_z v_z (gI M (b + 193) 45) (gI M (b + 193) 35) = -10000001 := fun v_z => if_pos (Or.inl cx)
    simp only [e_z] at rf
    refine same_pure (v_z := -10000001) h_z (fun Q hq => ?_) (fun Q hq => ?_)
    · simp (disch := omega) only [E_X_item, B_154_0, cx, B_154_14, inI, inL, isT, kInt, kByt, true_and, and_true, an_t, im_t, im_f, or_true, true_or, true_imp_iff, false_imp_iff, not_true_eq_false, not_false_eq_true, gK_uI, gK_uL, gK_uR, gK_uCI, gK_uCL, gN_uI, gN_uL, gN_uR, gN_uCI, gN_uCL, gR_uI, gR_uL, gR_uCI, gR_uCL, gI_uL, gI_uR, gI_uCL, gL_uI, gL_uR, gL_uCI, gz_uI, gz_uL, gz_uR, gz_uCI, gz_uCL, gs_uI, gs_uL, gs_uR, gs_uCI, gs_uCL, rI_at, rL_at, rR_at, rI_ne, rL_ne, rR_ne, rI_nk, rL_nk, rR_nk, rI_eq, rL_eq, rR_eq, Option.toList_some, Option.toList_none, List.cons_append, List.nil_append, List.append_nil, zc_eq, zc_lt, zc_le, zc_ge, zc_gt]
      all_goals exact hq
    · simp (disch := omega) only [E_M_item, B_253_0, m2_z, B_253_9, sT.u, rf, B_253_12, inI, inL, isT, kInt, kByt, true_and, and_true, an_t, im_t, im_f, or_true, true_or, true_imp_iff, false_imp_iff, not_true_eq_false, not_false_eq_true, gK_uI, gK_uL, gK_uR, gK_uCI, gK_uCL, gN_uI, gN_uL, gN_uR, gN_uCI, gN_uCL, gR_uI, gR_uL, gR_uCI, gR_uCL, gI_uL, gI_uR, gI_uCL, gL_uI, gL_uR, gL_uCI, gz_uI, gz_uL, gz_uR, gz_uCI, gz_uCL, gs_uI, gs_uL, gs_uR, gs_uCI, gs_uCL, rI_at, rL_at, rR_at, rI_ne, rL_ne, rR_ne, rI_nk, rL_nk, rR_nk, rI_eq, rL_eq, rR_eq, Option.toList_some, Option.toList_none, List.cons_append, List.nil_append, List.append_nil, zc_eq, zc_lt, zc_le, zc_ge, zc_gt]
      all_goals exact hq
  · by_cases cy : 0 ≤ y_z ∧ y_z ≤ 8
    · have m1_z := fun qq => Y_isBetweenT (G := G) (Q := qq) (M := M) (x_z := y_z) (y_z := 0) (w_z := 8) cy
      rw [zB_t cy] at m2_z
      have rf1 := fun qq => rf qq 1
      clear rf
      rcases h_z.rn with ⟨r1_z, r2⟩ | ⟨r1_z, r2, rs⟩
      · have e_z : refI x_z 1 (gI M (b + 193) 45) (gI M (b + 193) 35) = -10000002 := by
          unfold refI
          rw [if_neg (by omega), if_pos r2]
        rw [e_z] at rf1
        have mi := fun qq => X_missR (G := G) (Q := qq) (i_z := x_z) sX_z h_z.ma r1_z
        refine same_pure (v_z := -10000002) h_z (fun Q hq => ?_) (fun Q hq => ?_)
        · simp (disch := omega) only [E_X_item, B_154_0, cx, m1_z, B_154_11, B_154_17, sX_z.u, mi, B_154_22, B_154_46, B_154_47, inI, inL, isT, kInt, kByt, true_and, and_true, an_t, im_t, im_f, or_true, true_or, true_imp_iff, false_imp_iff, not_true_eq_false, not_false_eq_true, gK_uI, gK_uL, gK_uR, gK_uCI, gK_uCL, gN_uI, gN_uL, gN_uR, gN_uCI, gN_uCL, gR_uI, gR_uL, gR_uCI, gR_uCL, gI_uL, gI_uR, gI_uCL, gL_uI, gL_uR, gL_uCI, gz_uI, gz_uL, gz_uR, gz_uCI, gz_uCL, gs_uI, gs_uL, gs_uR, gs_uCI, gs_uCL, rI_at, rL_at, rR_at, rI_ne, rL_ne, rR_ne, rI_nk, rL_nk, rR_nk, rI_eq, rL_eq, rR_eq, Option.toList_some, Option.toList_none, List.cons_append, List.nil_append, List.append_nil, zc_eq, zc_lt, zc_le, zc_ge, zc_gt]
          all_goals exact hq
        · simp (disch := omega) only [E_M_item, B_253_0, m2_z, B_253_9, sT.u, rf1, B_253_12, inI, inL, isT, kInt, kByt, true_and, and_true, an_t, im_t, im_f, or_true, true_or, true_imp_iff, false_imp_iff, not_true_eq_false, not_false_eq_true, gK_uI, gK_uL, gK_uR, gK_uCI, gK_uCL, gN_uI, gN_uL, gN_uR, gN_uCI, gN_uCL, gR_uI, gR_uL, gR_uCI, gR_uCL, gI_uL, gI_uR, gI_uCL, gL_uI, gL_uR, gL_uCI, gz_uI, gz_uL, gz_uR, gz_uCI, gz_uCL, gs_uI, gs_uL, gs_uR, gs_uCI, gs_uCL, rI_at, rL_at, rR_at, rI_ne, rL_ne, rR_ne, rI_nk, rL_nk, rR_nk, rI_eq, rL_eq, rR_eq, Option.toList_some, Option.toList_none, List.cons_append, List.nil_append, List.append_nil, zc_eq, zc_lt, zc_le, zc_ge, zc_gt]
          all_goals exact hq
      · have n35 := rs.2.1.1
        by_cases ci : x_z < gI M (b + 16 + 3) 8
        · have e_z : refI x_z 1 (gI M (b + 193) 45) (gI M (b + 193) 35) = 0 := by
            unfold refI
            rw [if_neg (by omega), if_neg (by omega), if_pos (by omega)]
          rw [e_z] at rf1
          have mi := fun qq => X_missT (G := G) (Q := qq) (i_z := x_z) sX_z h_z.ma r1_z ci
          refine same_pure (v_z := prI M (b + 16) (b + 193) W_z H_z x_z y_z) h_z (fun Q hq => ?_) (fun Q hq => ?_)
          · unfold prI at hq
            have go_z : Call G J_It_findProperty [a_r (b + 16 + 3), a_i x_z, a_i y_z, a_r (b + 10)] M (fun r M2_z => At G 154 43 [a_r (b + 1), a_i x_z, a_i y_z, a_i 0] r.toList M2_z Q) := by
              refine X_prop (T := M) (m := b + 193) (W_z := W_z) (H_z := H_z) h_z.ma rs (by omega) ci cy.1 cy.2 h_z.sa hW hH (by omega) (by omega) ?_ ?_ ?_ ?_ ?_ ?_ ?_ ?_ ?_ <;> (intro e9_z; subst e9_z; simp (disch := omega) only [B_154_43, B_154_47, inI, inL, isT, kInt, kByt, true_and, and_true, an_t, im_t, im_f, or_true, true_or, true_imp_iff, false_imp_iff, not_true_eq_false, not_false_eq_true, gK_uI, gK_uL, gK_uR, gK_uCI, gK_uCL, gN_uI, gN_uL, gN_uR, gN_uCI, gN_uCL, gR_uI, gR_uL, gR_uCI, gR_uCL, gI_uL, gI_uR, gI_uCL, gL_uI, gL_uR, gL_uCI, gz_uI, gz_uL, gz_uR, gz_uCI, gz_uCL, gs_uI, gs_uL, gs_uR, gs_uCI, gs_uCL, rI_at, rL_at, rR_at, rI_ne, rL_ne, rR_ne, rI_nk, rL_nk, rR_nk, rI_eq, rL_eq, rR_eq, Option.toList_some, Option.toList_none, List.cons_append, List.nil_append, List.append_nil, zc_eq, zc_lt, zc_le, zc_ge, zc_gt]; exact hq)
            simp (disch := omega) only [E_X_item, B_154_0, cx, m1_z, B_154_11, B_154_17, sX_z.u, mi, B_154_22, not_true_eq_false, sM.u, sI.u, inI, inL, isT, kInt, kByt, true_and, and_true, an_t, im_t, im_f, or_true, true_or, true_imp_iff, false_imp_iff, not_true_eq_false, not_false_eq_true, gK_uI, gK_uL, gK_uR, gK_uCI, gK_uCL, gN_uI, gN_uL, gN_uR, gN_uCI, gN_uCL, gR_uI, gR_uL, gR_uCI, gR_uCL, gI_uL, gI_uR, gI_uCL, gL_uI, gL_uR, gL_uCI, gz_uI, gz_uL, gz_uR, gz_uCI, gz_uCL, gs_uI, gs_uL, gs_uR, gs_uCI, gs_uCL, rI_at, rL_at, rR_at, rI_ne, rL_ne, rR_ne, rI_nk, rL_nk, rR_nk, rI_eq, rL_eq, rR_eq, Option.toList_some, Option.toList_none, List.cons_append, List.nil_append, List.append_nil, zc_eq, zc_lt, zc_le, zc_ge, zc_gt]
            all_goals exact go_z
          · unfold prI at hq
            have go_z : At G 253 19 [a_r (b + 193), a_i x_z, a_i y_z, a_i 0, a_u] [] M Q := by
              refine X_mProp (M := M) (c := b + 16) (W_z := W_z) (H_z := H_z) sT rs (by omega) ci cy.1 cy.2 (w1_z.symm.trans hW) (v1_z.symm.trans hH) (by omega) (by omega) ?_ ?_ ?_ ?_ ?_ ?_ ?_ ?_ ?_ <;> (intro e9_z; subst e9_z; exact hq)
            simp (disch := omega) only [E_M_item, B_253_0, m2_z, B_253_9, sT.u, rf1, B_253_12, inI, inL, isT, kInt, kByt, true_and, and_true, an_t, im_t, im_f, or_true, true_or, true_imp_iff, false_imp_iff, not_true_eq_false, not_false_eq_true, gK_uI, gK_uL, gK_uR, gK_uCI, gK_uCL, gN_uI, gN_uL, gN_uR, gN_uCI, gN_uCL, gR_uI, gR_uL, gR_uCI, gR_uCL, gI_uL, gI_uR, gI_uCL, gL_uI, gL_uR, gL_uCI, gz_uI, gz_uL, gz_uR, gz_uCI, gz_uCL, gs_uI, gs_uL, gs_uR, gs_uCI, gs_uCL, rI_at, rL_at, rR_at, rI_ne, rL_ne, rR_ne, rI_nk, rL_nk, rR_nk, rI_eq, rL_eq, rR_eq, Option.toList_some, Option.toList_none, List.cons_append, List.nil_append, List.append_nil, zc_eq, zc_lt, zc_le, zc_ge, zc_gt]
            all_goals exact go_z
        · have e_z : refI x_z 1 (gI M (b + 193) 45) (gI M (b + 193) 35) = -10000009 := by
            unfold refI
            rw [if_neg (by omega), if_neg (by omega), if_neg (by omega)]
          rw [e_z] at rf1
          have mi := fun qq => X_missN (G := G) (Q := qq) (i_z := x_z) sX_z h_z.ma r1_z (by omega)
          refine same_pure (v_z := -10000009) h_z (fun Q hq => ?_) (fun Q hq => ?_)
          · simp (disch := omega) only [E_X_item, B_154_0, cx, m1_z, B_154_11, B_154_17, sX_z.u, mi, B_154_22, B_154_46, B_154_47, inI, inL, isT, kInt, kByt, true_and, and_true, an_t, im_t, im_f, or_true, true_or, true_imp_iff, false_imp_iff, not_true_eq_false, not_false_eq_true, gK_uI, gK_uL, gK_uR, gK_uCI, gK_uCL, gN_uI, gN_uL, gN_uR, gN_uCI, gN_uCL, gR_uI, gR_uL, gR_uCI, gR_uCL, gI_uL, gI_uR, gI_uCL, gL_uI, gL_uR, gL_uCI, gz_uI, gz_uL, gz_uR, gz_uCI, gz_uCL, gs_uI, gs_uL, gs_uR, gs_uCI, gs_uCL, rI_at, rL_at, rR_at, rI_ne, rL_ne, rR_ne, rI_nk, rL_nk, rR_nk, rI_eq, rL_eq, rR_eq, Option.toList_some, Option.toList_none, List.cons_append, List.nil_append, List.append_nil, zc_eq, zc_lt, zc_le, zc_ge, zc_gt]
            all_goals exact hq
          · simp (disch := omega) only [E_M_item, B_253_0, m2_z, B_253_9, sT.u, rf1, B_253_12, inI, inL, isT, kInt, kByt, true_and, and_true, an_t, im_t, im_f, or_true, true_or, true_imp_iff, false_imp_iff, not_true_eq_false, not_false_eq_true, gK_uI, gK_uL, gK_uR, gK_uCI, gK_uCL, gN_uI, gN_uL, gN_uR, gN_uCI, gN_uCL, gR_uI, gR_uL, gR_uCI, gR_uCL, gI_uL, gI_uR, gI_uCL, gL_uI, gL_uR, gL_uCI, gz_uI, gz_uL, gz_uR, gz_uCI, gz_uCL, gs_uI, gs_uL, gs_uR, gs_uCI, gs_uCL, rI_at, rL_at, rR_at, rI_ne, rL_ne, rR_ne, rI_nk, rL_nk, rR_nk, rI_eq, rL_eq, rR_eq, Option.toList_some, Option.toList_none, List.cons_append, List.nil_append, List.append_nil, zc_eq, zc_lt, zc_le, zc_ge, zc_gt]
            all_goals exact hq
    · have m1_z := fun qq => Y_isBetweenF (G := G) (Q := qq) (M := M) (x_z := y_z) (y_z := 0) (w_z := 8) cy
      rw [zB_f cy] at m2_z
      have rf1 := fun qq => rf qq 0
      clear rf
      have e_z : refI x_z 0 (gI M (b + 193) 45) (gI M (b + 193) 35) = -10000001 := if_pos (Or.inr rfl)
      rw [e_z] at rf1
      refine same_pure (v_z := -10000001) h_z (fun Q hq => ?_) (fun Q hq => ?_)
      · simp (disch := omega) only [E_X_item, B_154_0, cx, m1_z, B_154_11, not_true_eq_false, B_154_14, inI, inL, isT, kInt, kByt, true_and, and_true, an_t, im_t, im_f, or_true, true_or, true_imp_iff, false_imp_iff, not_true_eq_false, not_false_eq_true, gK_uI, gK_uL, gK_uR, gK_uCI, gK_uCL, gN_uI, gN_uL, gN_uR, gN_uCI, gN_uCL, gR_uI, gR_uL, gR_uCI, gR_uCL, gI_uL, gI_uR, gI_uCL, gL_uI, gL_uR, gL_uCI, gz_uI, gz_uL, gz_uR, gz_uCI, gz_uCL, gs_uI, gs_uL, gs_uR, gs_uCI, gs_uCL, rI_at, rL_at, rR_at, rI_ne, rL_ne, rR_ne, rI_nk, rL_nk, rR_nk, rI_eq, rL_eq, rR_eq, Option.toList_some, Option.toList_none, List.cons_append, List.nil_append, List.append_nil, zc_eq, zc_lt, zc_le, zc_ge, zc_gt]
        all_goals exact hq
      · simp (disch := omega) only [E_M_item, B_253_0, m2_z, B_253_9, sT.u, rf1, B_253_12, inI, inL, isT, kInt, kByt, true_and, and_true, an_t, im_t, im_f, or_true, true_or, true_imp_iff, false_imp_iff, not_true_eq_false, not_false_eq_true, gK_uI, gK_uL, gK_uR, gK_uCI, gK_uCL, gN_uI, gN_uL, gN_uR, gN_uCI, gN_uCL, gR_uI, gR_uL, gR_uCI, gR_uCL, gI_uL, gI_uR, gI_uCL, gL_uI, gL_uR, gL_uCI, gz_uI, gz_uL, gz_uR, gz_uCI, gz_uCL, gs_uI, gs_uL, gs_uR, gs_uCI, gs_uCL, rI_at, rL_at, rR_at, rI_ne, rL_ne, rR_ne, rI_nk, rL_nk, rR_nk, rI_eq, rL_eq, rR_eq, Option.toList_some, Option.toList_none, List.cons_append, List.nil_append, List.append_nil, zc_eq, zc_lt, zc_le, zc_ge, zc_gt]
        all_goals exact hq
end DJ
