/-! THE PURE PART, part 16: removeResource, resource, tokenCount, the text. Own work. -/
section CL
variable {G : Env0} {Q : Option AV → Mem → Prop} {M : Mem} {b : Nat}
/-- a resource, on both sides -/
theorem Inv.res (h_z : Inv G M b) {x_z y_z : Int} (cx : -1 ≤ x_z ∧ x_z ≤ 5) (cy : 0 ≤ y_z ∧ y_z ≤ 7) : gI M (b + 10 + 4) ((x_z + 1) * 8 + y_z) = gI M (b + 193 + 1) (1157 + 8 * (x_z + 1) + y_z) ∧ 0 ≤ gI M (b + 10 + 4) ((x_z + 1) * 8 + y_z) := by
  have q_z := h_z.ed.2.2.2.1 ((x_z + 1) * 8 + y_z) (by omega) (by omega)
  have q1_z : gI M (b + 10 + 4) ((x_z + 1) * 8 + y_z) = gI M (b + 193 + 1) (1157 + ((x_z + 1) * 8 + y_z)) := q_z.1
  rw [show 1157 + ((x_z + 1) * 8 + y_z) = 1157 + 8 * (x_z + 1) + y_z from by omega] at q1_z
  have q2_z := q_z.2
  exact ⟨q1_z, by omega⟩
theorem s_removeResource {x_z y_z : Int} (h_z : Inv G M b) : Same G b J_X_removeResource J_M_removeResource [a_i x_z, a_i y_z] M := by
  by_cases good_z : (-1 ≤ x_z ∧ x_z ≤ 5) ∧ 0 ≤ y_z ∧ y_z ≤ 7
  · obtain ⟨cx, cy⟩ := good_z
    have hS_z := h_z.1
    have sX_z := hS_z.1
    have sS := hS_z.2.2.1
    obtain ⟨rr, r0⟩ := h_z.res cx cy
    have b1 := fun qq => Y_isStreamT (G := G) (M := M) (Q := qq) (x_z := x_z) cx
    have b2 := fun qq => Y_isNameT (G := G) (M := M) (Q := qq) (x_z := y_z) cy
    have fr_z := fun qq => X_findRes (G := G) (Q := qq) (M := M) sS cx cy
    by_cases c0_z : gI M (b + 10 + 4) ((x_z + 1) * 8 + y_z) = 0
    · refine same_pure (v_z := -10000002) h_z (fun Q hq => ?_) (fun Q hq => ?_)
      · rw [c0_z] at fr_z
        simp (disch := omega) only [E_X_removeResource, B_67_0, b1, B_67_4, b2, B_67_11, B_67_17, sX_z.u, sS.u, fr_z, B_67_26, not_true_eq_false, inI, inL, isT, kInt, kByt, true_and, and_true, an_t, im_t, im_f, or_true, true_or, true_imp_iff, false_imp_iff, not_true_eq_false, not_false_eq_true, gK_uI, gK_uL, gK_uR, gK_uCI, gK_uCL, gN_uI, gN_uL, gN_uR, gN_uCI, gN_uCL, gR_uI, gR_uL, gR_uCI, gR_uCL, gI_uL, gI_uR, gI_uCL, gL_uI, gL_uR, gL_uCI, gz_uI, gz_uL, gz_uR, gz_uCI, gz_uCL, gs_uI, gs_uL, gs_uR, gs_uCI, gs_uCL, rI_at, rL_at, rR_at, rI_ne, rL_ne, rR_ne, rI_nk, rL_nk, rR_nk, rI_eq, rL_eq, rR_eq, Option.toList_some, Option.toList_none, List.cons_append, List.nil_append, List.append_nil, zc_eq, zc_lt, zc_le, zc_ge, zc_gt]
        all_goals exact hq
      · have b3 := fun qq => Y_nm (G := G) (M := M) (Q := qq) (x_z := x_z) (y_z := y_z)
        rw [zB_t ⟨cx, cy⟩] at b3
        have e0_z : gI M (b + 193 + 1) (1157 + 8 * (x_z + 1) + y_z) = 0 := by omega
        simp (disch := omega) only [E_M_removeResource, B_192_0, b3, B_192_5, B_192_11, h_z.mo.u, e0_z, inI, inL, isT, kInt, kByt, true_and, and_true, an_t, im_t, im_f, or_true, true_or, true_imp_iff, false_imp_iff, not_true_eq_false, not_false_eq_true, gK_uI, gK_uL, gK_uR, gK_uCI, gK_uCL, gN_uI, gN_uL, gN_uR, gN_uCI, gN_uCL, gR_uI, gR_uL, gR_uCI, gR_uCL, gI_uL, gI_uR, gI_uCL, gL_uI, gL_uR, gL_uCI, gz_uI, gz_uL, gz_uR, gz_uCI, gz_uCL, gs_uI, gs_uL, gs_uR, gs_uCI, gs_uCL, rI_at, rL_at, rR_at, rI_ne, rL_ne, rR_ne, rI_nk, rL_nk, rR_nk, rI_eq, rL_eq, rR_eq, Option.toList_some, Option.toList_none, List.cons_append, List.nil_append, List.append_nil, zc_eq, zc_lt, zc_le, zc_ge, zc_gt]
        all_goals exact hq
    · refine same_edit (g_z := fun f_z => upf f_z (1157 + ((x_z + 1) * 8 + y_z)) 0) (v_z := fun f_z => f_z (1157 + ((x_z + 1) * 8 + y_z))) h_z (fun n_z f_z ps_z hE Q hQ => ?_) (fun M1_z n_z f_z ps_z tl tx n6_z hf hM_z Q hQ => ?_)
      · have old0 : gI M (b + 10 + 4) ((x_z + 1) * 8 + y_z) = f_z (1157 + ((x_z + 1) * 8 + y_z)) := (hE.2.2.2.2.1.2.2.2.1 ((x_z + 1) * 8 + y_z) (by omega) (by omega)).1
        generalize hw : gI M (b + 10 + 4) ((x_z + 1) * 8 + y_z) = w_z at *
        have sv : Call G J_X_saveState [a_r (b + 1)] M (fun r_z M2_z => At G 67 38 [a_r (b + 1), a_i x_z, a_i y_z, a_i w_z] r_z.toList M2_z Q) := by
          refine X_saveState hS_z hE (fun M1_z o1 hS1 hE1 => ?_)
          have sX1 := hS1.1
          have sS1 := hS1.2.2.1
          have ed := EdRow.res (v_z := 0) hE1 (show 0 ≤ (x_z + 1) * 8 + y_z by omega) (by omega) (Or.inl rfl)
          obtain ⟨p0_z, p1_z, p2_z⟩ := putC o1 hS1 hE1 (outS_uI (by omega)) rfl (fun a_z ha_z => by rw [rI_ne (by omega)]) ed
          have fin_z := hQ _ p0_z p1_z p2_z
          rw [← old0] at fin_z
          have pr := fun qq => X_putRes (G := G) (Q := qq) (M := M1_z) (v_z := 0) sS1 cx cy
          simp (disch := omega) only [B_67_38, sX1.u, sS1.u, pr, B_67_48, inI, inL, isT, kInt, kByt, true_and, and_true, an_t, im_t, im_f, or_true, true_or, true_imp_iff, false_imp_iff, not_true_eq_false, not_false_eq_true, gK_uI, gK_uL, gK_uR, gK_uCI, gK_uCL, gN_uI, gN_uL, gN_uR, gN_uCI, gN_uCL, gR_uI, gR_uL, gR_uCI, gR_uCL, gI_uL, gI_uR, gI_uCL, gL_uI, gL_uR, gL_uCI, gz_uI, gz_uL, gz_uR, gz_uCI, gz_uCL, gs_uI, gs_uL, gs_uR, gs_uCI, gs_uCL, rI_at, rL_at, rR_at, rI_ne, rL_ne, rR_ne, rI_nk, rL_nk, rR_nk, rI_eq, rL_eq, rR_eq, Option.toList_some, Option.toList_none, List.cons_append, List.nil_append, List.append_nil, zc_eq, zc_lt, zc_le, zc_ge, zc_gt]
          all_goals exact fin_z
        simp (disch := omega) only [E_X_removeResource, B_67_0, b1, B_67_4, b2, B_67_11, B_67_17, sX_z.u, sS.u, fr_z, B_67_26, c0_z, B_67_34, not_false_eq_true, inI, inL, isT, kInt, kByt, true_and, and_true, an_t, im_t, im_f, or_true, true_or, true_imp_iff, false_imp_iff, not_true_eq_false, not_false_eq_true, gK_uI, gK_uL, gK_uR, gK_uCI, gK_uCL, gN_uI, gN_uL, gN_uR, gN_uCI, gN_uCL, gR_uI, gR_uL, gR_uCI, gR_uCL, gI_uL, gI_uR, gI_uCL, gL_uI, gL_uR, gL_uCI, gz_uI, gz_uL, gz_uR, gz_uCI, gz_uCL, gs_uI, gs_uL, gs_uR, gs_uCI, gs_uCL, rI_at, rL_at, rR_at, rI_ne, rL_ne, rR_ne, rI_nk, rL_nk, rR_nk, rI_eq, rL_eq, rR_eq, Option.toList_some, Option.toList_none, List.cons_append, List.nil_append, List.append_nil, zc_eq, zc_lt, zc_le, zc_ge, zc_gt]
        all_goals exact sv
      · have b3 := fun qq => Y_nm (G := G) (M := M1_z) (Q := qq) (x_z := x_z) (y_z := y_z)
        rw [zB_t ⟨cx, cy⟩] at b3
        have fe : f_z (1157 + ((x_z + 1) * 8 + y_z)) = gI M (b + 10 + 4) ((x_z + 1) * 8 + y_z) := by
          have z_z : gI M (b + 193 + 1) = f_z := hf
          rw [rr, z_z, show 1157 + 8 * (x_z + 1) + y_z = 1157 + ((x_z + 1) * 8 + y_z) from by omega]
        have e1_z : gI M1_z (b + 193 + 1) (1157 + 8 * (x_z + 1) + y_z) = f_z (1157 + ((x_z + 1) * 8 + y_z)) := by rw [hM_z.2.2.1, show 1157 + 8 * (x_z + 1) + y_z = 1157 + ((x_z + 1) * 8 + y_z) from by omega]
        generalize hw : f_z (1157 + ((x_z + 1) * 8 + y_z)) = w_z at *
        have w0_z : ¬ w_z = 0 := by omega
        have sv : Call G J_M_save [a_r (b + 193)] M1_z (fun r_z M2_z => At G 192 44 [a_r (b + 193), a_i x_z, a_i y_z, a_i (1157 + 8 * (x_z + 1) + y_z), a_i w_z] r_z.toList M2_z Q) := by
          refine X_Msave hM_z n6_z (fun M2_z o2 eF hM2 => ?_)
          have hs2 := hM2.1
          have r1_z := hM2.2.2.1
          obtain ⟨p0_z, p1_z, p2_z⟩ := putM (M3_z := uI M2_z (b + 193 + 1) (1157 + 8 * (x_z + 1) + y_z) 0) (f' := upf f_z (1157 + ((x_z + 1) * 8 + y_z)) 0) o2 eF hM2 ((Ex.refl (fun r_z => r_z = b + 193 + 1) M2_z).uI _ _ rfl) (by rw [rI_row, r1_z, show 1157 + 8 * (x_z + 1) + y_z = 1157 + ((x_z + 1) * 8 + y_z) from by omega])
          have fin_z := hQ _ p0_z p1_z p2_z
          simp (disch := omega) only [B_192_44, hs2.u, inI, inL, isT, kInt, kByt, true_and, and_true, an_t, im_t, im_f, or_true, true_or, true_imp_iff, false_imp_iff, not_true_eq_false, not_false_eq_true, gK_uI, gK_uL, gK_uR, gK_uCI, gK_uCL, gN_uI, gN_uL, gN_uR, gN_uCI, gN_uCL, gR_uI, gR_uL, gR_uCI, gR_uCL, gI_uL, gI_uR, gI_uCL, gL_uI, gL_uR, gL_uCI, gz_uI, gz_uL, gz_uR, gz_uCI, gz_uCL, gs_uI, gs_uL, gs_uR, gs_uCI, gs_uCL, rI_at, rL_at, rR_at, rI_ne, rL_ne, rR_ne, rI_nk, rL_nk, rR_nk, rI_eq, rL_eq, rR_eq, Option.toList_some, Option.toList_none, List.cons_append, List.nil_append, List.append_nil, zc_eq, zc_lt, zc_le, zc_ge, zc_gt]
          all_goals exact fin_z
        simp (disch := omega) only [E_M_removeResource, B_192_0, b3, B_192_5, B_192_11, hM_z.1.u, e1_z, w0_z, B_192_40, not_false_eq_true, inI, inL, isT, kInt, kByt, true_and, and_true, an_t, im_t, im_f, or_true, true_or, true_imp_iff, false_imp_iff, not_true_eq_false, not_false_eq_true, gK_uI, gK_uL, gK_uR, gK_uCI, gK_uCL, gN_uI, gN_uL, gN_uR, gN_uCI, gN_uCL, gR_uI, gR_uL, gR_uCI, gR_uCL, gI_uL, gI_uR, gI_uCL, gL_uI, gL_uR, gL_uCI, gz_uI, gz_uL, gz_uR, gz_uCI, gz_uCL, gs_uI, gs_uL, gs_uR, gs_uCI, gs_uCL, rI_at, rL_at, rR_at, rI_ne, rL_ne, rR_ne, rI_nk, rL_nk, rR_nk, rI_eq, rL_eq, rR_eq, Option.toList_some, Option.toList_none, List.cons_append, List.nil_append, List.append_nil, zc_eq, zc_lt, zc_le, zc_ge, zc_gt]
        all_goals exact sv
  · refine same_pure (v_z := -10000001) h_z (fun Q hq => ?_) (fun Q hq => ?_)
    · have b1 := fun qq => Y_isStream (G := G) (M := M) (Q := qq) (x_z := x_z)
      have b2 := fun qq => Y_isName (G := G) (M := M) (Q := qq) (x_z := y_z)
      by_cases cx : -1 ≤ x_z ∧ x_z ≤ 5
      · rw [zB_t cx] at b1
        rw [zB_f (fun q_z => good_z ⟨cx, q_z⟩)] at b2
        simp (disch := omega) only [E_X_removeResource, B_67_0, b1, B_67_4, b2, B_67_11, B_67_14, inI, inL, isT, kInt, kByt, true_and, and_true, an_t, im_t, im_f, or_true, true_or, true_imp_iff, false_imp_iff, not_true_eq_false, not_false_eq_true, gK_uI, gK_uL, gK_uR, gK_uCI, gK_uCL, gN_uI, gN_uL, gN_uR, gN_uCI, gN_uCL, gR_uI, gR_uL, gR_uCI, gR_uCL, gI_uL, gI_uR, gI_uCL, gL_uI, gL_uR, gL_uCI, gz_uI, gz_uL, gz_uR, gz_uCI, gz_uCL, gs_uI, gs_uL, gs_uR, gs_uCI, gs_uCL, rI_at, rL_at, rR_at, rI_ne, rL_ne, rR_ne, rI_nk, rL_nk, rR_nk, rI_eq, rL_eq, rR_eq, Option.toList_some, Option.toList_none, List.cons_append, List.nil_append, List.append_nil, zc_eq, zc_lt, zc_le, zc_ge, zc_gt]
        all_goals exact hq
      · rw [zB_f cx] at b1
        simp (disch := omega) only [E_X_removeResource, B_67_0, b1, B_67_4, B_67_14, inI, inL, isT, kInt, kByt, true_and, and_true, an_t, im_t, im_f, or_true, true_or, true_imp_iff, false_imp_iff, not_true_eq_false, not_false_eq_true, gK_uI, gK_uL, gK_uR, gK_uCI, gK_uCL, gN_uI, gN_uL, gN_uR, gN_uCI, gN_uCL, gR_uI, gR_uL, gR_uCI, gR_uCL, gI_uL, gI_uR, gI_uCL, gL_uI, gL_uR, gL_uCI, gz_uI, gz_uL, gz_uR, gz_uCI, gz_uCL, gs_uI, gs_uL, gs_uR, gs_uCI, gs_uCL, rI_at, rL_at, rR_at, rI_ne, rL_ne, rR_ne, rI_nk, rL_nk, rR_nk, rI_eq, rL_eq, rR_eq, Option.toList_some, Option.toList_none, List.cons_append, List.nil_append, List.append_nil, zc_eq, zc_lt, zc_le, zc_ge, zc_gt]
        all_goals exact hq
    · have b3 := fun qq => Y_nm (G := G) (M := M) (Q := qq) (x_z := x_z) (y_z := y_z)
      rw [zB_f good_z] at b3
      simp (disch := omega) only [E_M_removeResource, B_192_0, b3, B_192_5, inI, inL, isT, kInt, kByt, true_and, and_true, an_t, im_t, im_f, or_true, true_or, true_imp_iff, false_imp_iff, not_true_eq_false, not_false_eq_true, gK_uI, gK_uL, gK_uR, gK_uCI, gK_uCL, gN_uI, gN_uL, gN_uR, gN_uCI, gN_uCL, gR_uI, gR_uL, gR_uCI, gR_uCL, gI_uL, gI_uR, gI_uCL, gL_uI, gL_uR, gL_uCI, gz_uI, gz_uL, gz_uR, gz_uCI, gz_uCL, gs_uI, gs_uL, gs_uR, gs_uCI, gs_uCL, rI_at, rL_at, rR_at, rI_ne, rL_ne, rR_ne, rI_nk, rL_nk, rR_nk, rI_eq, rL_eq, rR_eq, Option.toList_some, Option.toList_none, List.cons_append, List.nil_append, List.append_nil, zc_eq, zc_lt, zc_le, zc_ge, zc_gt]
      all_goals exact hq
theorem s_resource {x_z y_z : Int} (h_z : Inv G M b) : Same G b J_X_resource J_M_resource [a_i x_z, a_i y_z] M := by
  have hS_z := h_z.1
  have sX_z := hS_z.1
  have sS := hS_z.2.2.1
  by_cases good_z : (-1 ≤ x_z ∧ x_z ≤ 5) ∧ 0 ≤ y_z ∧ y_z ≤ 7
  · obtain ⟨cx, cy⟩ := good_z
    obtain ⟨rr, r0⟩ := h_z.res cx cy
    have b1 := fun qq => Y_isStreamT (G := G) (M := M) (Q := qq) (x_z := x_z) cx
    have b2 := fun qq => Y_isNameT (G := G) (M := M) (Q := qq) (x_z := y_z) cy
    have fr_z := fun qq => X_findRes (G := G) (Q := qq) (M := M) sS cx cy
    have b3 := fun qq => Y_nm (G := G) (M := M) (Q := qq) (x_z := x_z) (y_z := y_z)
    rw [zB_t ⟨cx, cy⟩] at b3
    rw [rr] at fr_z
    by_cases c0_z : gI M (b + 193 + 1) (1157 + 8 * (x_z + 1) + y_z) = 0
    · refine same_pure (v_z := -10000009) h_z (fun Q hq => ?_) (fun Q hq => ?_)
      · rw [c0_z] at fr_z
        simp (disch := omega) only [E_X_resource, B_68_0, b1, B_68_4, b2, B_68_11, B_68_17, sX_z.u, sS.u, fr_z, B_68_26, B_68_37, not_true_eq_false, inI, inL, isT, kInt, kByt, true_and, and_true, an_t, im_t, im_f, or_true, true_or, true_imp_iff, false_imp_iff, not_true_eq_false, not_false_eq_true, gK_uI, gK_uL, gK_uR, gK_uCI, gK_uCL, gN_uI, gN_uL, gN_uR, gN_uCI, gN_uCL, gR_uI, gR_uL, gR_uCI, gR_uCL, gI_uL, gI_uR, gI_uCL, gL_uI, gL_uR, gL_uCI, gz_uI, gz_uL, gz_uR, gz_uCI, gz_uCL, gs_uI, gs_uL, gs_uR, gs_uCI, gs_uCL, rI_at, rL_at, rR_at, rI_ne, rL_ne, rR_ne, rI_nk, rL_nk, rR_nk, rI_eq, rL_eq, rR_eq, Option.toList_some, Option.toList_none, List.cons_append, List.nil_append, List.append_nil, zc_eq, zc_lt, zc_le, zc_ge, zc_gt]
        all_goals exact hq
      · simp (disch := omega) only [E_M_resource, B_193_0, b3, B_193_5, B_193_11, h_z.mo.u, c0_z, B_193_39, not_true_eq_false, inI, inL, isT, kInt, kByt, true_and, and_true, an_t, im_t, im_f, or_true, true_or, true_imp_iff, false_imp_iff, not_true_eq_false, not_false_eq_true, gK_uI, gK_uL, gK_uR, gK_uCI, gK_uCL, gN_uI, gN_uL, gN_uR, gN_uCI, gN_uCL, gR_uI, gR_uL, gR_uCI, gR_uCL, gI_uL, gI_uR, gI_uCL, gL_uI, gL_uR, gL_uCI, gz_uI, gz_uL, gz_uR, gz_uCI, gz_uCL, gs_uI, gs_uL, gs_uR, gs_uCI, gs_uCL, rI_at, rL_at, rR_at, rI_ne, rL_ne, rR_ne, rI_nk, rL_nk, rR_nk, rI_eq, rL_eq, rR_eq, Option.toList_some, Option.toList_none, List.cons_append, List.nil_append, List.append_nil, zc_eq, zc_lt, zc_le, zc_ge, zc_gt]
        all_goals exact hq
    · refine same_pure (v_z := gI M (b + 193 + 1) (1157 + 8 * (x_z + 1) + y_z)) h_z (fun Q hq => ?_) (fun Q hq => ?_)
      · generalize gI M (b + 193 + 1) (1157 + 8 * (x_z + 1) + y_z) = w_z at *
        simp (disch := omega) only [E_X_resource, B_68_0, b1, B_68_4, b2, B_68_11, B_68_17, sX_z.u, sS.u, fr_z, B_68_26, c0_z, B_68_36, B_68_37, not_false_eq_true, inI, inL, isT, kInt, kByt, true_and, and_true, an_t, im_t, im_f, or_true, true_or, true_imp_iff, false_imp_iff, not_true_eq_false, not_false_eq_true, gK_uI, gK_uL, gK_uR, gK_uCI, gK_uCL, gN_uI, gN_uL, gN_uR, gN_uCI, gN_uCL, gR_uI, gR_uL, gR_uCI, gR_uCL, gI_uL, gI_uR, gI_uCL, gL_uI, gL_uR, gL_uCI, gz_uI, gz_uL, gz_uR, gz_uCI, gz_uCL, gs_uI, gs_uL, gs_uR, gs_uCI, gs_uCL, rI_at, rL_at, rR_at, rI_ne, rL_ne, rR_ne, rI_nk, rL_nk, rR_nk, rI_eq, rL_eq, rR_eq, Option.toList_some, Option.toList_none, List.cons_append, List.nil_append, List.append_nil, zc_eq, zc_lt, zc_le, zc_ge, zc_gt]
        all_goals exact hq
      · simp (disch := omega) only [E_M_resource, B_193_0, b3, B_193_5, B_193_11, h_z.mo.u, c0_z, B_193_38, B_193_39, not_false_eq_true, inI, inL, isT, kInt, kByt, true_and, and_true, an_t, im_t, im_f, or_true, true_or, true_imp_iff, false_imp_iff, not_true_eq_false, not_false_eq_true, gK_uI, gK_uL, gK_uR, gK_uCI, gK_uCL, gN_uI, gN_uL, gN_uR, gN_uCI, gN_uCL, gR_uI, gR_uL, gR_uCI, gR_uCL, gI_uL, gI_uR, gI_uCL, gL_uI, gL_uR, gL_uCI, gz_uI, gz_uL, gz_uR, gz_uCI, gz_uCL, gs_uI, gs_uL, gs_uR, gs_uCI, gs_uCL, rI_at, rL_at, rR_at, rI_ne, rL_ne, rR_ne, rI_nk, rL_nk, rR_nk, rI_eq, rL_eq, rR_eq, Option.toList_some, Option.toList_none, List.cons_append, List.nil_append, List.append_nil, zc_eq, zc_lt, zc_le, zc_ge, zc_gt]
        all_goals exact hq
  · refine same_pure (v_z := -10000001) h_z (fun Q hq => ?_) (fun Q hq => ?_)
    · have b1 := fun qq => Y_isStream (G := G) (M := M) (Q := qq) (x_z := x_z)
      have b2 := fun qq => Y_isName (G := G) (M := M) (Q := qq) (x_z := y_z)
      by_cases cx : -1 ≤ x_z ∧ x_z ≤ 5
      · rw [zB_t cx] at b1
        rw [zB_f (fun q_z => good_z ⟨cx, q_z⟩)] at b2
        simp (disch := omega) only [E_X_resource, B_68_0, b1, B_68_4, b2, B_68_11, B_68_14, inI, inL, isT, kInt, kByt, true_and, and_true, an_t, im_t, im_f, or_true, true_or, true_imp_iff, false_imp_iff, not_true_eq_false, not_false_eq_true, gK_uI, gK_uL, gK_uR, gK_uCI, gK_uCL, gN_uI, gN_uL, gN_uR, gN_uCI, gN_uCL, gR_uI, gR_uL, gR_uCI, gR_uCL, gI_uL, gI_uR, gI_uCL, gL_uI, gL_uR, gL_uCI, gz_uI, gz_uL, gz_uR, gz_uCI, gz_uCL, gs_uI, gs_uL, gs_uR, gs_uCI, gs_uCL, rI_at, rL_at, rR_at, rI_ne, rL_ne, rR_ne, rI_nk, rL_nk, rR_nk, rI_eq, rL_eq, rR_eq, Option.toList_some, Option.toList_none, List.cons_append, List.nil_append, List.append_nil, zc_eq, zc_lt, zc_le, zc_ge, zc_gt]
        all_goals exact hq
      · rw [zB_f cx] at b1
        simp (disch := omega) only [E_X_resource, B_68_0, b1, B_68_4, B_68_14, inI, inL, isT, kInt, kByt, true_and, and_true, an_t, im_t, im_f, or_true, true_or, true_imp_iff, false_imp_iff, not_true_eq_false, not_false_eq_true, gK_uI, gK_uL, gK_uR, gK_uCI, gK_uCL, gN_uI, gN_uL, gN_uR, gN_uCI, gN_uCL, gR_uI, gR_uL, gR_uCI, gR_uCL, gI_uL, gI_uR, gI_uCL, gL_uI, gL_uR, gL_uCI, gz_uI, gz_uL, gz_uR, gz_uCI, gz_uCL, gs_uI, gs_uL, gs_uR, gs_uCI, gs_uCL, rI_at, rL_at, rR_at, rI_ne, rL_ne, rR_ne, rI_nk, rL_nk, rR_nk, rI_eq, rL_eq, rR_eq, Option.toList_some, Option.toList_none, List.cons_append, List.nil_append, List.append_nil, zc_eq, zc_lt, zc_le, zc_ge, zc_gt]
        all_goals exact hq
    · have b3 := fun qq => Y_nm (G := G) (M := M) (Q := qq) (x_z := x_z) (y_z := y_z)
      rw [zB_f good_z] at b3
      simp (disch := omega) only [E_M_resource, B_193_0, b3, B_193_5, inI, inL, isT, kInt, kByt, true_and, and_true, an_t, im_t, im_f, or_true, true_or, true_imp_iff, false_imp_iff, not_true_eq_false, not_false_eq_true, gK_uI, gK_uL, gK_uR, gK_uCI, gK_uCL, gN_uI, gN_uL, gN_uR, gN_uCI, gN_uCL, gR_uI, gR_uL, gR_uCI, gR_uCL, gI_uL, gI_uR, gI_uCL, gL_uI, gL_uR, gL_uCI, gz_uI, gz_uL, gz_uR, gz_uCI, gz_uCL, gs_uI, gs_uL, gs_uR, gs_uCI, gs_uCL, rI_at, rL_at, rR_at, rI_ne, rL_ne, rR_ne, rI_nk, rL_nk, rR_nk, rI_eq, rL_eq, rR_eq, Option.toList_some, Option.toList_none, List.cons_append, List.nil_append, List.append_nil, zc_eq, zc_lt, zc_le, zc_ge, zc_gt]
      all_goals exact hq
theorem s_tokenCount {x_z : Int} (h_z : Inv G M b) : Same G b J_X_tokenCount J_M_tokenCount [a_i x_z] M := by
  have hS_z := h_z.1
  have sX_z := hS_z.1
  have sS := hS_z.2.2.1
  by_cases cx : -1 ≤ x_z ∧ x_z ≤ 5
  · have b1 := fun qq => Y_isStreamT (G := G) (M := M) (Q := qq) (x_z := x_z) cx
    have b3 := fun qq => Y_in (G := G) (M := M) (Q := qq) (x_z := x_z) (y_z := -1) (w_z := 5)
    rw [zB_t cx] at b3
    have z_z : (0 : Int) + 161 * (x_z + 1) = 161 * (x_z + 1) := by omega
    have el : lnm (fkT (gI M (b + 193 + 1))) 0 (x_z + 1) = gI M (b + 193 + 1) (161 * (x_z + 1)) := rfl
    have pr := h_z.ed.2.1 (x_z + 1) (by omega) (by omega)
    rw [el] at pr
    rcases pr with ⟨q1_z, q2_z⟩ | ⟨q1_z, q2_z⟩
    · refine same_pure (v_z := -10000009) h_z (fun Q hq => ?_) (fun Q hq => ?_)
      · have q3_z : gR M (b + 10 + 1) (x_z + 1) = 0 := q2_z
        simp (disch := omega) only [E_X_tokenCount, B_57_0, b1, B_57_4, B_57_10, sX_z.u, sS.u, q3_z, B_57_35, not_true_eq_false, inI, inL, isT, kInt, kByt, true_and, and_true, an_t, im_t, im_f, or_true, true_or, true_imp_iff, false_imp_iff, not_true_eq_false, not_false_eq_true, gK_uI, gK_uL, gK_uR, gK_uCI, gK_uCL, gN_uI, gN_uL, gN_uR, gN_uCI, gN_uCL, gR_uI, gR_uL, gR_uCI, gR_uCL, gI_uL, gI_uR, gI_uCL, gL_uI, gL_uR, gL_uCI, gz_uI, gz_uL, gz_uR, gz_uCI, gz_uCL, gs_uI, gs_uL, gs_uR, gs_uCI, gs_uCL, rI_at, rL_at, rR_at, rI_ne, rL_ne, rR_ne, rI_nk, rL_nk, rR_nk, rI_eq, rL_eq, rR_eq, Option.toList_some, Option.toList_none, List.cons_append, List.nil_append, List.append_nil, zc_eq, zc_lt, zc_le, zc_ge, zc_gt]
        all_goals exact hq
      · have q3_z : ¬ 0 ≤ gI M (b + 193 + 1) (161 * (x_z + 1)) := by omega
        simp (disch := omega) only [E_M_tokenCount, B_186_0, b3, B_186_6, B_186_12, z_z, h_z.mo.u, q1_z, q3_z, B_186_37, inI, inL, isT, kInt, kByt, true_and, and_true, an_t, im_t, im_f, or_true, true_or, true_imp_iff, false_imp_iff, not_true_eq_false, not_false_eq_true, gK_uI, gK_uL, gK_uR, gK_uCI, gK_uCL, gN_uI, gN_uL, gN_uR, gN_uCI, gN_uCL, gR_uI, gR_uL, gR_uCI, gR_uCL, gI_uL, gI_uR, gI_uCL, gL_uI, gL_uR, gL_uCI, gz_uI, gz_uL, gz_uR, gz_uCI, gz_uCL, gs_uI, gs_uL, gs_uR, gs_uCI, gs_uCL, rI_at, rL_at, rR_at, rI_ne, rL_ne, rR_ne, rI_nk, rL_nk, rR_nk, rI_eq, rL_eq, rR_eq, Option.toList_some, Option.toList_none, List.cons_append, List.nil_append, List.append_nil, zc_eq, zc_lt, zc_le, zc_ge, zc_gt]
        all_goals exact hq
    · have kp_z := q2_z.2.1.1
      have np := q2_z.1
      have lp := q2_z.2.2.1
      refine same_pure (v_z := gI M (b + 193 + 1) (161 * (x_z + 1))) h_z (fun Q hq => ?_) (fun Q hq => ?_)
      · have np' : ¬ gR M (b + 10 + 1) (x_z + 1) = 0 := np
        have lv : gI M (gR M (b + 10 + 1) (x_z + 1)) 3 = gI M (b + 193 + 1) (161 * (x_z + 1)) := by
          rw [lp]
          exact Int.toNat_of_nonneg q1_z
        simp (disch := omega) only [E_X_tokenCount, B_57_0, b1, B_57_4, B_57_10, sX_z.u, sS.u, np', kp_z, B_57_31, lv, B_57_35, not_false_eq_true, inI, inL, isT, kInt, kByt, true_and, and_true, an_t, im_t, im_f, or_true, true_or, true_imp_iff, false_imp_iff, not_true_eq_false, not_false_eq_true, gK_uI, gK_uL, gK_uR, gK_uCI, gK_uCL, gN_uI, gN_uL, gN_uR, gN_uCI, gN_uCL, gR_uI, gR_uL, gR_uCI, gR_uCL, gI_uL, gI_uR, gI_uCL, gL_uI, gL_uR, gL_uCI, gz_uI, gz_uL, gz_uR, gz_uCI, gz_uCL, gs_uI, gs_uL, gs_uR, gs_uCI, gs_uCL, rI_at, rL_at, rR_at, rI_ne, rL_ne, rR_ne, rI_nk, rL_nk, rR_nk, rI_eq, rL_eq, rR_eq, Option.toList_some, Option.toList_none, List.cons_append, List.nil_append, List.append_nil, zc_eq, zc_lt, zc_le, zc_ge, zc_gt]
        all_goals exact hq
      · simp (disch := omega) only [E_M_tokenCount, B_186_0, b3, B_186_6, B_186_12, z_z, h_z.mo.u, B_186_36, B_186_37, inI, inL, isT, kInt, kByt, true_and, and_true, an_t, im_t, im_f, or_true, true_or, true_imp_iff, false_imp_iff, not_true_eq_false, not_false_eq_true, gK_uI, gK_uL, gK_uR, gK_uCI, gK_uCL, gN_uI, gN_uL, gN_uR, gN_uCI, gN_uCL, gR_uI, gR_uL, gR_uCI, gR_uCL, gI_uL, gI_uR, gI_uCL, gL_uI, gL_uR, gL_uCI, gz_uI, gz_uL, gz_uR, gz_uCI, gz_uCL, gs_uI, gs_uL, gs_uR, gs_uCI, gs_uCL, rI_at, rL_at, rR_at, rI_ne, rL_ne, rR_ne, rI_nk, rL_nk, rR_nk, rI_eq, rL_eq, rR_eq, Option.toList_some, Option.toList_none, List.cons_append, List.nil_append, List.append_nil, zc_eq, zc_lt, zc_le, zc_ge, zc_gt]
        all_goals exact hq
  · refine same_pure (v_z := -10000001) h_z (fun Q hq => ?_) (fun Q hq => ?_)
    · have b1 := fun qq => Y_isStreamF (G := G) (M := M) (Q := qq) (x_z := x_z) cx
      simp (disch := omega) only [E_X_tokenCount, B_57_0, b1, B_57_4, inI, inL, isT, kInt, kByt, true_and, and_true, an_t, im_t, im_f, or_true, true_or, true_imp_iff, false_imp_iff, not_true_eq_false, not_false_eq_true, gK_uI, gK_uL, gK_uR, gK_uCI, gK_uCL, gN_uI, gN_uL, gN_uR, gN_uCI, gN_uCL, gR_uI, gR_uL, gR_uCI, gR_uCL, gI_uL, gI_uR, gI_uCL, gL_uI, gL_uR, gL_uCI, gz_uI, gz_uL, gz_uR, gz_uCI, gz_uCL, gs_uI, gs_uL, gs_uR, gs_uCI, gs_uCL, rI_at, rL_at, rR_at, rI_ne, rL_ne, rR_ne, rI_nk, rL_nk, rR_nk, rI_eq, rL_eq, rR_eq, Option.toList_some, Option.toList_none, List.cons_append, List.nil_append, List.append_nil, zc_eq, zc_lt, zc_le, zc_ge, zc_gt]
      all_goals exact hq
    · have b3 := fun qq => Y_in (G := G) (M := M) (Q := qq) (x_z := x_z) (y_z := -1) (w_z := 5)
      rw [zB_f cx] at b3
      simp (disch := omega) only [E_M_tokenCount, B_186_0, b3, B_186_6, inI, inL, isT, kInt, kByt, true_and, and_true, an_t, im_t, im_f, or_true, true_or, true_imp_iff, false_imp_iff, not_true_eq_false, not_false_eq_true, gK_uI, gK_uL, gK_uR, gK_uCI, gK_uCL, gN_uI, gN_uL, gN_uR, gN_uCI, gN_uCL, gR_uI, gR_uL, gR_uCI, gR_uCL, gI_uL, gI_uR, gI_uCL, gL_uI, gL_uR, gL_uCI, gz_uI, gz_uL, gz_uR, gz_uCI, gz_uCL, gs_uI, gs_uL, gs_uR, gs_uCI, gs_uCL, rI_at, rL_at, rR_at, rI_ne, rL_ne, rR_ne, rI_nk, rL_nk, rR_nk, rI_eq, rL_eq, rR_eq, Option.toList_some, Option.toList_none, List.cons_append, List.nil_append, List.append_nil, zc_eq, zc_lt, zc_le, zc_ge, zc_gt]
      all_goals exact hq
end CL
