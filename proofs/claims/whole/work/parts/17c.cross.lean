/-! THE PURE PART, part 17: a crossing, both sides. Own work. -/
theorem mul40 {a_z b_z : Int} (ha_z : a_z.natAbs ≤ 40000) (hb_z : b_z.natAbs ≤ 40000) : -1600000000 ≤ a_z * b_z ∧ a_z * b_z ≤ 1600000000 := by
  have : (a_z * b_z).natAbs ≤ 40000 * 40000 := by
    rw [Int.natAbs_mul]
    exact Nat.mul_le_mul ha_z hb_z
  omega
section DB
variable {G : Env0} {Q : Option AV → Mem → Prop} {M T : Mem} {r m : Nat}
theorem X_crossC {x_z y_z px py xa ya xb yb : Int} (h_z : ShPa M r) (x0_z : 0 ≤ x_z) (x1_z : x_z < 800) (y0 : 0 ≤ y_z) (y1 : y_z < 800) (hxa : gI M (r + 1) x_z = xa) (hya : gI M (r + 2) x_z = ya) (hxb : gI M (r + 1) y_z = xb) (hyb : gI M (r + 2) y_z = yb) (b1 : xa.natAbs ≤ 16000) (b2 : ya.natAbs ≤ 16000) (b3 : xb.natAbs ≤ 16000) (b4 : yb.natAbs ≤ 16000) (p1_z : px.natAbs ≤ 1000) (p2_z : py.natAbs ≤ 1000) : Call G J_Pa_crossing [a_r r, a_i x_z, a_i y_z, a_i px, a_i py] M Q ↔ Q (some (a_i (crs xa ya xb yb px py))) M := by
  have m1_z := mul40 (a_z := xa - px) (b_z := yb - ya) (by omega) (by omega)
  have m2_z := mul40 (a_z := py - ya) (b_z := xb - xa) (by omega) (by omega)
  have e_z : cro xa ya xb yb px py = (xa - px) * (yb - ya) + (py - ya) * (xb - xa) := rfl
  generalize hP : (xa - px) * (yb - ya) = P_z at *
  generalize hR : (py - ya) * (xb - xa) = R_z at *
  by_cases c1_z : ya ≤ py ∧ py < yb
  · obtain ⟨c11_z, c12_z⟩ := c1_z
    rcases crs_up (xa := xa) (xb := xb) (px := px) ⟨c11_z, c12_z⟩ with ⟨u_z, v_z⟩ | ⟨u_z, v_z⟩
    · rw [v_z]
      rw [e_z] at u_z
      simp (disch := omega) only [E_Pa_crossing, B_148_0, B_148_27, B_148_55, B_148_56, B_148_70, B_148_138, B_148_139, h_z.u, hxa, hya, hxb, hyb, hP, hR, inI, inL, isT, kInt, kByt, true_and, and_true, an_t, im_t, im_f, or_true, true_or, true_imp_iff, false_imp_iff, not_true_eq_false, not_false_eq_true, gK_uI, gK_uL, gK_uR, gK_uCI, gK_uCL, gN_uI, gN_uL, gN_uR, gN_uCI, gN_uCL, gR_uI, gR_uL, gR_uCI, gR_uCL, gI_uL, gI_uR, gI_uCL, gL_uI, gL_uR, gL_uCI, gz_uI, gz_uL, gz_uR, gz_uCI, gz_uCL, gs_uI, gs_uL, gs_uR, gs_uCI, gs_uCL, rI_at, rL_at, rR_at, rI_ne, rL_ne, rR_ne, rI_nk, rL_nk, rR_nk, rI_eq, rL_eq, rR_eq, Option.toList_some, Option.toList_none, List.cons_append, List.nil_append, List.append_nil, zc_eq, zc_lt, zc_le, zc_ge, zc_gt]
    · rw [v_z]
      rw [e_z] at u_z
      simp (disch := omega) only [E_Pa_crossing, B_148_0, B_148_27, B_148_55, B_148_56, B_148_70, B_148_138, B_148_139, h_z.u, hxa, hya, hxb, hyb, hP, hR, inI, inL, isT, kInt, kByt, true_and, and_true, an_t, im_t, im_f, or_true, true_or, true_imp_iff, false_imp_iff, not_true_eq_false, not_false_eq_true, gK_uI, gK_uL, gK_uR, gK_uCI, gK_uCL, gN_uI, gN_uL, gN_uR, gN_uCI, gN_uCL, gR_uI, gR_uL, gR_uCI, gR_uCL, gI_uL, gI_uR, gI_uCL, gL_uI, gL_uR, gL_uCI, gz_uI, gz_uL, gz_uR, gz_uCI, gz_uCL, gs_uI, gs_uL, gs_uR, gs_uCI, gs_uCL, rI_at, rL_at, rR_at, rI_ne, rL_ne, rR_ne, rI_nk, rL_nk, rR_nk, rI_eq, rL_eq, rR_eq, Option.toList_some, Option.toList_none, List.cons_append, List.nil_append, List.append_nil, zc_eq, zc_lt, zc_le, zc_ge, zc_gt]
  · by_cases c2_z : yb ≤ py ∧ py < ya
    · obtain ⟨c21, c22⟩ := c2_z
      rcases crs_dn (xa := xa) (xb := xb) (px := px) ⟨c21, c22⟩ with ⟨u_z, v_z⟩ | ⟨u_z, v_z⟩
      · rw [v_z]
        rw [e_z] at u_z
        simp (disch := omega) only [E_Pa_crossing, B_148_0, B_148_26, B_148_27, B_148_56, B_148_70, B_148_140, B_148_151, B_148_152, h_z.u, hxa, hya, hxb, hyb, hP, hR, inI, inL, isT, kInt, kByt, true_and, and_true, an_t, im_t, im_f, or_true, true_or, true_imp_iff, false_imp_iff, not_true_eq_false, not_false_eq_true, gK_uI, gK_uL, gK_uR, gK_uCI, gK_uCL, gN_uI, gN_uL, gN_uR, gN_uCI, gN_uCL, gR_uI, gR_uL, gR_uCI, gR_uCL, gI_uL, gI_uR, gI_uCL, gL_uI, gL_uR, gL_uCI, gz_uI, gz_uL, gz_uR, gz_uCI, gz_uCL, gs_uI, gs_uL, gs_uR, gs_uCI, gs_uCL, rI_at, rL_at, rR_at, rI_ne, rL_ne, rR_ne, rI_nk, rL_nk, rR_nk, rI_eq, rL_eq, rR_eq, Option.toList_some, Option.toList_none, List.cons_append, List.nil_append, List.append_nil, zc_eq, zc_lt, zc_le, zc_ge, zc_gt]
      · rw [v_z]
        rw [e_z] at u_z
        simp (disch := omega) only [E_Pa_crossing, B_148_0, B_148_26, B_148_27, B_148_56, B_148_70, B_148_140, B_148_151, B_148_152, h_z.u, hxa, hya, hxb, hyb, hP, hR, inI, inL, isT, kInt, kByt, true_and, and_true, an_t, im_t, im_f, or_true, true_or, true_imp_iff, false_imp_iff, not_true_eq_false, not_false_eq_true, gK_uI, gK_uL, gK_uR, gK_uCI, gK_uCL, gN_uI, gN_uL, gN_uR, gN_uCI, gN_uCL, gR_uI, gR_uL, gR_uCI, gR_uCL, gI_uL, gI_uR, gI_uCL, gL_uI, gL_uR, gL_uCI, gz_uI, gz_uL, gz_uR, gz_uCI, gz_uCL, gs_uI, gs_uL, gs_uR, gs_uCI, gs_uCL, rI_at, rL_at, rR_at, rI_ne, rL_ne, rR_ne, rI_nk, rL_nk, rR_nk, rI_eq, rL_eq, rR_eq, Option.toList_some, Option.toList_none, List.cons_append, List.nil_append, List.append_nil, zc_eq, zc_lt, zc_le, zc_ge, zc_gt]
    · rw [crs_no c1_z c2_z]
      by_cases c3_z : py < ya
      · have c4_z : py < yb := by omega
        simp (disch := omega) only [E_Pa_crossing, B_148_0, B_148_26, B_148_27, B_148_55, B_148_56, h_z.u, hxa, hya, hxb, hyb, inI, inL, isT, kInt, kByt, true_and, and_true, an_t, im_t, im_f, or_true, true_or, true_imp_iff, false_imp_iff, not_true_eq_false, not_false_eq_true, gK_uI, gK_uL, gK_uR, gK_uCI, gK_uCL, gN_uI, gN_uL, gN_uR, gN_uCI, gN_uCL, gR_uI, gR_uL, gR_uCI, gR_uCL, gI_uL, gI_uR, gI_uCL, gL_uI, gL_uR, gL_uCI, gz_uI, gz_uL, gz_uR, gz_uCI, gz_uCL, gs_uI, gs_uL, gs_uR, gs_uCI, gs_uCL, rI_at, rL_at, rR_at, rI_ne, rL_ne, rR_ne, rI_nk, rL_nk, rR_nk, rI_eq, rL_eq, rR_eq, Option.toList_some, Option.toList_none, List.cons_append, List.nil_append, List.append_nil, zc_eq, zc_lt, zc_le, zc_ge, zc_gt]
      · have c4_z : yb ≤ py := by omega
        simp (disch := omega) only [E_Pa_crossing, B_148_0, B_148_26, B_148_27, B_148_55, B_148_56, h_z.u, hxa, hya, hxb, hyb, inI, inL, isT, kInt, kByt, true_and, and_true, an_t, im_t, im_f, or_true, true_or, true_imp_iff, false_imp_iff, not_true_eq_false, not_false_eq_true, gK_uI, gK_uL, gK_uR, gK_uCI, gK_uCL, gN_uI, gN_uL, gN_uR, gN_uCI, gN_uCL, gR_uI, gR_uL, gR_uCI, gR_uCL, gI_uL, gI_uR, gI_uCL, gL_uI, gL_uR, gL_uCI, gz_uI, gz_uL, gz_uR, gz_uCI, gz_uCL, gs_uI, gs_uL, gs_uR, gs_uCI, gs_uCL, rI_at, rL_at, rR_at, rI_ne, rL_ne, rR_ne, rI_nk, rL_nk, rR_nk, rI_eq, rL_eq, rR_eq, Option.toList_some, Option.toList_none, List.cons_append, List.nil_append, List.append_nil, zc_eq, zc_lt, zc_le, zc_ge, zc_gt]
theorem X_crossM {x_z y_z px py xa ya xb yb : Int} (h_z : ShM T m) (x0_z : 0 ≤ x_z) (x1_z : x_z < 4848) (y0 : 0 ≤ y_z) (y1 : y_z < 4848) (hxa : gI T (m + 11) x_z = xa) (hya : gI T (m + 12) x_z = ya) (hxb : gI T (m + 11) y_z = xb) (hyb : gI T (m + 12) y_z = yb) (b1 : xa.natAbs ≤ 16000) (b2 : ya.natAbs ≤ 16000) (b3 : xb.natAbs ≤ 16000) (b4 : yb.natAbs ≤ 16000) (p1_z : px.natAbs ≤ 1000) (p2_z : py.natAbs ≤ 1000) : Call G J_M_crossing [a_r m, a_i x_z, a_i y_z, a_i px, a_i py] T Q ↔ Q (some (a_i (crs xa ya xb yb px py))) T := by
  have m1_z := mul40 (a_z := xa - px) (b_z := yb - ya) (by omega) (by omega)
  have m2_z := mul40 (a_z := py - ya) (b_z := xb - xa) (by omega) (by omega)
  have e_z : cro xa ya xb yb px py = (xa - px) * (yb - ya) + (py - ya) * (xb - xa) := rfl
  generalize hP : (xa - px) * (yb - ya) = P_z at *
  generalize hR : (py - ya) * (xb - xa) = R_z at *
  by_cases c1_z : ya ≤ py ∧ py < yb
  · obtain ⟨c11_z, c12_z⟩ := c1_z
    rcases crs_up (xa := xa) (xb := xb) (px := px) ⟨c11_z, c12_z⟩ with ⟨u_z, v_z⟩ | ⟨u_z, v_z⟩
    · rw [v_z]
      rw [e_z] at u_z
      simp (disch := omega) only [E_M_crossing, B_249_0, B_249_53, B_249_127, B_249_128, h_z.u, hxa, hya, hxb, hyb, hP, hR, inI, inL, isT, kInt, kByt, true_and, and_true, an_t, im_t, im_f, or_true, true_or, true_imp_iff, false_imp_iff, not_true_eq_false, not_false_eq_true, gK_uI, gK_uL, gK_uR, gK_uCI, gK_uCL, gN_uI, gN_uL, gN_uR, gN_uCI, gN_uCL, gR_uI, gR_uL, gR_uCI, gR_uCL, gI_uL, gI_uR, gI_uCL, gL_uI, gL_uR, gL_uCI, gz_uI, gz_uL, gz_uR, gz_uCI, gz_uCL, gs_uI, gs_uL, gs_uR, gs_uCI, gs_uCL, rI_at, rL_at, rR_at, rI_ne, rL_ne, rR_ne, rI_nk, rL_nk, rR_nk, rI_eq, rL_eq, rR_eq, Option.toList_some, Option.toList_none, List.cons_append, List.nil_append, List.append_nil, zc_eq, zc_lt, zc_le, zc_ge, zc_gt]
    · rw [v_z]
      rw [e_z] at u_z
      simp (disch := omega) only [E_M_crossing, B_249_0, B_249_53, B_249_127, B_249_128, h_z.u, hxa, hya, hxb, hyb, hP, hR, inI, inL, isT, kInt, kByt, true_and, and_true, an_t, im_t, im_f, or_true, true_or, true_imp_iff, false_imp_iff, not_true_eq_false, not_false_eq_true, gK_uI, gK_uL, gK_uR, gK_uCI, gK_uCL, gN_uI, gN_uL, gN_uR, gN_uCI, gN_uCL, gR_uI, gR_uL, gR_uCI, gR_uCL, gI_uL, gI_uR, gI_uCL, gL_uI, gL_uR, gL_uCI, gz_uI, gz_uL, gz_uR, gz_uCI, gz_uCL, gs_uI, gs_uL, gs_uR, gs_uCI, gs_uCL, rI_at, rL_at, rR_at, rI_ne, rL_ne, rR_ne, rI_nk, rL_nk, rR_nk, rI_eq, rL_eq, rR_eq, Option.toList_some, Option.toList_none, List.cons_append, List.nil_append, List.append_nil, zc_eq, zc_lt, zc_le, zc_ge, zc_gt]
  · by_cases c2_z : yb ≤ py ∧ py < ya
    · obtain ⟨c21, c22⟩ := c2_z
      rcases crs_dn (xa := xa) (xb := xb) (px := px) ⟨c21, c22⟩ with ⟨u_z, v_z⟩ | ⟨u_z, v_z⟩
      · rw [v_z]
        rw [e_z] at u_z
        simp (disch := omega) only [E_M_crossing, B_249_0, B_249_26, B_249_53, B_249_127, B_249_128, h_z.u, hxa, hya, hxb, hyb, hP, hR, inI, inL, isT, kInt, kByt, true_and, and_true, an_t, im_t, im_f, or_true, true_or, true_imp_iff, false_imp_iff, not_true_eq_false, not_false_eq_true, gK_uI, gK_uL, gK_uR, gK_uCI, gK_uCL, gN_uI, gN_uL, gN_uR, gN_uCI, gN_uCL, gR_uI, gR_uL, gR_uCI, gR_uCL, gI_uL, gI_uR, gI_uCL, gL_uI, gL_uR, gL_uCI, gz_uI, gz_uL, gz_uR, gz_uCI, gz_uCL, gs_uI, gs_uL, gs_uR, gs_uCI, gs_uCL, rI_at, rL_at, rR_at, rI_ne, rL_ne, rR_ne, rI_nk, rL_nk, rR_nk, rI_eq, rL_eq, rR_eq, Option.toList_some, Option.toList_none, List.cons_append, List.nil_append, List.append_nil, zc_eq, zc_lt, zc_le, zc_ge, zc_gt]
      · rw [v_z]
        rw [e_z] at u_z
        simp (disch := omega) only [E_M_crossing, B_249_0, B_249_26, B_249_53, B_249_127, B_249_128, h_z.u, hxa, hya, hxb, hyb, hP, hR, inI, inL, isT, kInt, kByt, true_and, and_true, an_t, im_t, im_f, or_true, true_or, true_imp_iff, false_imp_iff, not_true_eq_false, not_false_eq_true, gK_uI, gK_uL, gK_uR, gK_uCI, gK_uCL, gN_uI, gN_uL, gN_uR, gN_uCI, gN_uCL, gR_uI, gR_uL, gR_uCI, gR_uCL, gI_uL, gI_uR, gI_uCL, gL_uI, gL_uR, gL_uCI, gz_uI, gz_uL, gz_uR, gz_uCI, gz_uCL, gs_uI, gs_uL, gs_uR, gs_uCI, gs_uCL, rI_at, rL_at, rR_at, rI_ne, rL_ne, rR_ne, rI_nk, rL_nk, rR_nk, rI_eq, rL_eq, rR_eq, Option.toList_some, Option.toList_none, List.cons_append, List.nil_append, List.append_nil, zc_eq, zc_lt, zc_le, zc_ge, zc_gt]
    · rw [crs_no c1_z c2_z]
      by_cases c3_z : py < ya
      · have c4_z : py < yb := by omega
        simp (disch := omega) only [E_M_crossing, B_249_0, B_249_26, B_249_52, B_249_53, B_249_127, B_249_128, h_z.u, hxa, hya, hxb, hyb, hP, hR, inI, inL, isT, kInt, kByt, true_and, and_true, an_t, im_t, im_f, or_true, true_or, true_imp_iff, false_imp_iff, not_true_eq_false, not_false_eq_true, gK_uI, gK_uL, gK_uR, gK_uCI, gK_uCL, gN_uI, gN_uL, gN_uR, gN_uCI, gN_uCL, gR_uI, gR_uL, gR_uCI, gR_uCL, gI_uL, gI_uR, gI_uCL, gL_uI, gL_uR, gL_uCI, gz_uI, gz_uL, gz_uR, gz_uCI, gz_uCL, gs_uI, gs_uL, gs_uR, gs_uCI, gs_uCL, rI_at, rL_at, rR_at, rI_ne, rL_ne, rR_ne, rI_nk, rL_nk, rR_nk, rI_eq, rL_eq, rR_eq, Option.toList_some, Option.toList_none, List.cons_append, List.nil_append, List.append_nil, zc_eq, zc_lt, zc_le, zc_ge, zc_gt]
      · have c4_z : yb ≤ py := by omega
        simp (disch := omega) only [E_M_crossing, B_249_0, B_249_26, B_249_52, B_249_53, B_249_127, B_249_128, h_z.u, hxa, hya, hxb, hyb, hP, hR, inI, inL, isT, kInt, kByt, true_and, and_true, an_t, im_t, im_f, or_true, true_or, true_imp_iff, false_imp_iff, not_true_eq_false, not_false_eq_true, gK_uI, gK_uL, gK_uR, gK_uCI, gK_uCL, gN_uI, gN_uL, gN_uR, gN_uCI, gN_uCL, gR_uI, gR_uL, gR_uCI, gR_uCL, gI_uL, gI_uR, gI_uCL, gL_uI, gL_uR, gL_uCI, gz_uI, gz_uL, gz_uR, gz_uCI, gz_uCL, gs_uI, gs_uL, gs_uR, gs_uCI, gs_uCL, rI_at, rL_at, rR_at, rI_ne, rL_ne, rR_ne, rI_nk, rL_nk, rR_nk, rI_eq, rL_eq, rR_eq, Option.toList_some, Option.toList_none, List.cons_append, List.nil_append, List.append_nil, zc_eq, zc_lt, zc_le, zc_ge, zc_gt]
/-- the point behind a_z point -/
theorem X_nextC {a_z n_z i_z f_z e_z : Int} {F_z : Int → Int} {k_z : Nat} (h_z : ShPa M r) (hi_z : i_z = a_z + k_z) (hf : f_z = a_z + fsP F_z k_z) (he : e_z = a_z + n_z) (a0_z : 0 ≤ a_z) (an : a_z + n_z ≤ 800) (kn_z : (k_z : Int) < n_z) (hF : ∀ i_z, 0 ≤ i_z → i_z < n_z → gI M (r + 3) (a_z + i_z) = F_z i_z) : Call G J_Pa_findNext [a_r r, a_i i_z, a_i f_z, a_i e_z] M Q ↔ Q (some (a_i (a_z + nxP F_z n_z k_z))) M := by
  unfold nxP
  by_cases c1_z : (k_z : Int) + 1 < n_z
  · have g_z := hF ((k_z : Int) + 1) (by omega) c1_z
    rw [show a_z + ((k_z : Int) + 1) = i_z + 1 from by omega] at g_z
    by_cases c2_z : F_z ((k_z : Int) + 1) = 0
    · rw [if_pos ⟨c1_z, c2_z⟩, show a_z + ((k_z : Int) + 1) = i_z + 1 from by omega]
      simp (disch := omega) only [E_Pa_findNext, B_147_0, B_147_25, h_z.u, g_z, c2_z, not_true_eq_false, inI, inL, isT, kInt, kByt, true_and, and_true, an_t, im_t, im_f, or_true, true_or, true_imp_iff, false_imp_iff, not_true_eq_false, not_false_eq_true, gK_uI, gK_uL, gK_uR, gK_uCI, gK_uCL, gN_uI, gN_uL, gN_uR, gN_uCI, gN_uCL, gR_uI, gR_uL, gR_uCI, gR_uCL, gI_uL, gI_uR, gI_uCL, gL_uI, gL_uR, gL_uCI, gz_uI, gz_uL, gz_uR, gz_uCI, gz_uCL, gs_uI, gs_uL, gs_uR, gs_uCI, gs_uCL, rI_at, rL_at, rR_at, rI_ne, rL_ne, rR_ne, rI_nk, rL_nk, rR_nk, rI_eq, rL_eq, rR_eq, Option.toList_some, Option.toList_none, List.cons_append, List.nil_append, List.append_nil, zc_eq, zc_lt, zc_le, zc_ge, zc_gt]
    · rw [if_neg (fun q_z => c2_z q_z.2), ← hf]
      simp (disch := omega) only [E_Pa_findNext, B_147_0, B_147_24, B_147_25, h_z.u, g_z, c2_z, not_false_eq_true, inI, inL, isT, kInt, kByt, true_and, and_true, an_t, im_t, im_f, or_true, true_or, true_imp_iff, false_imp_iff, not_true_eq_false, not_false_eq_true, gK_uI, gK_uL, gK_uR, gK_uCI, gK_uCL, gN_uI, gN_uL, gN_uR, gN_uCI, gN_uCL, gR_uI, gR_uL, gR_uCI, gR_uCL, gI_uL, gI_uR, gI_uCL, gL_uI, gL_uR, gL_uCI, gz_uI, gz_uL, gz_uR, gz_uCI, gz_uCL, gs_uI, gs_uL, gs_uR, gs_uCI, gs_uCL, rI_at, rL_at, rR_at, rI_ne, rL_ne, rR_ne, rI_nk, rL_nk, rR_nk, rI_eq, rL_eq, rR_eq, Option.toList_some, Option.toList_none, List.cons_append, List.nil_append, List.append_nil, zc_eq, zc_lt, zc_le, zc_ge, zc_gt]
  · rw [if_neg (fun q_z => c1_z q_z.1), ← hf]
    simp (disch := omega) only [E_Pa_findNext, B_147_0, B_147_24, B_147_25, inI, inL, isT, kInt, kByt, true_and, and_true, an_t, im_t, im_f, or_true, true_or, true_imp_iff, false_imp_iff, not_true_eq_false, not_false_eq_true, gK_uI, gK_uL, gK_uR, gK_uCI, gK_uCL, gN_uI, gN_uL, gN_uR, gN_uCI, gN_uCL, gR_uI, gR_uL, gR_uCI, gR_uCL, gI_uL, gI_uR, gI_uCL, gL_uI, gL_uR, gL_uCI, gz_uI, gz_uL, gz_uR, gz_uCI, gz_uCL, gs_uI, gs_uL, gs_uR, gs_uCI, gs_uCL, rI_at, rL_at, rR_at, rI_ne, rL_ne, rR_ne, rI_nk, rL_nk, rR_nk, rI_eq, rL_eq, rR_eq, Option.toList_some, Option.toList_none, List.cons_append, List.nil_append, List.append_nil, zc_eq, zc_lt, zc_le, zc_ge, zc_gt]
end DB
