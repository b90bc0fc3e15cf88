/-! THE PURE PART, part 16: resources; what asks about edits. Own work. -/
section CK
variable {G : Env0} {Q : Option AV → Mem → Prop} {M : Mem} {b : Nat}
theorem Inv.mo (h_z : Inv G M b) : ShM M (b + 193) := by
  obtain ⟨-, n_z, f_z, ps_z, tl, tx, -, -, hM_z, -⟩ := h_z
  exact hM_z.1
/-- the state says what the row says -/
theorem Inv.ed (h_z : Inv G M b) : EdRow G M (b + 10) (gI M (b + 193 + 1)) := by
  obtain ⟨-, n_z, f_z, ps_z, tl, tx, hE, -, hM_z, -⟩ := h_z
  rw [hM_z.2.2.1]
  exact hE.2.2.2.2.1
theorem Y_nm {x_z y_z : Int} : Call G J_M_isName [a_i x_z, a_i y_z] M Q ↔ Q (some (a_i (zB ((-1 ≤ x_z ∧ x_z ≤ 5) ∧ 0 ≤ y_z ∧ y_z ≤ 7)))) M := by
  have b1 := fun qq => Y_in (G := G) (M := M) (Q := qq) (x_z := x_z) (y_z := -1) (w_z := 5)
  have b2 := fun qq => Y_in (G := G) (M := M) (Q := qq) (x_z := y_z) (y_z := 0) (w_z := 7)
  by_cases c1_z : -1 ≤ x_z ∧ x_z ≤ 5
  · rw [zB_t c1_z] at b1
    by_cases c2_z : 0 ≤ y_z ∧ y_z ≤ 7
    · rw [zB_t c2_z] at b2
      rw [zB_t ⟨c1_z, c2_z⟩]
      simp (disch := omega) only [E_M_isName, B_191_0, b1, B_191_6, b2, B_191_16, B_191_24, inI, inL, isT, kInt, kByt, true_and, and_true, an_t, im_t, im_f, or_true, true_or, true_imp_iff, false_imp_iff, not_true_eq_false, not_false_eq_true, gK_uI, gK_uL, gK_uR, gK_uCI, gK_uCL, gN_uI, gN_uL, gN_uR, gN_uCI, gN_uCL, gR_uI, gR_uL, gR_uCI, gR_uCL, gI_uL, gI_uR, gI_uCL, gL_uI, gL_uR, gL_uCI, gz_uI, gz_uL, gz_uR, gz_uCI, gz_uCL, gs_uI, gs_uL, gs_uR, gs_uCI, gs_uCL, rI_at, rL_at, rR_at, rI_ne, rL_ne, rR_ne, rI_nk, rL_nk, rR_nk, rI_eq, rL_eq, rR_eq, Option.toList_some, Option.toList_none, List.cons_append, List.nil_append, List.append_nil, zc_eq, zc_lt, zc_le, zc_ge, zc_gt]
    · rw [zB_f c2_z] at b2
      rw [zB_f (fun q_z => c2_z q_z.2)]
      simp (disch := omega) only [E_M_isName, B_191_0, b1, B_191_6, b2, B_191_16, B_191_23, B_191_24, inI, inL, isT, kInt, kByt, true_and, and_true, an_t, im_t, im_f, or_true, true_or, true_imp_iff, false_imp_iff, not_true_eq_false, not_false_eq_true, gK_uI, gK_uL, gK_uR, gK_uCI, gK_uCL, gN_uI, gN_uL, gN_uR, gN_uCI, gN_uCL, gR_uI, gR_uL, gR_uCI, gR_uCL, gI_uL, gI_uR, gI_uCL, gL_uI, gL_uR, gL_uCI, gz_uI, gz_uL, gz_uR, gz_uCI, gz_uCL, gs_uI, gs_uL, gs_uR, gs_uCI, gs_uCL, rI_at, rL_at, rR_at, rI_ne, rL_ne, rR_ne, rI_nk, rL_nk, rR_nk, rI_eq, rL_eq, rR_eq, Option.toList_some, Option.toList_none, List.cons_append, List.nil_append, List.append_nil, zc_eq, zc_lt, zc_le, zc_ge, zc_gt]
  · rw [zB_f c1_z] at b1
    rw [zB_f (fun q_z => c1_z q_z.1)]
    simp (disch := omega) only [E_M_isName, B_191_0, b1, B_191_6, B_191_23, B_191_24, inI, inL, isT, kInt, kByt, true_and, and_true, an_t, im_t, im_f, or_true, true_or, true_imp_iff, false_imp_iff, not_true_eq_false, not_false_eq_true, gK_uI, gK_uL, gK_uR, gK_uCI, gK_uCL, gN_uI, gN_uL, gN_uR, gN_uCI, gN_uCL, gR_uI, gR_uL, gR_uCI, gR_uCL, gI_uL, gI_uR, gI_uCL, gL_uI, gL_uR, gL_uCI, gz_uI, gz_uL, gz_uR, gz_uCI, gz_uCL, gs_uI, gs_uL, gs_uR, gs_uCI, gs_uCL, rI_at, rL_at, rR_at, rI_ne, rL_ne, rR_ne, rI_nk, rL_nk, rR_nk, rI_eq, rL_eq, rR_eq, Option.toList_some, Option.toList_none, List.cons_append, List.nil_append, List.append_nil, zc_eq, zc_lt, zc_le, zc_ge, zc_gt]
theorem Y_isRes {x_z y_z : Int} : Call G J_X_isResource [a_i x_z, a_i y_z] M Q ↔ Q (some (a_i (zB ((x_z = 1 ∧ 0 ≤ y_z ∧ y_z ≤ 15) ∨ (x_z = 2 ∧ 0 ≤ y_z ∧ y_z ≤ 5))))) M := by
  by_cases c1_z : x_z = 1
  · subst c1_z
    by_cases c2_z : 0 ≤ y_z ∧ y_z ≤ 15
    · have b1 := fun qq => Y_isBetweenT (G := G) (M := M) (Q := qq) (x_z := y_z) (y_z := 0) (w_z := 15) c2_z
      rw [zB_t (by omega)]
      simp (disch := omega) only [E_X_isResource, B_64_0, b1, B_64_12, inI, inL, isT, kInt, kByt, true_and, and_true, an_t, im_t, im_f, or_true, true_or, true_imp_iff, false_imp_iff, not_true_eq_false, not_false_eq_true, gK_uI, gK_uL, gK_uR, gK_uCI, gK_uCL, gN_uI, gN_uL, gN_uR, gN_uCI, gN_uCL, gR_uI, gR_uL, gR_uCI, gR_uCL, gI_uL, gI_uR, gI_uCL, gL_uI, gL_uR, gL_uCI, gz_uI, gz_uL, gz_uR, gz_uCI, gz_uCL, gs_uI, gs_uL, gs_uR, gs_uCI, gs_uCL, rI_at, rL_at, rR_at, rI_ne, rL_ne, rR_ne, rI_nk, rL_nk, rR_nk, rI_eq, rL_eq, rR_eq, Option.toList_some, Option.toList_none, List.cons_append, List.nil_append, List.append_nil, zc_eq, zc_lt, zc_le, zc_ge, zc_gt]
    · have b1 := fun qq => Y_isBetweenF (G := G) (M := M) (Q := qq) (x_z := y_z) (y_z := 0) (w_z := 15) c2_z
      rw [zB_f (by omega)]
      simp (disch := omega) only [E_X_isResource, B_64_0, b1, B_64_12, inI, inL, isT, kInt, kByt, true_and, and_true, an_t, im_t, im_f, or_true, true_or, true_imp_iff, false_imp_iff, not_true_eq_false, not_false_eq_true, gK_uI, gK_uL, gK_uR, gK_uCI, gK_uCL, gN_uI, gN_uL, gN_uR, gN_uCI, gN_uCL, gR_uI, gR_uL, gR_uCI, gR_uCL, gI_uL, gI_uR, gI_uCL, gL_uI, gL_uR, gL_uCI, gz_uI, gz_uL, gz_uR, gz_uCI, gz_uCL, gs_uI, gs_uL, gs_uR, gs_uCI, gs_uCL, rI_at, rL_at, rR_at, rI_ne, rL_ne, rR_ne, rI_nk, rL_nk, rR_nk, rI_eq, rL_eq, rR_eq, Option.toList_some, Option.toList_none, List.cons_append, List.nil_append, List.append_nil, zc_eq, zc_lt, zc_le, zc_ge, zc_gt]
  · by_cases c3_z : x_z = 2
    · subst c3_z
      by_cases c2_z : 0 ≤ y_z ∧ y_z ≤ 5
      · have b1 := fun qq => Y_isFormT (G := G) (M := M) (Q := qq) (x_z := y_z) c2_z
        rw [zB_t (by omega)]
        simp (disch := omega) only [E_X_isResource, B_64_0, B_64_13, b1, B_64_22, B_64_30, inI, inL, isT, kInt, kByt, true_and, and_true, an_t, im_t, im_f, or_true, true_or, true_imp_iff, false_imp_iff, not_true_eq_false, not_false_eq_true, gK_uI, gK_uL, gK_uR, gK_uCI, gK_uCL, gN_uI, gN_uL, gN_uR, gN_uCI, gN_uCL, gR_uI, gR_uL, gR_uCI, gR_uCL, gI_uL, gI_uR, gI_uCL, gL_uI, gL_uR, gL_uCI, gz_uI, gz_uL, gz_uR, gz_uCI, gz_uCL, gs_uI, gs_uL, gs_uR, gs_uCI, gs_uCL, rI_at, rL_at, rR_at, rI_ne, rL_ne, rR_ne, rI_nk, rL_nk, rR_nk, rI_eq, rL_eq, rR_eq, Option.toList_some, Option.toList_none, List.cons_append, List.nil_append, List.append_nil, zc_eq, zc_lt, zc_le, zc_ge, zc_gt]
      · have b1 := fun qq => Y_isFormF (G := G) (M := M) (Q := qq) (x_z := y_z) c2_z
        rw [zB_f (by omega)]
        simp (disch := omega) only [E_X_isResource, B_64_0, B_64_13, b1, B_64_22, B_64_29, B_64_30, inI, inL, isT, kInt, kByt, true_and, and_true, an_t, im_t, im_f, or_true, true_or, true_imp_iff, false_imp_iff, not_true_eq_false, not_false_eq_true, gK_uI, gK_uL, gK_uR, gK_uCI, gK_uCL, gN_uI, gN_uL, gN_uR, gN_uCI, gN_uCL, gR_uI, gR_uL, gR_uCI, gR_uCL, gI_uL, gI_uR, gI_uCL, gL_uI, gL_uR, gL_uCI, gz_uI, gz_uL, gz_uR, gz_uCI, gz_uCL, gs_uI, gs_uL, gs_uR, gs_uCI, gs_uCL, rI_at, rL_at, rR_at, rI_ne, rL_ne, rR_ne, rI_nk, rL_nk, rR_nk, rI_eq, rL_eq, rR_eq, Option.toList_some, Option.toList_none, List.cons_append, List.nil_append, List.append_nil, zc_eq, zc_lt, zc_le, zc_ge, zc_gt]
    · rw [zB_f (by omega)]
      simp (disch := omega) only [E_X_isResource, B_64_0, c1_z, c3_z, B_64_13, B_64_29, B_64_30, inI, inL, isT, kInt, kByt, true_and, and_true, an_t, im_t, im_f, or_true, true_or, true_imp_iff, false_imp_iff, not_true_eq_false, not_false_eq_true, gK_uI, gK_uL, gK_uR, gK_uCI, gK_uCL, gN_uI, gN_uL, gN_uR, gN_uCI, gN_uCL, gR_uI, gR_uL, gR_uCI, gR_uCL, gI_uL, gI_uR, gI_uCL, gL_uI, gL_uR, gL_uCI, gz_uI, gz_uL, gz_uR, gz_uCI, gz_uCL, gs_uI, gs_uL, gs_uR, gs_uCI, gs_uCL, rI_at, rL_at, rR_at, rI_ne, rL_ne, rR_ne, rI_nk, rL_nk, rR_nk, rI_eq, rL_eq, rR_eq, Option.toList_some, Option.toList_none, List.cons_append, List.nil_append, List.append_nil, zc_eq, zc_lt, zc_le, zc_ge, zc_gt]
theorem X_putRes {s_z : Nat} {x_z y_z v_z : Int} (hs : ShSa M s_z) (hx : -1 ≤ x_z ∧ x_z ≤ 5) (hy : 0 ≤ y_z ∧ y_z ≤ 7) : Call G J_Sa_putResource [a_r s_z, a_i x_z, a_i y_z, a_i v_z] M Q ↔ Q none (uI M (s_z + 4) ((x_z + 1) * 8 + y_z) v_z) := by
  have b1 := fun qq => Y_isStreamT (G := G) (M := M) (Q := qq) (x_z := x_z) hx
  have b2 := fun qq => Y_isNameT (G := G) (M := M) (Q := qq) (x_z := y_z) hy
  simp (disch := omega) only [E_Sa_putResource, B_66_0, B_66_4, B_66_11, B_66_28, b1, b2, hs.u, inI, inL, isT, kInt, kByt, true_and, and_true, an_t, im_t, im_f, or_true, true_or, true_imp_iff, false_imp_iff, not_true_eq_false, not_false_eq_true, gK_uI, gK_uL, gK_uR, gK_uCI, gK_uCL, gN_uI, gN_uL, gN_uR, gN_uCI, gN_uCL, gR_uI, gR_uL, gR_uCI, gR_uCL, gI_uL, gI_uR, gI_uCL, gL_uI, gL_uR, gL_uCI, gz_uI, gz_uL, gz_uR, gz_uCI, gz_uCL, gs_uI, gs_uL, gs_uR, gs_uCI, gs_uCL, rI_at, rL_at, rR_at, rI_ne, rL_ne, rR_ne, rI_nk, rL_nk, rR_nk, rI_eq, rL_eq, rR_eq, Option.toList_some, Option.toList_none, List.cons_append, List.nil_append, List.append_nil, zc_eq, zc_lt, zc_le, zc_ge, zc_gt]
/-- a resource written, in the class -/
theorem EdRow.res {M1_z : Mem} {f_z : Int → Int} {n_z : Nat} {ps_z : Nat → Int → Int} {k_z v_z : Int} (hE1 : ClE G M1_z b n_z f_z ps_z) (k0_z : 0 ≤ k_z) (k1_z : k_z < 56) (hv : v_z = 0 ∨ (100 ≤ v_z ∧ v_z ≤ 115) ∨ (200 ≤ v_z ∧ v_z ≤ 205)) : EdRow G (uI M1_z (b + 10 + 4) k_z v_z) (b + 10) (upf f_z (1157 + k_z) v_z) := by
  have e5_z := hE1.2.2.2.2.1
  obtain ⟨-, -, c3_z, c4_z, c5_z, c6_z, c7_z⟩ := id e5_z
  refine EdRow.upd e5_z (outS_uI (by omega)) hE1.2.2.2.2.2.2.1 rfl (fun k_z k0_z k1_z => by rw [upf_ne _ _ (by omega)]) (fun i_z i0_z i1_z => ?_) (fun i_z i0_z i1_z => ?_) ?_ ?_ ?_
  · rw [rI_ne (by omega), rI_ne (by omega), upf_ne _ _ (by omega)]
    obtain ⟨d1_z, d2_z, d3_z⟩ := c3_z i_z i0_z i1_z
    exact ⟨d1_z, d2_z, fun j_z j0 j1 => by rw [upf_ne _ _ (by omega)]; exact d3_z j_z j0 j1⟩
  · by_cases ci : i_z = k_z
    · subst ci
      rw [rI_at, upf_at]
      exact ⟨rfl, hv⟩
    · rw [rI_nk ci, upf_ne _ _ (by omega)]
      exact c4_z i_z i0_z i1_z
  · rw [rI_ne (by omega), upf_ne _ _ (by omega)]
    exact c5_z
  · rw [rI_ne (by omega), upf_ne _ _ (by omega)]
    exact c6_z
  · rw [rI_ne (by omega), upf_ne _ _ (by omega)]
    exact c7_z
theorem s_define {x_z y_z k_z v_z : Int} (h_z : Inv G M b) : Same G b J_X_define J_M_define [a_i x_z, a_i y_z, a_i k_z, a_i v_z] M := by
  by_cases good_z : (-1 ≤ x_z ∧ x_z ≤ 5) ∧ (0 ≤ y_z ∧ y_z ≤ 7) ∧ ((k_z = 1 ∧ 0 ≤ v_z ∧ v_z ≤ 15) ∨ (k_z = 2 ∧ 0 ≤ v_z ∧ v_z ≤ 5))
  · obtain ⟨cx, cy, ck⟩ := good_z
    have vb : (100 ≤ k_z * 100 + v_z ∧ k_z * 100 + v_z ≤ 115) ∨ (200 ≤ k_z * 100 + v_z ∧ k_z * 100 + v_z ≤ 205) := by omega
    refine same_edit (g_z := fun f_z => upf f_z (1157 + ((x_z + 1) * 8 + y_z)) (k_z * 100 + v_z)) (v_z := fun f_z => if f_z (1157 + ((x_z + 1) * 8 + y_z)) = 0 then 0 else 1) h_z (fun n_z f_z ps_z hE Q hQ => ?_) (fun M1_z n_z f_z ps_z tl tx n6_z hf hM_z Q hQ => ?_)
    · have hS_z := h_z.1
      have sX_z := hS_z.1
      have b1 := fun qq => Y_isStreamT (G := G) (M := M) (Q := qq) (x_z := x_z) cx
      have b2 := fun qq => Y_isNameT (G := G) (M := M) (Q := qq) (x_z := y_z) cy
      have b3 := fun qq => Y_isRes (G := G) (M := M) (Q := qq) (x_z := k_z) (y_z := v_z)
      rw [zB_t ck] at b3
      have sv : Call G J_X_saveState [a_r (b + 1)] M (fun r_z M2_z => At G 63 30 [a_r (b + 1), a_i x_z, a_i y_z, a_i k_z, a_i v_z, a_u] r_z.toList M2_z Q) := by
        refine X_saveState hS_z hE (fun M1_z o1 hS1 hE1 => ?_)
        have sX1 := hS1.1
        have sS1 := hS1.2.2.1
        have ed := EdRow.res (v_z := k_z * 100 + v_z) hE1 (show 0 ≤ (x_z + 1) * 8 + y_z by omega) (by omega) (Or.inr vb)
        have old_z : gI M1_z (b + 10 + 4) ((x_z + 1) * 8 + y_z) = f_z (1157 + ((x_z + 1) * 8 + y_z)) := (hE1.2.2.2.2.1.2.2.2.1 ((x_z + 1) * 8 + y_z) (by omega) (by omega)).1
        obtain ⟨p0_z, p1_z, p2_z⟩ := putC o1 hS1 hE1 (outS_uI (by omega)) rfl (fun a_z ha_z => by rw [rI_ne (by omega)]) ed
        have fin_z := hQ _ p0_z p1_z p2_z
        have fr_z := fun qq => X_findRes (G := G) (Q := qq) (M := M1_z) sS1 cx cy
        rw [old_z] at fr_z
        have pr := fun qq => X_putRes (G := G) (Q := qq) (M := M1_z) (v_z := k_z * 100 + v_z) sS1 cx cy
        have iv_z : inI (k_z * 100) ∧ inI (k_z * 100 + v_z) := ⟨⟨by omega, by omega⟩, ⟨by omega, by omega⟩⟩
        generalize f_z (1157 + ((x_z + 1) * 8 + y_z)) = w_z at *
        by_cases c0_z : w_z = 0
        · rw [if_pos c0_z] at fin_z
          simp (disch := omega) only [B_63_30, sX1.u, sS1.u, fr_z, B_63_39, iv_z, pr, B_63_57, c0_z, not_true_eq_false, not_false_eq_true, B_63_67, gK_uI, gK_uL, gK_uR, gK_uCI, gK_uCL, gN_uI, gN_uL, gN_uR, gN_uCI, gN_uCL, gR_uI, gR_uL, gR_uCI, gR_uCL, gI_uL, gI_uR, gI_uCL, gL_uI, gL_uR, gL_uCI, gz_uI, gz_uL, gz_uR, gz_uCI, gz_uCL, gs_uI, gs_uL, gs_uR, gs_uCI, gs_uCL, rI_at, rL_at, rR_at, rI_ne, rL_ne, rR_ne, rI_nk, rL_nk, rR_nk, rI_eq, rL_eq, rR_eq, Option.toList_some, Option.toList_none, List.cons_append, List.nil_append, List.append_nil, true_and, and_true, false_imp_iff, true_imp_iff]
          all_goals exact fin_z
        · rw [if_neg c0_z] at fin_z
          simp (disch := omega) only [B_63_30, sX1.u, sS1.u, fr_z, B_63_39, iv_z, pr, B_63_57, c0_z, not_false_eq_true, not_true_eq_false, B_63_66, B_63_67, gK_uI, gK_uL, gK_uR, gK_uCI, gK_uCL, gN_uI, gN_uL, gN_uR, gN_uCI, gN_uCL, gR_uI, gR_uL, gR_uCI, gR_uCL, gI_uL, gI_uR, gI_uCL, gL_uI, gL_uR, gL_uCI, gz_uI, gz_uL, gz_uR, gz_uCI, gz_uCL, gs_uI, gs_uL, gs_uR, gs_uCI, gs_uCL, rI_at, rL_at, rR_at, rI_ne, rL_ne, rR_ne, rI_nk, rL_nk, rR_nk, rI_eq, rL_eq, rR_eq, Option.toList_some, Option.toList_none, List.cons_append, List.nil_append, List.append_nil, true_and, and_true, false_imp_iff, true_imp_iff]
          all_goals exact fin_z
      simp (disch := omega) only [E_X_define, B_63_0, b1, B_63_4, b2, B_63_11, b3, B_63_20, B_63_26, sX_z.u, inI, inL, isT, kInt, kByt, true_and, and_true, an_t, im_t, im_f, or_true, true_or, true_imp_iff, false_imp_iff, not_true_eq_false, not_false_eq_true, gK_uI, gK_uL, gK_uR, gK_uCI, gK_uCL, gN_uI, gN_uL, gN_uR, gN_uCI, gN_uCL, gR_uI, gR_uL, gR_uCI, gR_uCL, gI_uL, gI_uR, gI_uCL, gL_uI, gL_uR, gL_uCI, gz_uI, gz_uL, gz_uR, gz_uCI, gz_uCL, gs_uI, gs_uL, gs_uR, gs_uCI, gs_uCL, rI_at, rL_at, rR_at, rI_ne, rL_ne, rR_ne, rI_nk, rL_nk, rR_nk, rI_eq, rL_eq, rR_eq, Option.toList_some, Option.toList_none, List.cons_append, List.nil_append, List.append_nil, zc_eq, zc_lt, zc_le, zc_ge, zc_gt]
      all_goals exact sv
    · have b1 := fun qq => Y_nm (G := G) (M := M1_z) (Q := qq) (x_z := x_z) (y_z := y_z)
      rw [zB_t ⟨cx, cy⟩] at b1
      have b2 := fun qq => Y_in (G := G) (M := M1_z) (Q := qq) (x_z := k_z) (y_z := 1) (w_z := 2)
      rw [zB_t (by omega)] at b2
      have sv : Call G J_M_save [a_r (b + 193)] M1_z (fun r_z M2_z => At G 190 44 [a_r (b + 193), a_i x_z, a_i y_z, a_i k_z, a_i v_z, a_u, a_u] r_z.toList M2_z Q) := by
        refine X_Msave hM_z n6_z (fun M2_z o2 eF hM2 => ?_)
        have hs2 := hM2.1
        have r1_z := hM2.2.2.1
        obtain ⟨p0_z, p1_z, p2_z⟩ := putM (M3_z := uI M2_z (b + 193 + 1) (1157 + 8 * (x_z + 1) + y_z) (100 * k_z + v_z)) (f' := upf f_z (1157 + ((x_z + 1) * 8 + y_z)) (k_z * 100 + v_z)) o2 eF hM2 ((Ex.refl (fun r_z => r_z = b + 193 + 1) M2_z).uI _ _ rfl) (by rw [rI_row, r1_z, show 1157 + 8 * (x_z + 1) + y_z = 1157 + ((x_z + 1) * 8 + y_z) from by omega, show 100 * k_z + v_z = k_z * 100 + v_z from by omega])
        have fin_z := hQ _ p0_z p1_z p2_z
        have v6 : gI M2_z (b + 193 + 1) (1157 + 8 * (x_z + 1) + y_z) = f_z (1157 + ((x_z + 1) * 8 + y_z)) := by rw [r1_z, show 1157 + 8 * (x_z + 1) + y_z = 1157 + ((x_z + 1) * 8 + y_z) from by omega]
        have vn : f_z (1157 + ((x_z + 1) * 8 + y_z)) = 0 ∨ 0 < f_z (1157 + ((x_z + 1) * 8 + y_z)) := by
          have ed := h_z.ed
          have q_z := (ed.2.2.2.1 ((x_z + 1) * 8 + y_z) (by omega) (by omega))
          have q1_z : gI M (b + 10 + 4) ((x_z + 1) * 8 + y_z) = gI M (b + 193 + 1) (1157 + ((x_z + 1) * 8 + y_z)) := q_z.1
          have q2_z : gI M (b + 193 + 1) = f_z := hf
          rw [q2_z] at q1_z
          omega
        generalize f_z (1157 + ((x_z + 1) * 8 + y_z)) = w_z at *
        by_cases c0_z : w_z = 0
        · rw [if_pos c0_z] at fin_z
          have c1_z : w_z ≤ 0 := by omega
          simp (disch := omega) only [B_190_44, hs2.u, v6, c1_z, B_190_72, B_190_73, inI, inL, isT, kInt, kByt, true_and, and_true, an_t, im_t, im_f, or_true, true_or, true_imp_iff, false_imp_iff, not_true_eq_false, not_false_eq_true, gK_uI, gK_uL, gK_uR, gK_uCI, gK_uCL, gN_uI, gN_uL, gN_uR, gN_uCI, gN_uCL, gR_uI, gR_uL, gR_uCI, gR_uCL, gI_uL, gI_uR, gI_uCL, gL_uI, gL_uR, gL_uCI, gz_uI, gz_uL, gz_uR, gz_uCI, gz_uCL, gs_uI, gs_uL, gs_uR, gs_uCI, gs_uCL, rI_at, rL_at, rR_at, rI_ne, rL_ne, rR_ne, rI_nk, rL_nk, rR_nk, rI_eq, rL_eq, rR_eq, Option.toList_some, Option.toList_none, List.cons_append, List.nil_append, List.append_nil, zc_eq, zc_lt, zc_le, zc_ge, zc_gt]
          all_goals exact fin_z
        · rw [if_neg c0_z] at fin_z
          have c1_z : ¬ w_z ≤ 0 := by omega
          simp (disch := omega) only [B_190_44, hs2.u, v6, c1_z, B_190_73, inI, inL, isT, kInt, kByt, true_and, and_true, an_t, im_t, im_f, or_true, true_or, true_imp_iff, false_imp_iff, not_true_eq_false, not_false_eq_true, gK_uI, gK_uL, gK_uR, gK_uCI, gK_uCL, gN_uI, gN_uL, gN_uR, gN_uCI, gN_uCL, gR_uI, gR_uL, gR_uCI, gR_uCL, gI_uL, gI_uR, gI_uCL, gL_uI, gL_uR, gL_uCI, gz_uI, gz_uL, gz_uR, gz_uCI, gz_uCL, gs_uI, gs_uL, gs_uR, gs_uCI, gs_uCL, rI_at, rL_at, rR_at, rI_ne, rL_ne, rR_ne, rI_nk, rL_nk, rR_nk, rI_eq, rL_eq, rR_eq, Option.toList_some, Option.toList_none, List.cons_append, List.nil_append, List.append_nil, zc_eq, zc_lt, zc_le, zc_ge, zc_gt]
          all_goals exact fin_z
      have sh_z := hM_z.1
      rcases ck with ⟨ck1, ck2⟩ | ⟨ck1, ck2⟩
      · subst ck1
        have b3 := fun qq => Y_in (G := G) (M := M1_z) (Q := qq) (x_z := v_z) (y_z := 0) (w_z := 15)
        rw [zB_t ck2] at b3
        simp (disch := omega) only [E_M_define, B_190_0, b1, B_190_5, b2, B_190_14, B_190_31, b3, B_190_34, B_190_40, sh_z.u, not_true_eq_false, inI, inL, isT, kInt, kByt, true_and, and_true, an_t, im_t, im_f, or_true, true_or, true_imp_iff, false_imp_iff, not_true_eq_false, not_false_eq_true, gK_uI, gK_uL, gK_uR, gK_uCI, gK_uCL, gN_uI, gN_uL, gN_uR, gN_uCI, gN_uCL, gR_uI, gR_uL, gR_uCI, gR_uCL, gI_uL, gI_uR, gI_uCL, gL_uI, gL_uR, gL_uCI, gz_uI, gz_uL, gz_uR, gz_uCI, gz_uCL, gs_uI, gs_uL, gs_uR, gs_uCI, gs_uCL, rI_at, rL_at, rR_at, rI_ne, rL_ne, rR_ne, rI_nk, rL_nk, rR_nk, rI_eq, rL_eq, rR_eq, Option.toList_some, Option.toList_none, List.cons_append, List.nil_append, List.append_nil, zc_eq, zc_lt, zc_le, zc_ge, zc_gt]
        all_goals exact sv
      · subst ck1
        have b3 := fun qq => Y_in (G := G) (M := M1_z) (Q := qq) (x_z := v_z) (y_z := 0) (w_z := 5)
        rw [zB_t ck2] at b3
        simp (disch := omega) only [E_M_define, B_190_0, b1, B_190_5, b2, B_190_14, B_190_30, B_190_31, b3, B_190_34, B_190_40, sh_z.u, not_true_eq_false, inI, inL, isT, kInt, kByt, true_and, and_true, an_t, im_t, im_f, or_true, true_or, true_imp_iff, false_imp_iff, not_true_eq_false, not_false_eq_true, gK_uI, gK_uL, gK_uR, gK_uCI, gK_uCL, gN_uI, gN_uL, gN_uR, gN_uCI, gN_uCL, gR_uI, gR_uL, gR_uCI, gR_uCL, gI_uL, gI_uR, gI_uCL, gL_uI, gL_uR, gL_uCI, gz_uI, gz_uL, gz_uR, gz_uCI, gz_uCL, gs_uI, gs_uL, gs_uR, gs_uCI, gs_uCL, rI_at, rL_at, rR_at, rI_ne, rL_ne, rR_ne, rI_nk, rL_nk, rR_nk, rI_eq, rL_eq, rR_eq, Option.toList_some, Option.toList_none, List.cons_append, List.nil_append, List.append_nil, zc_eq, zc_lt, zc_le, zc_ge, zc_gt]
        all_goals exact sv
  · refine same_pure (v_z := -10000001) h_z (fun Q hq => ?_) (fun Q hq => ?_)
    · have b1 := fun qq => Y_isStream (G := G) (M := M) (Q := qq) (x_z := x_z)
      have b2 := fun qq => Y_isName (G := G) (M := M) (Q := qq) (x_z := y_z)
      have b3 := fun qq => Y_isRes (G := G) (M := M) (Q := qq) (x_z := k_z) (y_z := v_z)
      by_cases cx : -1 ≤ x_z ∧ x_z ≤ 5
      · rw [zB_t cx] at b1
        by_cases cy : 0 ≤ y_z ∧ y_z ≤ 7
        · rw [zB_t cy] at b2
          rw [zB_f (fun q_z => good_z ⟨cx, cy, q_z⟩)] at b3
          simp (disch := omega) only [E_X_define, B_63_0, b1, B_63_4, b2, B_63_11, b3, B_63_20, B_63_23, inI, inL, isT, kInt, kByt, true_and, and_true, an_t, im_t, im_f, or_true, true_or, true_imp_iff, false_imp_iff, not_true_eq_false, not_false_eq_true, gK_uI, gK_uL, gK_uR, gK_uCI, gK_uCL, gN_uI, gN_uL, gN_uR, gN_uCI, gN_uCL, gR_uI, gR_uL, gR_uCI, gR_uCL, gI_uL, gI_uR, gI_uCL, gL_uI, gL_uR, gL_uCI, gz_uI, gz_uL, gz_uR, gz_uCI, gz_uCL, gs_uI, gs_uL, gs_uR, gs_uCI, gs_uCL, rI_at, rL_at, rR_at, rI_ne, rL_ne, rR_ne, rI_nk, rL_nk, rR_nk, rI_eq, rL_eq, rR_eq, Option.toList_some, Option.toList_none, List.cons_append, List.nil_append, List.append_nil, zc_eq, zc_lt, zc_le, zc_ge, zc_gt]
          all_goals exact hq
        · rw [zB_f cy] at b2
          simp (disch := omega) only [E_X_define, B_63_0, b1, B_63_4, b2, B_63_11, B_63_23, inI, inL, isT, kInt, kByt, true_and, and_true, an_t, im_t, im_f, or_true, true_or, true_imp_iff, false_imp_iff, not_true_eq_false, not_false_eq_true, gK_uI, gK_uL, gK_uR, gK_uCI, gK_uCL, gN_uI, gN_uL, gN_uR, gN_uCI, gN_uCL, gR_uI, gR_uL, gR_uCI, gR_uCL, gI_uL, gI_uR, gI_uCL, gL_uI, gL_uR, gL_uCI, gz_uI, gz_uL, gz_uR, gz_uCI, gz_uCL, gs_uI, gs_uL, gs_uR, gs_uCI, gs_uCL, rI_at, rL_at, rR_at, rI_ne, rL_ne, rR_ne, rI_nk, rL_nk, rR_nk, rI_eq, rL_eq, rR_eq, Option.toList_some, Option.toList_none, List.cons_append, List.nil_append, List.append_nil, zc_eq, zc_lt, zc_le, zc_ge, zc_gt]
          all_goals exact hq
      · rw [zB_f cx] at b1
        simp (disch := omega) only [E_X_define, B_63_0, b1, B_63_4, B_63_23, inI, inL, isT, kInt, kByt, true_and, and_true, an_t, im_t, im_f, or_true, true_or, true_imp_iff, false_imp_iff, not_true_eq_false, not_false_eq_true, gK_uI, gK_uL, gK_uR, gK_uCI, gK_uCL, gN_uI, gN_uL, gN_uR, gN_uCI, gN_uCL, gR_uI, gR_uL, gR_uCI, gR_uCL, gI_uL, gI_uR, gI_uCL, gL_uI, gL_uR, gL_uCI, gz_uI, gz_uL, gz_uR, gz_uCI, gz_uCL, gs_uI, gs_uL, gs_uR, gs_uCI, gs_uCL, rI_at, rL_at, rR_at, rI_ne, rL_ne, rR_ne, rI_nk, rL_nk, rR_nk, rI_eq, rL_eq, rR_eq, Option.toList_some, Option.toList_none, List.cons_append, List.nil_append, List.append_nil, zc_eq, zc_lt, zc_le, zc_ge, zc_gt]
        all_goals exact hq
    · have b1 := fun qq => Y_nm (G := G) (M := M) (Q := qq) (x_z := x_z) (y_z := y_z)
      have b2 := fun qq => Y_in (G := G) (M := M) (Q := qq) (x_z := k_z) (y_z := 1) (w_z := 2)
      have b3 := fun qq => Y_in (G := G) (M := M) (Q := qq) (x_z := v_z) (y_z := 0) (w_z := 15)
      have b4 := fun qq => Y_in (G := G) (M := M) (Q := qq) (x_z := v_z) (y_z := 0) (w_z := 5)
      by_cases c1_z : (-1 ≤ x_z ∧ x_z ≤ 5) ∧ 0 ≤ y_z ∧ y_z ≤ 7
      · rw [zB_t c1_z] at b1
        by_cases c2_z : 1 ≤ k_z ∧ k_z ≤ 2
        · rw [zB_t c2_z] at b2
          by_cases c3_z : k_z = 1
          · rw [zB_f (fun q_z => good_z ⟨c1_z.1, c1_z.2, Or.inl ⟨c3_z, q_z⟩⟩)] at b3
            subst c3_z
            simp (disch := omega) only [E_M_define, B_190_0, b1, B_190_5, b2, B_190_14, B_190_31, b3, B_190_34, B_190_37, not_true_eq_false, inI, inL, isT, kInt, kByt, true_and, and_true, an_t, im_t, im_f, or_true, true_or, true_imp_iff, false_imp_iff, not_true_eq_false, not_false_eq_true, gK_uI, gK_uL, gK_uR, gK_uCI, gK_uCL, gN_uI, gN_uL, gN_uR, gN_uCI, gN_uCL, gR_uI, gR_uL, gR_uCI, gR_uCL, gI_uL, gI_uR, gI_uCL, gL_uI, gL_uR, gL_uCI, gz_uI, gz_uL, gz_uR, gz_uCI, gz_uCL, gs_uI, gs_uL, gs_uR, gs_uCI, gs_uCL, rI_at, rL_at, rR_at, rI_ne, rL_ne, rR_ne, rI_nk, rL_nk, rR_nk, rI_eq, rL_eq, rR_eq, Option.toList_some, Option.toList_none, List.cons_append, List.nil_append, List.append_nil, zc_eq, zc_lt, zc_le, zc_ge, zc_gt]
            all_goals exact hq
          · rw [zB_f (fun q_z => good_z ⟨c1_z.1, c1_z.2, Or.inr ⟨by omega, q_z⟩⟩)] at b4
            simp (disch := omega) only [E_M_define, B_190_0, b1, B_190_5, b2, B_190_14, c3_z, B_190_30, B_190_31, b4, B_190_34, B_190_37, not_false_eq_true, inI, inL, isT, kInt, kByt, true_and, and_true, an_t, im_t, im_f, or_true, true_or, true_imp_iff, false_imp_iff, not_true_eq_false, not_false_eq_true, gK_uI, gK_uL, gK_uR, gK_uCI, gK_uCL, gN_uI, gN_uL, gN_uR, gN_uCI, gN_uCL, gR_uI, gR_uL, gR_uCI, gR_uCL, gI_uL, gI_uR, gI_uCL, gL_uI, gL_uR, gL_uCI, gz_uI, gz_uL, gz_uR, gz_uCI, gz_uCL, gs_uI, gs_uL, gs_uR, gs_uCI, gs_uCL, rI_at, rL_at, rR_at, rI_ne, rL_ne, rR_ne, rI_nk, rL_nk, rR_nk, rI_eq, rL_eq, rR_eq, Option.toList_some, Option.toList_none, List.cons_append, List.nil_append, List.append_nil, zc_eq, zc_lt, zc_le, zc_ge, zc_gt]
            all_goals exact hq
        · rw [zB_f c2_z] at b2
          simp (disch := omega) only [E_M_define, B_190_0, b1, B_190_5, b2, B_190_14, B_190_37, inI, inL, isT, kInt, kByt, true_and, and_true, an_t, im_t, im_f, or_true, true_or, true_imp_iff, false_imp_iff, not_true_eq_false, not_false_eq_true, gK_uI, gK_uL, gK_uR, gK_uCI, gK_uCL, gN_uI, gN_uL, gN_uR, gN_uCI, gN_uCL, gR_uI, gR_uL, gR_uCI, gR_uCL, gI_uL, gI_uR, gI_uCL, gL_uI, gL_uR, gL_uCI, gz_uI, gz_uL, gz_uR, gz_uCI, gz_uCL, gs_uI, gs_uL, gs_uR, gs_uCI, gs_uCL, rI_at, rL_at, rR_at, rI_ne, rL_ne, rR_ne, rI_nk, rL_nk, rR_nk, rI_eq, rL_eq, rR_eq, Option.toList_some, Option.toList_none, List.cons_append, List.nil_append, List.append_nil, zc_eq, zc_lt, zc_le, zc_ge, zc_gt]
          all_goals exact hq
      · rw [zB_f c1_z] at b1
        simp (disch := omega) only [E_M_define, B_190_0, b1, B_190_5, B_190_37, inI, inL, isT, kInt, kByt, true_and, and_true, an_t, im_t, im_f, or_true, true_or, true_imp_iff, false_imp_iff, not_true_eq_false, not_false_eq_true, gK_uI, gK_uL, gK_uR, gK_uCI, gK_uCL, gN_uI, gN_uL, gN_uR, gN_uCI, gN_uCL, gR_uI, gR_uL, gR_uCI, gR_uCL, gI_uL, gI_uR, gI_uCL, gL_uI, gL_uR, gL_uCI, gz_uI, gz_uL, gz_uR, gz_uCI, gz_uCL, gs_uI, gs_uL, gs_uR, gs_uCI, gs_uCL, rI_at, rL_at, rR_at, rI_ne, rL_ne, rR_ne, rI_nk, rL_nk, rR_nk, rI_eq, rL_eq, rR_eq, Option.toList_some, Option.toList_none, List.cons_append, List.nil_append, List.append_nil, zc_eq, zc_lt, zc_le, zc_ge, zc_gt]
        all_goals exact hq
end CK
