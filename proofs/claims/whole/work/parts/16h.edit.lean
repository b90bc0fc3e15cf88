/-! THE PURE PART, part 16: more edits. Own work. -/
section CI
variable {G : Env0} {Q : Option AV → Mem → Prop} {M : Mem} {b : Nat}
/-- after the class has saved: its state is written -/
theorem putC {M1_z M2_z : Mem} {n_z : Nat} {f_z f' : Int → Int} {ps_z : Nat → Int → Int} (o1 : OutS b M M1_z) (hS1 : ClS G M1_z b) (hE1 : ClE G M1_z b n_z f_z ps_z) (o2 : OutS b M1_z M2_z) (eR : gR M2_z = gR M1_z) (eI : ∀ a_z, ¬ (b + 10 ≤ a_z ∧ a_z ≤ b + 14) → gI M2_z a_z = gI M1_z a_z) (hf : EdRow G M2_z (b + 10) f') : OutS b M M2_z ∧ ClS G M2_z b ∧ ClE G M2_z b n_z f' ps_z := ⟨o1.trans o2, ClE.put hS1 hE1 o2 eR eI hf⟩
/-- after the model has saved: its row is written -/
theorem putM {M1_z M2_z M3_z : Mem} {m_z n_z : Nat} {f_z f' : Int → Int} {ps_z : Nat → Int → Int} {tl : Int} {tx : Int → Int} (o2 : Ex (fun r_z => r_z = m_z ∨ r_z = m_z + 2) M1_z M2_z) (eF : ∀ j_z, j_z ≠ 2 → gI M2_z m_z j_z = gI M1_z m_z j_z) (hM2 : MoI M2_z m_z n_z f_z ps_z tl tx) (o3_z : Ex (fun r_z => r_z = m_z + 1) M2_z M3_z) (hf : gI M3_z (m_z + 1) = f') : Ex (fun r_z => r_z = m_z ∨ r_z = m_z + 1 ∨ r_z = m_z + 2) M1_z M3_z ∧ (∀ j_z, j_z ≠ 2 → gI M3_z m_z j_z = gI M1_z m_z j_z) ∧ MoI M3_z m_z n_z f' ps_z tl tx := ⟨(o2.mono (fun a_z q_z => by omega)).trans (o3_z.mono (fun a_z q_z => by omega)), fun j_z q_z => by rw [(o3_z.2.2.2.2.2 m_z (by omega)).1]; exact eF j_z q_z, hM2.put o3_z hf⟩
theorem s_setSize {x_z y_z : Int} (h_z : Inv G M b) : Same G b J_X_setSize J_M_setSize [a_i x_z, a_i y_z] M := by
  by_cases cx : 4 ≤ x_z ∧ x_z ≤ 24
  · by_cases cy : 4 ≤ y_z ∧ y_z ≤ 24
    · have ixy : inI (x_z * y_z) := by
        have h1 : 0 ≤ x_z * y_z := Int.mul_nonneg (by omega) (by omega)
        have h2 : x_z * y_z ≤ 24 * 24 := Int.mul_le_mul cx.2 cy.2 (by omega) (by decide)
        exact ⟨by omega, by omega⟩
      refine same_edit (g_z := fun f_z => upf (upf f_z 1213 x_z) 1214 y_z) (v_z := fun f_z => x_z * y_z) h_z (fun n_z f_z ps_z hE Q hQ => ?_) (fun M1_z n_z f_z ps_z tl tx n6_z _ hM_z Q hQ => ?_)
      · have hS_z := h_z.1
        have b1 := fun qq => Y_isBetweenT (G := G) (Q := qq) (M := M) (x_z := x_z) (y_z := 4) (w_z := 24) cx
        have b2 := fun qq => Y_isBetweenT (G := G) (Q := qq) (M := M) (x_z := y_z) (y_z := 4) (w_z := 24) cy
        have sv : Call G J_X_saveState [a_r (b + 1)] M (fun r_z M2_z => At G 69 27 [a_r (b + 1), a_i x_z, a_i y_z] r_z.toList M2_z Q) := by
          refine X_saveState hS_z hE (fun M1_z o1 hS1 hE1 => ?_)
          have e5_z := hE1.2.2.2.2.1
          obtain ⟨-, -, c3_z, c4_z, c5_z, c6_z, c7_z⟩ := id e5_z
          have o2 : OutS b M1_z (uI (uI M1_z (b + 10) 4 x_z) (b + 10) 5 y_z) := (outS_uI (by omega)).trans (outS_uI (by omega))
          have ed : EdRow G (uI (uI M1_z (b + 10) 4 x_z) (b + 10) 5 y_z) (b + 10) (upf (upf f_z 1213 x_z) 1214 y_z) := by
            refine EdRow.upd e5_z o2 hE1.2.2.2.2.2.2.1 rfl (fun k_z k0_z k1_z => by rw [upf_ne _ _ (by omega), upf_ne _ _ (by omega)]) (fun i_z i0_z i1_z => ?_) (fun i_z i0_z i1_z => ?_) ?_ ?_ ?_
            · rw [rI_ne (by omega), rI_ne (by omega), rI_ne (by omega), rI_ne (by omega), upf_ne _ _ (by omega), upf_ne _ _ (by omega)]
              obtain ⟨d1_z, d2_z, d3_z⟩ := c3_z i_z i0_z i1_z
              exact ⟨d1_z, d2_z, fun j_z j0 j1 => by rw [upf_ne _ _ (by omega), upf_ne _ _ (by omega)]; exact d3_z j_z j0 j1⟩
            · rw [rI_ne (by omega), rI_ne (by omega), upf_ne _ _ (by omega), upf_ne _ _ (by omega)]
              exact c4_z i_z i0_z i1_z
            · rw [rI_nk (by decide), rI_at, upf_ne _ _ (by decide), upf_at]
              exact ⟨rfl, cx⟩
            · rw [rI_at, upf_at]
              exact ⟨rfl, cy⟩
            · rw [rI_nk (by decide), rI_nk (by decide), upf_ne _ _ (by decide), upf_ne _ _ (by decide)]
              exact c7_z
          obtain ⟨p0_z, p1_z, p2_z⟩ := putC o1 hS1 hE1 o2 rfl (fun a_z ha_z => by rw [rI_ne (by omega), rI_ne (by omega)]) ed
          have fin_z := hQ _ p0_z p1_z p2_z
          have sX_z := hS1.1
          have sS := hS1.2.2.1
          simp (disch := omega) only [B_69_27, sX_z.u, sS.u, B_69_43, ixy, gK_uI, gK_uL, gK_uR, gK_uCI, gK_uCL, gN_uI, gN_uL, gN_uR, gN_uCI, gN_uCL, gR_uI, gR_uL, gR_uCI, gR_uCL, gI_uL, gI_uR, gI_uCL, gL_uI, gL_uR, gL_uCI, gz_uI, gz_uL, gz_uR, gz_uCI, gz_uCL, gs_uI, gs_uL, gs_uR, gs_uCI, gs_uCL, rI_at, rL_at, rR_at, rI_ne, rL_ne, rR_ne, rI_nk, rL_nk, rR_nk, rI_eq, rL_eq, rR_eq, Option.toList_some, Option.toList_none, List.cons_append, List.nil_append, List.append_nil, true_and, and_true]
          all_goals exact fin_z
        have sX_z := hS_z.1
        simp (disch := omega) only [E_X_setSize, B_69_0, b1, B_69_7, b2, B_69_17, B_69_23, sX_z.u, inI, inL, isT, kInt, kByt, true_and, and_true, an_t, im_t, im_f, or_true, true_or, true_imp_iff, false_imp_iff, not_true_eq_false, not_false_eq_true, gK_uI, gK_uL, gK_uR, gK_uCI, gK_uCL, gN_uI, gN_uL, gN_uR, gN_uCI, gN_uCL, gR_uI, gR_uL, gR_uCI, gR_uCL, gI_uL, gI_uR, gI_uCL, gL_uI, gL_uR, gL_uCI, gz_uI, gz_uL, gz_uR, gz_uCI, gz_uCL, gs_uI, gs_uL, gs_uR, gs_uCI, gs_uCL, rI_at, rL_at, rR_at, rI_ne, rL_ne, rR_ne, rI_nk, rL_nk, rR_nk, rI_eq, rL_eq, rR_eq, Option.toList_some, Option.toList_none, List.cons_append, List.nil_append, List.append_nil, zc_eq, zc_lt, zc_le, zc_ge, zc_gt]
        all_goals exact sv
      · have b1 := fun qq => Y_in (G := G) (M := M1_z) (Q := qq) (x_z := x_z) (y_z := 4) (w_z := 24)
        have b2 := fun qq => Y_in (G := G) (M := M1_z) (Q := qq) (x_z := y_z) (y_z := 4) (w_z := 24)
        rw [zB_t cx] at b1
        rw [zB_t cy] at b2
        have sv : Call G J_M_save [a_r (b + 193)] M1_z (fun r_z M2_z => At G 194 27 [a_r (b + 193), a_i x_z, a_i y_z] r_z.toList M2_z Q) := by
          refine X_Msave hM_z n6_z (fun M2_z o2 eF hM2 => ?_)
          have hs2 := hM2.1
          have r1_z := hM2.2.2.1
          obtain ⟨p0_z, p1_z, p2_z⟩ := putM (M3_z := uI (uI M2_z (b + 193 + 1) 1213 x_z) (b + 193 + 1) 1214 y_z) o2 eF hM2 (((Ex.refl (fun r_z => r_z = b + 193 + 1) M2_z).uI _ _ rfl).uI _ _ rfl) (by rw [rI_row, rI_row, r1_z])
          have fin_z := hQ _ p0_z p1_z p2_z
          simp (disch := omega) only [B_194_27, hs2.u, B_194_45, ixy, gK_uI, gK_uL, gK_uR, gK_uCI, gK_uCL, gN_uI, gN_uL, gN_uR, gN_uCI, gN_uCL, gR_uI, gR_uL, gR_uCI, gR_uCL, gI_uL, gI_uR, gI_uCL, gL_uI, gL_uR, gL_uCI, gz_uI, gz_uL, gz_uR, gz_uCI, gz_uCL, gs_uI, gs_uL, gs_uR, gs_uCI, gs_uCL, rI_at, rL_at, rR_at, rI_ne, rL_ne, rR_ne, rI_nk, rL_nk, rR_nk, rI_eq, rL_eq, rR_eq, Option.toList_some, Option.toList_none, List.cons_append, List.nil_append, List.append_nil, true_and, and_true]
          exact ⟨by decide, by decide, by decide, by decide, fin_z⟩
        simp (disch := omega) only [E_M_setSize, B_194_0, b1, B_194_7, b2, B_194_17, B_194_23, hM_z.1.u, inI, inL, isT, kInt, kByt, true_and, and_true, an_t, im_t, im_f, or_true, true_or, true_imp_iff, false_imp_iff, not_true_eq_false, not_false_eq_true, gK_uI, gK_uL, gK_uR, gK_uCI, gK_uCL, gN_uI, gN_uL, gN_uR, gN_uCI, gN_uCL, gR_uI, gR_uL, gR_uCI, gR_uCL, gI_uL, gI_uR, gI_uCL, gL_uI, gL_uR, gL_uCI, gz_uI, gz_uL, gz_uR, gz_uCI, gz_uCL, gs_uI, gs_uL, gs_uR, gs_uCI, gs_uCL, rI_at, rL_at, rR_at, rI_ne, rL_ne, rR_ne, rI_nk, rL_nk, rR_nk, rI_eq, rL_eq, rR_eq, Option.toList_some, Option.toList_none, List.cons_append, List.nil_append, List.append_nil, zc_eq, zc_lt, zc_le, zc_ge, zc_gt]
        all_goals exact sv
    · refine same_pure (v_z := -10000001) h_z (fun Q hq => ?_) (fun Q hq => ?_)
      · have b1 := fun qq => Y_isBetweenT (G := G) (Q := qq) (M := M) (x_z := x_z) (y_z := 4) (w_z := 24) cx
        have b2 := fun qq => Y_isBetweenF (G := G) (Q := qq) (M := M) (x_z := y_z) (y_z := 4) (w_z := 24) cy
        simp (disch := omega) only [E_X_setSize, B_69_0, b1, B_69_7, b2, B_69_17, B_69_20, inI, inL, isT, kInt, kByt, true_and, and_true, an_t, im_t, im_f, or_true, true_or, true_imp_iff, false_imp_iff, not_true_eq_false, not_false_eq_true, gK_uI, gK_uL, gK_uR, gK_uCI, gK_uCL, gN_uI, gN_uL, gN_uR, gN_uCI, gN_uCL, gR_uI, gR_uL, gR_uCI, gR_uCL, gI_uL, gI_uR, gI_uCL, gL_uI, gL_uR, gL_uCI, gz_uI, gz_uL, gz_uR, gz_uCI, gz_uCL, gs_uI, gs_uL, gs_uR, gs_uCI, gs_uCL, rI_at, rL_at, rR_at, rI_ne, rL_ne, rR_ne, rI_nk, rL_nk, rR_nk, rI_eq, rL_eq, rR_eq, Option.toList_some, Option.toList_none, List.cons_append, List.nil_append, List.append_nil, zc_eq, zc_lt, zc_le, zc_ge, zc_gt]
        all_goals exact hq
      · have b1 := fun qq => Y_in (G := G) (M := M) (Q := qq) (x_z := x_z) (y_z := 4) (w_z := 24)
        have b2 := fun qq => Y_in (G := G) (M := M) (Q := qq) (x_z := y_z) (y_z := 4) (w_z := 24)
        rw [zB_t cx] at b1
        rw [zB_f cy] at b2
        simp (disch := omega) only [E_M_setSize, B_194_0, b1, B_194_7, b2, B_194_17, B_194_20, inI, inL, isT, kInt, kByt, true_and, and_true, an_t, im_t, im_f, or_true, true_or, true_imp_iff, false_imp_iff, not_true_eq_false, not_false_eq_true, gK_uI, gK_uL, gK_uR, gK_uCI, gK_uCL, gN_uI, gN_uL, gN_uR, gN_uCI, gN_uCL, gR_uI, gR_uL, gR_uCI, gR_uCL, gI_uL, gI_uR, gI_uCL, gL_uI, gL_uR, gL_uCI, gz_uI, gz_uL, gz_uR, gz_uCI, gz_uCL, gs_uI, gs_uL, gs_uR, gs_uCI, gs_uCL, rI_at, rL_at, rR_at, rI_ne, rL_ne, rR_ne, rI_nk, rL_nk, rR_nk, rI_eq, rL_eq, rR_eq, Option.toList_some, Option.toList_none, List.cons_append, List.nil_append, List.append_nil, zc_eq, zc_lt, zc_le, zc_ge, zc_gt]
        all_goals exact hq
  · refine same_pure (v_z := -10000001) h_z (fun Q hq => ?_) (fun Q hq => ?_)
    · have b1 := fun qq => Y_isBetweenF (G := G) (Q := qq) (M := M) (x_z := x_z) (y_z := 4) (w_z := 24) cx
      simp (disch := omega) only [E_X_setSize, B_69_0, b1, B_69_7, B_69_20, inI, inL, isT, kInt, kByt, true_and, and_true, an_t, im_t, im_f, or_true, true_or, true_imp_iff, false_imp_iff, not_true_eq_false, not_false_eq_true, gK_uI, gK_uL, gK_uR, gK_uCI, gK_uCL, gN_uI, gN_uL, gN_uR, gN_uCI, gN_uCL, gR_uI, gR_uL, gR_uCI, gR_uCL, gI_uL, gI_uR, gI_uCL, gL_uI, gL_uR, gL_uCI, gz_uI, gz_uL, gz_uR, gz_uCI, gz_uCL, gs_uI, gs_uL, gs_uR, gs_uCI, gs_uCL, rI_at, rL_at, rR_at, rI_ne, rL_ne, rR_ne, rI_nk, rL_nk, rR_nk, rI_eq, rL_eq, rR_eq, Option.toList_some, Option.toList_none, List.cons_append, List.nil_append, List.append_nil, zc_eq, zc_lt, zc_le, zc_ge, zc_gt]
      all_goals exact hq
    · have b1 := fun qq => Y_in (G := G) (M := M) (Q := qq) (x_z := x_z) (y_z := 4) (w_z := 24)
      rw [zB_f cx] at b1
      simp (disch := omega) only [E_M_setSize, B_194_0, b1, B_194_7, B_194_20, inI, inL, isT, kInt, kByt, true_and, and_true, an_t, im_t, im_f, or_true, true_or, true_imp_iff, false_imp_iff, not_true_eq_false, not_false_eq_true, gK_uI, gK_uL, gK_uR, gK_uCI, gK_uCL, gN_uI, gN_uL, gN_uR, gN_uCI, gN_uCL, gR_uI, gR_uL, gR_uCI, gR_uCL, gI_uL, gI_uR, gI_uCL, gL_uI, gL_uR, gL_uCI, gz_uI, gz_uL, gz_uR, gz_uCI, gz_uCL, gs_uI, gs_uL, gs_uR, gs_uCI, gs_uCL, rI_at, rL_at, rR_at, rI_ne, rL_ne, rR_ne, rI_nk, rL_nk, rR_nk, rI_eq, rL_eq, rR_eq, Option.toList_some, Option.toList_none, List.cons_append, List.nil_append, List.append_nil, zc_eq, zc_lt, zc_le, zc_ge, zc_gt]
      all_goals exact hq
theorem s_removeBox {x_z : Int} (h_z : Inv G M b) : Same G b J_X_removeBox J_M_removeBox [a_i x_z] M := by
  by_cases cx : 0 ≤ x_z ∧ x_z ≤ 5
  · have hS_z := h_z.1
    have hI := h_z
    obtain ⟨-, n_z, f_z, ps_z, tl, tx, hE, -, hM_z, -⟩ := hI
    have c3_z := hE.2.2.2.2.1.2.2.1 x_z cx.1 (by omega)
    have f3_z : f_z (1127 + 5 * x_z) = gI M (b + 12) x_z := c3_z.2.1
    have sX_z := hS_z.1
    have sS := hS_z.2.2.1
    have isf := fun M qq => Y_isFormT (G := G) (M := M) (Q := qq) (x_z := x_z) cx
    by_cases c0_z : gI M (b + 12) x_z = 0
    · refine same_pure (v_z := -10000002) h_z (fun Q hq => ?_) (fun Q hq => ?_)
      · have c0' : gI M (b + 10 + 2) x_z = 0 := c0_z
        simp (disch := omega) only [E_X_removeBox, B_62_0, isf M, B_62_4, B_62_10, sX_z.u, sS.u, c0', inI, inL, isT, kInt, kByt, true_and, and_true, an_t, im_t, im_f, or_true, true_or, true_imp_iff, false_imp_iff, not_true_eq_false, not_false_eq_true, gK_uI, gK_uL, gK_uR, gK_uCI, gK_uCL, gN_uI, gN_uL, gN_uR, gN_uCI, gN_uCL, gR_uI, gR_uL, gR_uCI, gR_uCL, gI_uL, gI_uR, gI_uCL, gL_uI, gL_uR, gL_uCI, gz_uI, gz_uL, gz_uR, gz_uCI, gz_uCL, gs_uI, gs_uL, gs_uR, gs_uCI, gs_uCL, rI_at, rL_at, rR_at, rI_ne, rL_ne, rR_ne, rI_nk, rL_nk, rR_nk, rI_eq, rL_eq, rR_eq, Option.toList_some, Option.toList_none, List.cons_append, List.nil_append, List.append_nil, zc_eq, zc_lt, zc_le, zc_ge, zc_gt]
        all_goals exact hq
      · have b1 := fun qq => Y_in (G := G) (M := M) (Q := qq) (x_z := x_z) (y_z := 0) (w_z := 5)
        rw [zB_t cx] at b1
        have e0_z : gI M (b + 193 + 1) (1127 + 5 * x_z) = 0 := by rw [hM_z.2.2.1, f3_z]; exact c0_z
        simp (disch := omega) only [E_M_removeBox, B_189_0, b1, B_189_6, B_189_12, hM_z.1.u, e0_z, inI, inL, isT, kInt, kByt, true_and, and_true, an_t, im_t, im_f, or_true, true_or, true_imp_iff, false_imp_iff, not_true_eq_false, not_false_eq_true, gK_uI, gK_uL, gK_uR, gK_uCI, gK_uCL, gN_uI, gN_uL, gN_uR, gN_uCI, gN_uCL, gR_uI, gR_uL, gR_uCI, gR_uCL, gI_uL, gI_uR, gI_uCL, gL_uI, gL_uR, gL_uCI, gz_uI, gz_uL, gz_uR, gz_uCI, gz_uCL, gs_uI, gs_uL, gs_uR, gs_uCI, gs_uCL, rI_at, rL_at, rR_at, rI_ne, rL_ne, rR_ne, rI_nk, rL_nk, rR_nk, rI_eq, rL_eq, rR_eq, Option.toList_some, Option.toList_none, List.cons_append, List.nil_append, List.append_nil, zc_eq, zc_lt, zc_le, zc_ge, zc_gt]
        all_goals exact hq
    · clear c3_z f3_z hE hM_z n_z f_z ps_z tl tx
      refine same_edit (g_z := fun f_z => upf f_z (1127 + 5 * x_z) 0) (v_z := fun f_z => 1) h_z (fun n_z f_z ps_z hE Q hQ => ?_) (fun M1_z n_z f_z ps_z tl tx n6_z hf hM_z Q hQ => ?_)
      · have sv : Call G J_X_saveState [a_r (b + 1)] M (fun r_z M2_z => At G 62 29 [a_r (b + 1), a_i x_z] r_z.toList M2_z Q) := by
          refine X_saveState hS_z hE (fun M1_z o1 hS1 hE1 => ?_)
          have e5_z := hE1.2.2.2.2.1
          obtain ⟨-, -, c3_z, c4_z, c5_z, c6_z, c7_z⟩ := id e5_z
          have o2 : OutS b M1_z (uI M1_z (b + 10 + 2) x_z 0) := outS_uI (by omega)
          have ed : EdRow G (uI M1_z (b + 10 + 2) x_z 0) (b + 10) (upf f_z (1127 + 5 * x_z) 0) := by
            refine EdRow.upd e5_z o2 hE1.2.2.2.2.2.2.1 rfl (fun k_z k0_z k1_z => by rw [upf_ne _ _ (by omega)]) (fun i_z i0_z i1_z => ?_) (fun i_z i0_z i1_z => ?_) ?_ ?_ ?_
            · obtain ⟨d1_z, d2_z, d3_z⟩ := c3_z i_z i0_z i1_z
              have q3_z : gI (uI M1_z (b + 10 + 2) x_z 0) (b + 10 + 3) = gI M1_z (b + 10 + 3) := rI_ne (by omega)
              rw [q3_z]
              by_cases ci : i_z = x_z
              · subst ci
                rw [rI_at, upf_at]
                exact ⟨Or.inl rfl, rfl, fun j_z j0 j1 => by rw [upf_ne _ _ (by omega)]; exact d3_z j_z j0 j1⟩
              · rw [rI_nk ci, upf_ne _ _ (by omega)]
                exact ⟨d1_z, d2_z, fun j_z j0 j1 => by rw [upf_ne _ _ (by omega)]; exact d3_z j_z j0 j1⟩
            · rw [rI_ne (by omega), upf_ne _ _ (by omega)]
              exact c4_z i_z i0_z i1_z
            · rw [rI_ne (by omega), upf_ne _ _ (by omega)]
              exact c5_z
            · rw [rI_ne (by omega), upf_ne _ _ (by omega)]
              exact c6_z
            · rw [rI_ne (by omega), upf_ne _ _ (by omega)]
              exact c7_z
          obtain ⟨p0_z, p1_z, p2_z⟩ := putC o1 hS1 hE1 o2 rfl (fun a_z ha_z => by rw [rI_ne (by omega)]) ed
          have fin_z := hQ _ p0_z p1_z p2_z
          have sX1 := hS1.1
          have sS1 := hS1.2.2.1
          simp (disch := omega) only [B_62_29, sX1.u, sS1.u, inI, inL, isT, kInt, kByt, true_and, and_true, an_t, im_t, im_f, or_true, true_or, true_imp_iff, false_imp_iff, not_true_eq_false, not_false_eq_true, gK_uI, gK_uL, gK_uR, gK_uCI, gK_uCL, gN_uI, gN_uL, gN_uR, gN_uCI, gN_uCL, gR_uI, gR_uL, gR_uCI, gR_uCL, gI_uL, gI_uR, gI_uCL, gL_uI, gL_uR, gL_uCI, gz_uI, gz_uL, gz_uR, gz_uCI, gz_uCL, gs_uI, gs_uL, gs_uR, gs_uCI, gs_uCL, rI_at, rL_at, rR_at, rI_ne, rL_ne, rR_ne, rI_nk, rL_nk, rR_nk, rI_eq, rL_eq, rR_eq, Option.toList_some, Option.toList_none, List.cons_append, List.nil_append, List.append_nil, zc_eq, zc_lt, zc_le, zc_ge, zc_gt]
          all_goals exact fin_z
        have c0' : ¬ gI M (b + 10 + 2) x_z = 0 := c0_z
        simp (disch := omega) only [E_X_removeBox, B_62_0, isf M, B_62_4, B_62_10, sX_z.u, sS.u, c0', B_62_25, not_false_eq_true, inI, inL, isT, kInt, kByt, true_and, and_true, an_t, im_t, im_f, or_true, true_or, true_imp_iff, false_imp_iff, not_true_eq_false, not_false_eq_true, gK_uI, gK_uL, gK_uR, gK_uCI, gK_uCL, gN_uI, gN_uL, gN_uR, gN_uCI, gN_uCL, gR_uI, gR_uL, gR_uCI, gR_uCL, gI_uL, gI_uR, gI_uCL, gL_uI, gL_uR, gL_uCI, gz_uI, gz_uL, gz_uR, gz_uCI, gz_uCL, gs_uI, gs_uL, gs_uR, gs_uCI, gs_uCL, rI_at, rL_at, rR_at, rI_ne, rL_ne, rR_ne, rI_nk, rL_nk, rR_nk, rI_eq, rL_eq, rR_eq, Option.toList_some, Option.toList_none, List.cons_append, List.nil_append, List.append_nil, zc_eq, zc_lt, zc_le, zc_ge, zc_gt]
        all_goals exact sv
      · have b1 := fun qq => Y_in (G := G) (M := M1_z) (Q := qq) (x_z := x_z) (y_z := 0) (w_z := 5)
        rw [zB_t cx] at b1
        have sv : Call G J_M_save [a_r (b + 193)] M1_z (fun r_z M2_z => At G 189 34 [a_r (b + 193), a_i x_z] r_z.toList M2_z Q) := by
          refine X_Msave hM_z n6_z (fun M2_z o2 eF hM2 => ?_)
          have hs2 := hM2.1
          have r1_z := hM2.2.2.1
          obtain ⟨p0_z, p1_z, p2_z⟩ := putM (M3_z := uI M2_z (b + 193 + 1) (1127 + 5 * x_z) 0) o2 eF hM2 ((Ex.refl (fun r_z => r_z = b + 193 + 1) M2_z).uI _ _ rfl) (by rw [rI_row, r1_z])
          have fin_z := hQ _ p0_z p1_z p2_z
          simp (disch := omega) only [B_189_34, hs2.u, inI, inL, isT, kInt, kByt, true_and, and_true, an_t, im_t, im_f, or_true, true_or, true_imp_iff, false_imp_iff, not_true_eq_false, not_false_eq_true, gK_uI, gK_uL, gK_uR, gK_uCI, gK_uCL, gN_uI, gN_uL, gN_uR, gN_uCI, gN_uCL, gR_uI, gR_uL, gR_uCI, gR_uCL, gI_uL, gI_uR, gI_uCL, gL_uI, gL_uR, gL_uCI, gz_uI, gz_uL, gz_uR, gz_uCI, gz_uCL, gs_uI, gs_uL, gs_uR, gs_uCI, gs_uCL, rI_at, rL_at, rR_at, rI_ne, rL_ne, rR_ne, rI_nk, rL_nk, rR_nk, rI_eq, rL_eq, rR_eq, Option.toList_some, Option.toList_none, List.cons_append, List.nil_append, List.append_nil, zc_eq, zc_lt, zc_le, zc_ge, zc_gt]
          all_goals exact fin_z
        have fe : f_z (1127 + 5 * x_z) = gI M (b + 12) x_z := by
          obtain ⟨-, n2_z, f2_z, ps2, tl2, tx2, hE2, -, hM2, -⟩ := h_z
          have y_z := (hE2.2.2.2.2.1.2.2.1 x_z cx.1 (by omega)).2.1
          have z_z : gI M (b + 194) = f2_z := hM2.2.2.1
          rw [← hf, z_z]
          exact y_z
        have e0_z : ¬ gI M1_z (b + 193 + 1) (1127 + 5 * x_z) = 0 := by rw [hM_z.2.2.1, fe]; exact c0_z
        simp (disch := omega) only [E_M_removeBox, B_189_0, b1, B_189_6, B_189_12, hM_z.1.u, e0_z, B_189_30, not_false_eq_true, inI, inL, isT, kInt, kByt, true_and, and_true, an_t, im_t, im_f, or_true, true_or, true_imp_iff, false_imp_iff, not_true_eq_false, not_false_eq_true, gK_uI, gK_uL, gK_uR, gK_uCI, gK_uCL, gN_uI, gN_uL, gN_uR, gN_uCI, gN_uCL, gR_uI, gR_uL, gR_uCI, gR_uCL, gI_uL, gI_uR, gI_uCL, gL_uI, gL_uR, gL_uCI, gz_uI, gz_uL, gz_uR, gz_uCI, gz_uCL, gs_uI, gs_uL, gs_uR, gs_uCI, gs_uCL, rI_at, rL_at, rR_at, rI_ne, rL_ne, rR_ne, rI_nk, rL_nk, rR_nk, rI_eq, rL_eq, rR_eq, Option.toList_some, Option.toList_none, List.cons_append, List.nil_append, List.append_nil, zc_eq, zc_lt, zc_le, zc_ge, zc_gt]
        all_goals exact sv
  · refine same_pure (v_z := -10000001) h_z (fun Q hq => ?_) (fun Q hq => ?_)
    · have b1 := fun qq => Y_isFormF (G := G) (Q := qq) (M := M) (x_z := x_z) cx
      simp (disch := omega) only [E_X_removeBox, B_62_0, b1, B_62_4, inI, inL, isT, kInt, kByt, true_and, and_true, an_t, im_t, im_f, or_true, true_or, true_imp_iff, false_imp_iff, not_true_eq_false, not_false_eq_true, gK_uI, gK_uL, gK_uR, gK_uCI, gK_uCL, gN_uI, gN_uL, gN_uR, gN_uCI, gN_uCL, gR_uI, gR_uL, gR_uCI, gR_uCL, gI_uL, gI_uR, gI_uCL, gL_uI, gL_uR, gL_uCI, gz_uI, gz_uL, gz_uR, gz_uCI, gz_uCL, gs_uI, gs_uL, gs_uR, gs_uCI, gs_uCL, rI_at, rL_at, rR_at, rI_ne, rL_ne, rR_ne, rI_nk, rL_nk, rR_nk, rI_eq, rL_eq, rR_eq, Option.toList_some, Option.toList_none, List.cons_append, List.nil_append, List.append_nil, zc_eq, zc_lt, zc_le, zc_ge, zc_gt]
      all_goals exact hq
    · have b1 := fun qq => Y_in (G := G) (M := M) (Q := qq) (x_z := x_z) (y_z := 0) (w_z := 5)
      rw [zB_f cx] at b1
      simp (disch := omega) only [E_M_removeBox, B_189_0, b1, B_189_6, inI, inL, isT, kInt, kByt, true_and, and_true, an_t, im_t, im_f, or_true, true_or, true_imp_iff, false_imp_iff, not_true_eq_false, not_false_eq_true, gK_uI, gK_uL, gK_uR, gK_uCI, gK_uCL, gN_uI, gN_uL, gN_uR, gN_uCI, gN_uCL, gR_uI, gR_uL, gR_uCI, gR_uCL, gI_uL, gI_uR, gI_uCL, gL_uI, gL_uR, gL_uCI, gz_uI, gz_uL, gz_uR, gz_uCI, gz_uCL, gs_uI, gs_uL, gs_uR, gs_uCI, gs_uCL, rI_at, rL_at, rR_at, rI_ne, rL_ne, rR_ne, rI_nk, rL_nk, rR_nk, rI_eq, rL_eq, rR_eq, Option.toList_some, Option.toList_none, List.cons_append, List.nil_append, List.append_nil, zc_eq, zc_lt, zc_le, zc_ge, zc_gt]
      all_goals exact hq
end CI
