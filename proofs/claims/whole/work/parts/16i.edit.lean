/-! THE PURE PART, part 16: setBox. Own work. -/
section CJ
variable {G : Env0} {Q : Option AV → Mem → Prop} {M : Mem} {b : Nat}
theorem Y_isSpan {x_z y_z : Int} : Call G J_X_isSpan [a_i x_z, a_i y_z] M Q ↔ Q (some (a_i (zB ((-99 ≤ x_z ∧ x_z ≤ 99) ∧ x_z < y_z ∧ y_z ≤ 99)))) M := by
  by_cases c1_z : -99 ≤ x_z ∧ x_z ≤ 99
  · have b1 := fun qq => Y_isBetweenT (G := G) (M := M) (Q := qq) (x_z := x_z) (y_z := -99) (w_z := 99) c1_z
    by_cases c2_z : y_z ≤ x_z
    · rw [zB_f (by omega)]
      simp (disch := omega) only [E_X_isSpan, B_60_0, b1, B_60_8, c2_z, B_60_26, B_60_27, inI, inL, isT, kInt, kByt, true_and, and_true, an_t, im_t, im_f, or_true, true_or, true_imp_iff, false_imp_iff, not_true_eq_false, not_false_eq_true, gK_uI, gK_uL, gK_uR, gK_uCI, gK_uCL, gN_uI, gN_uL, gN_uR, gN_uCI, gN_uCL, gR_uI, gR_uL, gR_uCI, gR_uCL, gI_uL, gI_uR, gI_uCL, gL_uI, gL_uR, gL_uCI, gz_uI, gz_uL, gz_uR, gz_uCI, gz_uCL, gs_uI, gs_uL, gs_uR, gs_uCI, gs_uCL, rI_at, rL_at, rR_at, rI_ne, rL_ne, rR_ne, rI_nk, rL_nk, rR_nk, rI_eq, rL_eq, rR_eq, Option.toList_some, Option.toList_none, List.cons_append, List.nil_append, List.append_nil, zc_eq, zc_lt, zc_le, zc_ge, zc_gt]
    · by_cases c3_z : 99 < y_z
      · rw [zB_f (by omega)]
        simp (disch := omega) only [E_X_isSpan, B_60_0, b1, B_60_8, c2_z, c3_z, B_60_26, B_60_27, inI, inL, isT, kInt, kByt, true_and, and_true, an_t, im_t, im_f, or_true, true_or, true_imp_iff, false_imp_iff, not_true_eq_false, not_false_eq_true, gK_uI, gK_uL, gK_uR, gK_uCI, gK_uCL, gN_uI, gN_uL, gN_uR, gN_uCI, gN_uCL, gR_uI, gR_uL, gR_uCI, gR_uCL, gI_uL, gI_uR, gI_uCL, gL_uI, gL_uR, gL_uCI, gz_uI, gz_uL, gz_uR, gz_uCI, gz_uCL, gs_uI, gs_uL, gs_uR, gs_uCI, gs_uCL, rI_at, rL_at, rR_at, rI_ne, rL_ne, rR_ne, rI_nk, rL_nk, rR_nk, rI_eq, rL_eq, rR_eq, Option.toList_some, Option.toList_none, List.cons_append, List.nil_append, List.append_nil, zc_eq, zc_lt, zc_le, zc_ge, zc_gt]
      · rw [zB_t (by omega)]
        simp (disch := omega) only [E_X_isSpan, B_60_0, b1, B_60_8, c2_z, c3_z, B_60_27, inI, inL, isT, kInt, kByt, true_and, and_true, an_t, im_t, im_f, or_true, true_or, true_imp_iff, false_imp_iff, not_true_eq_false, not_false_eq_true, gK_uI, gK_uL, gK_uR, gK_uCI, gK_uCL, gN_uI, gN_uL, gN_uR, gN_uCI, gN_uCL, gR_uI, gR_uL, gR_uCI, gR_uCL, gI_uL, gI_uR, gI_uCL, gL_uI, gL_uR, gL_uCI, gz_uI, gz_uL, gz_uR, gz_uCI, gz_uCL, gs_uI, gs_uL, gs_uR, gs_uCI, gs_uCL, rI_at, rL_at, rR_at, rI_ne, rL_ne, rR_ne, rI_nk, rL_nk, rR_nk, rI_eq, rL_eq, rR_eq, Option.toList_some, Option.toList_none, List.cons_append, List.nil_append, List.append_nil, zc_eq, zc_lt, zc_le, zc_ge, zc_gt]
  · have b1 := fun qq => Y_isBetweenF (G := G) (M := M) (Q := qq) (x_z := x_z) (y_z := -99) (w_z := 99) c1_z
    rw [zB_f (by omega)]
    simp (disch := omega) only [E_X_isSpan, B_60_0, b1, B_60_8, B_60_26, B_60_27, inI, inL, isT, kInt, kByt, true_and, and_true, an_t, im_t, im_f, or_true, true_or, true_imp_iff, false_imp_iff, not_true_eq_false, not_false_eq_true, gK_uI, gK_uL, gK_uR, gK_uCI, gK_uCL, gN_uI, gN_uL, gN_uR, gN_uCI, gN_uCL, gR_uI, gR_uL, gR_uCI, gR_uCL, gI_uL, gI_uR, gI_uCL, gL_uI, gL_uR, gL_uCI, gz_uI, gz_uL, gz_uR, gz_uCI, gz_uCL, gs_uI, gs_uL, gs_uR, gs_uCI, gs_uCL, rI_at, rL_at, rR_at, rI_ne, rL_ne, rR_ne, rI_nk, rL_nk, rR_nk, rI_eq, rL_eq, rR_eq, Option.toList_some, Option.toList_none, List.cons_append, List.nil_append, List.append_nil, zc_eq, zc_lt, zc_le, zc_ge, zc_gt]
theorem Y_isPlace {x_z : Int} : Call G J_M_isPlace [a_i x_z] M Q ↔ Q (some (a_i (zB (-99 ≤ x_z ∧ x_z ≤ 99)))) M := by
  have b1 := fun qq => Y_in (G := G) (M := M) (Q := qq) (x_z := x_z) (y_z := -99) (w_z := 99)
  by_cases c_z : -99 ≤ x_z ∧ x_z ≤ 99
  · rw [zB_t c_z] at b1 ⊢
    simp (disch := omega) only [E_M_isPlace, B_188_0, b1, B_188_8, inI, inL, isT, kInt, kByt, true_and, and_true, an_t, im_t, im_f, or_true, true_or, true_imp_iff, false_imp_iff, not_true_eq_false, not_false_eq_true, gK_uI, gK_uL, gK_uR, gK_uCI, gK_uCL, gN_uI, gN_uL, gN_uR, gN_uCI, gN_uCL, gR_uI, gR_uL, gR_uCI, gR_uCL, gI_uL, gI_uR, gI_uCL, gL_uI, gL_uR, gL_uCI, gz_uI, gz_uL, gz_uR, gz_uCI, gz_uCL, gs_uI, gs_uL, gs_uR, gs_uCI, gs_uCL, rI_at, rL_at, rR_at, rI_ne, rL_ne, rR_ne, rI_nk, rL_nk, rR_nk, rI_eq, rL_eq, rR_eq, Option.toList_some, Option.toList_none, List.cons_append, List.nil_append, List.append_nil, zc_eq, zc_lt, zc_le, zc_ge, zc_gt]
  · rw [zB_f c_z] at b1 ⊢
    simp (disch := omega) only [E_M_isPlace, B_188_0, b1, B_188_8, inI, inL, isT, kInt, kByt, true_and, and_true, an_t, im_t, im_f, or_true, true_or, true_imp_iff, false_imp_iff, not_true_eq_false, not_false_eq_true, gK_uI, gK_uL, gK_uR, gK_uCI, gK_uCL, gN_uI, gN_uL, gN_uR, gN_uCI, gN_uCL, gR_uI, gR_uL, gR_uCI, gR_uCL, gI_uL, gI_uR, gI_uCL, gL_uI, gL_uR, gL_uCI, gz_uI, gz_uL, gz_uR, gz_uCI, gz_uCL, gs_uI, gs_uL, gs_uR, gs_uCI, gs_uCL, rI_at, rL_at, rR_at, rI_ne, rL_ne, rR_ne, rI_nk, rL_nk, rR_nk, rI_eq, rL_eq, rR_eq, Option.toList_some, Option.toList_none, List.cons_append, List.nil_append, List.append_nil, zc_eq, zc_lt, zc_le, zc_ge, zc_gt]
theorem X_putBox {s_z : Nat} {x_z a1_z a2 a3 a4 : Int} (hs : ShSa M s_z) (hx : 0 ≤ x_z ∧ x_z ≤ 5) : Call G J_Sa_putBox [a_r s_z, a_i x_z, a_i a1_z, a_i a2, a_i a3, a_i a4] M Q ↔ Q none (uI (uI (uI (uI (uI M (s_z + 2) x_z 1) (s_z + 3) (x_z * 4) a1_z) (s_z + 3) (x_z * 4 + 1) a2) (s_z + 3) (x_z * 4 + 2) a3) (s_z + 3) (x_z * 4 + 3) a4) := by
  have b1 := fun qq => Y_isFormT (G := G) (M := M) (Q := qq) (x_z := x_z) hx
  simp (disch := omega) only [E_Sa_putBox, B_61_0, B_61_4, B_61_23, B_61_46, B_61_58, b1, hs.u, inI, inL, isT, kInt, kByt, true_and, and_true, an_t, im_t, im_f, or_true, true_or, true_imp_iff, false_imp_iff, not_true_eq_false, not_false_eq_true, gK_uI, gK_uL, gK_uR, gK_uCI, gK_uCL, gN_uI, gN_uL, gN_uR, gN_uCI, gN_uCL, gR_uI, gR_uL, gR_uCI, gR_uCL, gI_uL, gI_uR, gI_uCL, gL_uI, gL_uR, gL_uCI, gz_uI, gz_uL, gz_uR, gz_uCI, gz_uCL, gs_uI, gs_uL, gs_uR, gs_uCI, gs_uCL, rI_at, rL_at, rR_at, rI_ne, rL_ne, rR_ne, rI_nk, rL_nk, rR_nk, rI_eq, rL_eq, rR_eq, Option.toList_some, Option.toList_none, List.cons_append, List.nil_append, List.append_nil, zc_eq, zc_lt, zc_le, zc_ge, zc_gt]
/-- a box put -/
def bxF (f_z : Int → Int) (x_z a1_z a2 a3 a4 : Int) : Int → Int := upf (upf (upf (upf (upf f_z (1127 + 5 * x_z) 1) (1127 + 5 * x_z + 1) a1_z) (1127 + 5 * x_z + 2) a2) (1127 + 5 * x_z + 3) a3) (1127 + 5 * x_z + 4) a4
theorem bxF_ne {f_z : Int → Int} {x_z a1_z a2 a3 a4 k_z : Int} (h_z : k_z < 1127 + 5 * x_z ∨ 1127 + 5 * x_z + 4 < k_z) : bxF f_z x_z a1_z a2 a3 a4 k_z = f_z k_z := by
  unfold bxF
  rw [upf_ne _ _ (by omega), upf_ne _ _ (by omega), upf_ne _ _ (by omega), upf_ne _ _ (by omega), upf_ne _ _ (by omega)]
theorem bxF_0 {f_z : Int → Int} {x_z a1_z a2 a3 a4 : Int} : bxF f_z x_z a1_z a2 a3 a4 (1127 + 5 * x_z) = 1 ∧ bxF f_z x_z a1_z a2 a3 a4 (1127 + 5 * x_z + 1) = a1_z ∧ bxF f_z x_z a1_z a2 a3 a4 (1127 + 5 * x_z + 2) = a2 ∧ bxF f_z x_z a1_z a2 a3 a4 (1127 + 5 * x_z + 3) = a3 ∧ bxF f_z x_z a1_z a2 a3 a4 (1127 + 5 * x_z + 4) = a4 := by
  unfold bxF
  refine ⟨?_, ?_, ?_, ?_, upf_at _ _ _⟩
  · rw [upf_ne _ _ (by omega), upf_ne _ _ (by omega), upf_ne _ _ (by omega), upf_ne _ _ (by omega), upf_at]
  · rw [upf_ne _ _ (by omega), upf_ne _ _ (by omega), upf_ne _ _ (by omega), upf_at]
  · rw [upf_ne _ _ (by omega), upf_ne _ _ (by omega), upf_at]
  · rw [upf_ne _ _ (by omega), upf_at]
theorem s_setBox {x_z a1_z a2 a3 a4 : Int} (h_z : Inv G M b) : Same G b J_X_setBox J_M_setBox [a_i x_z, a_i a1_z, a_i a2, a_i a3, a_i a4] M := by
  by_cases good_z : (0 ≤ x_z ∧ x_z ≤ 5) ∧ ((-99 ≤ a1_z ∧ a1_z ≤ 99) ∧ a1_z < a3 ∧ a3 ≤ 99) ∧ ((-99 ≤ a2 ∧ a2 ≤ 99) ∧ a2 < a4 ∧ a4 ≤ 99)
  · obtain ⟨cx, c1_z, c2_z⟩ := good_z
    refine same_edit (g_z := fun f_z => bxF f_z x_z a1_z a2 a3 a4) (v_z := fun f_z => f_z (1127 + 5 * x_z)) h_z (fun n_z f_z ps_z hE Q hQ => ?_) (fun M1_z n_z f_z ps_z tl tx n6_z hf hM_z Q hQ => ?_)
    · have hS_z := h_z.1
      have sX_z := hS_z.1
      have b1 := fun qq => Y_isFormT (G := G) (M := M) (Q := qq) (x_z := x_z) cx
      have b2 := fun qq => Y_isSpan (G := G) (M := M) (Q := qq) (x_z := a1_z) (y_z := a3)
      have b3 := fun qq => Y_isSpan (G := G) (M := M) (Q := qq) (x_z := a2) (y_z := a4)
      rw [zB_t c1_z] at b2
      rw [zB_t c2_z] at b3
      have sv : Call G J_X_saveState [a_r (b + 1)] M (fun r_z M2_z => At G 58 32 [a_r (b + 1), a_i x_z, a_i a1_z, a_i a2, a_i a3, a_i a4, a_u] r_z.toList M2_z Q) := by
        refine X_saveState hS_z hE (fun M1_z o1 hS1 hE1 => ?_)
        have e5_z := hE1.2.2.2.2.1
        obtain ⟨-, -, c3_z, c4_z, c5_z, c6_z, c7_z⟩ := id e5_z
        have sX1 := hS1.1
        have sS1 := hS1.2.2.1
        obtain ⟨M2_z, hM2⟩ : ∃ M2_z, M2_z = uI (uI (uI (uI (uI M1_z (b + 10 + 2) x_z 1) (b + 10 + 3) (x_z * 4) a1_z) (b + 10 + 3) (x_z * 4 + 1) a2) (b + 10 + 3) (x_z * 4 + 2) a3) (b + 10 + 3) (x_z * 4 + 3) a4 := ⟨_, rfl⟩
        have o2 : OutS b M1_z M2_z := by
          rw [hM2]
          exact ((((outS_uI (by omega)).trans (outS_uI (by omega))).trans (outS_uI (by omega))).trans (outS_uI (by omega))).trans (outS_uI (by omega))
        have r2 : ∀ i_z, gI M2_z (b + 10 + 2) i_z = if i_z = x_z then 1 else gI M1_z (b + 10 + 2) i_z := fun i_z => by
          rw [hM2, rI_ne (by omega), rI_ne (by omega), rI_ne (by omega), rI_ne (by omega)]
          by_cases ci : i_z = x_z
          · rw [if_pos ci, ci, rI_at]
          · rw [if_neg ci, rI_nk ci]
        have r3 : ∀ j_z, gI M2_z (b + 10 + 3) j_z = if j_z = x_z * 4 + 3 then a4 else if j_z = x_z * 4 + 2 then a3 else if j_z = x_z * 4 + 1 then a2 else if j_z = x_z * 4 then a1_z else gI M1_z (b + 10 + 3) j_z := fun j_z => by
          rw [hM2]
          by_cases q3_z : j_z = x_z * 4 + 3
          · rw [if_pos q3_z, q3_z, rI_at]
          · rw [if_neg q3_z, rI_nk q3_z]
            by_cases q2_z : j_z = x_z * 4 + 2
            · rw [if_pos q2_z, q2_z, rI_at]
            · rw [if_neg q2_z, rI_nk q2_z]
              by_cases q1_z : j_z = x_z * 4 + 1
              · rw [if_pos q1_z, q1_z, rI_at]
              · rw [if_neg q1_z, rI_nk q1_z]
                by_cases q0 : j_z = x_z * 4
                · rw [if_pos q0, q0, rI_at]
                · rw [if_neg q0, rI_nk q0, rI_ne (by omega)]
        have rr : ∀ a_z, a_z ≠ b + 10 + 2 → a_z ≠ b + 10 + 3 → gI M2_z a_z = gI M1_z a_z := fun a_z q0 q1_z => by
          rw [hM2, rI_ne q1_z, rI_ne q1_z, rI_ne q1_z, rI_ne q1_z, rI_ne q0]
        have eR : gR M2_z = gR M1_z := by
          rw [hM2]
          rfl
        obtain ⟨z0, z1, z2, z3, z4⟩ := bxF_0 (f_z := f_z) (x_z := x_z) (a1_z := a1_z) (a2 := a2) (a3 := a3) (a4 := a4)
        have ed : EdRow G M2_z (b + 10) (bxF f_z x_z a1_z a2 a3 a4) := by
          refine EdRow.upd e5_z o2 hE1.2.2.2.2.2.2.1 eR (fun k_z k0_z k1_z => bxF_ne (by omega)) (fun i_z i0_z i1_z => ?_) (fun i_z i0_z i1_z => ?_) ?_ ?_ ?_
          · obtain ⟨d1_z, d2_z, d3_z⟩ := c3_z i_z i0_z i1_z
            rw [r2 i_z]
            by_cases ci : i_z = x_z
            · subst ci
              rw [if_pos rfl, z0]
              refine ⟨Or.inr rfl, rfl, fun j_z j0 j1 => ?_⟩
              rw [r3]
              have : j_z = 0 ∨ j_z = 1 ∨ j_z = 2 ∨ j_z = 3 := by omega
              rcases this with e_z | e_z | e_z | e_z <;> subst e_z
              · rw [if_neg (by omega), if_neg (by omega), if_neg (by omega), if_pos (by omega), show 1127 + 5 * i_z + 1 + 0 = 1127 + 5 * i_z + 1 from by omega, z1]
                exact ⟨rfl, by omega⟩
              · rw [if_neg (by omega), if_neg (by omega), if_pos (by omega), show 1127 + 5 * i_z + 1 + 1 = 1127 + 5 * i_z + 2 from by omega, z2]
                exact ⟨rfl, by omega⟩
              · rw [if_neg (by omega), if_pos (by omega), show 1127 + 5 * i_z + 1 + 2 = 1127 + 5 * i_z + 3 from by omega, z3]
                exact ⟨rfl, by omega⟩
              · rw [if_pos (by omega), show 1127 + 5 * i_z + 1 + 3 = 1127 + 5 * i_z + 4 from by omega, z4]
                exact ⟨rfl, by omega⟩
            · rw [if_neg ci, bxF_ne (by omega)]
              refine ⟨d1_z, d2_z, fun j_z j0 j1 => ?_⟩
              rw [r3, if_neg (by omega), if_neg (by omega), if_neg (by omega), if_neg (by omega), bxF_ne (by omega)]
              exact d3_z j_z j0 j1
          · rw [rr _ (by omega) (by omega), bxF_ne (by omega)]
            exact c4_z i_z i0_z i1_z
          · rw [rr _ (by omega) (by omega), bxF_ne (by omega)]
            exact c5_z
          · rw [rr _ (by omega) (by omega), bxF_ne (by omega)]
            exact c6_z
          · rw [rr _ (by omega) (by omega), bxF_ne (by omega)]
            exact c7_z
        obtain ⟨p0_z, p1_z, p2_z⟩ := putC o1 hS1 hE1 o2 eR (fun a_z ha_z => rr a_z (by omega) (by omega)) ed
        have fin_z := hQ _ p0_z p1_z p2_z
        have pb := fun qq => X_putBox (G := G) (Q := qq) (M := M1_z) (a1_z := a1_z) (a2 := a2) (a3 := a3) (a4 := a4) sS1 cx
        rw [← hM2] at pb
        obtain ⟨d1_z, d2_z, -⟩ := c3_z x_z cx.1 (by omega)
        have d2' : f_z (1127 + 5 * x_z) = gI M1_z (b + 10 + 2) x_z := d2_z
        rw [d2'] at fin_z
        rcases d1_z with d1_z | d1_z
        · rw [d1_z] at fin_z
          simp (disch := omega) only [B_58_32, sX1.u, sS1.u, d1_z, B_58_48, B_58_49, pb, B_58_65, inI, inL, isT, kInt, kByt, true_and, and_true, an_t, im_t, im_f, or_true, true_or, true_imp_iff, false_imp_iff, not_true_eq_false, not_false_eq_true, gK_uI, gK_uL, gK_uR, gK_uCI, gK_uCL, gN_uI, gN_uL, gN_uR, gN_uCI, gN_uCL, gR_uI, gR_uL, gR_uCI, gR_uCL, gI_uL, gI_uR, gI_uCL, gL_uI, gL_uR, gL_uCI, gz_uI, gz_uL, gz_uR, gz_uCI, gz_uCL, gs_uI, gs_uL, gs_uR, gs_uCI, gs_uCL, rI_at, rL_at, rR_at, rI_ne, rL_ne, rR_ne, rI_nk, rL_nk, rR_nk, rI_eq, rL_eq, rR_eq, Option.toList_some, Option.toList_none, List.cons_append, List.nil_append, List.append_nil, zc_eq, zc_lt, zc_le, zc_ge, zc_gt]
          all_goals exact fin_z
        · rw [d1_z] at fin_z
          simp (disch := omega) only [B_58_32, sX1.u, sS1.u, d1_z, B_58_49, pb, B_58_65, inI, inL, isT, kInt, kByt, true_and, and_true, an_t, im_t, im_f, or_true, true_or, true_imp_iff, false_imp_iff, not_true_eq_false, not_false_eq_true, gK_uI, gK_uL, gK_uR, gK_uCI, gK_uCL, gN_uI, gN_uL, gN_uR, gN_uCI, gN_uCL, gR_uI, gR_uL, gR_uCI, gR_uCL, gI_uL, gI_uR, gI_uCL, gL_uI, gL_uR, gL_uCI, gz_uI, gz_uL, gz_uR, gz_uCI, gz_uCL, gs_uI, gs_uL, gs_uR, gs_uCI, gs_uCL, rI_at, rL_at, rR_at, rI_ne, rL_ne, rR_ne, rI_nk, rL_nk, rR_nk, rI_eq, rL_eq, rR_eq, Option.toList_some, Option.toList_none, List.cons_append, List.nil_append, List.append_nil, zc_eq, zc_lt, zc_le, zc_ge, zc_gt]
          all_goals exact fin_z
      simp (disch := omega) only [E_X_setBox, B_58_0, b1, B_58_4, b2, B_58_13, b3, B_58_22, B_58_28, sX_z.u, inI, inL, isT, kInt, kByt, true_and, and_true, an_t, im_t, im_f, or_true, true_or, true_imp_iff, false_imp_iff, not_true_eq_false, not_false_eq_true, gK_uI, gK_uL, gK_uR, gK_uCI, gK_uCL, gN_uI, gN_uL, gN_uR, gN_uCI, gN_uCL, gR_uI, gR_uL, gR_uCI, gR_uCL, gI_uL, gI_uR, gI_uCL, gL_uI, gL_uR, gL_uCI, gz_uI, gz_uL, gz_uR, gz_uCI, gz_uCL, gs_uI, gs_uL, gs_uR, gs_uCI, gs_uCL, rI_at, rL_at, rR_at, rI_ne, rL_ne, rR_ne, rI_nk, rL_nk, rR_nk, rI_eq, rL_eq, rR_eq, Option.toList_some, Option.toList_none, List.cons_append, List.nil_append, List.append_nil, zc_eq, zc_lt, zc_le, zc_ge, zc_gt]
      all_goals exact sv
    · have b1 := fun qq => Y_in (G := G) (M := M1_z) (Q := qq) (x_z := x_z) (y_z := 0) (w_z := 5)
      rw [zB_t cx] at b1
      have pl := fun (a_z : Int) (ha_z : -99 ≤ a_z ∧ a_z ≤ 99) qq => (by
        have q_z := Y_isPlace (G := G) (M := M1_z) (Q := qq) (x_z := a_z)
        rw [zB_t ha_z] at q_z
        exact q_z : Call G J_M_isPlace [a_i a_z] M1_z qq ↔ qq (some (a_i 1)) M1_z)
      have q1_z := pl a1_z (by omega)
      have q2_z := pl a2 (by omega)
      have q3_z := pl a3 (by omega)
      have q4_z := pl a4 (by omega)
      have sv : Call G J_M_save [a_r (b + 193)] M1_z (fun r_z M2_z => At G 187 58 [a_r (b + 193), a_i x_z, a_i a1_z, a_i a2, a_i a3, a_i a4, a_u] r_z.toList M2_z Q) := by
        refine X_Msave hM_z n6_z (fun M2_z o2 eF hM2 => ?_)
        have hs2 := hM2.1
        have r1_z := hM2.2.2.1
        obtain ⟨p0_z, p1_z, p2_z⟩ := putM (M3_z := uI (uI (uI (uI (uI M2_z (b + 193 + 1) (1127 + 5 * x_z) 1) (b + 193 + 1) (1127 + 5 * x_z + 1) a1_z) (b + 193 + 1) (1127 + 5 * x_z + 2) a2) (b + 193 + 1) (1127 + 5 * x_z + 3) a3) (b + 193 + 1) (1127 + 5 * x_z + 4) a4) (f' := bxF f_z x_z a1_z a2 a3 a4) o2 eF hM2 ((((((Ex.refl (fun r_z => r_z = b + 193 + 1) M2_z).uI _ _ rfl).uI _ _ rfl).uI _ _ rfl).uI _ _ rfl).uI _ _ rfl) (by rw [rI_row, rI_row, rI_row, rI_row, rI_row, r1_z]; rfl)
        have fin_z := hQ _ p0_z p1_z p2_z
        have v6 : gI M2_z (b + 193 + 1) (1127 + 5 * x_z) = f_z (1127 + 5 * x_z) := by rw [r1_z]
        simp (disch := omega) only [B_187_58, hs2.u, v6, B_187_100, B_187_131, inI, inL, isT, kInt, kByt, true_and, and_true, an_t, im_t, im_f, or_true, true_or, true_imp_iff, false_imp_iff, not_true_eq_false, not_false_eq_true, gK_uI, gK_uL, gK_uR, gK_uCI, gK_uCL, gN_uI, gN_uL, gN_uR, gN_uCI, gN_uCL, gR_uI, gR_uL, gR_uCI, gR_uCL, gI_uL, gI_uR, gI_uCL, gL_uI, gL_uR, gL_uCI, gz_uI, gz_uL, gz_uR, gz_uCI, gz_uCL, gs_uI, gs_uL, gs_uR, gs_uCI, gs_uCL, rI_at, rL_at, rR_at, rI_ne, rL_ne, rR_ne, rI_nk, rL_nk, rR_nk, rI_eq, rL_eq, rR_eq, Option.toList_some, Option.toList_none, List.cons_append, List.nil_append, List.append_nil, zc_eq, zc_lt, zc_le, zc_ge, zc_gt]
        all_goals exact fin_z
      have n1_z : ¬ a3 ≤ a1_z := by omega
      have n2_z : a2 < a4 := by omega
      simp (disch := omega) only [E_M_setBox, B_187_0, b1, B_187_6, q1_z, B_187_13, q2_z, B_187_20, q3_z, B_187_28, q4_z, B_187_36, n1_z, n2_z, B_187_54, hM_z.1.u, not_false_eq_true, inI, inL, isT, kInt, kByt, true_and, and_true, an_t, im_t, im_f, or_true, true_or, true_imp_iff, false_imp_iff, not_true_eq_false, not_false_eq_true, gK_uI, gK_uL, gK_uR, gK_uCI, gK_uCL, gN_uI, gN_uL, gN_uR, gN_uCI, gN_uCL, gR_uI, gR_uL, gR_uCI, gR_uCL, gI_uL, gI_uR, gI_uCL, gL_uI, gL_uR, gL_uCI, gz_uI, gz_uL, gz_uR, gz_uCI, gz_uCL, gs_uI, gs_uL, gs_uR, gs_uCI, gs_uCL, rI_at, rL_at, rR_at, rI_ne, rL_ne, rR_ne, rI_nk, rL_nk, rR_nk, rI_eq, rL_eq, rR_eq, Option.toList_some, Option.toList_none, List.cons_append, List.nil_append, List.append_nil, zc_eq, zc_lt, zc_le, zc_ge, zc_gt]
      all_goals exact sv
  · refine same_pure (v_z := -10000001) h_z (fun Q hq => ?_) (fun Q hq => ?_)
    · have b1 := fun qq => Y_isForm (G := G) (M := M) (Q := qq) (x_z := x_z)
      have b2 := fun qq => Y_isSpan (G := G) (M := M) (Q := qq) (x_z := a1_z) (y_z := a3)
      have b3 := fun qq => Y_isSpan (G := G) (M := M) (Q := qq) (x_z := a2) (y_z := a4)
      by_cases cx : 0 ≤ x_z ∧ x_z ≤ 5
      · rw [zB_t cx] at b1
        by_cases c1_z : (-99 ≤ a1_z ∧ a1_z ≤ 99) ∧ a1_z < a3 ∧ a3 ≤ 99
        · rw [zB_t c1_z] at b2
          rw [zB_f (fun q_z => good_z ⟨cx, c1_z, q_z⟩)] at b3
          simp (disch := omega) only [E_X_setBox, B_58_0, b1, B_58_4, b2, B_58_13, b3, B_58_22, B_58_25, inI, inL, isT, kInt, kByt, true_and, and_true, an_t, im_t, im_f, or_true, true_or, true_imp_iff, false_imp_iff, not_true_eq_false, not_false_eq_true, gK_uI, gK_uL, gK_uR, gK_uCI, gK_uCL, gN_uI, gN_uL, gN_uR, gN_uCI, gN_uCL, gR_uI, gR_uL, gR_uCI, gR_uCL, gI_uL, gI_uR, gI_uCL, gL_uI, gL_uR, gL_uCI, gz_uI, gz_uL, gz_uR, gz_uCI, gz_uCL, gs_uI, gs_uL, gs_uR, gs_uCI, gs_uCL, rI_at, rL_at, rR_at, rI_ne, rL_ne, rR_ne, rI_nk, rL_nk, rR_nk, rI_eq, rL_eq, rR_eq, Option.toList_some, Option.toList_none, List.cons_append, List.nil_append, List.append_nil, zc_eq, zc_lt, zc_le, zc_ge, zc_gt]
          all_goals exact hq
        · rw [zB_f c1_z] at b2
          simp (disch := omega) only [E_X_setBox, B_58_0, b1, B_58_4, b2, B_58_13, B_58_25, inI, inL, isT, kInt, kByt, true_and, and_true, an_t, im_t, im_f, or_true, true_or, true_imp_iff, false_imp_iff, not_true_eq_false, not_false_eq_true, gK_uI, gK_uL, gK_uR, gK_uCI, gK_uCL, gN_uI, gN_uL, gN_uR, gN_uCI, gN_uCL, gR_uI, gR_uL, gR_uCI, gR_uCL, gI_uL, gI_uR, gI_uCL, gL_uI, gL_uR, gL_uCI, gz_uI, gz_uL, gz_uR, gz_uCI, gz_uCL, gs_uI, gs_uL, gs_uR, gs_uCI, gs_uCL, rI_at, rL_at, rR_at, rI_ne, rL_ne, rR_ne, rI_nk, rL_nk, rR_nk, rI_eq, rL_eq, rR_eq, Option.toList_some, Option.toList_none, List.cons_append, List.nil_append, List.append_nil, zc_eq, zc_lt, zc_le, zc_ge, zc_gt]
          all_goals exact hq
      · rw [zB_f cx] at b1
        simp (disch := omega) only [E_X_setBox, B_58_0, b1, B_58_4, B_58_25, inI, inL, isT, kInt, kByt, true_and, and_true, an_t, im_t, im_f, or_true, true_or, true_imp_iff, false_imp_iff, not_true_eq_false, not_false_eq_true, gK_uI, gK_uL, gK_uR, gK_uCI, gK_uCL, gN_uI, gN_uL, gN_uR, gN_uCI, gN_uCL, gR_uI, gR_uL, gR_uCI, gR_uCL, gI_uL, gI_uR, gI_uCL, gL_uI, gL_uR, gL_uCI, gz_uI, gz_uL, gz_uR, gz_uCI, gz_uCL, gs_uI, gs_uL, gs_uR, gs_uCI, gs_uCL, rI_at, rL_at, rR_at, rI_ne, rL_ne, rR_ne, rI_nk, rL_nk, rR_nk, rI_eq, rL_eq, rR_eq, Option.toList_some, Option.toList_none, List.cons_append, List.nil_append, List.append_nil, zc_eq, zc_lt, zc_le, zc_ge, zc_gt]
        all_goals exact hq
    · have b1 := fun qq => Y_in (G := G) (M := M) (Q := qq) (x_z := x_z) (y_z := 0) (w_z := 5)
      have q1_z := fun qq => Y_isPlace (G := G) (M := M) (Q := qq) (x_z := a1_z)
      have q2_z := fun qq => Y_isPlace (G := G) (M := M) (Q := qq) (x_z := a2)
      have q3_z := fun qq => Y_isPlace (G := G) (M := M) (Q := qq) (x_z := a3)
      have q4_z := fun qq => Y_isPlace (G := G) (M := M) (Q := qq) (x_z := a4)
      by_cases cx : 0 ≤ x_z ∧ x_z ≤ 5
      · rw [zB_t cx] at b1
        by_cases d1_z : -99 ≤ a1_z ∧ a1_z ≤ 99
        · rw [zB_t d1_z] at q1_z
          by_cases d2_z : -99 ≤ a2 ∧ a2 ≤ 99
          · rw [zB_t d2_z] at q2_z
            by_cases d3_z : -99 ≤ a3 ∧ a3 ≤ 99
            · rw [zB_t d3_z] at q3_z
              by_cases d4_z : -99 ≤ a4 ∧ a4 ≤ 99
              · rw [zB_t d4_z] at q4_z
                by_cases d5_z : a3 ≤ a1_z
                · simp (disch := omega) only [E_M_setBox, B_187_0, b1, B_187_6, q1_z, B_187_13, q2_z, B_187_20, q3_z, B_187_28, q4_z, B_187_36, d5_z, B_187_51, inI, inL, isT, kInt, kByt, true_and, and_true, an_t, im_t, im_f, or_true, true_or, true_imp_iff, false_imp_iff, not_true_eq_false, not_false_eq_true, gK_uI, gK_uL, gK_uR, gK_uCI, gK_uCL, gN_uI, gN_uL, gN_uR, gN_uCI, gN_uCL, gR_uI, gR_uL, gR_uCI, gR_uCL, gI_uL, gI_uR, gI_uCL, gL_uI, gL_uR, gL_uCI, gz_uI, gz_uL, gz_uR, gz_uCI, gz_uCL, gs_uI, gs_uL, gs_uR, gs_uCI, gs_uCL, rI_at, rL_at, rR_at, rI_ne, rL_ne, rR_ne, rI_nk, rL_nk, rR_nk, rI_eq, rL_eq, rR_eq, Option.toList_some, Option.toList_none, List.cons_append, List.nil_append, List.append_nil, zc_eq, zc_lt, zc_le, zc_ge, zc_gt]
                  all_goals exact hq
                · have d6_z : ¬ a2 < a4 := fun q_z => good_z ⟨cx, by omega, by omega⟩
                  simp (disch := omega) only [E_M_setBox, B_187_0, b1, B_187_6, q1_z, B_187_13, q2_z, B_187_20, q3_z, B_187_28, q4_z, B_187_36, d5_z, d6_z, B_187_51, inI, inL, isT, kInt, kByt, true_and, and_true, an_t, im_t, im_f, or_true, true_or, true_imp_iff, false_imp_iff, not_true_eq_false, not_false_eq_true, gK_uI, gK_uL, gK_uR, gK_uCI, gK_uCL, gN_uI, gN_uL, gN_uR, gN_uCI, gN_uCL, gR_uI, gR_uL, gR_uCI, gR_uCL, gI_uL, gI_uR, gI_uCL, gL_uI, gL_uR, gL_uCI, gz_uI, gz_uL, gz_uR, gz_uCI, gz_uCL, gs_uI, gs_uL, gs_uR, gs_uCI, gs_uCL, rI_at, rL_at, rR_at, rI_ne, rL_ne, rR_ne, rI_nk, rL_nk, rR_nk, rI_eq, rL_eq, rR_eq, Option.toList_some, Option.toList_none, List.cons_append, List.nil_append, List.append_nil, zc_eq, zc_lt, zc_le, zc_ge, zc_gt]
                  all_goals exact hq
              · rw [zB_f d4_z] at q4_z
                simp (disch := omega) only [E_M_setBox, B_187_0, b1, B_187_6, q1_z, B_187_13, q2_z, B_187_20, q3_z, B_187_28, q4_z, B_187_36, B_187_51, inI, inL, isT, kInt, kByt, true_and, and_true, an_t, im_t, im_f, or_true, true_or, true_imp_iff, false_imp_iff, not_true_eq_false, not_false_eq_true, gK_uI, gK_uL, gK_uR, gK_uCI, gK_uCL, gN_uI, gN_uL, gN_uR, gN_uCI, gN_uCL, gR_uI, gR_uL, gR_uCI, gR_uCL, gI_uL, gI_uR, gI_uCL, gL_uI, gL_uR, gL_uCI, gz_uI, gz_uL, gz_uR, gz_uCI, gz_uCL, gs_uI, gs_uL, gs_uR, gs_uCI, gs_uCL, rI_at, rL_at, rR_at, rI_ne, rL_ne, rR_ne, rI_nk, rL_nk, rR_nk, rI_eq, rL_eq, rR_eq, Option.toList_some, Option.toList_none, List.cons_append, List.nil_append, List.append_nil, zc_eq, zc_lt, zc_le, zc_ge, zc_gt]
                all_goals exact hq
            · rw [zB_f d3_z] at q3_z
              simp (disch := omega) only [E_M_setBox, B_187_0, b1, B_187_6, q1_z, B_187_13, q2_z, B_187_20, q3_z, B_187_28, B_187_51, inI, inL, isT, kInt, kByt, true_and, and_true, an_t, im_t, im_f, or_true, true_or, true_imp_iff, false_imp_iff, not_true_eq_false, not_false_eq_true, gK_uI, gK_uL, gK_uR, gK_uCI, gK_uCL, gN_uI, gN_uL, gN_uR, gN_uCI, gN_uCL, gR_uI, gR_uL, gR_uCI, gR_uCL, gI_uL, gI_uR, gI_uCL, gL_uI, gL_uR, gL_uCI, gz_uI, gz_uL, gz_uR, gz_uCI, gz_uCL, gs_uI, gs_uL, gs_uR, gs_uCI, gs_uCL, rI_at, rL_at, rR_at, rI_ne, rL_ne, rR_ne, rI_nk, rL_nk, rR_nk, rI_eq, rL_eq, rR_eq, Option.toList_some, Option.toList_none, List.cons_append, List.nil_append, List.append_nil, zc_eq, zc_lt, zc_le, zc_ge, zc_gt]
              all_goals exact hq
          · rw [zB_f d2_z] at q2_z
            simp (disch := omega) only [E_M_setBox, B_187_0, b1, B_187_6, q1_z, B_187_13, q2_z, B_187_20, B_187_51, inI, inL, isT, kInt, kByt, true_and, and_true, an_t, im_t, im_f, or_true, true_or, true_imp_iff, false_imp_iff, not_true_eq_false, not_false_eq_true, gK_uI, gK_uL, gK_uR, gK_uCI, gK_uCL, gN_uI, gN_uL, gN_uR, gN_uCI, gN_uCL, gR_uI, gR_uL, gR_uCI, gR_uCL, gI_uL, gI_uR, gI_uCL, gL_uI, gL_uR, gL_uCI, gz_uI, gz_uL, gz_uR, gz_uCI, gz_uCL, gs_uI, gs_uL, gs_uR, gs_uCI, gs_uCL, rI_at, rL_at, rR_at, rI_ne, rL_ne, rR_ne, rI_nk, rL_nk, rR_nk, rI_eq, rL_eq, rR_eq, Option.toList_some, Option.toList_none, List.cons_append, List.nil_append, List.append_nil, zc_eq, zc_lt, zc_le, zc_ge, zc_gt]
            all_goals exact hq
        · rw [zB_f d1_z] at q1_z
          simp (disch := omega) only [E_M_setBox, B_187_0, b1, B_187_6, q1_z, B_187_13, B_187_51, inI, inL, isT, kInt, kByt, true_and, and_true, an_t, im_t, im_f, or_true, true_or, true_imp_iff, false_imp_iff, not_true_eq_false, not_false_eq_true, gK_uI, gK_uL, gK_uR, gK_uCI, gK_uCL, gN_uI, gN_uL, gN_uR, gN_uCI, gN_uCL, gR_uI, gR_uL, gR_uCI, gR_uCL, gI_uL, gI_uR, gI_uCL, gL_uI, gL_uR, gL_uCI, gz_uI, gz_uL, gz_uR, gz_uCI, gz_uCL, gs_uI, gs_uL, gs_uR, gs_uCI, gs_uCL, rI_at, rL_at, rR_at, rI_ne, rL_ne, rR_ne, rI_nk, rL_nk, rR_nk, rI_eq, rL_eq, rR_eq, Option.toList_some, Option.toList_none, List.cons_append, List.nil_append, List.append_nil, zc_eq, zc_lt, zc_le, zc_ge, zc_gt]
          all_goals exact hq
      · rw [zB_f cx] at b1
        simp (disch := omega) only [E_M_setBox, B_187_0, b1, B_187_6, B_187_51, inI, inL, isT, kInt, kByt, true_and, and_true, an_t, im_t, im_f, or_true, true_or, true_imp_iff, false_imp_iff, not_true_eq_false, not_false_eq_true, gK_uI, gK_uL, gK_uR, gK_uCI, gK_uCL, gN_uI, gN_uL, gN_uR, gN_uCI, gN_uCL, gR_uI, gR_uL, gR_uCI, gR_uCL, gI_uL, gI_uR, gI_uCL, gL_uI, gL_uR, gL_uCI, gz_uI, gz_uL, gz_uR, gz_uCI, gz_uCL, gs_uI, gs_uL, gs_uR, gs_uCI, gs_uCL, rI_at, rL_at, rR_at, rI_ne, rL_ne, rR_ne, rI_nk, rL_nk, rR_nk, rI_eq, rL_eq, rR_eq, Option.toList_some, Option.toList_none, List.cons_append, List.nil_append, List.append_nil, zc_eq, zc_lt, zc_le, zc_ge, zc_gt]
        all_goals exact hq
end CJ
