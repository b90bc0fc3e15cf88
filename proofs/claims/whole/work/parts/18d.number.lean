/-! THE PURE PART, part 18: a number, both sides. Own work. -/
/-- where the digits of a number start -/
def nuF (t : Int → Int) (L x_z : Int) : Int := if sg t L x_z = 45 then x_z + 1 else x_z
/-- what stands below the line of the number from x_z to e_z (0: it is none) -/
def nuD (t : Int → Int) (L x_z e_z : Int) : Int :=
  if (dgs t L e_z 4 (nuF t L x_z) 0).1 - nuF t L x_z < 1 ∨ 3 < (dgs t L e_z 4 (nuF t L x_z) 0).1 - nuF t L x_z ∨ (1 < (dgs t L e_z 4 (nuF t L x_z) 0).1 - nuF t L x_z ∧ sg t L (nuF t L x_z) = 48) then 0
  else if (dgs t L e_z 4 (nuF t L x_z) 0).1 = e_z then 1
  else if sg t L (dgs t L e_z 4 (nuF t L x_z) 0).1 = 47 ∧ (dgs t L e_z 4 (nuF t L x_z) 0).1 + 2 = e_z ∧ 2 ≤ sg t L ((dgs t L e_z 4 (nuF t L x_z) 0).1 + 1) - 48 ∧ sg t L ((dgs t L e_z 4 (nuF t L x_z) 0).1 + 1) - 48 ≤ 9 then sg t L ((dgs t L e_z 4 (nuF t L x_z) 0).1 + 1) - 48 else 0
/-- and above it -/
def nuN (t : Int → Int) (L x_z e_z : Int) : Int := if sg t L x_z = 45 then -(dgs t L e_z 4 (nuF t L x_z) 0).2 else (dgs t L e_z 4 (nuF t L x_z) 0).2
section ED
variable {G : Env0} {Q : Option AV → Mem → Prop} {M T : Mem} {r m : Nat} {t : Int → Int} {L : Int}
theorem X_den {k_z e_z : Int} (h_z : TxC M r t L) (k0_z : 0 ≤ k_z) (k1_z : k_z ≤ 200) (e0_z : 0 ≤ e_z) (e1_z : e_z ≤ 200) (ht : ∀ i_z, 0 ≤ i_z → i_z < L → 0 ≤ t i_z ∧ t i_z ≤ 255) : Call G J_Rd_readDenominator [a_r r, a_i k_z, a_i e_z] M Q ↔ Q (some (a_i (if sg t L k_z = 47 ∧ k_z + 2 = e_z ∧ 2 ≤ sg t L (k_z + 1) - 48 ∧ sg t L (k_z + 1) - 48 ≤ 9 then sg t L (k_z + 1) - 48 else 0))) M := by
  have s1_z := fun (qq : Option AV → Mem → Prop) => X_sgC (G := G) (Q := qq) (x_z := k_z) h_z
  have s2_z := fun (qq : Option AV → Mem → Prop) => X_sgC (G := G) (Q := qq) (x_z := k_z + 1) h_z
  have b2 : 0 ≤ sg t L (k_z + 1) ∧ sg t L (k_z + 1) ≤ 255 := by
    by_cases c_z : 0 ≤ k_z + 1 ∧ k_z + 1 < L
    · rw [sg_in c_z]
      exact ht _ c_z.1 c_z.2
    · rw [sg_out c_z]
      decide
  have h1 := h_z.1
  generalize sg t L k_z = u_z at *
  generalize sg t L (k_z + 1) = v_z at *
  by_cases c1_z : u_z = 47
  · by_cases c2_z : k_z + 2 = e_z
    · by_cases c3_z : 2 ≤ v_z - 48 ∧ v_z - 48 ≤ 9
      · have bt_z := fun qq => Y_isBetweenT (G := G) (Q := qq) (M := M) (x_z := v_z - 48) (y_z := 2) (w_z := 9) c3_z
        rw [if_pos ⟨c1_z, c2_z, c3_z⟩]
        simp (disch := omega) only [E_Rd_readDenominator, B_29_0, h1, s2_z, B_29_7, s1_z, B_29_16, c1_z, not_true_eq_false, bt_z, B_29_35, B_29_43, B_29_55, inI, inL, isT, kInt, kByt, true_and, and_true, an_t, im_t, im_f, or_true, true_or, true_imp_iff, false_imp_iff, not_true_eq_false, not_false_eq_true, gK_uI, gK_uL, gK_uR, gK_uCI, gK_uCL, gN_uI, gN_uL, gN_uR, gN_uCI, gN_uCL, gR_uI, gR_uL, gR_uCI, gR_uCL, gI_uL, gI_uR, gI_uCL, gL_uI, gL_uR, gL_uCI, gz_uI, gz_uL, gz_uR, gz_uCI, gz_uCL, gs_uI, gs_uL, gs_uR, gs_uCI, gs_uCL, rI_at, rL_at, rR_at, rI_ne, rL_ne, rR_ne, rI_nk, rL_nk, rR_nk, rI_eq, rL_eq, rR_eq, Option.toList_some, Option.toList_none, List.cons_append, List.nil_append, List.append_nil, zc_eq, zc_lt, zc_le, zc_ge, zc_gt]
      · have bt_z := fun qq => Y_isBetweenF (G := G) (Q := qq) (M := M) (x_z := v_z - 48) (y_z := 2) (w_z := 9) c3_z
        rw [if_neg (fun q_z => c3_z q_z.2.2)]
        simp (disch := omega) only [E_Rd_readDenominator, B_29_0, h1, s2_z, B_29_7, s1_z, B_29_16, c1_z, not_true_eq_false, bt_z, B_29_35, B_29_42, B_29_43, B_29_54, B_29_55, inI, inL, isT, kInt, kByt, true_and, and_true, an_t, im_t, im_f, or_true, true_or, true_imp_iff, false_imp_iff, not_true_eq_false, not_false_eq_true, gK_uI, gK_uL, gK_uR, gK_uCI, gK_uCL, gN_uI, gN_uL, gN_uR, gN_uCI, gN_uCL, gR_uI, gR_uL, gR_uCI, gR_uCL, gI_uL, gI_uR, gI_uCL, gL_uI, gL_uR, gL_uCI, gz_uI, gz_uL, gz_uR, gz_uCI, gz_uCL, gs_uI, gs_uL, gs_uR, gs_uCI, gs_uCL, rI_at, rL_at, rR_at, rI_ne, rL_ne, rR_ne, rI_nk, rL_nk, rR_nk, rI_eq, rL_eq, rR_eq, Option.toList_some, Option.toList_none, List.cons_append, List.nil_append, List.append_nil, zc_eq, zc_lt, zc_le, zc_ge, zc_gt]
    · rw [if_neg (fun q_z => c2_z q_z.2.1)]
      simp (disch := omega) only [E_Rd_readDenominator, B_29_0, h1, s2_z, B_29_7, s1_z, B_29_16, c1_z, c2_z, not_true_eq_false, not_false_eq_true, B_29_42, B_29_43, B_29_54, B_29_55, inI, inL, isT, kInt, kByt, true_and, and_true, an_t, im_t, im_f, or_true, true_or, true_imp_iff, false_imp_iff, not_true_eq_false, not_false_eq_true, gK_uI, gK_uL, gK_uR, gK_uCI, gK_uCL, gN_uI, gN_uL, gN_uR, gN_uCI, gN_uCL, gR_uI, gR_uL, gR_uCI, gR_uCL, gI_uL, gI_uR, gI_uCL, gL_uI, gL_uR, gL_uCI, gz_uI, gz_uL, gz_uR, gz_uCI, gz_uCL, gs_uI, gs_uL, gs_uR, gs_uCI, gs_uCL, rI_at, rL_at, rR_at, rI_ne, rL_ne, rR_ne, rI_nk, rL_nk, rR_nk, rI_eq, rL_eq, rR_eq, Option.toList_some, Option.toList_none, List.cons_append, List.nil_append, List.append_nil, zc_eq, zc_lt, zc_le, zc_ge, zc_gt]
  · rw [if_neg (fun q_z => c1_z q_z.1)]
    simp (disch := omega) only [E_Rd_readDenominator, B_29_0, h1, s2_z, B_29_7, s1_z, B_29_16, c1_z, not_false_eq_true, B_29_42, B_29_43, B_29_54, B_29_55, inI, inL, isT, kInt, kByt, true_and, and_true, an_t, im_t, im_f, or_true, true_or, true_imp_iff, false_imp_iff, not_true_eq_false, not_false_eq_true, gK_uI, gK_uL, gK_uR, gK_uCI, gK_uCL, gN_uI, gN_uL, gN_uR, gN_uCI, gN_uCL, gR_uI, gR_uL, gR_uCI, gR_uCL, gI_uL, gI_uR, gI_uCL, gL_uI, gL_uR, gL_uCI, gz_uI, gz_uL, gz_uR, gz_uCI, gz_uCL, gs_uI, gs_uL, gs_uR, gs_uCI, gs_uCL, rI_at, rL_at, rR_at, rI_ne, rL_ne, rR_ne, rI_nk, rL_nk, rR_nk, rI_eq, rL_eq, rR_eq, Option.toList_some, Option.toList_none, List.cons_append, List.nil_append, List.append_nil, zc_eq, zc_lt, zc_le, zc_ge, zc_gt]
theorem X_readNum {x_z e_z : Int} (h_z : TxC M r t L) (x0_z : 0 ≤ x_z) (xe : x_z < e_z) (e1_z : e_z ≤ L) (ht : ∀ i_z, 0 ≤ i_z → i_z < L → 0 ≤ t i_z ∧ t i_z ≤ 255) (hQ : Q (some (a_l (if nuD t L x_z e_z = 0 then -1 else low (nuN t L x_z e_z) (nuD t L x_z e_z)))) M) : Call G J_Rd_readNumber [a_r r, a_i x_z, a_i e_z] M Q := by
  have L1 := h_z.2.2.2.2.2.2.1
  have sx := fun (qq : Option AV → Mem → Prop) => X_sgC (G := G) (Q := qq) (x_z := x_z) h_z
  have h1 := h_z.1
  have dB4 : dB 4 = 0 := rfl
  have ff_z : x_z ≤ nuF t L x_z ∧ nuF t L x_z ≤ e_z := by
    unfold nuF
    split <;> omega
  have bd := dgs_bd t L e_z 4 (nuF t L x_z) 0 (by decide) (by decide) (by decide)
  -- behind the digits
  have tail_z : ∀ ng : Int, (ng = 0 ∧ ¬ sg t L x_z = 45) ∨ (ng = 1 ∧ sg t L x_z = 45) → At G 28 35 [a_r r, a_i x_z, a_i e_z, a_i ng, a_i (nuF t L x_z), a_i 0, a_i 0, a_u, a_u] [] M Q := by
    intro ng hng
    have lp := X_dgC (G := G) (Q := Q) (x_z := x_z) (ng := ng) h_z e1_z 4 (nuF t L x_z) 0 (by decide) (by omega) ff_z.2 (by decide) (by decide)
    rw [show (4 : Int) - ((4 : Nat) : Int) = 0 from by decide] at lp
    refine lp (fun k' v' hkv => ?_)
    have ek : (dgs t L e_z 4 (nuF t L x_z) 0).1 = k' := by rw [← hkv]
    have ev_z : (dgs t L e_z 4 (nuF t L x_z) 0).2 = v' := by rw [← hkv]
    unfold nuD nuN at hQ
    rw [ek, ev_z] at hQ bd
    have sf := fun (qq : Option AV → Mem → Prop) => X_sgC (G := G) (Q := qq) (x_z := k' - (k' - nuF t L x_z)) h_z
    rw [show k' - (k' - nuF t L x_z) = nuF t L x_z from by omega] at sf
    have dn := fun (qq : Option AV → Mem → Prop) => X_den (G := G) (Q := qq) (k_z := k') (e_z := e_z) h_z (by omega) (by omega) (by omega) (by omega) ht
    clear lp ek ev_z hkv
    rw [Int.zero_add]
    generalize nuF t L x_z = f_z at *
    generalize hn : k' - f_z = n_z at *
    generalize hsf : sg t L f_z = sf0_z at *
    generalize hD : (if sg t L k' = 47 ∧ k' + 2 = e_z ∧ 2 ≤ sg t L (k' + 1) - 48 ∧ sg t L (k' + 1) - 48 ≤ 9 then sg t L (k' + 1) - 48 else 0) = D_z at *
    have D9 : D_z = 0 ∨ (2 ≤ D_z ∧ D_z ≤ 9) := by
      rw [← hD]
      split <;> omega
    have efn : k' - n_z = f_z := by omega
    have fin_z : ∀ w_z d_z : Int, (d_z = 0 ∨ (1 ≤ d_z ∧ d_z ≤ 9)) → Q (some (a_l (if d_z = 0 then -1 else low (if sg t L x_z = 45 then -v' else v') d_z))) M → At G 28 150 [a_r r, a_i x_z, a_i e_z, a_i ng, a_i k', a_i n_z, a_i v', a_i w_z, a_u] [a_i d_z] M Q := by
      intro w_z d_z hd_z hq
      by_cases c0_z : d_z = 0
      · rw [if_pos c0_z] at hq
        simp (disch := omega) only [B_28_150, B_28_184, inI, inL, isT, kInt, kByt, true_and, and_true, an_t, im_t, im_f, or_true, true_or, true_imp_iff, false_imp_iff, not_true_eq_false, not_false_eq_true, gK_uI, gK_uL, gK_uR, gK_uCI, gK_uCL, gN_uI, gN_uL, gN_uR, gN_uCI, gN_uCL, gR_uI, gR_uL, gR_uCI, gR_uCL, gI_uL, gI_uR, gI_uCL, gL_uI, gL_uR, gL_uCI, gz_uI, gz_uL, gz_uR, gz_uCI, gz_uCL, gs_uI, gs_uL, gs_uR, gs_uCI, gs_uCL, rI_at, rL_at, rR_at, rI_ne, rL_ne, rR_ne, rI_nk, rL_nk, rR_nk, rI_eq, rL_eq, rR_eq, Option.toList_some, Option.toList_none, List.cons_append, List.nil_append, List.append_nil, zc_eq, zc_lt, zc_le, zc_ge, zc_gt]
        all_goals exact hq
      · rw [if_neg c0_z] at hq
        rcases hng with ⟨g1, g2⟩ | ⟨g1, g2⟩
        · rw [if_neg g2] at hq
          have go_z : Call G J_Fc_lowest [a_l v', a_l d_z] M (fun r1_z M2_z => At G 28 184 [a_r r, a_i x_z, a_i e_z, a_i ng, a_i k', a_i n_z, a_i v', a_i w_z, a_i d_z] r1_z.toList M2_z Q) := by
            refine X_lowest (by omega) (by omega) c0_z ?_
            simp (disch := omega) only [B_28_184, inI, inL, isT, kInt, kByt, true_and, and_true, an_t, im_t, im_f, or_true, true_or, true_imp_iff, false_imp_iff, not_true_eq_false, not_false_eq_true, gK_uI, gK_uL, gK_uR, gK_uCI, gK_uCL, gN_uI, gN_uL, gN_uR, gN_uCI, gN_uCL, gR_uI, gR_uL, gR_uCI, gR_uCL, gI_uL, gI_uR, gI_uCL, gL_uI, gL_uR, gL_uCI, gz_uI, gz_uL, gz_uR, gz_uCI, gz_uCL, gs_uI, gs_uL, gs_uR, gs_uCI, gs_uCL, rI_at, rL_at, rR_at, rI_ne, rL_ne, rR_ne, rI_nk, rL_nk, rR_nk, rI_eq, rL_eq, rR_eq, Option.toList_some, Option.toList_none, List.cons_append, List.nil_append, List.append_nil, zc_eq, zc_lt, zc_le, zc_ge, zc_gt]
            all_goals exact hq
          simp (disch := omega) only [B_28_150, B_28_164, g1, B_28_175, B_28_178, inI, inL, isT, kInt, kByt, true_and, and_true, an_t, im_t, im_f, or_true, true_or, true_imp_iff, false_imp_iff, not_true_eq_false, not_false_eq_true, gK_uI, gK_uL, gK_uR, gK_uCI, gK_uCL, gN_uI, gN_uL, gN_uR, gN_uCI, gN_uCL, gR_uI, gR_uL, gR_uCI, gR_uCL, gI_uL, gI_uR, gI_uCL, gL_uI, gL_uR, gL_uCI, gz_uI, gz_uL, gz_uR, gz_uCI, gz_uCL, gs_uI, gs_uL, gs_uR, gs_uCI, gs_uCL, rI_at, rL_at, rR_at, rI_ne, rL_ne, rR_ne, rI_nk, rL_nk, rR_nk, rI_eq, rL_eq, rR_eq, Option.toList_some, Option.toList_none, List.cons_append, List.nil_append, List.append_nil, zc_eq, zc_lt, zc_le, zc_ge, zc_gt]
          rw [g1] at go_z
          all_goals exact go_z
        · rw [if_pos g2] at hq
          have go_z : Call G J_Fc_lowest [a_l (-v'), a_l d_z] M (fun r1_z M2_z => At G 28 184 [a_r r, a_i x_z, a_i e_z, a_i ng, a_i k', a_i n_z, a_i v', a_i w_z, a_i d_z] r1_z.toList M2_z Q) := by
            refine X_lowest (by omega) (by omega) c0_z ?_
            simp (disch := omega) only [B_28_184, inI, inL, isT, kInt, kByt, true_and, and_true, an_t, im_t, im_f, or_true, true_or, true_imp_iff, false_imp_iff, not_true_eq_false, not_false_eq_true, gK_uI, gK_uL, gK_uR, gK_uCI, gK_uCL, gN_uI, gN_uL, gN_uR, gN_uCI, gN_uCL, gR_uI, gR_uL, gR_uCI, gR_uCL, gI_uL, gI_uR, gI_uCL, gL_uI, gL_uR, gL_uCI, gz_uI, gz_uL, gz_uR, gz_uCI, gz_uCL, gs_uI, gs_uL, gs_uR, gs_uCI, gs_uCL, rI_at, rL_at, rR_at, rI_ne, rL_ne, rR_ne, rI_nk, rL_nk, rR_nk, rI_eq, rL_eq, rR_eq, Option.toList_some, Option.toList_none, List.cons_append, List.nil_append, List.append_nil, zc_eq, zc_lt, zc_le, zc_ge, zc_gt]
            all_goals exact hq
          simp (disch := omega) only [B_28_150, B_28_164, g1, B_28_178, inI, inL, isT, kInt, kByt, true_and, and_true, an_t, im_t, im_f, or_true, true_or, true_imp_iff, false_imp_iff, not_true_eq_false, not_false_eq_true, gK_uI, gK_uL, gK_uR, gK_uCI, gK_uCL, gN_uI, gN_uL, gN_uR, gN_uCI, gN_uCL, gR_uI, gR_uL, gR_uCI, gR_uCL, gI_uL, gI_uR, gI_uCL, gL_uI, gL_uR, gL_uCI, gz_uI, gz_uL, gz_uR, gz_uCI, gz_uCL, gs_uI, gs_uL, gs_uR, gs_uCI, gs_uCL, rI_at, rL_at, rR_at, rI_ne, rL_ne, rR_ne, rI_nk, rL_nk, rR_nk, rI_eq, rL_eq, rR_eq, Option.toList_some, Option.toList_none, List.cons_append, List.nil_append, List.append_nil, zc_eq, zc_lt, zc_le, zc_ge, zc_gt]
          rw [g1] at go_z
          all_goals exact go_z
    have mid_z : ∀ w_z : Int, (w_z = 0 ∧ ¬ (1 < n_z ∧ sf0_z = 48)) ∨ (w_z = 1 ∧ 1 < n_z ∧ sf0_z = 48) → At G 28 110 [a_r r, a_i x_z, a_i e_z, a_i ng, a_i k', a_i n_z, a_i v', a_u, a_u] [a_i w_z] M Q := by
      intro w_z hw
      by_cases bad_z : n_z < 1 ∨ 3 < n_z ∨ (1 < n_z ∧ sf0_z = 48)
      · rw [if_pos bad_z, if_pos rfl] at hQ
        by_cases c1_z : n_z < 1
        · simp (disch := omega) only [B_28_110, B_28_129, inI, inL, isT, kInt, kByt, true_and, and_true, an_t, im_t, im_f, or_true, true_or, true_imp_iff, false_imp_iff, not_true_eq_false, not_false_eq_true, gK_uI, gK_uL, gK_uR, gK_uCI, gK_uCL, gN_uI, gN_uL, gN_uR, gN_uCI, gN_uCL, gR_uI, gR_uL, gR_uCI, gR_uCL, gI_uL, gI_uR, gI_uCL, gL_uI, gL_uR, gL_uCI, gz_uI, gz_uL, gz_uR, gz_uCI, gz_uCL, gs_uI, gs_uL, gs_uR, gs_uCI, gs_uCL, rI_at, rL_at, rR_at, rI_ne, rL_ne, rR_ne, rI_nk, rL_nk, rR_nk, rI_eq, rL_eq, rR_eq, Option.toList_some, Option.toList_none, List.cons_append, List.nil_append, List.append_nil, zc_eq, zc_lt, zc_le, zc_ge, zc_gt]
          all_goals exact hQ
        · by_cases c2_z : 3 < n_z
          · simp (disch := omega) only [B_28_110, B_28_129, inI, inL, isT, kInt, kByt, true_and, and_true, an_t, im_t, im_f, or_true, true_or, true_imp_iff, false_imp_iff, not_true_eq_false, not_false_eq_true, gK_uI, gK_uL, gK_uR, gK_uCI, gK_uCL, gN_uI, gN_uL, gN_uR, gN_uCI, gN_uCL, gR_uI, gR_uL, gR_uCI, gR_uCL, gI_uL, gI_uR, gI_uCL, gL_uI, gL_uR, gL_uCI, gz_uI, gz_uL, gz_uR, gz_uCI, gz_uCL, gs_uI, gs_uL, gs_uR, gs_uCI, gs_uCL, rI_at, rL_at, rR_at, rI_ne, rL_ne, rR_ne, rI_nk, rL_nk, rR_nk, rI_eq, rL_eq, rR_eq, Option.toList_some, Option.toList_none, List.cons_append, List.nil_append, List.append_nil, zc_eq, zc_lt, zc_le, zc_ge, zc_gt]
            all_goals exact hQ
          · have w1_z : w_z = 1 := by omega
            simp (disch := omega) only [B_28_110, w1_z, B_28_129, inI, inL, isT, kInt, kByt, true_and, and_true, an_t, im_t, im_f, or_true, true_or, true_imp_iff, false_imp_iff, not_true_eq_false, not_false_eq_true, gK_uI, gK_uL, gK_uR, gK_uCI, gK_uCL, gN_uI, gN_uL, gN_uR, gN_uCI, gN_uCL, gR_uI, gR_uL, gR_uCI, gR_uCL, gI_uL, gI_uR, gI_uCL, gL_uI, gL_uR, gL_uCI, gz_uI, gz_uL, gz_uR, gz_uCI, gz_uCL, gs_uI, gs_uL, gs_uR, gs_uCI, gs_uCL, rI_at, rL_at, rR_at, rI_ne, rL_ne, rR_ne, rI_nk, rL_nk, rR_nk, rI_eq, rL_eq, rR_eq, Option.toList_some, Option.toList_none, List.cons_append, List.nil_append, List.append_nil, zc_eq, zc_lt, zc_le, zc_ge, zc_gt]
            all_goals exact hQ
      · rw [if_neg bad_z] at hQ
        have w0_z : w_z = 0 := by omega
        by_cases ce : k' = e_z
        · rw [if_pos ce] at hQ
          have go_z := fin_z w_z 1 (by omega) hQ
          rw [w0_z] at go_z
          simp (disch := omega) only [B_28_110, w0_z, B_28_133, ce, not_true_eq_false, inI, inL, isT, kInt, kByt, true_and, and_true, an_t, im_t, im_f, or_true, true_or, true_imp_iff, false_imp_iff, not_true_eq_false, not_false_eq_true, gK_uI, gK_uL, gK_uR, gK_uCI, gK_uCL, gN_uI, gN_uL, gN_uR, gN_uCI, gN_uCL, gR_uI, gR_uL, gR_uCI, gR_uCL, gI_uL, gI_uR, gI_uCL, gL_uI, gL_uR, gL_uCI, gz_uI, gz_uL, gz_uR, gz_uCI, gz_uCL, gs_uI, gs_uL, gs_uR, gs_uCI, gs_uCL, rI_at, rL_at, rR_at, rI_ne, rL_ne, rR_ne, rI_nk, rL_nk, rR_nk, rI_eq, rL_eq, rR_eq, Option.toList_some, Option.toList_none, List.cons_append, List.nil_append, List.append_nil, zc_eq, zc_lt, zc_le, zc_ge, zc_gt]
          rw [ce] at go_z
          all_goals exact go_z
        · rw [if_neg ce] at hQ
          have go_z := fin_z w_z D_z (by omega) hQ
          rw [w0_z] at go_z
          simp (disch := omega) only [B_28_110, w0_z, B_28_133, ce, not_false_eq_true, B_28_143, h1, dn, inI, inL, isT, kInt, kByt, true_and, and_true, an_t, im_t, im_f, or_true, true_or, true_imp_iff, false_imp_iff, not_true_eq_false, not_false_eq_true, gK_uI, gK_uL, gK_uR, gK_uCI, gK_uCL, gN_uI, gN_uL, gN_uR, gN_uCI, gN_uCL, gR_uI, gR_uL, gR_uCI, gR_uCL, gI_uL, gI_uR, gI_uCL, gL_uI, gL_uR, gL_uCI, gz_uI, gz_uL, gz_uR, gz_uCI, gz_uCL, gs_uI, gs_uL, gs_uR, gs_uCI, gs_uCL, rI_at, rL_at, rR_at, rI_ne, rL_ne, rR_ne, rI_nk, rL_nk, rR_nk, rI_eq, rL_eq, rR_eq, Option.toList_some, Option.toList_none, List.cons_append, List.nil_append, List.append_nil, zc_eq, zc_lt, zc_le, zc_ge, zc_gt]
          all_goals exact go_z
    by_cases c1_z : n_z ≤ 1
    · have go_z := mid_z 0 (Or.inl ⟨rfl, fun q_z => by omega⟩)
      simp (disch := omega) only [B_28_85, B_28_109, inI, inL, isT, kInt, kByt, true_and, and_true, an_t, im_t, im_f, or_true, true_or, true_imp_iff, false_imp_iff, not_true_eq_false, not_false_eq_true, gK_uI, gK_uL, gK_uR, gK_uCI, gK_uCL, gN_uI, gN_uL, gN_uR, gN_uCI, gN_uCL, gR_uI, gR_uL, gR_uCI, gR_uCL, gI_uL, gI_uR, gI_uCL, gL_uI, gL_uR, gL_uCI, gz_uI, gz_uL, gz_uR, gz_uCI, gz_uCL, gs_uI, gs_uL, gs_uR, gs_uCI, gs_uCL, rI_at, rL_at, rR_at, rI_ne, rL_ne, rR_ne, rI_nk, rL_nk, rR_nk, rI_eq, rL_eq, rR_eq, Option.toList_some, Option.toList_none, List.cons_append, List.nil_append, List.append_nil, zc_eq, zc_lt, zc_le, zc_ge, zc_gt]
      all_goals exact go_z
    · by_cases c2_z : sf0_z = 48
      · have go_z := mid_z 1 (Or.inr ⟨rfl, by omega, c2_z⟩)
        simp (disch := omega) only [B_28_85, efn, h1, sf, B_28_100, c2_z, not_true_eq_false, inI, inL, isT, kInt, kByt, true_and, and_true, an_t, im_t, im_f, or_true, true_or, true_imp_iff, false_imp_iff, not_true_eq_false, not_false_eq_true, gK_uI, gK_uL, gK_uR, gK_uCI, gK_uCL, gN_uI, gN_uL, gN_uR, gN_uCI, gN_uCL, gR_uI, gR_uL, gR_uCI, gR_uCL, gI_uL, gI_uR, gI_uCL, gL_uI, gL_uR, gL_uCI, gz_uI, gz_uL, gz_uR, gz_uCI, gz_uCL, gs_uI, gs_uL, gs_uR, gs_uCI, gs_uCL, rI_at, rL_at, rR_at, rI_ne, rL_ne, rR_ne, rI_nk, rL_nk, rR_nk, rI_eq, rL_eq, rR_eq, Option.toList_some, Option.toList_none, List.cons_append, List.nil_append, List.append_nil, zc_eq, zc_lt, zc_le, zc_ge, zc_gt]
        all_goals exact go_z
      · have go_z := mid_z 0 (Or.inl ⟨rfl, fun q_z => c2_z q_z.2⟩)
        simp (disch := omega) only [B_28_85, efn, h1, sf, B_28_100, c2_z, not_false_eq_true, B_28_109, inI, inL, isT, kInt, kByt, true_and, and_true, an_t, im_t, im_f, or_true, true_or, true_imp_iff, false_imp_iff, not_true_eq_false, not_false_eq_true, gK_uI, gK_uL, gK_uR, gK_uCI, gK_uCL, gN_uI, gN_uL, gN_uR, gN_uCI, gN_uCL, gR_uI, gR_uL, gR_uCI, gR_uCL, gI_uL, gI_uR, gI_uCL, gL_uI, gL_uR, gL_uCI, gz_uI, gz_uL, gz_uR, gz_uCI, gz_uCL, gs_uI, gs_uL, gs_uR, gs_uCI, gs_uCL, rI_at, rL_at, rR_at, rI_ne, rL_ne, rR_ne, rI_nk, rL_nk, rR_nk, rI_eq, rL_eq, rR_eq, Option.toList_some, Option.toList_none, List.cons_append, List.nil_append, List.append_nil, zc_eq, zc_lt, zc_le, zc_ge, zc_gt]
        all_goals exact go_z
  by_cases c_z : sg t L x_z = 45
  · have go_z := tail_z 1 (Or.inr ⟨rfl, c_z⟩)
    rw [show nuF t L x_z = x_z + 1 from if_pos c_z] at go_z
    rw [c_z] at sx
    simp (disch := omega) only [E_Rd_readNumber, B_28_0, h1, sx, B_28_5, not_true_eq_false, B_28_15, B_28_27, inI, inL, isT, kInt, kByt, true_and, and_true, an_t, im_t, im_f, or_true, true_or, true_imp_iff, false_imp_iff, not_true_eq_false, not_false_eq_true, gK_uI, gK_uL, gK_uR, gK_uCI, gK_uCL, gN_uI, gN_uL, gN_uR, gN_uCI, gN_uCL, gR_uI, gR_uL, gR_uCI, gR_uCL, gI_uL, gI_uR, gI_uCL, gL_uI, gL_uR, gL_uCI, gz_uI, gz_uL, gz_uR, gz_uCI, gz_uCL, gs_uI, gs_uL, gs_uR, gs_uCI, gs_uCL, rI_at, rL_at, rR_at, rI_ne, rL_ne, rR_ne, rI_nk, rL_nk, rR_nk, rI_eq, rL_eq, rR_eq, Option.toList_some, Option.toList_none, List.cons_append, List.nil_append, List.append_nil, zc_eq, zc_lt, zc_le, zc_ge, zc_gt]
    all_goals exact go_z
  · have go_z := tail_z 0 (Or.inl ⟨rfl, c_z⟩)
    rw [show nuF t L x_z = x_z from if_neg c_z] at go_z
    generalize sg t L x_z = w_z at *
    simp (disch := omega) only [E_Rd_readNumber, B_28_0, h1, sx, B_28_5, c_z, not_false_eq_true, B_28_14, B_28_15, B_28_26, B_28_27, inI, inL, isT, kInt, kByt, true_and, and_true, an_t, im_t, im_f, or_true, true_or, true_imp_iff, false_imp_iff, not_true_eq_false, not_false_eq_true, gK_uI, gK_uL, gK_uR, gK_uCI, gK_uCL, gN_uI, gN_uL, gN_uR, gN_uCI, gN_uCL, gR_uI, gR_uL, gR_uCI, gR_uCL, gI_uL, gI_uR, gI_uCL, gL_uI, gL_uR, gL_uCI, gz_uI, gz_uL, gz_uR, gz_uCI, gz_uCL, gs_uI, gs_uL, gs_uR, gs_uCI, gs_uCL, rI_at, rL_at, rR_at, rI_ne, rL_ne, rR_ne, rI_nk, rL_nk, rR_nk, rI_eq, rL_eq, rR_eq, Option.toList_some, Option.toList_none, List.cons_append, List.nil_append, List.append_nil, zc_eq, zc_lt, zc_le, zc_ge, zc_gt]
    all_goals exact go_z
end ED
