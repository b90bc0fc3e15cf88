/-! THE PURE PART, part 17: cells are counted, both sides. Own work. -/
theorem alI_bit (f_z : Nat → Int) : ∀ d_z k_z : Nat, alI f_z k_z d_z = 0 ∨ alI f_z k_z d_z = 1
  | 0, _ => Or.inr rfl
  | d_z + 1, k_z => by
    unfold alI
    split
    · exact Or.inl rfl
    · exact alI_bit f_z d_z (k_z + 1)
theorem cvI_bit (M : Mem) (c : Nat) (i_z x_z y_z : Int) : cvI M c i_z x_z y_z = 0 ∨ cvI M c i_z x_z y_z = 1 := by
  unfold cvI
  split
  · exact Or.inl rfl
  · exact alI_bit _ _ _
theorem zB_bit (P_z : Prop) [Decidable P_z] : zB P_z = 0 ∨ zB P_z = 1 := by
  unfold zB
  split
  · exact Or.inr rfl
  · exact Or.inl rfl
/-- a cell has a color; an item covers it; an item shows there -/
def fCol (M : Mem) (c : Nat) (k_z : Int) (x_z y_z : Nat) : Int := zB (colI M c (latC M c (gI M (c + 3) 8) x_z y_z) = k_z)
def fCov (M : Mem) (c : Nat) (i_z : Int) (x_z y_z : Nat) : Int := cvI M c i_z x_z y_z
def fChg (M : Mem) (c : Nat) (i_z : Int) (x_z y_z : Nat) : Int := zB (latC M c (gI M (c + 3) 8) x_z y_z = i_z ∧ colI M c (latC M c i_z x_z y_z) ≠ colI M c i_z)
section DH
variable {G : Env0} {Q : Option AV → Mem → Prop} {M T : Mem} {c m s : Nat} {W H : Nat}
theorem X_cntCol {k_z : Int} (sh_z : ShMa M c) (rs : RsR M T c m) (sS : ShSa M s) (hw : gI M s 4 = (W : Int)) (hh : gI M s 5 = (H : Int)) (hW : W ≤ 24) (hH : H ≤ 24) (hQ : Q (some (a_i (gsm (fCol M c k_z) W (W * H)))) M) : Call G J_It_countCells [a_r (c + 3), a_i k_z, a_r s] M Q := by
  have sI : ShIt M (c + 3) (c + 4) := sh_z.2.2.1
  have n0_z := rs.2.1.2.1
  have key_z := grid_C (f_z := fCol M c k_z) (fun x_z y_z => zB_bit _) hW hH (s5 := fun n_z y_z => ∀ u5 : AV, At G 152 5 [a_r (c + 3), a_i k_z, a_r s, a_i n_z, a_i (y_z : Int), u5] [] M Q) (s17 := fun n_z y_z x_z => At G 152 17 [a_r (c + 3), a_i k_z, a_r s, a_i n_z, a_i (y_z : Int), a_i (x_z : Int)] [] M Q) (Fin_z := fun n_z => Q (some (a_i n_z)) M)
    (fun n_z y_z hy st_z u5 => by
      simp (disch := omega) only [B_152_5, sS.u, hh, inI, inL, isT, kInt, kByt, true_and, and_true, an_t, im_t, im_f, or_true, true_or, true_imp_iff, false_imp_iff, not_true_eq_false, not_false_eq_true, gK_uI, gK_uL, gK_uR, gK_uCI, gK_uCL, gN_uI, gN_uL, gN_uR, gN_uCI, gN_uCL, gR_uI, gR_uL, gR_uCI, gR_uCL, gI_uL, gI_uR, gI_uCL, gL_uI, gL_uR, gL_uCI, gz_uI, gz_uL, gz_uR, gz_uCI, gz_uCL, gs_uI, gs_uL, gs_uR, gs_uCI, gs_uCL, rI_at, rL_at, rR_at, rI_ne, rL_ne, rR_ne, rI_nk, rL_nk, rR_nk, rI_eq, rL_eq, rR_eq, Option.toList_some, Option.toList_none, List.cons_append, List.nil_append, List.append_nil, zc_eq, zc_lt, zc_le, zc_ge, zc_gt]
      all_goals exact st_z)
    (fun n_z fin_z u5 => by
      simp (disch := omega) only [B_152_5, sS.u, hh, B_152_61, inI, inL, isT, kInt, kByt, true_and, and_true, an_t, im_t, im_f, or_true, true_or, true_imp_iff, false_imp_iff, not_true_eq_false, not_false_eq_true, gK_uI, gK_uL, gK_uR, gK_uCI, gK_uCL, gN_uI, gN_uL, gN_uR, gN_uCI, gN_uCL, gR_uI, gR_uL, gR_uCI, gR_uCL, gI_uL, gI_uR, gI_uCL, gL_uI, gL_uR, gL_uCI, gz_uI, gz_uL, gz_uR, gz_uCI, gz_uCL, gs_uI, gs_uL, gs_uR, gs_uCI, gs_uCL, rI_at, rL_at, rR_at, rI_ne, rL_ne, rR_ne, rI_nk, rL_nk, rR_nk, rI_eq, rL_eq, rR_eq, Option.toList_some, Option.toList_none, List.cons_append, List.nil_append, List.append_nil, zc_eq, zc_lt, zc_le, zc_ge, zc_gt]
      all_goals exact fin_z)
    (fun n_z y_z x_z g0 g1 hy hx st_z => by
      rw [show ((x_z + 1 : Nat) : Int) = (x_z : Int) + 1 from by omega] at st_z
      rw [B_152_17]
      refine ⟨sS.u.1, fun w_z => absurd w_z (by omega), fun _ => ⟨sI.u.1, sI.u.1, ?_⟩⟩
      refine X_latC (T := T) (m := m) sh_z rs n0_z (Int.le_refl _) (by omega) (by omega) (by omega) (by omega) ?_
      have lb := latC_bd M c (n_z := gI M (c + 3) 8) x_z y_z n0_z
      unfold fCol at st_z
      generalize latC M c (gI M (c + 3) 8) (x_z : Int) (y_z : Int) = v_z at *
      have cl_z := fun qq => X_colC (G := G) (Q := qq) (v_z := v_z) sh_z rs lb.2
      generalize colI M c v_z = w_z at *
      by_cases cw_z : w_z = k_z
      · rw [zB_t cw_z] at st_z
        simp (disch := omega) only [B_152_39, sI.u, cl_z, B_152_42, cw_z, not_true_eq_false, B_152_49, inI, inL, isT, kInt, kByt, true_and, and_true, an_t, im_t, im_f, or_true, true_or, true_imp_iff, false_imp_iff, not_true_eq_false, not_false_eq_true, gK_uI, gK_uL, gK_uR, gK_uCI, gK_uCL, gN_uI, gN_uL, gN_uR, gN_uCI, gN_uCL, gR_uI, gR_uL, gR_uCI, gR_uCL, gI_uL, gI_uR, gI_uCL, gL_uI, gL_uR, gL_uCI, gz_uI, gz_uL, gz_uR, gz_uCI, gz_uCL, gs_uI, gs_uL, gs_uR, gs_uCI, gs_uCL, rI_at, rL_at, rR_at, rI_ne, rL_ne, rR_ne, rI_nk, rL_nk, rR_nk, rI_eq, rL_eq, rR_eq, Option.toList_some, Option.toList_none, List.cons_append, List.nil_append, List.append_nil, zc_eq, zc_lt, zc_le, zc_ge, zc_gt]
        all_goals exact st_z
      · rw [zB_f cw_z, Int.add_zero] at st_z
        simp (disch := omega) only [B_152_39, sI.u, cl_z, B_152_42, cw_z, not_false_eq_true, B_152_49, inI, inL, isT, kInt, kByt, true_and, and_true, an_t, im_t, im_f, or_true, true_or, true_imp_iff, false_imp_iff, not_true_eq_false, not_false_eq_true, gK_uI, gK_uL, gK_uR, gK_uCI, gK_uCL, gN_uI, gN_uL, gN_uR, gN_uCI, gN_uCL, gR_uI, gR_uL, gR_uCI, gR_uCL, gI_uL, gI_uR, gI_uCL, gL_uI, gL_uR, gL_uCI, gz_uI, gz_uL, gz_uR, gz_uCI, gz_uCL, gs_uI, gs_uL, gs_uR, gs_uCI, gs_uCL, rI_at, rL_at, rR_at, rI_ne, rL_ne, rR_ne, rI_nk, rL_nk, rR_nk, rI_eq, rL_eq, rR_eq, Option.toList_some, Option.toList_none, List.cons_append, List.nil_append, List.append_nil, zc_eq, zc_lt, zc_le, zc_ge, zc_gt]
        all_goals exact st_z)
    (fun n_z y_z hy st_z => by
      have st2_z := st_z (a_i (W : Int))
      rw [show ((y_z + 1 : Nat) : Int) = (y_z : Int) + 1 from by omega] at st2_z
      simp (disch := omega) only [B_152_17, sS.u, hw, B_152_55, inI, inL, isT, kInt, kByt, true_and, and_true, an_t, im_t, im_f, or_true, true_or, true_imp_iff, false_imp_iff, not_true_eq_false, not_false_eq_true, gK_uI, gK_uL, gK_uR, gK_uCI, gK_uCL, gN_uI, gN_uL, gN_uR, gN_uCI, gN_uCL, gR_uI, gR_uL, gR_uCI, gR_uCL, gI_uL, gI_uR, gI_uCL, gL_uI, gL_uR, gL_uCI, gz_uI, gz_uL, gz_uR, gz_uCI, gz_uCL, gs_uI, gs_uL, gs_uR, gs_uCI, gs_uCL, rI_at, rL_at, rR_at, rI_ne, rL_ne, rR_ne, rI_nk, rL_nk, rR_nk, rI_eq, rL_eq, rR_eq, Option.toList_some, Option.toList_none, List.cons_append, List.nil_append, List.append_nil, zc_eq, zc_lt, zc_le, zc_ge, zc_gt]
      all_goals exact st2_z) hQ
  simp (disch := omega) only [E_It_countCells, B_152_0, inI, inL, isT, kInt, kByt, true_and, and_true, an_t, im_t, im_f, or_true, true_or, true_imp_iff, false_imp_iff, not_true_eq_false, not_false_eq_true, gK_uI, gK_uL, gK_uR, gK_uCI, gK_uCL, gN_uI, gN_uL, gN_uR, gN_uCI, gN_uCL, gR_uI, gR_uL, gR_uCI, gR_uCL, gI_uL, gI_uR, gI_uCL, gL_uI, gL_uR, gL_uCI, gz_uI, gz_uL, gz_uR, gz_uCI, gz_uCL, gs_uI, gs_uL, gs_uR, gs_uCI, gs_uCL, rI_at, rL_at, rR_at, rI_ne, rL_ne, rR_ne, rI_nk, rL_nk, rR_nk, rI_eq, rL_eq, rR_eq, Option.toList_some, Option.toList_none, List.cons_append, List.nil_append, List.append_nil, zc_eq, zc_lt, zc_le, zc_ge, zc_gt]
  all_goals exact key_z a_u
theorem X_cntCov {i_z : Int} (sh_z : ShMa M c) (rs : RsR M T c m) (i0_z : 0 ≤ i_z) (i1_z : i_z < gI M (c + 3) 8) (sS : ShSa M s) (hw : gI M s 4 = (W : Int)) (hh : gI M s 5 = (H : Int)) (hW : W ≤ 24) (hH : H ≤ 24) (hQ : Q (some (a_i (gsm (fCov M c i_z) W (W * H)))) M) : Call G J_It_countCovered [a_r (c + 3), a_i i_z, a_r s] M Q := by
  have sI : ShIt M (c + 3) (c + 4) := sh_z.2.2.1
  have key_z := grid_C (f_z := fCov M c i_z) (fun x_z y_z => cvI_bit _ _ _ _ _) hW hH (s5 := fun n_z y_z => ∀ u5 : AV, At G 159 5 [a_r (c + 3), a_i i_z, a_r s, a_i n_z, a_i (y_z : Int), u5] [] M Q) (s17 := fun n_z y_z x_z => At G 159 17 [a_r (c + 3), a_i i_z, a_r s, a_i n_z, a_i (y_z : Int), a_i (x_z : Int)] [] M Q) (Fin_z := fun n_z => Q (some (a_i n_z)) M)
    (fun n_z y_z hy st_z u5 => by
      simp (disch := omega) only [B_159_5, sS.u, hh, inI, inL, isT, kInt, kByt, true_and, and_true, an_t, im_t, im_f, or_true, true_or, true_imp_iff, false_imp_iff, not_true_eq_false, not_false_eq_true, gK_uI, gK_uL, gK_uR, gK_uCI, gK_uCL, gN_uI, gN_uL, gN_uR, gN_uCI, gN_uCL, gR_uI, gR_uL, gR_uCI, gR_uCL, gI_uL, gI_uR, gI_uCL, gL_uI, gL_uR, gL_uCI, gz_uI, gz_uL, gz_uR, gz_uCI, gz_uCL, gs_uI, gs_uL, gs_uR, gs_uCI, gs_uCL, rI_at, rL_at, rR_at, rI_ne, rL_ne, rR_ne, rI_nk, rL_nk, rR_nk, rI_eq, rL_eq, rR_eq, Option.toList_some, Option.toList_none, List.cons_append, List.nil_append, List.append_nil, zc_eq, zc_lt, zc_le, zc_ge, zc_gt]
      all_goals exact st_z)
    (fun n_z fin_z u5 => by
      simp (disch := omega) only [B_159_5, sS.u, hh, B_159_53, inI, inL, isT, kInt, kByt, true_and, and_true, an_t, im_t, im_f, or_true, true_or, true_imp_iff, false_imp_iff, not_true_eq_false, not_false_eq_true, gK_uI, gK_uL, gK_uR, gK_uCI, gK_uCL, gN_uI, gN_uL, gN_uR, gN_uCI, gN_uCL, gR_uI, gR_uL, gR_uCI, gR_uCL, gI_uL, gI_uR, gI_uCL, gL_uI, gL_uR, gL_uCI, gz_uI, gz_uL, gz_uR, gz_uCI, gz_uCL, gs_uI, gs_uL, gs_uR, gs_uCI, gs_uCL, rI_at, rL_at, rR_at, rI_ne, rL_ne, rR_ne, rI_nk, rL_nk, rR_nk, rI_eq, rL_eq, rR_eq, Option.toList_some, Option.toList_none, List.cons_append, List.nil_append, List.append_nil, zc_eq, zc_lt, zc_le, zc_ge, zc_gt]
      all_goals exact fin_z)
    (fun n_z y_z x_z g0 g1 hy hx st_z => by
      rw [show ((x_z + 1 : Nat) : Int) = (x_z : Int) + 1 from by omega] at st_z
      rw [B_159_17]
      refine ⟨sS.u.1, fun w_z => absurd w_z (by omega), fun _ => ⟨sI.u.1, ?_⟩⟩
      refine X_itCov (T := T) (m := m) sh_z rs i0_z i1_z (by omega) (by omega) (by omega) (by omega) ?_
      have bt_z := cvI_bit M c i_z x_z y_z
      unfold fCov at st_z
      generalize cvI M c i_z (x_z : Int) (y_z : Int) = v_z at *
      by_cases cv : v_z = 0
      · rw [cv, Int.add_zero] at st_z
        simp (disch := omega) only [B_159_35, cv, B_159_41, inI, inL, isT, kInt, kByt, true_and, and_true, an_t, im_t, im_f, or_true, true_or, true_imp_iff, false_imp_iff, not_true_eq_false, not_false_eq_true, gK_uI, gK_uL, gK_uR, gK_uCI, gK_uCL, gN_uI, gN_uL, gN_uR, gN_uCI, gN_uCL, gR_uI, gR_uL, gR_uCI, gR_uCL, gI_uL, gI_uR, gI_uCL, gL_uI, gL_uR, gL_uCI, gz_uI, gz_uL, gz_uR, gz_uCI, gz_uCL, gs_uI, gs_uL, gs_uR, gs_uCI, gs_uCL, rI_at, rL_at, rR_at, rI_ne, rL_ne, rR_ne, rI_nk, rL_nk, rR_nk, rI_eq, rL_eq, rR_eq, Option.toList_some, Option.toList_none, List.cons_append, List.nil_append, List.append_nil, zc_eq, zc_lt, zc_le, zc_ge, zc_gt]
        all_goals exact st_z
      · rw [show v_z = 1 from by omega] at st_z
        simp (disch := omega) only [B_159_35, cv, B_159_41, inI, inL, isT, kInt, kByt, true_and, and_true, an_t, im_t, im_f, or_true, true_or, true_imp_iff, false_imp_iff, not_true_eq_false, not_false_eq_true, gK_uI, gK_uL, gK_uR, gK_uCI, gK_uCL, gN_uI, gN_uL, gN_uR, gN_uCI, gN_uCL, gR_uI, gR_uL, gR_uCI, gR_uCL, gI_uL, gI_uR, gI_uCL, gL_uI, gL_uR, gL_uCI, gz_uI, gz_uL, gz_uR, gz_uCI, gz_uCL, gs_uI, gs_uL, gs_uR, gs_uCI, gs_uCL, rI_at, rL_at, rR_at, rI_ne, rL_ne, rR_ne, rI_nk, rL_nk, rR_nk, rI_eq, rL_eq, rR_eq, Option.toList_some, Option.toList_none, List.cons_append, List.nil_append, List.append_nil, zc_eq, zc_lt, zc_le, zc_ge, zc_gt]
        all_goals exact st_z)
    (fun n_z y_z hy st_z => by
      have st2_z := st_z (a_i (W : Int))
      rw [show ((y_z + 1 : Nat) : Int) = (y_z : Int) + 1 from by omega] at st2_z
      simp (disch := omega) only [B_159_17, sS.u, hw, B_159_47, inI, inL, isT, kInt, kByt, true_and, and_true, an_t, im_t, im_f, or_true, true_or, true_imp_iff, false_imp_iff, not_true_eq_false, not_false_eq_true, gK_uI, gK_uL, gK_uR, gK_uCI, gK_uCL, gN_uI, gN_uL, gN_uR, gN_uCI, gN_uCL, gR_uI, gR_uL, gR_uCI, gR_uCL, gI_uL, gI_uR, gI_uCL, gL_uI, gL_uR, gL_uCI, gz_uI, gz_uL, gz_uR, gz_uCI, gz_uCL, gs_uI, gs_uL, gs_uR, gs_uCI, gs_uCL, rI_at, rL_at, rR_at, rI_ne, rL_ne, rR_ne, rI_nk, rL_nk, rR_nk, rI_eq, rL_eq, rR_eq, Option.toList_some, Option.toList_none, List.cons_append, List.nil_append, List.append_nil, zc_eq, zc_lt, zc_le, zc_ge, zc_gt]
      all_goals exact st2_z) hQ
  simp (disch := omega) only [E_It_countCovered, B_159_0, inI, inL, isT, kInt, kByt, true_and, and_true, an_t, im_t, im_f, or_true, true_or, true_imp_iff, false_imp_iff, not_true_eq_false, not_false_eq_true, gK_uI, gK_uL, gK_uR, gK_uCI, gK_uCL, gN_uI, gN_uL, gN_uR, gN_uCI, gN_uCL, gR_uI, gR_uL, gR_uCI, gR_uCL, gI_uL, gI_uR, gI_uCL, gL_uI, gL_uR, gL_uCI, gz_uI, gz_uL, gz_uR, gz_uCI, gz_uCL, gs_uI, gs_uL, gs_uR, gs_uCI, gs_uCL, rI_at, rL_at, rR_at, rI_ne, rL_ne, rR_ne, rI_nk, rL_nk, rR_nk, rI_eq, rL_eq, rR_eq, Option.toList_some, Option.toList_none, List.cons_append, List.nil_append, List.append_nil, zc_eq, zc_lt, zc_le, zc_ge, zc_gt]
  all_goals exact key_z a_u
theorem X_cntChg {i_z : Int} (sh_z : ShMa M c) (rs : RsR M T c m) (i0_z : 0 ≤ i_z) (i1_z : i_z < gI M (c + 3) 8) (sS : ShSa M s) (hw : gI M s 4 = (W : Int)) (hh : gI M s 5 = (H : Int)) (hW : W ≤ 24) (hH : H ≤ 24) (hQ : Q (some (a_i (gsm (fChg M c i_z) W (W * H)))) M) : Call G J_It_countChanged [a_r (c + 3), a_i i_z, a_r s] M Q := by
  have sI : ShIt M (c + 3) (c + 4) := sh_z.2.2.1
  have n0_z := rs.2.1.2.1
  have key_z := grid_C (f_z := fChg M c i_z) (fun x_z y_z => zB_bit _) hW hH (s5 := fun n_z y_z => ∀ u5 u6 : AV, At G 160 5 [a_r (c + 3), a_i i_z, a_r s, a_i n_z, a_i (y_z : Int), u5, u6] [] M Q) (s17 := fun n_z y_z x_z => ∀ u6 : AV, At G 160 17 [a_r (c + 3), a_i i_z, a_r s, a_i n_z, a_i (y_z : Int), a_i (x_z : Int), u6] [] M Q) (Fin_z := fun n_z => Q (some (a_i n_z)) M)
    (fun n_z y_z hy st_z u5 u6 => by
      have st2_z := st_z u6
      simp (disch := omega) only [B_160_5, sS.u, hh, inI, inL, isT, kInt, kByt, true_and, and_true, an_t, im_t, im_f, or_true, true_or, true_imp_iff, false_imp_iff, not_true_eq_false, not_false_eq_true, gK_uI, gK_uL, gK_uR, gK_uCI, gK_uCL, gN_uI, gN_uL, gN_uR, gN_uCI, gN_uCL, gR_uI, gR_uL, gR_uCI, gR_uCL, gI_uL, gI_uR, gI_uCL, gL_uI, gL_uR, gL_uCI, gz_uI, gz_uL, gz_uR, gz_uCI, gz_uCL, gs_uI, gs_uL, gs_uR, gs_uCI, gs_uCL, rI_at, rL_at, rR_at, rI_ne, rL_ne, rR_ne, rI_nk, rL_nk, rR_nk, rI_eq, rL_eq, rR_eq, Option.toList_some, Option.toList_none, List.cons_append, List.nil_append, List.append_nil, zc_eq, zc_lt, zc_le, zc_ge, zc_gt]
      all_goals exact st2_z)
    (fun n_z fin_z u5 u6 => by
      simp (disch := omega) only [B_160_5, sS.u, hh, B_160_90, inI, inL, isT, kInt, kByt, true_and, and_true, an_t, im_t, im_f, or_true, true_or, true_imp_iff, false_imp_iff, not_true_eq_false, not_false_eq_true, gK_uI, gK_uL, gK_uR, gK_uCI, gK_uCL, gN_uI, gN_uL, gN_uR, gN_uCI, gN_uCL, gR_uI, gR_uL, gR_uCI, gR_uCL, gI_uL, gI_uR, gI_uCL, gL_uI, gL_uR, gL_uCI, gz_uI, gz_uL, gz_uR, gz_uCI, gz_uCL, gs_uI, gs_uL, gs_uR, gs_uCI, gs_uCL, rI_at, rL_at, rR_at, rI_ne, rL_ne, rR_ne, rI_nk, rL_nk, rR_nk, rI_eq, rL_eq, rR_eq, Option.toList_some, Option.toList_none, List.cons_append, List.nil_append, List.append_nil, zc_eq, zc_lt, zc_le, zc_ge, zc_gt]
      all_goals exact fin_z)
    (fun n_z y_z x_z g0 g1 hy hx st_z u6 => by
      rw [show ((x_z + 1 : Nat) : Int) = (x_z : Int) + 1 from by omega] at st_z
      rw [B_160_17]
      refine ⟨sS.u.1, fun w_z => absurd w_z (by omega), fun _ => ⟨sI.u.1, sI.u.1, ?_⟩⟩
      refine X_latC (T := T) (m := m) sh_z rs n0_z (Int.le_refl _) (by omega) (by omega) (by omega) (by omega) ?_
      unfold fChg at st_z
      generalize latC M c (gI M (c + 3) 8) (x_z : Int) (y_z : Int) = v_z at *
      by_cases cv : v_z = i_z
      · have go_z : Call G J_It_latestAt [a_r (c + 3), a_i (x_z : Int), a_i (y_z : Int), a_i i_z] M (fun r_z M2_z => At G 160 64 [a_r (c + 3), a_i i_z, a_r s, a_i n_z, a_i (y_z : Int), a_i (x_z : Int), a_i 1] (r_z.toList ++ [a_r (c + 3)]) M2_z Q) := by
          refine X_latC (T := T) (m := m) sh_z rs i0_z (by omega) (by omega) (by omega) (by omega) (by omega) ?_
          have lb := latC_bd M c (n_z := i_z) x_z y_z i0_z
          generalize latC M c i_z (x_z : Int) (y_z : Int) = u_z at *
          have c1_z := fun qq => X_colC (G := G) (Q := qq) (v_z := u_z) sh_z rs (by omega)
          have c2_z := fun qq => X_colC (G := G) (Q := qq) (v_z := i_z) sh_z rs i1_z
          generalize colI M c u_z = w1_z at *
          generalize colI M c i_z = w2_z at *
          have st2_z := st_z (a_i 1)
          by_cases cw_z : w1_z = w2_z
          · rw [zB_f (fun q_z => q_z.2 cw_z), Int.add_zero] at st2_z
            simp (disch := omega) only [B_160_64, sI.u, c1_z, B_160_67, c2_z, B_160_72, cw_z, B_160_78, inI, inL, isT, kInt, kByt, true_and, and_true, an_t, im_t, im_f, or_true, true_or, true_imp_iff, false_imp_iff, not_true_eq_false, not_false_eq_true, gK_uI, gK_uL, gK_uR, gK_uCI, gK_uCL, gN_uI, gN_uL, gN_uR, gN_uCI, gN_uCL, gR_uI, gR_uL, gR_uCI, gR_uCL, gI_uL, gI_uR, gI_uCL, gL_uI, gL_uR, gL_uCI, gz_uI, gz_uL, gz_uR, gz_uCI, gz_uCL, gs_uI, gs_uL, gs_uR, gs_uCI, gs_uCL, rI_at, rL_at, rR_at, rI_ne, rL_ne, rR_ne, rI_nk, rL_nk, rR_nk, rI_eq, rL_eq, rR_eq, Option.toList_some, Option.toList_none, List.cons_append, List.nil_append, List.append_nil, zc_eq, zc_lt, zc_le, zc_ge, zc_gt]
            all_goals exact st2_z
          · rw [zB_t ⟨cv, cw_z⟩] at st2_z
            simp (disch := omega) only [B_160_64, sI.u, c1_z, B_160_67, c2_z, B_160_72, cw_z, B_160_78, inI, inL, isT, kInt, kByt, true_and, and_true, an_t, im_t, im_f, or_true, true_or, true_imp_iff, false_imp_iff, not_true_eq_false, not_false_eq_true, gK_uI, gK_uL, gK_uR, gK_uCI, gK_uCL, gN_uI, gN_uL, gN_uR, gN_uCI, gN_uCL, gR_uI, gR_uL, gR_uCI, gR_uCL, gI_uL, gI_uR, gI_uCL, gL_uI, gL_uR, gL_uCI, gz_uI, gz_uL, gz_uR, gz_uCI, gz_uCL, gs_uI, gs_uL, gs_uR, gs_uCI, gs_uCL, rI_at, rL_at, rR_at, rI_ne, rL_ne, rR_ne, rI_nk, rL_nk, rR_nk, rI_eq, rL_eq, rR_eq, Option.toList_some, Option.toList_none, List.cons_append, List.nil_append, List.append_nil, zc_eq, zc_lt, zc_le, zc_ge, zc_gt]
            all_goals exact st2_z
        simp (disch := omega) only [B_160_38, cv, not_true_eq_false, B_160_47, sI.u, inI, inL, isT, kInt, kByt, true_and, and_true, an_t, im_t, im_f, or_true, true_or, true_imp_iff, false_imp_iff, not_true_eq_false, not_false_eq_true, gK_uI, gK_uL, gK_uR, gK_uCI, gK_uCL, gN_uI, gN_uL, gN_uR, gN_uCI, gN_uCL, gR_uI, gR_uL, gR_uCI, gR_uCL, gI_uL, gI_uR, gI_uCL, gL_uI, gL_uR, gL_uCI, gz_uI, gz_uL, gz_uR, gz_uCI, gz_uCL, gs_uI, gs_uL, gs_uR, gs_uCI, gs_uCL, rI_at, rL_at, rR_at, rI_ne, rL_ne, rR_ne, rI_nk, rL_nk, rR_nk, rI_eq, rL_eq, rR_eq, Option.toList_some, Option.toList_none, List.cons_append, List.nil_append, List.append_nil, zc_eq, zc_lt, zc_le, zc_ge, zc_gt]
        all_goals exact go_z
      · have st2_z := st_z (a_i 0)
        rw [zB_f (fun q_z => cv q_z.1), Int.add_zero] at st2_z
        simp (disch := omega) only [B_160_38, cv, not_false_eq_true, B_160_46, B_160_47, B_160_78, inI, inL, isT, kInt, kByt, true_and, and_true, an_t, im_t, im_f, or_true, true_or, true_imp_iff, false_imp_iff, not_true_eq_false, not_false_eq_true, gK_uI, gK_uL, gK_uR, gK_uCI, gK_uCL, gN_uI, gN_uL, gN_uR, gN_uCI, gN_uCL, gR_uI, gR_uL, gR_uCI, gR_uCL, gI_uL, gI_uR, gI_uCL, gL_uI, gL_uR, gL_uCI, gz_uI, gz_uL, gz_uR, gz_uCI, gz_uCL, gs_uI, gs_uL, gs_uR, gs_uCI, gs_uCL, rI_at, rL_at, rR_at, rI_ne, rL_ne, rR_ne, rI_nk, rL_nk, rR_nk, rI_eq, rL_eq, rR_eq, Option.toList_some, Option.toList_none, List.cons_append, List.nil_append, List.append_nil, zc_eq, zc_lt, zc_le, zc_ge, zc_gt]
        all_goals exact st2_z)
    (fun n_z y_z hy st_z u6 => by
      have st2_z := st_z (a_i (W : Int)) u6
      rw [show ((y_z + 1 : Nat) : Int) = (y_z : Int) + 1 from by omega] at st2_z
      simp (disch := omega) only [B_160_17, sS.u, hw, B_160_84, inI, inL, isT, kInt, kByt, true_and, and_true, an_t, im_t, im_f, or_true, true_or, true_imp_iff, false_imp_iff, not_true_eq_false, not_false_eq_true, gK_uI, gK_uL, gK_uR, gK_uCI, gK_uCL, gN_uI, gN_uL, gN_uR, gN_uCI, gN_uCL, gR_uI, gR_uL, gR_uCI, gR_uCL, gI_uL, gI_uR, gI_uCL, gL_uI, gL_uR, gL_uCI, gz_uI, gz_uL, gz_uR, gz_uCI, gz_uCL, gs_uI, gs_uL, gs_uR, gs_uCI, gs_uCL, rI_at, rL_at, rR_at, rI_ne, rL_ne, rR_ne, rI_nk, rL_nk, rR_nk, rI_eq, rL_eq, rR_eq, Option.toList_some, Option.toList_none, List.cons_append, List.nil_append, List.append_nil, zc_eq, zc_lt, zc_le, zc_ge, zc_gt]
      all_goals exact st2_z) hQ
  simp (disch := omega) only [E_It_countChanged, B_160_0, inI, inL, isT, kInt, kByt, true_and, and_true, an_t, im_t, im_f, or_true, true_or, true_imp_iff, false_imp_iff, not_true_eq_false, not_false_eq_true, gK_uI, gK_uL, gK_uR, gK_uCI, gK_uCL, gN_uI, gN_uL, gN_uR, gN_uCI, gN_uCL, gR_uI, gR_uL, gR_uCI, gR_uCL, gI_uL, gI_uR, gI_uCL, gL_uI, gL_uR, gL_uCI, gz_uI, gz_uL, gz_uR, gz_uCI, gz_uCL, gs_uI, gs_uL, gs_uR, gs_uCI, gs_uCL, rI_at, rL_at, rR_at, rI_ne, rL_ne, rR_ne, rI_nk, rL_nk, rR_nk, rI_eq, rL_eq, rR_eq, Option.toList_some, Option.toList_none, List.cons_append, List.nil_append, List.append_nil, zc_eq, zc_lt, zc_le, zc_ge, zc_gt]
  all_goals exact key_z a_u a_u
/-- the model's loops -/
theorem X_mCol {k_z : Int} (sm_z : ShM T m) (rs : RsR M T c m) (hw : gI T (m + 1) 1213 = (W : Int)) (hh : gI T (m + 1) 1214 = (H : Int)) (hW : W ≤ 24) (hH : H ≤ 24) (hQ : Q (some (a_i (gsm (fCol M c k_z) W (W * H)))) T) : At G 251 27 [a_r m, a_i k_z, a_i 0, a_i 0] [] T Q := by
  have n0_z := rs.2.1.2.1
  have n35 := rs.2.1.1
  have big : W * H ≤ 24 * 24 := Nat.mul_le_mul hW hH
  have hN_z : (W : Int) * (H : Int) = ((W * H : Nat) : Int) := rfl
  generalize hWH : W * H = N_z at *
  have hQ2 : (fun n_z => Q (some (a_i n_z)) T) (gsm (fCol M c k_z) W (W * H)) := by rw [hWH]; exact hQ
  exact grid_M (f_z := fCol M c k_z) (fun x_z y_z => zB_bit _) hW hH (s_z := fun n_z j_z => At G 251 27 [a_r m, a_i k_z, a_i n_z, a_i (j_z : Int)] [] T Q) (Fin_z := fun n_z => Q (some (a_i n_z)) T)
    (fun n_z j_z g0 g1 hj hx hy st_z => by
      rw [hWH] at hj
      have t1_z := tmd j_z W
      have t2_z := tdd j_z W
      rw [show ((j_z + 1 : Nat) : Int) = (j_z : Int) + 1 from by omega] at st_z
      generalize j_z % W = x_z at *
      generalize j_z / W = y_z at *
      have go_z : Call G J_M_latest [a_r m, a_i (gI M (c + 3) 8), a_i (x_z : Int), a_i (y_z : Int)] T (fun r_z M2_z => At G 251 78 [a_r m, a_i k_z, a_i n_z, a_i (j_z : Int)] (r_z.toList ++ [a_r m, a_i n_z]) M2_z Q) := by
        refine X_latM (M := M) (c := c) sm_z rs n0_z (Int.le_refl _) (by omega) (by omega) (by omega) (by omega) ?_
        have lb := latC_bd M c (n_z := gI M (c + 3) 8) x_z y_z n0_z
        unfold fCol at st_z
        generalize latC M c (gI M (c + 3) 8) (x_z : Int) (y_z : Int) = v_z at *
        have cm := fun qq => X_colM (G := G) (Q := qq) (v_z := v_z) (w_z := if v_z < 0 then -10000009 else v_z) sm_z rs lb.2 (by split <;> omega)
        generalize (if v_z < 0 then -10000009 else v_z) = v2 at *
        generalize colI M c v_z = w_z at *
        by_cases cw_z : w_z = k_z
        · rw [zB_t cw_z] at st_z
          simp (disch := omega) only [B_251_78, sm_z.u, cm, B_251_81, cw_z, not_true_eq_false, B_251_90, inI, inL, isT, kInt, kByt, true_and, and_true, an_t, im_t, im_f, or_true, true_or, true_imp_iff, false_imp_iff, not_true_eq_false, not_false_eq_true, gK_uI, gK_uL, gK_uR, gK_uCI, gK_uCL, gN_uI, gN_uL, gN_uR, gN_uCI, gN_uCL, gR_uI, gR_uL, gR_uCI, gR_uCL, gI_uL, gI_uR, gI_uCL, gL_uI, gL_uR, gL_uCI, gz_uI, gz_uL, gz_uR, gz_uCI, gz_uCL, gs_uI, gs_uL, gs_uR, gs_uCI, gs_uCL, rI_at, rL_at, rR_at, rI_ne, rL_ne, rR_ne, rI_nk, rL_nk, rR_nk, rI_eq, rL_eq, rR_eq, Option.toList_some, Option.toList_none, List.cons_append, List.nil_append, List.append_nil, zc_eq, zc_lt, zc_le, zc_ge, zc_gt]
          all_goals exact st_z
        · rw [zB_f cw_z] at st_z
          simp (disch := omega) only [B_251_78, sm_z.u, cm, B_251_81, cw_z, not_false_eq_true, B_251_89, B_251_90, inI, inL, isT, kInt, kByt, true_and, and_true, an_t, im_t, im_f, or_true, true_or, true_imp_iff, false_imp_iff, not_true_eq_false, not_false_eq_true, gK_uI, gK_uL, gK_uR, gK_uCI, gK_uCL, gN_uI, gN_uL, gN_uR, gN_uCI, gN_uCL, gR_uI, gR_uL, gR_uCI, gR_uCL, gI_uL, gI_uR, gI_uCL, gL_uI, gL_uR, gL_uCI, gz_uI, gz_uL, gz_uR, gz_uCI, gz_uCL, gs_uI, gs_uL, gs_uR, gs_uCI, gs_uCL, rI_at, rL_at, rR_at, rI_ne, rL_ne, rR_ne, rI_nk, rL_nk, rR_nk, rI_eq, rL_eq, rR_eq, Option.toList_some, Option.toList_none, List.cons_append, List.nil_append, List.append_nil, zc_eq, zc_lt, zc_le, zc_ge, zc_gt]
          all_goals exact st_z
      rw [n35] at go_z
      simp (disch := omega) only [B_251_27, sm_z.u, hw, hh, hN_z, t1_z, t2_z, inI, inL, isT, kInt, kByt, true_and, and_true, an_t, im_t, im_f, or_true, true_or, true_imp_iff, false_imp_iff, not_true_eq_false, not_false_eq_true, gK_uI, gK_uL, gK_uR, gK_uCI, gK_uCL, gN_uI, gN_uL, gN_uR, gN_uCI, gN_uCL, gR_uI, gR_uL, gR_uCI, gR_uCL, gI_uL, gI_uR, gI_uCL, gL_uI, gL_uR, gL_uCI, gz_uI, gz_uL, gz_uR, gz_uCI, gz_uCL, gs_uI, gs_uL, gs_uR, gs_uCI, gs_uCL, rI_at, rL_at, rR_at, rI_ne, rL_ne, rR_ne, rI_nk, rL_nk, rR_nk, rI_eq, rL_eq, rR_eq, Option.toList_some, Option.toList_none, List.cons_append, List.nil_append, List.append_nil, zc_eq, zc_lt, zc_le, zc_ge, zc_gt]
      all_goals exact go_z)
    (fun n_z fin_z => by
      rw [hWH]
      simp (disch := omega) only [B_251_27, sm_z.u, hw, hh, hN_z, B_251_98, inI, inL, isT, kInt, kByt, true_and, and_true, an_t, im_t, im_f, or_true, true_or, true_imp_iff, false_imp_iff, not_true_eq_false, not_false_eq_true, gK_uI, gK_uL, gK_uR, gK_uCI, gK_uCL, gN_uI, gN_uL, gN_uR, gN_uCI, gN_uCL, gR_uI, gR_uL, gR_uCI, gR_uCL, gI_uL, gI_uR, gI_uCL, gL_uI, gL_uR, gL_uCI, gz_uI, gz_uL, gz_uR, gz_uCI, gz_uCL, gs_uI, gs_uL, gs_uR, gs_uCI, gs_uCL, rI_at, rL_at, rR_at, rI_ne, rL_ne, rR_ne, rI_nk, rL_nk, rR_nk, rI_eq, rL_eq, rR_eq, Option.toList_some, Option.toList_none, List.cons_append, List.nil_append, List.append_nil, zc_eq, zc_lt, zc_le, zc_ge, zc_gt]
      all_goals exact fin_z) hQ2
theorem X_mCovd {i_z : Int} (sm_z : ShM T m) (rs : RsR M T c m) (i0_z : 0 ≤ i_z) (i1_z : i_z < gI M (c + 3) 8) (hw : gI T (m + 1) 1213 = (W : Int)) (hh : gI T (m + 1) 1214 = (H : Int)) (hW : W ≤ 24) (hH : H ≤ 24) (hQ : Q (some (a_i (gsm (fCov M c i_z) W (W * H)))) T) : Call G J_M_coveredBy [a_r m, a_i i_z] T Q := by
  have big : W * H ≤ 24 * 24 := Nat.mul_le_mul hW hH
  have hN_z : (W : Int) * (H : Int) = ((W * H : Nat) : Int) := rfl
  generalize hWH : W * H = N_z at *
  have hQ2 : (fun n_z => Q (some (a_i n_z)) T) (gsm (fCov M c i_z) W (W * H)) := by rw [hWH]; exact hQ
  have key_z := grid_M (f_z := fCov M c i_z) (fun x_z y_z => cvI_bit _ _ _ _ _) hW hH (s_z := fun n_z j_z => At G 255 4 [a_r m, a_i i_z, a_i n_z, a_i (j_z : Int)] [] T Q) (Fin_z := fun n_z => Q (some (a_i n_z)) T)
    (fun n_z j_z g0 g1 hj hx hy st_z => by
      rw [hWH] at hj
      have t1_z := tmd j_z W
      have t2_z := tdd j_z W
      rw [show ((j_z + 1 : Nat) : Int) = (j_z : Int) + 1 from by omega] at st_z
      generalize j_z % W = x_z at *
      generalize j_z / W = y_z at *
      have go_z : Call G J_M_covers [a_r m, a_i i_z, a_i (x_z : Int), a_i (y_z : Int)] T (fun r_z M2_z => At G 255 51 [a_r m, a_i i_z, a_i n_z, a_i (j_z : Int)] (r_z.toList ++ [a_i n_z]) M2_z Q) := by
        refine X_mCov (M := M) (c := c) sm_z rs i0_z i1_z (by omega) (by omega) (by omega) (by omega) ?_
        have bt_z := cvI_bit M c i_z x_z y_z
        unfold fCov at st_z
        generalize cvI M c i_z (x_z : Int) (y_z : Int) = v_z at *
        by_cases cv : v_z = 0
        · rw [cv] at st_z
          simp (disch := omega) only [B_255_51, cv, B_255_58, B_255_59, inI, inL, isT, kInt, kByt, true_and, and_true, an_t, im_t, im_f, or_true, true_or, true_imp_iff, false_imp_iff, not_true_eq_false, not_false_eq_true, gK_uI, gK_uL, gK_uR, gK_uCI, gK_uCL, gN_uI, gN_uL, gN_uR, gN_uCI, gN_uCL, gR_uI, gR_uL, gR_uCI, gR_uCL, gI_uL, gI_uR, gI_uCL, gL_uI, gL_uR, gL_uCI, gz_uI, gz_uL, gz_uR, gz_uCI, gz_uCL, gs_uI, gs_uL, gs_uR, gs_uCI, gs_uCL, rI_at, rL_at, rR_at, rI_ne, rL_ne, rR_ne, rI_nk, rL_nk, rR_nk, rI_eq, rL_eq, rR_eq, Option.toList_some, Option.toList_none, List.cons_append, List.nil_append, List.append_nil, zc_eq, zc_lt, zc_le, zc_ge, zc_gt]
          all_goals exact st_z
        · rw [show v_z = 1 from by omega] at st_z
          simp (disch := omega) only [B_255_51, cv, B_255_59, inI, inL, isT, kInt, kByt, true_and, and_true, an_t, im_t, im_f, or_true, true_or, true_imp_iff, false_imp_iff, not_true_eq_false, not_false_eq_true, gK_uI, gK_uL, gK_uR, gK_uCI, gK_uCL, gN_uI, gN_uL, gN_uR, gN_uCI, gN_uCL, gR_uI, gR_uL, gR_uCI, gR_uCL, gI_uL, gI_uR, gI_uCL, gL_uI, gL_uR, gL_uCI, gz_uI, gz_uL, gz_uR, gz_uCI, gz_uCL, gs_uI, gs_uL, gs_uR, gs_uCI, gs_uCL, rI_at, rL_at, rR_at, rI_ne, rL_ne, rR_ne, rI_nk, rL_nk, rR_nk, rI_eq, rL_eq, rR_eq, Option.toList_some, Option.toList_none, List.cons_append, List.nil_append, List.append_nil, zc_eq, zc_lt, zc_le, zc_ge, zc_gt]
          all_goals exact st_z
      simp (disch := omega) only [B_255_4, sm_z.u, hw, hh, hN_z, t1_z, t2_z, inI, inL, isT, kInt, kByt, true_and, and_true, an_t, im_t, im_f, or_true, true_or, true_imp_iff, false_imp_iff, not_true_eq_false, not_false_eq_true, gK_uI, gK_uL, gK_uR, gK_uCI, gK_uCL, gN_uI, gN_uL, gN_uR, gN_uCI, gN_uCL, gR_uI, gR_uL, gR_uCI, gR_uCL, gI_uL, gI_uR, gI_uCL, gL_uI, gL_uR, gL_uCI, gz_uI, gz_uL, gz_uR, gz_uCI, gz_uCL, gs_uI, gs_uL, gs_uR, gs_uCI, gs_uCL, rI_at, rL_at, rR_at, rI_ne, rL_ne, rR_ne, rI_nk, rL_nk, rR_nk, rI_eq, rL_eq, rR_eq, Option.toList_some, Option.toList_none, List.cons_append, List.nil_append, List.append_nil, zc_eq, zc_lt, zc_le, zc_ge, zc_gt]
      all_goals exact go_z)
    (fun n_z fin_z => by
      rw [hWH]
      simp (disch := omega) only [B_255_4, sm_z.u, hw, hh, hN_z, B_255_67, inI, inL, isT, kInt, kByt, true_and, and_true, an_t, im_t, im_f, or_true, true_or, true_imp_iff, false_imp_iff, not_true_eq_false, not_false_eq_true, gK_uI, gK_uL, gK_uR, gK_uCI, gK_uCL, gN_uI, gN_uL, gN_uR, gN_uCI, gN_uCL, gR_uI, gR_uL, gR_uCI, gR_uCL, gI_uL, gI_uR, gI_uCL, gL_uI, gL_uR, gL_uCI, gz_uI, gz_uL, gz_uR, gz_uCI, gz_uCL, gs_uI, gs_uL, gs_uR, gs_uCI, gs_uCL, rI_at, rL_at, rR_at, rI_ne, rL_ne, rR_ne, rI_nk, rL_nk, rR_nk, rI_eq, rL_eq, rR_eq, Option.toList_some, Option.toList_none, List.cons_append, List.nil_append, List.append_nil, zc_eq, zc_lt, zc_le, zc_ge, zc_gt]
      all_goals exact fin_z) hQ2
  simp (disch := omega) only [E_M_coveredBy, B_255_0, inI, inL, isT, kInt, kByt, true_and, and_true, an_t, im_t, im_f, or_true, true_or, true_imp_iff, false_imp_iff, not_true_eq_false, not_false_eq_true, gK_uI, gK_uL, gK_uR, gK_uCI, gK_uCL, gN_uI, gN_uL, gN_uR, gN_uCI, gN_uCL, gR_uI, gR_uL, gR_uCI, gR_uCL, gI_uL, gI_uR, gI_uCL, gL_uI, gL_uR, gL_uCI, gz_uI, gz_uL, gz_uR, gz_uCI, gz_uCL, gs_uI, gs_uL, gs_uR, gs_uCI, gs_uCL, rI_at, rL_at, rR_at, rI_ne, rL_ne, rR_ne, rI_nk, rL_nk, rR_nk, rI_eq, rL_eq, rR_eq, Option.toList_some, Option.toList_none, List.cons_append, List.nil_append, List.append_nil, zc_eq, zc_lt, zc_le, zc_ge, zc_gt]
  all_goals exact key_z
theorem X_mShown {i_z : Int} (sm_z : ShM T m) (rs : RsR M T c m) (i0_z : 0 ≤ i_z) (i1_z : i_z < gI M (c + 3) 8) (hw : gI T (m + 1) 1213 = (W : Int)) (hh : gI T (m + 1) 1214 = (H : Int)) (hW : W ≤ 24) (hH : H ≤ 24) (hQ : Q (some (a_i (gsm (fChg M c i_z) W (W * H)))) T) : Call G J_M_shownBy [a_r m, a_i i_z] T Q := by
  have n0_z := rs.2.1.2.1
  have n35 := rs.2.1.1
  have big : W * H ≤ 24 * 24 := Nat.mul_le_mul hW hH
  have hN_z : (W : Int) * (H : Int) = ((W * H : Nat) : Int) := rfl
  generalize hWH : W * H = N_z at *
  have hQ2 : (fun n_z => Q (some (a_i n_z)) T) (gsm (fChg M c i_z) W (W * H)) := by rw [hWH]; exact hQ
  have key_z := grid_M (f_z := fChg M c i_z) (fun x_z y_z => zB_bit _) hW hH (s_z := fun n_z j_z => ∀ u4_z u5 u6 : AV, At G 256 4 [a_r m, a_i i_z, a_i n_z, a_i (j_z : Int), u4_z, u5, u6] [] T Q) (Fin_z := fun n_z => Q (some (a_i n_z)) T)
    (fun n_z j_z g0 g1 hj hx hy st_z u4_z u5 u6 => by
      rw [hWH] at hj
      have t1_z := tmd j_z W
      have t2_z := tdd j_z W
      rw [show ((j_z + 1 : Nat) : Int) = (j_z : Int) + 1 from by omega] at st_z
      generalize j_z % W = x_z at *
      generalize j_z / W = y_z at *
      have go_z : Call G J_M_latest [a_r m, a_i (gI M (c + 3) 8), a_i (x_z : Int), a_i (y_z : Int)] T (fun r_z M2_z => At G 256 61 [a_r m, a_i i_z, a_i n_z, a_i (j_z : Int), a_i (x_z : Int), a_i (y_z : Int), u6] r_z.toList M2_z Q) := by
        refine X_latM (M := M) (c := c) sm_z rs n0_z (Int.le_refl _) (by omega) (by omega) (by omega) (by omega) ?_
        have lb := latC_bd M c (n_z := gI M (c + 3) 8) x_z y_z n0_z
        unfold fChg at st_z
        generalize latC M c (gI M (c + 3) 8) (x_z : Int) (y_z : Int) = v_z at *
        by_cases cv : v_z = i_z
        · have go2 : Call G J_M_latest [a_r m, a_i i_z, a_i (x_z : Int), a_i (y_z : Int)] T (fun r_z M2_z => At G 256 75 [a_r m, a_i i_z, a_i n_z, a_i (j_z : Int), a_i (x_z : Int), a_i (y_z : Int), u6] (r_z.toList ++ [a_r m]) M2_z Q) := by
            refine X_latM (M := M) (c := c) sm_z rs i0_z (by omega) (by omega) (by omega) (by omega) (by omega) ?_
            have lb2 := latC_bd M c (n_z := i_z) x_z y_z i0_z
            generalize latC M c i_z (x_z : Int) (y_z : Int) = u_z at *
            have c1_z := fun qq => X_colM (G := G) (Q := qq) (v_z := u_z) (w_z := if u_z < 0 then -10000009 else u_z) sm_z rs (by omega) (by split <;> omega)
            have c2_z := fun qq => X_colM (G := G) (Q := qq) (v_z := i_z) (w_z := i_z) sm_z rs i1_z (Or.inr rfl)
            generalize (if u_z < 0 then -10000009 else u_z) = u2_z at *
            generalize colI M c u_z = w1_z at *
            generalize colI M c i_z = w2_z at *
            by_cases cw_z : w1_z = w2_z
            · have st2_z := st_z (a_i (x_z : Int)) (a_i (y_z : Int)) (a_i 0)
              rw [zB_f (fun q_z => q_z.2 cw_z)] at st2_z
              simp (disch := omega) only [B_256_75, sm_z.u, c1_z, B_256_78, c2_z, B_256_83, cw_z, B_256_90, B_256_91, B_256_103, B_256_104, inI, inL, isT, kInt, kByt, true_and, and_true, an_t, im_t, im_f, or_true, true_or, true_imp_iff, false_imp_iff, not_true_eq_false, not_false_eq_true, gK_uI, gK_uL, gK_uR, gK_uCI, gK_uCL, gN_uI, gN_uL, gN_uR, gN_uCI, gN_uCL, gR_uI, gR_uL, gR_uCI, gR_uCL, gI_uL, gI_uR, gI_uCL, gL_uI, gL_uR, gL_uCI, gz_uI, gz_uL, gz_uR, gz_uCI, gz_uCL, gs_uI, gs_uL, gs_uR, gs_uCI, gs_uCL, rI_at, rL_at, rR_at, rI_ne, rL_ne, rR_ne, rI_nk, rL_nk, rR_nk, rI_eq, rL_eq, rR_eq, Option.toList_some, Option.toList_none, List.cons_append, List.nil_append, List.append_nil, zc_eq, zc_lt, zc_le, zc_ge, zc_gt]
              all_goals exact st2_z
            · have st2_z := st_z (a_i (x_z : Int)) (a_i (y_z : Int)) (a_i 1)
              rw [zB_t ⟨cv, cw_z⟩] at st2_z
              simp (disch := omega) only [B_256_75, sm_z.u, c1_z, B_256_78, c2_z, B_256_83, cw_z, B_256_91, B_256_104, inI, inL, isT, kInt, kByt, true_and, and_true, an_t, im_t, im_f, or_true, true_or, true_imp_iff, false_imp_iff, not_true_eq_false, not_false_eq_true, gK_uI, gK_uL, gK_uR, gK_uCI, gK_uCL, gN_uI, gN_uL, gN_uR, gN_uCI, gN_uCL, gR_uI, gR_uL, gR_uCI, gR_uCL, gI_uL, gI_uR, gI_uCL, gL_uI, gL_uR, gL_uCI, gz_uI, gz_uL, gz_uR, gz_uCI, gz_uCL, gs_uI, gs_uL, gs_uR, gs_uCI, gs_uCL, rI_at, rL_at, rR_at, rI_ne, rL_ne, rR_ne, rI_nk, rL_nk, rR_nk, rI_eq, rL_eq, rR_eq, Option.toList_some, Option.toList_none, List.cons_append, List.nil_append, List.append_nil, zc_eq, zc_lt, zc_le, zc_ge, zc_gt]
              all_goals exact st2_z
          rw [if_neg (by omega)]
          simp (disch := omega) only [B_256_61, cv, not_true_eq_false, sm_z.u, inI, inL, isT, kInt, kByt, true_and, and_true, an_t, im_t, im_f, or_true, true_or, true_imp_iff, false_imp_iff, not_true_eq_false, not_false_eq_true, gK_uI, gK_uL, gK_uR, gK_uCI, gK_uCL, gN_uI, gN_uL, gN_uR, gN_uCI, gN_uCL, gR_uI, gR_uL, gR_uCI, gR_uCL, gI_uL, gI_uR, gI_uCL, gL_uI, gL_uR, gL_uCI, gz_uI, gz_uL, gz_uR, gz_uCI, gz_uCL, gs_uI, gs_uL, gs_uR, gs_uCI, gs_uCL, rI_at, rL_at, rR_at, rI_ne, rL_ne, rR_ne, rI_nk, rL_nk, rR_nk, rI_eq, rL_eq, rR_eq, Option.toList_some, Option.toList_none, List.cons_append, List.nil_append, List.append_nil, zc_eq, zc_lt, zc_le, zc_ge, zc_gt]
          all_goals exact go2
        · have st2_z := st_z (a_i (x_z : Int)) (a_i (y_z : Int)) (a_i 0)
          rw [zB_f (fun q_z => cv q_z.1)] at st2_z
          have cv2 : ¬ (if v_z < 0 then -10000009 else v_z) = i_z := by split <;> omega
          generalize (if v_z < 0 then -10000009 else v_z) = v2 at *
          simp (disch := omega) only [B_256_61, cv2, not_false_eq_true, B_256_90, B_256_91, B_256_103, B_256_104, inI, inL, isT, kInt, kByt, true_and, and_true, an_t, im_t, im_f, or_true, true_or, true_imp_iff, false_imp_iff, not_true_eq_false, not_false_eq_true, gK_uI, gK_uL, gK_uR, gK_uCI, gK_uCL, gN_uI, gN_uL, gN_uR, gN_uCI, gN_uCL, gR_uI, gR_uL, gR_uCI, gR_uCL, gI_uL, gI_uR, gI_uCL, gL_uI, gL_uR, gL_uCI, gz_uI, gz_uL, gz_uR, gz_uCI, gz_uCL, gs_uI, gs_uL, gs_uR, gs_uCI, gs_uCL, rI_at, rL_at, rR_at, rI_ne, rL_ne, rR_ne, rI_nk, rL_nk, rR_nk, rI_eq, rL_eq, rR_eq, Option.toList_some, Option.toList_none, List.cons_append, List.nil_append, List.append_nil, zc_eq, zc_lt, zc_le, zc_ge, zc_gt]
          all_goals exact st2_z
      rw [n35] at go_z
      simp (disch := omega) only [B_256_4, sm_z.u, hw, hh, hN_z, t1_z, t2_z, inI, inL, isT, kInt, kByt, true_and, and_true, an_t, im_t, im_f, or_true, true_or, true_imp_iff, false_imp_iff, not_true_eq_false, not_false_eq_true, gK_uI, gK_uL, gK_uR, gK_uCI, gK_uCL, gN_uI, gN_uL, gN_uR, gN_uCI, gN_uCL, gR_uI, gR_uL, gR_uCI, gR_uCL, gI_uL, gI_uR, gI_uCL, gL_uI, gL_uR, gL_uCI, gz_uI, gz_uL, gz_uR, gz_uCI, gz_uCL, gs_uI, gs_uL, gs_uR, gs_uCI, gs_uCL, rI_at, rL_at, rR_at, rI_ne, rL_ne, rR_ne, rI_nk, rL_nk, rR_nk, rI_eq, rL_eq, rR_eq, Option.toList_some, Option.toList_none, List.cons_append, List.nil_append, List.append_nil, zc_eq, zc_lt, zc_le, zc_ge, zc_gt]
      all_goals exact go_z)
    (fun n_z fin_z u4_z u5 u6 => by
      rw [hWH]
      simp (disch := omega) only [B_256_4, sm_z.u, hw, hh, hN_z, B_256_112, inI, inL, isT, kInt, kByt, true_and, and_true, an_t, im_t, im_f, or_true, true_or, true_imp_iff, false_imp_iff, not_true_eq_false, not_false_eq_true, gK_uI, gK_uL, gK_uR, gK_uCI, gK_uCL, gN_uI, gN_uL, gN_uR, gN_uCI, gN_uCL, gR_uI, gR_uL, gR_uCI, gR_uCL, gI_uL, gI_uR, gI_uCL, gL_uI, gL_uR, gL_uCI, gz_uI, gz_uL, gz_uR, gz_uCI, gz_uCL, gs_uI, gs_uL, gs_uR, gs_uCI, gs_uCL, rI_at, rL_at, rR_at, rI_ne, rL_ne, rR_ne, rI_nk, rL_nk, rR_nk, rI_eq, rL_eq, rR_eq, Option.toList_some, Option.toList_none, List.cons_append, List.nil_append, List.append_nil, zc_eq, zc_lt, zc_le, zc_ge, zc_gt]
      all_goals exact fin_z) hQ2
  simp (disch := omega) only [E_M_shownBy, B_256_0, inI, inL, isT, kInt, kByt, true_and, and_true, an_t, im_t, im_f, or_true, true_or, true_imp_iff, false_imp_iff, not_true_eq_false, not_false_eq_true, gK_uI, gK_uL, gK_uR, gK_uCI, gK_uCL, gN_uI, gN_uL, gN_uR, gN_uCI, gN_uCL, gR_uI, gR_uL, gR_uCI, gR_uCL, gI_uL, gI_uR, gI_uCL, gL_uI, gL_uR, gL_uCI, gz_uI, gz_uL, gz_uR, gz_uCI, gz_uCL, gs_uI, gs_uL, gs_uR, gs_uCI, gs_uCL, rI_at, rL_at, rR_at, rI_ne, rL_ne, rR_ne, rI_nk, rL_nk, rR_nk, rI_eq, rL_eq, rR_eq, Option.toList_some, Option.toList_none, List.cons_append, List.nil_append, List.append_nil, zc_eq, zc_lt, zc_le, zc_ge, zc_gt]
  all_goals exact key_z a_u a_u a_u
end DH
