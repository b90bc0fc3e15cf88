/-! THE PURE PART, part 18: the model reads a token. Own work. -/
section EI
variable {G : Env0} {Q : Option AV → Mem → Prop} {T : Mem} {m : Nat} {t : Int → Int} {L : Int}
theorem rnE_skip {f_z : Int → Int} {L x_z : Int} (x1_z : x_z < L) (h_z : f_z x_z ≠ 0) : rnE f_z (L - x_z).toNat x_z = rnE f_z (L - (x_z + 1)).toNat (x_z + 1) := by
  rw [show (L - x_z).toNat = (L - (x_z + 1)).toNat + 1 from by omega]
  show (if f_z x_z = 0 then x_z else rnE f_z (L - (x_z + 1)).toNat (x_z + 1)) = _
  rw [if_neg h_z]
theorem X_isRead59 {x_z : Int} (h_z : RdM T m t L) (h5 : gI T m 5 = x_z) (h6 : gI T m 6 = x_z) (x0_z : 0 ≤ x_z) (x1_z : x_z < L) (ht : ∀ i_z, 0 ≤ i_z → i_z < L → 1 ≤ t i_z ∧ t i_z ≤ 255) (hT_z : ∀ T', Fq m T T' → gI T' m 5 = x_z → gI T' m 6 = tkE t L x_z → gI T' m 7 = tkC t L x_z → Q (some (a_i 1)) T') : At G 173 59 [a_r m, a_u, a_u] [] T Q := by
  have ht0 : ∀ i_z, 0 ≤ i_z → i_z < L → 0 ≤ t i_z ∧ t i_z ≤ 255 := fun i_z i0_z i1_z => by have := ht i_z i0_z i1_z; omega
  have fin_z : ∀ (T' : Mem) (u1_z u2_z : AV), Fq m T T' → gI T' m 5 = x_z → gI T' m 6 = tkE t L x_z → gI T' m 7 = tkC t L x_z → At G 173 306 [a_r m, u1_z, u2_z] [] T' Q := by
    intro T' u1_z u2_z f_z a5 a6 a7
    rw [B_173_306]
    exact ⟨Or.inr rfl, hT_z T' f_z a5 a6 a7⟩
  have nm := fun qq => X_numM (G := G) (Q := qq) (x_z := x_z) h_z x0_z
  have lt := fun qq => X_letM (G := G) (Q := qq) (x_z := x_z) h_z x0_z
  obtain ⟨sm_z, h4, l0, l1, hS_z⟩ := id h_z
  have tx := hS_z x_z x0_z x1_z
  have sx : sg t L x_z = t x_z := sg_in ⟨x0_z, x1_z⟩
  have eb := tkE_bd (t := t) x0_z x1_z
  by_cases c1_z : nmI t L x_z = 0
  · rw [c1_z] at nm
    by_cases c2_z : ltI t L x_z = 0
    · rw [c2_z] at lt
      by_cases c3_z : t x_z = 36 ∧ x_z + 1 < L
      · obtain ⟨c3_z, c3'⟩ := c3_z
        have tx1 := hS_z (x_z + 1) (by omega) c3'
        have tb_z := ht (x_z + 1) (by omega) c3'
        have sx1 : sg t L (x_z + 1) = t (x_z + 1) := sg_in ⟨by omega, c3'⟩
        have ee : tkE t L x_z = x_z + 2 := by
          unfold tkE
          rw [if_pos (by rw [sx]; exact c3_z), if_pos c3']
        have nin := fun qq => Y_in (G := G) (M := T) (Q := qq) (x_z := t (x_z + 1)) (y_z := 65) (w_z := 72)
        by_cases c4_z : 65 ≤ t (x_z + 1) ∧ t (x_z + 1) ≤ 72
        · have ec : tkC t L x_z = 100 + t (x_z + 1) - 65 := by
            unfold tkC
            rw [if_pos (by rw [sx]; exact c3_z), sx1, if_pos ⟨c3', c4_z⟩]
          rw [zB_t c4_z] at nin
          have go_z := fin_z (uI (uI T m 7 (100 + t (x_z + 1) - 65)) m 6 (x_z + 2)) a_u a_u (((Fq.refl _ _).uI 7 _ (by omega)).uI 6 _ (by omega)) (by rw [rI_nk (by decide), rI_nk (by decide)]; exact h5) (by rw [rI_at]; exact ee.symm) (by rw [rI_nk (by decide), rI_at]; exact ec.symm)
          clear fin_z hT_z
          generalize t (x_z + 1) = w_z at *
          simp (disch := omega) only [B_173_59, sm_z.u, h6, nm, B_173_67, B_173_105, lt, B_173_113, B_173_205, tx, c3_z, not_true_eq_false, h4, tx1, nin, B_173_251, B_173_275, B_173_288, inI, inL, isT, kInt, kByt, true_and, and_true, an_t, im_t, im_f, or_true, true_or, true_imp_iff, false_imp_iff, not_true_eq_false, not_false_eq_true, gK_uI, gK_uL, gK_uR, gK_uCI, gK_uCL, gN_uI, gN_uL, gN_uR, gN_uCI, gN_uCL, gR_uI, gR_uL, gR_uCI, gR_uCL, gI_uL, gI_uR, gI_uCL, gL_uI, gL_uR, gL_uCI, gz_uI, gz_uL, gz_uR, gz_uCI, gz_uCL, gs_uI, gs_uL, gs_uR, gs_uCI, gs_uCL, rI_at, rL_at, rR_at, rI_ne, rL_ne, rR_ne, rI_nk, rL_nk, rR_nk, rI_eq, rL_eq, rR_eq, Option.toList_some, Option.toList_none, List.cons_append, List.nil_append, List.append_nil, zc_eq, zc_lt, zc_le, zc_ge, zc_gt]
          all_goals exact go_z
        · have ec : tkC t L x_z = -1 := by
            unfold tkC
            rw [if_pos (by rw [sx]; exact c3_z), sx1, if_neg (fun q_z => c4_z q_z.2)]
          rw [zB_f c4_z] at nin
          have go_z := fin_z (uI (uI T m 7 (-1)) m 6 (x_z + 2)) a_u a_u (((Fq.refl _ _).uI 7 _ (by omega)).uI 6 _ (by omega)) (by rw [rI_nk (by decide), rI_nk (by decide)]; exact h5) (by rw [rI_at]; exact ee.symm) (by rw [rI_nk (by decide), rI_at]; exact ec.symm)
          clear fin_z hT_z
          generalize t (x_z + 1) = w_z at *
          simp (disch := omega) only [B_173_59, sm_z.u, h6, nm, B_173_67, B_173_105, lt, B_173_113, B_173_205, tx, c3_z, not_true_eq_false, h4, tx1, nin, B_173_251, B_173_274, B_173_275, B_173_288, inI, inL, isT, kInt, kByt, true_and, and_true, an_t, im_t, im_f, or_true, true_or, true_imp_iff, false_imp_iff, not_true_eq_false, not_false_eq_true, gK_uI, gK_uL, gK_uR, gK_uCI, gK_uCL, gN_uI, gN_uL, gN_uR, gN_uCI, gN_uCL, gR_uI, gR_uL, gR_uCI, gR_uCL, gI_uL, gI_uR, gI_uCL, gL_uI, gL_uR, gL_uCI, gz_uI, gz_uL, gz_uR, gz_uCI, gz_uCL, gs_uI, gs_uL, gs_uR, gs_uCI, gs_uCL, rI_at, rL_at, rR_at, rI_ne, rL_ne, rR_ne, rI_nk, rL_nk, rR_nk, rI_eq, rL_eq, rR_eq, Option.toList_some, Option.toList_none, List.cons_append, List.nil_append, List.append_nil, zc_eq, zc_lt, zc_le, zc_ge, zc_gt]
          all_goals exact go_z
      · have ee : tkE t L x_z = x_z + 1 := by
          unfold tkE
          rw [sx]
          by_cases c4_z : t x_z = 36
          · rw [if_pos c4_z, if_neg (fun q_z => c3_z ⟨c4_z, q_z⟩)]
            omega
          · rw [if_neg c4_z, if_neg (fun q_z => q_z c1_z), if_neg (fun q_z => q_z c2_z)]
        have ec : tkC t L x_z = -1 := by
          unfold tkC
          rw [sx]
          by_cases c4_z : t x_z = 36
          · rw [if_pos c4_z, if_neg (fun q_z => c3_z ⟨c4_z, q_z.1⟩)]
          · rw [if_neg c4_z, if_neg (fun q_z => q_z c1_z), if_neg (fun q_z => q_z c2_z)]
        have go_z := fin_z (uI (uI T m 7 (-1)) m 6 (x_z + 1)) a_u a_u (((Fq.refl _ _).uI 7 _ (by omega)).uI 6 _ (by omega)) (by rw [rI_nk (by decide), rI_nk (by decide)]; exact h5) (by rw [rI_at]; exact ee.symm) (by rw [rI_nk (by decide), rI_at]; exact ec.symm)
        clear fin_z hT_z
        by_cases c4_z : t x_z = 36
        · simp (disch := omega) only [B_173_59, sm_z.u, h6, nm, B_173_67, B_173_105, lt, B_173_113, B_173_205, tx, c4_z, not_true_eq_false, h4, B_173_291, inI, inL, isT, kInt, kByt, true_and, and_true, an_t, im_t, im_f, or_true, true_or, true_imp_iff, false_imp_iff, not_true_eq_false, not_false_eq_true, gK_uI, gK_uL, gK_uR, gK_uCI, gK_uCL, gN_uI, gN_uL, gN_uR, gN_uCI, gN_uCL, gR_uI, gR_uL, gR_uCI, gR_uCL, gI_uL, gI_uR, gI_uCL, gL_uI, gL_uR, gL_uCI, gz_uI, gz_uL, gz_uR, gz_uCI, gz_uCL, gs_uI, gs_uL, gs_uR, gs_uCI, gs_uCL, rI_at, rL_at, rR_at, rI_ne, rL_ne, rR_ne, rI_nk, rL_nk, rR_nk, rI_eq, rL_eq, rR_eq, Option.toList_some, Option.toList_none, List.cons_append, List.nil_append, List.append_nil, zc_eq, zc_lt, zc_le, zc_ge, zc_gt]
          all_goals exact go_z
        · simp (disch := omega) only [B_173_59, sm_z.u, h6, nm, B_173_67, B_173_105, lt, B_173_113, B_173_205, tx, c4_z, not_false_eq_true, h4, B_173_291, inI, inL, isT, kInt, kByt, true_and, and_true, an_t, im_t, im_f, or_true, true_or, true_imp_iff, false_imp_iff, not_true_eq_false, not_false_eq_true, gK_uI, gK_uL, gK_uR, gK_uCI, gK_uCL, gN_uI, gN_uL, gN_uR, gN_uCI, gN_uCL, gR_uI, gR_uL, gR_uCI, gR_uCL, gI_uL, gI_uR, gI_uCL, gL_uI, gL_uR, gL_uCI, gz_uI, gz_uL, gz_uR, gz_uCI, gz_uCL, gs_uI, gs_uL, gs_uR, gs_uCI, gs_uCL, rI_at, rL_at, rR_at, rI_ne, rL_ne, rR_ne, rI_nk, rL_nk, rR_nk, rI_eq, rL_eq, rR_eq, Option.toList_some, Option.toList_none, List.cons_append, List.nil_append, List.append_nil, zc_eq, zc_lt, zc_le, zc_ge, zc_gt]
          all_goals exact go_z
    · -- letters
      have s36 : ¬ sg t L x_z = 36 := fun q_z => c2_z (by unfold ltI; rw [q_z]; exact zB_f (by decide))
      have ee : tkE t L x_z = rnE (ltI t L) (L - x_z).toNat x_z := by
        rw [rnE_skip x1_z c2_z]
        unfold tkE
        rw [if_neg s36, if_neg (fun q_z => q_z c1_z), if_pos c2_z]
        rfl
      have ec := (tkC_op s36 c1_z).1
      have w0_z : wdV t x_z 0 = 0 := rfl
      have go_z := leM (G := G) (Q := Q) (x_z := x_z) x0_z ht0 (L - x_z).toNat T 0 a_u h_z (by omega) h5 (by rw [h6]; omega) (fun T' k_z u' f_z e1_z e6_z e5_z => by
        rw [show x_z + ((0 : Nat) : Int) = x_z from by omega, ← ee] at e1_z
        have smT := (h_z.fq f_z).1
        have l1' : gI T' m 4 = L := (h_z.fq f_z).2.1
        by_cases c7_z : k_z ≤ 7
        · have ev_z : wdV t x_z k_z = wdL t x_z k_z := if_pos c7_z
          have ev2 : fdV (wdV t x_z k_z) 0 23 = tkC t L x_z := by
            rw [ev_z, fdV_eq (fun j_z hj => ht _ (by omega) (by omega)) 23 0 (by decide), ec, ← e1_z]
            congr 1
            omega
          have go_z := fin_z (uI T' m 7 (tkC t L x_z)) (a_l (wdV t x_z k_z)) u' (f_z.uI 7 _ (by omega)) (by rw [rI_nk (by decide)]; exact e5_z) (by rw [rI_nk (by decide), e6_z]; exact e1_z) rI_at
          clear fin_z hT_z
          have op_z : Call G J_M_operatorOf [a_l (wdV t x_z k_z)] T' (fun r_z M2_z => At G 173 195 [a_r m, a_l (wdV t x_z k_z), u'] (r_z.toList ++ [a_r m]) M2_z Q) := by
            refine X_operatorOf ?_
            rw [ev2]
            generalize wdV t x_z k_z = w_z at *
            simp (disch := omega) only [B_173_195, B_173_199, smT.u, inI, inL, isT, kInt, kByt, true_and, and_true, an_t, im_t, im_f, or_true, true_or, true_imp_iff, false_imp_iff, not_true_eq_false, not_false_eq_true, gK_uI, gK_uL, gK_uR, gK_uCI, gK_uCL, gN_uI, gN_uL, gN_uR, gN_uCI, gN_uCL, gR_uI, gR_uL, gR_uCI, gR_uCL, gI_uL, gI_uR, gI_uCL, gL_uI, gL_uR, gL_uCI, gz_uI, gz_uL, gz_uR, gz_uCI, gz_uCL, gs_uI, gs_uL, gs_uR, gs_uCI, gs_uCL, rI_at, rL_at, rR_at, rI_ne, rL_ne, rR_ne, rI_nk, rL_nk, rR_nk, rI_eq, rL_eq, rR_eq, Option.toList_some, Option.toList_none, List.cons_append, List.nil_append, List.append_nil, zc_eq, zc_lt, zc_le, zc_ge, zc_gt]
            all_goals exact go_z
          generalize wdV t x_z k_z = w_z at *
          simp (disch := omega) only [B_173_176, smT.u, e5_z, e6_z, inI, inL, isT, kInt, kByt, true_and, and_true, an_t, im_t, im_f, or_true, true_or, true_imp_iff, false_imp_iff, not_true_eq_false, not_false_eq_true, gK_uI, gK_uL, gK_uR, gK_uCI, gK_uCL, gN_uI, gN_uL, gN_uR, gN_uCI, gN_uCL, gR_uI, gR_uL, gR_uCI, gR_uCL, gI_uL, gI_uR, gI_uCL, gL_uI, gL_uR, gL_uCI, gz_uI, gz_uL, gz_uR, gz_uCI, gz_uCL, gs_uI, gs_uL, gs_uR, gs_uCI, gs_uCL, rI_at, rL_at, rR_at, rI_ne, rL_ne, rR_ne, rI_nk, rL_nk, rR_nk, rI_eq, rL_eq, rR_eq, Option.toList_some, Option.toList_none, List.cons_append, List.nil_append, List.append_nil, zc_eq, zc_lt, zc_le, zc_ge, zc_gt]
          all_goals exact op_z
        · have ev2 : tkC t L x_z = -1 := by
            rw [ec]
            exact fdO_long (by omega) 23 0 (by decide)
          have go_z := fin_z (uI T' m 7 (-1)) (a_l (wdV t x_z k_z)) u' (f_z.uI 7 _ (by omega)) (by rw [rI_nk (by decide)]; exact e5_z) (by rw [rI_nk (by decide), e6_z]; exact e1_z) (by rw [rI_at, ev2])
          clear fin_z hT_z
          generalize wdV t x_z k_z = w_z at *
          simp (disch := omega) only [B_173_176, smT.u, e5_z, e6_z, B_173_198, B_173_199, inI, inL, isT, kInt, kByt, true_and, and_true, an_t, im_t, im_f, or_true, true_or, true_imp_iff, false_imp_iff, not_true_eq_false, not_false_eq_true, gK_uI, gK_uL, gK_uR, gK_uCI, gK_uCL, gN_uI, gN_uL, gN_uR, gN_uCI, gN_uCL, gR_uI, gR_uL, gR_uCI, gR_uCL, gI_uL, gI_uR, gI_uCL, gL_uI, gL_uR, gL_uCI, gz_uI, gz_uL, gz_uR, gz_uCI, gz_uCL, gs_uI, gs_uL, gs_uR, gs_uCI, gs_uCL, rI_at, rL_at, rR_at, rI_ne, rL_ne, rR_ne, rI_nk, rL_nk, rR_nk, rI_eq, rL_eq, rR_eq, Option.toList_some, Option.toList_none, List.cons_append, List.nil_append, List.append_nil, zc_eq, zc_lt, zc_le, zc_ge, zc_gt]
          all_goals exact go_z)
      rw [w0_z] at go_z
      clear fin_z hT_z
      generalize ltI t L x_z = v_z at *
      simp (disch := omega) only [B_173_59, sm_z.u, h6, nm, B_173_67, B_173_105, lt, B_173_113, c2_z, inI, inL, isT, kInt, kByt, true_and, and_true, an_t, im_t, im_f, or_true, true_or, true_imp_iff, false_imp_iff, not_true_eq_false, not_false_eq_true, gK_uI, gK_uL, gK_uR, gK_uCI, gK_uCL, gN_uI, gN_uL, gN_uR, gN_uCI, gN_uCL, gR_uI, gR_uL, gR_uCI, gR_uCL, gI_uL, gI_uR, gI_uCL, gL_uI, gL_uR, gL_uCI, gz_uI, gz_uL, gz_uR, gz_uCI, gz_uCL, gs_uI, gs_uL, gs_uR, gs_uCI, gs_uCL, rI_at, rL_at, rR_at, rI_ne, rL_ne, rR_ne, rI_nk, rL_nk, rR_nk, rI_eq, rL_eq, rR_eq, Option.toList_some, Option.toList_none, List.cons_append, List.nil_append, List.append_nil, zc_eq, zc_lt, zc_le, zc_ge, zc_gt]
      all_goals exact go_z
  · -- a number
    have s36 : ¬ sg t L x_z = 36 := fun q_z => c1_z (by unfold nmI; rw [q_z]; exact zB_f (by decide))
    have ee : tkE t L x_z = rnE (nmI t L) (L - x_z).toNat x_z := by
      rw [rnE_skip x1_z c1_z]
      unfold tkE
      rw [if_neg s36, if_pos c1_z]
      rfl
    have ec : tkC t L x_z = if nuD t L x_z (tkE t L x_z) = 0 then -1 else cdN (nuN t L x_z (tkE t L x_z)) (nuD t L x_z (tkE t L x_z)) := by
      unfold tkC
      rw [if_neg s36, if_pos c1_z]
    have go_z := nuM (G := G) (Q := Q) (L - x_z).toNat T x_z h_z (by omega) x0_z h6 (fun T' f_z e6_z e5_z => by
      rw [← ee] at e6_z
      rw [h5] at e5_z
      have smT := (h_z.fq f_z).1
      have go_z := fin_z (uI T' m 7 (tkC t L x_z)) a_u a_u (f_z.uI 7 _ (by omega)) (by rw [rI_nk (by decide)]; exact e5_z) (by rw [rI_nk (by decide), e6_z]) rI_at
      have g2 : Call G J_M_numberCode [a_r m] T' (fun r_z M2_z => At G 173 99 [a_r m, a_u, a_u] (r_z.toList ++ [a_r m]) M2_z Q) := by
        refine X_numCode (h_z.fq f_z) e5_z e6_z x0_z eb.1 eb.2 ht0 ?_
        rw [← ec]
        generalize tkC t L x_z = w_z at *
        simp (disch := omega) only [B_173_99, smT.u, inI, inL, isT, kInt, kByt, true_and, and_true, an_t, im_t, im_f, or_true, true_or, true_imp_iff, false_imp_iff, not_true_eq_false, not_false_eq_true, gK_uI, gK_uL, gK_uR, gK_uCI, gK_uCL, gN_uI, gN_uL, gN_uR, gN_uCI, gN_uCL, gR_uI, gR_uL, gR_uCI, gR_uCL, gI_uL, gI_uR, gI_uCL, gL_uI, gL_uR, gL_uCI, gz_uI, gz_uL, gz_uR, gz_uCI, gz_uCL, gs_uI, gs_uL, gs_uR, gs_uCI, gs_uCL, rI_at, rL_at, rR_at, rI_ne, rL_ne, rR_ne, rI_nk, rL_nk, rR_nk, rI_eq, rL_eq, rR_eq, Option.toList_some, Option.toList_none, List.cons_append, List.nil_append, List.append_nil, zc_eq, zc_lt, zc_le, zc_ge, zc_gt]
        all_goals exact go_z
      rw [B_173_94]
      exact ⟨smT.u.1, g2⟩)
    clear fin_z hT_z
    generalize nmI t L x_z = v_z at *
    simp (disch := omega) only [B_173_59, sm_z.u, h6, nm, B_173_67, c1_z, inI, inL, isT, kInt, kByt, true_and, and_true, an_t, im_t, im_f, or_true, true_or, true_imp_iff, false_imp_iff, not_true_eq_false, not_false_eq_true, gK_uI, gK_uL, gK_uR, gK_uCI, gK_uCL, gN_uI, gN_uL, gN_uR, gN_uCI, gN_uCL, gR_uI, gR_uL, gR_uCI, gR_uCL, gI_uL, gI_uR, gI_uCL, gL_uI, gL_uR, gL_uCI, gz_uI, gz_uL, gz_uR, gz_uCI, gz_uCL, gs_uI, gs_uL, gs_uR, gs_uCI, gs_uCL, rI_at, rL_at, rR_at, rI_ne, rL_ne, rR_ne, rI_nk, rL_nk, rR_nk, rI_eq, rL_eq, rR_eq, Option.toList_some, Option.toList_none, List.cons_append, List.nil_append, List.append_nil, zc_eq, zc_lt, zc_le, zc_ge, zc_gt]
    all_goals exact go_z
theorem X_isRead {x_z y_z : Int} (h_z : RdM T m t L) (h6 : gI T m 6 = y_z) (y0 : 0 ≤ y_z) (y1 : y_z ≤ L) (hx : skE t L y_z = x_z) (ht : ∀ i_z, 0 ≤ i_z → i_z < L → 1 ≤ t i_z ∧ t i_z ≤ 255) (hE : L ≤ x_z → ∀ T', Fq m T T' → Q (some (a_i 0)) T') (hT_z : x_z < L → ∀ T', Fq m T T' → gI T' m 5 = x_z → gI T' m 6 = tkE t L x_z → gI T' m 7 = tkC t L x_z → Q (some (a_i 1)) T') : Call G J_M_isRead [a_r m] T Q := by
  have xb := skE_bd (t_z := t) y1
  rw [hx] at xb
  rw [E_M_isRead]
  refine skM (L - y_z).toNat T y_z h_z (by omega) y0 h6 (fun T1 f1_z h61 => ?_)
  have e61 : gI T1 m 6 = x_z := h61.trans hx
  obtain ⟨sm_z, h4, l0, l1, hS_z⟩ := h_z.fq f1_z
  have f2_z : Fq m T (uI T1 m 5 x_z) := f1_z.uI 5 x_z (by omega)
  by_cases cE : L ≤ x_z
  · have go_z := hE cE (uI T1 m 5 x_z) f2_z
    have exL : x_z = L := by omega
    simp (disch := omega) only [B_173_38, sm_z.u, e61, h4, exL, not_true_eq_false, inI, inL, isT, kInt, kByt, true_and, and_true, an_t, im_t, im_f, or_true, true_or, true_imp_iff, false_imp_iff, not_true_eq_false, not_false_eq_true, gK_uI, gK_uL, gK_uR, gK_uCI, gK_uCL, gN_uI, gN_uL, gN_uR, gN_uCI, gN_uCL, gR_uI, gR_uL, gR_uCI, gR_uCL, gI_uL, gI_uR, gI_uCL, gL_uI, gL_uR, gL_uCI, gz_uI, gz_uL, gz_uR, gz_uCI, gz_uCL, gs_uI, gs_uL, gs_uR, gs_uCI, gs_uCL, rI_at, rL_at, rR_at, rI_ne, rL_ne, rR_ne, rI_nk, rL_nk, rR_nk, rI_eq, rL_eq, rR_eq, Option.toList_some, Option.toList_none, List.cons_append, List.nil_append, List.append_nil, zc_eq, zc_lt, zc_le, zc_ge, zc_gt]
    rw [exL] at go_z
    all_goals exact go_z
  · have go_z := X_isRead59 (G := G) (Q := Q) (x_z := x_z) (h_z.fq f2_z) rI_at (by rw [rI_nk (by decide)]; exact e61) (by omega) (by omega) ht (fun T' f3_z => hT_z (by omega) T' (f2_z.trans f3_z))
    have nex : ¬ x_z = L := by omega
    simp (disch := omega) only [B_173_38, sm_z.u, e61, h4, nex, not_false_eq_true, inI, inL, isT, kInt, kByt, true_and, and_true, an_t, im_t, im_f, or_true, true_or, true_imp_iff, false_imp_iff, not_true_eq_false, not_false_eq_true, gK_uI, gK_uL, gK_uR, gK_uCI, gK_uCL, gN_uI, gN_uL, gN_uR, gN_uCI, gN_uCL, gR_uI, gR_uL, gR_uCI, gR_uCL, gI_uL, gI_uR, gI_uCL, gL_uI, gL_uR, gL_uCI, gz_uI, gz_uL, gz_uR, gz_uCI, gz_uCL, gs_uI, gs_uL, gs_uR, gs_uCI, gs_uCL, rI_at, rL_at, rR_at, rI_ne, rL_ne, rR_ne, rI_nk, rL_nk, rR_nk, rI_eq, rL_eq, rR_eq, Option.toList_some, Option.toList_none, List.cons_append, List.nil_append, List.append_nil, zc_eq, zc_lt, zc_le, zc_ge, zc_gt]
    all_goals exact go_z
end EI
